set_option maxHeartbeats 4000000 in
set_option maxRecDepth 100000 in
theorem c_L_area (l : Launch) (hl0 : l.stackTraces = false) (G : bG) (sz : Nat) (H0 tA tJ gO dO bO sO qs qr jd snt td : Nat) (oA nA : Nat) (fA : Nat → Int32) (x : Int32) (ot : Nat) (og : Nat → Int64) (hnA : nA ≤ 14) : Met l yL_area wsL_area ({ frames := 8, cells := 2, slots := 12, locals := 132 }) (va_Pc [.ref H0, .int x, .ref ot] (bPre G vwCl bNW bSW sz [(H0, .inr (5, [.ref tA, .ref tJ, .ref gO, .ref dO, .ref bO, .ref sO, .ref qs, .ref qr, .int (nI jd), .int (nI snt), .int (nI td)])), (tA, .inr (4, [.ref oA, .int (nI 10), .int (nI nA)])), (oA, .inl (G.2.1, 14, .inl fA)), (ot, .inl (G.2.2.2, 1, .inr (.inl og)))] [tA, oA, ot])) (va_Qi (fun (r : Int32) (_ : Unit) => r = nI (th2 (tPat nA x) (decide (nA < 14)))) (fun (_ : Unit) (tS : State) => va_P G.1 vwCl [(tA, .inr (4, [.ref oA, .int (nI 10), .int (nI (gN (th2 (tPat nA x) (decide (nA < 14))) nA (nA + 1)))])), (oA, .inl (G.2.1, 14, .inl (gF (th2 (tPat nA x) (decide (nA < 14))) fA (upd fA nA x)))), (ot, .inl (G.2.2.2, 1, .inr (.inl (gF (th2 (tPat nA x) (decide (nA < 14))) og (vp_updL og 0 ((nI nA).toInt64))))))] tS.heap) (Aw [tA, oA, ot] sz)) 2 12 (Aw [tA, oA, ot] sz) := by
  refine va_MetW (cc := cL_area) (maxL := 4) (ret := (some .int)) (by decide) rfl ?_
  intro p e s m args below meth c s₁ B hml hv
  obtain ⟨rfl, hsz, hP, hD, E, Z⟩ := hv
  have hts := atoms_spec (ws := wsL_area) B.pre
  have hown : s.vm.findClass RL = some m.cls := findClass_of_methodNamed B.named
  have X : CallFix p m c cL_area 4 s _ wsL_area RL := ⟨B.exec, B.bytes, hml, hown, hts⟩
  have hx := B.exec
  have hb := B.bytes
  have hr := B.returns
  have hlocks := B.notSynchronized
  have htab : c.exceptionTable.toList = tableOf [(0, 9, 12, 13), (0, 9, 15, 15)] := vx_table (x := yL_area) B (hts _ List.mem_cons_self)
  subst hsz
  have w : bSt G vwCl [] s [(H0, .inr (5, [.ref tA, .ref tJ, .ref gO, .ref dO, .ref bO, .ref sO, .ref qs, .ref qr, .int (nI jd), .int (nI snt), .int (nI td)])), (tA, .inr (4, [.ref oA, .int (nI 10), .int (nI nA)])), (oA, .inl (G.2.1, 14, .inl fA)), (ot, .inl (G.2.2.2, 1, .inr (.inl og)))] s.heap [] := ⟨hP, va_S.rf, hD⟩
  have Z0 : bZ [] s := ⟨Z.1.narrow (fun q h => h.elim (fun h => nomatch h) Or.inr), Z.2.narrow (fun q h => h.elim (fun h => nomatch h) Or.inr)⟩
  have hl := lv_entry ([.ref H0, .int x, .ref ot]) (n := 4) (Nat.le_of_ble_eq_true rfl)
  rw [lg_entry_eq]
  generalize (lg_sl ([.ref H0, .int x, .ref ot]) ++ List.replicate (4 - (lg_sl ([.ref H0, .int x, .ref ot])).length) Slot.unset).toArray = ls at hl ⊢
  have hl : lv_has ls 4 [(0, .ref H0), (1, .int x), (2, .ref ot)] := hl
  refine lv_aload_n hx hb dL_area_0 rfl (lv_at hl 2 rfl) ?_
  refine lv_iconst (v := nI 0) hx hb dL_area_1 (by decide) ?_
  refine lv_aload_n hx hb dL_area_2 rfl (lv_at hl 0 rfl) ?_
  refine lv_iload_n hx hb dL_area_3 rfl (lv_at hl 1 rfl) ?_
  have w := b_wide [tA, oA, ot] b_nil w
  refine b_xcalli w (vx_runV (As := [.int x]) (rest := [.int (nI 0), .ref ot]) X (c_X5_area l hl0 G _ (td := td) (H0 := H0) (x := x) (tA := tA) (tJ := tJ) (gO := gO) (dO := dO) (bO := bO) (sO := sO) (qs := qs) (qr := qr) (jd := jd) (snt := snt) (oA := oA) (nA := nA) (fA := fA) (hnA := (by first | assumption | omega))) (cwV 1 hts gL_area_X5_area rfl rfl rfl (by decide +kernel) ⟨Nat.le_of_ble_eq_true rfl, Nat.le_of_ble_eq_true rfl⟩) ⟨b_blind, b_recv E w (ci := 5) (q0 := 0) rfl rfl, (fun U9 hU9 hW9 => ⟨rfl, b_pre E Z w [0, 1, 2] (by decide) rfl (b_subA [0, 1] rfl) U9 hU9 hW9⟩)⟩ rfl rfl hl.1 rfl (lv_room (Nat.le_of_ble_eq_true rfl)) dL_area_4 ⟨Nat.le_of_ble_eq_true rfl, Nat.le_of_ble_eq_true rfl⟩) (b_subA [0, 1] rfl) [1, 2] (fun _ => rfl) rfl (fun E9 ce9 q9 H9 locs9 hex w9 hce hcv hcl => ?_) (fun r4_2 u4_2 H locs hr4_2 w => ?_)
  · rcases hex with ⟨rfl, hx9⟩ | ⟨rfl, hx9⟩
    · have hT : th2 (tPat nA x) (decide (nA < 14)) = 1 := by first | (simp [th1, th2, th3, hx9]; done) | (simp [th1, th2, th3, hx9]; omega) | (unfold th2; rw [hx9.1, hx9.2]; rfl) | (unfold th2; rw [hx9]; rfl) | (unfold th2; rw [hx9.1, if_pos rfl, if_neg (by simpa using hx9.2)])
      refine vx_catch (name := "java/lang/IndexOutOfBoundsException") hown [] ⟨0, 9, 12, 13⟩ [⟨0, 9, 15, 15⟩] htab b_pn (by decide) (by decide) (hts (.classLink RL 13 "java/lang/IndexOutOfBoundsException") (by decide +kernel)) (va_Nw.use rfl (E.2.1 (.castable "java/lang/IndexOutOfBoundsException" "java/lang/IndexOutOfBoundsException") (by decide +kernel)).2) hce hcv hcl ?_
      have w := w9
      refine lv_astore_n (lv' := [(3, .ref q9), (0, .ref H0), (1, .int x), (2, .ref ot)]) hx hb dL_area_12 rfl hl (by decide) rfl (fun ls hl => ?_)
      refine lv_iconst (v := nI 1) hx hb dL_area_13 (by decide) ?_
      exact W.iret (v := nI 1) hx hb hr (fun t9 ht9 hW9 => ⟨⟨nI 1, (), rfl, by rw [hT], by show va_P G.1 vwCl _ t9.heap; rw [ht9]; exact b_cg (by rw [hT]; rfl) (w.1.sub (ws' := [(tA, .inr (4, [.ref oA, .int (nI 10), .int (nI nA)])), (oA, .inl (G.2.1, 14, .inl fA)), (ot, .inl (G.2.2.2, 1, .inr (.inl og)))]) [1, 2, 3] rfl)⟩, w.2.1.F ht9⟩) w.2.1.2.2 dL_area_14
    · have hT : th2 (tPat nA x) (decide (nA < 14)) = 2 := by first | (simp [th1, th2, th3, hx9]; done) | (simp [th1, th2, th3, hx9]; omega) | (unfold th2; rw [hx9.1, hx9.2]; rfl) | (unfold th2; rw [hx9]; rfl) | (unfold th2; rw [hx9.1, if_pos rfl, if_neg (by simpa using hx9.2)])
      refine vx_catch (name := "java/lang/IllegalStateException") hown [⟨0, 9, 12, 13⟩] ⟨0, 9, 15, 15⟩ [] htab (b_pc (Or.inr ⟨by decide, "java/lang/IndexOutOfBoundsException", hts (.classLink RL 13 "java/lang/IndexOutOfBoundsException") (by decide +kernel), va_Nc.of (args := #[]) (E.2.1 (.not (.castable "java/lang/IllegalStateException" "java/lang/IndexOutOfBoundsException")) (by decide +kernel)).2⟩) b_pn) (by decide) (by decide) (hts (.classLink RL 15 "java/lang/IllegalStateException") (by decide +kernel)) (va_Nw.use rfl (E.2.1 (.castable "java/lang/IllegalStateException" "java/lang/IllegalStateException") (by decide +kernel)).2) hce hcv hcl ?_
      have w := w9
      refine lv_astore_n (lv' := [(3, .ref q9), (0, .ref H0), (1, .int x), (2, .ref ot)]) hx hb dL_area_15 rfl hl (by decide) rfl (fun ls hl => ?_)
      refine lv_iconst (v := nI 2) hx hb dL_area_16 (by decide) ?_
      exact W.iret (v := nI 2) hx hb hr (fun t9 ht9 hW9 => ⟨⟨nI 2, (), rfl, by rw [hT], by show va_P G.1 vwCl _ t9.heap; rw [ht9]; exact b_cg (by rw [hT]; rfl) (w.1.sub (ws' := [(tA, .inr (4, [.ref oA, .int (nI 10), .int (nI nA)])), (oA, .inl (G.2.1, 14, .inl fA)), (ot, .inl (G.2.2.2, 1, .inr (.inl og)))]) [1, 2, 3] rfl)⟩, w.2.1.F ht9⟩) w.2.1.2.2 dL_area_17
  have w : bSt G vwCl [tA, oA, ot] s [(H0, .inr (5, [.ref tA, .ref tJ, .ref gO, .ref dO, .ref bO, .ref sO, .ref qs, .ref qr, .int (nI jd), .int (nI snt), .int (nI td)])), (tA, .inr (4, [.ref oA, .int (nI 10), .int (nI (nA + 1))])), (oA, .inl (G.2.1, 14, .inl (upd fA nA x))), (ot, .inl (G.2.2.2, 1, .inr (.inl og)))] _ _ := w
  obtain ⟨ehr4_2, hr4_2⟩ := hr4_2
  subst ehr4_2
  have hu9 := hr4_2
  have hT : th2 (tPat nA x) (decide (nA < 14)) = 0 := by first | (simp [th1, th2, th3, hu9]; done) | (simp [th1, th2, th3, hu9]; omega) | (unfold th2; rw [hu9.1, hu9.2]; rfl) | (unfold th1; rw [hu9.1]; rfl)
  refine lv_i2l (v := (nI nA).toInt64) hx hb dL_area_7 rfl ?_
  refine b_jast X E w (Or.inl (List.mem_of_getElem? (i := 2) rfl)) 3 rfl 0 rfl (by omega) (by first | decide | omega) dL_area_8 (fun H locs w => ?_)
  have w : bSt G vwCl [tA, oA, ot] s [(H0, .inr (5, [.ref tA, .ref tJ, .ref gO, .ref dO, .ref bO, .ref sO, .ref qs, .ref qr, .int (nI jd), .int (nI snt), .int (nI td)])), (tA, .inr (4, [.ref oA, .int (nI 10), .int (nI (nA + 1))])), (oA, .inl (G.2.1, 14, .inl (upd fA nA x))), (ot, .inl (G.2.2.2, 1, .inr (.inl (vp_updL og 0 ((nI nA).toInt64)))))] _ _ := w
  refine lv_goto (tgt := 18) hx hb dL_area_9 (by decide) ?_
  refine lv_iconst (v := nI 0) hx hb dL_area_18 (by decide) ?_
  exact W.iret (v := nI 0) hx hb hr (fun t9 ht9 hW9 => ⟨⟨nI 0, (), rfl, by rw [hT], by show va_P G.1 vwCl _ t9.heap; rw [ht9]; exact b_cg (by rw [hT]; rfl) (w.1.sub (ws' := [(tA, .inr (4, [.ref oA, .int (nI 10), .int (nI (nA + 1))])), (oA, .inl (G.2.1, 14, .inl (upd fA nA x))), (ot, .inl (G.2.2.2, 1, .inr (.inl (vp_updL og 0 ((nI nA).toInt64)))))]) [1, 2, 3] rfl)⟩, w.2.1.F ht9⟩) w.2.1.2.2 dL_area_19
set_option maxHeartbeats 4000000 in
set_option maxRecDepth 100000 in
theorem c_L_item (l : Launch) (hl0 : l.stackTraces = false) (G : bG) (sz : Nat) (H0 tA tJ gO dO bO sO qs qr jd snt td : Nat) (oJ nJ : Nat) (fJ : Nat → Int32) (x : Int32) (ot : Nat) (og : Nat → Int64) (hnJ : nJ ≤ 10) : Met l yL_item wsL_item ({ frames := 8, cells := 2, slots := 12, locals := 132 }) (va_Pc [.ref H0, .int x, .ref ot] (bPre G vwCl bNW bSW sz [(H0, .inr (5, [.ref tA, .ref tJ, .ref gO, .ref dO, .ref bO, .ref sO, .ref qs, .ref qr, .int (nI jd), .int (nI snt), .int (nI td)])), (tJ, .inr (4, [.ref oJ, .int (nI 1), .int (nI nJ)])), (oJ, .inl (G.2.1, 10, .inl fJ)), (ot, .inl (G.2.2.2, 1, .inr (.inl og)))] [tJ, oJ, ot])) (va_Qi (fun (r : Int32) (_ : Unit) => r = nI (th2 (tPat nJ x) (decide (nJ < 10)))) (fun (_ : Unit) (tS : State) => va_P G.1 vwCl [(tJ, .inr (4, [.ref oJ, .int (nI 1), .int (nI (gN (th2 (tPat nJ x) (decide (nJ < 10))) nJ (nJ + 1)))])), (oJ, .inl (G.2.1, 10, .inl (gF (th2 (tPat nJ x) (decide (nJ < 10))) fJ (upd fJ nJ x)))), (ot, .inl (G.2.2.2, 1, .inr (.inl (gF (th2 (tPat nJ x) (decide (nJ < 10))) og (vp_updL og 0 ((nI nJ).toInt64))))))] tS.heap) (Aw [tJ, oJ, ot] sz)) 2 12 (Aw [tJ, oJ, ot] sz) := by
  refine va_MetW (cc := cL_item) (maxL := 4) (ret := (some .int)) (by decide) rfl ?_
  intro p e s m args below meth c s₁ B hml hv
  obtain ⟨rfl, hsz, hP, hD, E, Z⟩ := hv
  have hts := atoms_spec (ws := wsL_item) B.pre
  have hown : s.vm.findClass RL = some m.cls := findClass_of_methodNamed B.named
  have X : CallFix p m c cL_item 4 s _ wsL_item RL := ⟨B.exec, B.bytes, hml, hown, hts⟩
  have hx := B.exec
  have hb := B.bytes
  have hr := B.returns
  have hlocks := B.notSynchronized
  have htab : c.exceptionTable.toList = tableOf [(0, 9, 12, 13), (0, 9, 15, 15)] := vx_table (x := yL_item) B (hts _ List.mem_cons_self)
  subst hsz
  have w : bSt G vwCl [] s [(H0, .inr (5, [.ref tA, .ref tJ, .ref gO, .ref dO, .ref bO, .ref sO, .ref qs, .ref qr, .int (nI jd), .int (nI snt), .int (nI td)])), (tJ, .inr (4, [.ref oJ, .int (nI 1), .int (nI nJ)])), (oJ, .inl (G.2.1, 10, .inl fJ)), (ot, .inl (G.2.2.2, 1, .inr (.inl og)))] s.heap [] := ⟨hP, va_S.rf, hD⟩
  have Z0 : bZ [] s := ⟨Z.1.narrow (fun q h => h.elim (fun h => nomatch h) Or.inr), Z.2.narrow (fun q h => h.elim (fun h => nomatch h) Or.inr)⟩
  have hl := lv_entry ([.ref H0, .int x, .ref ot]) (n := 4) (Nat.le_of_ble_eq_true rfl)
  rw [lg_entry_eq]
  generalize (lg_sl ([.ref H0, .int x, .ref ot]) ++ List.replicate (4 - (lg_sl ([.ref H0, .int x, .ref ot])).length) Slot.unset).toArray = ls at hl ⊢
  have hl : lv_has ls 4 [(0, .ref H0), (1, .int x), (2, .ref ot)] := hl
  refine lv_aload_n hx hb dL_item_0 rfl (lv_at hl 2 rfl) ?_
  refine lv_iconst (v := nI 0) hx hb dL_item_1 (by decide) ?_
  refine lv_aload_n hx hb dL_item_2 rfl (lv_at hl 0 rfl) ?_
  refine lv_iload_n hx hb dL_item_3 rfl (lv_at hl 1 rfl) ?_
  have w := b_wide [tJ, oJ, ot] b_nil w
  refine b_xcalli w (vx_runV (As := [.int x]) (rest := [.int (nI 0), .ref ot]) X (c_X5_item l hl0 G _ (td := td) (H0 := H0) (x := x) (tA := tA) (tJ := tJ) (gO := gO) (dO := dO) (bO := bO) (sO := sO) (qs := qs) (qr := qr) (jd := jd) (snt := snt) (oJ := oJ) (nJ := nJ) (fJ := fJ) (hnJ := (by first | assumption | omega))) (cwV 1 hts gL_item_X5_item rfl rfl rfl (by decide +kernel) ⟨Nat.le_of_ble_eq_true rfl, Nat.le_of_ble_eq_true rfl⟩) ⟨b_blind, b_recv E w (ci := 5) (q0 := 0) rfl rfl, (fun U9 hU9 hW9 => ⟨rfl, b_pre E Z w [0, 1, 2] (by decide) rfl (b_subA [0, 1] rfl) U9 hU9 hW9⟩)⟩ rfl rfl hl.1 rfl (lv_room (Nat.le_of_ble_eq_true rfl)) dL_item_4 ⟨Nat.le_of_ble_eq_true rfl, Nat.le_of_ble_eq_true rfl⟩) (b_subA [0, 1] rfl) [1, 2] (fun _ => rfl) rfl (fun E9 ce9 q9 H9 locs9 hex w9 hce hcv hcl => ?_) (fun r4_2 u4_2 H locs hr4_2 w => ?_)
  · rcases hex with ⟨rfl, hx9⟩ | ⟨rfl, hx9⟩
    · have hT : th2 (tPat nJ x) (decide (nJ < 10)) = 1 := by first | (simp [th1, th2, th3, hx9]; done) | (simp [th1, th2, th3, hx9]; omega) | (unfold th2; rw [hx9.1, hx9.2]; rfl) | (unfold th2; rw [hx9]; rfl) | (unfold th2; rw [hx9.1, if_pos rfl, if_neg (by simpa using hx9.2)])
      refine vx_catch (name := "java/lang/IndexOutOfBoundsException") hown [] ⟨0, 9, 12, 13⟩ [⟨0, 9, 15, 15⟩] htab b_pn (by decide) (by decide) (hts (.classLink RL 13 "java/lang/IndexOutOfBoundsException") (by decide +kernel)) (va_Nw.use rfl (E.2.1 (.castable "java/lang/IndexOutOfBoundsException" "java/lang/IndexOutOfBoundsException") (by decide +kernel)).2) hce hcv hcl ?_
      have w := w9
      refine lv_astore_n (lv' := [(3, .ref q9), (0, .ref H0), (1, .int x), (2, .ref ot)]) hx hb dL_item_12 rfl hl (by decide) rfl (fun ls hl => ?_)
      refine lv_iconst (v := nI 1) hx hb dL_item_13 (by decide) ?_
      exact W.iret (v := nI 1) hx hb hr (fun t9 ht9 hW9 => ⟨⟨nI 1, (), rfl, by rw [hT], by show va_P G.1 vwCl _ t9.heap; rw [ht9]; exact b_cg (by rw [hT]; rfl) (w.1.sub (ws' := [(tJ, .inr (4, [.ref oJ, .int (nI 1), .int (nI nJ)])), (oJ, .inl (G.2.1, 10, .inl fJ)), (ot, .inl (G.2.2.2, 1, .inr (.inl og)))]) [1, 2, 3] rfl)⟩, w.2.1.F ht9⟩) w.2.1.2.2 dL_item_14
    · have hT : th2 (tPat nJ x) (decide (nJ < 10)) = 2 := by first | (simp [th1, th2, th3, hx9]; done) | (simp [th1, th2, th3, hx9]; omega) | (unfold th2; rw [hx9.1, hx9.2]; rfl) | (unfold th2; rw [hx9]; rfl) | (unfold th2; rw [hx9.1, if_pos rfl, if_neg (by simpa using hx9.2)])
      refine vx_catch (name := "java/lang/IllegalStateException") hown [⟨0, 9, 12, 13⟩] ⟨0, 9, 15, 15⟩ [] htab (b_pc (Or.inr ⟨by decide, "java/lang/IndexOutOfBoundsException", hts (.classLink RL 13 "java/lang/IndexOutOfBoundsException") (by decide +kernel), va_Nc.of (args := #[]) (E.2.1 (.not (.castable "java/lang/IllegalStateException" "java/lang/IndexOutOfBoundsException")) (by decide +kernel)).2⟩) b_pn) (by decide) (by decide) (hts (.classLink RL 15 "java/lang/IllegalStateException") (by decide +kernel)) (va_Nw.use rfl (E.2.1 (.castable "java/lang/IllegalStateException" "java/lang/IllegalStateException") (by decide +kernel)).2) hce hcv hcl ?_
      have w := w9
      refine lv_astore_n (lv' := [(3, .ref q9), (0, .ref H0), (1, .int x), (2, .ref ot)]) hx hb dL_item_15 rfl hl (by decide) rfl (fun ls hl => ?_)
      refine lv_iconst (v := nI 2) hx hb dL_item_16 (by decide) ?_
      exact W.iret (v := nI 2) hx hb hr (fun t9 ht9 hW9 => ⟨⟨nI 2, (), rfl, by rw [hT], by show va_P G.1 vwCl _ t9.heap; rw [ht9]; exact b_cg (by rw [hT]; rfl) (w.1.sub (ws' := [(tJ, .inr (4, [.ref oJ, .int (nI 1), .int (nI nJ)])), (oJ, .inl (G.2.1, 10, .inl fJ)), (ot, .inl (G.2.2.2, 1, .inr (.inl og)))]) [1, 2, 3] rfl)⟩, w.2.1.F ht9⟩) w.2.1.2.2 dL_item_17
  have w : bSt G vwCl [tJ, oJ, ot] s [(H0, .inr (5, [.ref tA, .ref tJ, .ref gO, .ref dO, .ref bO, .ref sO, .ref qs, .ref qr, .int (nI jd), .int (nI snt), .int (nI td)])), (tJ, .inr (4, [.ref oJ, .int (nI 1), .int (nI (nJ + 1))])), (oJ, .inl (G.2.1, 10, .inl (upd fJ nJ x))), (ot, .inl (G.2.2.2, 1, .inr (.inl og)))] _ _ := w
  obtain ⟨ehr4_2, hr4_2⟩ := hr4_2
  subst ehr4_2
  have hu9 := hr4_2
  have hT : th2 (tPat nJ x) (decide (nJ < 10)) = 0 := by first | (simp [th1, th2, th3, hu9]; done) | (simp [th1, th2, th3, hu9]; omega) | (unfold th2; rw [hu9.1, hu9.2]; rfl) | (unfold th1; rw [hu9.1]; rfl)
  refine lv_i2l (v := (nI nJ).toInt64) hx hb dL_item_7 rfl ?_
  refine b_jast X E w (Or.inl (List.mem_of_getElem? (i := 2) rfl)) 3 rfl 0 rfl (by omega) (by first | decide | omega) dL_item_8 (fun H locs w => ?_)
  have w : bSt G vwCl [tJ, oJ, ot] s [(H0, .inr (5, [.ref tA, .ref tJ, .ref gO, .ref dO, .ref bO, .ref sO, .ref qs, .ref qr, .int (nI jd), .int (nI snt), .int (nI td)])), (tJ, .inr (4, [.ref oJ, .int (nI 1), .int (nI (nJ + 1))])), (oJ, .inl (G.2.1, 10, .inl (upd fJ nJ x))), (ot, .inl (G.2.2.2, 1, .inr (.inl (vp_updL og 0 ((nI nJ).toInt64)))))] _ _ := w
  refine lv_goto (tgt := 18) hx hb dL_item_9 (by decide) ?_
  refine lv_iconst (v := nI 0) hx hb dL_item_18 (by decide) ?_
  exact W.iret (v := nI 0) hx hb hr (fun t9 ht9 hW9 => ⟨⟨nI 0, (), rfl, by rw [hT], by show va_P G.1 vwCl _ t9.heap; rw [ht9]; exact b_cg (by rw [hT]; rfl) (w.1.sub (ws' := [(tJ, .inr (4, [.ref oJ, .int (nI 1), .int (nI (nJ + 1))])), (oJ, .inl (G.2.1, 10, .inl (upd fJ nJ x))), (ot, .inl (G.2.2.2, 1, .inr (.inl (vp_updL og 0 ((nI nJ).toInt64)))))]) [1, 2, 3] rfl)⟩, w.2.1.F ht9⟩) w.2.1.2.2 dL_item_19
set_option maxHeartbeats 4000000 in
set_option maxRecDepth 100000 in
theorem c_L_agree (l : Launch) (hl0 : l.stackTraces = false) (G : bG) (sz : Nat) (H0 tA tJ gO dO bO sO qs qr jd snt td : Nat) (oA nA : Nat) (fA : Nat → Int32) (qg : Nat) (on : Nat → Bool) (x y : Int32) (b : Bool) (ot : Nat) (og : Nat → Int64) (hnA : nA ≤ 14) : Met l yL_agree wsL_agree ({ frames := 8, cells := 2, slots := 12, locals := 134 }) (va_Pc [.ref H0, .int x, .int y, .int (bI b), .ref ot] (bPre G vwCl bNW bSW sz [(H0, .inr (5, [.ref tA, .ref tJ, .ref gO, .ref dO, .ref bO, .ref sO, .ref qs, .ref qr, .int (nI jd), .int (nI snt), .int (nI td)])), (tA, .inr (4, [.ref oA, .int (nI 10), .int (nI nA)])), (oA, .inl (G.2.1, 14, .inl fA)), (gO, .inr (0, [.ref qg])), (qg, .inl (G.2.2.1, 56, .inl (zB on))), (ot, .inl (G.2.2.2, 1, .inr (.inl og)))] [qg, ot])) (va_Qi (fun (r : Int32) (_ : Unit) => r = nI (th1 (tHas 4 x && tHas nA y))) (fun (_ : Unit) (tS : State) => va_P G.1 vwCl [(qg, .inl (G.2.2.1, 56, .inl (zB (gF (th1 (tHas 4 x && tHas nA y)) on (uB on (14 * cl x + cl y) b))))), (ot, .inl (G.2.2.2, 1, .inr (.inl (gF (th1 (tHas 4 x && tHas nA y)) og (vp_updL og 0 (kL (bI ((on (14 * cl x + cl y) != b)))))))))] tS.heap) (Aw [qg, ot] sz)) 2 12 (Aw [qg, ot] sz) := by
  refine va_MetW (cc := cL_agree) (maxL := 6) (ret := (some .int)) (by decide) rfl ?_
  intro p e s m args below meth c s₁ B hml hv
  obtain ⟨rfl, hsz, hP, hD, E, Z⟩ := hv
  have hts := atoms_spec (ws := wsL_agree) B.pre
  have hown : s.vm.findClass RL = some m.cls := findClass_of_methodNamed B.named
  have X : CallFix p m c cL_agree 6 s _ wsL_agree RL := ⟨B.exec, B.bytes, hml, hown, hts⟩
  have hx := B.exec
  have hb := B.bytes
  have hr := B.returns
  have hlocks := B.notSynchronized
  have htab : c.exceptionTable.toList = tableOf [(0, 19, 22, 13)] := vx_table (x := yL_agree) B (hts _ List.mem_cons_self)
  subst hsz
  have w : bSt G vwCl [] s [(H0, .inr (5, [.ref tA, .ref tJ, .ref gO, .ref dO, .ref bO, .ref sO, .ref qs, .ref qr, .int (nI jd), .int (nI snt), .int (nI td)])), (tA, .inr (4, [.ref oA, .int (nI 10), .int (nI nA)])), (oA, .inl (G.2.1, 14, .inl fA)), (gO, .inr (0, [.ref qg])), (qg, .inl (G.2.2.1, 56, .inl (zB on))), (ot, .inl (G.2.2.2, 1, .inr (.inl og)))] s.heap [] := ⟨hP, va_S.rf, hD⟩
  have Z0 : bZ [] s := ⟨Z.1.narrow (fun q h => h.elim (fun h => nomatch h) Or.inr), Z.2.narrow (fun q h => h.elim (fun h => nomatch h) Or.inr)⟩
  have hl := lv_entry ([.ref H0, .int x, .int y, .int (bI b), .ref ot]) (n := 6) (Nat.le_of_ble_eq_true rfl)
  rw [lg_entry_eq]
  generalize (lg_sl ([.ref H0, .int x, .int y, .int (bI b), .ref ot]) ++ List.replicate (6 - (lg_sl ([.ref H0, .int x, .int y, .int (bI b), .ref ot])).length) Slot.unset).toArray = ls at hl ⊢
  have hl : lv_has ls 6 [(0, .ref H0), (1, .int x), (2, .int y), (3, .int (bI b)), (4, .ref ot)] := hl
  refine lv_aload hx hb dL_agree_0 (lv_at hl 4 rfl) ?_
  refine lv_iconst (v := nI 0) hx hb dL_agree_2 (by decide) ?_
  refine lv_aload_n hx hb dL_agree_3 rfl (lv_at hl 0 rfl) ?_
  refine lv_iload_n hx hb dL_agree_4 rfl (lv_at hl 1 rfl) ?_
  refine lv_iload_n hx hb dL_agree_5 rfl (lv_at hl 2 rfl) ?_
  refine lv_iload_n hx hb dL_agree_6 rfl (lv_at hl 3 rfl) ?_
  have w := b_wide [qg, ot] b_nil w
  refine b_xcalli w (vx_runV (As := [.int x, .int y, .int (bI b)]) (rest := [.int (nI 0), .ref ot]) X (c_X5_agree l hl0 G _ (td := td) (H0 := H0) (x := x) (y := y) (b := b) (tA := tA) (tJ := tJ) (gO := gO) (dO := dO) (bO := bO) (sO := sO) (qs := qs) (qr := qr) (jd := jd) (snt := snt) (oA := oA) (nA := nA) (fA := fA) (qg := qg) (on := on) (hnA := (by first | assumption | omega))) (cwV 3 hts gL_agree_X5_agree rfl rfl rfl (by decide +kernel) ⟨Nat.le_of_ble_eq_true rfl, Nat.le_of_ble_eq_true rfl⟩) ⟨b_blind, b_recv E w (ci := 5) (q0 := 0) rfl rfl, (fun U9 hU9 hW9 => ⟨rfl, b_pre E Z w [0, 1, 2, 3, 4] (by decide) rfl (b_subA [0] rfl) U9 hU9 hW9⟩)⟩ rfl rfl hl.1 rfl (lv_room (Nat.le_of_ble_eq_true rfl)) dL_agree_7 ⟨Nat.le_of_ble_eq_true rfl, Nat.le_of_ble_eq_true rfl⟩) (b_subA [0] rfl) [4] (fun _ => rfl) rfl (fun E9 ce9 q9 H9 locs9 hex w9 hce hcv hcl => ?_) (fun r7_3 u7_3 H locs hr7_3 w => ?_)
  · rcases hex with ⟨rfl, hx9⟩
    · have hT : th1 (tHas 4 x && tHas nA y) = 1 := by first | (simp [th1, th2, th3, hx9]; done) | (simp [th1, th2, th3, hx9]; omega) | (unfold th2; rw [hx9.1, hx9.2]; rfl) | (unfold th2; rw [hx9]; rfl) | (unfold th2; rw [hx9.1, if_pos rfl, if_neg (by simpa using hx9.2)])
      refine vx_catch (name := "java/lang/IndexOutOfBoundsException") hown [] ⟨0, 19, 22, 13⟩ [] htab b_pn (by decide) (by decide) (hts (.classLink RL 13 "java/lang/IndexOutOfBoundsException") (by decide +kernel)) (va_Nw.use rfl (E.2.1 (.castable "java/lang/IndexOutOfBoundsException" "java/lang/IndexOutOfBoundsException") (by decide +kernel)).2) hce hcv hcl ?_
      have w := w9
      refine lv_astore (lv' := [(5, .ref q9), (0, .ref H0), (1, .int x), (2, .int y), (3, .int (bI b)), (4, .ref ot)]) hx hb dL_agree_22 hl (by decide) rfl (fun ls hl => ?_)
      refine lv_iconst (v := nI 1) hx hb dL_agree_24 (by decide) ?_
      exact W.iret (v := nI 1) hx hb hr (fun t9 ht9 hW9 => ⟨⟨nI 1, (), rfl, by rw [hT], by show va_P G.1 vwCl _ t9.heap; rw [ht9]; exact b_cg (by rw [hT]; rfl) (w.1.sub (ws' := [(qg, .inl (G.2.2.1, 56, .inl (zB on))), (ot, .inl (G.2.2.2, 1, .inr (.inl og)))]) [4, 5] rfl)⟩, w.2.1.F ht9⟩) w.2.1.2.2 dL_agree_25
  have w : bSt G vwCl [qg, ot] s [(H0, .inr (5, [.ref tA, .ref tJ, .ref gO, .ref dO, .ref bO, .ref sO, .ref qs, .ref qr, .int (nI jd), .int (nI snt), .int (nI td)])), (tA, .inr (4, [.ref oA, .int (nI 10), .int (nI nA)])), (oA, .inl (G.2.1, 14, .inl fA)), (gO, .inr (0, [.ref qg])), (qg, .inl (G.2.2.1, 56, .inl (zB (uB on (14 * cl x + cl y) b)))), (ot, .inl (G.2.2.2, 1, .inr (.inl og)))] _ _ := w
  obtain ⟨ehr7_3, hr7_3⟩ := hr7_3
  subst ehr7_3
  have hu9 := hr7_3
  have hT : th1 (tHas 4 x && tHas nA y) = 0 := by first | (simp [th1, th2, th3, hu9]; done) | (simp [th1, th2, th3, hu9]; omega) | (unfold th2; rw [hu9.1, hu9.2]; rfl) | (unfold th1; rw [hu9.1]; rfl)
  refine lv_if_eq (tgt := 17) hx hb dL_agree_10 (by decide) (fun c_10_4 => ?_) (fun c_10_4 => ?_)
  · have hkL : kL (bI (on (14 * cl x + cl y) != b)) = 0 := if_pos c_10_4
    refine lv_lconst (v := 0) hx hb dL_agree_17 (by decide) ?_
    refine b_jast X E w (Or.inl (List.mem_of_getElem? (i := 1) rfl)) 5 rfl 0 rfl (by omega) (by first | decide | omega) dL_agree_18 (fun H locs w => ?_)
    have w : bSt G vwCl [qg, ot] s [(H0, .inr (5, [.ref tA, .ref tJ, .ref gO, .ref dO, .ref bO, .ref sO, .ref qs, .ref qr, .int (nI jd), .int (nI snt), .int (nI td)])), (tA, .inr (4, [.ref oA, .int (nI 10), .int (nI nA)])), (oA, .inl (G.2.1, 14, .inl fA)), (gO, .inr (0, [.ref qg])), (qg, .inl (G.2.2.1, 56, .inl (zB (uB on (14 * cl x + cl y) b)))), (ot, .inl (G.2.2.2, 1, .inr (.inl (vp_updL og 0 0))))] _ _ := w
    refine lv_goto (tgt := 26) hx hb dL_agree_19 (by decide) ?_
    refine lv_iconst (v := nI 0) hx hb dL_agree_26 (by decide) ?_
    exact W.iret (v := nI 0) hx hb hr (fun t9 ht9 hW9 => ⟨⟨nI 0, (), rfl, by rw [hT], by show va_P G.1 vwCl _ t9.heap; rw [ht9]; exact b_cg (by rw [hT, hkL]; rfl) (w.1.sub (ws' := [(qg, .inl (G.2.2.1, 56, .inl (zB (uB on (14 * cl x + cl y) b)))), (ot, .inl (G.2.2.2, 1, .inr (.inl (vp_updL og 0 0))))]) [4, 5] rfl)⟩, w.2.1.F ht9⟩) w.2.1.2.2 dL_agree_27
  · have hkL : kL (bI (on (14 * cl x + cl y) != b)) = 1 := if_neg c_10_4
    refine lv_lconst (v := 1) hx hb dL_agree_13 (by decide) ?_
    refine lv_goto (tgt := 18) hx hb dL_agree_14 (by decide) ?_
    refine b_jast X E w (Or.inl (List.mem_of_getElem? (i := 1) rfl)) 5 rfl 0 rfl (by omega) (by first | decide | omega) dL_agree_18 (fun H locs w => ?_)
    have w : bSt G vwCl [qg, ot] s [(H0, .inr (5, [.ref tA, .ref tJ, .ref gO, .ref dO, .ref bO, .ref sO, .ref qs, .ref qr, .int (nI jd), .int (nI snt), .int (nI td)])), (tA, .inr (4, [.ref oA, .int (nI 10), .int (nI nA)])), (oA, .inl (G.2.1, 14, .inl fA)), (gO, .inr (0, [.ref qg])), (qg, .inl (G.2.2.1, 56, .inl (zB (uB on (14 * cl x + cl y) b)))), (ot, .inl (G.2.2.2, 1, .inr (.inl (vp_updL og 0 1))))] _ _ := w
    refine lv_goto (tgt := 26) hx hb dL_agree_19 (by decide) ?_
    refine lv_iconst (v := nI 0) hx hb dL_agree_26 (by decide) ?_
    exact W.iret (v := nI 0) hx hb hr (fun t9 ht9 hW9 => ⟨⟨nI 0, (), rfl, by rw [hT], by show va_P G.1 vwCl _ t9.heap; rw [ht9]; exact b_cg (by rw [hT, hkL]; rfl) (w.1.sub (ws' := [(qg, .inl (G.2.2.1, 56, .inl (zB (uB on (14 * cl x + cl y) b)))), (ot, .inl (G.2.2.2, 1, .inr (.inl (vp_updL og 0 1))))]) [4, 5] rfl)⟩, w.2.1.F ht9⟩) w.2.1.2.2 dL_agree_27
set_option maxHeartbeats 4000000 in
set_option maxRecDepth 100000 in
theorem c_L_mayTell (l : Launch) (hl0 : l.stackTraces = false) (G : bG) (sz : Nat) (H0 tA tJ gO dO bO sO qs qr jd snt td : Nat) (oA nA : Nat) (fA : Nat → Int32) (qg : Nat) (on : Nat → Bool) (x y : Int32) (ot : Nat) (og : Nat → Int64) (hnA : nA ≤ 14) (hTA : TI fA nA) : Met l yL_mayTell wsL_mayTell ({ frames := 8, cells := 2, slots := 12, locals := 133 }) (va_Pc [.ref H0, .int x, .int y, .ref ot] (bPre G vwCl bNW bSW sz [(H0, .inr (5, [.ref tA, .ref tJ, .ref gO, .ref dO, .ref bO, .ref sO, .ref qs, .ref qr, .int (nI jd), .int (nI snt), .int (nI td)])), (tA, .inr (4, [.ref oA, .int (nI 10), .int (nI nA)])), (oA, .inl (G.2.1, 14, .inl fA)), (gO, .inr (0, [.ref qg])), (qg, .inl (G.2.2.1, 56, .inl (zB on))), (ot, .inl (G.2.2.2, 1, .inr (.inl og)))] [ot])) (va_Qi (fun (r : Int32) (_ : Unit) => r = nI (th1 (tHas 4 x && tHas nA y))) (fun (_ : Unit) (tS : State) => va_P G.1 vwCl [(ot, .inl (G.2.2.2, 1, .inr (.inl (gF (th1 (tHas 4 x && tHas nA y)) og (vp_updL og 0 (kL (bI (covR on fA nA (cl x) (cl y)))))))))] tS.heap) (Aw [ot] sz)) 2 12 (Aw [ot] sz) := by
  refine va_MetW (cc := cL_mayTell) (maxL := 5) (ret := (some .int)) (by decide) rfl ?_
  intro p e s m args below meth c s₁ B hml hv
  obtain ⟨rfl, hsz, hP, hD, E, Z⟩ := hv
  have hts := atoms_spec (ws := wsL_mayTell) B.pre
  have hown : s.vm.findClass RL = some m.cls := findClass_of_methodNamed B.named
  have X : CallFix p m c cL_mayTell 5 s _ wsL_mayTell RL := ⟨B.exec, B.bytes, hml, hown, hts⟩
  have hx := B.exec
  have hb := B.bytes
  have hr := B.returns
  have hlocks := B.notSynchronized
  have htab : c.exceptionTable.toList = tableOf [(0, 17, 20, 13)] := vx_table (x := yL_mayTell) B (hts _ List.mem_cons_self)
  subst hsz
  have w : bSt G vwCl [] s [(H0, .inr (5, [.ref tA, .ref tJ, .ref gO, .ref dO, .ref bO, .ref sO, .ref qs, .ref qr, .int (nI jd), .int (nI snt), .int (nI td)])), (tA, .inr (4, [.ref oA, .int (nI 10), .int (nI nA)])), (oA, .inl (G.2.1, 14, .inl fA)), (gO, .inr (0, [.ref qg])), (qg, .inl (G.2.2.1, 56, .inl (zB on))), (ot, .inl (G.2.2.2, 1, .inr (.inl og)))] s.heap [] := ⟨hP, va_S.rf, hD⟩
  have Z0 : bZ [] s := ⟨Z.1.narrow (fun q h => h.elim (fun h => nomatch h) Or.inr), Z.2.narrow (fun q h => h.elim (fun h => nomatch h) Or.inr)⟩
  have hl := lv_entry ([.ref H0, .int x, .int y, .ref ot]) (n := 5) (Nat.le_of_ble_eq_true rfl)
  rw [lg_entry_eq]
  generalize (lg_sl ([.ref H0, .int x, .int y, .ref ot]) ++ List.replicate (5 - (lg_sl ([.ref H0, .int x, .int y, .ref ot])).length) Slot.unset).toArray = ls at hl ⊢
  have hl : lv_has ls 5 [(0, .ref H0), (1, .int x), (2, .int y), (3, .ref ot)] := hl
  refine lv_aload_n hx hb dL_mayTell_0 rfl (lv_at hl 3 rfl) ?_
  refine lv_iconst (v := nI 0) hx hb dL_mayTell_1 (by decide) ?_
  refine lv_aload_n hx hb dL_mayTell_2 rfl (lv_at hl 0 rfl) ?_
  refine lv_iload_n hx hb dL_mayTell_3 rfl (lv_at hl 1 rfl) ?_
  refine lv_iload_n hx hb dL_mayTell_4 rfl (lv_at hl 2 rfl) ?_
  refine b_xcalli w (vx_runV (As := [.int x, .int y]) (rest := [.int (nI 0), .ref ot]) X (c_X5_mayTell l hl0 G _ (td := td) (H0 := H0) (x := x) (y := y) (tA := tA) (tJ := tJ) (gO := gO) (dO := dO) (bO := bO) (sO := sO) (qs := qs) (qr := qr) (jd := jd) (snt := snt) (oA := oA) (nA := nA) (fA := fA) (qg := qg) (on := on) (hnA := (by first | assumption | omega)) (hTA := (by first | assumption | omega))) (cwV 2 hts gL_mayTell_X5_mayTell rfl rfl rfl (by decide +kernel) ⟨Nat.le_of_ble_eq_true rfl, Nat.le_of_ble_eq_true rfl⟩) ⟨b_blind, b_recv E w (ci := 5) (q0 := 0) rfl rfl, (fun U9 hU9 hW9 => ⟨rfl, b_pre E Z0 w [0, 1, 2, 3, 4] (by decide) rfl b_nil U9 hU9 hW9⟩)⟩ rfl rfl hl.1 rfl (lv_room (Nat.le_of_ble_eq_true rfl)) dL_mayTell_5 ⟨Nat.le_of_ble_eq_true rfl, Nat.le_of_ble_eq_true rfl⟩) b_nil [] (fun _ => rfl) rfl (fun E9 ce9 q9 H9 locs9 hex w9 hce hcv hcl => ?_) (fun r5_3 u5_3 H locs hr5_3 w => ?_)
  · rcases hex with ⟨rfl, hx9⟩
    · have hT : th1 (tHas 4 x && tHas nA y) = 1 := by first | (simp [th1, th2, th3, hx9]; done) | (simp [th1, th2, th3, hx9]; omega) | (unfold th2; rw [hx9.1, hx9.2]; rfl) | (unfold th2; rw [hx9]; rfl) | (unfold th2; rw [hx9.1, if_pos rfl, if_neg (by simpa using hx9.2)])
      refine vx_catch (name := "java/lang/IndexOutOfBoundsException") hown [] ⟨0, 17, 20, 13⟩ [] htab b_pn (by decide) (by decide) (hts (.classLink RL 13 "java/lang/IndexOutOfBoundsException") (by decide +kernel)) (va_Nw.use rfl (E.2.1 (.castable "java/lang/IndexOutOfBoundsException" "java/lang/IndexOutOfBoundsException") (by decide +kernel)).2) hce hcv hcl ?_
      have w := w9
      refine lv_astore (lv' := [(4, .ref q9), (0, .ref H0), (1, .int x), (2, .int y), (3, .ref ot)]) hx hb dL_mayTell_20 hl (by decide) rfl (fun ls hl => ?_)
      refine lv_iconst (v := nI 1) hx hb dL_mayTell_22 (by decide) ?_
      have w := b_wide [ot] b_nil w
      exact W.iret (v := nI 1) hx hb hr (fun t9 ht9 hW9 => ⟨⟨nI 1, (), rfl, by rw [hT], by show va_P G.1 vwCl _ t9.heap; rw [ht9]; exact b_cg (by rw [hT]; rfl) (w.1.sub (ws' := [(ot, .inl (G.2.2.2, 1, .inr (.inl og)))]) [5] rfl)⟩, w.2.1.F ht9⟩) w.2.1.2.2 dL_mayTell_23
  have w : bSt G vwCl [] s [(H0, .inr (5, [.ref tA, .ref tJ, .ref gO, .ref dO, .ref bO, .ref sO, .ref qs, .ref qr, .int (nI jd), .int (nI snt), .int (nI td)])), (tA, .inr (4, [.ref oA, .int (nI 10), .int (nI nA)])), (oA, .inl (G.2.1, 14, .inl fA)), (gO, .inr (0, [.ref qg])), (qg, .inl (G.2.2.1, 56, .inl (zB on))), (ot, .inl (G.2.2.2, 1, .inr (.inl og)))] _ _ := w
  obtain ⟨ehr5_3, hr5_3⟩ := hr5_3
  subst ehr5_3
  have hu9 := hr5_3
  have hT : th1 (tHas 4 x && tHas nA y) = 0 := by first | (simp [th1, th2, th3, hu9]; done) | (simp [th1, th2, th3, hu9]; omega) | (unfold th2; rw [hu9.1, hu9.2]; rfl) | (unfold th1; rw [hu9.1]; rfl)
  refine lv_if_eq (tgt := 15) hx hb dL_mayTell_8 (by decide) (fun c_8_4 => ?_) (fun c_8_4 => ?_)
  · have hkL : kL (bI (covR on fA nA (cl x) (cl y))) = 0 := if_pos c_8_4
    refine lv_lconst (v := 0) hx hb dL_mayTell_15 (by decide) ?_
    have w := b_wide [ot] b_nil w
    refine b_jast X E w (Or.inl (List.mem_of_getElem? (i := 0) rfl)) 5 rfl 0 rfl (by omega) (by first | decide | omega) dL_mayTell_16 (fun H locs w => ?_)
    have w : bSt G vwCl [ot] s [(H0, .inr (5, [.ref tA, .ref tJ, .ref gO, .ref dO, .ref bO, .ref sO, .ref qs, .ref qr, .int (nI jd), .int (nI snt), .int (nI td)])), (tA, .inr (4, [.ref oA, .int (nI 10), .int (nI nA)])), (oA, .inl (G.2.1, 14, .inl fA)), (gO, .inr (0, [.ref qg])), (qg, .inl (G.2.2.1, 56, .inl (zB on))), (ot, .inl (G.2.2.2, 1, .inr (.inl (vp_updL og 0 0))))] _ _ := w
    refine lv_goto (tgt := 24) hx hb dL_mayTell_17 (by decide) ?_
    refine lv_iconst (v := nI 0) hx hb dL_mayTell_24 (by decide) ?_
    exact W.iret (v := nI 0) hx hb hr (fun t9 ht9 hW9 => ⟨⟨nI 0, (), rfl, by rw [hT], by show va_P G.1 vwCl _ t9.heap; rw [ht9]; exact b_cg (by rw [hT, hkL]; rfl) (w.1.sub (ws' := [(ot, .inl (G.2.2.2, 1, .inr (.inl (vp_updL og 0 0))))]) [5] rfl)⟩, w.2.1.F ht9⟩) w.2.1.2.2 dL_mayTell_25
  · have hkL : kL (bI (covR on fA nA (cl x) (cl y))) = 1 := if_neg c_8_4
    refine lv_lconst (v := 1) hx hb dL_mayTell_11 (by decide) ?_
    refine lv_goto (tgt := 16) hx hb dL_mayTell_12 (by decide) ?_
    have w := b_wide [ot] b_nil w
    refine b_jast X E w (Or.inl (List.mem_of_getElem? (i := 0) rfl)) 5 rfl 0 rfl (by omega) (by first | decide | omega) dL_mayTell_16 (fun H locs w => ?_)
    have w : bSt G vwCl [ot] s [(H0, .inr (5, [.ref tA, .ref tJ, .ref gO, .ref dO, .ref bO, .ref sO, .ref qs, .ref qr, .int (nI jd), .int (nI snt), .int (nI td)])), (tA, .inr (4, [.ref oA, .int (nI 10), .int (nI nA)])), (oA, .inl (G.2.1, 14, .inl fA)), (gO, .inr (0, [.ref qg])), (qg, .inl (G.2.2.1, 56, .inl (zB on))), (ot, .inl (G.2.2.2, 1, .inr (.inl (vp_updL og 0 1))))] _ _ := w
    refine lv_goto (tgt := 24) hx hb dL_mayTell_17 (by decide) ?_
    refine lv_iconst (v := nI 0) hx hb dL_mayTell_24 (by decide) ?_
    exact W.iret (v := nI 0) hx hb hr (fun t9 ht9 hW9 => ⟨⟨nI 0, (), rfl, by rw [hT], by show va_P G.1 vwCl _ t9.heap; rw [ht9]; exact b_cg (by rw [hT, hkL]; rfl) (w.1.sub (ws' := [(ot, .inl (G.2.2.2, 1, .inr (.inl (vp_updL og 0 1))))]) [5] rfl)⟩, w.2.1.F ht9⟩) w.2.1.2.2 dL_mayTell_25
set_option maxHeartbeats 4000000 in
set_option maxRecDepth 100000 in
theorem c_L_put (l : Launch) (hl0 : l.stackTraces = false) (G : bG) (sz : Nat) (H0 tA tJ gO dO bO sO qs qr jd snt td : Nat) (oA nA : Nat) (oJ nJ : Nat) (dqw dqa dqc dqv dn : Nat) (dw : Nat → Int32) (da : Nat → Int32) (dc : Nat → Int32) (dv : Nat → Int32) (wh x y z t : Int32) (ot : Nat) (og : Nat → Int64) (hdn : dn ≤ 16) : Met l yL_put wsL_put ({ frames := 8, cells := 2, slots := 12, locals := 139 }) (va_Pc [.ref H0, .int wh, .int x, .int y, .int z, .int t, .ref ot] (bPre G vwCl bNW bSW sz [(H0, .inr (5, [.ref tA, .ref tJ, .ref gO, .ref dO, .ref bO, .ref sO, .ref qs, .ref qr, .int (nI jd), .int (nI snt), .int (nI td)])), (tA, .inr (4, [.ref oA, .int (nI 10), .int (nI nA)])), (tJ, .inr (4, [.ref oJ, .int (nI 1), .int (nI nJ)])), (dO, .inr (2, [.ref dqw, .ref dqa, .ref dqc, .ref dqv, .int (nI dn)])), (dqw, .inl (G.2.1, 16, .inl dw)), (dqa, .inl (G.2.1, 16, .inl da)), (dqc, .inl (G.2.1, 16, .inl dc)), (dqv, .inl (G.2.1, 16, .inl dv)), (ot, .inl (G.2.2.2, 1, .inr (.inl og)))] [dO, dqw, dqa, dqc, dqv, ot])) (va_Qi (fun (r : Int32) (_ : Unit) => r = nI (th3 (okC nA nJ x y z) (wOk wh && vOk t) (decide (dn < 16)))) (fun (_ : Unit) (tS : State) => va_P G.1 vwCl [(dO, .inr (2, [.ref dqw, .ref dqa, .ref dqc, .ref dqv, .int (nI (gN (th3 (okC nA nJ x y z) (wOk wh && vOk t) (decide (dn < 16))) dn (dn + 1)))])), (dqw, .inl (G.2.1, 16, .inl (gF (th3 (okC nA nJ x y z) (wOk wh && vOk t) (decide (dn < 16))) dw (upd dw dn wh)))), (dqa, .inl (G.2.1, 16, .inl (gF (th3 (okC nA nJ x y z) (wOk wh && vOk t) (decide (dn < 16))) da (upd da dn x)))), (dqc, .inl (G.2.1, 16, .inl (gF (th3 (okC nA nJ x y z) (wOk wh && vOk t) (decide (dn < 16))) dc (upd dc dn (cellI x y z))))), (dqv, .inl (G.2.1, 16, .inl (gF (th3 (okC nA nJ x y z) (wOk wh && vOk t) (decide (dn < 16))) dv (upd dv dn t)))), (ot, .inl (G.2.2.2, 1, .inr (.inl (gF (th3 (okC nA nJ x y z) (wOk wh && vOk t) (decide (dn < 16))) og (vp_updL og 0 ((nI (dn + 1)).toInt64))))))] tS.heap) (Aw [dO, dqw, dqa, dqc, dqv, ot] sz)) 2 12 (Aw [dO, dqw, dqa, dqc, dqv, ot] sz) := by
  refine va_MetW (cc := cL_put) (maxL := 8) (ret := (some .int)) (by decide) rfl ?_
  intro p e s m args below meth c s₁ B hml hv
  obtain ⟨rfl, hsz, hP, hD, E, Z⟩ := hv
  have hts := atoms_spec (ws := wsL_put) B.pre
  have hown : s.vm.findClass RL = some m.cls := findClass_of_methodNamed B.named
  have X : CallFix p m c cL_put 8 s _ wsL_put RL := ⟨B.exec, B.bytes, hml, hown, hts⟩
  have hx := B.exec
  have hb := B.bytes
  have hr := B.returns
  have hlocks := B.notSynchronized
  have htab : c.exceptionTable.toList = tableOf [(0, 16, 19, 13), (0, 16, 23, 28), (0, 16, 27, 15)] := vx_table (x := yL_put) B (hts _ List.mem_cons_self)
  subst hsz
  have w : bSt G vwCl [] s [(H0, .inr (5, [.ref tA, .ref tJ, .ref gO, .ref dO, .ref bO, .ref sO, .ref qs, .ref qr, .int (nI jd), .int (nI snt), .int (nI td)])), (tA, .inr (4, [.ref oA, .int (nI 10), .int (nI nA)])), (tJ, .inr (4, [.ref oJ, .int (nI 1), .int (nI nJ)])), (dO, .inr (2, [.ref dqw, .ref dqa, .ref dqc, .ref dqv, .int (nI dn)])), (dqw, .inl (G.2.1, 16, .inl dw)), (dqa, .inl (G.2.1, 16, .inl da)), (dqc, .inl (G.2.1, 16, .inl dc)), (dqv, .inl (G.2.1, 16, .inl dv)), (ot, .inl (G.2.2.2, 1, .inr (.inl og)))] s.heap [] := ⟨hP, va_S.rf, hD⟩
  have Z0 : bZ [] s := ⟨Z.1.narrow (fun q h => h.elim (fun h => nomatch h) Or.inr), Z.2.narrow (fun q h => h.elim (fun h => nomatch h) Or.inr)⟩
  have hl := lv_entry ([.ref H0, .int wh, .int x, .int y, .int z, .int t, .ref ot]) (n := 8) (Nat.le_of_ble_eq_true rfl)
  rw [lg_entry_eq]
  generalize (lg_sl ([.ref H0, .int wh, .int x, .int y, .int z, .int t, .ref ot]) ++ List.replicate (8 - (lg_sl ([.ref H0, .int wh, .int x, .int y, .int z, .int t, .ref ot])).length) Slot.unset).toArray = ls at hl ⊢
  have hl : lv_has ls 8 [(0, .ref H0), (1, .int wh), (2, .int x), (3, .int y), (4, .int z), (5, .int t), (6, .ref ot)] := hl
  refine lv_aload hx hb dL_put_0 (lv_at hl 6 rfl) ?_
  refine lv_iconst (v := nI 0) hx hb dL_put_2 (by decide) ?_
  refine lv_aload_n hx hb dL_put_3 rfl (lv_at hl 0 rfl) ?_
  refine lv_iload_n hx hb dL_put_4 rfl (lv_at hl 1 rfl) ?_
  refine lv_iload_n hx hb dL_put_5 rfl (lv_at hl 2 rfl) ?_
  refine lv_iload_n hx hb dL_put_6 rfl (lv_at hl 3 rfl) ?_
  refine lv_iload hx hb dL_put_7 (lv_at hl 4 rfl) ?_
  refine lv_iload hx hb dL_put_9 (lv_at hl 5 rfl) ?_
  have w := b_wide [dO, dqw, dqa, dqc, dqv, ot] b_nil w
  refine b_xcalli w (vx_runV (As := [.int wh, .int x, .int y, .int z, .int t]) (rest := [.int (nI 0), .ref ot]) X (c_X5_put l hl0 G _ (td := td) (H0 := H0) (wh := wh) (x := x) (y := y) (z := z) (t := t) (tA := tA) (tJ := tJ) (gO := gO) (dO := dO) (bO := bO) (sO := sO) (qs := qs) (qr := qr) (jd := jd) (snt := snt) (oA := oA) (nA := nA) (oJ := oJ) (nJ := nJ) (dqw := dqw) (dqa := dqa) (dqc := dqc) (dqv := dqv) (dn := dn) (dw := dw) (da := da) (dc := dc) (dv := dv) (hdn := (by first | assumption | omega))) (cwV 5 hts gL_put_X5_put rfl rfl rfl (by decide +kernel) ⟨Nat.le_of_ble_eq_true rfl, Nat.le_of_ble_eq_true rfl⟩) ⟨b_blind, b_recv E w (ci := 5) (q0 := 0) rfl rfl, (fun U9 hU9 hW9 => ⟨rfl, b_pre E Z w [0, 1, 2, 3, 4, 5, 6, 7] (by decide) rfl (b_subA [0, 1, 2, 3, 4] rfl) U9 hU9 hW9⟩)⟩ rfl rfl hl.1 rfl (lv_room (Nat.le_of_ble_eq_true rfl)) dL_put_11 ⟨Nat.le_of_ble_eq_true rfl, Nat.le_of_ble_eq_true rfl⟩) (b_subA [0, 1, 2, 3, 4] rfl) [3, 4, 5, 6, 7] (fun _ => rfl) rfl (fun E9 ce9 q9 H9 locs9 hex w9 hce hcv hcl => ?_) (fun r11_2 u11_2 H locs hr11_2 w => ?_)
  · rcases hex with ⟨rfl, hx9⟩ | ⟨rfl, hx9⟩ | ⟨rfl, hx9⟩
    · have hT : th3 (okC nA nJ x y z) (wOk wh && vOk t) (decide (dn < 16)) = 1 := by first | (simp [th1, th2, th3, hx9]; done) | (simp [th1, th2, th3, hx9]; omega) | (unfold th2; rw [hx9.1, hx9.2]; rfl) | (unfold th2; rw [hx9]; rfl) | (unfold th2; rw [hx9.1, if_pos rfl, if_neg (by simpa using hx9.2)])
      refine vx_catch (name := "java/lang/IndexOutOfBoundsException") hown [] ⟨0, 16, 19, 13⟩ [⟨0, 16, 23, 28⟩, ⟨0, 16, 27, 15⟩] htab b_pn (by decide) (by decide) (hts (.classLink RL 13 "java/lang/IndexOutOfBoundsException") (by decide +kernel)) (va_Nw.use rfl (E.2.1 (.castable "java/lang/IndexOutOfBoundsException" "java/lang/IndexOutOfBoundsException") (by decide +kernel)).2) hce hcv hcl ?_
      have w := w9
      refine lv_astore (lv' := [(7, .ref q9), (0, .ref H0), (1, .int wh), (2, .int x), (3, .int y), (4, .int z), (5, .int t), (6, .ref ot)]) hx hb dL_put_19 hl (by decide) rfl (fun ls hl => ?_)
      refine lv_iconst (v := nI 1) hx hb dL_put_21 (by decide) ?_
      exact W.iret (v := nI 1) hx hb hr (fun t9 ht9 hW9 => ⟨⟨nI 1, (), rfl, by rw [hT], by show va_P G.1 vwCl _ t9.heap; rw [ht9]; exact b_cg (by rw [hT]; rfl) (w.1.sub (ws' := [(dO, .inr (2, [.ref dqw, .ref dqa, .ref dqc, .ref dqv, .int (nI dn)])), (dqw, .inl (G.2.1, 16, .inl dw)), (dqa, .inl (G.2.1, 16, .inl da)), (dqc, .inl (G.2.1, 16, .inl dc)), (dqv, .inl (G.2.1, 16, .inl dv)), (ot, .inl (G.2.2.2, 1, .inr (.inl og)))]) [3, 4, 5, 6, 7, 8] rfl)⟩, w.2.1.F ht9⟩) w.2.1.2.2 dL_put_22
    · have hT : th3 (okC nA nJ x y z) (wOk wh && vOk t) (decide (dn < 16)) = 2 := by first | (simp [th1, th2, th3, hx9]; done) | (simp [th1, th2, th3, hx9]; omega) | (unfold th2; rw [hx9.1, hx9.2]; rfl) | (unfold th2; rw [hx9]; rfl) | (unfold th2; rw [hx9.1, if_pos rfl, if_neg (by simpa using hx9.2)])
      refine vx_catch (name := "java/lang/IllegalArgumentException") hown [⟨0, 16, 19, 13⟩] ⟨0, 16, 23, 28⟩ [⟨0, 16, 27, 15⟩] htab (b_pc (Or.inr ⟨by decide, "java/lang/IndexOutOfBoundsException", hts (.classLink RL 13 "java/lang/IndexOutOfBoundsException") (by decide +kernel), va_Nc.of (args := #[]) (E.2.1 (.not (.castable "java/lang/IllegalArgumentException" "java/lang/IndexOutOfBoundsException")) (by decide +kernel)).2⟩) b_pn) (by decide) (by decide) (hts (.classLink RL 28 "java/lang/IllegalArgumentException") (by decide +kernel)) (va_Nw.use rfl (E.2.1 (.castable "java/lang/IllegalArgumentException" "java/lang/IllegalArgumentException") (by decide +kernel)).2) hce hcv hcl ?_
      have w := w9
      refine lv_astore (lv' := [(7, .ref q9), (0, .ref H0), (1, .int wh), (2, .int x), (3, .int y), (4, .int z), (5, .int t), (6, .ref ot)]) hx hb dL_put_23 hl (by decide) rfl (fun ls hl => ?_)
      refine lv_iconst (v := nI 2) hx hb dL_put_25 (by decide) ?_
      exact W.iret (v := nI 2) hx hb hr (fun t9 ht9 hW9 => ⟨⟨nI 2, (), rfl, by rw [hT], by show va_P G.1 vwCl _ t9.heap; rw [ht9]; exact b_cg (by rw [hT]; rfl) (w.1.sub (ws' := [(dO, .inr (2, [.ref dqw, .ref dqa, .ref dqc, .ref dqv, .int (nI dn)])), (dqw, .inl (G.2.1, 16, .inl dw)), (dqa, .inl (G.2.1, 16, .inl da)), (dqc, .inl (G.2.1, 16, .inl dc)), (dqv, .inl (G.2.1, 16, .inl dv)), (ot, .inl (G.2.2.2, 1, .inr (.inl og)))]) [3, 4, 5, 6, 7, 8] rfl)⟩, w.2.1.F ht9⟩) w.2.1.2.2 dL_put_26
    · have hT : th3 (okC nA nJ x y z) (wOk wh && vOk t) (decide (dn < 16)) = 3 := by first | (simp [th1, th2, th3, hx9]; done) | (simp [th1, th2, th3, hx9]; omega) | (unfold th2; rw [hx9.1, hx9.2]; rfl) | (unfold th2; rw [hx9]; rfl) | (unfold th2; rw [hx9.1, if_pos rfl, if_neg (by simpa using hx9.2)])
      refine vx_catch (name := "java/lang/IllegalStateException") hown [⟨0, 16, 19, 13⟩, ⟨0, 16, 23, 28⟩] ⟨0, 16, 27, 15⟩ [] htab (b_pc (Or.inr ⟨by decide, "java/lang/IndexOutOfBoundsException", hts (.classLink RL 13 "java/lang/IndexOutOfBoundsException") (by decide +kernel), va_Nc.of (args := #[]) (E.2.1 (.not (.castable "java/lang/IllegalStateException" "java/lang/IndexOutOfBoundsException")) (by decide +kernel)).2⟩) (b_pc (Or.inr ⟨by decide, "java/lang/IllegalArgumentException", hts (.classLink RL 28 "java/lang/IllegalArgumentException") (by decide +kernel), va_Nc.of (args := #[]) (E.2.1 (.not (.castable "java/lang/IllegalStateException" "java/lang/IllegalArgumentException")) (by decide +kernel)).2⟩) b_pn)) (by decide) (by decide) (hts (.classLink RL 15 "java/lang/IllegalStateException") (by decide +kernel)) (va_Nw.use rfl (E.2.1 (.castable "java/lang/IllegalStateException" "java/lang/IllegalStateException") (by decide +kernel)).2) hce hcv hcl ?_
      have w := w9
      refine lv_astore (lv' := [(7, .ref q9), (0, .ref H0), (1, .int wh), (2, .int x), (3, .int y), (4, .int z), (5, .int t), (6, .ref ot)]) hx hb dL_put_27 hl (by decide) rfl (fun ls hl => ?_)
      refine lv_iconst (v := nI 3) hx hb dL_put_29 (by decide) ?_
      exact W.iret (v := nI 3) hx hb hr (fun t9 ht9 hW9 => ⟨⟨nI 3, (), rfl, by rw [hT], by show va_P G.1 vwCl _ t9.heap; rw [ht9]; exact b_cg (by rw [hT]; rfl) (w.1.sub (ws' := [(dO, .inr (2, [.ref dqw, .ref dqa, .ref dqc, .ref dqv, .int (nI dn)])), (dqw, .inl (G.2.1, 16, .inl dw)), (dqa, .inl (G.2.1, 16, .inl da)), (dqc, .inl (G.2.1, 16, .inl dc)), (dqv, .inl (G.2.1, 16, .inl dv)), (ot, .inl (G.2.2.2, 1, .inr (.inl og)))]) [3, 4, 5, 6, 7, 8] rfl)⟩, w.2.1.F ht9⟩) w.2.1.2.2 dL_put_30
  have w : bSt G vwCl [dO, dqw, dqa, dqc, dqv, ot] s [(H0, .inr (5, [.ref tA, .ref tJ, .ref gO, .ref dO, .ref bO, .ref sO, .ref qs, .ref qr, .int (nI jd), .int (nI snt), .int (nI td)])), (tA, .inr (4, [.ref oA, .int (nI 10), .int (nI nA)])), (tJ, .inr (4, [.ref oJ, .int (nI 1), .int (nI nJ)])), (dO, .inr (2, [.ref dqw, .ref dqa, .ref dqc, .ref dqv, .int (nI (dn + 1))])), (dqw, .inl (G.2.1, 16, .inl (upd dw dn wh))), (dqa, .inl (G.2.1, 16, .inl (upd da dn x))), (dqc, .inl (G.2.1, 16, .inl (upd dc dn (cellI x y z)))), (dqv, .inl (G.2.1, 16, .inl (upd dv dn t))), (ot, .inl (G.2.2.2, 1, .inr (.inl og)))] _ _ := w
  obtain ⟨ehr11_2, hr11_2⟩ := hr11_2
  subst ehr11_2
  have hu9 := hr11_2
  have hT : th3 (okC nA nJ x y z) (wOk wh && vOk t) (decide (dn < 16)) = 0 := by first | (simp [th1, th2, th3, hu9]; done) | (simp [th1, th2, th3, hu9]; omega) | (unfold th2; rw [hu9.1, hu9.2]; rfl) | (unfold th1; rw [hu9.1]; rfl)
  refine lv_i2l (v := (nI (dn + 1)).toInt64) hx hb dL_put_14 rfl ?_
  refine b_jast X E w (Or.inl (List.mem_of_getElem? (i := 5) rfl)) 8 rfl 0 rfl (by omega) (by first | decide | omega) dL_put_15 (fun H locs w => ?_)
  have w : bSt G vwCl [dO, dqw, dqa, dqc, dqv, ot] s [(H0, .inr (5, [.ref tA, .ref tJ, .ref gO, .ref dO, .ref bO, .ref sO, .ref qs, .ref qr, .int (nI jd), .int (nI snt), .int (nI td)])), (tA, .inr (4, [.ref oA, .int (nI 10), .int (nI nA)])), (tJ, .inr (4, [.ref oJ, .int (nI 1), .int (nI nJ)])), (dO, .inr (2, [.ref dqw, .ref dqa, .ref dqc, .ref dqv, .int (nI (dn + 1))])), (dqw, .inl (G.2.1, 16, .inl (upd dw dn wh))), (dqa, .inl (G.2.1, 16, .inl (upd da dn x))), (dqc, .inl (G.2.1, 16, .inl (upd dc dn (cellI x y z)))), (dqv, .inl (G.2.1, 16, .inl (upd dv dn t))), (ot, .inl (G.2.2.2, 1, .inr (.inl (vp_updL og 0 ((nI (dn + 1)).toInt64)))))] _ _ := w
  refine lv_goto (tgt := 31) hx hb dL_put_16 (by decide) ?_
  refine lv_iconst (v := nI 0) hx hb dL_put_31 (by decide) ?_
  exact W.iret (v := nI 0) hx hb hr (fun t9 ht9 hW9 => ⟨⟨nI 0, (), rfl, by rw [hT], by show va_P G.1 vwCl _ t9.heap; rw [ht9]; exact b_cg (by rw [hT]; rfl) (w.1.sub (ws' := [(dO, .inr (2, [.ref dqw, .ref dqa, .ref dqc, .ref dqv, .int (nI (dn + 1))])), (dqw, .inl (G.2.1, 16, .inl (upd dw dn wh))), (dqa, .inl (G.2.1, 16, .inl (upd da dn x))), (dqc, .inl (G.2.1, 16, .inl (upd dc dn (cellI x y z)))), (dqv, .inl (G.2.1, 16, .inl (upd dv dn t))), (ot, .inl (G.2.2.2, 1, .inr (.inl (vp_updL og 0 ((nI (dn + 1)).toInt64)))))]) [3, 4, 5, 6, 7, 8] rfl)⟩, w.2.1.F ht9⟩) w.2.1.2.2 dL_put_32
set_option maxHeartbeats 4000000 in
set_option maxRecDepth 100000 in
theorem c_L_send (l : Launch) (hl0 : l.stackTraces = false) (G : bG) (sz : Nat) (H0 tA tJ gO dO bO sO qs qr jd snt td : Nat) (oA nA : Nat) (fA : Nat → Int32) (qg : Nat) (on : Nat → Bool) (dqw dqa dqc dqv dn : Nat) (dw : Nat → Int32) (da : Nat → Int32) (dc : Nat → Int32) (dv : Nat → Int32) (ql qe qn qt qc qd qf bn : Nat) (lat : Nat → Int32) (ear : Nat → Int32) (cnt : Nat → Int32) (ld : Nat → Int32) (bc : Nat → Int32) (bd : Nat → Int32) (bf : Nat → Int32) (rf : Nat → Int32) (x : Int32) (ot : Nat) (og : Nat → Int64) (hnA : nA ≤ 14) (hTA : TI fA nA) (hdn : dn ≤ 16) (hbs : bn ≤ snt) (hst : snt ≤ 300) (hda : ∀ k, k < dn → ∃ a, a < nA ∧ da k = nI a) (hdc : ∀ k, k < dn → ∃ c, c < 1680 ∧ dc k = nI c) : Met l yL_send wsL_send ({ frames := 8, cells := 2, slots := 12, locals := 140 }) (va_Pc [.ref H0, .int x, .ref ot] (bPre G vwCl bNW bSW sz [(H0, .inr (5, [.ref tA, .ref tJ, .ref gO, .ref dO, .ref bO, .ref sO, .ref qs, .ref qr, .int (nI jd), .int (nI snt), .int (nI td)])), (tA, .inr (4, [.ref oA, .int (nI 10), .int (nI nA)])), (oA, .inl (G.2.1, 14, .inl fA)), (gO, .inr (0, [.ref qg])), (qg, .inl (G.2.2.1, 56, .inl (zB on))), (dO, .inr (2, [.ref dqw, .ref dqa, .ref dqc, .ref dqv, .int (nI dn)])), (dqw, .inl (G.2.1, 16, .inl dw)), (dqa, .inl (G.2.1, 16, .inl da)), (dqc, .inl (G.2.1, 16, .inl dc)), (dqv, .inl (G.2.1, 16, .inl dv)), (bO, .inr (1, [.ref ql, .ref qe, .ref qn, .ref qt, .ref qc, .ref qd, .ref qf, .int (nI bn)])), (ql, .inl (G.2.1, 1680, .inl lat)), (qe, .inl (G.2.1, 1680, .inl ear)), (qn, .inl (G.2.1, 1680, .inl cnt)), (qt, .inl (G.2.1, 1680, .inl ld)), (qc, .inl (G.2.1, 300, .inl bc)), (qd, .inl (G.2.1, 300, .inl bd)), (qf, .inl (G.2.1, 300, .inl bf)), (qr, .inl (G.2.1, 16, .inl rf)), (ot, .inl (G.2.2.2, 1, .inr (.inl og)))] [H0, dO, bO, ql, qe, qn, qt, qc, qd, qf, qr, ot])) (va_Qi (fun (r : Int32) (_ : Unit) => r = nI (th2 (tHas 4 x) (decide (0 < dn ∧ snt + dn ≤ 300)))) (fun (_ : Unit) (tS : State) => va_P G.1 vwCl [(H0, .inr (5, [.ref tA, .ref tJ, .ref gO, .ref dO, .ref bO, .ref sO, .ref qs, .ref qr, .int (nI (gN (th2 (tHas 4 x) (decide (0 < dn ∧ snt + dn ≤ 300))) jd dn)), .int (nI (gN (th2 (tHas 4 x) (decide (0 < dn ∧ snt + dn ≤ 300))) snt (snt + dn))), .int (nI td)])), (dO, .inr (2, [.ref dqw, .ref dqa, .ref dqc, .ref dqv, .int (nI (gN (th2 (tHas 4 x) (decide (0 < dn ∧ snt + dn ≤ 300))) dn 0))])), (bO, .inr (1, [.ref ql, .ref qe, .ref qn, .ref qt, .ref qc, .ref qd, .ref qf, .int (nI (gN (th2 (tHas 4 x) (decide (0 < dn ∧ snt + dn ≤ 300))) bn (zN (jRun (fun k => covR on fA nA (cl x) (cl (da k))) dw dv (fun k => cl (dc k)) (nI td) (0, rf, bn, bc, bd, bf, lat, ear, cnt, ld) dn))))])), (ql, .inl (G.2.1, 1680, .inl (gF (th2 (tHas 4 x) (decide (0 < dn ∧ snt + dn ≤ 300))) lat (zL (jRun (fun k => covR on fA nA (cl x) (cl (da k))) dw dv (fun k => cl (dc k)) (nI td) (0, rf, bn, bc, bd, bf, lat, ear, cnt, ld) dn))))), (qe, .inl (G.2.1, 1680, .inl (gF (th2 (tHas 4 x) (decide (0 < dn ∧ snt + dn ≤ 300))) ear (zE (jRun (fun k => covR on fA nA (cl x) (cl (da k))) dw dv (fun k => cl (dc k)) (nI td) (0, rf, bn, bc, bd, bf, lat, ear, cnt, ld) dn))))), (qn, .inl (G.2.1, 1680, .inl (gF (th2 (tHas 4 x) (decide (0 < dn ∧ snt + dn ≤ 300))) cnt (zM (jRun (fun k => covR on fA nA (cl x) (cl (da k))) dw dv (fun k => cl (dc k)) (nI td) (0, rf, bn, bc, bd, bf, lat, ear, cnt, ld) dn))))), (qt, .inl (G.2.1, 1680, .inl (gF (th2 (tHas 4 x) (decide (0 < dn ∧ snt + dn ≤ 300))) ld (zS (jRun (fun k => covR on fA nA (cl x) (cl (da k))) dw dv (fun k => cl (dc k)) (nI td) (0, rf, bn, bc, bd, bf, lat, ear, cnt, ld) dn))))), (qc, .inl (G.2.1, 300, .inl (gF (th2 (tHas 4 x) (decide (0 < dn ∧ snt + dn ≤ 300))) bc (zC (jRun (fun k => covR on fA nA (cl x) (cl (da k))) dw dv (fun k => cl (dc k)) (nI td) (0, rf, bn, bc, bd, bf, lat, ear, cnt, ld) dn))))), (qd, .inl (G.2.1, 300, .inl (gF (th2 (tHas 4 x) (decide (0 < dn ∧ snt + dn ≤ 300))) bd (zY (jRun (fun k => covR on fA nA (cl x) (cl (da k))) dw dv (fun k => cl (dc k)) (nI td) (0, rf, bn, bc, bd, bf, lat, ear, cnt, ld) dn))))), (qf, .inl (G.2.1, 300, .inl (gF (th2 (tHas 4 x) (decide (0 < dn ∧ snt + dn ≤ 300))) bf (zF (jRun (fun k => covR on fA nA (cl x) (cl (da k))) dw dv (fun k => cl (dc k)) (nI td) (0, rf, bn, bc, bd, bf, lat, ear, cnt, ld) dn))))), (qr, .inl (G.2.1, 16, .inl (gF (th2 (tHas 4 x) (decide (0 < dn ∧ snt + dn ≤ 300))) rf (zR (jRun (fun k => covR on fA nA (cl x) (cl (da k))) dw dv (fun k => cl (dc k)) (nI td) (0, rf, bn, bc, bd, bf, lat, ear, cnt, ld) dn))))), (ot, .inl (G.2.2.2, 1, .inr (.inl (gF (th2 (tHas 4 x) (decide (0 < dn ∧ snt + dn ≤ 300))) og (vp_updL og 0 ((nI (zD (jRun (fun k => covR on fA nA (cl x) (cl (da k))) dw dv (fun k => cl (dc k)) (nI td) (0, rf, bn, bc, bd, bf, lat, ear, cnt, ld) dn))).toInt64))))))] tS.heap) (Aw [H0, dO, bO, ql, qe, qn, qt, qc, qd, qf, qr, ot] sz)) 2 12 (Aw [H0, dO, bO, ql, qe, qn, qt, qc, qd, qf, qr, ot] sz) := by
  refine va_MetW (cc := cL_send) (maxL := 4) (ret := (some .int)) (by decide) rfl ?_
  intro p e s m args below meth c s₁ B hml hv
  obtain ⟨rfl, hsz, hP, hD, E, Z⟩ := hv
  have hts := atoms_spec (ws := wsL_send) B.pre
  have hown : s.vm.findClass RL = some m.cls := findClass_of_methodNamed B.named
  have X : CallFix p m c cL_send 4 s _ wsL_send RL := ⟨B.exec, B.bytes, hml, hown, hts⟩
  have hx := B.exec
  have hb := B.bytes
  have hr := B.returns
  have hlocks := B.notSynchronized
  have htab : c.exceptionTable.toList = tableOf [(0, 9, 12, 13), (0, 9, 15, 15)] := vx_table (x := yL_send) B (hts _ List.mem_cons_self)
  subst hsz
  have w : bSt G vwCl [] s [(H0, .inr (5, [.ref tA, .ref tJ, .ref gO, .ref dO, .ref bO, .ref sO, .ref qs, .ref qr, .int (nI jd), .int (nI snt), .int (nI td)])), (tA, .inr (4, [.ref oA, .int (nI 10), .int (nI nA)])), (oA, .inl (G.2.1, 14, .inl fA)), (gO, .inr (0, [.ref qg])), (qg, .inl (G.2.2.1, 56, .inl (zB on))), (dO, .inr (2, [.ref dqw, .ref dqa, .ref dqc, .ref dqv, .int (nI dn)])), (dqw, .inl (G.2.1, 16, .inl dw)), (dqa, .inl (G.2.1, 16, .inl da)), (dqc, .inl (G.2.1, 16, .inl dc)), (dqv, .inl (G.2.1, 16, .inl dv)), (bO, .inr (1, [.ref ql, .ref qe, .ref qn, .ref qt, .ref qc, .ref qd, .ref qf, .int (nI bn)])), (ql, .inl (G.2.1, 1680, .inl lat)), (qe, .inl (G.2.1, 1680, .inl ear)), (qn, .inl (G.2.1, 1680, .inl cnt)), (qt, .inl (G.2.1, 1680, .inl ld)), (qc, .inl (G.2.1, 300, .inl bc)), (qd, .inl (G.2.1, 300, .inl bd)), (qf, .inl (G.2.1, 300, .inl bf)), (qr, .inl (G.2.1, 16, .inl rf)), (ot, .inl (G.2.2.2, 1, .inr (.inl og)))] s.heap [] := ⟨hP, va_S.rf, hD⟩
  have Z0 : bZ [] s := ⟨Z.1.narrow (fun q h => h.elim (fun h => nomatch h) Or.inr), Z.2.narrow (fun q h => h.elim (fun h => nomatch h) Or.inr)⟩
  have hl := lv_entry ([.ref H0, .int x, .ref ot]) (n := 4) (Nat.le_of_ble_eq_true rfl)
  rw [lg_entry_eq]
  generalize (lg_sl ([.ref H0, .int x, .ref ot]) ++ List.replicate (4 - (lg_sl ([.ref H0, .int x, .ref ot])).length) Slot.unset).toArray = ls at hl ⊢
  have hl : lv_has ls 4 [(0, .ref H0), (1, .int x), (2, .ref ot)] := hl
  refine lv_aload_n hx hb dL_send_0 rfl (lv_at hl 2 rfl) ?_
  refine lv_iconst (v := nI 0) hx hb dL_send_1 (by decide) ?_
  refine lv_aload_n hx hb dL_send_2 rfl (lv_at hl 0 rfl) ?_
  refine lv_iload_n hx hb dL_send_3 rfl (lv_at hl 1 rfl) ?_
  have w := b_wide [H0, dO, bO, ql, qe, qn, qt, qc, qd, qf, qr, ot] b_nil w
  refine b_xcalli w (vx_runV (As := [.int x]) (rest := [.int (nI 0), .ref ot]) X (c_X5_send l hl0 G _ (td := td) (H0 := H0) (x := x) (tA := tA) (tJ := tJ) (gO := gO) (dO := dO) (bO := bO) (sO := sO) (qs := qs) (qr := qr) (jd := jd) (snt := snt) (oA := oA) (nA := nA) (fA := fA) (qg := qg) (on := on) (dqw := dqw) (dqa := dqa) (dqc := dqc) (dqv := dqv) (dn := dn) (dw := dw) (da := da) (dc := dc) (dv := dv) (ql := ql) (qe := qe) (qn := qn) (qt := qt) (qc := qc) (qd := qd) (qf := qf) (bn := bn) (lat := lat) (ear := ear) (cnt := cnt) (ld := ld) (bc := bc) (bd := bd) (bf := bf) (rf := rf) (hnA := (by first | assumption | omega)) (hTA := (by first | assumption | omega)) (hdn := (by first | assumption | omega)) (hbs := (by first | assumption | omega)) (hst := (by first | assumption | omega)) (hda := (by first | assumption | omega)) (hdc := (by first | assumption | omega))) (cwV 1 hts gL_send_X5_send rfl rfl rfl (by decide +kernel) ⟨Nat.le_of_ble_eq_true rfl, Nat.le_of_ble_eq_true rfl⟩) ⟨b_blind, b_recv E w (ci := 5) (q0 := 0) rfl rfl, (fun U9 hU9 hW9 => ⟨rfl, b_pre E Z w [0, 1, 2, 3, 4, 5, 6, 7, 8, 9, 10, 11, 12, 13, 14, 15, 16, 17, 18] (by decide) rfl (b_subA [0, 1, 2, 3, 4, 5, 6, 7, 8, 9, 10] rfl) U9 hU9 hW9⟩)⟩ rfl rfl hl.1 rfl (lv_room (Nat.le_of_ble_eq_true rfl)) dL_send_4 ⟨Nat.le_of_ble_eq_true rfl, Nat.le_of_ble_eq_true rfl⟩) (b_subA [0, 1, 2, 3, 4, 5, 6, 7, 8, 9, 10] rfl) [0, 5, 10, 11, 12, 13, 14, 15, 16, 17, 18] (fun _ => rfl) rfl (fun E9 ce9 q9 H9 locs9 hex w9 hce hcv hcl => ?_) (fun r4_2 u4_2 H locs hr4_2 w => ?_)
  · rcases hex with ⟨rfl, hx9⟩ | ⟨rfl, hx9⟩
    · have hT : th2 (tHas 4 x) (decide (0 < dn ∧ snt + dn ≤ 300)) = 1 := by first | (simp [th1, th2, th3, hx9]; done) | (simp [th1, th2, th3, hx9]; omega) | (unfold th2; rw [hx9.1, hx9.2]; rfl) | (unfold th2; rw [hx9]; rfl) | (unfold th2; rw [hx9.1, if_pos rfl, if_neg (by simpa using hx9.2)])
      refine vx_catch (name := "java/lang/IndexOutOfBoundsException") hown [] ⟨0, 9, 12, 13⟩ [⟨0, 9, 15, 15⟩] htab b_pn (by decide) (by decide) (hts (.classLink RL 13 "java/lang/IndexOutOfBoundsException") (by decide +kernel)) (va_Nw.use rfl (E.2.1 (.castable "java/lang/IndexOutOfBoundsException" "java/lang/IndexOutOfBoundsException") (by decide +kernel)).2) hce hcv hcl ?_
      have w := w9
      refine lv_astore_n (lv' := [(3, .ref q9), (0, .ref H0), (1, .int x), (2, .ref ot)]) hx hb dL_send_12 rfl hl (by decide) rfl (fun ls hl => ?_)
      refine lv_iconst (v := nI 1) hx hb dL_send_13 (by decide) ?_
      exact W.iret (v := nI 1) hx hb hr (fun t9 ht9 hW9 => ⟨⟨nI 1, (), rfl, by rw [hT], by show va_P G.1 vwCl _ t9.heap; rw [ht9]; exact b_cg (by rw [hT]; rfl) (w.1.sub (ws' := [(H0, .inr (5, [.ref tA, .ref tJ, .ref gO, .ref dO, .ref bO, .ref sO, .ref qs, .ref qr, .int (nI jd), .int (nI snt), .int (nI td)])), (dO, .inr (2, [.ref dqw, .ref dqa, .ref dqc, .ref dqv, .int (nI dn)])), (bO, .inr (1, [.ref ql, .ref qe, .ref qn, .ref qt, .ref qc, .ref qd, .ref qf, .int (nI bn)])), (ql, .inl (G.2.1, 1680, .inl lat)), (qe, .inl (G.2.1, 1680, .inl ear)), (qn, .inl (G.2.1, 1680, .inl cnt)), (qt, .inl (G.2.1, 1680, .inl ld)), (qc, .inl (G.2.1, 300, .inl bc)), (qd, .inl (G.2.1, 300, .inl bd)), (qf, .inl (G.2.1, 300, .inl bf)), (qr, .inl (G.2.1, 16, .inl rf)), (ot, .inl (G.2.2.2, 1, .inr (.inl og)))]) [0, 5, 10, 11, 12, 13, 14, 15, 16, 17, 18, 19] rfl)⟩, w.2.1.F ht9⟩) w.2.1.2.2 dL_send_14
    · have hT : th2 (tHas 4 x) (decide (0 < dn ∧ snt + dn ≤ 300)) = 2 := by first | (simp [th1, th2, th3, hx9]; done) | (simp [th1, th2, th3, hx9]; omega) | (unfold th2; rw [hx9.1, hx9.2]; rfl) | (unfold th2; rw [hx9]; rfl) | (unfold th2; rw [hx9.1, if_pos rfl, if_neg (by simpa using hx9.2)])
      refine vx_catch (name := "java/lang/IllegalStateException") hown [⟨0, 9, 12, 13⟩] ⟨0, 9, 15, 15⟩ [] htab (b_pc (Or.inr ⟨by decide, "java/lang/IndexOutOfBoundsException", hts (.classLink RL 13 "java/lang/IndexOutOfBoundsException") (by decide +kernel), va_Nc.of (args := #[]) (E.2.1 (.not (.castable "java/lang/IllegalStateException" "java/lang/IndexOutOfBoundsException")) (by decide +kernel)).2⟩) b_pn) (by decide) (by decide) (hts (.classLink RL 15 "java/lang/IllegalStateException") (by decide +kernel)) (va_Nw.use rfl (E.2.1 (.castable "java/lang/IllegalStateException" "java/lang/IllegalStateException") (by decide +kernel)).2) hce hcv hcl ?_
      have w := w9
      refine lv_astore_n (lv' := [(3, .ref q9), (0, .ref H0), (1, .int x), (2, .ref ot)]) hx hb dL_send_15 rfl hl (by decide) rfl (fun ls hl => ?_)
      refine lv_iconst (v := nI 2) hx hb dL_send_16 (by decide) ?_
      exact W.iret (v := nI 2) hx hb hr (fun t9 ht9 hW9 => ⟨⟨nI 2, (), rfl, by rw [hT], by show va_P G.1 vwCl _ t9.heap; rw [ht9]; exact b_cg (by rw [hT]; rfl) (w.1.sub (ws' := [(H0, .inr (5, [.ref tA, .ref tJ, .ref gO, .ref dO, .ref bO, .ref sO, .ref qs, .ref qr, .int (nI jd), .int (nI snt), .int (nI td)])), (dO, .inr (2, [.ref dqw, .ref dqa, .ref dqc, .ref dqv, .int (nI dn)])), (bO, .inr (1, [.ref ql, .ref qe, .ref qn, .ref qt, .ref qc, .ref qd, .ref qf, .int (nI bn)])), (ql, .inl (G.2.1, 1680, .inl lat)), (qe, .inl (G.2.1, 1680, .inl ear)), (qn, .inl (G.2.1, 1680, .inl cnt)), (qt, .inl (G.2.1, 1680, .inl ld)), (qc, .inl (G.2.1, 300, .inl bc)), (qd, .inl (G.2.1, 300, .inl bd)), (qf, .inl (G.2.1, 300, .inl bf)), (qr, .inl (G.2.1, 16, .inl rf)), (ot, .inl (G.2.2.2, 1, .inr (.inl og)))]) [0, 5, 10, 11, 12, 13, 14, 15, 16, 17, 18, 19] rfl)⟩, w.2.1.F ht9⟩) w.2.1.2.2 dL_send_17
  have w : bSt G vwCl [H0, dO, bO, ql, qe, qn, qt, qc, qd, qf, qr, ot] s [(H0, .inr (5, [.ref tA, .ref tJ, .ref gO, .ref dO, .ref bO, .ref sO, .ref qs, .ref qr, .int (nI dn), .int (nI (snt + dn)), .int (nI td)])), (tA, .inr (4, [.ref oA, .int (nI 10), .int (nI nA)])), (oA, .inl (G.2.1, 14, .inl fA)), (gO, .inr (0, [.ref qg])), (qg, .inl (G.2.2.1, 56, .inl (zB on))), (dO, .inr (2, [.ref dqw, .ref dqa, .ref dqc, .ref dqv, .int (nI 0)])), (dqw, .inl (G.2.1, 16, .inl dw)), (dqa, .inl (G.2.1, 16, .inl da)), (dqc, .inl (G.2.1, 16, .inl dc)), (dqv, .inl (G.2.1, 16, .inl dv)), (bO, .inr (1, [.ref ql, .ref qe, .ref qn, .ref qt, .ref qc, .ref qd, .ref qf, .int (nI (zN (jRun (fun k => covR on fA nA (cl x) (cl (da k))) dw dv (fun k => cl (dc k)) (nI td) (0, rf, bn, bc, bd, bf, lat, ear, cnt, ld) dn)))])), (ql, .inl (G.2.1, 1680, .inl (zL (jRun (fun k => covR on fA nA (cl x) (cl (da k))) dw dv (fun k => cl (dc k)) (nI td) (0, rf, bn, bc, bd, bf, lat, ear, cnt, ld) dn)))), (qe, .inl (G.2.1, 1680, .inl (zE (jRun (fun k => covR on fA nA (cl x) (cl (da k))) dw dv (fun k => cl (dc k)) (nI td) (0, rf, bn, bc, bd, bf, lat, ear, cnt, ld) dn)))), (qn, .inl (G.2.1, 1680, .inl (zM (jRun (fun k => covR on fA nA (cl x) (cl (da k))) dw dv (fun k => cl (dc k)) (nI td) (0, rf, bn, bc, bd, bf, lat, ear, cnt, ld) dn)))), (qt, .inl (G.2.1, 1680, .inl (zS (jRun (fun k => covR on fA nA (cl x) (cl (da k))) dw dv (fun k => cl (dc k)) (nI td) (0, rf, bn, bc, bd, bf, lat, ear, cnt, ld) dn)))), (qc, .inl (G.2.1, 300, .inl (zC (jRun (fun k => covR on fA nA (cl x) (cl (da k))) dw dv (fun k => cl (dc k)) (nI td) (0, rf, bn, bc, bd, bf, lat, ear, cnt, ld) dn)))), (qd, .inl (G.2.1, 300, .inl (zY (jRun (fun k => covR on fA nA (cl x) (cl (da k))) dw dv (fun k => cl (dc k)) (nI td) (0, rf, bn, bc, bd, bf, lat, ear, cnt, ld) dn)))), (qf, .inl (G.2.1, 300, .inl (zF (jRun (fun k => covR on fA nA (cl x) (cl (da k))) dw dv (fun k => cl (dc k)) (nI td) (0, rf, bn, bc, bd, bf, lat, ear, cnt, ld) dn)))), (qr, .inl (G.2.1, 16, .inl (zR (jRun (fun k => covR on fA nA (cl x) (cl (da k))) dw dv (fun k => cl (dc k)) (nI td) (0, rf, bn, bc, bd, bf, lat, ear, cnt, ld) dn)))), (ot, .inl (G.2.2.2, 1, .inr (.inl og)))] _ _ := w
  obtain ⟨ehr4_2, hr4_2⟩ := hr4_2
  subst ehr4_2
  have hu9 := hr4_2
  have hT : th2 (tHas 4 x) (decide (0 < dn ∧ snt + dn ≤ 300)) = 0 := by first | (simp [th1, th2, th3, hu9]; done) | (simp [th1, th2, th3, hu9]; omega) | (unfold th2; rw [hu9.1, hu9.2]; rfl) | (unfold th1; rw [hu9.1]; rfl)
  refine lv_i2l (v := (nI (zD (jRun (fun k => covR on fA nA (cl x) (cl (da k))) dw dv (fun k => cl (dc k)) (nI td) (0, rf, bn, bc, bd, bf, lat, ear, cnt, ld) dn))).toInt64) hx hb dL_send_7 rfl ?_
  refine b_jast X E w (Or.inl (List.mem_of_getElem? (i := 11) rfl)) 19 rfl 0 rfl (by omega) (by first | decide | omega) dL_send_8 (fun H locs w => ?_)
  have w : bSt G vwCl [H0, dO, bO, ql, qe, qn, qt, qc, qd, qf, qr, ot] s [(H0, .inr (5, [.ref tA, .ref tJ, .ref gO, .ref dO, .ref bO, .ref sO, .ref qs, .ref qr, .int (nI dn), .int (nI (snt + dn)), .int (nI td)])), (tA, .inr (4, [.ref oA, .int (nI 10), .int (nI nA)])), (oA, .inl (G.2.1, 14, .inl fA)), (gO, .inr (0, [.ref qg])), (qg, .inl (G.2.2.1, 56, .inl (zB on))), (dO, .inr (2, [.ref dqw, .ref dqa, .ref dqc, .ref dqv, .int (nI 0)])), (dqw, .inl (G.2.1, 16, .inl dw)), (dqa, .inl (G.2.1, 16, .inl da)), (dqc, .inl (G.2.1, 16, .inl dc)), (dqv, .inl (G.2.1, 16, .inl dv)), (bO, .inr (1, [.ref ql, .ref qe, .ref qn, .ref qt, .ref qc, .ref qd, .ref qf, .int (nI (zN (jRun (fun k => covR on fA nA (cl x) (cl (da k))) dw dv (fun k => cl (dc k)) (nI td) (0, rf, bn, bc, bd, bf, lat, ear, cnt, ld) dn)))])), (ql, .inl (G.2.1, 1680, .inl (zL (jRun (fun k => covR on fA nA (cl x) (cl (da k))) dw dv (fun k => cl (dc k)) (nI td) (0, rf, bn, bc, bd, bf, lat, ear, cnt, ld) dn)))), (qe, .inl (G.2.1, 1680, .inl (zE (jRun (fun k => covR on fA nA (cl x) (cl (da k))) dw dv (fun k => cl (dc k)) (nI td) (0, rf, bn, bc, bd, bf, lat, ear, cnt, ld) dn)))), (qn, .inl (G.2.1, 1680, .inl (zM (jRun (fun k => covR on fA nA (cl x) (cl (da k))) dw dv (fun k => cl (dc k)) (nI td) (0, rf, bn, bc, bd, bf, lat, ear, cnt, ld) dn)))), (qt, .inl (G.2.1, 1680, .inl (zS (jRun (fun k => covR on fA nA (cl x) (cl (da k))) dw dv (fun k => cl (dc k)) (nI td) (0, rf, bn, bc, bd, bf, lat, ear, cnt, ld) dn)))), (qc, .inl (G.2.1, 300, .inl (zC (jRun (fun k => covR on fA nA (cl x) (cl (da k))) dw dv (fun k => cl (dc k)) (nI td) (0, rf, bn, bc, bd, bf, lat, ear, cnt, ld) dn)))), (qd, .inl (G.2.1, 300, .inl (zY (jRun (fun k => covR on fA nA (cl x) (cl (da k))) dw dv (fun k => cl (dc k)) (nI td) (0, rf, bn, bc, bd, bf, lat, ear, cnt, ld) dn)))), (qf, .inl (G.2.1, 300, .inl (zF (jRun (fun k => covR on fA nA (cl x) (cl (da k))) dw dv (fun k => cl (dc k)) (nI td) (0, rf, bn, bc, bd, bf, lat, ear, cnt, ld) dn)))), (qr, .inl (G.2.1, 16, .inl (zR (jRun (fun k => covR on fA nA (cl x) (cl (da k))) dw dv (fun k => cl (dc k)) (nI td) (0, rf, bn, bc, bd, bf, lat, ear, cnt, ld) dn)))), (ot, .inl (G.2.2.2, 1, .inr (.inl (vp_updL og 0 ((nI (zD (jRun (fun k => covR on fA nA (cl x) (cl (da k))) dw dv (fun k => cl (dc k)) (nI td) (0, rf, bn, bc, bd, bf, lat, ear, cnt, ld) dn))).toInt64)))))] _ _ := w
  refine lv_goto (tgt := 18) hx hb dL_send_9 (by decide) ?_
  refine lv_iconst (v := nI 0) hx hb dL_send_18 (by decide) ?_
  exact W.iret (v := nI 0) hx hb hr (fun t9 ht9 hW9 => ⟨⟨nI 0, (), rfl, by rw [hT], by show va_P G.1 vwCl _ t9.heap; rw [ht9]; exact b_cg (by rw [hT]; rfl) (w.1.sub (ws' := [(H0, .inr (5, [.ref tA, .ref tJ, .ref gO, .ref dO, .ref bO, .ref sO, .ref qs, .ref qr, .int (nI dn), .int (nI (snt + dn)), .int (nI td)])), (dO, .inr (2, [.ref dqw, .ref dqa, .ref dqc, .ref dqv, .int (nI 0)])), (bO, .inr (1, [.ref ql, .ref qe, .ref qn, .ref qt, .ref qc, .ref qd, .ref qf, .int (nI (zN (jRun (fun k => covR on fA nA (cl x) (cl (da k))) dw dv (fun k => cl (dc k)) (nI td) (0, rf, bn, bc, bd, bf, lat, ear, cnt, ld) dn)))])), (ql, .inl (G.2.1, 1680, .inl (zL (jRun (fun k => covR on fA nA (cl x) (cl (da k))) dw dv (fun k => cl (dc k)) (nI td) (0, rf, bn, bc, bd, bf, lat, ear, cnt, ld) dn)))), (qe, .inl (G.2.1, 1680, .inl (zE (jRun (fun k => covR on fA nA (cl x) (cl (da k))) dw dv (fun k => cl (dc k)) (nI td) (0, rf, bn, bc, bd, bf, lat, ear, cnt, ld) dn)))), (qn, .inl (G.2.1, 1680, .inl (zM (jRun (fun k => covR on fA nA (cl x) (cl (da k))) dw dv (fun k => cl (dc k)) (nI td) (0, rf, bn, bc, bd, bf, lat, ear, cnt, ld) dn)))), (qt, .inl (G.2.1, 1680, .inl (zS (jRun (fun k => covR on fA nA (cl x) (cl (da k))) dw dv (fun k => cl (dc k)) (nI td) (0, rf, bn, bc, bd, bf, lat, ear, cnt, ld) dn)))), (qc, .inl (G.2.1, 300, .inl (zC (jRun (fun k => covR on fA nA (cl x) (cl (da k))) dw dv (fun k => cl (dc k)) (nI td) (0, rf, bn, bc, bd, bf, lat, ear, cnt, ld) dn)))), (qd, .inl (G.2.1, 300, .inl (zY (jRun (fun k => covR on fA nA (cl x) (cl (da k))) dw dv (fun k => cl (dc k)) (nI td) (0, rf, bn, bc, bd, bf, lat, ear, cnt, ld) dn)))), (qf, .inl (G.2.1, 300, .inl (zF (jRun (fun k => covR on fA nA (cl x) (cl (da k))) dw dv (fun k => cl (dc k)) (nI td) (0, rf, bn, bc, bd, bf, lat, ear, cnt, ld) dn)))), (qr, .inl (G.2.1, 16, .inl (zR (jRun (fun k => covR on fA nA (cl x) (cl (da k))) dw dv (fun k => cl (dc k)) (nI td) (0, rf, bn, bc, bd, bf, lat, ear, cnt, ld) dn)))), (ot, .inl (G.2.2.2, 1, .inr (.inl (vp_updL og 0 ((nI (zD (jRun (fun k => covR on fA nA (cl x) (cl (da k))) dw dv (fun k => cl (dc k)) (nI td) (0, rf, bn, bc, bd, bf, lat, ear, cnt, ld) dn))).toInt64)))))]) [0, 5, 10, 11, 12, 13, 14, 15, 16, 17, 18, 19] rfl)⟩, w.2.1.F ht9⟩) w.2.1.2.2 dL_send_19
set_option maxHeartbeats 4000000 in
set_option maxRecDepth 100000 in
theorem c_L_refusal (l : Launch) (hl0 : l.stackTraces = false) (G : bG) (sz : Nat) (H0 tA tJ gO dO bO sO qs qr jd snt td : Nat) (rf : Nat → Int32) (x : Int32) (ot : Nat) (og : Nat → Int64) (hjd : jd ≤ 16) : Met l yL_refusal wsL_refusal ({ frames := 7, cells := 1, slots := 6, locals := 111 }) (va_Pc [.ref H0, .int x, .ref ot] (bPre G vwCl bNW bSW sz [(H0, .inr (5, [.ref tA, .ref tJ, .ref gO, .ref dO, .ref bO, .ref sO, .ref qs, .ref qr, .int (nI jd), .int (nI snt), .int (nI td)])), (qr, .inl (G.2.1, 16, .inl rf)), (ot, .inl (G.2.2.2, 1, .inr (.inl og)))] [ot])) (va_Qi (fun (r : Int32) (_ : Unit) => r = nI (th1 (tHas jd x))) (fun (_ : Unit) (tS : State) => va_P G.1 vwCl [(ot, .inl (G.2.2.2, 1, .inr (.inl (gF (th1 (tHas jd x)) og (vp_updL og 0 ((rf (cl x)).toInt64))))))] tS.heap) (Aw [ot] sz)) 1 6 (Aw [ot] sz) := by
  refine va_MetW (cc := cL_refusal) (maxL := 4) (ret := (some .int)) (by decide) rfl ?_
  intro p e s m args below meth c s₁ B hml hv
  obtain ⟨rfl, hsz, hP, hD, E, Z⟩ := hv
  have hts := atoms_spec (ws := wsL_refusal) B.pre
  have hown : s.vm.findClass RL = some m.cls := findClass_of_methodNamed B.named
  have X : CallFix p m c cL_refusal 4 s _ wsL_refusal RL := ⟨B.exec, B.bytes, hml, hown, hts⟩
  have hx := B.exec
  have hb := B.bytes
  have hr := B.returns
  have hlocks := B.notSynchronized
  have htab : c.exceptionTable.toList = tableOf [(0, 9, 12, 13)] := vx_table (x := yL_refusal) B (hts _ List.mem_cons_self)
  subst hsz
  have w : bSt G vwCl [] s [(H0, .inr (5, [.ref tA, .ref tJ, .ref gO, .ref dO, .ref bO, .ref sO, .ref qs, .ref qr, .int (nI jd), .int (nI snt), .int (nI td)])), (qr, .inl (G.2.1, 16, .inl rf)), (ot, .inl (G.2.2.2, 1, .inr (.inl og)))] s.heap [] := ⟨hP, va_S.rf, hD⟩
  have Z0 : bZ [] s := ⟨Z.1.narrow (fun q h => h.elim (fun h => nomatch h) Or.inr), Z.2.narrow (fun q h => h.elim (fun h => nomatch h) Or.inr)⟩
  have hl := lv_entry ([.ref H0, .int x, .ref ot]) (n := 4) (Nat.le_of_ble_eq_true rfl)
  rw [lg_entry_eq]
  generalize (lg_sl ([.ref H0, .int x, .ref ot]) ++ List.replicate (4 - (lg_sl ([.ref H0, .int x, .ref ot])).length) Slot.unset).toArray = ls at hl ⊢
  have hl : lv_has ls 4 [(0, .ref H0), (1, .int x), (2, .ref ot)] := hl
  refine lv_aload_n hx hb dL_refusal_0 rfl (lv_at hl 2 rfl) ?_
  refine lv_iconst (v := nI 0) hx hb dL_refusal_1 (by decide) ?_
  refine lv_aload_n hx hb dL_refusal_2 rfl (lv_at hl 0 rfl) ?_
  refine lv_iload_n hx hb dL_refusal_3 rfl (lv_at hl 1 rfl) ?_
  refine b_xcalli w (vx_runV (As := [.int x]) (rest := [.int (nI 0), .ref ot]) X (c_X5_refusal l hl0 G _ (td := td) (H0 := H0) (x := x) (tA := tA) (tJ := tJ) (gO := gO) (dO := dO) (bO := bO) (sO := sO) (qs := qs) (qr := qr) (jd := jd) (snt := snt) (rf := rf) (hjd := (by first | assumption | omega))) (cwV 1 hts gL_refusal_X5_refusal rfl rfl rfl (by decide +kernel) ⟨Nat.le_of_ble_eq_true rfl, Nat.le_of_ble_eq_true rfl⟩) ⟨b_blind, b_recv E w (ci := 5) (q0 := 0) rfl rfl, (fun U9 hU9 hW9 => ⟨rfl, b_pre E Z0 w [0, 1] (by decide) rfl b_nil U9 hU9 hW9⟩)⟩ rfl rfl hl.1 rfl (lv_room (Nat.le_of_ble_eq_true rfl)) dL_refusal_4 ⟨Nat.le_of_ble_eq_true rfl, Nat.le_of_ble_eq_true rfl⟩) b_nil [] (fun _ => rfl) rfl (fun E9 ce9 q9 H9 locs9 hex w9 hce hcv hcl => ?_) (fun r4_2 u4_2 H locs hr4_2 w => ?_)
  · rcases hex with ⟨rfl, hx9⟩
    · have hT : th1 (tHas jd x) = 1 := by first | (simp [th1, th2, th3, hx9]; done) | (simp [th1, th2, th3, hx9]; omega) | (unfold th2; rw [hx9.1, hx9.2]; rfl) | (unfold th2; rw [hx9]; rfl) | (unfold th2; rw [hx9.1, if_pos rfl, if_neg (by simpa using hx9.2)])
      refine vx_catch (name := "java/lang/IndexOutOfBoundsException") hown [] ⟨0, 9, 12, 13⟩ [] htab b_pn (by decide) (by decide) (hts (.classLink RL 13 "java/lang/IndexOutOfBoundsException") (by decide +kernel)) (va_Nw.use rfl (E.2.1 (.castable "java/lang/IndexOutOfBoundsException" "java/lang/IndexOutOfBoundsException") (by decide +kernel)).2) hce hcv hcl ?_
      have w := w9
      refine lv_astore_n (lv' := [(3, .ref q9), (0, .ref H0), (1, .int x), (2, .ref ot)]) hx hb dL_refusal_12 rfl hl (by decide) rfl (fun ls hl => ?_)
      refine lv_iconst (v := nI 1) hx hb dL_refusal_13 (by decide) ?_
      have w := b_wide [ot] b_nil w
      exact W.iret (v := nI 1) hx hb hr (fun t9 ht9 hW9 => ⟨⟨nI 1, (), rfl, by rw [hT], by show va_P G.1 vwCl _ t9.heap; rw [ht9]; exact b_cg (by rw [hT]; rfl) (w.1.sub (ws' := [(ot, .inl (G.2.2.2, 1, .inr (.inl og)))]) [2] rfl)⟩, w.2.1.F ht9⟩) w.2.1.2.2 dL_refusal_14
  have w : bSt G vwCl [] s [(H0, .inr (5, [.ref tA, .ref tJ, .ref gO, .ref dO, .ref bO, .ref sO, .ref qs, .ref qr, .int (nI jd), .int (nI snt), .int (nI td)])), (qr, .inl (G.2.1, 16, .inl rf)), (ot, .inl (G.2.2.2, 1, .inr (.inl og)))] _ _ := w
  obtain ⟨ehr4_2, hr4_2⟩ := hr4_2
  subst ehr4_2
  have hu9 := hr4_2
  have hT : th1 (tHas jd x) = 0 := by first | (simp [th1, th2, th3, hu9]; done) | (simp [th1, th2, th3, hu9]; omega) | (unfold th2; rw [hu9.1, hu9.2]; rfl) | (unfold th1; rw [hu9.1]; rfl)
  refine lv_i2l (v := (rf (cl x)).toInt64) hx hb dL_refusal_7 rfl ?_
  have w := b_wide [ot] b_nil w
  refine b_jast X E w (Or.inl (List.mem_of_getElem? (i := 0) rfl)) 2 rfl 0 rfl (by omega) (by first | decide | omega) dL_refusal_8 (fun H locs w => ?_)
  have w : bSt G vwCl [ot] s [(H0, .inr (5, [.ref tA, .ref tJ, .ref gO, .ref dO, .ref bO, .ref sO, .ref qs, .ref qr, .int (nI jd), .int (nI snt), .int (nI td)])), (qr, .inl (G.2.1, 16, .inl rf)), (ot, .inl (G.2.2.2, 1, .inr (.inl (vp_updL og 0 ((rf (cl x)).toInt64)))))] _ _ := w
  refine lv_goto (tgt := 15) hx hb dL_refusal_9 (by decide) ?_
  refine lv_iconst (v := nI 0) hx hb dL_refusal_15 (by decide) ?_
  exact W.iret (v := nI 0) hx hb hr (fun t9 ht9 hW9 => ⟨⟨nI 0, (), rfl, by rw [hT], by show va_P G.1 vwCl _ t9.heap; rw [ht9]; exact b_cg (by rw [hT]; rfl) (w.1.sub (ws' := [(ot, .inl (G.2.2.2, 1, .inr (.inl (vp_updL og 0 ((rf (cl x)).toInt64)))))]) [2] rfl)⟩, w.2.1.F ht9⟩) w.2.1.2.2 dL_refusal_16
set_option maxHeartbeats 4000000 in
set_option maxRecDepth 100000 in
theorem c_L_pass (l : Launch) (hl0 : l.stackTraces = false) (G : bG) (sz : Nat) (H0 tA tJ gO dO bO sO qs qr jd snt td : Nat) (x : Int32) (ot : Nat) (og : Nat → Int64) (htd : td ≤ 1000) : Met l yL_pass wsL_pass ({ frames := 7, cells := 1, slots := 6, locals := 111 }) (va_Pc [.ref H0, .int x, .ref ot] (bPre G vwCl bNW bSW sz [(H0, .inr (5, [.ref tA, .ref tJ, .ref gO, .ref dO, .ref bO, .ref sO, .ref qs, .ref qr, .int (nI jd), .int (nI snt), .int (nI td)])), (ot, .inl (G.2.2.2, 1, .inr (.inl og)))] [H0, ot])) (va_Qi (fun (r : Int32) (_ : Unit) => r = nI (th2 (pOk x) (decide (td + cl x ≤ 1000)))) (fun (_ : Unit) (tS : State) => va_P G.1 vwCl [(H0, .inr (5, [.ref tA, .ref tJ, .ref gO, .ref dO, .ref bO, .ref sO, .ref qs, .ref qr, .int (nI jd), .int (nI snt), .int (nI (gN (th2 (pOk x) (decide (td + cl x ≤ 1000))) td (td + cl x)))])), (ot, .inl (G.2.2.2, 1, .inr (.inl (gF (th2 (pOk x) (decide (td + cl x ≤ 1000))) og (vp_updL og 0 ((nI (td + cl x)).toInt64))))))] tS.heap) (Aw [H0, ot] sz)) 1 6 (Aw [H0, ot] sz) := by
  refine va_MetW (cc := cL_pass) (maxL := 4) (ret := (some .int)) (by decide) rfl ?_
  intro p e s m args below meth c s₁ B hml hv
  obtain ⟨rfl, hsz, hP, hD, E, Z⟩ := hv
  have hts := atoms_spec (ws := wsL_pass) B.pre
  have hown : s.vm.findClass RL = some m.cls := findClass_of_methodNamed B.named
  have X : CallFix p m c cL_pass 4 s _ wsL_pass RL := ⟨B.exec, B.bytes, hml, hown, hts⟩
  have hx := B.exec
  have hb := B.bytes
  have hr := B.returns
  have hlocks := B.notSynchronized
  have htab : c.exceptionTable.toList = tableOf [(0, 9, 12, 28), (0, 9, 15, 15)] := vx_table (x := yL_pass) B (hts _ List.mem_cons_self)
  subst hsz
  have w : bSt G vwCl [] s [(H0, .inr (5, [.ref tA, .ref tJ, .ref gO, .ref dO, .ref bO, .ref sO, .ref qs, .ref qr, .int (nI jd), .int (nI snt), .int (nI td)])), (ot, .inl (G.2.2.2, 1, .inr (.inl og)))] s.heap [] := ⟨hP, va_S.rf, hD⟩
  have Z0 : bZ [] s := ⟨Z.1.narrow (fun q h => h.elim (fun h => nomatch h) Or.inr), Z.2.narrow (fun q h => h.elim (fun h => nomatch h) Or.inr)⟩
  have hl := lv_entry ([.ref H0, .int x, .ref ot]) (n := 4) (Nat.le_of_ble_eq_true rfl)
  rw [lg_entry_eq]
  generalize (lg_sl ([.ref H0, .int x, .ref ot]) ++ List.replicate (4 - (lg_sl ([.ref H0, .int x, .ref ot])).length) Slot.unset).toArray = ls at hl ⊢
  have hl : lv_has ls 4 [(0, .ref H0), (1, .int x), (2, .ref ot)] := hl
  refine lv_aload_n hx hb dL_pass_0 rfl (lv_at hl 2 rfl) ?_
  refine lv_iconst (v := nI 0) hx hb dL_pass_1 (by decide) ?_
  refine lv_aload_n hx hb dL_pass_2 rfl (lv_at hl 0 rfl) ?_
  refine lv_iload_n hx hb dL_pass_3 rfl (lv_at hl 1 rfl) ?_
  have w := b_wide [H0, ot] b_nil w
  refine b_xcalli w (vx_runV (As := [.int x]) (rest := [.int (nI 0), .ref ot]) X (c_X5_pass l hl0 G _ (td := td) (H0 := H0) (x := x) (tA := tA) (tJ := tJ) (gO := gO) (dO := dO) (bO := bO) (sO := sO) (qs := qs) (qr := qr) (jd := jd) (snt := snt) (htd := (by first | assumption | omega))) (cwV 1 hts gL_pass_X5_pass rfl rfl rfl (by decide +kernel) ⟨Nat.le_of_ble_eq_true rfl, Nat.le_of_ble_eq_true rfl⟩) ⟨b_blind, b_recv E w (ci := 5) (q0 := 0) rfl rfl, (fun U9 hU9 hW9 => ⟨rfl, b_pre E Z w [0] (by decide) rfl (b_subA [0] rfl) U9 hU9 hW9⟩)⟩ rfl rfl hl.1 rfl (lv_room (Nat.le_of_ble_eq_true rfl)) dL_pass_4 ⟨Nat.le_of_ble_eq_true rfl, Nat.le_of_ble_eq_true rfl⟩) (b_subA [0] rfl) [0] (fun _ => rfl) rfl (fun E9 ce9 q9 H9 locs9 hex w9 hce hcv hcl => ?_) (fun r4_2 u4_2 H locs hr4_2 w => ?_)
  · rcases hex with ⟨rfl, hx9⟩ | ⟨rfl, hx9⟩
    · have hT : th2 (pOk x) (decide (td + cl x ≤ 1000)) = 1 := by first | (simp [th1, th2, th3, hx9]; done) | (simp [th1, th2, th3, hx9]; omega) | (unfold th2; rw [hx9.1, hx9.2]; rfl) | (unfold th2; rw [hx9]; rfl) | (unfold th2; rw [hx9.1, if_pos rfl, if_neg (by simpa using hx9.2)])
      refine vx_catch (name := "java/lang/IllegalArgumentException") hown [] ⟨0, 9, 12, 28⟩ [⟨0, 9, 15, 15⟩] htab b_pn (by decide) (by decide) (hts (.classLink RL 28 "java/lang/IllegalArgumentException") (by decide +kernel)) (va_Nw.use rfl (E.2.1 (.castable "java/lang/IllegalArgumentException" "java/lang/IllegalArgumentException") (by decide +kernel)).2) hce hcv hcl ?_
      have w := w9
      refine lv_astore_n (lv' := [(3, .ref q9), (0, .ref H0), (1, .int x), (2, .ref ot)]) hx hb dL_pass_12 rfl hl (by decide) rfl (fun ls hl => ?_)
      refine lv_iconst (v := nI 1) hx hb dL_pass_13 (by decide) ?_
      exact W.iret (v := nI 1) hx hb hr (fun t9 ht9 hW9 => ⟨⟨nI 1, (), rfl, by rw [hT], by show va_P G.1 vwCl _ t9.heap; rw [ht9]; exact b_cg (by rw [hT]; rfl) (w.1.sub (ws' := [(H0, .inr (5, [.ref tA, .ref tJ, .ref gO, .ref dO, .ref bO, .ref sO, .ref qs, .ref qr, .int (nI jd), .int (nI snt), .int (nI td)])), (ot, .inl (G.2.2.2, 1, .inr (.inl og)))]) [0, 1] rfl)⟩, w.2.1.F ht9⟩) w.2.1.2.2 dL_pass_14
    · have hT : th2 (pOk x) (decide (td + cl x ≤ 1000)) = 2 := by first | (simp [th1, th2, th3, hx9]; done) | (simp [th1, th2, th3, hx9]; omega) | (unfold th2; rw [hx9.1, hx9.2]; rfl) | (unfold th2; rw [hx9]; rfl) | (unfold th2; rw [hx9.1, if_pos rfl, if_neg (by simpa using hx9.2)])
      refine vx_catch (name := "java/lang/IllegalStateException") hown [⟨0, 9, 12, 28⟩] ⟨0, 9, 15, 15⟩ [] htab (b_pc (Or.inr ⟨by decide, "java/lang/IllegalArgumentException", hts (.classLink RL 28 "java/lang/IllegalArgumentException") (by decide +kernel), va_Nc.of (args := #[]) (E.2.1 (.not (.castable "java/lang/IllegalStateException" "java/lang/IllegalArgumentException")) (by decide +kernel)).2⟩) b_pn) (by decide) (by decide) (hts (.classLink RL 15 "java/lang/IllegalStateException") (by decide +kernel)) (va_Nw.use rfl (E.2.1 (.castable "java/lang/IllegalStateException" "java/lang/IllegalStateException") (by decide +kernel)).2) hce hcv hcl ?_
      have w := w9
      refine lv_astore_n (lv' := [(3, .ref q9), (0, .ref H0), (1, .int x), (2, .ref ot)]) hx hb dL_pass_15 rfl hl (by decide) rfl (fun ls hl => ?_)
      refine lv_iconst (v := nI 2) hx hb dL_pass_16 (by decide) ?_
      exact W.iret (v := nI 2) hx hb hr (fun t9 ht9 hW9 => ⟨⟨nI 2, (), rfl, by rw [hT], by show va_P G.1 vwCl _ t9.heap; rw [ht9]; exact b_cg (by rw [hT]; rfl) (w.1.sub (ws' := [(H0, .inr (5, [.ref tA, .ref tJ, .ref gO, .ref dO, .ref bO, .ref sO, .ref qs, .ref qr, .int (nI jd), .int (nI snt), .int (nI td)])), (ot, .inl (G.2.2.2, 1, .inr (.inl og)))]) [0, 1] rfl)⟩, w.2.1.F ht9⟩) w.2.1.2.2 dL_pass_17
  have w : bSt G vwCl [H0, ot] s [(H0, .inr (5, [.ref tA, .ref tJ, .ref gO, .ref dO, .ref bO, .ref sO, .ref qs, .ref qr, .int (nI jd), .int (nI snt), .int (nI (td + cl x))])), (ot, .inl (G.2.2.2, 1, .inr (.inl og)))] _ _ := w
  obtain ⟨ehr4_2, hr4_2⟩ := hr4_2
  subst ehr4_2
  have hu9 := hr4_2
  have hT : th2 (pOk x) (decide (td + cl x ≤ 1000)) = 0 := by first | (simp [th1, th2, th3, hu9]; done) | (simp [th1, th2, th3, hu9]; omega) | (unfold th2; rw [hu9.1, hu9.2]; rfl) | (unfold th1; rw [hu9.1]; rfl)
  refine lv_i2l (v := (nI (td + cl x)).toInt64) hx hb dL_pass_7 rfl ?_
  refine b_jast X E w (Or.inl (List.mem_of_getElem? (i := 1) rfl)) 1 rfl 0 rfl (by omega) (by first | decide | omega) dL_pass_8 (fun H locs w => ?_)
  have w : bSt G vwCl [H0, ot] s [(H0, .inr (5, [.ref tA, .ref tJ, .ref gO, .ref dO, .ref bO, .ref sO, .ref qs, .ref qr, .int (nI jd), .int (nI snt), .int (nI (td + cl x))])), (ot, .inl (G.2.2.2, 1, .inr (.inl (vp_updL og 0 ((nI (td + cl x)).toInt64)))))] _ _ := w
  refine lv_goto (tgt := 18) hx hb dL_pass_9 (by decide) ?_
  refine lv_iconst (v := nI 0) hx hb dL_pass_18 (by decide) ?_
  exact W.iret (v := nI 0) hx hb hr (fun t9 ht9 hW9 => ⟨⟨nI 0, (), rfl, by rw [hT], by show va_P G.1 vwCl _ t9.heap; rw [ht9]; exact b_cg (by rw [hT]; rfl) (w.1.sub (ws' := [(H0, .inr (5, [.ref tA, .ref tJ, .ref gO, .ref dO, .ref bO, .ref sO, .ref qs, .ref qr, .int (nI jd), .int (nI snt), .int (nI (td + cl x))])), (ot, .inl (G.2.2.2, 1, .inr (.inl (vp_updL og 0 ((nI (td + cl x)).toInt64)))))]) [0, 1] rfl)⟩, w.2.1.F ht9⟩) w.2.1.2.2 dL_pass_19
set_option maxHeartbeats 4000000 in
set_option maxRecDepth 100000 in
theorem c_L_figure (l : Launch) (hl0 : l.stackTraces = false) (G : bG) (sz : Nat) (H0 tA tJ gO dO bO sO qs qr jd snt td : Nat) (oA nA : Nat) (oJ nJ : Nat) (ql qe qn qt qc qd qf bn : Nat) (bc : Nat → Int32) (bd : Nat → Int32) (bf : Nat → Int32) (x y z d : Int32) (ot : Nat) (og : Nat → Int64) (hnA : nA ≤ 14) (hnJ : nJ ≤ 10) (hbn : bn ≤ 300) : Met l yL_figure wsL_figure ({ frames := 8, cells := 2, slots := 12, locals := 138 }) (va_Pc [.ref H0, .int x, .int y, .int z, .int d, .ref ot] (bPre G vwCl bNW bSW sz [(H0, .inr (5, [.ref tA, .ref tJ, .ref gO, .ref dO, .ref bO, .ref sO, .ref qs, .ref qr, .int (nI jd), .int (nI snt), .int (nI td)])), (tA, .inr (4, [.ref oA, .int (nI 10), .int (nI nA)])), (tJ, .inr (4, [.ref oJ, .int (nI 1), .int (nI nJ)])), (bO, .inr (1, [.ref ql, .ref qe, .ref qn, .ref qt, .ref qc, .ref qd, .ref qf, .int (nI bn)])), (qc, .inl (G.2.1, 300, .inl bc)), (qd, .inl (G.2.1, 300, .inl bd)), (qf, .inl (G.2.1, 300, .inl bf)), (ot, .inl (G.2.2.2, 1, .inr (.inl og)))] [ot])) (va_Qi (fun (r : Int32) (_ : Unit) => r = nI (th2 (okC nA nJ x y z) (dOk td d))) (fun (_ : Unit) (tS : State) => va_P G.1 vwCl [(ot, .inl (G.2.2.2, 1, .inr (.inl (gF (th2 (okC nA nJ x y z) (dOk td d)) og (vp_updL og 0 ((fo bc bd bf (nI (cN x y z)) d bn).toInt64))))))] tS.heap) (Aw [ot] sz)) 2 12 (Aw [ot] sz) := by
  refine va_MetW (cc := cL_figure) (maxL := 7) (ret := (some .int)) (by decide) rfl ?_
  intro p e s m args below meth c s₁ B hml hv
  obtain ⟨rfl, hsz, hP, hD, E, Z⟩ := hv
  have hts := atoms_spec (ws := wsL_figure) B.pre
  have hown : s.vm.findClass RL = some m.cls := findClass_of_methodNamed B.named
  have X : CallFix p m c cL_figure 7 s _ wsL_figure RL := ⟨B.exec, B.bytes, hml, hown, hts⟩
  have hx := B.exec
  have hb := B.bytes
  have hr := B.returns
  have hlocks := B.notSynchronized
  have htab : c.exceptionTable.toList = tableOf [(0, 14, 17, 13), (0, 14, 21, 28)] := vx_table (x := yL_figure) B (hts _ List.mem_cons_self)
  subst hsz
  have w : bSt G vwCl [] s [(H0, .inr (5, [.ref tA, .ref tJ, .ref gO, .ref dO, .ref bO, .ref sO, .ref qs, .ref qr, .int (nI jd), .int (nI snt), .int (nI td)])), (tA, .inr (4, [.ref oA, .int (nI 10), .int (nI nA)])), (tJ, .inr (4, [.ref oJ, .int (nI 1), .int (nI nJ)])), (bO, .inr (1, [.ref ql, .ref qe, .ref qn, .ref qt, .ref qc, .ref qd, .ref qf, .int (nI bn)])), (qc, .inl (G.2.1, 300, .inl bc)), (qd, .inl (G.2.1, 300, .inl bd)), (qf, .inl (G.2.1, 300, .inl bf)), (ot, .inl (G.2.2.2, 1, .inr (.inl og)))] s.heap [] := ⟨hP, va_S.rf, hD⟩
  have Z0 : bZ [] s := ⟨Z.1.narrow (fun q h => h.elim (fun h => nomatch h) Or.inr), Z.2.narrow (fun q h => h.elim (fun h => nomatch h) Or.inr)⟩
  have hl := lv_entry ([.ref H0, .int x, .int y, .int z, .int d, .ref ot]) (n := 7) (Nat.le_of_ble_eq_true rfl)
  rw [lg_entry_eq]
  generalize (lg_sl ([.ref H0, .int x, .int y, .int z, .int d, .ref ot]) ++ List.replicate (7 - (lg_sl ([.ref H0, .int x, .int y, .int z, .int d, .ref ot])).length) Slot.unset).toArray = ls at hl ⊢
  have hl : lv_has ls 7 [(0, .ref H0), (1, .int x), (2, .int y), (3, .int z), (4, .int d), (5, .ref ot)] := hl
  refine lv_aload hx hb dL_figure_0 (lv_at hl 5 rfl) ?_
  refine lv_iconst (v := nI 0) hx hb dL_figure_2 (by decide) ?_
  refine lv_aload_n hx hb dL_figure_3 rfl (lv_at hl 0 rfl) ?_
  refine lv_iload_n hx hb dL_figure_4 rfl (lv_at hl 1 rfl) ?_
  refine lv_iload_n hx hb dL_figure_5 rfl (lv_at hl 2 rfl) ?_
  refine lv_iload_n hx hb dL_figure_6 rfl (lv_at hl 3 rfl) ?_
  refine lv_iload hx hb dL_figure_7 (lv_at hl 4 rfl) ?_
  refine b_xcalli w (vx_runV (As := [.int x, .int y, .int z, .int d]) (rest := [.int (nI 0), .ref ot]) X (c_X5_figure l hl0 G _ (td := td) (H0 := H0) (x := x) (y := y) (z := z) (d := d) (tA := tA) (tJ := tJ) (gO := gO) (dO := dO) (bO := bO) (sO := sO) (qs := qs) (qr := qr) (jd := jd) (snt := snt) (oA := oA) (nA := nA) (oJ := oJ) (nJ := nJ) (ql := ql) (qe := qe) (qn := qn) (qt := qt) (qc := qc) (qd := qd) (qf := qf) (bn := bn) (bc := bc) (bd := bd) (bf := bf) (hnA := (by first | assumption | omega)) (hnJ := (by first | assumption | omega)) (hbn := (by first | assumption | omega))) (cwV 4 hts gL_figure_X5_figure rfl rfl rfl (by decide +kernel) ⟨Nat.le_of_ble_eq_true rfl, Nat.le_of_ble_eq_true rfl⟩) ⟨b_blind, b_recv E w (ci := 5) (q0 := 0) rfl rfl, (fun U9 hU9 hW9 => ⟨rfl, b_pre E Z0 w [0, 1, 2, 3, 4, 5, 6] (by decide) rfl b_nil U9 hU9 hW9⟩)⟩ rfl rfl hl.1 rfl (lv_room (Nat.le_of_ble_eq_true rfl)) dL_figure_9 ⟨Nat.le_of_ble_eq_true rfl, Nat.le_of_ble_eq_true rfl⟩) b_nil [] (fun _ => rfl) rfl (fun E9 ce9 q9 H9 locs9 hex w9 hce hcv hcl => ?_) (fun r9_2 u9_2 H locs hr9_2 w => ?_)
  · rcases hex with ⟨rfl, hx9⟩ | ⟨rfl, hx9⟩
    · have hT : th2 (okC nA nJ x y z) (dOk td d) = 1 := by first | (simp [th1, th2, th3, hx9]; done) | (simp [th1, th2, th3, hx9]; omega) | (unfold th2; rw [hx9.1, hx9.2]; rfl) | (unfold th2; rw [hx9]; rfl) | (unfold th2; rw [hx9.1, if_pos rfl, if_neg (by simpa using hx9.2)])
      refine vx_catch (name := "java/lang/IndexOutOfBoundsException") hown [] ⟨0, 14, 17, 13⟩ [⟨0, 14, 21, 28⟩] htab b_pn (by decide) (by decide) (hts (.classLink RL 13 "java/lang/IndexOutOfBoundsException") (by decide +kernel)) (va_Nw.use rfl (E.2.1 (.castable "java/lang/IndexOutOfBoundsException" "java/lang/IndexOutOfBoundsException") (by decide +kernel)).2) hce hcv hcl ?_
      have w := w9
      refine lv_astore (lv' := [(6, .ref q9), (0, .ref H0), (1, .int x), (2, .int y), (3, .int z), (4, .int d), (5, .ref ot)]) hx hb dL_figure_17 hl (by decide) rfl (fun ls hl => ?_)
      refine lv_iconst (v := nI 1) hx hb dL_figure_19 (by decide) ?_
      have w := b_wide [ot] b_nil w
      exact W.iret (v := nI 1) hx hb hr (fun t9 ht9 hW9 => ⟨⟨nI 1, (), rfl, by rw [hT], by show va_P G.1 vwCl _ t9.heap; rw [ht9]; exact b_cg (by rw [hT]; rfl) (w.1.sub (ws' := [(ot, .inl (G.2.2.2, 1, .inr (.inl og)))]) [7] rfl)⟩, w.2.1.F ht9⟩) w.2.1.2.2 dL_figure_20
    · have hT : th2 (okC nA nJ x y z) (dOk td d) = 2 := by first | (simp [th1, th2, th3, hx9]; done) | (simp [th1, th2, th3, hx9]; omega) | (unfold th2; rw [hx9.1, hx9.2]; rfl) | (unfold th2; rw [hx9]; rfl) | (unfold th2; rw [hx9.1, if_pos rfl, if_neg (by simpa using hx9.2)])
      refine vx_catch (name := "java/lang/IllegalArgumentException") hown [⟨0, 14, 17, 13⟩] ⟨0, 14, 21, 28⟩ [] htab (b_pc (Or.inr ⟨by decide, "java/lang/IndexOutOfBoundsException", hts (.classLink RL 13 "java/lang/IndexOutOfBoundsException") (by decide +kernel), va_Nc.of (args := #[]) (E.2.1 (.not (.castable "java/lang/IllegalArgumentException" "java/lang/IndexOutOfBoundsException")) (by decide +kernel)).2⟩) b_pn) (by decide) (by decide) (hts (.classLink RL 28 "java/lang/IllegalArgumentException") (by decide +kernel)) (va_Nw.use rfl (E.2.1 (.castable "java/lang/IllegalArgumentException" "java/lang/IllegalArgumentException") (by decide +kernel)).2) hce hcv hcl ?_
      have w := w9
      refine lv_astore (lv' := [(6, .ref q9), (0, .ref H0), (1, .int x), (2, .int y), (3, .int z), (4, .int d), (5, .ref ot)]) hx hb dL_figure_21 hl (by decide) rfl (fun ls hl => ?_)
      refine lv_iconst (v := nI 2) hx hb dL_figure_23 (by decide) ?_
      have w := b_wide [ot] b_nil w
      exact W.iret (v := nI 2) hx hb hr (fun t9 ht9 hW9 => ⟨⟨nI 2, (), rfl, by rw [hT], by show va_P G.1 vwCl _ t9.heap; rw [ht9]; exact b_cg (by rw [hT]; rfl) (w.1.sub (ws' := [(ot, .inl (G.2.2.2, 1, .inr (.inl og)))]) [7] rfl)⟩, w.2.1.F ht9⟩) w.2.1.2.2 dL_figure_24
  have w : bSt G vwCl [] s [(H0, .inr (5, [.ref tA, .ref tJ, .ref gO, .ref dO, .ref bO, .ref sO, .ref qs, .ref qr, .int (nI jd), .int (nI snt), .int (nI td)])), (tA, .inr (4, [.ref oA, .int (nI 10), .int (nI nA)])), (tJ, .inr (4, [.ref oJ, .int (nI 1), .int (nI nJ)])), (bO, .inr (1, [.ref ql, .ref qe, .ref qn, .ref qt, .ref qc, .ref qd, .ref qf, .int (nI bn)])), (qc, .inl (G.2.1, 300, .inl bc)), (qd, .inl (G.2.1, 300, .inl bd)), (qf, .inl (G.2.1, 300, .inl bf)), (ot, .inl (G.2.2.2, 1, .inr (.inl og)))] _ _ := w
  obtain ⟨ehr9_2, hr9_2⟩ := hr9_2
  subst ehr9_2
  have hu9 := hr9_2
  have hT : th2 (okC nA nJ x y z) (dOk td d) = 0 := by first | (simp [th1, th2, th3, hu9]; done) | (simp [th1, th2, th3, hu9]; omega) | (unfold th2; rw [hu9.1, hu9.2]; rfl) | (unfold th1; rw [hu9.1]; rfl)
  refine lv_i2l (v := (fo bc bd bf (nI (cN x y z)) d bn).toInt64) hx hb dL_figure_12 rfl ?_
  have w := b_wide [ot] b_nil w
  refine b_jast X E w (Or.inl (List.mem_of_getElem? (i := 0) rfl)) 7 rfl 0 rfl (by omega) (by first | decide | omega) dL_figure_13 (fun H locs w => ?_)
  have w : bSt G vwCl [ot] s [(H0, .inr (5, [.ref tA, .ref tJ, .ref gO, .ref dO, .ref bO, .ref sO, .ref qs, .ref qr, .int (nI jd), .int (nI snt), .int (nI td)])), (tA, .inr (4, [.ref oA, .int (nI 10), .int (nI nA)])), (tJ, .inr (4, [.ref oJ, .int (nI 1), .int (nI nJ)])), (bO, .inr (1, [.ref ql, .ref qe, .ref qn, .ref qt, .ref qc, .ref qd, .ref qf, .int (nI bn)])), (qc, .inl (G.2.1, 300, .inl bc)), (qd, .inl (G.2.1, 300, .inl bd)), (qf, .inl (G.2.1, 300, .inl bf)), (ot, .inl (G.2.2.2, 1, .inr (.inl (vp_updL og 0 ((fo bc bd bf (nI (cN x y z)) d bn).toInt64)))))] _ _ := w
  refine lv_goto (tgt := 25) hx hb dL_figure_14 (by decide) ?_
  refine lv_iconst (v := nI 0) hx hb dL_figure_25 (by decide) ?_
  exact W.iret (v := nI 0) hx hb hr (fun t9 ht9 hW9 => ⟨⟨nI 0, (), rfl, by rw [hT], by show va_P G.1 vwCl _ t9.heap; rw [ht9]; exact b_cg (by rw [hT]; rfl) (w.1.sub (ws' := [(ot, .inl (G.2.2.2, 1, .inr (.inl (vp_updL og 0 ((fo bc bd bf (nI (cN x y z)) d bn).toInt64)))))]) [7] rfl)⟩, w.2.1.F ht9⟩) w.2.1.2.2 dL_figure_26
set_option maxHeartbeats 4000000 in
set_option maxRecDepth 100000 in
theorem c_L_first (l : Launch) (hl0 : l.stackTraces = false) (G : bG) (sz : Nat) (H0 tA tJ gO dO bO sO qs qr jd snt td : Nat) (oA nA : Nat) (oJ nJ : Nat) (ql qe qn qt qc qd qf bn : Nat) (ear : Nat → Int32) (x y z : Int32) (ot : Nat) (og : Nat → Int64) (hnA : nA ≤ 14) (hnJ : nJ ≤ 10) : Met l yL_first wsL_first ({ frames := 8, cells := 1, slots := 6, locals := 136 }) (va_Pc [.ref H0, .int x, .int y, .int z, .ref ot] (bPre G vwCl bNW bSW sz [(H0, .inr (5, [.ref tA, .ref tJ, .ref gO, .ref dO, .ref bO, .ref sO, .ref qs, .ref qr, .int (nI jd), .int (nI snt), .int (nI td)])), (tA, .inr (4, [.ref oA, .int (nI 10), .int (nI nA)])), (tJ, .inr (4, [.ref oJ, .int (nI 1), .int (nI nJ)])), (bO, .inr (1, [.ref ql, .ref qe, .ref qn, .ref qt, .ref qc, .ref qd, .ref qf, .int (nI bn)])), (qe, .inl (G.2.1, 1680, .inl ear)), (ot, .inl (G.2.2.2, 1, .inr (.inl og)))] [ot])) (va_Qi (fun (r : Int32) (_ : Unit) => r = nI (th1 (okC nA nJ x y z))) (fun (_ : Unit) (tS : State) => va_P G.1 vwCl [(ot, .inl (G.2.2.2, 1, .inr (.inl (gF (th1 (okC nA nJ x y z)) og (vp_updL og 0 ((ear (cN x y z)).toInt64))))))] tS.heap) (Aw [ot] sz)) 1 6 (Aw [ot] sz) := by
  refine va_MetW (cc := cL_first) (maxL := 6) (ret := (some .int)) (by decide) rfl ?_
  intro p e s m args below meth c s₁ B hml hv
  obtain ⟨rfl, hsz, hP, hD, E, Z⟩ := hv
  have hts := atoms_spec (ws := wsL_first) B.pre
  have hown : s.vm.findClass RL = some m.cls := findClass_of_methodNamed B.named
  have X : CallFix p m c cL_first 6 s _ wsL_first RL := ⟨B.exec, B.bytes, hml, hown, hts⟩
  have hx := B.exec
  have hb := B.bytes
  have hr := B.returns
  have hlocks := B.notSynchronized
  have htab : c.exceptionTable.toList = tableOf [(0, 12, 15, 13)] := vx_table (x := yL_first) B (hts _ List.mem_cons_self)
  subst hsz
  have w : bSt G vwCl [] s [(H0, .inr (5, [.ref tA, .ref tJ, .ref gO, .ref dO, .ref bO, .ref sO, .ref qs, .ref qr, .int (nI jd), .int (nI snt), .int (nI td)])), (tA, .inr (4, [.ref oA, .int (nI 10), .int (nI nA)])), (tJ, .inr (4, [.ref oJ, .int (nI 1), .int (nI nJ)])), (bO, .inr (1, [.ref ql, .ref qe, .ref qn, .ref qt, .ref qc, .ref qd, .ref qf, .int (nI bn)])), (qe, .inl (G.2.1, 1680, .inl ear)), (ot, .inl (G.2.2.2, 1, .inr (.inl og)))] s.heap [] := ⟨hP, va_S.rf, hD⟩
  have Z0 : bZ [] s := ⟨Z.1.narrow (fun q h => h.elim (fun h => nomatch h) Or.inr), Z.2.narrow (fun q h => h.elim (fun h => nomatch h) Or.inr)⟩
  have hl := lv_entry ([.ref H0, .int x, .int y, .int z, .ref ot]) (n := 6) (Nat.le_of_ble_eq_true rfl)
  rw [lg_entry_eq]
  generalize (lg_sl ([.ref H0, .int x, .int y, .int z, .ref ot]) ++ List.replicate (6 - (lg_sl ([.ref H0, .int x, .int y, .int z, .ref ot])).length) Slot.unset).toArray = ls at hl ⊢
  have hl : lv_has ls 6 [(0, .ref H0), (1, .int x), (2, .int y), (3, .int z), (4, .ref ot)] := hl
  refine lv_aload hx hb dL_first_0 (lv_at hl 4 rfl) ?_
  refine lv_iconst (v := nI 0) hx hb dL_first_2 (by decide) ?_
  refine lv_aload_n hx hb dL_first_3 rfl (lv_at hl 0 rfl) ?_
  refine lv_iload_n hx hb dL_first_4 rfl (lv_at hl 1 rfl) ?_
  refine lv_iload_n hx hb dL_first_5 rfl (lv_at hl 2 rfl) ?_
  refine lv_iload_n hx hb dL_first_6 rfl (lv_at hl 3 rfl) ?_
  refine b_xcalli w (vx_runV (As := [.int x, .int y, .int z]) (rest := [.int (nI 0), .ref ot]) X (c_X5_first l hl0 G _ (td := td) (H0 := H0) (x := x) (y := y) (z := z) (tA := tA) (tJ := tJ) (gO := gO) (dO := dO) (bO := bO) (sO := sO) (qs := qs) (qr := qr) (jd := jd) (snt := snt) (oA := oA) (nA := nA) (oJ := oJ) (nJ := nJ) (ql := ql) (qe := qe) (qn := qn) (qt := qt) (qc := qc) (qd := qd) (qf := qf) (bn := bn) (ear := ear) (hnA := (by first | assumption | omega)) (hnJ := (by first | assumption | omega))) (cwV 3 hts gL_first_X5_first rfl rfl rfl (by decide +kernel) ⟨Nat.le_of_ble_eq_true rfl, Nat.le_of_ble_eq_true rfl⟩) ⟨b_blind, b_recv E w (ci := 5) (q0 := 0) rfl rfl, (fun U9 hU9 hW9 => ⟨rfl, b_pre E Z0 w [0, 1, 2, 3, 4] (by decide) rfl b_nil U9 hU9 hW9⟩)⟩ rfl rfl hl.1 rfl (lv_room (Nat.le_of_ble_eq_true rfl)) dL_first_7 ⟨Nat.le_of_ble_eq_true rfl, Nat.le_of_ble_eq_true rfl⟩) b_nil [] (fun _ => rfl) rfl (fun E9 ce9 q9 H9 locs9 hex w9 hce hcv hcl => ?_) (fun r7_2 u7_2 H locs hr7_2 w => ?_)
  · rcases hex with ⟨rfl, hx9⟩
    · have hT : th1 (okC nA nJ x y z) = 1 := by first | (simp [th1, th2, th3, hx9]; done) | (simp [th1, th2, th3, hx9]; omega) | (unfold th2; rw [hx9.1, hx9.2]; rfl) | (unfold th2; rw [hx9]; rfl) | (unfold th2; rw [hx9.1, if_pos rfl, if_neg (by simpa using hx9.2)])
      refine vx_catch (name := "java/lang/IndexOutOfBoundsException") hown [] ⟨0, 12, 15, 13⟩ [] htab b_pn (by decide) (by decide) (hts (.classLink RL 13 "java/lang/IndexOutOfBoundsException") (by decide +kernel)) (va_Nw.use rfl (E.2.1 (.castable "java/lang/IndexOutOfBoundsException" "java/lang/IndexOutOfBoundsException") (by decide +kernel)).2) hce hcv hcl ?_
      have w := w9
      refine lv_astore (lv' := [(5, .ref q9), (0, .ref H0), (1, .int x), (2, .int y), (3, .int z), (4, .ref ot)]) hx hb dL_first_15 hl (by decide) rfl (fun ls hl => ?_)
      refine lv_iconst (v := nI 1) hx hb dL_first_17 (by decide) ?_
      have w := b_wide [ot] b_nil w
      exact W.iret (v := nI 1) hx hb hr (fun t9 ht9 hW9 => ⟨⟨nI 1, (), rfl, by rw [hT], by show va_P G.1 vwCl _ t9.heap; rw [ht9]; exact b_cg (by rw [hT]; rfl) (w.1.sub (ws' := [(ot, .inl (G.2.2.2, 1, .inr (.inl og)))]) [5] rfl)⟩, w.2.1.F ht9⟩) w.2.1.2.2 dL_first_18
  have w : bSt G vwCl [] s [(H0, .inr (5, [.ref tA, .ref tJ, .ref gO, .ref dO, .ref bO, .ref sO, .ref qs, .ref qr, .int (nI jd), .int (nI snt), .int (nI td)])), (tA, .inr (4, [.ref oA, .int (nI 10), .int (nI nA)])), (tJ, .inr (4, [.ref oJ, .int (nI 1), .int (nI nJ)])), (bO, .inr (1, [.ref ql, .ref qe, .ref qn, .ref qt, .ref qc, .ref qd, .ref qf, .int (nI bn)])), (qe, .inl (G.2.1, 1680, .inl ear)), (ot, .inl (G.2.2.2, 1, .inr (.inl og)))] _ _ := w
  obtain ⟨ehr7_2, hr7_2⟩ := hr7_2
  subst ehr7_2
  have hu9 := hr7_2
  have hT : th1 (okC nA nJ x y z) = 0 := by first | (simp [th1, th2, th3, hu9]; done) | (simp [th1, th2, th3, hu9]; omega) | (unfold th2; rw [hu9.1, hu9.2]; rfl) | (unfold th1; rw [hu9.1]; rfl)
  refine lv_i2l (v := (ear (cN x y z)).toInt64) hx hb dL_first_10 rfl ?_
  have w := b_wide [ot] b_nil w
  refine b_jast X E w (Or.inl (List.mem_of_getElem? (i := 0) rfl)) 5 rfl 0 rfl (by omega) (by first | decide | omega) dL_first_11 (fun H locs w => ?_)
  have w : bSt G vwCl [ot] s [(H0, .inr (5, [.ref tA, .ref tJ, .ref gO, .ref dO, .ref bO, .ref sO, .ref qs, .ref qr, .int (nI jd), .int (nI snt), .int (nI td)])), (tA, .inr (4, [.ref oA, .int (nI 10), .int (nI nA)])), (tJ, .inr (4, [.ref oJ, .int (nI 1), .int (nI nJ)])), (bO, .inr (1, [.ref ql, .ref qe, .ref qn, .ref qt, .ref qc, .ref qd, .ref qf, .int (nI bn)])), (qe, .inl (G.2.1, 1680, .inl ear)), (ot, .inl (G.2.2.2, 1, .inr (.inl (vp_updL og 0 ((ear (cN x y z)).toInt64)))))] _ _ := w
  refine lv_goto (tgt := 19) hx hb dL_first_12 (by decide) ?_
  refine lv_iconst (v := nI 0) hx hb dL_first_19 (by decide) ?_
  exact W.iret (v := nI 0) hx hb hr (fun t9 ht9 hW9 => ⟨⟨nI 0, (), rfl, by rw [hT], by show va_P G.1 vwCl _ t9.heap; rw [ht9]; exact b_cg (by rw [hT]; rfl) (w.1.sub (ws' := [(ot, .inl (G.2.2.2, 1, .inr (.inl (vp_updL og 0 ((ear (cN x y z)).toInt64)))))]) [5] rfl)⟩, w.2.1.F ht9⟩) w.2.1.2.2 dL_first_20
set_option maxHeartbeats 4000000 in
set_option maxRecDepth 100000 in
theorem c_L_revisions (l : Launch) (hl0 : l.stackTraces = false) (G : bG) (sz : Nat) (H0 tA tJ gO dO bO sO qs qr jd snt td : Nat) (oA nA : Nat) (oJ nJ : Nat) (ql qe qn qt qc qd qf bn : Nat) (cnt : Nat → Int32) (x y z : Int32) (ot : Nat) (og : Nat → Int64) (hnA : nA ≤ 14) (hnJ : nJ ≤ 10) : Met l yL_revisions wsL_revisions ({ frames := 8, cells := 1, slots := 6, locals := 136 }) (va_Pc [.ref H0, .int x, .int y, .int z, .ref ot] (bPre G vwCl bNW bSW sz [(H0, .inr (5, [.ref tA, .ref tJ, .ref gO, .ref dO, .ref bO, .ref sO, .ref qs, .ref qr, .int (nI jd), .int (nI snt), .int (nI td)])), (tA, .inr (4, [.ref oA, .int (nI 10), .int (nI nA)])), (tJ, .inr (4, [.ref oJ, .int (nI 1), .int (nI nJ)])), (bO, .inr (1, [.ref ql, .ref qe, .ref qn, .ref qt, .ref qc, .ref qd, .ref qf, .int (nI bn)])), (qn, .inl (G.2.1, 1680, .inl cnt)), (ot, .inl (G.2.2.2, 1, .inr (.inl og)))] [ot])) (va_Qi (fun (r : Int32) (_ : Unit) => r = nI (th1 (okC nA nJ x y z))) (fun (_ : Unit) (tS : State) => va_P G.1 vwCl [(ot, .inl (G.2.2.2, 1, .inr (.inl (gF (th1 (okC nA nJ x y z)) og (vp_updL og 0 ((cnt (cN x y z)).toInt64))))))] tS.heap) (Aw [ot] sz)) 1 6 (Aw [ot] sz) := by
  refine va_MetW (cc := cL_revisions) (maxL := 6) (ret := (some .int)) (by decide) rfl ?_
  intro p e s m args below meth c s₁ B hml hv
  obtain ⟨rfl, hsz, hP, hD, E, Z⟩ := hv
  have hts := atoms_spec (ws := wsL_revisions) B.pre
  have hown : s.vm.findClass RL = some m.cls := findClass_of_methodNamed B.named
  have X : CallFix p m c cL_revisions 6 s _ wsL_revisions RL := ⟨B.exec, B.bytes, hml, hown, hts⟩
  have hx := B.exec
  have hb := B.bytes
  have hr := B.returns
  have hlocks := B.notSynchronized
  have htab : c.exceptionTable.toList = tableOf [(0, 12, 15, 13)] := vx_table (x := yL_revisions) B (hts _ List.mem_cons_self)
  subst hsz
  have w : bSt G vwCl [] s [(H0, .inr (5, [.ref tA, .ref tJ, .ref gO, .ref dO, .ref bO, .ref sO, .ref qs, .ref qr, .int (nI jd), .int (nI snt), .int (nI td)])), (tA, .inr (4, [.ref oA, .int (nI 10), .int (nI nA)])), (tJ, .inr (4, [.ref oJ, .int (nI 1), .int (nI nJ)])), (bO, .inr (1, [.ref ql, .ref qe, .ref qn, .ref qt, .ref qc, .ref qd, .ref qf, .int (nI bn)])), (qn, .inl (G.2.1, 1680, .inl cnt)), (ot, .inl (G.2.2.2, 1, .inr (.inl og)))] s.heap [] := ⟨hP, va_S.rf, hD⟩
  have Z0 : bZ [] s := ⟨Z.1.narrow (fun q h => h.elim (fun h => nomatch h) Or.inr), Z.2.narrow (fun q h => h.elim (fun h => nomatch h) Or.inr)⟩
  have hl := lv_entry ([.ref H0, .int x, .int y, .int z, .ref ot]) (n := 6) (Nat.le_of_ble_eq_true rfl)
  rw [lg_entry_eq]
  generalize (lg_sl ([.ref H0, .int x, .int y, .int z, .ref ot]) ++ List.replicate (6 - (lg_sl ([.ref H0, .int x, .int y, .int z, .ref ot])).length) Slot.unset).toArray = ls at hl ⊢
  have hl : lv_has ls 6 [(0, .ref H0), (1, .int x), (2, .int y), (3, .int z), (4, .ref ot)] := hl
  refine lv_aload hx hb dL_revisions_0 (lv_at hl 4 rfl) ?_
  refine lv_iconst (v := nI 0) hx hb dL_revisions_2 (by decide) ?_
  refine lv_aload_n hx hb dL_revisions_3 rfl (lv_at hl 0 rfl) ?_
  refine lv_iload_n hx hb dL_revisions_4 rfl (lv_at hl 1 rfl) ?_
  refine lv_iload_n hx hb dL_revisions_5 rfl (lv_at hl 2 rfl) ?_
  refine lv_iload_n hx hb dL_revisions_6 rfl (lv_at hl 3 rfl) ?_
  refine b_xcalli w (vx_runV (As := [.int x, .int y, .int z]) (rest := [.int (nI 0), .ref ot]) X (c_X5_revisions l hl0 G _ (td := td) (H0 := H0) (x := x) (y := y) (z := z) (tA := tA) (tJ := tJ) (gO := gO) (dO := dO) (bO := bO) (sO := sO) (qs := qs) (qr := qr) (jd := jd) (snt := snt) (oA := oA) (nA := nA) (oJ := oJ) (nJ := nJ) (ql := ql) (qe := qe) (qn := qn) (qt := qt) (qc := qc) (qd := qd) (qf := qf) (bn := bn) (cnt := cnt) (hnA := (by first | assumption | omega)) (hnJ := (by first | assumption | omega))) (cwV 3 hts gL_revisions_X5_revisions rfl rfl rfl (by decide +kernel) ⟨Nat.le_of_ble_eq_true rfl, Nat.le_of_ble_eq_true rfl⟩) ⟨b_blind, b_recv E w (ci := 5) (q0 := 0) rfl rfl, (fun U9 hU9 hW9 => ⟨rfl, b_pre E Z0 w [0, 1, 2, 3, 4] (by decide) rfl b_nil U9 hU9 hW9⟩)⟩ rfl rfl hl.1 rfl (lv_room (Nat.le_of_ble_eq_true rfl)) dL_revisions_7 ⟨Nat.le_of_ble_eq_true rfl, Nat.le_of_ble_eq_true rfl⟩) b_nil [] (fun _ => rfl) rfl (fun E9 ce9 q9 H9 locs9 hex w9 hce hcv hcl => ?_) (fun r7_2 u7_2 H locs hr7_2 w => ?_)
  · rcases hex with ⟨rfl, hx9⟩
    · have hT : th1 (okC nA nJ x y z) = 1 := by first | (simp [th1, th2, th3, hx9]; done) | (simp [th1, th2, th3, hx9]; omega) | (unfold th2; rw [hx9.1, hx9.2]; rfl) | (unfold th2; rw [hx9]; rfl) | (unfold th2; rw [hx9.1, if_pos rfl, if_neg (by simpa using hx9.2)])
      refine vx_catch (name := "java/lang/IndexOutOfBoundsException") hown [] ⟨0, 12, 15, 13⟩ [] htab b_pn (by decide) (by decide) (hts (.classLink RL 13 "java/lang/IndexOutOfBoundsException") (by decide +kernel)) (va_Nw.use rfl (E.2.1 (.castable "java/lang/IndexOutOfBoundsException" "java/lang/IndexOutOfBoundsException") (by decide +kernel)).2) hce hcv hcl ?_
      have w := w9
      refine lv_astore (lv' := [(5, .ref q9), (0, .ref H0), (1, .int x), (2, .int y), (3, .int z), (4, .ref ot)]) hx hb dL_revisions_15 hl (by decide) rfl (fun ls hl => ?_)
      refine lv_iconst (v := nI 1) hx hb dL_revisions_17 (by decide) ?_
      have w := b_wide [ot] b_nil w
      exact W.iret (v := nI 1) hx hb hr (fun t9 ht9 hW9 => ⟨⟨nI 1, (), rfl, by rw [hT], by show va_P G.1 vwCl _ t9.heap; rw [ht9]; exact b_cg (by rw [hT]; rfl) (w.1.sub (ws' := [(ot, .inl (G.2.2.2, 1, .inr (.inl og)))]) [5] rfl)⟩, w.2.1.F ht9⟩) w.2.1.2.2 dL_revisions_18
  have w : bSt G vwCl [] s [(H0, .inr (5, [.ref tA, .ref tJ, .ref gO, .ref dO, .ref bO, .ref sO, .ref qs, .ref qr, .int (nI jd), .int (nI snt), .int (nI td)])), (tA, .inr (4, [.ref oA, .int (nI 10), .int (nI nA)])), (tJ, .inr (4, [.ref oJ, .int (nI 1), .int (nI nJ)])), (bO, .inr (1, [.ref ql, .ref qe, .ref qn, .ref qt, .ref qc, .ref qd, .ref qf, .int (nI bn)])), (qn, .inl (G.2.1, 1680, .inl cnt)), (ot, .inl (G.2.2.2, 1, .inr (.inl og)))] _ _ := w
  obtain ⟨ehr7_2, hr7_2⟩ := hr7_2
  subst ehr7_2
  have hu9 := hr7_2
  have hT : th1 (okC nA nJ x y z) = 0 := by first | (simp [th1, th2, th3, hu9]; done) | (simp [th1, th2, th3, hu9]; omega) | (unfold th2; rw [hu9.1, hu9.2]; rfl) | (unfold th1; rw [hu9.1]; rfl)
  refine lv_i2l (v := (cnt (cN x y z)).toInt64) hx hb dL_revisions_10 rfl ?_
  have w := b_wide [ot] b_nil w
  refine b_jast X E w (Or.inl (List.mem_of_getElem? (i := 0) rfl)) 5 rfl 0 rfl (by omega) (by first | decide | omega) dL_revisions_11 (fun H locs w => ?_)
  have w : bSt G vwCl [ot] s [(H0, .inr (5, [.ref tA, .ref tJ, .ref gO, .ref dO, .ref bO, .ref sO, .ref qs, .ref qr, .int (nI jd), .int (nI snt), .int (nI td)])), (tA, .inr (4, [.ref oA, .int (nI 10), .int (nI nA)])), (tJ, .inr (4, [.ref oJ, .int (nI 1), .int (nI nJ)])), (bO, .inr (1, [.ref ql, .ref qe, .ref qn, .ref qt, .ref qc, .ref qd, .ref qf, .int (nI bn)])), (qn, .inl (G.2.1, 1680, .inl cnt)), (ot, .inl (G.2.2.2, 1, .inr (.inl (vp_updL og 0 ((cnt (cN x y z)).toInt64)))))] _ _ := w
  refine lv_goto (tgt := 19) hx hb dL_revisions_12 (by decide) ?_
  refine lv_iconst (v := nI 0) hx hb dL_revisions_19 (by decide) ?_
  exact W.iret (v := nI 0) hx hb hr (fun t9 ht9 hW9 => ⟨⟨nI 0, (), rfl, by rw [hT], by show va_P G.1 vwCl _ t9.heap; rw [ht9]; exact b_cg (by rw [hT]; rfl) (w.1.sub (ws' := [(ot, .inl (G.2.2.2, 1, .inr (.inl (vp_updL og 0 ((cnt (cN x y z)).toInt64)))))]) [5] rfl)⟩, w.2.1.F ht9⟩) w.2.1.2.2 dL_revisions_20
set_option maxHeartbeats 4000000 in
set_option maxRecDepth 100000 in
theorem c_L_find (l : Launch) (hl0 : l.stackTraces = false) (G : bG) (sz : Nat) (H0 tA tJ gO dO bO sO qs qr jd snt td : Nat) (oA nA : Nat) (fA : Nat → Int32) (oJ nJ : Nat) (fJ : Nat → Int32) (ql qe qn qt qc qd qf bn : Nat) (lat : Nat → Int32) (ld : Nat → Int32) (x y f t sn pl : Int32) (ot : Nat) (og : Nat → Int64) (hnA : nA ≤ 14) (hnJ : nJ ≤ 10) (hTA : TI fA nA) (hTJ : TI fJ nJ) : Met l yL_find wsL_find ({ frames := 8, cells := 3, slots := 18, locals := 137 }) (va_Pc [.ref H0, .int x, .int y, .int f, .int t, .int sn, .int pl, .ref ot] (bPre G vwCl bNW bSW sz [(H0, .inr (5, [.ref tA, .ref tJ, .ref gO, .ref dO, .ref bO, .ref sO, .ref qs, .ref qr, .int (nI jd), .int (nI snt), .int (nI td)])), (tA, .inr (4, [.ref oA, .int (nI 10), .int (nI nA)])), (oA, .inl (G.2.1, 14, .inl fA)), (tJ, .inr (4, [.ref oJ, .int (nI 1), .int (nI nJ)])), (oJ, .inl (G.2.1, 10, .inl fJ)), (bO, .inr (1, [.ref ql, .ref qe, .ref qn, .ref qt, .ref qc, .ref qd, .ref qf, .int (nI bn)])), (ql, .inl (G.2.1, 1680, .inl lat)), (qt, .inl (G.2.1, 1680, .inl ld)), (ot, .inl (G.2.2.2, 1, .inr (.inl og)))] [ot])) (va_Qi (fun (r : Int32) (_ : Unit) => r = nI (th2 (tPat nA x && tPat nJ y && !decide (pl < 0)) (tHas 12 f && tHas 12 t && !decide (t < f) && sOk sn))) (fun (_ : Unit) (tS : State) => va_P G.1 vwCl [(ot, .inl (G.2.2.2, 1, .inr (.inl (gF (th2 (tPat nA x && tPat nJ y && !decide (pl < 0)) (tHas 12 f && tHas 12 t && !decide (t < f) && sOk sn)) og (vp_updL og 0 ((srR (srT (mM fA nA fJ nJ lat ld x y sn) nA nJ (cl f) (cl t) (cl pl))).toInt64))))))] tS.heap) (Aw [ot] sz)) 3 18 (Aw [ot] sz) := by
  refine va_MetW (cc := cL_find) (maxL := 9) (ret := (some .int)) (by decide) rfl ?_
  intro p e s m args below meth c s₁ B hml hv
  obtain ⟨rfl, hsz, hP, hD, E, Z⟩ := hv
  have hts := atoms_spec (ws := wsL_find) B.pre
  have hown : s.vm.findClass RL = some m.cls := findClass_of_methodNamed B.named
  have X : CallFix p m c cL_find 9 s _ wsL_find RL := ⟨B.exec, B.bytes, hml, hown, hts⟩
  have hx := B.exec
  have hb := B.bytes
  have hr := B.returns
  have hlocks := B.notSynchronized
  have htab : c.exceptionTable.toList = tableOf [(0, 18, 21, 13), (0, 18, 25, 28)] := vx_table (x := yL_find) B (hts _ List.mem_cons_self)
  subst hsz
  have w : bSt G vwCl [] s [(H0, .inr (5, [.ref tA, .ref tJ, .ref gO, .ref dO, .ref bO, .ref sO, .ref qs, .ref qr, .int (nI jd), .int (nI snt), .int (nI td)])), (tA, .inr (4, [.ref oA, .int (nI 10), .int (nI nA)])), (oA, .inl (G.2.1, 14, .inl fA)), (tJ, .inr (4, [.ref oJ, .int (nI 1), .int (nI nJ)])), (oJ, .inl (G.2.1, 10, .inl fJ)), (bO, .inr (1, [.ref ql, .ref qe, .ref qn, .ref qt, .ref qc, .ref qd, .ref qf, .int (nI bn)])), (ql, .inl (G.2.1, 1680, .inl lat)), (qt, .inl (G.2.1, 1680, .inl ld)), (ot, .inl (G.2.2.2, 1, .inr (.inl og)))] s.heap [] := ⟨hP, va_S.rf, hD⟩
  have Z0 : bZ [] s := ⟨Z.1.narrow (fun q h => h.elim (fun h => nomatch h) Or.inr), Z.2.narrow (fun q h => h.elim (fun h => nomatch h) Or.inr)⟩
  have hl := lv_entry ([.ref H0, .int x, .int y, .int f, .int t, .int sn, .int pl, .ref ot]) (n := 9) (Nat.le_of_ble_eq_true rfl)
  rw [lg_entry_eq]
  generalize (lg_sl ([.ref H0, .int x, .int y, .int f, .int t, .int sn, .int pl, .ref ot]) ++ List.replicate (9 - (lg_sl ([.ref H0, .int x, .int y, .int f, .int t, .int sn, .int pl, .ref ot])).length) Slot.unset).toArray = ls at hl ⊢
  have hl : lv_has ls 9 [(0, .ref H0), (1, .int x), (2, .int y), (3, .int f), (4, .int t), (5, .int sn), (6, .int pl), (7, .ref ot)] := hl
  refine lv_aload hx hb dL_find_0 (lv_at hl 7 rfl) ?_
  refine lv_iconst (v := nI 0) hx hb dL_find_2 (by decide) ?_
  refine lv_aload_n hx hb dL_find_3 rfl (lv_at hl 0 rfl) ?_
  refine lv_iload_n hx hb dL_find_4 rfl (lv_at hl 1 rfl) ?_
  refine lv_iload_n hx hb dL_find_5 rfl (lv_at hl 2 rfl) ?_
  refine lv_iload_n hx hb dL_find_6 rfl (lv_at hl 3 rfl) ?_
  refine lv_iload hx hb dL_find_7 (lv_at hl 4 rfl) ?_
  refine lv_iload hx hb dL_find_9 (lv_at hl 5 rfl) ?_
  refine lv_iload hx hb dL_find_11 (lv_at hl 6 rfl) ?_
  refine b_xcalli w (vx_runV (As := [.int x, .int y, .int f, .int t, .int sn, .int pl]) (rest := [.int (nI 0), .ref ot]) X (c_X5_find l hl0 G _ (td := td) (H0 := H0) (x := x) (y := y) (f := f) (t := t) (sn := sn) (pl := pl) (tA := tA) (tJ := tJ) (gO := gO) (dO := dO) (bO := bO) (sO := sO) (qs := qs) (qr := qr) (jd := jd) (snt := snt) (oA := oA) (nA := nA) (fA := fA) (oJ := oJ) (nJ := nJ) (fJ := fJ) (ql := ql) (qe := qe) (qn := qn) (qt := qt) (qc := qc) (qd := qd) (qf := qf) (bn := bn) (lat := lat) (ld := ld) (hnA := (by first | assumption | omega)) (hnJ := (by first | assumption | omega)) (hTA := (by first | assumption | omega)) (hTJ := (by first | assumption | omega))) (cwV 6 hts gL_find_X5_find rfl rfl rfl (by decide +kernel) ⟨Nat.le_of_ble_eq_true rfl, Nat.le_of_ble_eq_true rfl⟩) ⟨b_blind, b_recv E w (ci := 5) (q0 := 0) rfl rfl, (fun U9 hU9 hW9 => ⟨rfl, b_pre E Z0 w [0, 1, 2, 3, 4, 5, 6, 7] (by decide) rfl b_nil U9 hU9 hW9⟩)⟩ rfl rfl hl.1 rfl (lv_room (Nat.le_of_ble_eq_true rfl)) dL_find_13 ⟨Nat.le_of_ble_eq_true rfl, Nat.le_of_ble_eq_true rfl⟩) b_nil [] (fun _ => rfl) rfl (fun E9 ce9 q9 H9 locs9 hex w9 hce hcv hcl => ?_) (fun r13_2 u13_2 H locs hr13_2 w => ?_)
  · rcases hex with ⟨rfl, hx9⟩ | ⟨rfl, hx9⟩
    · have hT : th2 (tPat nA x && tPat nJ y && !decide (pl < 0)) (tHas 12 f && tHas 12 t && !decide (t < f) && sOk sn) = 1 := by first | (simp [th1, th2, th3, hx9]; done) | (simp [th1, th2, th3, hx9]; omega) | (unfold th2; rw [hx9.1, hx9.2]; rfl) | (unfold th2; rw [hx9]; rfl) | (unfold th2; rw [hx9.1, if_pos rfl, if_neg (by simpa using hx9.2)])
      refine vx_catch (name := "java/lang/IndexOutOfBoundsException") hown [] ⟨0, 18, 21, 13⟩ [⟨0, 18, 25, 28⟩] htab b_pn (by decide) (by decide) (hts (.classLink RL 13 "java/lang/IndexOutOfBoundsException") (by decide +kernel)) (va_Nw.use rfl (E.2.1 (.castable "java/lang/IndexOutOfBoundsException" "java/lang/IndexOutOfBoundsException") (by decide +kernel)).2) hce hcv hcl ?_
      have w := w9
      refine lv_astore (lv' := [(8, .ref q9), (0, .ref H0), (1, .int x), (2, .int y), (3, .int f), (4, .int t), (5, .int sn), (6, .int pl), (7, .ref ot)]) hx hb dL_find_21 hl (by decide) rfl (fun ls hl => ?_)
      refine lv_iconst (v := nI 1) hx hb dL_find_23 (by decide) ?_
      have w := b_wide [ot] b_nil w
      exact W.iret (v := nI 1) hx hb hr (fun t9 ht9 hW9 => ⟨⟨nI 1, (), rfl, by rw [hT], by show va_P G.1 vwCl _ t9.heap; rw [ht9]; exact b_cg (by rw [hT]; rfl) (w.1.sub (ws' := [(ot, .inl (G.2.2.2, 1, .inr (.inl og)))]) [8] rfl)⟩, w.2.1.F ht9⟩) w.2.1.2.2 dL_find_24
    · have hT : th2 (tPat nA x && tPat nJ y && !decide (pl < 0)) (tHas 12 f && tHas 12 t && !decide (t < f) && sOk sn) = 2 := by first | (simp [th1, th2, th3, hx9]; done) | (simp [th1, th2, th3, hx9]; omega) | (unfold th2; rw [hx9.1, hx9.2]; rfl) | (unfold th2; rw [hx9]; rfl) | (unfold th2; rw [hx9.1, if_pos rfl, if_neg (by simpa using hx9.2)])
      refine vx_catch (name := "java/lang/IllegalArgumentException") hown [⟨0, 18, 21, 13⟩] ⟨0, 18, 25, 28⟩ [] htab (b_pc (Or.inr ⟨by decide, "java/lang/IndexOutOfBoundsException", hts (.classLink RL 13 "java/lang/IndexOutOfBoundsException") (by decide +kernel), va_Nc.of (args := #[]) (E.2.1 (.not (.castable "java/lang/IllegalArgumentException" "java/lang/IndexOutOfBoundsException")) (by decide +kernel)).2⟩) b_pn) (by decide) (by decide) (hts (.classLink RL 28 "java/lang/IllegalArgumentException") (by decide +kernel)) (va_Nw.use rfl (E.2.1 (.castable "java/lang/IllegalArgumentException" "java/lang/IllegalArgumentException") (by decide +kernel)).2) hce hcv hcl ?_
      have w := w9
      refine lv_astore (lv' := [(8, .ref q9), (0, .ref H0), (1, .int x), (2, .int y), (3, .int f), (4, .int t), (5, .int sn), (6, .int pl), (7, .ref ot)]) hx hb dL_find_25 hl (by decide) rfl (fun ls hl => ?_)
      refine lv_iconst (v := nI 2) hx hb dL_find_27 (by decide) ?_
      have w := b_wide [ot] b_nil w
      exact W.iret (v := nI 2) hx hb hr (fun t9 ht9 hW9 => ⟨⟨nI 2, (), rfl, by rw [hT], by show va_P G.1 vwCl _ t9.heap; rw [ht9]; exact b_cg (by rw [hT]; rfl) (w.1.sub (ws' := [(ot, .inl (G.2.2.2, 1, .inr (.inl og)))]) [8] rfl)⟩, w.2.1.F ht9⟩) w.2.1.2.2 dL_find_28
  have w : bSt G vwCl [] s [(H0, .inr (5, [.ref tA, .ref tJ, .ref gO, .ref dO, .ref bO, .ref sO, .ref qs, .ref qr, .int (nI jd), .int (nI snt), .int (nI td)])), (tA, .inr (4, [.ref oA, .int (nI 10), .int (nI nA)])), (oA, .inl (G.2.1, 14, .inl fA)), (tJ, .inr (4, [.ref oJ, .int (nI 1), .int (nI nJ)])), (oJ, .inl (G.2.1, 10, .inl fJ)), (bO, .inr (1, [.ref ql, .ref qe, .ref qn, .ref qt, .ref qc, .ref qd, .ref qf, .int (nI bn)])), (ql, .inl (G.2.1, 1680, .inl lat)), (qt, .inl (G.2.1, 1680, .inl ld)), (ot, .inl (G.2.2.2, 1, .inr (.inl og)))] _ _ := w
  obtain ⟨ehr13_2, hr13_2⟩ := hr13_2
  subst ehr13_2
  have hu9 := hr13_2
  have hT : th2 (tPat nA x && tPat nJ y && !decide (pl < 0)) (tHas 12 f && tHas 12 t && !decide (t < f) && sOk sn) = 0 := by first | (simp [th1, th2, th3, hu9]; done) | (simp [th1, th2, th3, hu9]; omega) | (unfold th2; rw [hu9.1, hu9.2]; rfl) | (unfold th1; rw [hu9.1]; rfl)
  refine lv_i2l (v := (srR (srT (mM fA nA fJ nJ lat ld x y sn) nA nJ (cl f) (cl t) (cl pl))).toInt64) hx hb dL_find_16 rfl ?_
  have w := b_wide [ot] b_nil w
  refine b_jast X E w (Or.inl (List.mem_of_getElem? (i := 0) rfl)) 8 rfl 0 rfl (by omega) (by first | decide | omega) dL_find_17 (fun H locs w => ?_)
  have w : bSt G vwCl [ot] s [(H0, .inr (5, [.ref tA, .ref tJ, .ref gO, .ref dO, .ref bO, .ref sO, .ref qs, .ref qr, .int (nI jd), .int (nI snt), .int (nI td)])), (tA, .inr (4, [.ref oA, .int (nI 10), .int (nI nA)])), (oA, .inl (G.2.1, 14, .inl fA)), (tJ, .inr (4, [.ref oJ, .int (nI 1), .int (nI nJ)])), (oJ, .inl (G.2.1, 10, .inl fJ)), (bO, .inr (1, [.ref ql, .ref qe, .ref qn, .ref qt, .ref qc, .ref qd, .ref qf, .int (nI bn)])), (ql, .inl (G.2.1, 1680, .inl lat)), (qt, .inl (G.2.1, 1680, .inl ld)), (ot, .inl (G.2.2.2, 1, .inr (.inl (vp_updL og 0 ((srR (srT (mM fA nA fJ nJ lat ld x y sn) nA nJ (cl f) (cl t) (cl pl))).toInt64)))))] _ _ := w
  refine lv_goto (tgt := 29) hx hb dL_find_18 (by decide) ?_
  refine lv_iconst (v := nI 0) hx hb dL_find_29 (by decide) ?_
  exact W.iret (v := nI 0) hx hb hr (fun t9 ht9 hW9 => ⟨⟨nI 0, (), rfl, by rw [hT], by show va_P G.1 vwCl _ t9.heap; rw [ht9]; exact b_cg (by rw [hT]; rfl) (w.1.sub (ws' := [(ot, .inl (G.2.2.2, 1, .inr (.inl (vp_updL og 0 ((srR (srT (mM fA nA fJ nJ lat ld x y sn) nA nJ (cl f) (cl t) (cl pl))).toInt64)))))]) [8] rfl)⟩, w.2.1.F ht9⟩) w.2.1.2.2 dL_find_30
set_option maxHeartbeats 4000000 in
set_option maxRecDepth 100000 in
theorem c_L_value (l : Launch) (hl0 : l.stackTraces = false) (G : bG) (sz : Nat) (H0 tA tJ gO dO bO sO qs qr jd snt td : Nat) (oA nA : Nat) (fA : Nat → Int32) (oJ nJ : Nat) (fJ : Nat → Int32) (ql qe qn qt qc qd qf bn : Nat) (bc : Nat → Int32) (bd : Nat → Int32) (bf : Nat → Int32) (qv qh : Nat) (v : Nat → Int32) (x y z d : Int32) (ot : Nat) (og : Nat → Int64) (hnA : nA ≤ 14) (hnJ : nJ ≤ 10) (hTA : TI fA nA) (hTJ : TI fJ nJ) (hbn : bn ≤ 300) (hbk : bOk nA nJ bn td bc bd) : Met l yL_value wsL_value ({ frames := 8, cells := 2, slots := 12, locals := 137 }) (va_Pc [.ref H0, .int x, .int y, .int z, .int d, .ref ot] (bPre G vwCl bNW bSW sz [(H0, .inr (5, [.ref tA, .ref tJ, .ref gO, .ref dO, .ref bO, .ref sO, .ref qs, .ref qr, .int (nI jd), .int (nI snt), .int (nI td)])), (tA, .inr (4, [.ref oA, .int (nI 10), .int (nI nA)])), (oA, .inl (G.2.1, 14, .inl fA)), (tJ, .inr (4, [.ref oJ, .int (nI 1), .int (nI nJ)])), (oJ, .inl (G.2.1, 10, .inl fJ)), (bO, .inr (1, [.ref ql, .ref qe, .ref qn, .ref qt, .ref qc, .ref qd, .ref qf, .int (nI bn)])), (qc, .inl (G.2.1, 300, .inl bc)), (qd, .inl (G.2.1, 300, .inl bd)), (qf, .inl (G.2.1, 300, .inl bf)), (sO, .inr (3, [.ref qv, .ref qh])), (qv, .inl (G.2.1, 140, .inl v)), (ot, .inl (G.2.2.2, 1, .inr (.inl og)))] [qv, ot])) (va_Qi (fun (r : Int32) (u : (Nat → Int32) × Int32) => r = nI (th2 (okC nA nJ x y z) (dOk td d)) ∧ (th2 (okC nA nJ x y z) (dOk td d) = 0 → okC nA nJ x y z = true ∧ dOk td d = true ∧ u.2 = u.1 (10 * cl x + cl y) ∧ Fx (figs bc bd bf bn (cl z) d) fA nA fJ nJ u.1 ∧ vOut nA nJ u.1)) (fun (u : (Nat → Int32) × Int32) (tS : State) => va_P G.1 vwCl [(qv, .inl (G.2.1, 140, .inl u.1)), (ot, .inl (G.2.2.2, 1, .inr (.inl (gF (th2 (okC nA nJ x y z) (dOk td d)) og (vp_updL og 0 (u.2.toInt64))))))] tS.heap) (Aw [qv, ot] sz)) 2 12 (Aw [qv, ot] sz) := by
  refine va_MetW (cc := cL_value) (maxL := 7) (ret := (some .int)) (by decide) rfl ?_
  intro p e s m args below meth c s₁ B hml hv
  obtain ⟨rfl, hsz, hP, hD, E, Z⟩ := hv
  have hts := atoms_spec (ws := wsL_value) B.pre
  have hown : s.vm.findClass RL = some m.cls := findClass_of_methodNamed B.named
  have X : CallFix p m c cL_value 7 s _ wsL_value RL := ⟨B.exec, B.bytes, hml, hown, hts⟩
  have hx := B.exec
  have hb := B.bytes
  have hr := B.returns
  have hlocks := B.notSynchronized
  have htab : c.exceptionTable.toList = tableOf [(0, 14, 17, 13), (0, 14, 21, 28)] := vx_table (x := yL_value) B (hts _ List.mem_cons_self)
  subst hsz
  have w : bSt G vwCl [] s [(H0, .inr (5, [.ref tA, .ref tJ, .ref gO, .ref dO, .ref bO, .ref sO, .ref qs, .ref qr, .int (nI jd), .int (nI snt), .int (nI td)])), (tA, .inr (4, [.ref oA, .int (nI 10), .int (nI nA)])), (oA, .inl (G.2.1, 14, .inl fA)), (tJ, .inr (4, [.ref oJ, .int (nI 1), .int (nI nJ)])), (oJ, .inl (G.2.1, 10, .inl fJ)), (bO, .inr (1, [.ref ql, .ref qe, .ref qn, .ref qt, .ref qc, .ref qd, .ref qf, .int (nI bn)])), (qc, .inl (G.2.1, 300, .inl bc)), (qd, .inl (G.2.1, 300, .inl bd)), (qf, .inl (G.2.1, 300, .inl bf)), (sO, .inr (3, [.ref qv, .ref qh])), (qv, .inl (G.2.1, 140, .inl v)), (ot, .inl (G.2.2.2, 1, .inr (.inl og)))] s.heap [] := ⟨hP, va_S.rf, hD⟩
  have Z0 : bZ [] s := ⟨Z.1.narrow (fun q h => h.elim (fun h => nomatch h) Or.inr), Z.2.narrow (fun q h => h.elim (fun h => nomatch h) Or.inr)⟩
  have hl := lv_entry ([.ref H0, .int x, .int y, .int z, .int d, .ref ot]) (n := 7) (Nat.le_of_ble_eq_true rfl)
  rw [lg_entry_eq]
  generalize (lg_sl ([.ref H0, .int x, .int y, .int z, .int d, .ref ot]) ++ List.replicate (7 - (lg_sl ([.ref H0, .int x, .int y, .int z, .int d, .ref ot])).length) Slot.unset).toArray = ls at hl ⊢
  have hl : lv_has ls 7 [(0, .ref H0), (1, .int x), (2, .int y), (3, .int z), (4, .int d), (5, .ref ot)] := hl
  refine lv_aload hx hb dL_value_0 (lv_at hl 5 rfl) ?_
  refine lv_iconst (v := nI 0) hx hb dL_value_2 (by decide) ?_
  refine lv_aload_n hx hb dL_value_3 rfl (lv_at hl 0 rfl) ?_
  refine lv_iload_n hx hb dL_value_4 rfl (lv_at hl 1 rfl) ?_
  refine lv_iload_n hx hb dL_value_5 rfl (lv_at hl 2 rfl) ?_
  refine lv_iload_n hx hb dL_value_6 rfl (lv_at hl 3 rfl) ?_
  refine lv_iload hx hb dL_value_7 (lv_at hl 4 rfl) ?_
  have w := b_wide [qv, ot] b_nil w
  refine b_xcalli w (vx_runV (As := [.int x, .int y, .int z, .int d]) (rest := [.int (nI 0), .ref ot]) X (c_X5_value l hl0 G _ (td := td) (H0 := H0) (x := x) (y := y) (z := z) (d := d) (tA := tA) (tJ := tJ) (gO := gO) (dO := dO) (bO := bO) (sO := sO) (qs := qs) (qr := qr) (jd := jd) (snt := snt) (oA := oA) (nA := nA) (fA := fA) (oJ := oJ) (nJ := nJ) (fJ := fJ) (ql := ql) (qe := qe) (qn := qn) (qt := qt) (qc := qc) (qd := qd) (qf := qf) (bn := bn) (bc := bc) (bd := bd) (bf := bf) (qv := qv) (qh := qh) (v := v) (hnA := (by first | assumption | omega)) (hnJ := (by first | assumption | omega)) (hTA := (by first | assumption | omega)) (hTJ := (by first | assumption | omega)) (hbn := (by first | assumption | omega)) (hbk := (by first | assumption | omega))) (cwV 4 hts gL_value_X5_value rfl rfl rfl (by decide +kernel) ⟨Nat.le_of_ble_eq_true rfl, Nat.le_of_ble_eq_true rfl⟩) ⟨b_blind, b_recv E w (ci := 5) (q0 := 0) rfl rfl, (fun U9 hU9 hW9 => ⟨rfl, b_pre E Z w [0, 1, 2, 3, 4, 5, 6, 7, 8, 9, 10] (by decide) rfl (b_subA [0] rfl) U9 hU9 hW9⟩)⟩ rfl rfl hl.1 rfl (lv_room (Nat.le_of_ble_eq_true rfl)) dL_value_9 ⟨Nat.le_of_ble_eq_true rfl, Nat.le_of_ble_eq_true rfl⟩) (b_subA [0] rfl) [10] (fun _ => rfl) rfl (fun E9 ce9 q9 H9 locs9 hex w9 hce hcv hcl => ?_) (fun r9_2 u9_2 H locs hr9_2 w => ?_)
  · rcases hex with ⟨rfl, hx9⟩ | ⟨rfl, hx9⟩
    · have hT : th2 (okC nA nJ x y z) (dOk td d) = 1 := by first | (simp [th1, th2, th3, hx9]; done) | (simp [th1, th2, th3, hx9]; omega) | (unfold th2; rw [hx9.1, hx9.2]; rfl) | (unfold th2; rw [hx9]; rfl) | (unfold th2; rw [hx9.1, if_pos rfl, if_neg (by simpa using hx9.2)])
      refine vx_catch (name := "java/lang/IndexOutOfBoundsException") hown [] ⟨0, 14, 17, 13⟩ [⟨0, 14, 21, 28⟩] htab b_pn (by decide) (by decide) (hts (.classLink RL 13 "java/lang/IndexOutOfBoundsException") (by decide +kernel)) (va_Nw.use rfl (E.2.1 (.castable "java/lang/IndexOutOfBoundsException" "java/lang/IndexOutOfBoundsException") (by decide +kernel)).2) hce hcv hcl ?_
      have w := w9
      refine lv_astore (lv' := [(6, .ref q9), (0, .ref H0), (1, .int x), (2, .int y), (3, .int z), (4, .int d), (5, .ref ot)]) hx hb dL_value_17 hl (by decide) rfl (fun ls hl => ?_)
      refine lv_iconst (v := nI 1) hx hb dL_value_19 (by decide) ?_
      exact W.iret (v := nI 1) hx hb hr (fun t9 ht9 hW9 => ⟨⟨nI 1, (v, 0), rfl, ⟨by rw [hT], fun h0 => absurd (hT.symm.trans h0) (by decide)⟩, by show va_P G.1 vwCl _ t9.heap; rw [ht9]; exact b_cg (by rw [hT]; rfl) (w.1.sub (ws' := [(qv, .inl (G.2.1, 140, .inl v)), (ot, .inl (G.2.2.2, 1, .inr (.inl og)))]) [10, 11] rfl)⟩, w.2.1.F ht9⟩) w.2.1.2.2 dL_value_20
    · have hT : th2 (okC nA nJ x y z) (dOk td d) = 2 := by first | (simp [th1, th2, th3, hx9]; done) | (simp [th1, th2, th3, hx9]; omega) | (unfold th2; rw [hx9.1, hx9.2]; rfl) | (unfold th2; rw [hx9]; rfl) | (unfold th2; rw [hx9.1, if_pos rfl, if_neg (by simpa using hx9.2)])
      refine vx_catch (name := "java/lang/IllegalArgumentException") hown [⟨0, 14, 17, 13⟩] ⟨0, 14, 21, 28⟩ [] htab (b_pc (Or.inr ⟨by decide, "java/lang/IndexOutOfBoundsException", hts (.classLink RL 13 "java/lang/IndexOutOfBoundsException") (by decide +kernel), va_Nc.of (args := #[]) (E.2.1 (.not (.castable "java/lang/IllegalArgumentException" "java/lang/IndexOutOfBoundsException")) (by decide +kernel)).2⟩) b_pn) (by decide) (by decide) (hts (.classLink RL 28 "java/lang/IllegalArgumentException") (by decide +kernel)) (va_Nw.use rfl (E.2.1 (.castable "java/lang/IllegalArgumentException" "java/lang/IllegalArgumentException") (by decide +kernel)).2) hce hcv hcl ?_
      have w := w9
      refine lv_astore (lv' := [(6, .ref q9), (0, .ref H0), (1, .int x), (2, .int y), (3, .int z), (4, .int d), (5, .ref ot)]) hx hb dL_value_21 hl (by decide) rfl (fun ls hl => ?_)
      refine lv_iconst (v := nI 2) hx hb dL_value_23 (by decide) ?_
      exact W.iret (v := nI 2) hx hb hr (fun t9 ht9 hW9 => ⟨⟨nI 2, (v, 0), rfl, ⟨by rw [hT], fun h0 => absurd (hT.symm.trans h0) (by decide)⟩, by show va_P G.1 vwCl _ t9.heap; rw [ht9]; exact b_cg (by rw [hT]; rfl) (w.1.sub (ws' := [(qv, .inl (G.2.1, 140, .inl v)), (ot, .inl (G.2.2.2, 1, .inr (.inl og)))]) [10, 11] rfl)⟩, w.2.1.F ht9⟩) w.2.1.2.2 dL_value_24
  have w : bSt G vwCl [qv, ot] s [(H0, .inr (5, [.ref tA, .ref tJ, .ref gO, .ref dO, .ref bO, .ref sO, .ref qs, .ref qr, .int (nI jd), .int (nI snt), .int (nI td)])), (tA, .inr (4, [.ref oA, .int (nI 10), .int (nI nA)])), (oA, .inl (G.2.1, 14, .inl fA)), (tJ, .inr (4, [.ref oJ, .int (nI 1), .int (nI nJ)])), (oJ, .inl (G.2.1, 10, .inl fJ)), (bO, .inr (1, [.ref ql, .ref qe, .ref qn, .ref qt, .ref qc, .ref qd, .ref qf, .int (nI bn)])), (qc, .inl (G.2.1, 300, .inl bc)), (qd, .inl (G.2.1, 300, .inl bd)), (qf, .inl (G.2.1, 300, .inl bf)), (sO, .inr (3, [.ref qv, .ref qh])), (qv, .inl (G.2.1, 140, .inl u9_2)), (ot, .inl (G.2.2.2, 1, .inr (.inl og)))] _ _ := w
  have hu9 := hr9_2
  have hT : th2 (okC nA nJ x y z) (dOk td d) = 0 := by first | (simp [th1, th2, th3, hu9]; done) | (simp [th1, th2, th3, hu9]; omega) | (unfold th2; rw [hu9.1, hu9.2]; rfl) | (unfold th1; rw [hu9.1]; rfl)
  refine lv_i2l (v := (r9_2).toInt64) hx hb dL_value_12 rfl ?_
  refine b_jast X E w (Or.inl (List.mem_of_getElem? (i := 1) rfl)) 11 rfl 0 rfl (by omega) (by first | decide | omega) dL_value_13 (fun H locs w => ?_)
  have w : bSt G vwCl [qv, ot] s [(H0, .inr (5, [.ref tA, .ref tJ, .ref gO, .ref dO, .ref bO, .ref sO, .ref qs, .ref qr, .int (nI jd), .int (nI snt), .int (nI td)])), (tA, .inr (4, [.ref oA, .int (nI 10), .int (nI nA)])), (oA, .inl (G.2.1, 14, .inl fA)), (tJ, .inr (4, [.ref oJ, .int (nI 1), .int (nI nJ)])), (oJ, .inl (G.2.1, 10, .inl fJ)), (bO, .inr (1, [.ref ql, .ref qe, .ref qn, .ref qt, .ref qc, .ref qd, .ref qf, .int (nI bn)])), (qc, .inl (G.2.1, 300, .inl bc)), (qd, .inl (G.2.1, 300, .inl bd)), (qf, .inl (G.2.1, 300, .inl bf)), (sO, .inr (3, [.ref qv, .ref qh])), (qv, .inl (G.2.1, 140, .inl u9_2)), (ot, .inl (G.2.2.2, 1, .inr (.inl (vp_updL og 0 ((r9_2).toInt64)))))] _ _ := w
  refine lv_goto (tgt := 25) hx hb dL_value_14 (by decide) ?_
  refine lv_iconst (v := nI 0) hx hb dL_value_25 (by decide) ?_
  exact W.iret (v := nI 0) hx hb hr (fun t9 ht9 hW9 => ⟨⟨nI 0, (u9_2, r9_2), rfl, ⟨by rw [hT], fun _ => hu9⟩, by show va_P G.1 vwCl _ t9.heap; rw [ht9]; exact b_cg (by rw [hT]; rfl) (w.1.sub (ws' := [(qv, .inl (G.2.1, 140, .inl u9_2)), (ot, .inl (G.2.2.2, 1, .inr (.inl (vp_updL og 0 ((r9_2).toInt64)))))]) [10, 11] rfl)⟩, w.2.1.F ht9⟩) w.2.1.2.2 dL_value_26
set_option maxHeartbeats 4000000 in
set_option maxRecDepth 100000 in
theorem c_L_shown (l : Launch) (hl0 : l.stackTraces = false) (G : bG) (sz : Nat) (H0 tA tJ gO dO bO sO qs qr jd snt td : Nat) (oA nA : Nat) (fA : Nat → Int32) (oJ nJ : Nat) (fJ : Nat → Int32) (ql qe qn qt qc qd qf bn : Nat) (bc : Nat → Int32) (bd : Nat → Int32) (bf : Nat → Int32) (qv qh : Nat) (v : Nat → Int32) (hid : Nat → Bool) (sc : Nat → Bool) (x y z : Int32) (ot : Nat) (og : Nat → Int64) (hnA : nA ≤ 14) (hnJ : nJ ≤ 10) (hTA : TI fA nA) (hTJ : TI fJ nJ) (hbn : bn ≤ 300) (hbk : bOk nA nJ bn td bc bd) : Met l yL_shown wsL_shown ({ frames := 8, cells := 1, slots := 6, locals := 173 }) (va_Pc [.ref H0, .int x, .int y, .int z, .ref ot] (bPre G vwCl bNW bSW sz [(H0, .inr (5, [.ref tA, .ref tJ, .ref gO, .ref dO, .ref bO, .ref sO, .ref qs, .ref qr, .int (nI jd), .int (nI snt), .int (nI td)])), (tA, .inr (4, [.ref oA, .int (nI 10), .int (nI nA)])), (oA, .inl (G.2.1, 14, .inl fA)), (tJ, .inr (4, [.ref oJ, .int (nI 1), .int (nI nJ)])), (oJ, .inl (G.2.1, 10, .inl fJ)), (bO, .inr (1, [.ref ql, .ref qe, .ref qn, .ref qt, .ref qc, .ref qd, .ref qf, .int (nI bn)])), (qc, .inl (G.2.1, 300, .inl bc)), (qd, .inl (G.2.1, 300, .inl bd)), (qf, .inl (G.2.1, 300, .inl bf)), (sO, .inr (3, [.ref qv, .ref qh])), (qv, .inl (G.2.1, 140, .inl v)), (qh, .inl (G.2.2.1, 140, .inl (zB hid))), (qs, .inl (G.2.2.1, 1680, .inl (zB sc))), (ot, .inl (G.2.2.2, 1, .inr (.inl og)))] [qv, qh, ot])) (va_Qi (fun (r : Int32) (u : (Nat → Int32) × Int32) => r = nI (th1 (okC nA nJ x y z)) ∧ (th1 (okC nA nJ x y z) = 0 → okC nA nJ x y z = true ∧ (Fx (figs bc bd bf bn (cl z) (nI td)) fA nA fJ nJ u.1 ∧ vOut nA nJ u.1) ∧ u.2 = if hdn fA nA fJ nJ sc (cl z) u.1 hid (10 * cl x + cl y) = true then HID else u.1 (10 * cl x + cl y))) (fun (u : (Nat → Int32) × Int32) (tS : State) => va_P G.1 vwCl [(qv, .inl (G.2.1, 140, .inl u.1)), (qh, .inl (G.2.2.1, 140, .inl (zB (gF (th1 (okC nA nJ x y z)) hid (hdn fA nA fJ nJ sc (cl z) u.1 hid))))), (ot, .inl (G.2.2.2, 1, .inr (.inl (gF (th1 (okC nA nJ x y z)) og (vp_updL og 0 (u.2.toInt64))))))] tS.heap) (Aw [qv, qh, ot] sz)) 1 6 (Aw [qv, qh, ot] sz) := by
  refine va_MetW (cc := cL_shown) (maxL := 6) (ret := (some .int)) (by decide) rfl ?_
  intro p e s m args below meth c s₁ B hml hv
  obtain ⟨rfl, hsz, hP, hD, E, Z⟩ := hv
  have hts := atoms_spec (ws := wsL_shown) B.pre
  have hown : s.vm.findClass RL = some m.cls := findClass_of_methodNamed B.named
  have X : CallFix p m c cL_shown 6 s _ wsL_shown RL := ⟨B.exec, B.bytes, hml, hown, hts⟩
  have hx := B.exec
  have hb := B.bytes
  have hr := B.returns
  have hlocks := B.notSynchronized
  have htab : c.exceptionTable.toList = tableOf [(0, 12, 15, 13)] := vx_table (x := yL_shown) B (hts _ List.mem_cons_self)
  subst hsz
  have w : bSt G vwCl [] s [(H0, .inr (5, [.ref tA, .ref tJ, .ref gO, .ref dO, .ref bO, .ref sO, .ref qs, .ref qr, .int (nI jd), .int (nI snt), .int (nI td)])), (tA, .inr (4, [.ref oA, .int (nI 10), .int (nI nA)])), (oA, .inl (G.2.1, 14, .inl fA)), (tJ, .inr (4, [.ref oJ, .int (nI 1), .int (nI nJ)])), (oJ, .inl (G.2.1, 10, .inl fJ)), (bO, .inr (1, [.ref ql, .ref qe, .ref qn, .ref qt, .ref qc, .ref qd, .ref qf, .int (nI bn)])), (qc, .inl (G.2.1, 300, .inl bc)), (qd, .inl (G.2.1, 300, .inl bd)), (qf, .inl (G.2.1, 300, .inl bf)), (sO, .inr (3, [.ref qv, .ref qh])), (qv, .inl (G.2.1, 140, .inl v)), (qh, .inl (G.2.2.1, 140, .inl (zB hid))), (qs, .inl (G.2.2.1, 1680, .inl (zB sc))), (ot, .inl (G.2.2.2, 1, .inr (.inl og)))] s.heap [] := ⟨hP, va_S.rf, hD⟩
  have Z0 : bZ [] s := ⟨Z.1.narrow (fun q h => h.elim (fun h => nomatch h) Or.inr), Z.2.narrow (fun q h => h.elim (fun h => nomatch h) Or.inr)⟩
  have hl := lv_entry ([.ref H0, .int x, .int y, .int z, .ref ot]) (n := 6) (Nat.le_of_ble_eq_true rfl)
  rw [lg_entry_eq]
  generalize (lg_sl ([.ref H0, .int x, .int y, .int z, .ref ot]) ++ List.replicate (6 - (lg_sl ([.ref H0, .int x, .int y, .int z, .ref ot])).length) Slot.unset).toArray = ls at hl ⊢
  have hl : lv_has ls 6 [(0, .ref H0), (1, .int x), (2, .int y), (3, .int z), (4, .ref ot)] := hl
  refine lv_aload hx hb dL_shown_0 (lv_at hl 4 rfl) ?_
  refine lv_iconst (v := nI 0) hx hb dL_shown_2 (by decide) ?_
  refine lv_aload_n hx hb dL_shown_3 rfl (lv_at hl 0 rfl) ?_
  refine lv_iload_n hx hb dL_shown_4 rfl (lv_at hl 1 rfl) ?_
  refine lv_iload_n hx hb dL_shown_5 rfl (lv_at hl 2 rfl) ?_
  refine lv_iload_n hx hb dL_shown_6 rfl (lv_at hl 3 rfl) ?_
  have w := b_wide [qv, qh, ot] b_nil w
  refine b_xcalli w (vx_runV (As := [.int x, .int y, .int z]) (rest := [.int (nI 0), .ref ot]) X (c_X5_shown l hl0 G _ (td := td) (H0 := H0) (x := x) (y := y) (z := z) (tA := tA) (tJ := tJ) (gO := gO) (dO := dO) (bO := bO) (sO := sO) (qs := qs) (qr := qr) (jd := jd) (snt := snt) (oA := oA) (nA := nA) (fA := fA) (oJ := oJ) (nJ := nJ) (fJ := fJ) (ql := ql) (qe := qe) (qn := qn) (qt := qt) (qc := qc) (qd := qd) (qf := qf) (bn := bn) (bc := bc) (bd := bd) (bf := bf) (qv := qv) (qh := qh) (v := v) (hid := hid) (sc := sc) (hnA := (by first | assumption | omega)) (hnJ := (by first | assumption | omega)) (hTA := (by first | assumption | omega)) (hTJ := (by first | assumption | omega)) (hbn := (by first | assumption | omega)) (hbk := (by first | assumption | omega))) (cwV 3 hts gL_shown_X5_shown rfl rfl rfl (by decide +kernel) ⟨Nat.le_of_ble_eq_true rfl, Nat.le_of_ble_eq_true rfl⟩) ⟨b_blind, b_recv E w (ci := 5) (q0 := 0) rfl rfl, (fun U9 hU9 hW9 => ⟨rfl, b_pre E Z w [0, 1, 2, 3, 4, 5, 6, 7, 8, 9, 10, 11, 12] (by decide) rfl (b_subA [0, 1] rfl) U9 hU9 hW9⟩)⟩ rfl rfl hl.1 rfl (lv_room (Nat.le_of_ble_eq_true rfl)) dL_shown_7 ⟨Nat.le_of_ble_eq_true rfl, Nat.le_of_ble_eq_true rfl⟩) (b_subA [0, 1] rfl) [10, 11] (fun _ => rfl) rfl (fun E9 ce9 q9 H9 locs9 hex w9 hce hcv hcl => ?_) (fun r7_2 u7_2 H locs hr7_2 w => ?_)
  · rcases hex with ⟨rfl, hx9⟩
    · have hT : th1 (okC nA nJ x y z) = 1 := by first | (simp [th1, th2, th3, hx9]; done) | (simp [th1, th2, th3, hx9]; omega) | (unfold th2; rw [hx9.1, hx9.2]; rfl) | (unfold th2; rw [hx9]; rfl) | (unfold th2; rw [hx9.1, if_pos rfl, if_neg (by simpa using hx9.2)])
      refine vx_catch (name := "java/lang/IndexOutOfBoundsException") hown [] ⟨0, 12, 15, 13⟩ [] htab b_pn (by decide) (by decide) (hts (.classLink RL 13 "java/lang/IndexOutOfBoundsException") (by decide +kernel)) (va_Nw.use rfl (E.2.1 (.castable "java/lang/IndexOutOfBoundsException" "java/lang/IndexOutOfBoundsException") (by decide +kernel)).2) hce hcv hcl ?_
      have w := w9
      refine lv_astore (lv' := [(5, .ref q9), (0, .ref H0), (1, .int x), (2, .int y), (3, .int z), (4, .ref ot)]) hx hb dL_shown_15 hl (by decide) rfl (fun ls hl => ?_)
      refine lv_iconst (v := nI 1) hx hb dL_shown_17 (by decide) ?_
      exact W.iret (v := nI 1) hx hb hr (fun t9 ht9 hW9 => ⟨⟨nI 1, (v, 0), rfl, ⟨by rw [hT], fun h0 => absurd (hT.symm.trans h0) (by decide)⟩, by show va_P G.1 vwCl _ t9.heap; rw [ht9]; exact b_cg (by rw [hT]; rfl) (w.1.sub (ws' := [(qv, .inl (G.2.1, 140, .inl v)), (qh, .inl (G.2.2.1, 140, .inl (zB hid))), (ot, .inl (G.2.2.2, 1, .inr (.inl og)))]) [10, 11, 13] rfl)⟩, w.2.1.F ht9⟩) w.2.1.2.2 dL_shown_18
  have w : bSt G vwCl [qv, qh, ot] s [(H0, .inr (5, [.ref tA, .ref tJ, .ref gO, .ref dO, .ref bO, .ref sO, .ref qs, .ref qr, .int (nI jd), .int (nI snt), .int (nI td)])), (tA, .inr (4, [.ref oA, .int (nI 10), .int (nI nA)])), (oA, .inl (G.2.1, 14, .inl fA)), (tJ, .inr (4, [.ref oJ, .int (nI 1), .int (nI nJ)])), (oJ, .inl (G.2.1, 10, .inl fJ)), (bO, .inr (1, [.ref ql, .ref qe, .ref qn, .ref qt, .ref qc, .ref qd, .ref qf, .int (nI bn)])), (qc, .inl (G.2.1, 300, .inl bc)), (qd, .inl (G.2.1, 300, .inl bd)), (qf, .inl (G.2.1, 300, .inl bf)), (sO, .inr (3, [.ref qv, .ref qh])), (qv, .inl (G.2.1, 140, .inl u7_2)), (qh, .inl (G.2.2.1, 140, .inl (zB (hdn fA nA fJ nJ sc (cl z) u7_2 hid)))), (qs, .inl (G.2.2.1, 1680, .inl (zB sc))), (ot, .inl (G.2.2.2, 1, .inr (.inl og)))] _ _ := w
  have hu9 := hr7_2
  have hT : th1 (okC nA nJ x y z) = 0 := by first | (simp [th1, th2, th3, hu9]; done) | (simp [th1, th2, th3, hu9]; omega) | (unfold th2; rw [hu9.1, hu9.2]; rfl) | (unfold th1; rw [hu9.1]; rfl)
  refine lv_i2l (v := (r7_2).toInt64) hx hb dL_shown_10 rfl ?_
  refine b_jast X E w (Or.inl (List.mem_of_getElem? (i := 2) rfl)) 13 rfl 0 rfl (by omega) (by first | decide | omega) dL_shown_11 (fun H locs w => ?_)
  have w : bSt G vwCl [qv, qh, ot] s [(H0, .inr (5, [.ref tA, .ref tJ, .ref gO, .ref dO, .ref bO, .ref sO, .ref qs, .ref qr, .int (nI jd), .int (nI snt), .int (nI td)])), (tA, .inr (4, [.ref oA, .int (nI 10), .int (nI nA)])), (oA, .inl (G.2.1, 14, .inl fA)), (tJ, .inr (4, [.ref oJ, .int (nI 1), .int (nI nJ)])), (oJ, .inl (G.2.1, 10, .inl fJ)), (bO, .inr (1, [.ref ql, .ref qe, .ref qn, .ref qt, .ref qc, .ref qd, .ref qf, .int (nI bn)])), (qc, .inl (G.2.1, 300, .inl bc)), (qd, .inl (G.2.1, 300, .inl bd)), (qf, .inl (G.2.1, 300, .inl bf)), (sO, .inr (3, [.ref qv, .ref qh])), (qv, .inl (G.2.1, 140, .inl u7_2)), (qh, .inl (G.2.2.1, 140, .inl (zB (hdn fA nA fJ nJ sc (cl z) u7_2 hid)))), (qs, .inl (G.2.2.1, 1680, .inl (zB sc))), (ot, .inl (G.2.2.2, 1, .inr (.inl (vp_updL og 0 ((r7_2).toInt64)))))] _ _ := w
  refine lv_goto (tgt := 19) hx hb dL_shown_12 (by decide) ?_
  refine lv_iconst (v := nI 0) hx hb dL_shown_19 (by decide) ?_
  exact W.iret (v := nI 0) hx hb hr (fun t9 ht9 hW9 => ⟨⟨nI 0, (u7_2, r7_2), rfl, ⟨by rw [hT], fun _ => hu9⟩, by show va_P G.1 vwCl _ t9.heap; rw [ht9]; exact b_cg (by rw [hT]; rfl) (w.1.sub (ws' := [(qv, .inl (G.2.1, 140, .inl u7_2)), (qh, .inl (G.2.2.1, 140, .inl (zB (hdn fA nA fJ nJ sc (cl z) u7_2 hid)))), (ot, .inl (G.2.2.2, 1, .inr (.inl (vp_updL og 0 ((r7_2).toInt64)))))]) [10, 11, 13] rfl)⟩, w.2.1.F ht9⟩) w.2.1.2.2 dL_shown_20
set_option maxHeartbeats 4000000 in
set_option maxRecDepth 100000 in
theorem c_L_hidden (l : Launch) (hl0 : l.stackTraces = false) (G : bG) (sz : Nat) (H0 tA tJ gO dO bO sO qs qr jd snt td : Nat) (oA nA : Nat) (fA : Nat → Int32) (oJ nJ : Nat) (fJ : Nat → Int32) (ql qe qn qt qc qd qf bn : Nat) (bc : Nat → Int32) (bd : Nat → Int32) (bf : Nat → Int32) (qv qh : Nat) (v : Nat → Int32) (hid : Nat → Bool) (sc : Nat → Bool) (x : Int32) (ot : Nat) (og : Nat → Int64) (hnA : nA ≤ 14) (hnJ : nJ ≤ 10) (hTA : TI fA nA) (hTJ : TI fJ nJ) (hbn : bn ≤ 300) (hbk : bOk nA nJ bn td bc bd) : Met l yL_hidden wsL_hidden ({ frames := 7, cells := 1, slots := 6, locals := 170 }) (va_Pc [.ref H0, .int x, .ref ot] (bPre G vwCl bNW bSW sz [(H0, .inr (5, [.ref tA, .ref tJ, .ref gO, .ref dO, .ref bO, .ref sO, .ref qs, .ref qr, .int (nI jd), .int (nI snt), .int (nI td)])), (tA, .inr (4, [.ref oA, .int (nI 10), .int (nI nA)])), (oA, .inl (G.2.1, 14, .inl fA)), (tJ, .inr (4, [.ref oJ, .int (nI 1), .int (nI nJ)])), (oJ, .inl (G.2.1, 10, .inl fJ)), (bO, .inr (1, [.ref ql, .ref qe, .ref qn, .ref qt, .ref qc, .ref qd, .ref qf, .int (nI bn)])), (qc, .inl (G.2.1, 300, .inl bc)), (qd, .inl (G.2.1, 300, .inl bd)), (qf, .inl (G.2.1, 300, .inl bf)), (sO, .inr (3, [.ref qv, .ref qh])), (qv, .inl (G.2.1, 140, .inl v)), (qh, .inl (G.2.2.1, 140, .inl (zB hid))), (qs, .inl (G.2.2.1, 1680, .inl (zB sc))), (ot, .inl (G.2.2.2, 1, .inr (.inl og)))] [qv, qh, ot])) (va_Qi (fun (r : Int32) (u : (Nat → Int32) × Int32) => r = nI (th1 (tHas 12 x)) ∧ (th1 (tHas 12 x) = 0 → tHas 12 x = true ∧ (Fx (figs bc bd bf bn (cl x) (nI td)) fA nA fJ nJ u.1 ∧ vOut nA nJ u.1) ∧ u.2 = nI (cH (fun _ => true) (hdn fA nA fJ nJ sc (cl x) u.1 hid) 140))) (fun (u : (Nat → Int32) × Int32) (tS : State) => va_P G.1 vwCl [(qv, .inl (G.2.1, 140, .inl u.1)), (qh, .inl (G.2.2.1, 140, .inl (zB (gF (th1 (tHas 12 x)) hid (hdn fA nA fJ nJ sc (cl x) u.1 hid))))), (ot, .inl (G.2.2.2, 1, .inr (.inl (gF (th1 (tHas 12 x)) og (vp_updL og 0 (u.2.toInt64))))))] tS.heap) (Aw [qv, qh, ot] sz)) 1 6 (Aw [qv, qh, ot] sz) := by
  refine va_MetW (cc := cL_hidden) (maxL := 4) (ret := (some .int)) (by decide) rfl ?_
  intro p e s m args below meth c s₁ B hml hv
  obtain ⟨rfl, hsz, hP, hD, E, Z⟩ := hv
  have hts := atoms_spec (ws := wsL_hidden) B.pre
  have hown : s.vm.findClass RL = some m.cls := findClass_of_methodNamed B.named
  have X : CallFix p m c cL_hidden 4 s _ wsL_hidden RL := ⟨B.exec, B.bytes, hml, hown, hts⟩
  have hx := B.exec
  have hb := B.bytes
  have hr := B.returns
  have hlocks := B.notSynchronized
  have htab : c.exceptionTable.toList = tableOf [(0, 9, 12, 13)] := vx_table (x := yL_hidden) B (hts _ List.mem_cons_self)
  subst hsz
  have w : bSt G vwCl [] s [(H0, .inr (5, [.ref tA, .ref tJ, .ref gO, .ref dO, .ref bO, .ref sO, .ref qs, .ref qr, .int (nI jd), .int (nI snt), .int (nI td)])), (tA, .inr (4, [.ref oA, .int (nI 10), .int (nI nA)])), (oA, .inl (G.2.1, 14, .inl fA)), (tJ, .inr (4, [.ref oJ, .int (nI 1), .int (nI nJ)])), (oJ, .inl (G.2.1, 10, .inl fJ)), (bO, .inr (1, [.ref ql, .ref qe, .ref qn, .ref qt, .ref qc, .ref qd, .ref qf, .int (nI bn)])), (qc, .inl (G.2.1, 300, .inl bc)), (qd, .inl (G.2.1, 300, .inl bd)), (qf, .inl (G.2.1, 300, .inl bf)), (sO, .inr (3, [.ref qv, .ref qh])), (qv, .inl (G.2.1, 140, .inl v)), (qh, .inl (G.2.2.1, 140, .inl (zB hid))), (qs, .inl (G.2.2.1, 1680, .inl (zB sc))), (ot, .inl (G.2.2.2, 1, .inr (.inl og)))] s.heap [] := ⟨hP, va_S.rf, hD⟩
  have Z0 : bZ [] s := ⟨Z.1.narrow (fun q h => h.elim (fun h => nomatch h) Or.inr), Z.2.narrow (fun q h => h.elim (fun h => nomatch h) Or.inr)⟩
  have hl := lv_entry ([.ref H0, .int x, .ref ot]) (n := 4) (Nat.le_of_ble_eq_true rfl)
  rw [lg_entry_eq]
  generalize (lg_sl ([.ref H0, .int x, .ref ot]) ++ List.replicate (4 - (lg_sl ([.ref H0, .int x, .ref ot])).length) Slot.unset).toArray = ls at hl ⊢
  have hl : lv_has ls 4 [(0, .ref H0), (1, .int x), (2, .ref ot)] := hl
  refine lv_aload_n hx hb dL_hidden_0 rfl (lv_at hl 2 rfl) ?_
  refine lv_iconst (v := nI 0) hx hb dL_hidden_1 (by decide) ?_
  refine lv_aload_n hx hb dL_hidden_2 rfl (lv_at hl 0 rfl) ?_
  refine lv_iload_n hx hb dL_hidden_3 rfl (lv_at hl 1 rfl) ?_
  have w := b_wide [qv, qh, ot] b_nil w
  refine b_xcalli w (vx_runV (As := [.int x]) (rest := [.int (nI 0), .ref ot]) X (c_X5_hidden l hl0 G _ (td := td) (H0 := H0) (x := x) (tA := tA) (tJ := tJ) (gO := gO) (dO := dO) (bO := bO) (sO := sO) (qs := qs) (qr := qr) (jd := jd) (snt := snt) (oA := oA) (nA := nA) (fA := fA) (oJ := oJ) (nJ := nJ) (fJ := fJ) (ql := ql) (qe := qe) (qn := qn) (qt := qt) (qc := qc) (qd := qd) (qf := qf) (bn := bn) (bc := bc) (bd := bd) (bf := bf) (qv := qv) (qh := qh) (v := v) (hid := hid) (sc := sc) (hnA := (by first | assumption | omega)) (hnJ := (by first | assumption | omega)) (hTA := (by first | assumption | omega)) (hTJ := (by first | assumption | omega)) (hbn := (by first | assumption | omega)) (hbk := (by first | assumption | omega))) (cwV 1 hts gL_hidden_X5_hidden rfl rfl rfl (by decide +kernel) ⟨Nat.le_of_ble_eq_true rfl, Nat.le_of_ble_eq_true rfl⟩) ⟨b_blind, b_recv E w (ci := 5) (q0 := 0) rfl rfl, (fun U9 hU9 hW9 => ⟨rfl, b_pre E Z w [0, 1, 2, 3, 4, 5, 6, 7, 8, 9, 10, 11, 12] (by decide) rfl (b_subA [0, 1] rfl) U9 hU9 hW9⟩)⟩ rfl rfl hl.1 rfl (lv_room (Nat.le_of_ble_eq_true rfl)) dL_hidden_4 ⟨Nat.le_of_ble_eq_true rfl, Nat.le_of_ble_eq_true rfl⟩) (b_subA [0, 1] rfl) [10, 11] (fun _ => rfl) rfl (fun E9 ce9 q9 H9 locs9 hex w9 hce hcv hcl => ?_) (fun r4_2 u4_2 H locs hr4_2 w => ?_)
  · rcases hex with ⟨rfl, hx9⟩
    · have hT : th1 (tHas 12 x) = 1 := by first | (simp [th1, th2, th3, hx9]; done) | (simp [th1, th2, th3, hx9]; omega) | (unfold th2; rw [hx9.1, hx9.2]; rfl) | (unfold th2; rw [hx9]; rfl) | (unfold th2; rw [hx9.1, if_pos rfl, if_neg (by simpa using hx9.2)])
      refine vx_catch (name := "java/lang/IndexOutOfBoundsException") hown [] ⟨0, 9, 12, 13⟩ [] htab b_pn (by decide) (by decide) (hts (.classLink RL 13 "java/lang/IndexOutOfBoundsException") (by decide +kernel)) (va_Nw.use rfl (E.2.1 (.castable "java/lang/IndexOutOfBoundsException" "java/lang/IndexOutOfBoundsException") (by decide +kernel)).2) hce hcv hcl ?_
      have w := w9
      refine lv_astore_n (lv' := [(3, .ref q9), (0, .ref H0), (1, .int x), (2, .ref ot)]) hx hb dL_hidden_12 rfl hl (by decide) rfl (fun ls hl => ?_)
      refine lv_iconst (v := nI 1) hx hb dL_hidden_13 (by decide) ?_
      exact W.iret (v := nI 1) hx hb hr (fun t9 ht9 hW9 => ⟨⟨nI 1, (v, 0), rfl, ⟨by rw [hT], fun h0 => absurd (hT.symm.trans h0) (by decide)⟩, by show va_P G.1 vwCl _ t9.heap; rw [ht9]; exact b_cg (by rw [hT]; rfl) (w.1.sub (ws' := [(qv, .inl (G.2.1, 140, .inl v)), (qh, .inl (G.2.2.1, 140, .inl (zB hid))), (ot, .inl (G.2.2.2, 1, .inr (.inl og)))]) [10, 11, 13] rfl)⟩, w.2.1.F ht9⟩) w.2.1.2.2 dL_hidden_14
  have w : bSt G vwCl [qv, qh, ot] s [(H0, .inr (5, [.ref tA, .ref tJ, .ref gO, .ref dO, .ref bO, .ref sO, .ref qs, .ref qr, .int (nI jd), .int (nI snt), .int (nI td)])), (tA, .inr (4, [.ref oA, .int (nI 10), .int (nI nA)])), (oA, .inl (G.2.1, 14, .inl fA)), (tJ, .inr (4, [.ref oJ, .int (nI 1), .int (nI nJ)])), (oJ, .inl (G.2.1, 10, .inl fJ)), (bO, .inr (1, [.ref ql, .ref qe, .ref qn, .ref qt, .ref qc, .ref qd, .ref qf, .int (nI bn)])), (qc, .inl (G.2.1, 300, .inl bc)), (qd, .inl (G.2.1, 300, .inl bd)), (qf, .inl (G.2.1, 300, .inl bf)), (sO, .inr (3, [.ref qv, .ref qh])), (qv, .inl (G.2.1, 140, .inl u4_2)), (qh, .inl (G.2.2.1, 140, .inl (zB (hdn fA nA fJ nJ sc (cl x) u4_2 hid)))), (qs, .inl (G.2.2.1, 1680, .inl (zB sc))), (ot, .inl (G.2.2.2, 1, .inr (.inl og)))] _ _ := w
  have hu9 := hr4_2
  have hT : th1 (tHas 12 x) = 0 := by first | (simp [th1, th2, th3, hu9]; done) | (simp [th1, th2, th3, hu9]; omega) | (unfold th2; rw [hu9.1, hu9.2]; rfl) | (unfold th1; rw [hu9.1]; rfl)
  refine lv_i2l (v := (r4_2).toInt64) hx hb dL_hidden_7 rfl ?_
  refine b_jast X E w (Or.inl (List.mem_of_getElem? (i := 2) rfl)) 13 rfl 0 rfl (by omega) (by first | decide | omega) dL_hidden_8 (fun H locs w => ?_)
  have w : bSt G vwCl [qv, qh, ot] s [(H0, .inr (5, [.ref tA, .ref tJ, .ref gO, .ref dO, .ref bO, .ref sO, .ref qs, .ref qr, .int (nI jd), .int (nI snt), .int (nI td)])), (tA, .inr (4, [.ref oA, .int (nI 10), .int (nI nA)])), (oA, .inl (G.2.1, 14, .inl fA)), (tJ, .inr (4, [.ref oJ, .int (nI 1), .int (nI nJ)])), (oJ, .inl (G.2.1, 10, .inl fJ)), (bO, .inr (1, [.ref ql, .ref qe, .ref qn, .ref qt, .ref qc, .ref qd, .ref qf, .int (nI bn)])), (qc, .inl (G.2.1, 300, .inl bc)), (qd, .inl (G.2.1, 300, .inl bd)), (qf, .inl (G.2.1, 300, .inl bf)), (sO, .inr (3, [.ref qv, .ref qh])), (qv, .inl (G.2.1, 140, .inl u4_2)), (qh, .inl (G.2.2.1, 140, .inl (zB (hdn fA nA fJ nJ sc (cl x) u4_2 hid)))), (qs, .inl (G.2.2.1, 1680, .inl (zB sc))), (ot, .inl (G.2.2.2, 1, .inr (.inl (vp_updL og 0 ((r4_2).toInt64)))))] _ _ := w
  refine lv_goto (tgt := 15) hx hb dL_hidden_9 (by decide) ?_
  refine lv_iconst (v := nI 0) hx hb dL_hidden_15 (by decide) ?_
  exact W.iret (v := nI 0) hx hb hr (fun t9 ht9 hW9 => ⟨⟨nI 0, (u4_2, r4_2), rfl, ⟨by rw [hT], fun _ => hu9⟩, by show va_P G.1 vwCl _ t9.heap; rw [ht9]; exact b_cg (by rw [hT]; rfl) (w.1.sub (ws' := [(qv, .inl (G.2.1, 140, .inl u4_2)), (qh, .inl (G.2.2.1, 140, .inl (zB (hdn fA nA fJ nJ sc (cl x) u4_2 hid)))), (ot, .inl (G.2.2.2, 1, .inr (.inl (vp_updL og 0 ((r4_2).toInt64)))))]) [10, 11, 13] rfl)⟩, w.2.1.F ht9⟩) w.2.1.2.2 dL_hidden_16
set_option maxHeartbeats 4000000 in
set_option maxRecDepth 100000 in
theorem c_L_secret (l : Launch) (hl0 : l.stackTraces = false) (G : bG) (sz : Nat) (H0 tA tJ gO dO bO sO qs qr jd snt td : Nat) (oA nA : Nat) (fA : Nat → Int32) (oJ nJ : Nat) (fJ : Nat → Int32) (ql qe qn qt qc qd qf bn : Nat) (bc : Nat → Int32) (bd : Nat → Int32) (bf : Nat → Int32) (qv qh : Nat) (v : Nat → Int32) (hid : Nat → Bool) (sc : Nat → Bool) (x y z : Int32) (b : Bool) (ot : Nat) (og : Nat → Int64) (hnA : nA ≤ 14) (hnJ : nJ ≤ 10) (hTA : TI fA nA) (hTJ : TI fJ nJ) (hbn : bn ≤ 300) (hbk : bOk nA nJ bn td bc bd) : Met l yL_secret wsL_secret ({ frames := 8, cells := 1, slots := 6, locals := 174 }) (va_Pc [.ref H0, .int x, .int y, .int z, .int (bI b), .ref ot] (bPre G vwCl bNW bSW sz [(H0, .inr (5, [.ref tA, .ref tJ, .ref gO, .ref dO, .ref bO, .ref sO, .ref qs, .ref qr, .int (nI jd), .int (nI snt), .int (nI td)])), (tA, .inr (4, [.ref oA, .int (nI 10), .int (nI nA)])), (oA, .inl (G.2.1, 14, .inl fA)), (tJ, .inr (4, [.ref oJ, .int (nI 1), .int (nI nJ)])), (oJ, .inl (G.2.1, 10, .inl fJ)), (bO, .inr (1, [.ref ql, .ref qe, .ref qn, .ref qt, .ref qc, .ref qd, .ref qf, .int (nI bn)])), (qc, .inl (G.2.1, 300, .inl bc)), (qd, .inl (G.2.1, 300, .inl bd)), (qf, .inl (G.2.1, 300, .inl bf)), (sO, .inr (3, [.ref qv, .ref qh])), (qv, .inl (G.2.1, 140, .inl v)), (qh, .inl (G.2.2.1, 140, .inl (zB hid))), (qs, .inl (G.2.2.1, 1680, .inl (zB sc))), (ot, .inl (G.2.2.2, 1, .inr (.inl og)))] [qs, qv, qh, ot])) (va_Qi (fun (r : Int32) (u : (Nat → Int32) × Int32) => r = nI (th1 (okC nA nJ x y z)) ∧ (th1 (okC nA nJ x y z) = 0 → okC nA nJ x y z = true ∧ (Fx (figs bc bd bf bn (cl z) (nI td)) fA nA fJ nJ u.1 ∧ vOut nA nJ u.1) ∧ u.2 = nI (cH (fun _ => true) (hdn fA nA fJ nJ (uB sc (cN x y z) b) (cl z) u.1 hid) 140))) (fun (u : (Nat → Int32) × Int32) (tS : State) => va_P G.1 vwCl [(qs, .inl (G.2.2.1, 1680, .inl (zB (gF (th1 (okC nA nJ x y z)) sc (uB sc (cN x y z) b))))), (qv, .inl (G.2.1, 140, .inl u.1)), (qh, .inl (G.2.2.1, 140, .inl (zB (gF (th1 (okC nA nJ x y z)) hid (hdn fA nA fJ nJ (uB sc (cN x y z) b) (cl z) u.1 hid))))), (ot, .inl (G.2.2.2, 1, .inr (.inl (gF (th1 (okC nA nJ x y z)) og (vp_updL og 0 (u.2.toInt64))))))] tS.heap) (Aw [qs, qv, qh, ot] sz)) 1 6 (Aw [qs, qv, qh, ot] sz) := by
  refine va_MetW (cc := cL_secret) (maxL := 7) (ret := (some .int)) (by decide) rfl ?_
  intro p e s m args below meth c s₁ B hml hv
  obtain ⟨rfl, hsz, hP, hD, E, Z⟩ := hv
  have hts := atoms_spec (ws := wsL_secret) B.pre
  have hown : s.vm.findClass RL = some m.cls := findClass_of_methodNamed B.named
  have X : CallFix p m c cL_secret 7 s _ wsL_secret RL := ⟨B.exec, B.bytes, hml, hown, hts⟩
  have hx := B.exec
  have hb := B.bytes
  have hr := B.returns
  have hlocks := B.notSynchronized
  have htab : c.exceptionTable.toList = tableOf [(0, 14, 17, 13)] := vx_table (x := yL_secret) B (hts _ List.mem_cons_self)
  subst hsz
  have w : bSt G vwCl [] s [(H0, .inr (5, [.ref tA, .ref tJ, .ref gO, .ref dO, .ref bO, .ref sO, .ref qs, .ref qr, .int (nI jd), .int (nI snt), .int (nI td)])), (tA, .inr (4, [.ref oA, .int (nI 10), .int (nI nA)])), (oA, .inl (G.2.1, 14, .inl fA)), (tJ, .inr (4, [.ref oJ, .int (nI 1), .int (nI nJ)])), (oJ, .inl (G.2.1, 10, .inl fJ)), (bO, .inr (1, [.ref ql, .ref qe, .ref qn, .ref qt, .ref qc, .ref qd, .ref qf, .int (nI bn)])), (qc, .inl (G.2.1, 300, .inl bc)), (qd, .inl (G.2.1, 300, .inl bd)), (qf, .inl (G.2.1, 300, .inl bf)), (sO, .inr (3, [.ref qv, .ref qh])), (qv, .inl (G.2.1, 140, .inl v)), (qh, .inl (G.2.2.1, 140, .inl (zB hid))), (qs, .inl (G.2.2.1, 1680, .inl (zB sc))), (ot, .inl (G.2.2.2, 1, .inr (.inl og)))] s.heap [] := ⟨hP, va_S.rf, hD⟩
  have Z0 : bZ [] s := ⟨Z.1.narrow (fun q h => h.elim (fun h => nomatch h) Or.inr), Z.2.narrow (fun q h => h.elim (fun h => nomatch h) Or.inr)⟩
  have hl := lv_entry ([.ref H0, .int x, .int y, .int z, .int (bI b), .ref ot]) (n := 7) (Nat.le_of_ble_eq_true rfl)
  rw [lg_entry_eq]
  generalize (lg_sl ([.ref H0, .int x, .int y, .int z, .int (bI b), .ref ot]) ++ List.replicate (7 - (lg_sl ([.ref H0, .int x, .int y, .int z, .int (bI b), .ref ot])).length) Slot.unset).toArray = ls at hl ⊢
  have hl : lv_has ls 7 [(0, .ref H0), (1, .int x), (2, .int y), (3, .int z), (4, .int (bI b)), (5, .ref ot)] := hl
  refine lv_aload hx hb dL_secret_0 (lv_at hl 5 rfl) ?_
  refine lv_iconst (v := nI 0) hx hb dL_secret_2 (by decide) ?_
  refine lv_aload_n hx hb dL_secret_3 rfl (lv_at hl 0 rfl) ?_
  refine lv_iload_n hx hb dL_secret_4 rfl (lv_at hl 1 rfl) ?_
  refine lv_iload_n hx hb dL_secret_5 rfl (lv_at hl 2 rfl) ?_
  refine lv_iload_n hx hb dL_secret_6 rfl (lv_at hl 3 rfl) ?_
  refine lv_iload hx hb dL_secret_7 (lv_at hl 4 rfl) ?_
  have w := b_wide [qs, qv, qh, ot] b_nil w
  refine b_xcalli w (vx_runV (As := [.int x, .int y, .int z, .int (bI b)]) (rest := [.int (nI 0), .ref ot]) X (c_X5_secret l hl0 G _ (td := td) (H0 := H0) (x := x) (y := y) (z := z) (b := b) (tA := tA) (tJ := tJ) (gO := gO) (dO := dO) (bO := bO) (sO := sO) (qs := qs) (qr := qr) (jd := jd) (snt := snt) (oA := oA) (nA := nA) (fA := fA) (oJ := oJ) (nJ := nJ) (fJ := fJ) (ql := ql) (qe := qe) (qn := qn) (qt := qt) (qc := qc) (qd := qd) (qf := qf) (bn := bn) (bc := bc) (bd := bd) (bf := bf) (qv := qv) (qh := qh) (v := v) (hid := hid) (sc := sc) (hnA := (by first | assumption | omega)) (hnJ := (by first | assumption | omega)) (hTA := (by first | assumption | omega)) (hTJ := (by first | assumption | omega)) (hbn := (by first | assumption | omega)) (hbk := (by first | assumption | omega))) (cwV 4 hts gL_secret_X5_secret rfl rfl rfl (by decide +kernel) ⟨Nat.le_of_ble_eq_true rfl, Nat.le_of_ble_eq_true rfl⟩) ⟨b_blind, b_recv E w (ci := 5) (q0 := 0) rfl rfl, (fun U9 hU9 hW9 => ⟨rfl, b_pre E Z w [0, 1, 2, 3, 4, 5, 6, 7, 8, 9, 10, 11, 12] (by decide) rfl (b_subA [0, 1, 2] rfl) U9 hU9 hW9⟩)⟩ rfl rfl hl.1 rfl (lv_room (Nat.le_of_ble_eq_true rfl)) dL_secret_9 ⟨Nat.le_of_ble_eq_true rfl, Nat.le_of_ble_eq_true rfl⟩) (b_subA [0, 1, 2] rfl) [12, 10, 11] (fun _ => rfl) rfl (fun E9 ce9 q9 H9 locs9 hex w9 hce hcv hcl => ?_) (fun r9_2 u9_2 H locs hr9_2 w => ?_)
  · rcases hex with ⟨rfl, hx9⟩
    · have hT : th1 (okC nA nJ x y z) = 1 := by first | (simp [th1, th2, th3, hx9]; done) | (simp [th1, th2, th3, hx9]; omega) | (unfold th2; rw [hx9.1, hx9.2]; rfl) | (unfold th2; rw [hx9]; rfl) | (unfold th2; rw [hx9.1, if_pos rfl, if_neg (by simpa using hx9.2)])
      refine vx_catch (name := "java/lang/IndexOutOfBoundsException") hown [] ⟨0, 14, 17, 13⟩ [] htab b_pn (by decide) (by decide) (hts (.classLink RL 13 "java/lang/IndexOutOfBoundsException") (by decide +kernel)) (va_Nw.use rfl (E.2.1 (.castable "java/lang/IndexOutOfBoundsException" "java/lang/IndexOutOfBoundsException") (by decide +kernel)).2) hce hcv hcl ?_
      have w := w9
      refine lv_astore (lv' := [(6, .ref q9), (0, .ref H0), (1, .int x), (2, .int y), (3, .int z), (4, .int (bI b)), (5, .ref ot)]) hx hb dL_secret_17 hl (by decide) rfl (fun ls hl => ?_)
      refine lv_iconst (v := nI 1) hx hb dL_secret_19 (by decide) ?_
      exact W.iret (v := nI 1) hx hb hr (fun t9 ht9 hW9 => ⟨⟨nI 1, (v, 0), rfl, ⟨by rw [hT], fun h0 => absurd (hT.symm.trans h0) (by decide)⟩, by show va_P G.1 vwCl _ t9.heap; rw [ht9]; exact b_cg (by rw [hT]; rfl) (w.1.sub (ws' := [(qs, .inl (G.2.2.1, 1680, .inl (zB sc))), (qv, .inl (G.2.1, 140, .inl v)), (qh, .inl (G.2.2.1, 140, .inl (zB hid))), (ot, .inl (G.2.2.2, 1, .inr (.inl og)))]) [12, 10, 11, 13] rfl)⟩, w.2.1.F ht9⟩) w.2.1.2.2 dL_secret_20
  have w : bSt G vwCl [qs, qv, qh, ot] s [(H0, .inr (5, [.ref tA, .ref tJ, .ref gO, .ref dO, .ref bO, .ref sO, .ref qs, .ref qr, .int (nI jd), .int (nI snt), .int (nI td)])), (tA, .inr (4, [.ref oA, .int (nI 10), .int (nI nA)])), (oA, .inl (G.2.1, 14, .inl fA)), (tJ, .inr (4, [.ref oJ, .int (nI 1), .int (nI nJ)])), (oJ, .inl (G.2.1, 10, .inl fJ)), (bO, .inr (1, [.ref ql, .ref qe, .ref qn, .ref qt, .ref qc, .ref qd, .ref qf, .int (nI bn)])), (qc, .inl (G.2.1, 300, .inl bc)), (qd, .inl (G.2.1, 300, .inl bd)), (qf, .inl (G.2.1, 300, .inl bf)), (sO, .inr (3, [.ref qv, .ref qh])), (qv, .inl (G.2.1, 140, .inl u9_2)), (qh, .inl (G.2.2.1, 140, .inl (zB (hdn fA nA fJ nJ (uB sc (cN x y z) b) (cl z) u9_2 hid)))), (qs, .inl (G.2.2.1, 1680, .inl (zB (uB sc (cN x y z) b)))), (ot, .inl (G.2.2.2, 1, .inr (.inl og)))] _ _ := w
  have hu9 := hr9_2
  have hT : th1 (okC nA nJ x y z) = 0 := by first | (simp [th1, th2, th3, hu9]; done) | (simp [th1, th2, th3, hu9]; omega) | (unfold th2; rw [hu9.1, hu9.2]; rfl) | (unfold th1; rw [hu9.1]; rfl)
  refine lv_i2l (v := (r9_2).toInt64) hx hb dL_secret_12 rfl ?_
  refine b_jast X E w (Or.inl (List.mem_of_getElem? (i := 3) rfl)) 13 rfl 0 rfl (by omega) (by first | decide | omega) dL_secret_13 (fun H locs w => ?_)
  have w : bSt G vwCl [qs, qv, qh, ot] s [(H0, .inr (5, [.ref tA, .ref tJ, .ref gO, .ref dO, .ref bO, .ref sO, .ref qs, .ref qr, .int (nI jd), .int (nI snt), .int (nI td)])), (tA, .inr (4, [.ref oA, .int (nI 10), .int (nI nA)])), (oA, .inl (G.2.1, 14, .inl fA)), (tJ, .inr (4, [.ref oJ, .int (nI 1), .int (nI nJ)])), (oJ, .inl (G.2.1, 10, .inl fJ)), (bO, .inr (1, [.ref ql, .ref qe, .ref qn, .ref qt, .ref qc, .ref qd, .ref qf, .int (nI bn)])), (qc, .inl (G.2.1, 300, .inl bc)), (qd, .inl (G.2.1, 300, .inl bd)), (qf, .inl (G.2.1, 300, .inl bf)), (sO, .inr (3, [.ref qv, .ref qh])), (qv, .inl (G.2.1, 140, .inl u9_2)), (qh, .inl (G.2.2.1, 140, .inl (zB (hdn fA nA fJ nJ (uB sc (cN x y z) b) (cl z) u9_2 hid)))), (qs, .inl (G.2.2.1, 1680, .inl (zB (uB sc (cN x y z) b)))), (ot, .inl (G.2.2.2, 1, .inr (.inl (vp_updL og 0 ((r9_2).toInt64)))))] _ _ := w
  refine lv_goto (tgt := 21) hx hb dL_secret_14 (by decide) ?_
  refine lv_iconst (v := nI 0) hx hb dL_secret_21 (by decide) ?_
  exact W.iret (v := nI 0) hx hb hr (fun t9 ht9 hW9 => ⟨⟨nI 0, (u9_2, r9_2), rfl, ⟨by rw [hT], fun _ => hu9⟩, by show va_P G.1 vwCl _ t9.heap; rw [ht9]; exact b_cg (by rw [hT]; rfl) (w.1.sub (ws' := [(qs, .inl (G.2.2.1, 1680, .inl (zB (uB sc (cN x y z) b)))), (qv, .inl (G.2.1, 140, .inl u9_2)), (qh, .inl (G.2.2.1, 140, .inl (zB (hdn fA nA fJ nJ (uB sc (cN x y z) b) (cl z) u9_2 hid)))), (ot, .inl (G.2.2.2, 1, .inr (.inl (vp_updL og 0 ((r9_2).toInt64)))))]) [12, 10, 11, 13] rfl)⟩, w.2.1.F ht9⟩) w.2.1.2.2 dL_secret_22
set_option maxHeartbeats 4000000 in
set_option maxRecDepth 100000 in
theorem c_L_hasFault (l : Launch) (hl0 : l.stackTraces = false) (G : bG) (sz : Nat) (H0 tA tJ gO dO bO sO qs qr jd snt td : Nat) (oA nA : Nat) (fA : Nat → Int32) (oJ nJ : Nat) (fJ : Nat → Int32) (ql qe qn qt qc qd qf bn : Nat) (lat : Nat → Int32) (bc : Nat → Int32) (bd : Nat → Int32) (bf : Nat → Int32) (qv qh : Nat) (v : Nat → Int32) (x y z : Int32) (ot : Nat) (og : Nat → Int64) (hnA : nA ≤ 14) (hnJ : nJ ≤ 10) (hTA : TI fA nA) (hTJ : TI fJ nJ) (hbn : bn ≤ 300) (hbk : bOk nA nJ bn td bc bd) : Met l yL_hasFault wsL_hasFault ({ frames := 8, cells := 1, slots := 6, locals := 138 }) (va_Pc [.ref H0, .int x, .int y, .int z, .ref ot] (bPre G vwCl bNW bSW sz [(H0, .inr (5, [.ref tA, .ref tJ, .ref gO, .ref dO, .ref bO, .ref sO, .ref qs, .ref qr, .int (nI jd), .int (nI snt), .int (nI td)])), (tA, .inr (4, [.ref oA, .int (nI 10), .int (nI nA)])), (oA, .inl (G.2.1, 14, .inl fA)), (tJ, .inr (4, [.ref oJ, .int (nI 1), .int (nI nJ)])), (oJ, .inl (G.2.1, 10, .inl fJ)), (bO, .inr (1, [.ref ql, .ref qe, .ref qn, .ref qt, .ref qc, .ref qd, .ref qf, .int (nI bn)])), (ql, .inl (G.2.1, 1680, .inl lat)), (qc, .inl (G.2.1, 300, .inl bc)), (qd, .inl (G.2.1, 300, .inl bd)), (qf, .inl (G.2.1, 300, .inl bf)), (sO, .inr (3, [.ref qv, .ref qh])), (qv, .inl (G.2.1, 140, .inl v)), (ot, .inl (G.2.2.2, 1, .inr (.inl og)))] [qv, ot])) (va_Qi (fun (r : Int32) (u : (Nat → Int32) × Int32) => r = nI (th1 (okC nA nJ x y z)) ∧ (th1 (okC nA nJ x y z) = 0 → okC nA nJ x y z = true ∧ ((lat (cN x y z) = MIS ∧ u.2 = nI 0) ∨ (¬ lat (cN x y z) = MIS ∧ (Fx (figs bc bd bf bn (cl z) (nI td)) fA nA fJ nJ u.1 ∧ vOut nA nJ u.1) ∧ u.2 = bI (iOS (sA fA nA u.1 (cl x) (cl y)) (lat (cN x y z)) || iOS (sJ fJ nJ u.1 (cl x) (cl y)) (lat (cN x y z))))))) (fun (u : (Nat → Int32) × Int32) (tS : State) => va_P G.1 vwCl [(qv, .inl (G.2.1, 140, .inl u.1)), (ot, .inl (G.2.2.2, 1, .inr (.inl (gF (th1 (okC nA nJ x y z)) og (vp_updL og 0 (kL u.2))))))] tS.heap) (Aw [qv, ot] sz)) 1 6 (Aw [qv, ot] sz) := by
  refine va_MetW (cc := cL_hasFault) (maxL := 6) (ret := (some .int)) (by decide) rfl ?_
  intro p e s m args below meth c s₁ B hml hv
  obtain ⟨rfl, hsz, hP, hD, E, Z⟩ := hv
  have hts := atoms_spec (ws := wsL_hasFault) B.pre
  have hown : s.vm.findClass RL = some m.cls := findClass_of_methodNamed B.named
  have X : CallFix p m c cL_hasFault 6 s _ wsL_hasFault RL := ⟨B.exec, B.bytes, hml, hown, hts⟩
  have hx := B.exec
  have hb := B.bytes
  have hr := B.returns
  have hlocks := B.notSynchronized
  have htab : c.exceptionTable.toList = tableOf [(0, 19, 22, 13)] := vx_table (x := yL_hasFault) B (hts _ List.mem_cons_self)
  subst hsz
  have w : bSt G vwCl [] s [(H0, .inr (5, [.ref tA, .ref tJ, .ref gO, .ref dO, .ref bO, .ref sO, .ref qs, .ref qr, .int (nI jd), .int (nI snt), .int (nI td)])), (tA, .inr (4, [.ref oA, .int (nI 10), .int (nI nA)])), (oA, .inl (G.2.1, 14, .inl fA)), (tJ, .inr (4, [.ref oJ, .int (nI 1), .int (nI nJ)])), (oJ, .inl (G.2.1, 10, .inl fJ)), (bO, .inr (1, [.ref ql, .ref qe, .ref qn, .ref qt, .ref qc, .ref qd, .ref qf, .int (nI bn)])), (ql, .inl (G.2.1, 1680, .inl lat)), (qc, .inl (G.2.1, 300, .inl bc)), (qd, .inl (G.2.1, 300, .inl bd)), (qf, .inl (G.2.1, 300, .inl bf)), (sO, .inr (3, [.ref qv, .ref qh])), (qv, .inl (G.2.1, 140, .inl v)), (ot, .inl (G.2.2.2, 1, .inr (.inl og)))] s.heap [] := ⟨hP, va_S.rf, hD⟩
  have Z0 : bZ [] s := ⟨Z.1.narrow (fun q h => h.elim (fun h => nomatch h) Or.inr), Z.2.narrow (fun q h => h.elim (fun h => nomatch h) Or.inr)⟩
  have hl := lv_entry ([.ref H0, .int x, .int y, .int z, .ref ot]) (n := 6) (Nat.le_of_ble_eq_true rfl)
  rw [lg_entry_eq]
  generalize (lg_sl ([.ref H0, .int x, .int y, .int z, .ref ot]) ++ List.replicate (6 - (lg_sl ([.ref H0, .int x, .int y, .int z, .ref ot])).length) Slot.unset).toArray = ls at hl ⊢
  have hl : lv_has ls 6 [(0, .ref H0), (1, .int x), (2, .int y), (3, .int z), (4, .ref ot)] := hl
  refine lv_aload hx hb dL_hasFault_0 (lv_at hl 4 rfl) ?_
  refine lv_iconst (v := nI 0) hx hb dL_hasFault_2 (by decide) ?_
  refine lv_aload_n hx hb dL_hasFault_3 rfl (lv_at hl 0 rfl) ?_
  refine lv_iload_n hx hb dL_hasFault_4 rfl (lv_at hl 1 rfl) ?_
  refine lv_iload_n hx hb dL_hasFault_5 rfl (lv_at hl 2 rfl) ?_
  refine lv_iload_n hx hb dL_hasFault_6 rfl (lv_at hl 3 rfl) ?_
  have w := b_wide [qv, ot] b_nil w
  refine b_xcalli w (vx_runV (As := [.int x, .int y, .int z]) (rest := [.int (nI 0), .ref ot]) X (c_X5_hasFault l hl0 G _ (td := td) (H0 := H0) (x := x) (y := y) (z := z) (tA := tA) (tJ := tJ) (gO := gO) (dO := dO) (bO := bO) (sO := sO) (qs := qs) (qr := qr) (jd := jd) (snt := snt) (oA := oA) (nA := nA) (fA := fA) (oJ := oJ) (nJ := nJ) (fJ := fJ) (ql := ql) (qe := qe) (qn := qn) (qt := qt) (qc := qc) (qd := qd) (qf := qf) (bn := bn) (lat := lat) (bc := bc) (bd := bd) (bf := bf) (qv := qv) (qh := qh) (v := v) (hnA := (by first | assumption | omega)) (hnJ := (by first | assumption | omega)) (hTA := (by first | assumption | omega)) (hTJ := (by first | assumption | omega)) (hbn := (by first | assumption | omega)) (hbk := (by first | assumption | omega))) (cwV 3 hts gL_hasFault_X5_hasFault rfl rfl rfl (by decide +kernel) ⟨Nat.le_of_ble_eq_true rfl, Nat.le_of_ble_eq_true rfl⟩) ⟨b_blind, b_recv E w (ci := 5) (q0 := 0) rfl rfl, (fun U9 hU9 hW9 => ⟨rfl, b_pre E Z w [0, 1, 2, 3, 4, 5, 6, 7, 8, 9, 10, 11] (by decide) rfl (b_subA [0] rfl) U9 hU9 hW9⟩)⟩ rfl rfl hl.1 rfl (lv_room (Nat.le_of_ble_eq_true rfl)) dL_hasFault_7 ⟨Nat.le_of_ble_eq_true rfl, Nat.le_of_ble_eq_true rfl⟩) (b_subA [0] rfl) [11] (fun _ => rfl) rfl (fun E9 ce9 q9 H9 locs9 hex w9 hce hcv hcl => ?_) (fun r7_3 u7_3 H locs hr7_3 w => ?_)
  · rcases hex with ⟨rfl, hx9⟩
    · have hT : th1 (okC nA nJ x y z) = 1 := by first | (simp [th1, th2, th3, hx9]; done) | (simp [th1, th2, th3, hx9]; omega) | (unfold th2; rw [hx9.1, hx9.2]; rfl) | (unfold th2; rw [hx9]; rfl) | (unfold th2; rw [hx9.1, if_pos rfl, if_neg (by simpa using hx9.2)])
      refine vx_catch (name := "java/lang/IndexOutOfBoundsException") hown [] ⟨0, 19, 22, 13⟩ [] htab b_pn (by decide) (by decide) (hts (.classLink RL 13 "java/lang/IndexOutOfBoundsException") (by decide +kernel)) (va_Nw.use rfl (E.2.1 (.castable "java/lang/IndexOutOfBoundsException" "java/lang/IndexOutOfBoundsException") (by decide +kernel)).2) hce hcv hcl ?_
      have w := w9
      refine lv_astore (lv' := [(5, .ref q9), (0, .ref H0), (1, .int x), (2, .int y), (3, .int z), (4, .ref ot)]) hx hb dL_hasFault_22 hl (by decide) rfl (fun ls hl => ?_)
      refine lv_iconst (v := nI 1) hx hb dL_hasFault_24 (by decide) ?_
      exact W.iret (v := nI 1) hx hb hr (fun t9 ht9 hW9 => ⟨⟨nI 1, (v, 0), rfl, ⟨by rw [hT], fun h0 => absurd (hT.symm.trans h0) (by decide)⟩, by show va_P G.1 vwCl _ t9.heap; rw [ht9]; exact b_cg (by rw [hT]; rfl) (w.1.sub (ws' := [(qv, .inl (G.2.1, 140, .inl v)), (ot, .inl (G.2.2.2, 1, .inr (.inl og)))]) [11, 12] rfl)⟩, w.2.1.F ht9⟩) w.2.1.2.2 dL_hasFault_25
  have w : bSt G vwCl [qv, ot] s [(H0, .inr (5, [.ref tA, .ref tJ, .ref gO, .ref dO, .ref bO, .ref sO, .ref qs, .ref qr, .int (nI jd), .int (nI snt), .int (nI td)])), (tA, .inr (4, [.ref oA, .int (nI 10), .int (nI nA)])), (oA, .inl (G.2.1, 14, .inl fA)), (tJ, .inr (4, [.ref oJ, .int (nI 1), .int (nI nJ)])), (oJ, .inl (G.2.1, 10, .inl fJ)), (bO, .inr (1, [.ref ql, .ref qe, .ref qn, .ref qt, .ref qc, .ref qd, .ref qf, .int (nI bn)])), (ql, .inl (G.2.1, 1680, .inl lat)), (qc, .inl (G.2.1, 300, .inl bc)), (qd, .inl (G.2.1, 300, .inl bd)), (qf, .inl (G.2.1, 300, .inl bf)), (sO, .inr (3, [.ref qv, .ref qh])), (qv, .inl (G.2.1, 140, .inl u7_3)), (ot, .inl (G.2.2.2, 1, .inr (.inl og)))] _ _ := w
  have hu9 := hr7_3
  have hT : th1 (okC nA nJ x y z) = 0 := by first | (simp [th1, th2, th3, hu9]; done) | (simp [th1, th2, th3, hu9]; omega) | (unfold th2; rw [hu9.1, hu9.2]; rfl) | (unfold th1; rw [hu9.1]; rfl)
  refine lv_if_eq (tgt := 17) hx hb dL_hasFault_10 (by decide) (fun c_10_4 => ?_) (fun c_10_4 => ?_)
  · have hkL : kL (r7_3) = 0 := if_pos c_10_4
    refine lv_lconst (v := 0) hx hb dL_hasFault_17 (by decide) ?_
    refine b_jast X E w (Or.inl (List.mem_of_getElem? (i := 1) rfl)) 12 rfl 0 rfl (by omega) (by first | decide | omega) dL_hasFault_18 (fun H locs w => ?_)
    have w : bSt G vwCl [qv, ot] s [(H0, .inr (5, [.ref tA, .ref tJ, .ref gO, .ref dO, .ref bO, .ref sO, .ref qs, .ref qr, .int (nI jd), .int (nI snt), .int (nI td)])), (tA, .inr (4, [.ref oA, .int (nI 10), .int (nI nA)])), (oA, .inl (G.2.1, 14, .inl fA)), (tJ, .inr (4, [.ref oJ, .int (nI 1), .int (nI nJ)])), (oJ, .inl (G.2.1, 10, .inl fJ)), (bO, .inr (1, [.ref ql, .ref qe, .ref qn, .ref qt, .ref qc, .ref qd, .ref qf, .int (nI bn)])), (ql, .inl (G.2.1, 1680, .inl lat)), (qc, .inl (G.2.1, 300, .inl bc)), (qd, .inl (G.2.1, 300, .inl bd)), (qf, .inl (G.2.1, 300, .inl bf)), (sO, .inr (3, [.ref qv, .ref qh])), (qv, .inl (G.2.1, 140, .inl u7_3)), (ot, .inl (G.2.2.2, 1, .inr (.inl (vp_updL og 0 0))))] _ _ := w
    refine lv_goto (tgt := 26) hx hb dL_hasFault_19 (by decide) ?_
    refine lv_iconst (v := nI 0) hx hb dL_hasFault_26 (by decide) ?_
    exact W.iret (v := nI 0) hx hb hr (fun t9 ht9 hW9 => ⟨⟨nI 0, (u7_3, r7_3), rfl, ⟨by rw [hT], fun _ => hu9⟩, by show va_P G.1 vwCl _ t9.heap; rw [ht9]; exact b_cg (by rw [hT, hkL]; rfl) (w.1.sub (ws' := [(qv, .inl (G.2.1, 140, .inl u7_3)), (ot, .inl (G.2.2.2, 1, .inr (.inl (vp_updL og 0 0))))]) [11, 12] rfl)⟩, w.2.1.F ht9⟩) w.2.1.2.2 dL_hasFault_27
  · have hkL : kL (r7_3) = 1 := if_neg c_10_4
    refine lv_lconst (v := 1) hx hb dL_hasFault_13 (by decide) ?_
    refine lv_goto (tgt := 18) hx hb dL_hasFault_14 (by decide) ?_
    refine b_jast X E w (Or.inl (List.mem_of_getElem? (i := 1) rfl)) 12 rfl 0 rfl (by omega) (by first | decide | omega) dL_hasFault_18 (fun H locs w => ?_)
    have w : bSt G vwCl [qv, ot] s [(H0, .inr (5, [.ref tA, .ref tJ, .ref gO, .ref dO, .ref bO, .ref sO, .ref qs, .ref qr, .int (nI jd), .int (nI snt), .int (nI td)])), (tA, .inr (4, [.ref oA, .int (nI 10), .int (nI nA)])), (oA, .inl (G.2.1, 14, .inl fA)), (tJ, .inr (4, [.ref oJ, .int (nI 1), .int (nI nJ)])), (oJ, .inl (G.2.1, 10, .inl fJ)), (bO, .inr (1, [.ref ql, .ref qe, .ref qn, .ref qt, .ref qc, .ref qd, .ref qf, .int (nI bn)])), (ql, .inl (G.2.1, 1680, .inl lat)), (qc, .inl (G.2.1, 300, .inl bc)), (qd, .inl (G.2.1, 300, .inl bd)), (qf, .inl (G.2.1, 300, .inl bf)), (sO, .inr (3, [.ref qv, .ref qh])), (qv, .inl (G.2.1, 140, .inl u7_3)), (ot, .inl (G.2.2.2, 1, .inr (.inl (vp_updL og 0 1))))] _ _ := w
    refine lv_goto (tgt := 26) hx hb dL_hasFault_19 (by decide) ?_
    refine lv_iconst (v := nI 0) hx hb dL_hasFault_26 (by decide) ?_
    exact W.iret (v := nI 0) hx hb hr (fun t9 ht9 hW9 => ⟨⟨nI 0, (u7_3, r7_3), rfl, ⟨by rw [hT], fun _ => hu9⟩, by show va_P G.1 vwCl _ t9.heap; rw [ht9]; exact b_cg (by rw [hT, hkL]; rfl) (w.1.sub (ws' := [(qv, .inl (G.2.1, 140, .inl u7_3)), (ot, .inl (G.2.2.2, 1, .inr (.inl (vp_updL og 0 1))))]) [11, 12] rfl)⟩, w.2.1.F ht9⟩) w.2.1.2.2 dL_hasFault_27
