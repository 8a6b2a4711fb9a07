set_option maxHeartbeats 4000000 in
set_option maxRecDepth 100000 in
theorem c_X5_area (l : Launch) (hl0 : l.stackTraces = false) (G : bG) (sz : Nat) (H0 tA tJ gO dO bO sO qs qr jd snt td : Nat) (oA nA : Nat) (fA : Nat → Int32) (x : Int32) (hnA : nA ≤ 14) : vx_Met l yX5_area wsX5_area ({ frames := 7, cells := 2, slots := 12, locals := 111 }) (va_Pc [.ref H0, .int x] (bPre G vwCl bNW bSW sz [(H0, .inr (5, [.ref tA, .ref tJ, .ref gO, .ref dO, .ref bO, .ref sO, .ref qs, .ref qr, .int (nI jd), .int (nI snt), .int (nI td)])), (tA, .inr (4, [.ref oA, .int (nI 10), .int (nI nA)])), (oA, .inl (G.2.1, 14, .inl fA))] [tA, oA])) (va_Qi (fun (r : Int32) (_ : Unit) => r = nI nA ∧ (tPat nA x = true ∧ nA < 14)) (fun (_ : Unit) (tS : State) => va_P G.1 vwCl [(tA, .inr (4, [.ref oA, .int (nI 10), .int (nI (nA + 1))])), (oA, .inl (G.2.1, 14, .inl (upd fA nA x)))] tS.heap) (Aw [tA, oA] sz)) (bX (fun E => (E = xIO ∧ tPat nA x = false) ∨ (E = xIS ∧ tPat nA x = true ∧ 14 ≤ nA)) sz) 2 12 (Aw [tA, oA] sz) := by
  refine vx_ofW (cc := cX5_area) (maxL := 2) (ret := (some .int)) (by decide) rfl ?_
  intro p e s m args below meth c s₁ B hml hxt hv
  obtain ⟨rfl, hsz, hP, hD, E, Z⟩ := hv
  have hts := atoms_spec (ws := wsX5_area) B.pre
  have hown : s.vm.findClass RX5 = some m.cls := findClass_of_methodNamed B.named
  have X : CallFix p m c cX5_area 2 s _ wsX5_area RX5 := ⟨B.exec, B.bytes, hml, hown, hts⟩
  have hx := B.exec
  have hb := B.bytes
  have hr := B.returns
  have hlocks := B.notSynchronized
  subst hsz
  have w : bSt G vwCl [] s [(H0, .inr (5, [.ref tA, .ref tJ, .ref gO, .ref dO, .ref bO, .ref sO, .ref qs, .ref qr, .int (nI jd), .int (nI snt), .int (nI td)])), (tA, .inr (4, [.ref oA, .int (nI 10), .int (nI nA)])), (oA, .inl (G.2.1, 14, .inl fA))] s.heap [] := ⟨hP, va_S.rf, hD⟩
  have Z0 : bZ [] s := ⟨Z.1.narrow (fun q h => h.elim (fun h => nomatch h) Or.inr), Z.2.narrow (fun q h => h.elim (fun h => nomatch h) Or.inr)⟩
  have iX5 : ∀ w ∈ wsX50, w ∈ wsX5_area := by decide +kernel
  have hl := lv_entry ([.ref H0, .int x]) (n := 2) (Nat.le_of_ble_eq_true rfl)
  rw [lg_entry_eq]
  generalize (lg_sl ([.ref H0, .int x]) ++ List.replicate (2 - (lg_sl ([.ref H0, .int x])).length) Slot.unset).toArray = ls at hl ⊢
  have hl : lv_has ls 2 [(0, .ref H0), (1, .int x)] := hl
  refine lv_aload_n hx hb dX5_area_0 rfl (lv_at hl 0 rfl) ?_
  refine b_get X E w 0 rfl rfl 0 (by decide) iX5 (by decide +kernel) rfl rfl dX5_area_1 ?_
  refine lv_iload_n hx hb dX5_area_4 rfl (lv_at hl 1 rfl) ?_
  refine b_xcallv w (vx_runS (As := [.ref tA, .int x]) (rest := []) X (c_X5_requireNumberOrNone l hl0 G _ (th := tA) (x := x) (o := oA) (str := 10) (n := nA) ) (va_cwS 2 hts gX5_area_X5_requireNumberOrNone rfl rfl rfl (by decide +kernel) ⟨Nat.le_of_ble_eq_true rfl, Nat.le_of_ble_eq_true rfl⟩) ⟨b_blind, (fun U9 hU9 hW9 => ⟨rfl, b_pre E Z0 w [1] (by decide) rfl b_nil U9 hU9 hW9⟩)⟩ rfl rfl hl.1 rfl (lv_room (Nat.le_of_ble_eq_true rfl)) dX5_area_5 ⟨Nat.le_of_ble_eq_true rfl, Nat.le_of_ble_eq_true rfl⟩) b_nil [] (fun _ => rfl) rfl (fun E9 ce9 q9 H9 locs9 hex w9 hce hcv hcl => b_out hxt hlocks w9 (Or.inl hex) hce hcv hcl (by decide) (by decide)) (fun u5_4 H locs hr5_4 w => ?_)
  have w : bSt G vwCl [] s [(H0, .inr (5, [.ref tA, .ref tJ, .ref gO, .ref dO, .ref bO, .ref sO, .ref qs, .ref qr, .int (nI jd), .int (nI snt), .int (nI td)])), (tA, .inr (4, [.ref oA, .int (nI 10), .int (nI nA)])), (oA, .inl (G.2.1, 14, .inl fA))] _ _ := w
  have h1 := hr5_4
  refine lv_aload_n hx hb dX5_area_8 rfl (lv_at hl 0 rfl) ?_
  refine b_get X E w 0 rfl rfl 0 (by decide) iX5 (by decide +kernel) rfl rfl dX5_area_9 ?_
  refine b_xcallv w (vx_runS (As := [.ref tA]) (rest := []) X (c_X5_requireRoom l hl0 G _ (th := tA) (o := oA) (str := 10) (n := nA) (cap := 14) (f := fA) (hn := (by first | assumption | omega)) (hc := (by first | assumption | omega))) (va_cwS 1 hts gX5_area_X5_requireRoom rfl rfl rfl (by decide +kernel) ⟨Nat.le_of_ble_eq_true rfl, Nat.le_of_ble_eq_true rfl⟩) ⟨b_blind, (fun U9 hU9 hW9 => ⟨rfl, b_pre E Z0 w [1, 2] (by decide) rfl b_nil U9 hU9 hW9⟩)⟩ rfl rfl hl.1 rfl (lv_room (Nat.le_of_ble_eq_true rfl)) dX5_area_12 ⟨Nat.le_of_ble_eq_true rfl, Nat.le_of_ble_eq_true rfl⟩) b_nil [] (fun _ => rfl) rfl (fun E9 ce9 q9 H9 locs9 hex w9 hce hcv hcl => b_out hxt hlocks w9 (Or.inr ⟨hex.1, h1, hex.2⟩) hce hcv hcl (by decide) (by decide)) (fun u12_5 H locs hr12_5 w => ?_)
  have w : bSt G vwCl [] s [(H0, .inr (5, [.ref tA, .ref tJ, .ref gO, .ref dO, .ref bO, .ref sO, .ref qs, .ref qr, .int (nI jd), .int (nI snt), .int (nI td)])), (tA, .inr (4, [.ref oA, .int (nI 10), .int (nI nA)])), (oA, .inl (G.2.1, 14, .inl fA))] _ _ := w
  have h2 := hr12_5
  refine lv_aload_n hx hb dX5_area_15 rfl (lv_at hl 0 rfl) ?_
  refine b_get X E w 0 rfl rfl 0 (by decide) iX5 (by decide +kernel) rfl rfl dX5_area_16 ?_
  refine lv_iload_n hx hb dX5_area_19 rfl (lv_at hl 1 rfl) ?_
  have w := b_wide [tA, oA] b_nil w
  refine b_calli w (va_runV (As := [.int x]) (rest := []) X (c_X4_grow l hl0 G _ (h := tA) (x := x) (o := oA) (str := 10) (n := nA) (cap := 14) (f := fA) (hn := (by first | assumption | omega)) (hc := (by first | assumption | omega))) (cwV 1 hts gX5_area_X4_grow rfl rfl rfl (by decide +kernel) ⟨Nat.le_of_ble_eq_true rfl, Nat.le_of_ble_eq_true rfl⟩) ⟨b_blind, b_recv E w (ci := 4) (q0 := 1) rfl rfl, (fun U9 hU9 hW9 => ⟨rfl, b_pre E Z w [1, 2] (by decide) rfl (b_subA [0, 1] rfl) U9 hU9 hW9⟩)⟩ rfl rfl hl.1 rfl (lv_room (Nat.le_of_ble_eq_true rfl)) dX5_area_20 ⟨Nat.le_of_ble_eq_true rfl, Nat.le_of_ble_eq_true rfl⟩) (b_subA [0, 1] rfl) [1, 2] (fun _ => rfl) rfl (fun r20_6 u20_6 H locs hr20_6 w => ?_)
  have w : bSt G vwCl [tA, oA] s [(H0, .inr (5, [.ref tA, .ref tJ, .ref gO, .ref dO, .ref bO, .ref sO, .ref qs, .ref qr, .int (nI jd), .int (nI snt), .int (nI td)])), (tA, .inr (4, [.ref oA, .int (nI 10), .int (nI (nA + 1))])), (oA, .inl (G.2.1, 14, .inl (upd fA nA x)))] _ _ := w
  subst hr20_6
  refine vx_ret ?_
  exact W.iret (v := nI nA) hx hb hr (fun t9 ht9 hW9 => ⟨⟨nI nA, (), rfl, ⟨rfl, h1, h2⟩, by show va_P G.1 vwCl _ t9.heap; rw [ht9]; exact b_cg (rfl) (w.1.sub (ws' := [(tA, .inr (4, [.ref oA, .int (nI 10), .int (nI (nA + 1))])), (oA, .inl (G.2.1, 14, .inl (upd fA nA x)))]) [1, 2] rfl)⟩, w.2.1.F ht9⟩) w.2.1.2.2 dX5_area_23
set_option maxHeartbeats 4000000 in
set_option maxRecDepth 100000 in
theorem c_X5_item (l : Launch) (hl0 : l.stackTraces = false) (G : bG) (sz : Nat) (H0 tA tJ gO dO bO sO qs qr jd snt td : Nat) (oJ nJ : Nat) (fJ : Nat → Int32) (x : Int32) (hnJ : nJ ≤ 10) : vx_Met l yX5_item wsX5_item ({ frames := 7, cells := 2, slots := 12, locals := 111 }) (va_Pc [.ref H0, .int x] (bPre G vwCl bNW bSW sz [(H0, .inr (5, [.ref tA, .ref tJ, .ref gO, .ref dO, .ref bO, .ref sO, .ref qs, .ref qr, .int (nI jd), .int (nI snt), .int (nI td)])), (tJ, .inr (4, [.ref oJ, .int (nI 1), .int (nI nJ)])), (oJ, .inl (G.2.1, 10, .inl fJ))] [tJ, oJ])) (va_Qi (fun (r : Int32) (_ : Unit) => r = nI nJ ∧ (tPat nJ x = true ∧ nJ < 10)) (fun (_ : Unit) (tS : State) => va_P G.1 vwCl [(tJ, .inr (4, [.ref oJ, .int (nI 1), .int (nI (nJ + 1))])), (oJ, .inl (G.2.1, 10, .inl (upd fJ nJ x)))] tS.heap) (Aw [tJ, oJ] sz)) (bX (fun E => (E = xIO ∧ tPat nJ x = false) ∨ (E = xIS ∧ tPat nJ x = true ∧ 10 ≤ nJ)) sz) 2 12 (Aw [tJ, oJ] sz) := by
  refine vx_ofW (cc := cX5_item) (maxL := 2) (ret := (some .int)) (by decide) rfl ?_
  intro p e s m args below meth c s₁ B hml hxt hv
  obtain ⟨rfl, hsz, hP, hD, E, Z⟩ := hv
  have hts := atoms_spec (ws := wsX5_item) B.pre
  have hown : s.vm.findClass RX5 = some m.cls := findClass_of_methodNamed B.named
  have X : CallFix p m c cX5_item 2 s _ wsX5_item RX5 := ⟨B.exec, B.bytes, hml, hown, hts⟩
  have hx := B.exec
  have hb := B.bytes
  have hr := B.returns
  have hlocks := B.notSynchronized
  subst hsz
  have w : bSt G vwCl [] s [(H0, .inr (5, [.ref tA, .ref tJ, .ref gO, .ref dO, .ref bO, .ref sO, .ref qs, .ref qr, .int (nI jd), .int (nI snt), .int (nI td)])), (tJ, .inr (4, [.ref oJ, .int (nI 1), .int (nI nJ)])), (oJ, .inl (G.2.1, 10, .inl fJ))] s.heap [] := ⟨hP, va_S.rf, hD⟩
  have Z0 : bZ [] s := ⟨Z.1.narrow (fun q h => h.elim (fun h => nomatch h) Or.inr), Z.2.narrow (fun q h => h.elim (fun h => nomatch h) Or.inr)⟩
  have iX5 : ∀ w ∈ wsX50, w ∈ wsX5_item := by decide +kernel
  have hl := lv_entry ([.ref H0, .int x]) (n := 2) (Nat.le_of_ble_eq_true rfl)
  rw [lg_entry_eq]
  generalize (lg_sl ([.ref H0, .int x]) ++ List.replicate (2 - (lg_sl ([.ref H0, .int x])).length) Slot.unset).toArray = ls at hl ⊢
  have hl : lv_has ls 2 [(0, .ref H0), (1, .int x)] := hl
  refine lv_aload_n hx hb dX5_item_0 rfl (lv_at hl 0 rfl) ?_
  refine b_get X E w 0 rfl rfl 1 (by decide) iX5 (by decide +kernel) rfl rfl dX5_item_1 ?_
  refine lv_iload_n hx hb dX5_item_4 rfl (lv_at hl 1 rfl) ?_
  refine b_xcallv w (vx_runS (As := [.ref tJ, .int x]) (rest := []) X (c_X5_requireNumberOrNone l hl0 G _ (th := tJ) (x := x) (o := oJ) (str := 1) (n := nJ) ) (va_cwS 2 hts gX5_item_X5_requireNumberOrNone rfl rfl rfl (by decide +kernel) ⟨Nat.le_of_ble_eq_true rfl, Nat.le_of_ble_eq_true rfl⟩) ⟨b_blind, (fun U9 hU9 hW9 => ⟨rfl, b_pre E Z0 w [1] (by decide) rfl b_nil U9 hU9 hW9⟩)⟩ rfl rfl hl.1 rfl (lv_room (Nat.le_of_ble_eq_true rfl)) dX5_item_5 ⟨Nat.le_of_ble_eq_true rfl, Nat.le_of_ble_eq_true rfl⟩) b_nil [] (fun _ => rfl) rfl (fun E9 ce9 q9 H9 locs9 hex w9 hce hcv hcl => b_out hxt hlocks w9 (Or.inl hex) hce hcv hcl (by decide) (by decide)) (fun u5_4 H locs hr5_4 w => ?_)
  have w : bSt G vwCl [] s [(H0, .inr (5, [.ref tA, .ref tJ, .ref gO, .ref dO, .ref bO, .ref sO, .ref qs, .ref qr, .int (nI jd), .int (nI snt), .int (nI td)])), (tJ, .inr (4, [.ref oJ, .int (nI 1), .int (nI nJ)])), (oJ, .inl (G.2.1, 10, .inl fJ))] _ _ := w
  have h1 := hr5_4
  refine lv_aload_n hx hb dX5_item_8 rfl (lv_at hl 0 rfl) ?_
  refine b_get X E w 0 rfl rfl 1 (by decide) iX5 (by decide +kernel) rfl rfl dX5_item_9 ?_
  refine b_xcallv w (vx_runS (As := [.ref tJ]) (rest := []) X (c_X5_requireRoom l hl0 G _ (th := tJ) (o := oJ) (str := 1) (n := nJ) (cap := 10) (f := fJ) (hn := (by first | assumption | omega)) (hc := (by first | assumption | omega))) (va_cwS 1 hts gX5_item_X5_requireRoom rfl rfl rfl (by decide +kernel) ⟨Nat.le_of_ble_eq_true rfl, Nat.le_of_ble_eq_true rfl⟩) ⟨b_blind, (fun U9 hU9 hW9 => ⟨rfl, b_pre E Z0 w [1, 2] (by decide) rfl b_nil U9 hU9 hW9⟩)⟩ rfl rfl hl.1 rfl (lv_room (Nat.le_of_ble_eq_true rfl)) dX5_item_12 ⟨Nat.le_of_ble_eq_true rfl, Nat.le_of_ble_eq_true rfl⟩) b_nil [] (fun _ => rfl) rfl (fun E9 ce9 q9 H9 locs9 hex w9 hce hcv hcl => b_out hxt hlocks w9 (Or.inr ⟨hex.1, h1, hex.2⟩) hce hcv hcl (by decide) (by decide)) (fun u12_5 H locs hr12_5 w => ?_)
  have w : bSt G vwCl [] s [(H0, .inr (5, [.ref tA, .ref tJ, .ref gO, .ref dO, .ref bO, .ref sO, .ref qs, .ref qr, .int (nI jd), .int (nI snt), .int (nI td)])), (tJ, .inr (4, [.ref oJ, .int (nI 1), .int (nI nJ)])), (oJ, .inl (G.2.1, 10, .inl fJ))] _ _ := w
  have h2 := hr12_5
  refine lv_aload_n hx hb dX5_item_15 rfl (lv_at hl 0 rfl) ?_
  refine b_get X E w 0 rfl rfl 1 (by decide) iX5 (by decide +kernel) rfl rfl dX5_item_16 ?_
  refine lv_iload_n hx hb dX5_item_19 rfl (lv_at hl 1 rfl) ?_
  have w := b_wide [tJ, oJ] b_nil w
  refine b_calli w (va_runV (As := [.int x]) (rest := []) X (c_X4_grow l hl0 G _ (h := tJ) (x := x) (o := oJ) (str := 1) (n := nJ) (cap := 10) (f := fJ) (hn := (by first | assumption | omega)) (hc := (by first | assumption | omega))) (cwV 1 hts gX5_item_X4_grow rfl rfl rfl (by decide +kernel) ⟨Nat.le_of_ble_eq_true rfl, Nat.le_of_ble_eq_true rfl⟩) ⟨b_blind, b_recv E w (ci := 4) (q0 := 1) rfl rfl, (fun U9 hU9 hW9 => ⟨rfl, b_pre E Z w [1, 2] (by decide) rfl (b_subA [0, 1] rfl) U9 hU9 hW9⟩)⟩ rfl rfl hl.1 rfl (lv_room (Nat.le_of_ble_eq_true rfl)) dX5_item_20 ⟨Nat.le_of_ble_eq_true rfl, Nat.le_of_ble_eq_true rfl⟩) (b_subA [0, 1] rfl) [1, 2] (fun _ => rfl) rfl (fun r20_6 u20_6 H locs hr20_6 w => ?_)
  have w : bSt G vwCl [tJ, oJ] s [(H0, .inr (5, [.ref tA, .ref tJ, .ref gO, .ref dO, .ref bO, .ref sO, .ref qs, .ref qr, .int (nI jd), .int (nI snt), .int (nI td)])), (tJ, .inr (4, [.ref oJ, .int (nI 1), .int (nI (nJ + 1))])), (oJ, .inl (G.2.1, 10, .inl (upd fJ nJ x)))] _ _ := w
  subst hr20_6
  refine vx_ret ?_
  exact W.iret (v := nI nJ) hx hb hr (fun t9 ht9 hW9 => ⟨⟨nI nJ, (), rfl, ⟨rfl, h1, h2⟩, by show va_P G.1 vwCl _ t9.heap; rw [ht9]; exact b_cg (rfl) (w.1.sub (ws' := [(tJ, .inr (4, [.ref oJ, .int (nI 1), .int (nI (nJ + 1))])), (oJ, .inl (G.2.1, 10, .inl (upd fJ nJ x)))]) [1, 2] rfl)⟩, w.2.1.F ht9⟩) w.2.1.2.2 dX5_item_23
set_option maxHeartbeats 4000000 in
set_option maxRecDepth 100000 in
theorem c_X5_agree (l : Launch) (hl0 : l.stackTraces = false) (G : bG) (sz : Nat) (H0 tA tJ gO dO bO sO qs qr jd snt td : Nat) (oA nA : Nat) (fA : Nat → Int32) (qg : Nat) (on : Nat → Bool) (x y : Int32) (b : Bool) (hnA : nA ≤ 14) : vx_Met l yX5_agree wsX5_agree ({ frames := 7, cells := 2, slots := 12, locals := 111 }) (va_Pc [.ref H0, .int x, .int y, .int (bI b)] (bPre G vwCl bNW bSW sz [(H0, .inr (5, [.ref tA, .ref tJ, .ref gO, .ref dO, .ref bO, .ref sO, .ref qs, .ref qr, .int (nI jd), .int (nI snt), .int (nI td)])), (tA, .inr (4, [.ref oA, .int (nI 10), .int (nI nA)])), (oA, .inl (G.2.1, 14, .inl fA)), (gO, .inr (0, [.ref qg])), (qg, .inl (G.2.2.1, 56, .inl (zB on)))] [qg])) (va_Qi (fun (r : Int32) (_ : Unit) => r = bI ((on (14 * cl x + cl y) != b)) ∧ ((tHas 4 x && tHas nA y) = true)) (fun (_ : Unit) (tS : State) => va_P G.1 vwCl [(qg, .inl (G.2.2.1, 56, .inl (zB (uB on (14 * cl x + cl y) b))))] tS.heap) (Aw [qg] sz)) (bX (fun E => E = xIO ∧ (tHas 4 x && tHas nA y) = false) sz) 2 12 (Aw [qg] sz) := by
  refine vx_ofW (cc := cX5_agree) (maxL := 4) (ret := (some .boolean)) (by decide) rfl ?_
  intro p e s m args below meth c s₁ B hml hxt hv
  obtain ⟨rfl, hsz, hP, hD, E, Z⟩ := hv
  have hts := atoms_spec (ws := wsX5_agree) B.pre
  have hown : s.vm.findClass RX5 = some m.cls := findClass_of_methodNamed B.named
  have X : CallFix p m c cX5_agree 4 s _ wsX5_agree RX5 := ⟨B.exec, B.bytes, hml, hown, hts⟩
  have hx := B.exec
  have hb := B.bytes
  have hr := B.returns
  have hlocks := B.notSynchronized
  subst hsz
  have w : bSt G vwCl [] s [(H0, .inr (5, [.ref tA, .ref tJ, .ref gO, .ref dO, .ref bO, .ref sO, .ref qs, .ref qr, .int (nI jd), .int (nI snt), .int (nI td)])), (tA, .inr (4, [.ref oA, .int (nI 10), .int (nI nA)])), (oA, .inl (G.2.1, 14, .inl fA)), (gO, .inr (0, [.ref qg])), (qg, .inl (G.2.2.1, 56, .inl (zB on)))] s.heap [] := ⟨hP, va_S.rf, hD⟩
  have Z0 : bZ [] s := ⟨Z.1.narrow (fun q h => h.elim (fun h => nomatch h) Or.inr), Z.2.narrow (fun q h => h.elim (fun h => nomatch h) Or.inr)⟩
  have iX5 : ∀ w ∈ wsX50, w ∈ wsX5_agree := by decide +kernel
  have hl := lv_entry ([.ref H0, .int x, .int y, .int (bI b)]) (n := 4) (Nat.le_of_ble_eq_true rfl)
  rw [lg_entry_eq]
  generalize (lg_sl ([.ref H0, .int x, .int y, .int (bI b)]) ++ List.replicate (4 - (lg_sl ([.ref H0, .int x, .int y, .int (bI b)])).length) Slot.unset).toArray = ls at hl ⊢
  have hl : lv_has ls 4 [(0, .ref H0), (1, .int x), (2, .int y), (3, .int (bI b))] := hl
  refine lv_iload_n hx hb dX5_agree_0 rfl (lv_at hl 1 rfl) ?_
  refine b_xcallv w (vx_runS (As := [.int x]) (rest := []) X (c_X5_requireSender l hl0 G _ (x := x) ) (va_cwS 1 hts gX5_agree_X5_requireSender rfl rfl rfl (by decide +kernel) ⟨Nat.le_of_ble_eq_true rfl, Nat.le_of_ble_eq_true rfl⟩) ⟨b_blind, (fun U9 hU9 hW9 => ⟨rfl, b_pre E Z0 w [] (by decide) rfl b_nil U9 hU9 hW9⟩)⟩ rfl rfl hl.1 rfl (lv_room (Nat.le_of_ble_eq_true rfl)) dX5_agree_1 ⟨Nat.le_of_ble_eq_true rfl, Nat.le_of_ble_eq_true rfl⟩) b_nil [] (fun _ => rfl) rfl (fun E9 ce9 q9 H9 locs9 hex w9 hce hcv hcl => b_out hxt hlocks w9 (⟨hex.1, by rw [hex.2]; rfl⟩) hce hcv hcl (by decide) (by decide)) (fun u1_4 H locs hr1_4 w => ?_)
  have w : bSt G vwCl [] s [(H0, .inr (5, [.ref tA, .ref tJ, .ref gO, .ref dO, .ref bO, .ref sO, .ref qs, .ref qr, .int (nI jd), .int (nI snt), .int (nI td)])), (tA, .inr (4, [.ref oA, .int (nI 10), .int (nI nA)])), (oA, .inl (G.2.1, 14, .inl fA)), (gO, .inr (0, [.ref qg])), (qg, .inl (G.2.2.1, 56, .inl (zB on)))] _ _ := w
  have h1 := hr1_4
  refine lv_aload_n hx hb dX5_agree_4 rfl (lv_at hl 0 rfl) ?_
  refine lv_iload_n hx hb dX5_agree_5 rfl (lv_at hl 2 rfl) ?_
  refine b_xcallv w (vx_runV (As := [.int y]) (rest := []) X (c_X5_requireArea l hl0 G _ (H0 := H0) (x := y) (tA := tA) (tJ := tJ) (gO := gO) (dO := dO) (bO := bO) (sO := sO) (qs := qs) (qr := qr) (jd := jd) (snt := snt) (td := td) (oA := oA) (nA := nA) ) (cwV 1 hts gX5_agree_X5_requireArea rfl rfl rfl (by decide +kernel) ⟨Nat.le_of_ble_eq_true rfl, Nat.le_of_ble_eq_true rfl⟩) ⟨b_blind, b_recv E w (ci := 5) (q0 := 0) rfl rfl, (fun U9 hU9 hW9 => ⟨rfl, b_pre E Z0 w [0, 1] (by decide) rfl b_nil U9 hU9 hW9⟩)⟩ rfl rfl hl.1 rfl (lv_room (Nat.le_of_ble_eq_true rfl)) dX5_agree_6 ⟨Nat.le_of_ble_eq_true rfl, Nat.le_of_ble_eq_true rfl⟩) b_nil [] (fun _ => rfl) rfl (fun E9 ce9 q9 H9 locs9 hex w9 hce hcv hcl => b_out hxt hlocks w9 (⟨hex.1, by rw [h1, hex.2]; rfl⟩) hce hcv hcl (by decide) (by decide)) (fun u6_5 H locs hr6_5 w => ?_)
  have w : bSt G vwCl [] s [(H0, .inr (5, [.ref tA, .ref tJ, .ref gO, .ref dO, .ref bO, .ref sO, .ref qs, .ref qr, .int (nI jd), .int (nI snt), .int (nI td)])), (tA, .inr (4, [.ref oA, .int (nI 10), .int (nI nA)])), (oA, .inl (G.2.1, 14, .inl fA)), (gO, .inr (0, [.ref qg])), (qg, .inl (G.2.2.1, 56, .inl (zB on)))] _ _ := w
  have h2 := hr6_5
  have h3 : (tHas 4 x && tHas nA y) = true := by rw [h1, h2]; rfl
  obtain ⟨sn, hsn, rfl⟩ := (tHas_iff (by decide)).mp h1
  obtain ⟨a, ha, rfl⟩ := (tHas_iff (by omega)).mp h2
  have e1 : cl (nI sn) = sn := cl_nI (by omega)
  have e2 : cl (nI a) = a := cl_nI (by omega)
  refine lv_aload_n hx hb dX5_agree_9 rfl (lv_at hl 0 rfl) ?_
  refine b_get X E w 0 rfl rfl 2 (by decide) iX5 (by decide +kernel) rfl rfl dX5_agree_10 ?_
  refine lv_iload_n hx hb dX5_agree_13 rfl (lv_at hl 1 rfl) ?_
  refine lv_iload_n hx hb dX5_agree_14 rfl (lv_at hl 2 rfl) ?_
  refine lv_iload_n hx hb dX5_agree_15 rfl (lv_at hl 3 rfl) ?_
  have w := b_wide [qg] b_nil w
  refine b_calli w (va_runV (As := [.int (nI sn), .int (nI a), .int (bI b)]) (rest := []) X (c_X0_change l hl0 G _ (h := gO) (sd := sn) (a := a) (b := b) (q := qg) (on := on) (hs := (by first | assumption | omega)) (ha := (by first | assumption | omega))) (cwV 3 hts gX5_agree_X0_change rfl rfl rfl (by decide +kernel) ⟨Nat.le_of_ble_eq_true rfl, Nat.le_of_ble_eq_true rfl⟩) ⟨b_blind, b_recv E w (ci := 0) (q0 := 3) rfl rfl, (fun U9 hU9 hW9 => ⟨rfl, b_pre E Z w [3, 4] (by decide) rfl (b_subA [0] rfl) U9 hU9 hW9⟩)⟩ rfl rfl hl.1 rfl (lv_room (Nat.le_of_ble_eq_true rfl)) dX5_agree_16 ⟨Nat.le_of_ble_eq_true rfl, Nat.le_of_ble_eq_true rfl⟩) (b_subA [0] rfl) [4] (fun _ => rfl) rfl (fun r16_6 u16_6 H locs hr16_6 w => ?_)
  have w : bSt G vwCl [qg] s [(H0, .inr (5, [.ref tA, .ref tJ, .ref gO, .ref dO, .ref bO, .ref sO, .ref qs, .ref qr, .int (nI jd), .int (nI snt), .int (nI td)])), (tA, .inr (4, [.ref oA, .int (nI 10), .int (nI nA)])), (oA, .inl (G.2.1, 14, .inl fA)), (gO, .inr (0, [.ref qg])), (qg, .inl (G.2.2.1, 56, .inl (zB (uB on (14 * sn + a) b))))] _ _ := w
  subst hr16_6
  refine vx_ret ?_
  exact W.zret (v := bI (on (14 * sn + a) != b)) hx hb hr (bI_nar _) (fun t9 ht9 hW9 => ⟨⟨bI (on (14 * sn + a) != b), (), rfl, ⟨by rw [e1, e2], h3⟩, by show va_P G.1 vwCl _ t9.heap; rw [ht9]; exact b_cg (by rw [e1, e2]) (w.1.sub (ws' := [(qg, .inl (G.2.2.1, 56, .inl (zB (uB on (14 * sn + a) b))))]) [4] rfl)⟩, w.2.1.F ht9⟩) w.2.1.2.2 dX5_agree_19
set_option maxHeartbeats 4000000 in
set_option maxRecDepth 100000 in
theorem c_X5_mayTell (l : Launch) (hl0 : l.stackTraces = false) (G : bG) (sz : Nat) (H0 tA tJ gO dO bO sO qs qr jd snt td : Nat) (oA nA : Nat) (fA : Nat → Int32) (qg : Nat) (on : Nat → Bool) (x y : Int32) (hnA : nA ≤ 14) (hTA : TI fA nA) : vx_Met l yX5_mayTell wsX5_mayTell ({ frames := 7, cells := 2, slots := 12, locals := 111 }) (va_Pc [.ref H0, .int x, .int y] (bPre G vwCl bNW bSW sz [(H0, .inr (5, [.ref tA, .ref tJ, .ref gO, .ref dO, .ref bO, .ref sO, .ref qs, .ref qr, .int (nI jd), .int (nI snt), .int (nI td)])), (tA, .inr (4, [.ref oA, .int (nI 10), .int (nI nA)])), (oA, .inl (G.2.1, 14, .inl fA)), (gO, .inr (0, [.ref qg])), (qg, .inl (G.2.2.1, 56, .inl (zB on)))] [])) (va_Qi (fun (r : Int32) (_ : Unit) => r = bI (covR on fA nA (cl x) (cl y)) ∧ ((tHas 4 x && tHas nA y) = true)) (fun (_ : Unit) (tS : State) => va_P G.1 vwCl [] tS.heap) (Aw [] sz)) (bX (fun E => E = xIO ∧ (tHas 4 x && tHas nA y) = false) sz) 2 12 (Aw [] sz) := by
  refine vx_ofW (cc := cX5_mayTell) (maxL := 3) (ret := (some .boolean)) (by decide) rfl ?_
  intro p e s m args below meth c s₁ B hml hxt hv
  obtain ⟨rfl, hsz, hP, hD, E, Z⟩ := hv
  have hts := atoms_spec (ws := wsX5_mayTell) B.pre
  have hown : s.vm.findClass RX5 = some m.cls := findClass_of_methodNamed B.named
  have X : CallFix p m c cX5_mayTell 3 s _ wsX5_mayTell RX5 := ⟨B.exec, B.bytes, hml, hown, hts⟩
  have hx := B.exec
  have hb := B.bytes
  have hr := B.returns
  have hlocks := B.notSynchronized
  subst hsz
  have w : bSt G vwCl [] s [(H0, .inr (5, [.ref tA, .ref tJ, .ref gO, .ref dO, .ref bO, .ref sO, .ref qs, .ref qr, .int (nI jd), .int (nI snt), .int (nI td)])), (tA, .inr (4, [.ref oA, .int (nI 10), .int (nI nA)])), (oA, .inl (G.2.1, 14, .inl fA)), (gO, .inr (0, [.ref qg])), (qg, .inl (G.2.2.1, 56, .inl (zB on)))] s.heap [] := ⟨hP, va_S.rf, hD⟩
  have Z0 : bZ [] s := ⟨Z.1.narrow (fun q h => h.elim (fun h => nomatch h) Or.inr), Z.2.narrow (fun q h => h.elim (fun h => nomatch h) Or.inr)⟩
  have iX5 : ∀ w ∈ wsX50, w ∈ wsX5_mayTell := by decide +kernel
  have hl := lv_entry ([.ref H0, .int x, .int y]) (n := 3) (Nat.le_of_ble_eq_true rfl)
  rw [lg_entry_eq]
  generalize (lg_sl ([.ref H0, .int x, .int y]) ++ List.replicate (3 - (lg_sl ([.ref H0, .int x, .int y])).length) Slot.unset).toArray = ls at hl ⊢
  have hl : lv_has ls 3 [(0, .ref H0), (1, .int x), (2, .int y)] := hl
  refine lv_iload_n hx hb dX5_mayTell_0 rfl (lv_at hl 1 rfl) ?_
  refine b_xcallv w (vx_runS (As := [.int x]) (rest := []) X (c_X5_requireSender l hl0 G _ (x := x) ) (va_cwS 1 hts gX5_mayTell_X5_requireSender rfl rfl rfl (by decide +kernel) ⟨Nat.le_of_ble_eq_true rfl, Nat.le_of_ble_eq_true rfl⟩) ⟨b_blind, (fun U9 hU9 hW9 => ⟨rfl, b_pre E Z0 w [] (by decide) rfl b_nil U9 hU9 hW9⟩)⟩ rfl rfl hl.1 rfl (lv_room (Nat.le_of_ble_eq_true rfl)) dX5_mayTell_1 ⟨Nat.le_of_ble_eq_true rfl, Nat.le_of_ble_eq_true rfl⟩) b_nil [] (fun _ => rfl) rfl (fun E9 ce9 q9 H9 locs9 hex w9 hce hcv hcl => b_out hxt hlocks w9 (⟨hex.1, by rw [hex.2]; rfl⟩) hce hcv hcl (by decide) (by decide)) (fun u1_4 H locs hr1_4 w => ?_)
  have w : bSt G vwCl [] s [(H0, .inr (5, [.ref tA, .ref tJ, .ref gO, .ref dO, .ref bO, .ref sO, .ref qs, .ref qr, .int (nI jd), .int (nI snt), .int (nI td)])), (tA, .inr (4, [.ref oA, .int (nI 10), .int (nI nA)])), (oA, .inl (G.2.1, 14, .inl fA)), (gO, .inr (0, [.ref qg])), (qg, .inl (G.2.2.1, 56, .inl (zB on)))] _ _ := w
  have h1 := hr1_4
  refine lv_aload_n hx hb dX5_mayTell_4 rfl (lv_at hl 0 rfl) ?_
  refine lv_iload_n hx hb dX5_mayTell_5 rfl (lv_at hl 2 rfl) ?_
  refine b_xcallv w (vx_runV (As := [.int y]) (rest := []) X (c_X5_requireArea l hl0 G _ (H0 := H0) (x := y) (tA := tA) (tJ := tJ) (gO := gO) (dO := dO) (bO := bO) (sO := sO) (qs := qs) (qr := qr) (jd := jd) (snt := snt) (td := td) (oA := oA) (nA := nA) ) (cwV 1 hts gX5_mayTell_X5_requireArea rfl rfl rfl (by decide +kernel) ⟨Nat.le_of_ble_eq_true rfl, Nat.le_of_ble_eq_true rfl⟩) ⟨b_blind, b_recv E w (ci := 5) (q0 := 0) rfl rfl, (fun U9 hU9 hW9 => ⟨rfl, b_pre E Z0 w [0, 1] (by decide) rfl b_nil U9 hU9 hW9⟩)⟩ rfl rfl hl.1 rfl (lv_room (Nat.le_of_ble_eq_true rfl)) dX5_mayTell_6 ⟨Nat.le_of_ble_eq_true rfl, Nat.le_of_ble_eq_true rfl⟩) b_nil [] (fun _ => rfl) rfl (fun E9 ce9 q9 H9 locs9 hex w9 hce hcv hcl => b_out hxt hlocks w9 (⟨hex.1, by rw [h1, hex.2]; rfl⟩) hce hcv hcl (by decide) (by decide)) (fun u6_5 H locs hr6_5 w => ?_)
  have w : bSt G vwCl [] s [(H0, .inr (5, [.ref tA, .ref tJ, .ref gO, .ref dO, .ref bO, .ref sO, .ref qs, .ref qr, .int (nI jd), .int (nI snt), .int (nI td)])), (tA, .inr (4, [.ref oA, .int (nI 10), .int (nI nA)])), (oA, .inl (G.2.1, 14, .inl fA)), (gO, .inr (0, [.ref qg])), (qg, .inl (G.2.2.1, 56, .inl (zB on)))] _ _ := w
  have h2 := hr6_5
  have h3 : (tHas 4 x && tHas nA y) = true := by rw [h1, h2]; rfl
  obtain ⟨sn, hsn, rfl⟩ := (tHas_iff (by decide)).mp h1
  obtain ⟨a, ha, rfl⟩ := (tHas_iff (by omega)).mp h2
  have e1 : cl (nI sn) = sn := cl_nI (by omega)
  have e2 : cl (nI a) = a := cl_nI (by omega)
  refine lv_aload_n hx hb dX5_mayTell_9 rfl (lv_at hl 0 rfl) ?_
  refine b_get X E w 0 rfl rfl 2 (by decide) iX5 (by decide +kernel) rfl rfl dX5_mayTell_10 ?_
  refine lv_iload_n hx hb dX5_mayTell_13 rfl (lv_at hl 1 rfl) ?_
  refine lv_iload_n hx hb dX5_mayTell_14 rfl (lv_at hl 2 rfl) ?_
  refine lv_aload_n hx hb dX5_mayTell_15 rfl (lv_at hl 0 rfl) ?_
  refine b_get X E w 0 rfl rfl 0 (by decide) iX5 (by decide +kernel) rfl rfl dX5_mayTell_16 ?_
  refine b_calli w (va_runV (As := [.int (nI sn), .int (nI a), .ref tA]) (rest := []) X (c_X0_cover l hl0 G _ (h := gO) (sd := sn) (a := a) (th := tA) (q := qg) (on := on) (o := oA) (str := 10) (n := nA) (cap := 14) (f := fA) (hs := (by first | assumption | omega)) (ha := (by first | assumption | omega)) (hn := (by first | assumption | omega)) (hc := (by first | assumption | omega)) (hT := (by first | assumption | omega))) (cwV 3 hts gX5_mayTell_X0_cover rfl rfl rfl (by decide +kernel) ⟨Nat.le_of_ble_eq_true rfl, Nat.le_of_ble_eq_true rfl⟩) ⟨b_blind, b_recv E w (ci := 0) (q0 := 3) rfl rfl, (fun U9 hU9 hW9 => ⟨rfl, b_pre E Z0 w [3, 4, 1, 2] (by decide) rfl b_nil U9 hU9 hW9⟩)⟩ rfl rfl hl.1 rfl (lv_room (Nat.le_of_ble_eq_true rfl)) dX5_mayTell_19 ⟨Nat.le_of_ble_eq_true rfl, Nat.le_of_ble_eq_true rfl⟩) b_nil [] (fun _ => rfl) rfl (fun r19_6 u19_6 H locs hr19_6 w => ?_)
  have w : bSt G vwCl [] s [(H0, .inr (5, [.ref tA, .ref tJ, .ref gO, .ref dO, .ref bO, .ref sO, .ref qs, .ref qr, .int (nI jd), .int (nI snt), .int (nI td)])), (tA, .inr (4, [.ref oA, .int (nI 10), .int (nI nA)])), (oA, .inl (G.2.1, 14, .inl fA)), (gO, .inr (0, [.ref qg])), (qg, .inl (G.2.2.1, 56, .inl (zB on)))] _ _ := w
  subst hr19_6
  refine vx_ret ?_
  exact W.zret (v := bI (anyB (fun k => on (14 * sn + k) && tW fA (nI k) nA (nI a)) nA)) hx hb hr (bI_nar _) (fun t9 ht9 hW9 => ⟨⟨bI (anyB (fun k => on (14 * sn + k) && tW fA (nI k) nA (nI a)) nA), (), rfl, ⟨by rw [e1, e2]; rfl, h3⟩, fun k q h => by cases k <;> cases h⟩, w.2.1.F ht9⟩) w.2.1.2.2 dX5_mayTell_22
set_option maxHeartbeats 4000000 in
set_option maxRecDepth 100000 in
theorem c_X5_put (l : Launch) (hl0 : l.stackTraces = false) (G : bG) (sz : Nat) (H0 tA tJ gO dO bO sO qs qr jd snt td : Nat) (oA nA : Nat) (oJ nJ : Nat) (dqw dqa dqc dqv dn : Nat) (dw : Nat → Int32) (da : Nat → Int32) (dc : Nat → Int32) (dv : Nat → Int32) (wh x y z t : Int32) (hdn : dn ≤ 16) : vx_Met l yX5_put wsX5_put ({ frames := 7, cells := 2, slots := 12, locals := 113 }) (va_Pc [.ref H0, .int wh, .int x, .int y, .int z, .int t] (bPre G vwCl bNW bSW sz [(H0, .inr (5, [.ref tA, .ref tJ, .ref gO, .ref dO, .ref bO, .ref sO, .ref qs, .ref qr, .int (nI jd), .int (nI snt), .int (nI td)])), (tA, .inr (4, [.ref oA, .int (nI 10), .int (nI nA)])), (tJ, .inr (4, [.ref oJ, .int (nI 1), .int (nI nJ)])), (dO, .inr (2, [.ref dqw, .ref dqa, .ref dqc, .ref dqv, .int (nI dn)])), (dqw, .inl (G.2.1, 16, .inl dw)), (dqa, .inl (G.2.1, 16, .inl da)), (dqc, .inl (G.2.1, 16, .inl dc)), (dqv, .inl (G.2.1, 16, .inl dv))] [dO, dqw, dqa, dqc, dqv])) (va_Qi (fun (r : Int32) (_ : Unit) => r = nI (dn + 1) ∧ (okC nA nJ x y z = true ∧ (wOk wh && vOk t) = true ∧ dn < 16)) (fun (_ : Unit) (tS : State) => va_P G.1 vwCl [(dO, .inr (2, [.ref dqw, .ref dqa, .ref dqc, .ref dqv, .int (nI (dn + 1))])), (dqw, .inl (G.2.1, 16, .inl (upd dw dn wh))), (dqa, .inl (G.2.1, 16, .inl (upd da dn x))), (dqc, .inl (G.2.1, 16, .inl (upd dc dn (cellI x y z)))), (dqv, .inl (G.2.1, 16, .inl (upd dv dn t)))] tS.heap) (Aw [dO, dqw, dqa, dqc, dqv] sz)) (bX (fun E => (E = xIO ∧ okC nA nJ x y z = false) ∨ (E = xIA ∧ okC nA nJ x y z = true ∧ (wOk wh && vOk t) = false) ∨ (E = xIS ∧ okC nA nJ x y z = true ∧ (wOk wh && vOk t) = true ∧ 16 ≤ dn)) sz) 2 12 (Aw [dO, dqw, dqa, dqc, dqv] sz) := by
  refine vx_ofW (cc := cX5_put) (maxL := 7) (ret := (some .int)) (by decide) rfl ?_
  intro p e s m args below meth c s₁ B hml hxt hv
  obtain ⟨rfl, hsz, hP, hD, E, Z⟩ := hv
  have hts := atoms_spec (ws := wsX5_put) B.pre
  have hown : s.vm.findClass RX5 = some m.cls := findClass_of_methodNamed B.named
  have X : CallFix p m c cX5_put 7 s _ wsX5_put RX5 := ⟨B.exec, B.bytes, hml, hown, hts⟩
  have hx := B.exec
  have hb := B.bytes
  have hr := B.returns
  have hlocks := B.notSynchronized
  subst hsz
  have w : bSt G vwCl [] s [(H0, .inr (5, [.ref tA, .ref tJ, .ref gO, .ref dO, .ref bO, .ref sO, .ref qs, .ref qr, .int (nI jd), .int (nI snt), .int (nI td)])), (tA, .inr (4, [.ref oA, .int (nI 10), .int (nI nA)])), (tJ, .inr (4, [.ref oJ, .int (nI 1), .int (nI nJ)])), (dO, .inr (2, [.ref dqw, .ref dqa, .ref dqc, .ref dqv, .int (nI dn)])), (dqw, .inl (G.2.1, 16, .inl dw)), (dqa, .inl (G.2.1, 16, .inl da)), (dqc, .inl (G.2.1, 16, .inl dc)), (dqv, .inl (G.2.1, 16, .inl dv))] s.heap [] := ⟨hP, va_S.rf, hD⟩
  have Z0 : bZ [] s := ⟨Z.1.narrow (fun q h => h.elim (fun h => nomatch h) Or.inr), Z.2.narrow (fun q h => h.elim (fun h => nomatch h) Or.inr)⟩
  have iX5 : ∀ w ∈ wsX50, w ∈ wsX5_put := by decide +kernel
  have hl := lv_entry ([.ref H0, .int wh, .int x, .int y, .int z, .int t]) (n := 7) (Nat.le_of_ble_eq_true rfl)
  rw [lg_entry_eq]
  generalize (lg_sl ([.ref H0, .int wh, .int x, .int y, .int z, .int t]) ++ List.replicate (7 - (lg_sl ([.ref H0, .int wh, .int x, .int y, .int z, .int t])).length) Slot.unset).toArray = ls at hl ⊢
  have hl : lv_has ls 7 [(0, .ref H0), (1, .int wh), (2, .int x), (3, .int y), (4, .int z), (5, .int t)] := hl
  refine lv_aload_n hx hb dX5_put_0 rfl (lv_at hl 0 rfl) ?_
  refine lv_iload_n hx hb dX5_put_1 rfl (lv_at hl 2 rfl) ?_
  refine lv_iload_n hx hb dX5_put_2 rfl (lv_at hl 3 rfl) ?_
  refine lv_iload hx hb dX5_put_3 (lv_at hl 4 rfl) ?_
  refine b_xcalli w (vx_runV (As := [.int x, .int y, .int z]) (rest := []) X (c_X5_requireCell l hl0 G _ (H0 := H0) (x := x) (y := y) (z := z) (tA := tA) (tJ := tJ) (gO := gO) (dO := dO) (bO := bO) (sO := sO) (qs := qs) (qr := qr) (jd := jd) (snt := snt) (td := td) (oA := oA) (nA := nA) (oJ := oJ) (nJ := nJ) ) (cwV 3 hts gX5_put_X5_requireCell rfl rfl rfl (by decide +kernel) ⟨Nat.le_of_ble_eq_true rfl, Nat.le_of_ble_eq_true rfl⟩) ⟨b_blind, b_recv E w (ci := 5) (q0 := 0) rfl rfl, (fun U9 hU9 hW9 => ⟨rfl, b_pre E Z0 w [0, 1, 2] (by decide) rfl b_nil U9 hU9 hW9⟩)⟩ rfl rfl hl.1 rfl (lv_room (Nat.le_of_ble_eq_true rfl)) dX5_put_5 ⟨Nat.le_of_ble_eq_true rfl, Nat.le_of_ble_eq_true rfl⟩) b_nil [] (fun _ => rfl) rfl (fun E9 ce9 q9 H9 locs9 hex w9 hce hcv hcl => b_out hxt hlocks w9 (Or.inl hex) hce hcv hcl (by decide) (by decide)) (fun r5_10 u5_10 H locs hr5_10 w => ?_)
  have w : bSt G vwCl [] s [(H0, .inr (5, [.ref tA, .ref tJ, .ref gO, .ref dO, .ref bO, .ref sO, .ref qs, .ref qr, .int (nI jd), .int (nI snt), .int (nI td)])), (tA, .inr (4, [.ref oA, .int (nI 10), .int (nI nA)])), (tJ, .inr (4, [.ref oJ, .int (nI 1), .int (nI nJ)])), (dO, .inr (2, [.ref dqw, .ref dqa, .ref dqc, .ref dqv, .int (nI dn)])), (dqw, .inl (G.2.1, 16, .inl dw)), (dqa, .inl (G.2.1, 16, .inl da)), (dqc, .inl (G.2.1, 16, .inl dc)), (dqv, .inl (G.2.1, 16, .inl dv))] _ _ := w
  obtain ⟨ehr5_10, hr5_10⟩ := hr5_10
  subst ehr5_10
  have h1 := hr5_10
  refine lv_istore (lv' := [(6, .int (cellI x y z)), (0, .ref H0), (1, .int wh), (2, .int x), (3, .int y), (4, .int z), (5, .int t)]) hx hb dX5_put_8 hl (by decide) rfl (fun ls hl => ?_)
  refine lv_iload_n hx hb dX5_put_10 rfl (lv_at hl 2 rfl) ?_
  refine lv_if_lt (tgt := 19) hx hb dX5_put_11 (by decide) (fun c_11_11 => ?_) (fun c_11_11 => ?_)
  · have hW : wOk wh = false := by simp [wOk, c_11_11]
    exact b_throw (cls := "java/lang/IllegalArgumentException") (text := "what is out of range") (ik := 84) (is := 86) (ic := 88) X E Z0 hl0 hxt hlocks w (Or.inr (Or.inl ⟨rfl, h1, by rw [hW]; rfl⟩)) hl.1 (by decide) (by decide +kernel) (by decide +kernel) (by decide +kernel) (by decide +kernel) (by decide +kernel) (by decide +kernel) (by decide +kernel) dX5_put_19 dX5_put_22 dX5_put_23 dX5_put_25 dX5_put_28 (Nat.le_of_ble_eq_true rfl) (Nat.le_of_ble_eq_true rfl) (Nat.le_of_ble_eq_true rfl) (Nat.le_of_ble_eq_true rfl) (by decide) (by decide)
  · have c11 := c_11_11
    refine lv_iload_n hx hb dX5_put_14 rfl (lv_at hl 2 rfl) ?_
    refine lv_iconst (v := nI 2) hx hb dX5_put_15 (by decide) ?_
    refine lv_icmp_le (tgt := 29) hx hb dX5_put_16 (by decide) (fun c_16_12 => ?_) (fun c_16_12 => ?_)
    · have hW : wOk wh = true := by simp [wOk, c11, c_16_12]
      refine lv_iload hx hb dX5_put_29 (lv_at hl 6 rfl) ?_
      refine lv_ldc (v := -1000000) hx hb hown (hts (.constant RX5 91 (-1000000)) (by decide +kernel)) dX5_put_31 ?_
      refine lv_icmp_lt (tgt := 43) hx hb dX5_put_33 (by decide) (fun c_33_13 => ?_) (fun c_33_13 => ?_)
      · have hV : vOk t = false := by simp [vOk, c_33_13]
        exact b_throw (cls := "java/lang/IllegalArgumentException") (text := "value is out of range") (ik := 84) (is := 93) (ic := 88) X E Z0 hl0 hxt hlocks w (Or.inr (Or.inl ⟨rfl, h1, by rw [hW, hV]; rfl⟩)) hl.1 (by decide) (by decide +kernel) (by decide +kernel) (by decide +kernel) (by decide +kernel) (by decide +kernel) (by decide +kernel) (by decide +kernel) dX5_put_43 dX5_put_46 dX5_put_47 dX5_put_49 dX5_put_52 (Nat.le_of_ble_eq_true rfl) (Nat.le_of_ble_eq_true rfl) (Nat.le_of_ble_eq_true rfl) (Nat.le_of_ble_eq_true rfl) (by decide) (by decide)
      · have c33 := c_33_13
        refine lv_iload hx hb dX5_put_36 (lv_at hl 6 rfl) ?_
        refine lv_ldc (v := 1000000) hx hb hown (hts (.constant RX5 92 1000000) (by decide +kernel)) dX5_put_38 ?_
        refine lv_icmp_le (tgt := 53) hx hb dX5_put_40 (by decide) (fun c_40_14 => ?_) (fun c_40_14 => ?_)
        · have hV : vOk t = true := by simp [vOk, c33, c_40_14]
          refine lv_aload_n hx hb dX5_put_53 rfl (lv_at hl 1 rfl) ?_
          refine b_get X E w 0 rfl rfl 3 (by decide) iX5 (by decide +kernel) rfl rfl dX5_put_54 ?_
          refine b_calli w (va_runV (As := []) (rest := []) X (c_X2_isFull l hl0 G _ (h := dO) (qw := dqw) (qa := dqa) (qc := dqc) (qv := dqv) (dn := dn) (hd := (by first | assumption | omega))) (cwV 0 hts gX5_put_X2_isFull rfl rfl rfl (by decide +kernel) ⟨Nat.le_of_ble_eq_true rfl, Nat.le_of_ble_eq_true rfl⟩) ⟨b_blind, b_recv E w (ci := 2) (q0 := 3) rfl rfl, (fun U9 hU9 hW9 => ⟨rfl, b_pre E Z0 w [3] (by decide) rfl b_nil U9 hU9 hW9⟩)⟩ rfl rfl hl.1 rfl (lv_room (Nat.le_of_ble_eq_true rfl)) dX5_put_57 ⟨Nat.le_of_ble_eq_true rfl, Nat.le_of_ble_eq_true rfl⟩) b_nil [] (fun _ => rfl) rfl (fun r57_15 u57_15 H locs hr57_15 w => ?_)
          have w : bSt G vwCl [] s [(H0, .inr (5, [.ref tA, .ref tJ, .ref gO, .ref dO, .ref bO, .ref sO, .ref qs, .ref qr, .int (nI jd), .int (nI snt), .int (nI td)])), (tA, .inr (4, [.ref oA, .int (nI 10), .int (nI nA)])), (tJ, .inr (4, [.ref oJ, .int (nI 1), .int (nI nJ)])), (dO, .inr (2, [.ref dqw, .ref dqa, .ref dqc, .ref dqv, .int (nI dn)])), (dqw, .inl (G.2.1, 16, .inl dw)), (dqa, .inl (G.2.1, 16, .inl da)), (dqc, .inl (G.2.1, 16, .inl dc)), (dqv, .inl (G.2.1, 16, .inl dv))] _ _ := w
          subst hr57_15
          refine lv_if_eq (tgt := 73) hx hb dX5_put_60 (by decide) (fun c_60_16 => ?_) (fun c_60_16 => ?_)
          · have q_60_17 : (decide (16 ≤ dn)) = false := bI_0.mp c_60_16
            have hd9 : dn < 16 := by simpa using q_60_17
            refine lv_aload_n hx hb dX5_put_73 rfl (lv_at hl 1 rfl) ?_
            refine b_get X E w 0 rfl rfl 3 (by decide) iX5 (by decide +kernel) rfl rfl dX5_put_74 ?_
            refine lv_iload_n hx hb dX5_put_77 rfl (lv_at hl 2 rfl) ?_
            refine lv_iload_n hx hb dX5_put_78 rfl (lv_at hl 3 rfl) ?_
            refine lv_iload hx hb dX5_put_79 (lv_at hl 0 rfl) ?_
            refine lv_iload hx hb dX5_put_81 (lv_at hl 6 rfl) ?_
            have w := b_wide [dO, dqw, dqa, dqc, dqv] b_nil w
            refine b_calli w (va_runV (As := [.int wh, .int x, .int (cellI x y z), .int t]) (rest := []) X (c_X2_append l hl0 G _ (h := dO) (x1 := wh) (x2 := x) (x3 := cellI x y z) (x4 := t) (qw := dqw) (qa := dqa) (qc := dqc) (qv := dqv) (dn := dn) (dw := dw) (da := da) (dc := dc) (dv := dv) (hd := (by first | assumption | omega))) (cwV 4 hts gX5_put_X2_append rfl rfl rfl (by decide +kernel) ⟨Nat.le_of_ble_eq_true rfl, Nat.le_of_ble_eq_true rfl⟩) ⟨b_blind, b_recv E w (ci := 2) (q0 := 3) rfl rfl, (fun U9 hU9 hW9 => ⟨rfl, b_pre E Z w [3, 4, 5, 6, 7] (by decide) rfl (b_subA [0, 1, 2, 3, 4] rfl) U9 hU9 hW9⟩)⟩ rfl rfl hl.1 rfl (lv_room (Nat.le_of_ble_eq_true rfl)) dX5_put_83 ⟨Nat.le_of_ble_eq_true rfl, Nat.le_of_ble_eq_true rfl⟩) (b_subA [0, 1, 2, 3, 4] rfl) [3, 4, 5, 6, 7] (fun _ => rfl) rfl (fun r83_18 u83_18 H locs hr83_18 w => ?_)
            have w : bSt G vwCl [dO, dqw, dqa, dqc, dqv] s [(H0, .inr (5, [.ref tA, .ref tJ, .ref gO, .ref dO, .ref bO, .ref sO, .ref qs, .ref qr, .int (nI jd), .int (nI snt), .int (nI td)])), (tA, .inr (4, [.ref oA, .int (nI 10), .int (nI nA)])), (tJ, .inr (4, [.ref oJ, .int (nI 1), .int (nI nJ)])), (dO, .inr (2, [.ref dqw, .ref dqa, .ref dqc, .ref dqv, .int (nI (dn + 1))])), (dqw, .inl (G.2.1, 16, .inl (upd dw dn wh))), (dqa, .inl (G.2.1, 16, .inl (upd da dn x))), (dqc, .inl (G.2.1, 16, .inl (upd dc dn (cellI x y z)))), (dqv, .inl (G.2.1, 16, .inl (upd dv dn t)))] _ _ := w
            subst hr83_18
            refine W.widen (k := 2) (n := 12) (by decide) (by decide) ?_
            refine vx_ret ?_
            exact W.iret (v := nI (dn + 1)) hx hb hr (fun t9 ht9 hW9 => ⟨⟨nI (dn + 1), (), rfl, ⟨rfl, h1, by rw [hW, hV]; rfl, hd9⟩, by show va_P G.1 vwCl _ t9.heap; rw [ht9]; exact b_cg (rfl) (w.1.sub (ws' := [(dO, .inr (2, [.ref dqw, .ref dqa, .ref dqc, .ref dqv, .int (nI (dn + 1))])), (dqw, .inl (G.2.1, 16, .inl (upd dw dn wh))), (dqa, .inl (G.2.1, 16, .inl (upd da dn x))), (dqc, .inl (G.2.1, 16, .inl (upd dc dn (cellI x y z)))), (dqv, .inl (G.2.1, 16, .inl (upd dv dn t)))]) [3, 4, 5, 6, 7] rfl)⟩, w.2.1.F ht9⟩) w.2.1.2.2 dX5_put_86
          · have q_60_17 : (decide (16 ≤ dn)) = true := bI_n0.mp c_60_16
            have hd9 : 16 ≤ dn := by simpa using q_60_17
            exact b_throw (cls := "java/lang/IllegalStateException") (text := "the draft is full") (ik := 99) (is := 101) (ic := 103) X E Z0 hl0 hxt hlocks w (Or.inr (Or.inr ⟨rfl, h1, by rw [hW, hV]; rfl, hd9⟩)) hl.1 (by decide) (by decide +kernel) (by decide +kernel) (by decide +kernel) (by decide +kernel) (by decide +kernel) (by decide +kernel) (by decide +kernel) dX5_put_63 dX5_put_66 dX5_put_67 dX5_put_69 dX5_put_72 (Nat.le_of_ble_eq_true rfl) (Nat.le_of_ble_eq_true rfl) (Nat.le_of_ble_eq_true rfl) (Nat.le_of_ble_eq_true rfl) (by decide) (by decide)
        · have hV : vOk t = false := by simp [vOk, c_40_14]
          exact b_throw (cls := "java/lang/IllegalArgumentException") (text := "value is out of range") (ik := 84) (is := 93) (ic := 88) X E Z0 hl0 hxt hlocks w (Or.inr (Or.inl ⟨rfl, h1, by rw [hW, hV]; rfl⟩)) hl.1 (by decide) (by decide +kernel) (by decide +kernel) (by decide +kernel) (by decide +kernel) (by decide +kernel) (by decide +kernel) (by decide +kernel) dX5_put_43 dX5_put_46 dX5_put_47 dX5_put_49 dX5_put_52 (Nat.le_of_ble_eq_true rfl) (Nat.le_of_ble_eq_true rfl) (Nat.le_of_ble_eq_true rfl) (Nat.le_of_ble_eq_true rfl) (by decide) (by decide)
    · have hW : wOk wh = false := by simp [wOk, c_16_12]
      exact b_throw (cls := "java/lang/IllegalArgumentException") (text := "what is out of range") (ik := 84) (is := 86) (ic := 88) X E Z0 hl0 hxt hlocks w (Or.inr (Or.inl ⟨rfl, h1, by rw [hW]; rfl⟩)) hl.1 (by decide) (by decide +kernel) (by decide +kernel) (by decide +kernel) (by decide +kernel) (by decide +kernel) (by decide +kernel) (by decide +kernel) dX5_put_19 dX5_put_22 dX5_put_23 dX5_put_25 dX5_put_28 (Nat.le_of_ble_eq_true rfl) (Nat.le_of_ble_eq_true rfl) (Nat.le_of_ble_eq_true rfl) (Nat.le_of_ble_eq_true rfl) (by decide) (by decide)
set_option maxHeartbeats 4000000 in
set_option maxRecDepth 100000 in
theorem c_X5_wipe (l : Launch) (hl0 : l.stackTraces = false) (G : bG) (sz : Nat) (H0 tA tJ gO dO bO sO qs qr jd snt td : Nat) (dqw dqa dqc dqv dn : Nat) : Met l yX5_wipe wsX5_wipe ({ frames := 1, cells := 0, slots := 0, locals := 21 }) (va_Pc [.ref H0] (bPre G vwCl bNW bSW sz [(H0, .inr (5, [.ref tA, .ref tJ, .ref gO, .ref dO, .ref bO, .ref sO, .ref qs, .ref qr, .int (nI jd), .int (nI snt), .int (nI td)])), (dO, .inr (2, [.ref dqw, .ref dqa, .ref dqc, .ref dqv, .int (nI dn)]))] [dO])) (va_Qi (fun (r : Int32) (_ : Unit) => r = nI dn) (fun (_ : Unit) (tS : State) => va_P G.1 vwCl [(dO, .inr (2, [.ref dqw, .ref dqa, .ref dqc, .ref dqv, .int (nI 0)]))] tS.heap) (Aw [dO] sz)) 0 0 (Aw [dO] sz) := by
  refine Met.ofW (cc := cX5_wipe) (maxL := 1) (ret := (some .int)) (by decide) rfl ?_
  intro p e s m args below meth c s₁ B hml hv
  obtain ⟨rfl, hsz, hP, hD, E, Z⟩ := hv
  have hts := atoms_spec (ws := wsX5_wipe) B.pre
  have hown : s.vm.findClass RX5 = some m.cls := findClass_of_methodNamed B.named
  have X : CallFix p m c cX5_wipe 1 s _ wsX5_wipe RX5 := ⟨B.exec, B.bytes, hml, hown, hts⟩
  have hx := B.exec
  have hb := B.bytes
  have hr := B.returns
  have hlocks := B.notSynchronized
  subst hsz
  have w : bSt G vwCl [] s [(H0, .inr (5, [.ref tA, .ref tJ, .ref gO, .ref dO, .ref bO, .ref sO, .ref qs, .ref qr, .int (nI jd), .int (nI snt), .int (nI td)])), (dO, .inr (2, [.ref dqw, .ref dqa, .ref dqc, .ref dqv, .int (nI dn)]))] s.heap [] := ⟨hP, va_S.rf, hD⟩
  have Z0 : bZ [] s := ⟨Z.1.narrow (fun q h => h.elim (fun h => nomatch h) Or.inr), Z.2.narrow (fun q h => h.elim (fun h => nomatch h) Or.inr)⟩
  have iX5 : ∀ w ∈ wsX50, w ∈ wsX5_wipe := by decide +kernel
  have hl := lv_entry ([.ref H0]) (n := 1) (Nat.le_of_ble_eq_true rfl)
  rw [lg_entry_eq]
  generalize (lg_sl ([.ref H0]) ++ List.replicate (1 - (lg_sl ([.ref H0])).length) Slot.unset).toArray = ls at hl ⊢
  have hl : lv_has ls 1 [(0, .ref H0)] := hl
  refine lv_aload_n hx hb dX5_wipe_0 rfl (lv_at hl 0 rfl) ?_
  refine b_get X E w 0 rfl rfl 3 (by decide) iX5 (by decide +kernel) rfl rfl dX5_wipe_1 ?_
  have w := b_wide [dO] b_nil w
  refine b_calli w (va_runV (As := []) (rest := []) X (c_X2_clear l hl0 G _ (h := dO) (qw := dqw) (qa := dqa) (qc := dqc) (qv := dqv) (dn := dn) ) (cwV 0 hts gX5_wipe_X2_clear rfl rfl rfl (by decide +kernel) ⟨Nat.le_of_ble_eq_true rfl, Nat.le_of_ble_eq_true rfl⟩) ⟨b_blind, b_recv E w (ci := 2) (q0 := 1) rfl rfl, (fun U9 hU9 hW9 => ⟨rfl, b_pre E Z w [1] (by decide) rfl (b_subA [0] rfl) U9 hU9 hW9⟩)⟩ rfl rfl hl.1 rfl (lv_room (Nat.le_of_ble_eq_true rfl)) dX5_wipe_4 ⟨Nat.le_of_ble_eq_true rfl, Nat.le_of_ble_eq_true rfl⟩) (b_subA [0] rfl) [1] (fun _ => rfl) rfl (fun r4_2 u4_2 H locs hr4_2 w => ?_)
  have w : bSt G vwCl [dO] s [(H0, .inr (5, [.ref tA, .ref tJ, .ref gO, .ref dO, .ref bO, .ref sO, .ref qs, .ref qr, .int (nI jd), .int (nI snt), .int (nI td)])), (dO, .inr (2, [.ref dqw, .ref dqa, .ref dqc, .ref dqv, .int (nI 0)]))] _ _ := w
  subst hr4_2
  exact W.iret (v := nI dn) hx hb hr (fun t9 ht9 hW9 => ⟨⟨nI dn, (), rfl, rfl, by show va_P G.1 vwCl _ t9.heap; rw [ht9]; exact b_cg (rfl) (w.1.sub (ws' := [(dO, .inr (2, [.ref dqw, .ref dqa, .ref dqc, .ref dqv, .int (nI 0)]))]) [1] rfl)⟩, w.2.1.F ht9⟩) w.2.1.2.2 dX5_wipe_7
set_option maxHeartbeats 4000000 in
set_option maxRecDepth 100000 in
theorem c_X5_refusal (l : Launch) (hl0 : l.stackTraces = false) (G : bG) (sz : Nat) (H0 tA tJ gO dO bO sO qs qr jd snt td : Nat) (rf : Nat → Int32) (x : Int32) (hjd : jd ≤ 16) : vx_Met l yX5_refusal wsX5_refusal ({ frames := 6, cells := 1, slots := 6, locals := 90 }) (va_Pc [.ref H0, .int x] (bPre G vwCl bNW bSW sz [(H0, .inr (5, [.ref tA, .ref tJ, .ref gO, .ref dO, .ref bO, .ref sO, .ref qs, .ref qr, .int (nI jd), .int (nI snt), .int (nI td)])), (qr, .inl (G.2.1, 16, .inl rf))] [])) (va_Qi (fun (r : Int32) (_ : Unit) => r = rf (cl x) ∧ (tHas jd x = true)) (fun (_ : Unit) (tS : State) => va_P G.1 vwCl [] tS.heap) (Aw [] sz)) (bX (fun E => E = xIO ∧ tHas jd x = false) sz) 1 6 (Aw [] sz) := by
  refine vx_ofW (cc := cX5_refusal) (maxL := 2) (ret := (some .int)) (by decide) rfl ?_
  intro p e s m args below meth c s₁ B hml hxt hv
  obtain ⟨rfl, hsz, hP, hD, E, Z⟩ := hv
  have hts := atoms_spec (ws := wsX5_refusal) B.pre
  have hown : s.vm.findClass RX5 = some m.cls := findClass_of_methodNamed B.named
  have X : CallFix p m c cX5_refusal 2 s _ wsX5_refusal RX5 := ⟨B.exec, B.bytes, hml, hown, hts⟩
  have hx := B.exec
  have hb := B.bytes
  have hr := B.returns
  have hlocks := B.notSynchronized
  subst hsz
  have w : bSt G vwCl [] s [(H0, .inr (5, [.ref tA, .ref tJ, .ref gO, .ref dO, .ref bO, .ref sO, .ref qs, .ref qr, .int (nI jd), .int (nI snt), .int (nI td)])), (qr, .inl (G.2.1, 16, .inl rf))] s.heap [] := ⟨hP, va_S.rf, hD⟩
  have Z0 : bZ [] s := ⟨Z.1.narrow (fun q h => h.elim (fun h => nomatch h) Or.inr), Z.2.narrow (fun q h => h.elim (fun h => nomatch h) Or.inr)⟩
  have iX5 : ∀ w ∈ wsX50, w ∈ wsX5_refusal := by decide +kernel
  have hl := lv_entry ([.ref H0, .int x]) (n := 2) (Nat.le_of_ble_eq_true rfl)
  rw [lg_entry_eq]
  generalize (lg_sl ([.ref H0, .int x]) ++ List.replicate (2 - (lg_sl ([.ref H0, .int x])).length) Slot.unset).toArray = ls at hl ⊢
  have hl : lv_has ls 2 [(0, .ref H0), (1, .int x)] := hl
  refine lv_iload_n hx hb dX5_refusal_0 rfl (lv_at hl 1 rfl) ?_
  refine lv_if_lt (tgt := 21) hx hb dX5_refusal_1 (by decide) (fun c_1_5 => ?_) (fun c_1_5 => ?_)
  · have hE : tHas jd x = false := tHas_lo c_1_5
    exact b_throw (cls := "java/lang/IndexOutOfBoundsException") (text := "no such line") (ik := 129) (is := 131) (ic := 133) X E Z0 hl0 hxt hlocks w (⟨rfl, hE⟩) hl.1 (by decide) (by decide +kernel) (by decide +kernel) (by decide +kernel) (by decide +kernel) (by decide +kernel) (by decide +kernel) (by decide +kernel) dX5_refusal_21 dX5_refusal_24 dX5_refusal_25 dX5_refusal_27 dX5_refusal_30 (Nat.le_of_ble_eq_true rfl) (Nat.le_of_ble_eq_true rfl) (Nat.le_of_ble_eq_true rfl) (Nat.le_of_ble_eq_true rfl) (by decide) (by decide)
  · have c1 := c_1_5
    refine lv_iload_n hx hb dX5_refusal_4 rfl (lv_at hl 1 rfl) ?_
    refine lv_aload_n hx hb dX5_refusal_5 rfl (lv_at hl 0 rfl) ?_
    refine b_get X E w 0 rfl rfl 8 (by decide) iX5 (by decide +kernel) rfl rfl dX5_refusal_6 ?_
    refine lv_icmp_ge (tgt := 21) hx hb dX5_refusal_9 (by decide) (fun c_9_6 => ?_) (fun c_9_6 => ?_)
    · have hE : tHas jd x = false := by simp [tHas, c_9_6]
      exact b_throw (cls := "java/lang/IndexOutOfBoundsException") (text := "no such line") (ik := 129) (is := 131) (ic := 133) X E Z0 hl0 hxt hlocks w (⟨rfl, hE⟩) hl.1 (by decide) (by decide +kernel) (by decide +kernel) (by decide +kernel) (by decide +kernel) (by decide +kernel) (by decide +kernel) (by decide +kernel) dX5_refusal_21 dX5_refusal_24 dX5_refusal_25 dX5_refusal_27 dX5_refusal_30 (Nat.le_of_ble_eq_true rfl) (Nat.le_of_ble_eq_true rfl) (Nat.le_of_ble_eq_true rfl) (Nat.le_of_ble_eq_true rfl) (by decide) (by decide)
    · have h1 : tHas jd x = true := by simp [tHas, c1, c_9_6]
      obtain ⟨k, hk, rfl⟩ := (tHas_iff (by omega)).mp h1
      have e1 : cl (nI k) = k := cl_nI (by omega)
      refine lv_iload_n hx hb dX5_refusal_12 rfl (lv_at hl 1 rfl) ?_
      refine lv_aload_n hx hb dX5_refusal_13 rfl (lv_at hl 0 rfl) ?_
      refine b_get X E w 0 rfl rfl 7 (by decide) iX5 (by decide +kernel) rfl rfl dX5_refusal_14 ?_
      refine b_alen X E w 1 rfl dX5_refusal_17 ?_
      refine lv_icmp_lt (tgt := 31) hx hb dX5_refusal_18 (by decide) (fun c_18_7 => ?_) (fun c_18_7 => ?_)
      · have q_18_8 : k < 16 := q_lt (by omega) (by omega) c_18_7
        refine lv_aload_n hx hb dX5_refusal_31 rfl (lv_at hl 0 rfl) ?_
        refine b_get X E w 0 rfl rfl 7 (by decide) iX5 (by decide +kernel) rfl rfl dX5_refusal_32 ?_
        refine lv_iload_n hx hb dX5_refusal_35 rfl (lv_at hl 1 rfl) ?_
        refine b_iald X E w 1 rfl k rfl (by omega) (by first | decide | omega) dX5_refusal_36 ?_
        refine W.widen (k := 1) (n := 6) (by decide) (by decide) ?_
        refine vx_ret ?_
        exact W.iret (v := rf k) hx hb hr (fun t9 ht9 hW9 => ⟨⟨rf k, (), rfl, ⟨by rw [e1], h1⟩, fun k q h => by cases k <;> cases h⟩, w.2.1.F ht9⟩) w.2.1.2.2 dX5_refusal_37
      · exact absurd c_18_7 (by have := nI_lt (a := k) (b := 16) (by omega) (by decide); exact fun h => h this)
set_option maxHeartbeats 4000000 in
set_option maxRecDepth 100000 in
theorem c_X5_pass (l : Launch) (hl0 : l.stackTraces = false) (G : bG) (sz : Nat) (H0 tA tJ gO dO bO sO qs qr jd snt td : Nat) (x : Int32) (htd : td ≤ 1000) : vx_Met l yX5_pass wsX5_pass ({ frames := 6, cells := 1, slots := 6, locals := 90 }) (va_Pc [.ref H0, .int x] (bPre G vwCl bNW bSW sz [(H0, .inr (5, [.ref tA, .ref tJ, .ref gO, .ref dO, .ref bO, .ref sO, .ref qs, .ref qr, .int (nI jd), .int (nI snt), .int (nI td)]))] [H0])) (va_Qi (fun (r : Int32) (_ : Unit) => r = nI (td + cl x) ∧ (pOk x = true ∧ td + cl x ≤ 1000)) (fun (_ : Unit) (tS : State) => va_P G.1 vwCl [(H0, .inr (5, [.ref tA, .ref tJ, .ref gO, .ref dO, .ref bO, .ref sO, .ref qs, .ref qr, .int (nI jd), .int (nI snt), .int (nI (td + cl x))]))] tS.heap) (Aw [H0] sz)) (bX (fun E => (E = xIA ∧ pOk x = false) ∨ (E = xIS ∧ pOk x = true ∧ 1000 < td + cl x)) sz) 1 6 (Aw [H0] sz) := by
  refine vx_ofW (cc := cX5_pass) (maxL := 2) (ret := (some .int)) (by decide) rfl ?_
  intro p e s m args below meth c s₁ B hml hxt hv
  obtain ⟨rfl, hsz, hP, hD, E, Z⟩ := hv
  have hts := atoms_spec (ws := wsX5_pass) B.pre
  have hown : s.vm.findClass RX5 = some m.cls := findClass_of_methodNamed B.named
  have X : CallFix p m c cX5_pass 2 s _ wsX5_pass RX5 := ⟨B.exec, B.bytes, hml, hown, hts⟩
  have hx := B.exec
  have hb := B.bytes
  have hr := B.returns
  have hlocks := B.notSynchronized
  subst hsz
  have w : bSt G vwCl [] s [(H0, .inr (5, [.ref tA, .ref tJ, .ref gO, .ref dO, .ref bO, .ref sO, .ref qs, .ref qr, .int (nI jd), .int (nI snt), .int (nI td)]))] s.heap [] := ⟨hP, va_S.rf, hD⟩
  have Z0 : bZ [] s := ⟨Z.1.narrow (fun q h => h.elim (fun h => nomatch h) Or.inr), Z.2.narrow (fun q h => h.elim (fun h => nomatch h) Or.inr)⟩
  have iX5 : ∀ w ∈ wsX50, w ∈ wsX5_pass := by decide +kernel
  have hl := lv_entry ([.ref H0, .int x]) (n := 2) (Nat.le_of_ble_eq_true rfl)
  rw [lg_entry_eq]
  generalize (lg_sl ([.ref H0, .int x]) ++ List.replicate (2 - (lg_sl ([.ref H0, .int x])).length) Slot.unset).toArray = ls at hl ⊢
  have hl : lv_has ls 2 [(0, .ref H0), (1, .int x)] := hl
  refine lv_iload_n hx hb dX5_pass_0 rfl (lv_at hl 1 rfl) ?_
  refine lv_iconst (v := nI 1) hx hb dX5_pass_1 (by decide) ?_
  refine lv_icmp_lt (tgt := 11) hx hb dX5_pass_2 (by decide) (fun c_2_5 => ?_) (fun c_2_5 => ?_)
  · have hE : pOk x = false := by simp [pOk, c_2_5]
    exact b_throw (cls := "java/lang/IllegalArgumentException") (text := "days is out of range") (ik := 84) (is := 140) (ic := 88) X E Z0 hl0 hxt hlocks w (Or.inl ⟨rfl, hE⟩) hl.1 (by decide) (by decide +kernel) (by decide +kernel) (by decide +kernel) (by decide +kernel) (by decide +kernel) (by decide +kernel) (by decide +kernel) dX5_pass_11 dX5_pass_14 dX5_pass_15 dX5_pass_17 dX5_pass_20 (Nat.le_of_ble_eq_true rfl) (Nat.le_of_ble_eq_true rfl) (Nat.le_of_ble_eq_true rfl) (Nat.le_of_ble_eq_true rfl) (by decide) (by decide)
  · have c2 := c_2_5
    refine lv_iload_n hx hb dX5_pass_5 rfl (lv_at hl 1 rfl) ?_
    refine lv_bipush (v := nI 100) hx hb dX5_pass_6 (by decide) ?_
    refine lv_icmp_le (tgt := 21) hx hb dX5_pass_8 (by decide) (fun c_8_6 => ?_) (fun c_8_6 => ?_)
    · have h1 : pOk x = true := by simp [pOk, c2, c_8_6]
      obtain ⟨k, hk1, hk2, rfl⟩ := pOk_yes c2 c_8_6
      have e1 : cl (nI k) = k := cl_nI (by omega)
      refine lv_aload_n hx hb dX5_pass_21 rfl (lv_at hl 0 rfl) ?_
      refine b_get X E w 0 rfl rfl 10 (by decide) iX5 (by decide +kernel) rfl rfl dX5_pass_22 ?_
      refine lv_iload_n hx hb dX5_pass_25 rfl (lv_at hl 1 rfl) ?_
      refine lv_iadd hx hb dX5_pass_26 ?_
      refine b_tp (show (nI td) + (nI k) = nI (td + k) from nI_add td k) ?_
      refine lv_sipush (v := nI 1000) hx hb dX5_pass_27 (by decide) ?_
      refine lv_icmp_le (tgt := 43) hx hb dX5_pass_30 (by decide) (fun c_30_7 => ?_) (fun c_30_7 => ?_)
      · have q_30_8 : td + k ≤ 1000 := q_le (by omega) (by omega) c_30_7
        have q30 := q_30_8
        refine lv_aload_n hx hb dX5_pass_43 rfl (lv_at hl 0 rfl) ?_
        refine lv_dup hx hb dX5_pass_44 rfl ?_
        refine b_get X E w 0 rfl rfl 10 (by decide) iX5 (by decide +kernel) rfl rfl dX5_pass_45 ?_
        refine lv_iload_n hx hb dX5_pass_48 rfl (lv_at hl 1 rfl) ?_
        refine lv_iadd hx hb dX5_pass_49 ?_
        refine b_tp (show (nI td) + (nI k) = nI (td + k) from nI_add td k) ?_
        have w := b_wide [H0] b_nil w
        refine b_put (ty := .int) X E w (Or.inl (List.mem_of_getElem? (i := 0) rfl)) 0 rfl rfl 10 (by decide) iX5 tyX5 tyX5_ok nmX5 (by decide +kernel) rfl rfl (by decide +kernel) rfl rfl (Nat.le_of_ble_eq_true rfl) dX5_pass_50 (fun H locs w => ?_)
        have w : bSt G vwCl [H0] s [(H0, .inr (5, [.ref tA, .ref tJ, .ref gO, .ref dO, .ref bO, .ref sO, .ref qs, .ref qr, .int (nI jd), .int (nI snt), .int (nI (td + k))]))] _ _ := w
        refine lv_aload_n hx hb dX5_pass_53 rfl (lv_at hl 0 rfl) ?_
        refine b_get X E w 0 rfl rfl 10 (by decide) iX5 (by decide +kernel) rfl rfl dX5_pass_54 ?_
        refine W.widen (k := 1) (n := 6) (by decide) (by decide) ?_
        refine vx_ret ?_
        exact W.iret (v := nI (td + k)) hx hb hr (fun t9 ht9 hW9 => ⟨⟨nI (td + k), (), rfl, ⟨by rw [e1], h1, by rw [e1]; omega⟩, by show va_P G.1 vwCl _ t9.heap; rw [ht9]; exact b_cg (by rw [e1]) (w.1.sub (ws' := [(H0, .inr (5, [.ref tA, .ref tJ, .ref gO, .ref dO, .ref bO, .ref sO, .ref qs, .ref qr, .int (nI jd), .int (nI snt), .int (nI (td + k))]))]) [0] rfl)⟩, w.2.1.F ht9⟩) w.2.1.2.2 dX5_pass_57
      · have q_30_8 : 1000 < td + k := q_nle (by omega) (by omega) c_30_7
        have q30 := q_30_8
        exact b_throw (cls := "java/lang/IllegalStateException") (text := "today would be behind the last day") (ik := 99) (is := 145) (ic := 103) X E Z0 hl0 hxt hlocks w (Or.inr ⟨rfl, h1, by rw [e1]; omega⟩) hl.1 (by decide) (by decide +kernel) (by decide +kernel) (by decide +kernel) (by decide +kernel) (by decide +kernel) (by decide +kernel) (by decide +kernel) dX5_pass_33 dX5_pass_36 dX5_pass_37 dX5_pass_39 dX5_pass_42 (Nat.le_of_ble_eq_true rfl) (Nat.le_of_ble_eq_true rfl) (Nat.le_of_ble_eq_true rfl) (Nat.le_of_ble_eq_true rfl) (by decide) (by decide)
    · have hE : pOk x = false := by simp [pOk, c_8_6]
      exact b_throw (cls := "java/lang/IllegalArgumentException") (text := "days is out of range") (ik := 84) (is := 140) (ic := 88) X E Z0 hl0 hxt hlocks w (Or.inl ⟨rfl, hE⟩) hl.1 (by decide) (by decide +kernel) (by decide +kernel) (by decide +kernel) (by decide +kernel) (by decide +kernel) (by decide +kernel) (by decide +kernel) dX5_pass_11 dX5_pass_14 dX5_pass_15 dX5_pass_17 dX5_pass_20 (Nat.le_of_ble_eq_true rfl) (Nat.le_of_ble_eq_true rfl) (Nat.le_of_ble_eq_true rfl) (Nat.le_of_ble_eq_true rfl) (by decide) (by decide)
set_option maxHeartbeats 4000000 in
set_option maxRecDepth 100000 in
theorem c_X5_figure (l : Launch) (hl0 : l.stackTraces = false) (G : bG) (sz : Nat) (H0 tA tJ gO dO bO sO qs qr jd snt td : Nat) (oA nA : Nat) (oJ nJ : Nat) (ql qe qn qt qc qd qf bn : Nat) (bc : Nat → Int32) (bd : Nat → Int32) (bf : Nat → Int32) (x y z d : Int32) (hnA : nA ≤ 14) (hnJ : nJ ≤ 10) (hbn : bn ≤ 300) : vx_Met l yX5_figure wsX5_figure ({ frames := 7, cells := 2, slots := 12, locals := 113 }) (va_Pc [.ref H0, .int x, .int y, .int z, .int d] (bPre G vwCl bNW bSW sz [(H0, .inr (5, [.ref tA, .ref tJ, .ref gO, .ref dO, .ref bO, .ref sO, .ref qs, .ref qr, .int (nI jd), .int (nI snt), .int (nI td)])), (tA, .inr (4, [.ref oA, .int (nI 10), .int (nI nA)])), (tJ, .inr (4, [.ref oJ, .int (nI 1), .int (nI nJ)])), (bO, .inr (1, [.ref ql, .ref qe, .ref qn, .ref qt, .ref qc, .ref qd, .ref qf, .int (nI bn)])), (qc, .inl (G.2.1, 300, .inl bc)), (qd, .inl (G.2.1, 300, .inl bd)), (qf, .inl (G.2.1, 300, .inl bf))] [])) (va_Qi (fun (r : Int32) (_ : Unit) => r = fo bc bd bf (nI (cN x y z)) d bn ∧ (okC nA nJ x y z = true ∧ dOk td d = true)) (fun (_ : Unit) (tS : State) => va_P G.1 vwCl [] tS.heap) (Aw [] sz)) (bX (fun E => (E = xIO ∧ okC nA nJ x y z = false) ∨ (E = xIA ∧ okC nA nJ x y z = true ∧ dOk td d = false)) sz) 2 12 (Aw [] sz) := by
  refine vx_ofW (cc := cX5_figure) (maxL := 6) (ret := (some .int)) (by decide) rfl ?_
  intro p e s m args below meth c s₁ B hml hxt hv
  obtain ⟨rfl, hsz, hP, hD, E, Z⟩ := hv
  have hts := atoms_spec (ws := wsX5_figure) B.pre
  have hown : s.vm.findClass RX5 = some m.cls := findClass_of_methodNamed B.named
  have X : CallFix p m c cX5_figure 6 s _ wsX5_figure RX5 := ⟨B.exec, B.bytes, hml, hown, hts⟩
  have hx := B.exec
  have hb := B.bytes
  have hr := B.returns
  have hlocks := B.notSynchronized
  subst hsz
  have w : bSt G vwCl [] s [(H0, .inr (5, [.ref tA, .ref tJ, .ref gO, .ref dO, .ref bO, .ref sO, .ref qs, .ref qr, .int (nI jd), .int (nI snt), .int (nI td)])), (tA, .inr (4, [.ref oA, .int (nI 10), .int (nI nA)])), (tJ, .inr (4, [.ref oJ, .int (nI 1), .int (nI nJ)])), (bO, .inr (1, [.ref ql, .ref qe, .ref qn, .ref qt, .ref qc, .ref qd, .ref qf, .int (nI bn)])), (qc, .inl (G.2.1, 300, .inl bc)), (qd, .inl (G.2.1, 300, .inl bd)), (qf, .inl (G.2.1, 300, .inl bf))] s.heap [] := ⟨hP, va_S.rf, hD⟩
  have Z0 : bZ [] s := ⟨Z.1.narrow (fun q h => h.elim (fun h => nomatch h) Or.inr), Z.2.narrow (fun q h => h.elim (fun h => nomatch h) Or.inr)⟩
  have iX5 : ∀ w ∈ wsX50, w ∈ wsX5_figure := by decide +kernel
  have hl := lv_entry ([.ref H0, .int x, .int y, .int z, .int d]) (n := 6) (Nat.le_of_ble_eq_true rfl)
  rw [lg_entry_eq]
  generalize (lg_sl ([.ref H0, .int x, .int y, .int z, .int d]) ++ List.replicate (6 - (lg_sl ([.ref H0, .int x, .int y, .int z, .int d])).length) Slot.unset).toArray = ls at hl ⊢
  have hl : lv_has ls 6 [(0, .ref H0), (1, .int x), (2, .int y), (3, .int z), (4, .int d)] := hl
  refine lv_aload_n hx hb dX5_figure_0 rfl (lv_at hl 0 rfl) ?_
  refine lv_iload_n hx hb dX5_figure_1 rfl (lv_at hl 1 rfl) ?_
  refine lv_iload_n hx hb dX5_figure_2 rfl (lv_at hl 2 rfl) ?_
  refine lv_iload_n hx hb dX5_figure_3 rfl (lv_at hl 3 rfl) ?_
  refine b_xcalli w (vx_runV (As := [.int x, .int y, .int z]) (rest := []) X (c_X5_requireCell l hl0 G _ (H0 := H0) (x := x) (y := y) (z := z) (tA := tA) (tJ := tJ) (gO := gO) (dO := dO) (bO := bO) (sO := sO) (qs := qs) (qr := qr) (jd := jd) (snt := snt) (td := td) (oA := oA) (nA := nA) (oJ := oJ) (nJ := nJ) ) (cwV 3 hts gX5_figure_X5_requireCell rfl rfl rfl (by decide +kernel) ⟨Nat.le_of_ble_eq_true rfl, Nat.le_of_ble_eq_true rfl⟩) ⟨b_blind, b_recv E w (ci := 5) (q0 := 0) rfl rfl, (fun U9 hU9 hW9 => ⟨rfl, b_pre E Z0 w [0, 1, 2] (by decide) rfl b_nil U9 hU9 hW9⟩)⟩ rfl rfl hl.1 rfl (lv_room (Nat.le_of_ble_eq_true rfl)) dX5_figure_4 ⟨Nat.le_of_ble_eq_true rfl, Nat.le_of_ble_eq_true rfl⟩) b_nil [] (fun _ => rfl) rfl (fun E9 ce9 q9 H9 locs9 hex w9 hce hcv hcl => b_out hxt hlocks w9 (Or.inl hex) hce hcv hcl (by decide) (by decide)) (fun r4_4 u4_4 H locs hr4_4 w => ?_)
  have w : bSt G vwCl [] s [(H0, .inr (5, [.ref tA, .ref tJ, .ref gO, .ref dO, .ref bO, .ref sO, .ref qs, .ref qr, .int (nI jd), .int (nI snt), .int (nI td)])), (tA, .inr (4, [.ref oA, .int (nI 10), .int (nI nA)])), (tJ, .inr (4, [.ref oJ, .int (nI 1), .int (nI nJ)])), (bO, .inr (1, [.ref ql, .ref qe, .ref qn, .ref qt, .ref qc, .ref qd, .ref qf, .int (nI bn)])), (qc, .inl (G.2.1, 300, .inl bc)), (qd, .inl (G.2.1, 300, .inl bd)), (qf, .inl (G.2.1, 300, .inl bf))] _ _ := w
  obtain ⟨ehr4_4, hr4_4⟩ := hr4_4
  subst ehr4_4
  have h1 := hr4_4
  obtain ⟨a, ha, i, hi, p0, hp, rfl, rfl, rfl⟩ := okC_yes (by omega) (by omega) hr4_4
  have eN := cN_nI ha hi hp hnA hnJ
  have ea : cl (nI a) = a := cl_nI (by omega)
  have ei : cl (nI i) = i := cl_nI (by omega)
  have ep : cl (nI p0) = p0 := cl_nI (by omega)
  refine b_tp (show cellI (nI a) (nI i) (nI p0) = nI (140 * p0 + (10 * a + i)) from cellI_nI a i p0) ?_
  refine lv_istore (lv' := [(5, .int (nI (140 * p0 + (10 * a + i)))), (0, .ref H0), (1, .int (nI a)), (2, .int (nI i)), (3, .int (nI p0)), (4, .int d)]) hx hb dX5_figure_7 hl (by decide) rfl (fun ls hl => ?_)
  refine lv_aload_n hx hb dX5_figure_9 rfl (lv_at hl 1 rfl) ?_
  refine lv_iload hx hb dX5_figure_10 (lv_at hl 5 rfl) ?_
  refine b_xcallv w (vx_runV (As := [.int d]) (rest := []) X (c_X5_requireDay l hl0 G _ (H0 := H0) (x := d) (tA := tA) (tJ := tJ) (gO := gO) (dO := dO) (bO := bO) (sO := sO) (qs := qs) (qr := qr) (jd := jd) (snt := snt) (td := td) ) (cwV 1 hts gX5_figure_X5_requireDay rfl rfl rfl (by decide +kernel) ⟨Nat.le_of_ble_eq_true rfl, Nat.le_of_ble_eq_true rfl⟩) ⟨b_blind, b_recv E w (ci := 5) (q0 := 0) rfl rfl, (fun U9 hU9 hW9 => ⟨rfl, b_pre E Z0 w [0] (by decide) rfl b_nil U9 hU9 hW9⟩)⟩ rfl rfl hl.1 rfl (lv_room (Nat.le_of_ble_eq_true rfl)) dX5_figure_12 ⟨Nat.le_of_ble_eq_true rfl, Nat.le_of_ble_eq_true rfl⟩) b_nil [] (fun _ => rfl) rfl (fun E9 ce9 q9 H9 locs9 hex w9 hce hcv hcl => b_out hxt hlocks w9 (Or.inr ⟨hex.1, h1, hex.2⟩) hce hcv hcl (by decide) (by decide)) (fun u12_5 H locs hr12_5 w => ?_)
  have w : bSt G vwCl [] s [(H0, .inr (5, [.ref tA, .ref tJ, .ref gO, .ref dO, .ref bO, .ref sO, .ref qs, .ref qr, .int (nI jd), .int (nI snt), .int (nI td)])), (tA, .inr (4, [.ref oA, .int (nI 10), .int (nI nA)])), (tJ, .inr (4, [.ref oJ, .int (nI 1), .int (nI nJ)])), (bO, .inr (1, [.ref ql, .ref qe, .ref qn, .ref qt, .ref qc, .ref qd, .ref qf, .int (nI bn)])), (qc, .inl (G.2.1, 300, .inl bc)), (qd, .inl (G.2.1, 300, .inl bd)), (qf, .inl (G.2.1, 300, .inl bf))] _ _ := w
  have h2 := hr12_5
  refine lv_aload_n hx hb dX5_figure_15 rfl (lv_at hl 1 rfl) ?_
  refine b_get X E w 0 rfl rfl 4 (by decide) iX5 (by decide +kernel) rfl rfl dX5_figure_16 ?_
  refine lv_iload hx hb dX5_figure_19 (lv_at hl 0 rfl) ?_
  refine lv_iload hx hb dX5_figure_21 (lv_at hl 5 rfl) ?_
  refine b_calli w (va_runV (As := [.int (nI (140 * p0 + (10 * a + i))), .int d]) (rest := []) X (c_X1_figureOn l hl0 G _ (h := bO) (x := nI (140 * p0 + (10 * a + i))) (d := d) (ql := ql) (qe := qe) (qn := qn) (qt := qt) (qc := qc) (qd := qd) (qf := qf) (bn := bn) (bc := bc) (bd := bd) (bf := bf) (hb := (by first | assumption | omega))) (cwV 2 hts gX5_figure_X1_figureOn rfl rfl rfl (by decide +kernel) ⟨Nat.le_of_ble_eq_true rfl, Nat.le_of_ble_eq_true rfl⟩) ⟨b_blind, b_recv E w (ci := 1) (q0 := 3) rfl rfl, (fun U9 hU9 hW9 => ⟨rfl, b_pre E Z0 w [3, 4, 5, 6] (by decide) rfl b_nil U9 hU9 hW9⟩)⟩ rfl rfl hl.1 rfl (lv_room (Nat.le_of_ble_eq_true rfl)) dX5_figure_23 ⟨Nat.le_of_ble_eq_true rfl, Nat.le_of_ble_eq_true rfl⟩) b_nil [] (fun _ => rfl) rfl (fun r23_6 u23_6 H locs hr23_6 w => ?_)
  have w : bSt G vwCl [] s [(H0, .inr (5, [.ref tA, .ref tJ, .ref gO, .ref dO, .ref bO, .ref sO, .ref qs, .ref qr, .int (nI jd), .int (nI snt), .int (nI td)])), (tA, .inr (4, [.ref oA, .int (nI 10), .int (nI nA)])), (tJ, .inr (4, [.ref oJ, .int (nI 1), .int (nI nJ)])), (bO, .inr (1, [.ref ql, .ref qe, .ref qn, .ref qt, .ref qc, .ref qd, .ref qf, .int (nI bn)])), (qc, .inl (G.2.1, 300, .inl bc)), (qd, .inl (G.2.1, 300, .inl bd)), (qf, .inl (G.2.1, 300, .inl bf))] _ _ := w
  subst hr23_6
  refine vx_ret ?_
  exact W.iret (v := fo bc bd bf (nI (140 * p0 + (10 * a + i))) d bn) hx hb hr (fun t9 ht9 hW9 => ⟨⟨fo bc bd bf (nI (140 * p0 + (10 * a + i))) d bn, (), rfl, ⟨by rw [eN], h1, h2⟩, fun k q h => by cases k <;> cases h⟩, w.2.1.F ht9⟩) w.2.1.2.2 dX5_figure_26
set_option maxHeartbeats 4000000 in
set_option maxRecDepth 100000 in
theorem c_X5_first (l : Launch) (hl0 : l.stackTraces = false) (G : bG) (sz : Nat) (H0 tA tJ gO dO bO sO qs qr jd snt td : Nat) (oA nA : Nat) (oJ nJ : Nat) (ql qe qn qt qc qd qf bn : Nat) (ear : Nat → Int32) (x y z : Int32) (hnA : nA ≤ 14) (hnJ : nJ ≤ 10) : vx_Met l yX5_first wsX5_first ({ frames := 7, cells := 1, slots := 6, locals := 113 }) (va_Pc [.ref H0, .int x, .int y, .int z] (bPre G vwCl bNW bSW sz [(H0, .inr (5, [.ref tA, .ref tJ, .ref gO, .ref dO, .ref bO, .ref sO, .ref qs, .ref qr, .int (nI jd), .int (nI snt), .int (nI td)])), (tA, .inr (4, [.ref oA, .int (nI 10), .int (nI nA)])), (tJ, .inr (4, [.ref oJ, .int (nI 1), .int (nI nJ)])), (bO, .inr (1, [.ref ql, .ref qe, .ref qn, .ref qt, .ref qc, .ref qd, .ref qf, .int (nI bn)])), (qe, .inl (G.2.1, 1680, .inl ear))] [])) (va_Qi (fun (r : Int32) (_ : Unit) => r = ear (cN x y z) ∧ (okC nA nJ x y z = true)) (fun (_ : Unit) (tS : State) => va_P G.1 vwCl [] tS.heap) (Aw [] sz)) (bX (fun E => E = xIO ∧ okC nA nJ x y z = false) sz) 1 6 (Aw [] sz) := by
  refine vx_ofW (cc := cX5_first) (maxL := 4) (ret := (some .int)) (by decide) rfl ?_
  intro p e s m args below meth c s₁ B hml hxt hv
  obtain ⟨rfl, hsz, hP, hD, E, Z⟩ := hv
  have hts := atoms_spec (ws := wsX5_first) B.pre
  have hown : s.vm.findClass RX5 = some m.cls := findClass_of_methodNamed B.named
  have X : CallFix p m c cX5_first 4 s _ wsX5_first RX5 := ⟨B.exec, B.bytes, hml, hown, hts⟩
  have hx := B.exec
  have hb := B.bytes
  have hr := B.returns
  have hlocks := B.notSynchronized
  subst hsz
  have w : bSt G vwCl [] s [(H0, .inr (5, [.ref tA, .ref tJ, .ref gO, .ref dO, .ref bO, .ref sO, .ref qs, .ref qr, .int (nI jd), .int (nI snt), .int (nI td)])), (tA, .inr (4, [.ref oA, .int (nI 10), .int (nI nA)])), (tJ, .inr (4, [.ref oJ, .int (nI 1), .int (nI nJ)])), (bO, .inr (1, [.ref ql, .ref qe, .ref qn, .ref qt, .ref qc, .ref qd, .ref qf, .int (nI bn)])), (qe, .inl (G.2.1, 1680, .inl ear))] s.heap [] := ⟨hP, va_S.rf, hD⟩
  have Z0 : bZ [] s := ⟨Z.1.narrow (fun q h => h.elim (fun h => nomatch h) Or.inr), Z.2.narrow (fun q h => h.elim (fun h => nomatch h) Or.inr)⟩
  have iX1 : ∀ w ∈ wsX10, w ∈ wsX5_first := by decide +kernel
  have iX5 : ∀ w ∈ wsX50, w ∈ wsX5_first := by decide +kernel
  have hl := lv_entry ([.ref H0, .int x, .int y, .int z]) (n := 4) (Nat.le_of_ble_eq_true rfl)
  rw [lg_entry_eq]
  generalize (lg_sl ([.ref H0, .int x, .int y, .int z]) ++ List.replicate (4 - (lg_sl ([.ref H0, .int x, .int y, .int z])).length) Slot.unset).toArray = ls at hl ⊢
  have hl : lv_has ls 4 [(0, .ref H0), (1, .int x), (2, .int y), (3, .int z)] := hl
  refine lv_aload_n hx hb dX5_first_0 rfl (lv_at hl 0 rfl) ?_
  refine b_get X E w 0 rfl rfl 4 (by decide) iX5 (by decide +kernel) rfl rfl dX5_first_1 ?_
  refine b_getN (host := "Figurehouse") X E w 3 rfl rfl 1 (by decide) iX1 (by decide +kernel) rfl rfl dX5_first_4 ?_
  refine lv_aload_n hx hb dX5_first_7 rfl (lv_at hl 0 rfl) ?_
  refine lv_iload_n hx hb dX5_first_8 rfl (lv_at hl 1 rfl) ?_
  refine lv_iload_n hx hb dX5_first_9 rfl (lv_at hl 2 rfl) ?_
  refine lv_iload_n hx hb dX5_first_10 rfl (lv_at hl 3 rfl) ?_
  refine b_xcalli w (vx_runV (As := [.int x, .int y, .int z]) (rest := [.ref qe]) X (c_X5_requireCell l hl0 G _ (H0 := H0) (x := x) (y := y) (z := z) (tA := tA) (tJ := tJ) (gO := gO) (dO := dO) (bO := bO) (sO := sO) (qs := qs) (qr := qr) (jd := jd) (snt := snt) (td := td) (oA := oA) (nA := nA) (oJ := oJ) (nJ := nJ) ) (cwV 3 hts gX5_first_X5_requireCell rfl rfl rfl (by decide +kernel) ⟨Nat.le_of_ble_eq_true rfl, Nat.le_of_ble_eq_true rfl⟩) ⟨b_blind, b_recv E w (ci := 5) (q0 := 0) rfl rfl, (fun U9 hU9 hW9 => ⟨rfl, b_pre E Z0 w [0, 1, 2] (by decide) rfl b_nil U9 hU9 hW9⟩)⟩ rfl rfl hl.1 rfl (lv_room (Nat.le_of_ble_eq_true rfl)) dX5_first_11 ⟨Nat.le_of_ble_eq_true rfl, Nat.le_of_ble_eq_true rfl⟩) b_nil [] (fun _ => rfl) rfl (fun E9 ce9 q9 H9 locs9 hex w9 hce hcv hcl => b_out hxt hlocks w9 (hex) hce hcv hcl (by decide) (by decide)) (fun r11_2 u11_2 H locs hr11_2 w => ?_)
  have w : bSt G vwCl [] s [(H0, .inr (5, [.ref tA, .ref tJ, .ref gO, .ref dO, .ref bO, .ref sO, .ref qs, .ref qr, .int (nI jd), .int (nI snt), .int (nI td)])), (tA, .inr (4, [.ref oA, .int (nI 10), .int (nI nA)])), (tJ, .inr (4, [.ref oJ, .int (nI 1), .int (nI nJ)])), (bO, .inr (1, [.ref ql, .ref qe, .ref qn, .ref qt, .ref qc, .ref qd, .ref qf, .int (nI bn)])), (qe, .inl (G.2.1, 1680, .inl ear))] _ _ := w
  obtain ⟨ehr11_2, hr11_2⟩ := hr11_2
  subst ehr11_2
  have h1 := hr11_2
  obtain ⟨a, ha, i, hi, p0, hp, rfl, rfl, rfl⟩ := okC_yes (by omega) (by omega) hr11_2
  have eN := cN_nI ha hi hp hnA hnJ
  have ea : cl (nI a) = a := cl_nI (by omega)
  have ei : cl (nI i) = i := cl_nI (by omega)
  have ep : cl (nI p0) = p0 := cl_nI (by omega)
  refine b_tp (show cellI (nI a) (nI i) (nI p0) = nI (140 * p0 + (10 * a + i)) from cellI_nI a i p0) ?_
  refine b_iald X E w 4 rfl (140 * p0 + (10 * a + i)) rfl (by omega) (by first | decide | omega) dX5_first_14 ?_
  refine vx_ret ?_
  exact W.iret (v := ear (140 * p0 + (10 * a + i))) hx hb hr (fun t9 ht9 hW9 => ⟨⟨ear (140 * p0 + (10 * a + i)), (), rfl, ⟨by rw [eN], h1⟩, fun k q h => by cases k <;> cases h⟩, w.2.1.F ht9⟩) w.2.1.2.2 dX5_first_15
set_option maxHeartbeats 4000000 in
set_option maxRecDepth 100000 in
theorem c_X5_revisions (l : Launch) (hl0 : l.stackTraces = false) (G : bG) (sz : Nat) (H0 tA tJ gO dO bO sO qs qr jd snt td : Nat) (oA nA : Nat) (oJ nJ : Nat) (ql qe qn qt qc qd qf bn : Nat) (cnt : Nat → Int32) (x y z : Int32) (hnA : nA ≤ 14) (hnJ : nJ ≤ 10) : vx_Met l yX5_revisions wsX5_revisions ({ frames := 7, cells := 1, slots := 6, locals := 113 }) (va_Pc [.ref H0, .int x, .int y, .int z] (bPre G vwCl bNW bSW sz [(H0, .inr (5, [.ref tA, .ref tJ, .ref gO, .ref dO, .ref bO, .ref sO, .ref qs, .ref qr, .int (nI jd), .int (nI snt), .int (nI td)])), (tA, .inr (4, [.ref oA, .int (nI 10), .int (nI nA)])), (tJ, .inr (4, [.ref oJ, .int (nI 1), .int (nI nJ)])), (bO, .inr (1, [.ref ql, .ref qe, .ref qn, .ref qt, .ref qc, .ref qd, .ref qf, .int (nI bn)])), (qn, .inl (G.2.1, 1680, .inl cnt))] [])) (va_Qi (fun (r : Int32) (_ : Unit) => r = cnt (cN x y z) ∧ (okC nA nJ x y z = true)) (fun (_ : Unit) (tS : State) => va_P G.1 vwCl [] tS.heap) (Aw [] sz)) (bX (fun E => E = xIO ∧ okC nA nJ x y z = false) sz) 1 6 (Aw [] sz) := by
  refine vx_ofW (cc := cX5_revisions) (maxL := 4) (ret := (some .int)) (by decide) rfl ?_
  intro p e s m args below meth c s₁ B hml hxt hv
  obtain ⟨rfl, hsz, hP, hD, E, Z⟩ := hv
  have hts := atoms_spec (ws := wsX5_revisions) B.pre
  have hown : s.vm.findClass RX5 = some m.cls := findClass_of_methodNamed B.named
  have X : CallFix p m c cX5_revisions 4 s _ wsX5_revisions RX5 := ⟨B.exec, B.bytes, hml, hown, hts⟩
  have hx := B.exec
  have hb := B.bytes
  have hr := B.returns
  have hlocks := B.notSynchronized
  subst hsz
  have w : bSt G vwCl [] s [(H0, .inr (5, [.ref tA, .ref tJ, .ref gO, .ref dO, .ref bO, .ref sO, .ref qs, .ref qr, .int (nI jd), .int (nI snt), .int (nI td)])), (tA, .inr (4, [.ref oA, .int (nI 10), .int (nI nA)])), (tJ, .inr (4, [.ref oJ, .int (nI 1), .int (nI nJ)])), (bO, .inr (1, [.ref ql, .ref qe, .ref qn, .ref qt, .ref qc, .ref qd, .ref qf, .int (nI bn)])), (qn, .inl (G.2.1, 1680, .inl cnt))] s.heap [] := ⟨hP, va_S.rf, hD⟩
  have Z0 : bZ [] s := ⟨Z.1.narrow (fun q h => h.elim (fun h => nomatch h) Or.inr), Z.2.narrow (fun q h => h.elim (fun h => nomatch h) Or.inr)⟩
  have iX1 : ∀ w ∈ wsX10, w ∈ wsX5_revisions := by decide +kernel
  have iX5 : ∀ w ∈ wsX50, w ∈ wsX5_revisions := by decide +kernel
  have hl := lv_entry ([.ref H0, .int x, .int y, .int z]) (n := 4) (Nat.le_of_ble_eq_true rfl)
  rw [lg_entry_eq]
  generalize (lg_sl ([.ref H0, .int x, .int y, .int z]) ++ List.replicate (4 - (lg_sl ([.ref H0, .int x, .int y, .int z])).length) Slot.unset).toArray = ls at hl ⊢
  have hl : lv_has ls 4 [(0, .ref H0), (1, .int x), (2, .int y), (3, .int z)] := hl
  refine lv_aload_n hx hb dX5_revisions_0 rfl (lv_at hl 0 rfl) ?_
  refine b_get X E w 0 rfl rfl 4 (by decide) iX5 (by decide +kernel) rfl rfl dX5_revisions_1 ?_
  refine b_getN (host := "Figurehouse") X E w 3 rfl rfl 2 (by decide) iX1 (by decide +kernel) rfl rfl dX5_revisions_4 ?_
  refine lv_aload_n hx hb dX5_revisions_7 rfl (lv_at hl 0 rfl) ?_
  refine lv_iload_n hx hb dX5_revisions_8 rfl (lv_at hl 1 rfl) ?_
  refine lv_iload_n hx hb dX5_revisions_9 rfl (lv_at hl 2 rfl) ?_
  refine lv_iload_n hx hb dX5_revisions_10 rfl (lv_at hl 3 rfl) ?_
  refine b_xcalli w (vx_runV (As := [.int x, .int y, .int z]) (rest := [.ref qn]) X (c_X5_requireCell l hl0 G _ (H0 := H0) (x := x) (y := y) (z := z) (tA := tA) (tJ := tJ) (gO := gO) (dO := dO) (bO := bO) (sO := sO) (qs := qs) (qr := qr) (jd := jd) (snt := snt) (td := td) (oA := oA) (nA := nA) (oJ := oJ) (nJ := nJ) ) (cwV 3 hts gX5_revisions_X5_requireCell rfl rfl rfl (by decide +kernel) ⟨Nat.le_of_ble_eq_true rfl, Nat.le_of_ble_eq_true rfl⟩) ⟨b_blind, b_recv E w (ci := 5) (q0 := 0) rfl rfl, (fun U9 hU9 hW9 => ⟨rfl, b_pre E Z0 w [0, 1, 2] (by decide) rfl b_nil U9 hU9 hW9⟩)⟩ rfl rfl hl.1 rfl (lv_room (Nat.le_of_ble_eq_true rfl)) dX5_revisions_11 ⟨Nat.le_of_ble_eq_true rfl, Nat.le_of_ble_eq_true rfl⟩) b_nil [] (fun _ => rfl) rfl (fun E9 ce9 q9 H9 locs9 hex w9 hce hcv hcl => b_out hxt hlocks w9 (hex) hce hcv hcl (by decide) (by decide)) (fun r11_2 u11_2 H locs hr11_2 w => ?_)
  have w : bSt G vwCl [] s [(H0, .inr (5, [.ref tA, .ref tJ, .ref gO, .ref dO, .ref bO, .ref sO, .ref qs, .ref qr, .int (nI jd), .int (nI snt), .int (nI td)])), (tA, .inr (4, [.ref oA, .int (nI 10), .int (nI nA)])), (tJ, .inr (4, [.ref oJ, .int (nI 1), .int (nI nJ)])), (bO, .inr (1, [.ref ql, .ref qe, .ref qn, .ref qt, .ref qc, .ref qd, .ref qf, .int (nI bn)])), (qn, .inl (G.2.1, 1680, .inl cnt))] _ _ := w
  obtain ⟨ehr11_2, hr11_2⟩ := hr11_2
  subst ehr11_2
  have h1 := hr11_2
  obtain ⟨a, ha, i, hi, p0, hp, rfl, rfl, rfl⟩ := okC_yes (by omega) (by omega) hr11_2
  have eN := cN_nI ha hi hp hnA hnJ
  have ea : cl (nI a) = a := cl_nI (by omega)
  have ei : cl (nI i) = i := cl_nI (by omega)
  have ep : cl (nI p0) = p0 := cl_nI (by omega)
  refine b_tp (show cellI (nI a) (nI i) (nI p0) = nI (140 * p0 + (10 * a + i)) from cellI_nI a i p0) ?_
  refine b_iald X E w 4 rfl (140 * p0 + (10 * a + i)) rfl (by omega) (by first | decide | omega) dX5_revisions_14 ?_
  refine vx_ret ?_
  exact W.iret (v := cnt (140 * p0 + (10 * a + i))) hx hb hr (fun t9 ht9 hW9 => ⟨⟨cnt (140 * p0 + (10 * a + i)), (), rfl, ⟨by rw [eN], h1⟩, fun k q h => by cases k <;> cases h⟩, w.2.1.F ht9⟩) w.2.1.2.2 dX5_revisions_15
