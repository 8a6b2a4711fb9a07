set_option maxHeartbeats 4000000 in
set_option maxRecDepth 100000 in
theorem c_X5_loadHidden (l : Launch) (hl0 : l.stackTraces = false) (G : bG) (sz : Nat) (H0 tA tJ gO dO bO sO qs qr jd snt td : Nat) (oA nA : Nat) (fA : Nat → Int32) (oJ nJ : Nat) (fJ : Nat → Int32) (ql qe qn qt qc qd qf bn : Nat) (bc : Nat → Int32) (bd : Nat → Int32) (bf : Nat → Int32) (qv qh : Nat) (v : Nat → Int32) (hid : Nat → Bool) (sc : Nat → Bool) (p0 : Nat) (hnA : nA ≤ 14) (hnJ : nJ ≤ 10) (hTA : TI fA nA) (hTJ : TI fJ nJ) (hbn : bn ≤ 300) (hbk : bOk nA nJ bn td bc bd) (hp : p0 < 12) : Met l yX5_loadHidden wsX5_loadHidden ({ frames := 5, cells := 0, slots := 0, locals := 128 }) (va_Pc [.ref H0, .int (nI p0)] (bPre G vwCl bNW bSW sz [(H0, .inr (5, [.ref tA, .ref tJ, .ref gO, .ref dO, .ref bO, .ref sO, .ref qs, .ref qr, .int (nI jd), .int (nI snt), .int (nI td)])), (tA, .inr (4, [.ref oA, .int (nI 10), .int (nI nA)])), (oA, .inl (G.2.1, 14, .inl fA)), (tJ, .inr (4, [.ref oJ, .int (nI 1), .int (nI nJ)])), (oJ, .inl (G.2.1, 10, .inl fJ)), (bO, .inr (1, [.ref ql, .ref qe, .ref qn, .ref qt, .ref qc, .ref qd, .ref qf, .int (nI bn)])), (qc, .inl (G.2.1, 300, .inl bc)), (qd, .inl (G.2.1, 300, .inl bd)), (qf, .inl (G.2.1, 300, .inl bf)), (sO, .inr (3, [.ref qv, .ref qh])), (qv, .inl (G.2.1, 140, .inl v)), (qh, .inl (G.2.2.1, 140, .inl (zB hid))), (qs, .inl (G.2.2.1, 1680, .inl (zB sc)))] [qv, qh])) (va_Qv (fun (u : Nat → Int32) => Fx (figs bc bd bf bn p0 (nI td)) fA nA fJ nJ u ∧ vOut nA nJ u) (fun (u : Nat → Int32) (tS : State) => va_P G.1 vwCl [(qv, .inl (G.2.1, 140, .inl u)), (qh, .inl (G.2.2.1, 140, .inl (zB (hdn fA nA fJ nJ sc p0 u hid))))] tS.heap) (Aw [qv, qh] sz)) 0 0 (Aw [qv, qh] sz) := by
  refine Met.ofW (cc := cX5_loadHidden) (maxL := 2) (ret := none) (by decide) rfl ?_
  intro p e s m args below meth c s₁ B hml hv
  obtain ⟨rfl, hsz, hP, hD, E, Z⟩ := hv
  have hts := atoms_spec (ws := wsX5_loadHidden) B.pre
  have hown : s.vm.findClass RX5 = some m.cls := findClass_of_methodNamed B.named
  have X : CallFix p m c cX5_loadHidden 2 s _ wsX5_loadHidden RX5 := ⟨B.exec, B.bytes, hml, hown, hts⟩
  have hx := B.exec
  have hb := B.bytes
  have hr := B.returns
  have hlocks := B.notSynchronized
  subst hsz
  have w : bSt G vwCl [] s [(H0, .inr (5, [.ref tA, .ref tJ, .ref gO, .ref dO, .ref bO, .ref sO, .ref qs, .ref qr, .int (nI jd), .int (nI snt), .int (nI td)])), (tA, .inr (4, [.ref oA, .int (nI 10), .int (nI nA)])), (oA, .inl (G.2.1, 14, .inl fA)), (tJ, .inr (4, [.ref oJ, .int (nI 1), .int (nI nJ)])), (oJ, .inl (G.2.1, 10, .inl fJ)), (bO, .inr (1, [.ref ql, .ref qe, .ref qn, .ref qt, .ref qc, .ref qd, .ref qf, .int (nI bn)])), (qc, .inl (G.2.1, 300, .inl bc)), (qd, .inl (G.2.1, 300, .inl bd)), (qf, .inl (G.2.1, 300, .inl bf)), (sO, .inr (3, [.ref qv, .ref qh])), (qv, .inl (G.2.1, 140, .inl v)), (qh, .inl (G.2.2.1, 140, .inl (zB hid))), (qs, .inl (G.2.2.1, 1680, .inl (zB sc)))] s.heap [] := ⟨hP, va_S.rf, hD⟩
  have Z0 : bZ [] s := ⟨Z.1.narrow (fun q h => h.elim (fun h => nomatch h) Or.inr), Z.2.narrow (fun q h => h.elim (fun h => nomatch h) Or.inr)⟩
  have iX5 : ∀ w ∈ wsX50, w ∈ wsX5_loadHidden := by decide +kernel
  have hl := lv_entry ([.ref H0, .int (nI p0)]) (n := 2) (Nat.le_of_ble_eq_true rfl)
  rw [lg_entry_eq]
  generalize (lg_sl ([.ref H0, .int (nI p0)]) ++ List.replicate (2 - (lg_sl ([.ref H0, .int (nI p0)])).length) Slot.unset).toArray = ls at hl ⊢
  have hl : lv_has ls 2 [(0, .ref H0), (1, .int (nI p0))] := hl
  refine lv_aload_n hx hb dX5_loadHidden_0 rfl (lv_at hl 0 rfl) ?_
  refine b_get X E w 0 rfl rfl 5 (by decide) iX5 (by decide +kernel) rfl rfl dX5_loadHidden_1 ?_
  refine lv_aload_n hx hb dX5_loadHidden_4 rfl (lv_at hl 0 rfl) ?_
  refine b_get X E w 0 rfl rfl 4 (by decide) iX5 (by decide +kernel) rfl rfl dX5_loadHidden_5 ?_
  refine lv_iload_n hx hb dX5_loadHidden_8 rfl (lv_at hl 1 rfl) ?_
  refine lv_aload_n hx hb dX5_loadHidden_9 rfl (lv_at hl 0 rfl) ?_
  refine b_get X E w 0 rfl rfl 10 (by decide) iX5 (by decide +kernel) rfl rfl dX5_loadHidden_10 ?_
  refine lv_aload_n hx hb dX5_loadHidden_13 rfl (lv_at hl 0 rfl) ?_
  refine b_get X E w 0 rfl rfl 0 (by decide) iX5 (by decide +kernel) rfl rfl dX5_loadHidden_14 ?_
  refine lv_aload_n hx hb dX5_loadHidden_17 rfl (lv_at hl 0 rfl) ?_
  refine b_get X E w 0 rfl rfl 1 (by decide) iX5 (by decide +kernel) rfl rfl dX5_loadHidden_18 ?_
  have w := b_wide [qv, qh] b_nil w
  refine b_callv w (va_runV (As := [.ref bO, .int (nI p0), .int (nI td), .ref tA, .ref tJ]) (rest := []) X (c_X3_load l hl0 G _ (td := td) (h := sO) (bO := bO) (p0 := p0) (d := nI td) (tA := tA) (tJ := tJ) (qv := qv) (qh := qh) (v := v) (ql := ql) (qe := qe) (qn := qn) (qt := qt) (qc := qc) (qd := qd) (qf := qf) (bn := bn) (bc := bc) (bd := bd) (bf := bf) (oA := oA) (nA := nA) (fA := fA) (oJ := oJ) (nJ := nJ) (fJ := fJ) (hnA := (by first | assumption | omega)) (hnJ := (by first | assumption | omega)) (hTA := (by first | assumption | omega)) (hTJ := (by first | assumption | omega)) (hbn := (by first | assumption | omega)) (hp := (by first | assumption | omega)) (hbk := (by first | assumption | omega))) (cwV 5 hts gX5_loadHidden_X3_load rfl rfl rfl (by decide +kernel) ⟨Nat.le_of_ble_eq_true rfl, Nat.le_of_ble_eq_true rfl⟩) ⟨b_blind, b_recv E w (ci := 3) (q0 := 9) rfl rfl, (fun U9 hU9 hW9 => ⟨rfl, b_pre E Z w [9, 10, 5, 6, 7, 8, 1, 2, 3, 4] (by decide) rfl (b_subA [0] rfl) U9 hU9 hW9⟩)⟩ rfl rfl hl.1 rfl (lv_room (Nat.le_of_ble_eq_true rfl)) dX5_loadHidden_21 ⟨Nat.le_of_ble_eq_true rfl, Nat.le_of_ble_eq_true rfl⟩) (b_subA [0] rfl) [10] (fun _ => rfl) rfl (fun u21_3 H locs hr21_3 w => ?_)
  have w : bSt G vwCl [qv, qh] s [(H0, .inr (5, [.ref tA, .ref tJ, .ref gO, .ref dO, .ref bO, .ref sO, .ref qs, .ref qr, .int (nI jd), .int (nI snt), .int (nI td)])), (tA, .inr (4, [.ref oA, .int (nI 10), .int (nI nA)])), (oA, .inl (G.2.1, 14, .inl fA)), (tJ, .inr (4, [.ref oJ, .int (nI 1), .int (nI nJ)])), (oJ, .inl (G.2.1, 10, .inl fJ)), (bO, .inr (1, [.ref ql, .ref qe, .ref qn, .ref qt, .ref qc, .ref qd, .ref qf, .int (nI bn)])), (qc, .inl (G.2.1, 300, .inl bc)), (qd, .inl (G.2.1, 300, .inl bd)), (qf, .inl (G.2.1, 300, .inl bf)), (sO, .inr (3, [.ref qv, .ref qh])), (qv, .inl (G.2.1, 140, .inl u21_3)), (qh, .inl (G.2.2.1, 140, .inl (zB hid))), (qs, .inl (G.2.2.1, 1680, .inl (zB sc)))] _ _ := w
  have hu0 := hr21_3
  refine lv_aload_n hx hb dX5_loadHidden_24 rfl (lv_at hl 0 rfl) ?_
  refine b_get X E w 0 rfl rfl 5 (by decide) iX5 (by decide +kernel) rfl rfl dX5_loadHidden_25 ?_
  refine lv_aload_n hx hb dX5_loadHidden_28 rfl (lv_at hl 0 rfl) ?_
  refine b_get X E w 0 rfl rfl 6 (by decide) iX5 (by decide +kernel) rfl rfl dX5_loadHidden_29 ?_
  refine lv_iload_n hx hb dX5_loadHidden_32 rfl (lv_at hl 1 rfl) ?_
  refine lv_aload_n hx hb dX5_loadHidden_33 rfl (lv_at hl 0 rfl) ?_
  refine b_get X E w 0 rfl rfl 0 (by decide) iX5 (by decide +kernel) rfl rfl dX5_loadHidden_34 ?_
  refine lv_aload_n hx hb dX5_loadHidden_37 rfl (lv_at hl 0 rfl) ?_
  refine b_get X E w 0 rfl rfl 1 (by decide) iX5 (by decide +kernel) rfl rfl dX5_loadHidden_38 ?_
  refine b_callv w (va_runV (As := [.ref qs, .int (nI p0), .ref tA, .ref tJ]) (rest := []) X (c_X3_hide l hl0 G _ (h := sO) (qs := qs) (p0 := p0) (tA := tA) (tJ := tJ) (qv := qv) (qh := qh) (v := u21_3) (hid := hid) (sc := sc) (oA := oA) (nA := nA) (fA := fA) (oJ := oJ) (nJ := nJ) (fJ := fJ) (hnA := (by first | assumption | omega)) (hnJ := (by first | assumption | omega)) (hTA := (by first | assumption | omega)) (hTJ := (by first | assumption | omega)) (hp := (by first | assumption | omega))) (cwV 4 hts gX5_loadHidden_X3_hide rfl rfl rfl (by decide +kernel) ⟨Nat.le_of_ble_eq_true rfl, Nat.le_of_ble_eq_true rfl⟩) ⟨b_blind, b_recv E w (ci := 3) (q0 := 9) rfl rfl, (fun U9 hU9 hW9 => ⟨rfl, b_pre E Z w [9, 10, 11, 12, 1, 2, 3, 4] (by decide) rfl (b_subA [1] rfl) U9 hU9 hW9⟩)⟩ rfl rfl hl.1 rfl (lv_room (Nat.le_of_ble_eq_true rfl)) dX5_loadHidden_41 ⟨Nat.le_of_ble_eq_true rfl, Nat.le_of_ble_eq_true rfl⟩) (b_subA [1] rfl) [11] (fun _ => rfl) rfl (fun u41_4 H locs hr41_4 w => ?_)
  have w : bSt G vwCl [qv, qh] s [(H0, .inr (5, [.ref tA, .ref tJ, .ref gO, .ref dO, .ref bO, .ref sO, .ref qs, .ref qr, .int (nI jd), .int (nI snt), .int (nI td)])), (tA, .inr (4, [.ref oA, .int (nI 10), .int (nI nA)])), (oA, .inl (G.2.1, 14, .inl fA)), (tJ, .inr (4, [.ref oJ, .int (nI 1), .int (nI nJ)])), (oJ, .inl (G.2.1, 10, .inl fJ)), (bO, .inr (1, [.ref ql, .ref qe, .ref qn, .ref qt, .ref qc, .ref qd, .ref qf, .int (nI bn)])), (qc, .inl (G.2.1, 300, .inl bc)), (qd, .inl (G.2.1, 300, .inl bd)), (qf, .inl (G.2.1, 300, .inl bf)), (sO, .inr (3, [.ref qv, .ref qh])), (qv, .inl (G.2.1, 140, .inl u21_3)), (qh, .inl (G.2.2.1, 140, .inl (zB (itR (stp fA nA fJ nJ u21_3) 141 (hF hid (fun t => sc (140 * p0 + t) && !decide (u21_3 t = MIS)) 140))))), (qs, .inl (G.2.2.1, 1680, .inl (zB sc)))] _ _ := w
  exact W.vret hx hb hr (fun t9 ht9 hW9 => ⟨⟨u21_3, rfl, hu0, by show va_P G.1 vwCl _ t9.heap; rw [ht9]; exact b_cg (rfl) (w.1.sub (ws' := [(qv, .inl (G.2.1, 140, .inl u21_3)), (qh, .inl (G.2.2.1, 140, .inl (zB (itR (stp fA nA fJ nJ u21_3) 141 (hF hid (fun t => sc (140 * p0 + t) && !decide (u21_3 t = MIS)) 140)))))]) [10, 11] rfl)⟩, w.2.1.F ht9⟩) w.2.1.2.2 dX5_loadHidden_44
set_option maxHeartbeats 4000000 in
set_option maxRecDepth 100000 in
theorem c_X5_value (l : Launch) (hl0 : l.stackTraces = false) (G : bG) (sz : Nat) (H0 tA tJ gO dO bO sO qs qr jd snt td : Nat) (oA nA : Nat) (fA : Nat → Int32) (oJ nJ : Nat) (fJ : Nat → Int32) (ql qe qn qt qc qd qf bn : Nat) (bc : Nat → Int32) (bd : Nat → Int32) (bf : Nat → Int32) (qv qh : Nat) (v : Nat → Int32) (x y z d : Int32) (hnA : nA ≤ 14) (hnJ : nJ ≤ 10) (hTA : TI fA nA) (hTJ : TI fJ nJ) (hbn : bn ≤ 300) (hbk : bOk nA nJ bn td bc bd) : vx_Met l yX5_value wsX5_value ({ frames := 7, cells := 2, slots := 12, locals := 113 }) (va_Pc [.ref H0, .int x, .int y, .int z, .int d] (bPre G vwCl bNW bSW sz [(H0, .inr (5, [.ref tA, .ref tJ, .ref gO, .ref dO, .ref bO, .ref sO, .ref qs, .ref qr, .int (nI jd), .int (nI snt), .int (nI td)])), (tA, .inr (4, [.ref oA, .int (nI 10), .int (nI nA)])), (oA, .inl (G.2.1, 14, .inl fA)), (tJ, .inr (4, [.ref oJ, .int (nI 1), .int (nI nJ)])), (oJ, .inl (G.2.1, 10, .inl fJ)), (bO, .inr (1, [.ref ql, .ref qe, .ref qn, .ref qt, .ref qc, .ref qd, .ref qf, .int (nI bn)])), (qc, .inl (G.2.1, 300, .inl bc)), (qd, .inl (G.2.1, 300, .inl bd)), (qf, .inl (G.2.1, 300, .inl bf)), (sO, .inr (3, [.ref qv, .ref qh])), (qv, .inl (G.2.1, 140, .inl v))] [qv])) (va_Qi (fun (r : Int32) (u : Nat → Int32) => okC nA nJ x y z = true ∧ dOk td d = true ∧ r = u (10 * cl x + cl y) ∧ Fx (figs bc bd bf bn (cl z) d) fA nA fJ nJ u ∧ vOut nA nJ u) (fun (u : Nat → Int32) (tS : State) => va_P G.1 vwCl [(qv, .inl (G.2.1, 140, .inl u))] tS.heap) (Aw [qv] sz)) (bX (fun E => (E = xIO ∧ okC nA nJ x y z = false) ∨ (E = xIA ∧ okC nA nJ x y z = true ∧ dOk td d = false)) sz) 2 12 (Aw [qv] sz) := by
  refine vx_ofW (cc := cX5_value) (maxL := 5) (ret := (some .int)) (by decide) rfl ?_
  intro p e s m args below meth c s₁ B hml hxt hv
  obtain ⟨rfl, hsz, hP, hD, E, Z⟩ := hv
  have hts := atoms_spec (ws := wsX5_value) B.pre
  have hown : s.vm.findClass RX5 = some m.cls := findClass_of_methodNamed B.named
  have X : CallFix p m c cX5_value 5 s _ wsX5_value RX5 := ⟨B.exec, B.bytes, hml, hown, hts⟩
  have hx := B.exec
  have hb := B.bytes
  have hr := B.returns
  have hlocks := B.notSynchronized
  subst hsz
  have w : bSt G vwCl [] s [(H0, .inr (5, [.ref tA, .ref tJ, .ref gO, .ref dO, .ref bO, .ref sO, .ref qs, .ref qr, .int (nI jd), .int (nI snt), .int (nI td)])), (tA, .inr (4, [.ref oA, .int (nI 10), .int (nI nA)])), (oA, .inl (G.2.1, 14, .inl fA)), (tJ, .inr (4, [.ref oJ, .int (nI 1), .int (nI nJ)])), (oJ, .inl (G.2.1, 10, .inl fJ)), (bO, .inr (1, [.ref ql, .ref qe, .ref qn, .ref qt, .ref qc, .ref qd, .ref qf, .int (nI bn)])), (qc, .inl (G.2.1, 300, .inl bc)), (qd, .inl (G.2.1, 300, .inl bd)), (qf, .inl (G.2.1, 300, .inl bf)), (sO, .inr (3, [.ref qv, .ref qh])), (qv, .inl (G.2.1, 140, .inl v))] s.heap [] := ⟨hP, va_S.rf, hD⟩
  have Z0 : bZ [] s := ⟨Z.1.narrow (fun q h => h.elim (fun h => nomatch h) Or.inr), Z.2.narrow (fun q h => h.elim (fun h => nomatch h) Or.inr)⟩
  have iX5 : ∀ w ∈ wsX50, w ∈ wsX5_value := by decide +kernel
  have hl := lv_entry ([.ref H0, .int x, .int y, .int z, .int d]) (n := 5) (Nat.le_of_ble_eq_true rfl)
  rw [lg_entry_eq]
  generalize (lg_sl ([.ref H0, .int x, .int y, .int z, .int d]) ++ List.replicate (5 - (lg_sl ([.ref H0, .int x, .int y, .int z, .int d])).length) Slot.unset).toArray = ls at hl ⊢
  have hl : lv_has ls 5 [(0, .ref H0), (1, .int x), (2, .int y), (3, .int z), (4, .int d)] := hl
  refine lv_aload_n hx hb dX5_value_0 rfl (lv_at hl 0 rfl) ?_
  refine lv_iload_n hx hb dX5_value_1 rfl (lv_at hl 1 rfl) ?_
  refine lv_iload_n hx hb dX5_value_2 rfl (lv_at hl 2 rfl) ?_
  refine lv_iload_n hx hb dX5_value_3 rfl (lv_at hl 3 rfl) ?_
  refine b_xcalli w (vx_runV (As := [.int x, .int y, .int z]) (rest := []) X (c_X5_requireCell l hl0 G _ (H0 := H0) (x := x) (y := y) (z := z) (tA := tA) (tJ := tJ) (gO := gO) (dO := dO) (bO := bO) (sO := sO) (qs := qs) (qr := qr) (jd := jd) (snt := snt) (td := td) (oA := oA) (nA := nA) (oJ := oJ) (nJ := nJ) ) (cwV 3 hts gX5_value_X5_requireCell rfl rfl rfl (by decide +kernel) ⟨Nat.le_of_ble_eq_true rfl, Nat.le_of_ble_eq_true rfl⟩) ⟨b_blind, b_recv E w (ci := 5) (q0 := 0) rfl rfl, (fun U9 hU9 hW9 => ⟨rfl, b_pre E Z0 w [0, 1, 3] (by decide) rfl b_nil U9 hU9 hW9⟩)⟩ rfl rfl hl.1 rfl (lv_room (Nat.le_of_ble_eq_true rfl)) dX5_value_4 ⟨Nat.le_of_ble_eq_true rfl, Nat.le_of_ble_eq_true rfl⟩) b_nil [] (fun _ => rfl) rfl (fun E9 ce9 q9 H9 locs9 hex w9 hce hcv hcl => b_out hxt hlocks w9 (Or.inl hex) hce hcv hcl (by decide) (by decide)) (fun r4_6 u4_6 H locs hr4_6 w => ?_)
  have w : bSt G vwCl [] s [(H0, .inr (5, [.ref tA, .ref tJ, .ref gO, .ref dO, .ref bO, .ref sO, .ref qs, .ref qr, .int (nI jd), .int (nI snt), .int (nI td)])), (tA, .inr (4, [.ref oA, .int (nI 10), .int (nI nA)])), (oA, .inl (G.2.1, 14, .inl fA)), (tJ, .inr (4, [.ref oJ, .int (nI 1), .int (nI nJ)])), (oJ, .inl (G.2.1, 10, .inl fJ)), (bO, .inr (1, [.ref ql, .ref qe, .ref qn, .ref qt, .ref qc, .ref qd, .ref qf, .int (nI bn)])), (qc, .inl (G.2.1, 300, .inl bc)), (qd, .inl (G.2.1, 300, .inl bd)), (qf, .inl (G.2.1, 300, .inl bf)), (sO, .inr (3, [.ref qv, .ref qh])), (qv, .inl (G.2.1, 140, .inl v))] _ _ := w
  obtain ⟨ehr4_6, hr4_6⟩ := hr4_6
  subst ehr4_6
  have h1 := hr4_6
  obtain ⟨a, ha, i, hi, p0, hp, rfl, rfl, rfl⟩ := okC_yes (by omega) (by omega) hr4_6
  have eN := cN_nI ha hi hp hnA hnJ
  have ea : cl (nI a) = a := cl_nI (by omega)
  have ei : cl (nI i) = i := cl_nI (by omega)
  have ep : cl (nI p0) = p0 := cl_nI (by omega)
  refine b_tp (show cellI (nI a) (nI i) (nI p0) = nI (140 * p0 + (10 * a + i)) from cellI_nI a i p0) ?_
  refine lv_pop hx hb dX5_value_7 rfl ?_
  refine lv_aload_n hx hb dX5_value_8 rfl (lv_at hl 0 rfl) ?_
  refine lv_iload hx hb dX5_value_9 (lv_at hl 4 rfl) ?_
  refine b_xcallv w (vx_runV (As := [.int d]) (rest := []) X (c_X5_requireDay l hl0 G _ (H0 := H0) (x := d) (tA := tA) (tJ := tJ) (gO := gO) (dO := dO) (bO := bO) (sO := sO) (qs := qs) (qr := qr) (jd := jd) (snt := snt) (td := td) ) (cwV 1 hts gX5_value_X5_requireDay rfl rfl rfl (by decide +kernel) ⟨Nat.le_of_ble_eq_true rfl, Nat.le_of_ble_eq_true rfl⟩) ⟨b_blind, b_recv E w (ci := 5) (q0 := 0) rfl rfl, (fun U9 hU9 hW9 => ⟨rfl, b_pre E Z0 w [0] (by decide) rfl b_nil U9 hU9 hW9⟩)⟩ rfl rfl hl.1 rfl (lv_room (Nat.le_of_ble_eq_true rfl)) dX5_value_11 ⟨Nat.le_of_ble_eq_true rfl, Nat.le_of_ble_eq_true rfl⟩) b_nil [] (fun _ => rfl) rfl (fun E9 ce9 q9 H9 locs9 hex w9 hce hcv hcl => b_out hxt hlocks w9 (Or.inr ⟨hex.1, h1, hex.2⟩) hce hcv hcl (by decide) (by decide)) (fun u11_7 H locs hr11_7 w => ?_)
  have w : bSt G vwCl [] s [(H0, .inr (5, [.ref tA, .ref tJ, .ref gO, .ref dO, .ref bO, .ref sO, .ref qs, .ref qr, .int (nI jd), .int (nI snt), .int (nI td)])), (tA, .inr (4, [.ref oA, .int (nI 10), .int (nI nA)])), (oA, .inl (G.2.1, 14, .inl fA)), (tJ, .inr (4, [.ref oJ, .int (nI 1), .int (nI nJ)])), (oJ, .inl (G.2.1, 10, .inl fJ)), (bO, .inr (1, [.ref ql, .ref qe, .ref qn, .ref qt, .ref qc, .ref qd, .ref qf, .int (nI bn)])), (qc, .inl (G.2.1, 300, .inl bc)), (qd, .inl (G.2.1, 300, .inl bd)), (qf, .inl (G.2.1, 300, .inl bf)), (sO, .inr (3, [.ref qv, .ref qh])), (qv, .inl (G.2.1, 140, .inl v))] _ _ := w
  have h2 := hr11_7
  refine lv_aload_n hx hb dX5_value_14 rfl (lv_at hl 0 rfl) ?_
  refine b_get X E w 0 rfl rfl 5 (by decide) iX5 (by decide +kernel) rfl rfl dX5_value_15 ?_
  refine lv_aload_n hx hb dX5_value_18 rfl (lv_at hl 0 rfl) ?_
  refine b_get X E w 0 rfl rfl 4 (by decide) iX5 (by decide +kernel) rfl rfl dX5_value_19 ?_
  refine lv_iload_n hx hb dX5_value_22 rfl (lv_at hl 3 rfl) ?_
  refine lv_iload hx hb dX5_value_23 (lv_at hl 4 rfl) ?_
  refine lv_aload_n hx hb dX5_value_25 rfl (lv_at hl 0 rfl) ?_
  refine b_get X E w 0 rfl rfl 0 (by decide) iX5 (by decide +kernel) rfl rfl dX5_value_26 ?_
  refine lv_aload_n hx hb dX5_value_29 rfl (lv_at hl 0 rfl) ?_
  refine b_get X E w 0 rfl rfl 1 (by decide) iX5 (by decide +kernel) rfl rfl dX5_value_30 ?_
  have w := b_wide [qv] b_nil w
  refine b_callv w (va_runV (As := [.ref bO, .int (nI p0), .int d, .ref tA, .ref tJ]) (rest := []) X (c_X3_load l hl0 G _ (td := td) (h := sO) (bO := bO) (p0 := p0) (d := d) (tA := tA) (tJ := tJ) (qv := qv) (qh := qh) (v := v) (ql := ql) (qe := qe) (qn := qn) (qt := qt) (qc := qc) (qd := qd) (qf := qf) (bn := bn) (bc := bc) (bd := bd) (bf := bf) (oA := oA) (nA := nA) (fA := fA) (oJ := oJ) (nJ := nJ) (fJ := fJ) (hnA := (by first | assumption | omega)) (hnJ := (by first | assumption | omega)) (hTA := (by first | assumption | omega)) (hTJ := (by first | assumption | omega)) (hbn := (by first | assumption | omega)) (hp := (by first | assumption | omega)) (hbk := (by first | assumption | omega))) (cwV 5 hts gX5_value_X3_load rfl rfl rfl (by decide +kernel) ⟨Nat.le_of_ble_eq_true rfl, Nat.le_of_ble_eq_true rfl⟩) ⟨b_blind, b_recv E w (ci := 3) (q0 := 9) rfl rfl, (fun U9 hU9 hW9 => ⟨rfl, b_pre E Z w [9, 10, 5, 6, 7, 8, 1, 2, 3, 4] (by decide) rfl (b_subA [0] rfl) U9 hU9 hW9⟩)⟩ rfl rfl hl.1 rfl (lv_room (Nat.le_of_ble_eq_true rfl)) dX5_value_33 ⟨Nat.le_of_ble_eq_true rfl, Nat.le_of_ble_eq_true rfl⟩) (b_subA [0] rfl) [10] (fun _ => rfl) rfl (fun u33_8 H locs hr33_8 w => ?_)
  have w : bSt G vwCl [qv] s [(H0, .inr (5, [.ref tA, .ref tJ, .ref gO, .ref dO, .ref bO, .ref sO, .ref qs, .ref qr, .int (nI jd), .int (nI snt), .int (nI td)])), (tA, .inr (4, [.ref oA, .int (nI 10), .int (nI nA)])), (oA, .inl (G.2.1, 14, .inl fA)), (tJ, .inr (4, [.ref oJ, .int (nI 1), .int (nI nJ)])), (oJ, .inl (G.2.1, 10, .inl fJ)), (bO, .inr (1, [.ref ql, .ref qe, .ref qn, .ref qt, .ref qc, .ref qd, .ref qf, .int (nI bn)])), (qc, .inl (G.2.1, 300, .inl bc)), (qd, .inl (G.2.1, 300, .inl bd)), (qf, .inl (G.2.1, 300, .inl bf)), (sO, .inr (3, [.ref qv, .ref qh])), (qv, .inl (G.2.1, 140, .inl u33_8))] _ _ := w
  have hu0 := hr33_8
  refine lv_aload_n hx hb dX5_value_36 rfl (lv_at hl 0 rfl) ?_
  refine b_get X E w 0 rfl rfl 5 (by decide) iX5 (by decide +kernel) rfl rfl dX5_value_37 ?_
  refine lv_iload_n hx hb dX5_value_40 rfl (lv_at hl 1 rfl) ?_
  refine lv_iload_n hx hb dX5_value_41 rfl (lv_at hl 2 rfl) ?_
  refine b_calli w (va_runS (As := [.int (nI a), .int (nI i)]) (rest := [.ref sO]) X (c_X5_slotOf l hl0 G _ (a := a) (i := i) ) (va_cwS 2 hts gX5_value_X5_slotOf rfl rfl rfl (by decide +kernel) ⟨Nat.le_of_ble_eq_true rfl, Nat.le_of_ble_eq_true rfl⟩) ⟨b_blind, (fun U9 hU9 hW9 => ⟨rfl, b_pre E Z w [] (by decide) rfl b_nil U9 hU9 hW9⟩)⟩ rfl rfl hl.1 rfl (lv_room (Nat.le_of_ble_eq_true rfl)) dX5_value_42 ⟨Nat.le_of_ble_eq_true rfl, Nat.le_of_ble_eq_true rfl⟩) b_nil [] (fun _ => rfl) rfl (fun r42_9 u42_9 H locs hr42_9 w => ?_)
  have w : bSt G vwCl [qv] s [(H0, .inr (5, [.ref tA, .ref tJ, .ref gO, .ref dO, .ref bO, .ref sO, .ref qs, .ref qr, .int (nI jd), .int (nI snt), .int (nI td)])), (tA, .inr (4, [.ref oA, .int (nI 10), .int (nI nA)])), (oA, .inl (G.2.1, 14, .inl fA)), (tJ, .inr (4, [.ref oJ, .int (nI 1), .int (nI nJ)])), (oJ, .inl (G.2.1, 10, .inl fJ)), (bO, .inr (1, [.ref ql, .ref qe, .ref qn, .ref qt, .ref qc, .ref qd, .ref qf, .int (nI bn)])), (qc, .inl (G.2.1, 300, .inl bc)), (qd, .inl (G.2.1, 300, .inl bd)), (qf, .inl (G.2.1, 300, .inl bf)), (sO, .inr (3, [.ref qv, .ref qh])), (qv, .inl (G.2.1, 140, .inl u33_8))] _ _ := w
  subst hr42_9
  refine b_calli w (va_runV (As := [.int (nI (10 * a + i))]) (rest := []) X (c_X3_valueAt l hl0 G _ (h := sO) (t0 := 10 * a + i) (qv := qv) (qh := qh) (v := u33_8) (ht := (by first | assumption | omega))) (cwV 1 hts gX5_value_X3_valueAt rfl rfl rfl (by decide +kernel) ⟨Nat.le_of_ble_eq_true rfl, Nat.le_of_ble_eq_true rfl⟩) ⟨b_blind, b_recv E w (ci := 3) (q0 := 9) rfl rfl, (fun U9 hU9 hW9 => ⟨rfl, b_pre E Z w [9, 10] (by decide) rfl b_nil U9 hU9 hW9⟩)⟩ rfl rfl hl.1 rfl (lv_room (Nat.le_of_ble_eq_true rfl)) dX5_value_45 ⟨Nat.le_of_ble_eq_true rfl, Nat.le_of_ble_eq_true rfl⟩) b_nil [] (fun _ => rfl) rfl (fun r45_10 u45_10 H locs hr45_10 w => ?_)
  have w : bSt G vwCl [qv] s [(H0, .inr (5, [.ref tA, .ref tJ, .ref gO, .ref dO, .ref bO, .ref sO, .ref qs, .ref qr, .int (nI jd), .int (nI snt), .int (nI td)])), (tA, .inr (4, [.ref oA, .int (nI 10), .int (nI nA)])), (oA, .inl (G.2.1, 14, .inl fA)), (tJ, .inr (4, [.ref oJ, .int (nI 1), .int (nI nJ)])), (oJ, .inl (G.2.1, 10, .inl fJ)), (bO, .inr (1, [.ref ql, .ref qe, .ref qn, .ref qt, .ref qc, .ref qd, .ref qf, .int (nI bn)])), (qc, .inl (G.2.1, 300, .inl bc)), (qd, .inl (G.2.1, 300, .inl bd)), (qf, .inl (G.2.1, 300, .inl bf)), (sO, .inr (3, [.ref qv, .ref qh])), (qv, .inl (G.2.1, 140, .inl u33_8))] _ _ := w
  subst hr45_10
  refine vx_ret ?_
  exact W.iret (v := u33_8 (10 * a + i)) hx hb hr (fun t9 ht9 hW9 => ⟨⟨u33_8 (10 * a + i), u33_8, rfl, ⟨h1, h2, by rw [ea, ei], by rw [ep]; exact hu0⟩, by show va_P G.1 vwCl _ t9.heap; rw [ht9]; exact b_cg (rfl) (w.1.sub (ws' := [(qv, .inl (G.2.1, 140, .inl u33_8))]) [10] rfl)⟩, w.2.1.F ht9⟩) w.2.1.2.2 dX5_value_48
set_option maxHeartbeats 4000000 in
set_option maxRecDepth 100000 in
theorem c_X5_hasFault (l : Launch) (hl0 : l.stackTraces = false) (G : bG) (sz : Nat) (H0 tA tJ gO dO bO sO qs qr jd snt td : Nat) (oA nA : Nat) (fA : Nat → Int32) (oJ nJ : Nat) (fJ : Nat → Int32) (ql qe qn qt qc qd qf bn : Nat) (lat : Nat → Int32) (bc : Nat → Int32) (bd : Nat → Int32) (bf : Nat → Int32) (qv qh : Nat) (v : Nat → Int32) (x y z : Int32) (hnA : nA ≤ 14) (hnJ : nJ ≤ 10) (hTA : TI fA nA) (hTJ : TI fJ nJ) (hbn : bn ≤ 300) (hbk : bOk nA nJ bn td bc bd) : vx_Met l yX5_hasFault wsX5_hasFault ({ frames := 7, cells := 1, slots := 6, locals := 113 }) (va_Pc [.ref H0, .int x, .int y, .int z] (bPre G vwCl bNW bSW sz [(H0, .inr (5, [.ref tA, .ref tJ, .ref gO, .ref dO, .ref bO, .ref sO, .ref qs, .ref qr, .int (nI jd), .int (nI snt), .int (nI td)])), (tA, .inr (4, [.ref oA, .int (nI 10), .int (nI nA)])), (oA, .inl (G.2.1, 14, .inl fA)), (tJ, .inr (4, [.ref oJ, .int (nI 1), .int (nI nJ)])), (oJ, .inl (G.2.1, 10, .inl fJ)), (bO, .inr (1, [.ref ql, .ref qe, .ref qn, .ref qt, .ref qc, .ref qd, .ref qf, .int (nI bn)])), (ql, .inl (G.2.1, 1680, .inl lat)), (qc, .inl (G.2.1, 300, .inl bc)), (qd, .inl (G.2.1, 300, .inl bd)), (qf, .inl (G.2.1, 300, .inl bf)), (sO, .inr (3, [.ref qv, .ref qh])), (qv, .inl (G.2.1, 140, .inl v))] [qv])) (va_Qi (fun (r : Int32) (u : Nat → Int32) => okC nA nJ x y z = true ∧ ((lat (cN x y z) = MIS ∧ r = nI 0) ∨ (¬ lat (cN x y z) = MIS ∧ (Fx (figs bc bd bf bn (cl z) (nI td)) fA nA fJ nJ u ∧ vOut nA nJ u) ∧ r = bI (iOS (sA fA nA u (cl x) (cl y)) (lat (cN x y z)) || iOS (sJ fJ nJ u (cl x) (cl y)) (lat (cN x y z)))))) (fun (u : Nat → Int32) (tS : State) => va_P G.1 vwCl [(qv, .inl (G.2.1, 140, .inl u))] tS.heap) (Aw [qv] sz)) (bX (fun E => E = xIO ∧ okC nA nJ x y z = false) sz) 1 6 (Aw [qv] sz) := by
  refine vx_ofW (cc := cX5_hasFault) (maxL := 6) (ret := (some .boolean)) (by decide) rfl ?_
  intro p e s m args below meth c s₁ B hml hxt hv
  obtain ⟨rfl, hsz, hP, hD, E, Z⟩ := hv
  have hts := atoms_spec (ws := wsX5_hasFault) B.pre
  have hown : s.vm.findClass RX5 = some m.cls := findClass_of_methodNamed B.named
  have X : CallFix p m c cX5_hasFault 6 s _ wsX5_hasFault RX5 := ⟨B.exec, B.bytes, hml, hown, hts⟩
  have hx := B.exec
  have hb := B.bytes
  have hr := B.returns
  have hlocks := B.notSynchronized
  subst hsz
  have w : bSt G vwCl [] s [(H0, .inr (5, [.ref tA, .ref tJ, .ref gO, .ref dO, .ref bO, .ref sO, .ref qs, .ref qr, .int (nI jd), .int (nI snt), .int (nI td)])), (tA, .inr (4, [.ref oA, .int (nI 10), .int (nI nA)])), (oA, .inl (G.2.1, 14, .inl fA)), (tJ, .inr (4, [.ref oJ, .int (nI 1), .int (nI nJ)])), (oJ, .inl (G.2.1, 10, .inl fJ)), (bO, .inr (1, [.ref ql, .ref qe, .ref qn, .ref qt, .ref qc, .ref qd, .ref qf, .int (nI bn)])), (ql, .inl (G.2.1, 1680, .inl lat)), (qc, .inl (G.2.1, 300, .inl bc)), (qd, .inl (G.2.1, 300, .inl bd)), (qf, .inl (G.2.1, 300, .inl bf)), (sO, .inr (3, [.ref qv, .ref qh])), (qv, .inl (G.2.1, 140, .inl v))] s.heap [] := ⟨hP, va_S.rf, hD⟩
  have Z0 : bZ [] s := ⟨Z.1.narrow (fun q h => h.elim (fun h => nomatch h) Or.inr), Z.2.narrow (fun q h => h.elim (fun h => nomatch h) Or.inr)⟩
  have iX1 : ∀ w ∈ wsX10, w ∈ wsX5_hasFault := by decide +kernel
  have iX5 : ∀ w ∈ wsX50, w ∈ wsX5_hasFault := by decide +kernel
  have hl := lv_entry ([.ref H0, .int x, .int y, .int z]) (n := 6) (Nat.le_of_ble_eq_true rfl)
  rw [lg_entry_eq]
  generalize (lg_sl ([.ref H0, .int x, .int y, .int z]) ++ List.replicate (6 - (lg_sl ([.ref H0, .int x, .int y, .int z])).length) Slot.unset).toArray = ls at hl ⊢
  have hl : lv_has ls 6 [(0, .ref H0), (1, .int x), (2, .int y), (3, .int z)] := hl
  refine lv_aload_n hx hb dX5_hasFault_0 rfl (lv_at hl 0 rfl) ?_
  refine b_get X E w 0 rfl rfl 4 (by decide) iX5 (by decide +kernel) rfl rfl dX5_hasFault_1 ?_
  refine b_getN (host := "Figurehouse") X E w 5 rfl rfl 0 (by decide) iX1 (by decide +kernel) rfl rfl dX5_hasFault_4 ?_
  refine lv_aload_n hx hb dX5_hasFault_7 rfl (lv_at hl 0 rfl) ?_
  refine lv_iload_n hx hb dX5_hasFault_8 rfl (lv_at hl 1 rfl) ?_
  refine lv_iload_n hx hb dX5_hasFault_9 rfl (lv_at hl 2 rfl) ?_
  refine lv_iload_n hx hb dX5_hasFault_10 rfl (lv_at hl 3 rfl) ?_
  refine b_xcalli w (vx_runV (As := [.int x, .int y, .int z]) (rest := [.ref ql]) X (c_X5_requireCell l hl0 G _ (H0 := H0) (x := x) (y := y) (z := z) (tA := tA) (tJ := tJ) (gO := gO) (dO := dO) (bO := bO) (sO := sO) (qs := qs) (qr := qr) (jd := jd) (snt := snt) (td := td) (oA := oA) (nA := nA) (oJ := oJ) (nJ := nJ) ) (cwV 3 hts gX5_hasFault_X5_requireCell rfl rfl rfl (by decide +kernel) ⟨Nat.le_of_ble_eq_true rfl, Nat.le_of_ble_eq_true rfl⟩) ⟨b_blind, b_recv E w (ci := 5) (q0 := 0) rfl rfl, (fun U9 hU9 hW9 => ⟨rfl, b_pre E Z0 w [0, 1, 3] (by decide) rfl b_nil U9 hU9 hW9⟩)⟩ rfl rfl hl.1 rfl (lv_room (Nat.le_of_ble_eq_true rfl)) dX5_hasFault_11 ⟨Nat.le_of_ble_eq_true rfl, Nat.le_of_ble_eq_true rfl⟩) b_nil [] (fun _ => rfl) rfl (fun E9 ce9 q9 H9 locs9 hex w9 hce hcv hcl => b_out hxt hlocks w9 (hex) hce hcv hcl (by decide) (by decide)) (fun r11_13 u11_13 H locs hr11_13 w => ?_)
  have w : bSt G vwCl [] s [(H0, .inr (5, [.ref tA, .ref tJ, .ref gO, .ref dO, .ref bO, .ref sO, .ref qs, .ref qr, .int (nI jd), .int (nI snt), .int (nI td)])), (tA, .inr (4, [.ref oA, .int (nI 10), .int (nI nA)])), (oA, .inl (G.2.1, 14, .inl fA)), (tJ, .inr (4, [.ref oJ, .int (nI 1), .int (nI nJ)])), (oJ, .inl (G.2.1, 10, .inl fJ)), (bO, .inr (1, [.ref ql, .ref qe, .ref qn, .ref qt, .ref qc, .ref qd, .ref qf, .int (nI bn)])), (ql, .inl (G.2.1, 1680, .inl lat)), (qc, .inl (G.2.1, 300, .inl bc)), (qd, .inl (G.2.1, 300, .inl bd)), (qf, .inl (G.2.1, 300, .inl bf)), (sO, .inr (3, [.ref qv, .ref qh])), (qv, .inl (G.2.1, 140, .inl v))] _ _ := w
  obtain ⟨ehr11_13, hr11_13⟩ := hr11_13
  subst ehr11_13
  have h1 := hr11_13
  obtain ⟨a, ha, i, hi, p0, hp, rfl, rfl, rfl⟩ := okC_yes (by omega) (by omega) hr11_13
  have eN := cN_nI ha hi hp hnA hnJ
  have ea : cl (nI a) = a := cl_nI (by omega)
  have ei : cl (nI i) = i := cl_nI (by omega)
  have ep : cl (nI p0) = p0 := cl_nI (by omega)
  refine b_tp (show cellI (nI a) (nI i) (nI p0) = nI (140 * p0 + (10 * a + i)) from cellI_nI a i p0) ?_
  refine b_iald X E w 6 rfl (140 * p0 + (10 * a + i)) rfl (by omega) (by first | decide | omega) dX5_hasFault_14 ?_
  refine lv_istore (lv' := [(4, .int (lat (140 * p0 + (10 * a + i)))), (0, .ref H0), (1, .int (nI a)), (2, .int (nI i)), (3, .int (nI p0))]) hx hb dX5_hasFault_15 hl (by decide) rfl (fun ls hl => ?_)
  refine lv_iload hx hb dX5_hasFault_17 (lv_at hl 0 rfl) ?_
  refine lv_ldc (v := MIS) hx hb hown (hts (.constant RX5 173 (-2000000001)) (by decide +kernel)) dX5_hasFault_19 ?_
  refine lv_icmp_ne (tgt := 26) hx hb dX5_hasFault_21 (by decide) (fun c_21_14 => ?_) (fun c_21_14 => ?_)
  · have c21 := c_21_14
    refine lv_aload_n hx hb dX5_hasFault_26 rfl (lv_at hl 1 rfl) ?_
    refine b_get X E w 0 rfl rfl 5 (by decide) iX5 (by decide +kernel) rfl rfl dX5_hasFault_27 ?_
    refine lv_aload_n hx hb dX5_hasFault_30 rfl (lv_at hl 1 rfl) ?_
    refine b_get X E w 0 rfl rfl 4 (by decide) iX5 (by decide +kernel) rfl rfl dX5_hasFault_31 ?_
    refine lv_iload_n hx hb dX5_hasFault_34 rfl (lv_at hl 4 rfl) ?_
    refine lv_aload_n hx hb dX5_hasFault_35 rfl (lv_at hl 1 rfl) ?_
    refine b_get X E w 0 rfl rfl 10 (by decide) iX5 (by decide +kernel) rfl rfl dX5_hasFault_36 ?_
    refine lv_aload_n hx hb dX5_hasFault_39 rfl (lv_at hl 1 rfl) ?_
    refine b_get X E w 0 rfl rfl 0 (by decide) iX5 (by decide +kernel) rfl rfl dX5_hasFault_40 ?_
    refine lv_aload_n hx hb dX5_hasFault_43 rfl (lv_at hl 1 rfl) ?_
    refine b_get X E w 0 rfl rfl 1 (by decide) iX5 (by decide +kernel) rfl rfl dX5_hasFault_44 ?_
    have w := b_wide [qv] b_nil w
    refine b_callv w (va_runV (As := [.ref bO, .int (nI p0), .int (nI td), .ref tA, .ref tJ]) (rest := []) X (c_X3_load l hl0 G _ (td := td) (h := sO) (bO := bO) (p0 := p0) (d := nI td) (tA := tA) (tJ := tJ) (qv := qv) (qh := qh) (v := v) (ql := ql) (qe := qe) (qn := qn) (qt := qt) (qc := qc) (qd := qd) (qf := qf) (bn := bn) (bc := bc) (bd := bd) (bf := bf) (oA := oA) (nA := nA) (fA := fA) (oJ := oJ) (nJ := nJ) (fJ := fJ) (hnA := (by first | assumption | omega)) (hnJ := (by first | assumption | omega)) (hTA := (by first | assumption | omega)) (hTJ := (by first | assumption | omega)) (hbn := (by first | assumption | omega)) (hp := (by first | assumption | omega)) (hbk := (by first | assumption | omega))) (cwV 5 hts gX5_hasFault_X3_load rfl rfl rfl (by decide +kernel) ⟨Nat.le_of_ble_eq_true rfl, Nat.le_of_ble_eq_true rfl⟩) ⟨b_blind, b_recv E w (ci := 3) (q0 := 10) rfl rfl, (fun U9 hU9 hW9 => ⟨rfl, b_pre E Z w [10, 11, 5, 7, 8, 9, 1, 2, 3, 4] (by decide) rfl (b_subA [0] rfl) U9 hU9 hW9⟩)⟩ rfl rfl hl.1 rfl (lv_room (Nat.le_of_ble_eq_true rfl)) dX5_hasFault_47 ⟨Nat.le_of_ble_eq_true rfl, Nat.le_of_ble_eq_true rfl⟩) (b_subA [0] rfl) [11] (fun _ => rfl) rfl (fun u47_15 H locs hr47_15 w => ?_)
    have w : bSt G vwCl [qv] s [(H0, .inr (5, [.ref tA, .ref tJ, .ref gO, .ref dO, .ref bO, .ref sO, .ref qs, .ref qr, .int (nI jd), .int (nI snt), .int (nI td)])), (tA, .inr (4, [.ref oA, .int (nI 10), .int (nI nA)])), (oA, .inl (G.2.1, 14, .inl fA)), (tJ, .inr (4, [.ref oJ, .int (nI 1), .int (nI nJ)])), (oJ, .inl (G.2.1, 10, .inl fJ)), (bO, .inr (1, [.ref ql, .ref qe, .ref qn, .ref qt, .ref qc, .ref qd, .ref qf, .int (nI bn)])), (ql, .inl (G.2.1, 1680, .inl lat)), (qc, .inl (G.2.1, 300, .inl bc)), (qd, .inl (G.2.1, 300, .inl bd)), (qf, .inl (G.2.1, 300, .inl bf)), (sO, .inr (3, [.ref qv, .ref qh])), (qv, .inl (G.2.1, 140, .inl u47_15))] _ _ := w
    have hu0 := hr47_15
    refine lv_iload_n hx hb dX5_hasFault_50 rfl (lv_at hl 2 rfl) ?_
    refine lv_iload_n hx hb dX5_hasFault_51 rfl (lv_at hl 3 rfl) ?_
    refine b_calli w (va_runS (As := [.int (nI a), .int (nI i)]) (rest := []) X (c_X5_slotOf l hl0 G _ (a := a) (i := i) ) (va_cwS 2 hts gX5_hasFault_X5_slotOf rfl rfl rfl (by decide +kernel) ⟨Nat.le_of_ble_eq_true rfl, Nat.le_of_ble_eq_true rfl⟩) ⟨b_blind, (fun U9 hU9 hW9 => ⟨rfl, b_pre E Z w [] (by decide) rfl b_nil U9 hU9 hW9⟩)⟩ rfl rfl hl.1 rfl (lv_room (Nat.le_of_ble_eq_true rfl)) dX5_hasFault_52 ⟨Nat.le_of_ble_eq_true rfl, Nat.le_of_ble_eq_true rfl⟩) b_nil [] (fun _ => rfl) rfl (fun r52_16 u52_16 H locs hr52_16 w => ?_)
    have w : bSt G vwCl [qv] s [(H0, .inr (5, [.ref tA, .ref tJ, .ref gO, .ref dO, .ref bO, .ref sO, .ref qs, .ref qr, .int (nI jd), .int (nI snt), .int (nI td)])), (tA, .inr (4, [.ref oA, .int (nI 10), .int (nI nA)])), (oA, .inl (G.2.1, 14, .inl fA)), (tJ, .inr (4, [.ref oJ, .int (nI 1), .int (nI nJ)])), (oJ, .inl (G.2.1, 10, .inl fJ)), (bO, .inr (1, [.ref ql, .ref qe, .ref qn, .ref qt, .ref qc, .ref qd, .ref qf, .int (nI bn)])), (ql, .inl (G.2.1, 1680, .inl lat)), (qc, .inl (G.2.1, 300, .inl bc)), (qd, .inl (G.2.1, 300, .inl bd)), (qf, .inl (G.2.1, 300, .inl bf)), (sO, .inr (3, [.ref qv, .ref qh])), (qv, .inl (G.2.1, 140, .inl u47_15))] _ _ := w
    subst hr52_16
    refine lv_istore (lv' := [(5, .int (nI (10 * a + i))), (4, .int (lat (140 * p0 + (10 * a + i)))), (0, .ref H0), (1, .int (nI a)), (2, .int (nI i)), (3, .int (nI p0))]) hx hb dX5_hasFault_55 hl (by decide) rfl (fun ls hl => ?_)
    refine lv_aload_n hx hb dX5_hasFault_57 rfl (lv_at hl 2 rfl) ?_
    refine b_get X E w 0 rfl rfl 5 (by decide) iX5 (by decide +kernel) rfl rfl dX5_hasFault_58 ?_
    refine lv_aload_n hx hb dX5_hasFault_61 rfl (lv_at hl 2 rfl) ?_
    refine b_get X E w 0 rfl rfl 0 (by decide) iX5 (by decide +kernel) rfl rfl dX5_hasFault_62 ?_
    refine lv_iload_n hx hb dX5_hasFault_65 rfl (lv_at hl 3 rfl) ?_
    refine lv_iload hx hb dX5_hasFault_66 (lv_at hl 0 rfl) ?_
    refine b_calli w (va_runV (As := [.ref tA, .int (nI a), .int (nI (10 * a + i))]) (rest := []) X (c_X3_sumRightIn l hl0 G _ (h := sO) (th := tA) (hd := a) (hs := 10 * a + i) (qv := qv) (qh := qh) (v := u47_15) (o := oA) (str := 10) (n := nA) (cap := 14) (f := fA) (hh := (by first | assumption | omega)) (hn := (by first | assumption | omega)) (hc := (by first | assumption | omega)) (hT := (by first | assumption | omega)) (hsl := (fun k h1 h2 => by omega))) (cwV 3 hts gX5_hasFault_X3_sumRightIn rfl rfl rfl (by decide +kernel) ⟨Nat.le_of_ble_eq_true rfl, Nat.le_of_ble_eq_true rfl⟩) ⟨b_blind, b_recv E w (ci := 3) (q0 := 10) rfl rfl, (fun U9 hU9 hW9 => ⟨rfl, b_pre E Z w [10, 11, 1, 2] (by decide) rfl b_nil U9 hU9 hW9⟩)⟩ rfl rfl hl.1 rfl (lv_room (Nat.le_of_ble_eq_true rfl)) dX5_hasFault_68 ⟨Nat.le_of_ble_eq_true rfl, Nat.le_of_ble_eq_true rfl⟩) b_nil [] (fun _ => rfl) rfl (fun r68_17 u68_17 H locs hr68_17 w => ?_)
    have w : bSt G vwCl [qv] s [(H0, .inr (5, [.ref tA, .ref tJ, .ref gO, .ref dO, .ref bO, .ref sO, .ref qs, .ref qr, .int (nI jd), .int (nI snt), .int (nI td)])), (tA, .inr (4, [.ref oA, .int (nI 10), .int (nI nA)])), (oA, .inl (G.2.1, 14, .inl fA)), (tJ, .inr (4, [.ref oJ, .int (nI 1), .int (nI nJ)])), (oJ, .inl (G.2.1, 10, .inl fJ)), (bO, .inr (1, [.ref ql, .ref qe, .ref qn, .ref qt, .ref qc, .ref qd, .ref qf, .int (nI bn)])), (ql, .inl (G.2.1, 1680, .inl lat)), (qc, .inl (G.2.1, 300, .inl bc)), (qd, .inl (G.2.1, 300, .inl bd)), (qf, .inl (G.2.1, 300, .inl bf)), (sO, .inr (3, [.ref qv, .ref qh])), (qv, .inl (G.2.1, 140, .inl u47_15))] _ _ := w
    subst hr68_17
    refine b_tp (show rSum (fun k => decide (fA k = nI a)) (fun k => u47_15 ((10 * a + i) + 10 * (k - a))) nA = sA fA nA u47_15 a i from sumA_eq hTA (by omega) ha) ?_
    refine lv_iload hx hb dX5_hasFault_71 (lv_at hl 1 rfl) ?_
    refine b_calli w (va_runS (As := [.int (sA fA nA u47_15 a i), .int (lat (140 * p0 + (10 * a + i)))]) (rest := []) X (c_X5_isOtherSum l hl0 G _ (x := sA fA nA u47_15 a i) (y := lat (140 * p0 + (10 * a + i))) ) (va_cwS 2 hts gX5_hasFault_X5_isOtherSum rfl rfl rfl (by decide +kernel) ⟨Nat.le_of_ble_eq_true rfl, Nat.le_of_ble_eq_true rfl⟩) ⟨b_blind, (fun U9 hU9 hW9 => ⟨rfl, b_pre E Z w [] (by decide) rfl b_nil U9 hU9 hW9⟩)⟩ rfl rfl hl.1 rfl (lv_room (Nat.le_of_ble_eq_true rfl)) dX5_hasFault_73 ⟨Nat.le_of_ble_eq_true rfl, Nat.le_of_ble_eq_true rfl⟩) b_nil [] (fun _ => rfl) rfl (fun r73_18 u73_18 H locs hr73_18 w => ?_)
    have w : bSt G vwCl [qv] s [(H0, .inr (5, [.ref tA, .ref tJ, .ref gO, .ref dO, .ref bO, .ref sO, .ref qs, .ref qr, .int (nI jd), .int (nI snt), .int (nI td)])), (tA, .inr (4, [.ref oA, .int (nI 10), .int (nI nA)])), (oA, .inl (G.2.1, 14, .inl fA)), (tJ, .inr (4, [.ref oJ, .int (nI 1), .int (nI nJ)])), (oJ, .inl (G.2.1, 10, .inl fJ)), (bO, .inr (1, [.ref ql, .ref qe, .ref qn, .ref qt, .ref qc, .ref qd, .ref qf, .int (nI bn)])), (ql, .inl (G.2.1, 1680, .inl lat)), (qc, .inl (G.2.1, 300, .inl bc)), (qd, .inl (G.2.1, 300, .inl bd)), (qf, .inl (G.2.1, 300, .inl bf)), (sO, .inr (3, [.ref qv, .ref qh])), (qv, .inl (G.2.1, 140, .inl u47_15))] _ _ := w
    subst hr73_18
    refine lv_if_ne (tgt := 101) hx hb dX5_hasFault_76 (by decide) (fun c_76_19 => ?_) (fun c_76_19 => ?_)
    · have q_76_20 : (iOS (sA fA nA u47_15 a i) (lat (140 * p0 + (10 * a + i)))) = true := bI_n0.mp c_76_19
      refine lv_iconst (v := nI 1) hx hb dX5_hasFault_101 (by decide) ?_
      refine lv_goto (tgt := 106) hx hb dX5_hasFault_102 (by decide) ?_
      refine vx_ret ?_
      exact W.zret (v := nI 1) hx hb hr rfl (fun t9 ht9 hW9 => ⟨⟨nI 1, u47_15, rfl, ⟨h1, Or.inr ⟨by rw [eN]; exact c21, by rw [ep]; exact hu0, by rw [eN, ea, ei]; simp [c_21_14, q_76_20, bI_t, bI_f]; rfl⟩⟩, by show va_P G.1 vwCl _ t9.heap; rw [ht9]; exact b_cg (rfl) (w.1.sub (ws' := [(qv, .inl (G.2.1, 140, .inl u47_15))]) [11] rfl)⟩, w.2.1.F ht9⟩) w.2.1.2.2 dX5_hasFault_106
    · have q_76_20 : (iOS (sA fA nA u47_15 a i) (lat (140 * p0 + (10 * a + i)))) = false := bI_0.mp c_76_19
      refine lv_aload_n hx hb dX5_hasFault_79 rfl (lv_at hl 2 rfl) ?_
      refine b_get X E w 0 rfl rfl 5 (by decide) iX5 (by decide +kernel) rfl rfl dX5_hasFault_80 ?_
      refine lv_aload_n hx hb dX5_hasFault_83 rfl (lv_at hl 2 rfl) ?_
      refine b_get X E w 0 rfl rfl 1 (by decide) iX5 (by decide +kernel) rfl rfl dX5_hasFault_84 ?_
      refine lv_iload_n hx hb dX5_hasFault_87 rfl (lv_at hl 4 rfl) ?_
      refine lv_iload hx hb dX5_hasFault_88 (lv_at hl 0 rfl) ?_
      refine b_calli w (va_runV (As := [.ref tJ, .int (nI i), .int (nI (10 * a + i))]) (rest := []) X (c_X3_sumRightIn l hl0 G _ (h := sO) (th := tJ) (hd := i) (hs := 10 * a + i) (qv := qv) (qh := qh) (v := u47_15) (o := oJ) (str := 1) (n := nJ) (cap := 10) (f := fJ) (hh := (by first | assumption | omega)) (hn := (by first | assumption | omega)) (hc := (by first | assumption | omega)) (hT := (by first | assumption | omega)) (hsl := (fun k h1 h2 => by omega))) (cwV 3 hts gX5_hasFault_X3_sumRightIn rfl rfl rfl (by decide +kernel) ⟨Nat.le_of_ble_eq_true rfl, Nat.le_of_ble_eq_true rfl⟩) ⟨b_blind, b_recv E w (ci := 3) (q0 := 10) rfl rfl, (fun U9 hU9 hW9 => ⟨rfl, b_pre E Z w [10, 11, 3, 4] (by decide) rfl b_nil U9 hU9 hW9⟩)⟩ rfl rfl hl.1 rfl (lv_room (Nat.le_of_ble_eq_true rfl)) dX5_hasFault_90 ⟨Nat.le_of_ble_eq_true rfl, Nat.le_of_ble_eq_true rfl⟩) b_nil [] (fun _ => rfl) rfl (fun r90_21 u90_21 H locs hr90_21 w => ?_)
      have w : bSt G vwCl [qv] s [(H0, .inr (5, [.ref tA, .ref tJ, .ref gO, .ref dO, .ref bO, .ref sO, .ref qs, .ref qr, .int (nI jd), .int (nI snt), .int (nI td)])), (tA, .inr (4, [.ref oA, .int (nI 10), .int (nI nA)])), (oA, .inl (G.2.1, 14, .inl fA)), (tJ, .inr (4, [.ref oJ, .int (nI 1), .int (nI nJ)])), (oJ, .inl (G.2.1, 10, .inl fJ)), (bO, .inr (1, [.ref ql, .ref qe, .ref qn, .ref qt, .ref qc, .ref qd, .ref qf, .int (nI bn)])), (ql, .inl (G.2.1, 1680, .inl lat)), (qc, .inl (G.2.1, 300, .inl bc)), (qd, .inl (G.2.1, 300, .inl bd)), (qf, .inl (G.2.1, 300, .inl bf)), (sO, .inr (3, [.ref qv, .ref qh])), (qv, .inl (G.2.1, 140, .inl u47_15))] _ _ := w
      subst hr90_21
      refine b_tp (show rSum (fun k => decide (fJ k = nI i)) (fun k => u47_15 ((10 * a + i) + 1 * (k - i))) nJ = sJ fJ nJ u47_15 a i from sumJ_eq hTJ (by omega) hi) ?_
      refine lv_iload hx hb dX5_hasFault_93 (lv_at hl 1 rfl) ?_
      refine b_calli w (va_runS (As := [.int (sJ fJ nJ u47_15 a i), .int (lat (140 * p0 + (10 * a + i)))]) (rest := []) X (c_X5_isOtherSum l hl0 G _ (x := sJ fJ nJ u47_15 a i) (y := lat (140 * p0 + (10 * a + i))) ) (va_cwS 2 hts gX5_hasFault_X5_isOtherSum rfl rfl rfl (by decide +kernel) ⟨Nat.le_of_ble_eq_true rfl, Nat.le_of_ble_eq_true rfl⟩) ⟨b_blind, (fun U9 hU9 hW9 => ⟨rfl, b_pre E Z w [] (by decide) rfl b_nil U9 hU9 hW9⟩)⟩ rfl rfl hl.1 rfl (lv_room (Nat.le_of_ble_eq_true rfl)) dX5_hasFault_95 ⟨Nat.le_of_ble_eq_true rfl, Nat.le_of_ble_eq_true rfl⟩) b_nil [] (fun _ => rfl) rfl (fun r95_22 u95_22 H locs hr95_22 w => ?_)
      have w : bSt G vwCl [qv] s [(H0, .inr (5, [.ref tA, .ref tJ, .ref gO, .ref dO, .ref bO, .ref sO, .ref qs, .ref qr, .int (nI jd), .int (nI snt), .int (nI td)])), (tA, .inr (4, [.ref oA, .int (nI 10), .int (nI nA)])), (oA, .inl (G.2.1, 14, .inl fA)), (tJ, .inr (4, [.ref oJ, .int (nI 1), .int (nI nJ)])), (oJ, .inl (G.2.1, 10, .inl fJ)), (bO, .inr (1, [.ref ql, .ref qe, .ref qn, .ref qt, .ref qc, .ref qd, .ref qf, .int (nI bn)])), (ql, .inl (G.2.1, 1680, .inl lat)), (qc, .inl (G.2.1, 300, .inl bc)), (qd, .inl (G.2.1, 300, .inl bd)), (qf, .inl (G.2.1, 300, .inl bf)), (sO, .inr (3, [.ref qv, .ref qh])), (qv, .inl (G.2.1, 140, .inl u47_15))] _ _ := w
      subst hr95_22
      refine lv_if_eq (tgt := 105) hx hb dX5_hasFault_98 (by decide) (fun c_98_23 => ?_) (fun c_98_23 => ?_)
      · have q_98_24 : (iOS (sJ fJ nJ u47_15 a i) (lat (140 * p0 + (10 * a + i)))) = false := bI_0.mp c_98_23
        refine lv_iconst (v := nI 0) hx hb dX5_hasFault_105 (by decide) ?_
        refine vx_ret ?_
        exact W.zret (v := nI 0) hx hb hr rfl (fun t9 ht9 hW9 => ⟨⟨nI 0, u47_15, rfl, ⟨h1, Or.inr ⟨by rw [eN]; exact c21, by rw [ep]; exact hu0, by rw [eN, ea, ei]; simp [c_21_14, q_76_20, q_98_24, bI_t, bI_f]; rfl⟩⟩, by show va_P G.1 vwCl _ t9.heap; rw [ht9]; exact b_cg (rfl) (w.1.sub (ws' := [(qv, .inl (G.2.1, 140, .inl u47_15))]) [11] rfl)⟩, w.2.1.F ht9⟩) w.2.1.2.2 dX5_hasFault_106
      · have q_98_24 : (iOS (sJ fJ nJ u47_15 a i) (lat (140 * p0 + (10 * a + i)))) = true := bI_n0.mp c_98_23
        refine lv_iconst (v := nI 1) hx hb dX5_hasFault_101 (by decide) ?_
        refine lv_goto (tgt := 106) hx hb dX5_hasFault_102 (by decide) ?_
        refine vx_ret ?_
        exact W.zret (v := nI 1) hx hb hr rfl (fun t9 ht9 hW9 => ⟨⟨nI 1, u47_15, rfl, ⟨h1, Or.inr ⟨by rw [eN]; exact c21, by rw [ep]; exact hu0, by rw [eN, ea, ei]; simp [c_21_14, q_76_20, q_98_24, bI_t, bI_f]; rfl⟩⟩, by show va_P G.1 vwCl _ t9.heap; rw [ht9]; exact b_cg (rfl) (w.1.sub (ws' := [(qv, .inl (G.2.1, 140, .inl u47_15))]) [11] rfl)⟩, w.2.1.F ht9⟩) w.2.1.2.2 dX5_hasFault_106
  · have c21 := c_21_14
    refine lv_iconst (v := nI 0) hx hb dX5_hasFault_24 (by decide) ?_
    have w := b_wide [qv] b_nil w
    refine vx_ret ?_
    exact W.zret (v := nI 0) hx hb hr rfl (fun t9 ht9 hW9 => ⟨⟨nI 0, v, rfl, ⟨h1, Or.inl ⟨by rw [eN]; exact c21, rfl⟩⟩, by show va_P G.1 vwCl _ t9.heap; rw [ht9]; exact b_cg (rfl) (w.1.sub (ws' := [(qv, .inl (G.2.1, 140, .inl v))]) [11] rfl)⟩, w.2.1.F ht9⟩) w.2.1.2.2 dX5_hasFault_25
set_option maxHeartbeats 4000000 in
set_option maxRecDepth 100000 in
theorem c_X5_shown (l : Launch) (hl0 : l.stackTraces = false) (G : bG) (sz : Nat) (H0 tA tJ gO dO bO sO qs qr jd snt td : Nat) (oA nA : Nat) (fA : Nat → Int32) (oJ nJ : Nat) (fJ : Nat → Int32) (ql qe qn qt qc qd qf bn : Nat) (bc : Nat → Int32) (bd : Nat → Int32) (bf : Nat → Int32) (qv qh : Nat) (v : Nat → Int32) (hid : Nat → Bool) (sc : Nat → Bool) (x y z : Int32) (hnA : nA ≤ 14) (hnJ : nJ ≤ 10) (hTA : TI fA nA) (hTJ : TI fJ nJ) (hbn : bn ≤ 300) (hbk : bOk nA nJ bn td bc bd) : vx_Met l yX5_shown wsX5_shown ({ frames := 7, cells := 1, slots := 6, locals := 149 }) (va_Pc [.ref H0, .int x, .int y, .int z] (bPre G vwCl bNW bSW sz [(H0, .inr (5, [.ref tA, .ref tJ, .ref gO, .ref dO, .ref bO, .ref sO, .ref qs, .ref qr, .int (nI jd), .int (nI snt), .int (nI td)])), (tA, .inr (4, [.ref oA, .int (nI 10), .int (nI nA)])), (oA, .inl (G.2.1, 14, .inl fA)), (tJ, .inr (4, [.ref oJ, .int (nI 1), .int (nI nJ)])), (oJ, .inl (G.2.1, 10, .inl fJ)), (bO, .inr (1, [.ref ql, .ref qe, .ref qn, .ref qt, .ref qc, .ref qd, .ref qf, .int (nI bn)])), (qc, .inl (G.2.1, 300, .inl bc)), (qd, .inl (G.2.1, 300, .inl bd)), (qf, .inl (G.2.1, 300, .inl bf)), (sO, .inr (3, [.ref qv, .ref qh])), (qv, .inl (G.2.1, 140, .inl v)), (qh, .inl (G.2.2.1, 140, .inl (zB hid))), (qs, .inl (G.2.2.1, 1680, .inl (zB sc)))] [qv, qh])) (va_Qi (fun (r : Int32) (u : Nat → Int32) => okC nA nJ x y z = true ∧ (Fx (figs bc bd bf bn (cl z) (nI td)) fA nA fJ nJ u ∧ vOut nA nJ u) ∧ r = if hdn fA nA fJ nJ sc (cl z) u hid (10 * cl x + cl y) = true then HID else u (10 * cl x + cl y)) (fun (u : Nat → Int32) (tS : State) => va_P G.1 vwCl [(qv, .inl (G.2.1, 140, .inl u)), (qh, .inl (G.2.2.1, 140, .inl (zB (hdn fA nA fJ nJ sc (cl z) u hid))))] tS.heap) (Aw [qv, qh] sz)) (bX (fun E => E = xIO ∧ okC nA nJ x y z = false) sz) 1 6 (Aw [qv, qh] sz) := by
  refine vx_ofW (cc := cX5_shown) (maxL := 5) (ret := (some .int)) (by decide) rfl ?_
  intro p e s m args below meth c s₁ B hml hxt hv
  obtain ⟨rfl, hsz, hP, hD, E, Z⟩ := hv
  have hts := atoms_spec (ws := wsX5_shown) B.pre
  have hown : s.vm.findClass RX5 = some m.cls := findClass_of_methodNamed B.named
  have X : CallFix p m c cX5_shown 5 s _ wsX5_shown RX5 := ⟨B.exec, B.bytes, hml, hown, hts⟩
  have hx := B.exec
  have hb := B.bytes
  have hr := B.returns
  have hlocks := B.notSynchronized
  subst hsz
  have w : bSt G vwCl [] s [(H0, .inr (5, [.ref tA, .ref tJ, .ref gO, .ref dO, .ref bO, .ref sO, .ref qs, .ref qr, .int (nI jd), .int (nI snt), .int (nI td)])), (tA, .inr (4, [.ref oA, .int (nI 10), .int (nI nA)])), (oA, .inl (G.2.1, 14, .inl fA)), (tJ, .inr (4, [.ref oJ, .int (nI 1), .int (nI nJ)])), (oJ, .inl (G.2.1, 10, .inl fJ)), (bO, .inr (1, [.ref ql, .ref qe, .ref qn, .ref qt, .ref qc, .ref qd, .ref qf, .int (nI bn)])), (qc, .inl (G.2.1, 300, .inl bc)), (qd, .inl (G.2.1, 300, .inl bd)), (qf, .inl (G.2.1, 300, .inl bf)), (sO, .inr (3, [.ref qv, .ref qh])), (qv, .inl (G.2.1, 140, .inl v)), (qh, .inl (G.2.2.1, 140, .inl (zB hid))), (qs, .inl (G.2.2.1, 1680, .inl (zB sc)))] s.heap [] := ⟨hP, va_S.rf, hD⟩
  have Z0 : bZ [] s := ⟨Z.1.narrow (fun q h => h.elim (fun h => nomatch h) Or.inr), Z.2.narrow (fun q h => h.elim (fun h => nomatch h) Or.inr)⟩
  have iX5 : ∀ w ∈ wsX50, w ∈ wsX5_shown := by decide +kernel
  have hl := lv_entry ([.ref H0, .int x, .int y, .int z]) (n := 5) (Nat.le_of_ble_eq_true rfl)
  rw [lg_entry_eq]
  generalize (lg_sl ([.ref H0, .int x, .int y, .int z]) ++ List.replicate (5 - (lg_sl ([.ref H0, .int x, .int y, .int z])).length) Slot.unset).toArray = ls at hl ⊢
  have hl : lv_has ls 5 [(0, .ref H0), (1, .int x), (2, .int y), (3, .int z)] := hl
  refine lv_aload_n hx hb dX5_shown_0 rfl (lv_at hl 0 rfl) ?_
  refine lv_iload_n hx hb dX5_shown_1 rfl (lv_at hl 1 rfl) ?_
  refine lv_iload_n hx hb dX5_shown_2 rfl (lv_at hl 2 rfl) ?_
  refine lv_iload_n hx hb dX5_shown_3 rfl (lv_at hl 3 rfl) ?_
  refine b_xcalli w (vx_runV (As := [.int x, .int y, .int z]) (rest := []) X (c_X5_requireCell l hl0 G _ (H0 := H0) (x := x) (y := y) (z := z) (tA := tA) (tJ := tJ) (gO := gO) (dO := dO) (bO := bO) (sO := sO) (qs := qs) (qr := qr) (jd := jd) (snt := snt) (td := td) (oA := oA) (nA := nA) (oJ := oJ) (nJ := nJ) ) (cwV 3 hts gX5_shown_X5_requireCell rfl rfl rfl (by decide +kernel) ⟨Nat.le_of_ble_eq_true rfl, Nat.le_of_ble_eq_true rfl⟩) ⟨b_blind, b_recv E w (ci := 5) (q0 := 0) rfl rfl, (fun U9 hU9 hW9 => ⟨rfl, b_pre E Z0 w [0, 1, 3] (by decide) rfl b_nil U9 hU9 hW9⟩)⟩ rfl rfl hl.1 rfl (lv_room (Nat.le_of_ble_eq_true rfl)) dX5_shown_4 ⟨Nat.le_of_ble_eq_true rfl, Nat.le_of_ble_eq_true rfl⟩) b_nil [] (fun _ => rfl) rfl (fun E9 ce9 q9 H9 locs9 hex w9 hce hcv hcl => b_out hxt hlocks w9 (hex) hce hcv hcl (by decide) (by decide)) (fun r4_8 u4_8 H locs hr4_8 w => ?_)
  have w : bSt G vwCl [] s [(H0, .inr (5, [.ref tA, .ref tJ, .ref gO, .ref dO, .ref bO, .ref sO, .ref qs, .ref qr, .int (nI jd), .int (nI snt), .int (nI td)])), (tA, .inr (4, [.ref oA, .int (nI 10), .int (nI nA)])), (oA, .inl (G.2.1, 14, .inl fA)), (tJ, .inr (4, [.ref oJ, .int (nI 1), .int (nI nJ)])), (oJ, .inl (G.2.1, 10, .inl fJ)), (bO, .inr (1, [.ref ql, .ref qe, .ref qn, .ref qt, .ref qc, .ref qd, .ref qf, .int (nI bn)])), (qc, .inl (G.2.1, 300, .inl bc)), (qd, .inl (G.2.1, 300, .inl bd)), (qf, .inl (G.2.1, 300, .inl bf)), (sO, .inr (3, [.ref qv, .ref qh])), (qv, .inl (G.2.1, 140, .inl v)), (qh, .inl (G.2.2.1, 140, .inl (zB hid))), (qs, .inl (G.2.2.1, 1680, .inl (zB sc)))] _ _ := w
  obtain ⟨ehr4_8, hr4_8⟩ := hr4_8
  subst ehr4_8
  have h1 := hr4_8
  obtain ⟨a, ha, i, hi, p0, hp, rfl, rfl, rfl⟩ := okC_yes (by omega) (by omega) hr4_8
  have eN := cN_nI ha hi hp hnA hnJ
  have ea : cl (nI a) = a := cl_nI (by omega)
  have ei : cl (nI i) = i := cl_nI (by omega)
  have ep : cl (nI p0) = p0 := cl_nI (by omega)
  refine b_tp (show cellI (nI a) (nI i) (nI p0) = nI (140 * p0 + (10 * a + i)) from cellI_nI a i p0) ?_
  refine lv_pop hx hb dX5_shown_7 rfl ?_
  refine lv_aload_n hx hb dX5_shown_8 rfl (lv_at hl 0 rfl) ?_
  refine lv_iload_n hx hb dX5_shown_9 rfl (lv_at hl 3 rfl) ?_
  have w := b_wide [qv, qh] b_nil w
  refine b_callv w (va_runV (As := [.int (nI p0)]) (rest := []) X (c_X5_loadHidden l hl0 G _ (H0 := H0) (p0 := p0) (tA := tA) (tJ := tJ) (gO := gO) (dO := dO) (bO := bO) (sO := sO) (qs := qs) (qr := qr) (jd := jd) (snt := snt) (td := td) (oA := oA) (nA := nA) (fA := fA) (oJ := oJ) (nJ := nJ) (fJ := fJ) (ql := ql) (qe := qe) (qn := qn) (qt := qt) (qc := qc) (qd := qd) (qf := qf) (bn := bn) (bc := bc) (bd := bd) (bf := bf) (qv := qv) (qh := qh) (v := v) (hid := hid) (sc := sc) (hnA := (by first | assumption | omega)) (hnJ := (by first | assumption | omega)) (hTA := (by first | assumption | omega)) (hTJ := (by first | assumption | omega)) (hbn := (by first | assumption | omega)) (hbk := (by first | assumption | omega)) (hp := (by first | assumption | omega))) (cwV 1 hts gX5_shown_X5_loadHidden rfl rfl rfl (by decide +kernel) ⟨Nat.le_of_ble_eq_true rfl, Nat.le_of_ble_eq_true rfl⟩) ⟨b_blind, b_recv E w (ci := 5) (q0 := 0) rfl rfl, (fun U9 hU9 hW9 => ⟨rfl, b_pre E Z w [0, 1, 2, 3, 4, 5, 6, 7, 8, 9, 10, 11, 12] (by decide) rfl (b_subA [0, 1] rfl) U9 hU9 hW9⟩)⟩ rfl rfl hl.1 rfl (lv_room (Nat.le_of_ble_eq_true rfl)) dX5_shown_10 ⟨Nat.le_of_ble_eq_true rfl, Nat.le_of_ble_eq_true rfl⟩) (b_subA [0, 1] rfl) [10, 11] (fun _ => rfl) rfl (fun u10_9 H locs hr10_9 w => ?_)
  have w : bSt G vwCl [qv, qh] s [(H0, .inr (5, [.ref tA, .ref tJ, .ref gO, .ref dO, .ref bO, .ref sO, .ref qs, .ref qr, .int (nI jd), .int (nI snt), .int (nI td)])), (tA, .inr (4, [.ref oA, .int (nI 10), .int (nI nA)])), (oA, .inl (G.2.1, 14, .inl fA)), (tJ, .inr (4, [.ref oJ, .int (nI 1), .int (nI nJ)])), (oJ, .inl (G.2.1, 10, .inl fJ)), (bO, .inr (1, [.ref ql, .ref qe, .ref qn, .ref qt, .ref qc, .ref qd, .ref qf, .int (nI bn)])), (qc, .inl (G.2.1, 300, .inl bc)), (qd, .inl (G.2.1, 300, .inl bd)), (qf, .inl (G.2.1, 300, .inl bf)), (sO, .inr (3, [.ref qv, .ref qh])), (qv, .inl (G.2.1, 140, .inl u10_9)), (qh, .inl (G.2.2.1, 140, .inl (zB (hdn fA nA fJ nJ sc p0 u10_9 hid)))), (qs, .inl (G.2.2.1, 1680, .inl (zB sc)))] _ _ := w
  have hu0 := hr10_9
  refine lv_iload_n hx hb dX5_shown_13 rfl (lv_at hl 1 rfl) ?_
  refine lv_iload_n hx hb dX5_shown_14 rfl (lv_at hl 2 rfl) ?_
  refine b_calli w (va_runS (As := [.int (nI a), .int (nI i)]) (rest := []) X (c_X5_slotOf l hl0 G _ (a := a) (i := i) ) (va_cwS 2 hts gX5_shown_X5_slotOf rfl rfl rfl (by decide +kernel) ⟨Nat.le_of_ble_eq_true rfl, Nat.le_of_ble_eq_true rfl⟩) ⟨b_blind, (fun U9 hU9 hW9 => ⟨rfl, b_pre E Z w [] (by decide) rfl b_nil U9 hU9 hW9⟩)⟩ rfl rfl hl.1 rfl (lv_room (Nat.le_of_ble_eq_true rfl)) dX5_shown_15 ⟨Nat.le_of_ble_eq_true rfl, Nat.le_of_ble_eq_true rfl⟩) b_nil [] (fun _ => rfl) rfl (fun r15_10 u15_10 H locs hr15_10 w => ?_)
  have w : bSt G vwCl [qv, qh] s [(H0, .inr (5, [.ref tA, .ref tJ, .ref gO, .ref dO, .ref bO, .ref sO, .ref qs, .ref qr, .int (nI jd), .int (nI snt), .int (nI td)])), (tA, .inr (4, [.ref oA, .int (nI 10), .int (nI nA)])), (oA, .inl (G.2.1, 14, .inl fA)), (tJ, .inr (4, [.ref oJ, .int (nI 1), .int (nI nJ)])), (oJ, .inl (G.2.1, 10, .inl fJ)), (bO, .inr (1, [.ref ql, .ref qe, .ref qn, .ref qt, .ref qc, .ref qd, .ref qf, .int (nI bn)])), (qc, .inl (G.2.1, 300, .inl bc)), (qd, .inl (G.2.1, 300, .inl bd)), (qf, .inl (G.2.1, 300, .inl bf)), (sO, .inr (3, [.ref qv, .ref qh])), (qv, .inl (G.2.1, 140, .inl u10_9)), (qh, .inl (G.2.2.1, 140, .inl (zB (hdn fA nA fJ nJ sc p0 u10_9 hid)))), (qs, .inl (G.2.2.1, 1680, .inl (zB sc)))] _ _ := w
  subst hr15_10
  refine lv_istore (lv' := [(4, .int (nI (10 * a + i))), (0, .ref H0), (1, .int (nI a)), (2, .int (nI i)), (3, .int (nI p0))]) hx hb dX5_shown_18 hl (by decide) rfl (fun ls hl => ?_)
  refine lv_aload_n hx hb dX5_shown_20 rfl (lv_at hl 1 rfl) ?_
  refine b_get X E w 0 rfl rfl 5 (by decide) iX5 (by decide +kernel) rfl rfl dX5_shown_21 ?_
  refine lv_iload hx hb dX5_shown_24 (lv_at hl 0 rfl) ?_
  refine b_calli w (va_runV (As := [.int (nI (10 * a + i))]) (rest := []) X (c_X3_isHidden l hl0 G _ (h := sO) (t0 := 10 * a + i) (qv := qv) (qh := qh) (hid := hdn fA nA fJ nJ sc p0 u10_9 hid) (ht := (by first | assumption | omega))) (cwV 1 hts gX5_shown_X3_isHidden rfl rfl rfl (by decide +kernel) ⟨Nat.le_of_ble_eq_true rfl, Nat.le_of_ble_eq_true rfl⟩) ⟨b_blind, b_recv E w (ci := 3) (q0 := 9) rfl rfl, (fun U9 hU9 hW9 => ⟨rfl, b_pre E Z w [9, 11] (by decide) rfl b_nil U9 hU9 hW9⟩)⟩ rfl rfl hl.1 rfl (lv_room (Nat.le_of_ble_eq_true rfl)) dX5_shown_26 ⟨Nat.le_of_ble_eq_true rfl, Nat.le_of_ble_eq_true rfl⟩) b_nil [] (fun _ => rfl) rfl (fun r26_11 u26_11 H locs hr26_11 w => ?_)
  have w : bSt G vwCl [qv, qh] s [(H0, .inr (5, [.ref tA, .ref tJ, .ref gO, .ref dO, .ref bO, .ref sO, .ref qs, .ref qr, .int (nI jd), .int (nI snt), .int (nI td)])), (tA, .inr (4, [.ref oA, .int (nI 10), .int (nI nA)])), (oA, .inl (G.2.1, 14, .inl fA)), (tJ, .inr (4, [.ref oJ, .int (nI 1), .int (nI nJ)])), (oJ, .inl (G.2.1, 10, .inl fJ)), (bO, .inr (1, [.ref ql, .ref qe, .ref qn, .ref qt, .ref qc, .ref qd, .ref qf, .int (nI bn)])), (qc, .inl (G.2.1, 300, .inl bc)), (qd, .inl (G.2.1, 300, .inl bd)), (qf, .inl (G.2.1, 300, .inl bf)), (sO, .inr (3, [.ref qv, .ref qh])), (qv, .inl (G.2.1, 140, .inl u10_9)), (qh, .inl (G.2.2.1, 140, .inl (zB (hdn fA nA fJ nJ sc p0 u10_9 hid)))), (qs, .inl (G.2.2.1, 1680, .inl (zB sc)))] _ _ := w
  subst hr26_11
  refine lv_if_eq (tgt := 37) hx hb dX5_shown_29 (by decide) (fun c_29_12 => ?_) (fun c_29_12 => ?_)
  · have q_29_13 : ((hdn fA nA fJ nJ sc p0 u10_9 hid) (10 * a + i)) = false := bI_0.mp c_29_12
    refine lv_aload_n hx hb dX5_shown_37 rfl (lv_at hl 1 rfl) ?_
    refine b_get X E w 0 rfl rfl 5 (by decide) iX5 (by decide +kernel) rfl rfl dX5_shown_38 ?_
    refine lv_iload hx hb dX5_shown_41 (lv_at hl 0 rfl) ?_
    refine b_calli w (va_runV (As := [.int (nI (10 * a + i))]) (rest := []) X (c_X3_valueAt l hl0 G _ (h := sO) (t0 := 10 * a + i) (qv := qv) (qh := qh) (v := u10_9) (ht := (by first | assumption | omega))) (cwV 1 hts gX5_shown_X3_valueAt rfl rfl rfl (by decide +kernel) ⟨Nat.le_of_ble_eq_true rfl, Nat.le_of_ble_eq_true rfl⟩) ⟨b_blind, b_recv E w (ci := 3) (q0 := 9) rfl rfl, (fun U9 hU9 hW9 => ⟨rfl, b_pre E Z w [9, 10] (by decide) rfl b_nil U9 hU9 hW9⟩)⟩ rfl rfl hl.1 rfl (lv_room (Nat.le_of_ble_eq_true rfl)) dX5_shown_43 ⟨Nat.le_of_ble_eq_true rfl, Nat.le_of_ble_eq_true rfl⟩) b_nil [] (fun _ => rfl) rfl (fun r43_14 u43_14 H locs hr43_14 w => ?_)
    have w : bSt G vwCl [qv, qh] s [(H0, .inr (5, [.ref tA, .ref tJ, .ref gO, .ref dO, .ref bO, .ref sO, .ref qs, .ref qr, .int (nI jd), .int (nI snt), .int (nI td)])), (tA, .inr (4, [.ref oA, .int (nI 10), .int (nI nA)])), (oA, .inl (G.2.1, 14, .inl fA)), (tJ, .inr (4, [.ref oJ, .int (nI 1), .int (nI nJ)])), (oJ, .inl (G.2.1, 10, .inl fJ)), (bO, .inr (1, [.ref ql, .ref qe, .ref qn, .ref qt, .ref qc, .ref qd, .ref qf, .int (nI bn)])), (qc, .inl (G.2.1, 300, .inl bc)), (qd, .inl (G.2.1, 300, .inl bd)), (qf, .inl (G.2.1, 300, .inl bf)), (sO, .inr (3, [.ref qv, .ref qh])), (qv, .inl (G.2.1, 140, .inl u10_9)), (qh, .inl (G.2.2.1, 140, .inl (zB (hdn fA nA fJ nJ sc p0 u10_9 hid)))), (qs, .inl (G.2.2.1, 1680, .inl (zB sc)))] _ _ := w
    subst hr43_14
    refine vx_ret ?_
    exact W.iret (v := u10_9 (10 * a + i)) hx hb hr (fun t9 ht9 hW9 => ⟨⟨u10_9 (10 * a + i), u10_9, rfl, ⟨h1, by rw [ep]; exact hu0, by rw [ea, ei, ep]; simp [q_29_13]⟩, by show va_P G.1 vwCl _ t9.heap; rw [ht9]; exact b_cg (by rw [ep]) (w.1.sub (ws' := [(qv, .inl (G.2.1, 140, .inl u10_9)), (qh, .inl (G.2.2.1, 140, .inl (zB (hdn fA nA fJ nJ sc p0 u10_9 hid))))]) [10, 11] rfl)⟩, w.2.1.F ht9⟩) w.2.1.2.2 dX5_shown_46
  · have q_29_13 : ((hdn fA nA fJ nJ sc p0 u10_9 hid) (10 * a + i)) = true := bI_n0.mp c_29_12
    refine lv_ldc (v := HID) hx hb hown (hts (.constant RX5 186 (-2000000002)) (by decide +kernel)) dX5_shown_32 ?_
    refine lv_goto (tgt := 46) hx hb dX5_shown_34 (by decide) ?_
    refine vx_ret ?_
    exact W.iret (v := HID) hx hb hr (fun t9 ht9 hW9 => ⟨⟨HID, u10_9, rfl, ⟨h1, by rw [ep]; exact hu0, by rw [ea, ei, ep]; simp [q_29_13]⟩, by show va_P G.1 vwCl _ t9.heap; rw [ht9]; exact b_cg (by rw [ep]) (w.1.sub (ws' := [(qv, .inl (G.2.1, 140, .inl u10_9)), (qh, .inl (G.2.2.1, 140, .inl (zB (hdn fA nA fJ nJ sc p0 u10_9 hid))))]) [10, 11] rfl)⟩, w.2.1.F ht9⟩) w.2.1.2.2 dX5_shown_46
set_option maxHeartbeats 4000000 in
set_option maxRecDepth 100000 in
theorem c_X5_hidden (l : Launch) (hl0 : l.stackTraces = false) (G : bG) (sz : Nat) (H0 tA tJ gO dO bO sO qs qr jd snt td : Nat) (oA nA : Nat) (fA : Nat → Int32) (oJ nJ : Nat) (fJ : Nat → Int32) (ql qe qn qt qc qd qf bn : Nat) (bc : Nat → Int32) (bd : Nat → Int32) (bf : Nat → Int32) (qv qh : Nat) (v : Nat → Int32) (hid : Nat → Bool) (sc : Nat → Bool) (x : Int32) (hnA : nA ≤ 14) (hnJ : nJ ≤ 10) (hTA : TI fA nA) (hTJ : TI fJ nJ) (hbn : bn ≤ 300) (hbk : bOk nA nJ bn td bc bd) : vx_Met l yX5_hidden wsX5_hidden ({ frames := 6, cells := 1, slots := 6, locals := 149 }) (va_Pc [.ref H0, .int x] (bPre G vwCl bNW bSW sz [(H0, .inr (5, [.ref tA, .ref tJ, .ref gO, .ref dO, .ref bO, .ref sO, .ref qs, .ref qr, .int (nI jd), .int (nI snt), .int (nI td)])), (tA, .inr (4, [.ref oA, .int (nI 10), .int (nI nA)])), (oA, .inl (G.2.1, 14, .inl fA)), (tJ, .inr (4, [.ref oJ, .int (nI 1), .int (nI nJ)])), (oJ, .inl (G.2.1, 10, .inl fJ)), (bO, .inr (1, [.ref ql, .ref qe, .ref qn, .ref qt, .ref qc, .ref qd, .ref qf, .int (nI bn)])), (qc, .inl (G.2.1, 300, .inl bc)), (qd, .inl (G.2.1, 300, .inl bd)), (qf, .inl (G.2.1, 300, .inl bf)), (sO, .inr (3, [.ref qv, .ref qh])), (qv, .inl (G.2.1, 140, .inl v)), (qh, .inl (G.2.2.1, 140, .inl (zB hid))), (qs, .inl (G.2.2.1, 1680, .inl (zB sc)))] [qv, qh])) (va_Qi (fun (r : Int32) (u : Nat → Int32) => tHas 12 x = true ∧ (Fx (figs bc bd bf bn (cl x) (nI td)) fA nA fJ nJ u ∧ vOut nA nJ u) ∧ r = nI (cH (fun _ => true) (hdn fA nA fJ nJ sc (cl x) u hid) 140)) (fun (u : Nat → Int32) (tS : State) => va_P G.1 vwCl [(qv, .inl (G.2.1, 140, .inl u)), (qh, .inl (G.2.2.1, 140, .inl (zB (hdn fA nA fJ nJ sc (cl x) u hid))))] tS.heap) (Aw [qv, qh] sz)) (bX (fun E => E = xIO ∧ tHas 12 x = false) sz) 1 6 (Aw [qv, qh] sz) := by
  refine vx_ofW (cc := cX5_hidden) (maxL := 2) (ret := (some .int)) (by decide) rfl ?_
  intro p e s m args below meth c s₁ B hml hxt hv
  obtain ⟨rfl, hsz, hP, hD, E, Z⟩ := hv
  have hts := atoms_spec (ws := wsX5_hidden) B.pre
  have hown : s.vm.findClass RX5 = some m.cls := findClass_of_methodNamed B.named
  have X : CallFix p m c cX5_hidden 2 s _ wsX5_hidden RX5 := ⟨B.exec, B.bytes, hml, hown, hts⟩
  have hx := B.exec
  have hb := B.bytes
  have hr := B.returns
  have hlocks := B.notSynchronized
  subst hsz
  have w : bSt G vwCl [] s [(H0, .inr (5, [.ref tA, .ref tJ, .ref gO, .ref dO, .ref bO, .ref sO, .ref qs, .ref qr, .int (nI jd), .int (nI snt), .int (nI td)])), (tA, .inr (4, [.ref oA, .int (nI 10), .int (nI nA)])), (oA, .inl (G.2.1, 14, .inl fA)), (tJ, .inr (4, [.ref oJ, .int (nI 1), .int (nI nJ)])), (oJ, .inl (G.2.1, 10, .inl fJ)), (bO, .inr (1, [.ref ql, .ref qe, .ref qn, .ref qt, .ref qc, .ref qd, .ref qf, .int (nI bn)])), (qc, .inl (G.2.1, 300, .inl bc)), (qd, .inl (G.2.1, 300, .inl bd)), (qf, .inl (G.2.1, 300, .inl bf)), (sO, .inr (3, [.ref qv, .ref qh])), (qv, .inl (G.2.1, 140, .inl v)), (qh, .inl (G.2.2.1, 140, .inl (zB hid))), (qs, .inl (G.2.2.1, 1680, .inl (zB sc)))] s.heap [] := ⟨hP, va_S.rf, hD⟩
  have Z0 : bZ [] s := ⟨Z.1.narrow (fun q h => h.elim (fun h => nomatch h) Or.inr), Z.2.narrow (fun q h => h.elim (fun h => nomatch h) Or.inr)⟩
  have iX5 : ∀ w ∈ wsX50, w ∈ wsX5_hidden := by decide +kernel
  have hl := lv_entry ([.ref H0, .int x]) (n := 2) (Nat.le_of_ble_eq_true rfl)
  rw [lg_entry_eq]
  generalize (lg_sl ([.ref H0, .int x]) ++ List.replicate (2 - (lg_sl ([.ref H0, .int x])).length) Slot.unset).toArray = ls at hl ⊢
  have hl : lv_has ls 2 [(0, .ref H0), (1, .int x)] := hl
  refine lv_iload_n hx hb dX5_hidden_0 rfl (lv_at hl 1 rfl) ?_
  refine b_calli w (va_runS (As := [.int x]) (rest := []) X (c_X5_isPeriod l hl0 G _ (x := x) ) (va_cwS 1 hts gX5_hidden_X5_isPeriod rfl rfl rfl (by decide +kernel) ⟨Nat.le_of_ble_eq_true rfl, Nat.le_of_ble_eq_true rfl⟩) ⟨b_blind, (fun U9 hU9 hW9 => ⟨rfl, b_pre E Z0 w [] (by decide) rfl b_nil U9 hU9 hW9⟩)⟩ rfl rfl hl.1 rfl (lv_room (Nat.le_of_ble_eq_true rfl)) dX5_hidden_1 ⟨Nat.le_of_ble_eq_true rfl, Nat.le_of_ble_eq_true rfl⟩) b_nil [] (fun _ => rfl) rfl (fun r1_6 u1_6 H locs hr1_6 w => ?_)
  have w : bSt G vwCl [] s [(H0, .inr (5, [.ref tA, .ref tJ, .ref gO, .ref dO, .ref bO, .ref sO, .ref qs, .ref qr, .int (nI jd), .int (nI snt), .int (nI td)])), (tA, .inr (4, [.ref oA, .int (nI 10), .int (nI nA)])), (oA, .inl (G.2.1, 14, .inl fA)), (tJ, .inr (4, [.ref oJ, .int (nI 1), .int (nI nJ)])), (oJ, .inl (G.2.1, 10, .inl fJ)), (bO, .inr (1, [.ref ql, .ref qe, .ref qn, .ref qt, .ref qc, .ref qd, .ref qf, .int (nI bn)])), (qc, .inl (G.2.1, 300, .inl bc)), (qd, .inl (G.2.1, 300, .inl bd)), (qf, .inl (G.2.1, 300, .inl bf)), (sO, .inr (3, [.ref qv, .ref qh])), (qv, .inl (G.2.1, 140, .inl v)), (qh, .inl (G.2.2.1, 140, .inl (zB hid))), (qs, .inl (G.2.2.1, 1680, .inl (zB sc)))] _ _ := w
  subst hr1_6
  refine lv_if_ne (tgt := 17) hx hb dX5_hidden_4 (by decide) (fun c_4_7 => ?_) (fun c_4_7 => ?_)
  · have q_4_8 : (tHas 12 x) = true := bI_n0.mp c_4_7
    have h1 := q_4_8
    obtain ⟨p0, hp, rfl⟩ := (tHas_iff (by decide)).mp h1
    have ep : cl (nI p0) = p0 := cl_nI (by omega)
    refine lv_aload_n hx hb dX5_hidden_17 rfl (lv_at hl 0 rfl) ?_
    refine lv_iload_n hx hb dX5_hidden_18 rfl (lv_at hl 1 rfl) ?_
    have w := b_wide [qv, qh] b_nil w
    refine b_callv w (va_runV (As := [.int (nI p0)]) (rest := []) X (c_X5_loadHidden l hl0 G _ (H0 := H0) (p0 := p0) (tA := tA) (tJ := tJ) (gO := gO) (dO := dO) (bO := bO) (sO := sO) (qs := qs) (qr := qr) (jd := jd) (snt := snt) (td := td) (oA := oA) (nA := nA) (fA := fA) (oJ := oJ) (nJ := nJ) (fJ := fJ) (ql := ql) (qe := qe) (qn := qn) (qt := qt) (qc := qc) (qd := qd) (qf := qf) (bn := bn) (bc := bc) (bd := bd) (bf := bf) (qv := qv) (qh := qh) (v := v) (hid := hid) (sc := sc) (hnA := (by first | assumption | omega)) (hnJ := (by first | assumption | omega)) (hTA := (by first | assumption | omega)) (hTJ := (by first | assumption | omega)) (hbn := (by first | assumption | omega)) (hbk := (by first | assumption | omega)) (hp := (by first | assumption | omega))) (cwV 1 hts gX5_hidden_X5_loadHidden rfl rfl rfl (by decide +kernel) ⟨Nat.le_of_ble_eq_true rfl, Nat.le_of_ble_eq_true rfl⟩) ⟨b_blind, b_recv E w (ci := 5) (q0 := 0) rfl rfl, (fun U9 hU9 hW9 => ⟨rfl, b_pre E Z w [0, 1, 2, 3, 4, 5, 6, 7, 8, 9, 10, 11, 12] (by decide) rfl (b_subA [0, 1] rfl) U9 hU9 hW9⟩)⟩ rfl rfl hl.1 rfl (lv_room (Nat.le_of_ble_eq_true rfl)) dX5_hidden_19 ⟨Nat.le_of_ble_eq_true rfl, Nat.le_of_ble_eq_true rfl⟩) (b_subA [0, 1] rfl) [10, 11] (fun _ => rfl) rfl (fun u19_9 H locs hr19_9 w => ?_)
    have w : bSt G vwCl [qv, qh] s [(H0, .inr (5, [.ref tA, .ref tJ, .ref gO, .ref dO, .ref bO, .ref sO, .ref qs, .ref qr, .int (nI jd), .int (nI snt), .int (nI td)])), (tA, .inr (4, [.ref oA, .int (nI 10), .int (nI nA)])), (oA, .inl (G.2.1, 14, .inl fA)), (tJ, .inr (4, [.ref oJ, .int (nI 1), .int (nI nJ)])), (oJ, .inl (G.2.1, 10, .inl fJ)), (bO, .inr (1, [.ref ql, .ref qe, .ref qn, .ref qt, .ref qc, .ref qd, .ref qf, .int (nI bn)])), (qc, .inl (G.2.1, 300, .inl bc)), (qd, .inl (G.2.1, 300, .inl bd)), (qf, .inl (G.2.1, 300, .inl bf)), (sO, .inr (3, [.ref qv, .ref qh])), (qv, .inl (G.2.1, 140, .inl u19_9)), (qh, .inl (G.2.2.1, 140, .inl (zB (hdn fA nA fJ nJ sc p0 u19_9 hid)))), (qs, .inl (G.2.2.1, 1680, .inl (zB sc)))] _ _ := w
    have hu0 := hr19_9
    refine lv_aload_n hx hb dX5_hidden_22 rfl (lv_at hl 0 rfl) ?_
    refine b_get X E w 0 rfl rfl 5 (by decide) iX5 (by decide +kernel) rfl rfl dX5_hidden_23 ?_
    refine b_calli w (va_runV (As := []) (rest := []) X (c_X3_countHiddenSlots l hl0 G _ (h := sO) (qv := qv) (qh := qh) (hid := hdn fA nA fJ nJ sc p0 u19_9 hid) ) (cwV 0 hts gX5_hidden_X3_countHiddenSlots rfl rfl rfl (by decide +kernel) ⟨Nat.le_of_ble_eq_true rfl, Nat.le_of_ble_eq_true rfl⟩) ⟨b_blind, b_recv E w (ci := 3) (q0 := 9) rfl rfl, (fun U9 hU9 hW9 => ⟨rfl, b_pre E Z w [9, 11] (by decide) rfl b_nil U9 hU9 hW9⟩)⟩ rfl rfl hl.1 rfl (lv_room (Nat.le_of_ble_eq_true rfl)) dX5_hidden_26 ⟨Nat.le_of_ble_eq_true rfl, Nat.le_of_ble_eq_true rfl⟩) b_nil [] (fun _ => rfl) rfl (fun r26_10 u26_10 H locs hr26_10 w => ?_)
    have w : bSt G vwCl [qv, qh] s [(H0, .inr (5, [.ref tA, .ref tJ, .ref gO, .ref dO, .ref bO, .ref sO, .ref qs, .ref qr, .int (nI jd), .int (nI snt), .int (nI td)])), (tA, .inr (4, [.ref oA, .int (nI 10), .int (nI nA)])), (oA, .inl (G.2.1, 14, .inl fA)), (tJ, .inr (4, [.ref oJ, .int (nI 1), .int (nI nJ)])), (oJ, .inl (G.2.1, 10, .inl fJ)), (bO, .inr (1, [.ref ql, .ref qe, .ref qn, .ref qt, .ref qc, .ref qd, .ref qf, .int (nI bn)])), (qc, .inl (G.2.1, 300, .inl bc)), (qd, .inl (G.2.1, 300, .inl bd)), (qf, .inl (G.2.1, 300, .inl bf)), (sO, .inr (3, [.ref qv, .ref qh])), (qv, .inl (G.2.1, 140, .inl u19_9)), (qh, .inl (G.2.2.1, 140, .inl (zB (hdn fA nA fJ nJ sc p0 u19_9 hid)))), (qs, .inl (G.2.2.1, 1680, .inl (zB sc)))] _ _ := w
    subst hr26_10
    refine W.widen (k := 1) (n := 6) (by decide) (by decide) ?_
    refine vx_ret ?_
    exact W.iret (v := nI (cH (fun _ => true) (hdn fA nA fJ nJ sc p0 u19_9 hid) 140)) hx hb hr (fun t9 ht9 hW9 => ⟨⟨nI (cH (fun _ => true) (hdn fA nA fJ nJ sc p0 u19_9 hid) 140), u19_9, rfl, ⟨h1, by rw [ep]; exact hu0, by rw [ep]⟩, by show va_P G.1 vwCl _ t9.heap; rw [ht9]; exact b_cg (by rw [ep]) (w.1.sub (ws' := [(qv, .inl (G.2.1, 140, .inl u19_9)), (qh, .inl (G.2.2.1, 140, .inl (zB (hdn fA nA fJ nJ sc p0 u19_9 hid))))]) [10, 11] rfl)⟩, w.2.1.F ht9⟩) w.2.1.2.2 dX5_hidden_29
  · have q_4_8 : (tHas 12 x) = false := bI_0.mp c_4_7
    have hE := q_4_8
    exact b_throw (cls := "java/lang/IndexOutOfBoundsException") (text := "no such period") (ik := 129) (is := 190) (ic := 133) X E Z0 hl0 hxt hlocks w (⟨rfl, hE⟩) hl.1 (by decide) (by decide +kernel) (by decide +kernel) (by decide +kernel) (by decide +kernel) (by decide +kernel) (by decide +kernel) (by decide +kernel) dX5_hidden_7 dX5_hidden_10 dX5_hidden_11 dX5_hidden_13 dX5_hidden_16 (Nat.le_of_ble_eq_true rfl) (Nat.le_of_ble_eq_true rfl) (Nat.le_of_ble_eq_true rfl) (Nat.le_of_ble_eq_true rfl) (by decide) (by decide)
set_option maxHeartbeats 4000000 in
set_option maxRecDepth 100000 in
theorem c_X5_secret (l : Launch) (hl0 : l.stackTraces = false) (G : bG) (sz : Nat) (H0 tA tJ gO dO bO sO qs qr jd snt td : Nat) (oA nA : Nat) (fA : Nat → Int32) (oJ nJ : Nat) (fJ : Nat → Int32) (ql qe qn qt qc qd qf bn : Nat) (bc : Nat → Int32) (bd : Nat → Int32) (bf : Nat → Int32) (qv qh : Nat) (v : Nat → Int32) (hid : Nat → Bool) (sc : Nat → Bool) (x y z : Int32) (b : Bool) (hnA : nA ≤ 14) (hnJ : nJ ≤ 10) (hTA : TI fA nA) (hTJ : TI fJ nJ) (hbn : bn ≤ 300) (hbk : bOk nA nJ bn td bc bd) : vx_Met l yX5_secret wsX5_secret ({ frames := 7, cells := 1, slots := 6, locals := 149 }) (va_Pc [.ref H0, .int x, .int y, .int z, .int (bI b)] (bPre G vwCl bNW bSW sz [(H0, .inr (5, [.ref tA, .ref tJ, .ref gO, .ref dO, .ref bO, .ref sO, .ref qs, .ref qr, .int (nI jd), .int (nI snt), .int (nI td)])), (tA, .inr (4, [.ref oA, .int (nI 10), .int (nI nA)])), (oA, .inl (G.2.1, 14, .inl fA)), (tJ, .inr (4, [.ref oJ, .int (nI 1), .int (nI nJ)])), (oJ, .inl (G.2.1, 10, .inl fJ)), (bO, .inr (1, [.ref ql, .ref qe, .ref qn, .ref qt, .ref qc, .ref qd, .ref qf, .int (nI bn)])), (qc, .inl (G.2.1, 300, .inl bc)), (qd, .inl (G.2.1, 300, .inl bd)), (qf, .inl (G.2.1, 300, .inl bf)), (sO, .inr (3, [.ref qv, .ref qh])), (qv, .inl (G.2.1, 140, .inl v)), (qh, .inl (G.2.2.1, 140, .inl (zB hid))), (qs, .inl (G.2.2.1, 1680, .inl (zB sc)))] [qs, qv, qh])) (va_Qi (fun (r : Int32) (u : Nat → Int32) => okC nA nJ x y z = true ∧ (Fx (figs bc bd bf bn (cl z) (nI td)) fA nA fJ nJ u ∧ vOut nA nJ u) ∧ r = nI (cH (fun _ => true) (hdn fA nA fJ nJ (uB sc (cN x y z) b) (cl z) u hid) 140)) (fun (u : Nat → Int32) (tS : State) => va_P G.1 vwCl [(qs, .inl (G.2.2.1, 1680, .inl (zB (uB sc (cN x y z) b)))), (qv, .inl (G.2.1, 140, .inl u)), (qh, .inl (G.2.2.1, 140, .inl (zB (hdn fA nA fJ nJ (uB sc (cN x y z) b) (cl z) u hid))))] tS.heap) (Aw [qs, qv, qh] sz)) (bX (fun E => E = xIO ∧ okC nA nJ x y z = false) sz) 1 6 (Aw [qs, qv, qh] sz) := by
  refine vx_ofW (cc := cX5_secret) (maxL := 6) (ret := (some .int)) (by decide) rfl ?_
  intro p e s m args below meth c s₁ B hml hxt hv
  obtain ⟨rfl, hsz, hP, hD, E, Z⟩ := hv
  have hts := atoms_spec (ws := wsX5_secret) B.pre
  have hown : s.vm.findClass RX5 = some m.cls := findClass_of_methodNamed B.named
  have X : CallFix p m c cX5_secret 6 s _ wsX5_secret RX5 := ⟨B.exec, B.bytes, hml, hown, hts⟩
  have hx := B.exec
  have hb := B.bytes
  have hr := B.returns
  have hlocks := B.notSynchronized
  subst hsz
  have w : bSt G vwCl [] s [(H0, .inr (5, [.ref tA, .ref tJ, .ref gO, .ref dO, .ref bO, .ref sO, .ref qs, .ref qr, .int (nI jd), .int (nI snt), .int (nI td)])), (tA, .inr (4, [.ref oA, .int (nI 10), .int (nI nA)])), (oA, .inl (G.2.1, 14, .inl fA)), (tJ, .inr (4, [.ref oJ, .int (nI 1), .int (nI nJ)])), (oJ, .inl (G.2.1, 10, .inl fJ)), (bO, .inr (1, [.ref ql, .ref qe, .ref qn, .ref qt, .ref qc, .ref qd, .ref qf, .int (nI bn)])), (qc, .inl (G.2.1, 300, .inl bc)), (qd, .inl (G.2.1, 300, .inl bd)), (qf, .inl (G.2.1, 300, .inl bf)), (sO, .inr (3, [.ref qv, .ref qh])), (qv, .inl (G.2.1, 140, .inl v)), (qh, .inl (G.2.2.1, 140, .inl (zB hid))), (qs, .inl (G.2.2.1, 1680, .inl (zB sc)))] s.heap [] := ⟨hP, va_S.rf, hD⟩
  have Z0 : bZ [] s := ⟨Z.1.narrow (fun q h => h.elim (fun h => nomatch h) Or.inr), Z.2.narrow (fun q h => h.elim (fun h => nomatch h) Or.inr)⟩
  have iX5 : ∀ w ∈ wsX50, w ∈ wsX5_secret := by decide +kernel
  have hl := lv_entry ([.ref H0, .int x, .int y, .int z, .int (bI b)]) (n := 6) (Nat.le_of_ble_eq_true rfl)
  rw [lg_entry_eq]
  generalize (lg_sl ([.ref H0, .int x, .int y, .int z, .int (bI b)]) ++ List.replicate (6 - (lg_sl ([.ref H0, .int x, .int y, .int z, .int (bI b)])).length) Slot.unset).toArray = ls at hl ⊢
  have hl : lv_has ls 6 [(0, .ref H0), (1, .int x), (2, .int y), (3, .int z), (4, .int (bI b))] := hl
  refine lv_aload_n hx hb dX5_secret_0 rfl (lv_at hl 0 rfl) ?_
  refine lv_iload_n hx hb dX5_secret_1 rfl (lv_at hl 1 rfl) ?_
  refine lv_iload_n hx hb dX5_secret_2 rfl (lv_at hl 2 rfl) ?_
  refine lv_iload_n hx hb dX5_secret_3 rfl (lv_at hl 3 rfl) ?_
  refine b_xcalli w (vx_runV (As := [.int x, .int y, .int z]) (rest := []) X (c_X5_requireCell l hl0 G _ (H0 := H0) (x := x) (y := y) (z := z) (tA := tA) (tJ := tJ) (gO := gO) (dO := dO) (bO := bO) (sO := sO) (qs := qs) (qr := qr) (jd := jd) (snt := snt) (td := td) (oA := oA) (nA := nA) (oJ := oJ) (nJ := nJ) ) (cwV 3 hts gX5_secret_X5_requireCell rfl rfl rfl (by decide +kernel) ⟨Nat.le_of_ble_eq_true rfl, Nat.le_of_ble_eq_true rfl⟩) ⟨b_blind, b_recv E w (ci := 5) (q0 := 0) rfl rfl, (fun U9 hU9 hW9 => ⟨rfl, b_pre E Z0 w [0, 1, 3] (by decide) rfl b_nil U9 hU9 hW9⟩)⟩ rfl rfl hl.1 rfl (lv_room (Nat.le_of_ble_eq_true rfl)) dX5_secret_4 ⟨Nat.le_of_ble_eq_true rfl, Nat.le_of_ble_eq_true rfl⟩) b_nil [] (fun _ => rfl) rfl (fun E9 ce9 q9 H9 locs9 hex w9 hce hcv hcl => b_out hxt hlocks w9 (hex) hce hcv hcl (by decide) (by decide)) (fun r4_4 u4_4 H locs hr4_4 w => ?_)
  have w : bSt G vwCl [] s [(H0, .inr (5, [.ref tA, .ref tJ, .ref gO, .ref dO, .ref bO, .ref sO, .ref qs, .ref qr, .int (nI jd), .int (nI snt), .int (nI td)])), (tA, .inr (4, [.ref oA, .int (nI 10), .int (nI nA)])), (oA, .inl (G.2.1, 14, .inl fA)), (tJ, .inr (4, [.ref oJ, .int (nI 1), .int (nI nJ)])), (oJ, .inl (G.2.1, 10, .inl fJ)), (bO, .inr (1, [.ref ql, .ref qe, .ref qn, .ref qt, .ref qc, .ref qd, .ref qf, .int (nI bn)])), (qc, .inl (G.2.1, 300, .inl bc)), (qd, .inl (G.2.1, 300, .inl bd)), (qf, .inl (G.2.1, 300, .inl bf)), (sO, .inr (3, [.ref qv, .ref qh])), (qv, .inl (G.2.1, 140, .inl v)), (qh, .inl (G.2.2.1, 140, .inl (zB hid))), (qs, .inl (G.2.2.1, 1680, .inl (zB sc)))] _ _ := w
  obtain ⟨ehr4_4, hr4_4⟩ := hr4_4
  subst ehr4_4
  have h1 := hr4_4
  obtain ⟨a, ha, i, hi, p0, hp, rfl, rfl, rfl⟩ := okC_yes (by omega) (by omega) hr4_4
  have eN := cN_nI ha hi hp hnA hnJ
  have ea : cl (nI a) = a := cl_nI (by omega)
  have ei : cl (nI i) = i := cl_nI (by omega)
  have ep : cl (nI p0) = p0 := cl_nI (by omega)
  refine b_tp (show cellI (nI a) (nI i) (nI p0) = nI (140 * p0 + (10 * a + i)) from cellI_nI a i p0) ?_
  refine lv_istore (lv' := [(5, .int (nI (140 * p0 + (10 * a + i)))), (0, .ref H0), (1, .int (nI a)), (2, .int (nI i)), (3, .int (nI p0)), (4, .int (bI b))]) hx hb dX5_secret_7 hl (by decide) rfl (fun ls hl => ?_)
  refine lv_aload_n hx hb dX5_secret_9 rfl (lv_at hl 1 rfl) ?_
  refine b_get X E w 0 rfl rfl 6 (by decide) iX5 (by decide +kernel) rfl rfl dX5_secret_10 ?_
  refine lv_iload hx hb dX5_secret_13 (lv_at hl 0 rfl) ?_
  refine lv_iload hx hb dX5_secret_15 (lv_at hl 5 rfl) ?_
  have w := b_wide [qs, qv, qh] b_nil w
  refine b_zast X E w (Or.inl (List.mem_of_getElem? (i := 0) rfl)) 12 rfl (140 * p0 + (10 * a + i)) rfl (by omega) (by first | decide | omega) (bI_01 _) dX5_secret_17 (fun H locs w => ?_)
  rw [zB_upd] at w
  have w : bSt G vwCl [qs, qv, qh] s [(H0, .inr (5, [.ref tA, .ref tJ, .ref gO, .ref dO, .ref bO, .ref sO, .ref qs, .ref qr, .int (nI jd), .int (nI snt), .int (nI td)])), (tA, .inr (4, [.ref oA, .int (nI 10), .int (nI nA)])), (oA, .inl (G.2.1, 14, .inl fA)), (tJ, .inr (4, [.ref oJ, .int (nI 1), .int (nI nJ)])), (oJ, .inl (G.2.1, 10, .inl fJ)), (bO, .inr (1, [.ref ql, .ref qe, .ref qn, .ref qt, .ref qc, .ref qd, .ref qf, .int (nI bn)])), (qc, .inl (G.2.1, 300, .inl bc)), (qd, .inl (G.2.1, 300, .inl bd)), (qf, .inl (G.2.1, 300, .inl bf)), (sO, .inr (3, [.ref qv, .ref qh])), (qv, .inl (G.2.1, 140, .inl v)), (qh, .inl (G.2.2.1, 140, .inl (zB hid))), (qs, .inl (G.2.2.1, 1680, .inl (zB (uB sc (140 * p0 + (10 * a + i)) b))))] _ _ := w
  refine lv_aload_n hx hb dX5_secret_18 rfl (lv_at hl 1 rfl) ?_
  refine lv_iload_n hx hb dX5_secret_19 rfl (lv_at hl 4 rfl) ?_
  refine b_callv w (va_runV (As := [.int (nI p0)]) (rest := []) X (c_X5_loadHidden l hl0 G _ (H0 := H0) (p0 := p0) (tA := tA) (tJ := tJ) (gO := gO) (dO := dO) (bO := bO) (sO := sO) (qs := qs) (qr := qr) (jd := jd) (snt := snt) (td := td) (oA := oA) (nA := nA) (fA := fA) (oJ := oJ) (nJ := nJ) (fJ := fJ) (ql := ql) (qe := qe) (qn := qn) (qt := qt) (qc := qc) (qd := qd) (qf := qf) (bn := bn) (bc := bc) (bd := bd) (bf := bf) (qv := qv) (qh := qh) (v := v) (hid := hid) (sc := uB sc (140 * p0 + (10 * a + i)) b) (hnA := (by first | assumption | omega)) (hnJ := (by first | assumption | omega)) (hTA := (by first | assumption | omega)) (hTJ := (by first | assumption | omega)) (hbn := (by first | assumption | omega)) (hbk := (by first | assumption | omega)) (hp := (by first | assumption | omega))) (cwV 1 hts gX5_secret_X5_loadHidden rfl rfl rfl (by decide +kernel) ⟨Nat.le_of_ble_eq_true rfl, Nat.le_of_ble_eq_true rfl⟩) ⟨b_blind, b_recv E w (ci := 5) (q0 := 0) rfl rfl, (fun U9 hU9 hW9 => ⟨rfl, b_pre E Z w [0, 1, 2, 3, 4, 5, 6, 7, 8, 9, 10, 11, 12] (by decide) rfl (b_subA [1, 2] rfl) U9 hU9 hW9⟩)⟩ rfl rfl hl.1 rfl (lv_room (Nat.le_of_ble_eq_true rfl)) dX5_secret_20 ⟨Nat.le_of_ble_eq_true rfl, Nat.le_of_ble_eq_true rfl⟩) (b_subA [1, 2] rfl) [10, 11] (fun _ => rfl) rfl (fun u20_5 H locs hr20_5 w => ?_)
  have w : bSt G vwCl [qs, qv, qh] s [(H0, .inr (5, [.ref tA, .ref tJ, .ref gO, .ref dO, .ref bO, .ref sO, .ref qs, .ref qr, .int (nI jd), .int (nI snt), .int (nI td)])), (tA, .inr (4, [.ref oA, .int (nI 10), .int (nI nA)])), (oA, .inl (G.2.1, 14, .inl fA)), (tJ, .inr (4, [.ref oJ, .int (nI 1), .int (nI nJ)])), (oJ, .inl (G.2.1, 10, .inl fJ)), (bO, .inr (1, [.ref ql, .ref qe, .ref qn, .ref qt, .ref qc, .ref qd, .ref qf, .int (nI bn)])), (qc, .inl (G.2.1, 300, .inl bc)), (qd, .inl (G.2.1, 300, .inl bd)), (qf, .inl (G.2.1, 300, .inl bf)), (sO, .inr (3, [.ref qv, .ref qh])), (qv, .inl (G.2.1, 140, .inl u20_5)), (qh, .inl (G.2.2.1, 140, .inl (zB (hdn fA nA fJ nJ (uB sc (140 * p0 + (10 * a + i)) b) p0 u20_5 hid)))), (qs, .inl (G.2.2.1, 1680, .inl (zB (uB sc (140 * p0 + (10 * a + i)) b))))] _ _ := w
  have hu0 := hr20_5
  refine lv_aload_n hx hb dX5_secret_23 rfl (lv_at hl 1 rfl) ?_
  refine b_get X E w 0 rfl rfl 5 (by decide) iX5 (by decide +kernel) rfl rfl dX5_secret_24 ?_
  refine b_calli w (va_runV (As := []) (rest := []) X (c_X3_countHiddenSlots l hl0 G _ (h := sO) (qv := qv) (qh := qh) (hid := hdn fA nA fJ nJ (uB sc (140 * p0 + (10 * a + i)) b) p0 u20_5 hid) ) (cwV 0 hts gX5_secret_X3_countHiddenSlots rfl rfl rfl (by decide +kernel) ⟨Nat.le_of_ble_eq_true rfl, Nat.le_of_ble_eq_true rfl⟩) ⟨b_blind, b_recv E w (ci := 3) (q0 := 9) rfl rfl, (fun U9 hU9 hW9 => ⟨rfl, b_pre E Z w [9, 11] (by decide) rfl b_nil U9 hU9 hW9⟩)⟩ rfl rfl hl.1 rfl (lv_room (Nat.le_of_ble_eq_true rfl)) dX5_secret_27 ⟨Nat.le_of_ble_eq_true rfl, Nat.le_of_ble_eq_true rfl⟩) b_nil [] (fun _ => rfl) rfl (fun r27_6 u27_6 H locs hr27_6 w => ?_)
  have w : bSt G vwCl [qs, qv, qh] s [(H0, .inr (5, [.ref tA, .ref tJ, .ref gO, .ref dO, .ref bO, .ref sO, .ref qs, .ref qr, .int (nI jd), .int (nI snt), .int (nI td)])), (tA, .inr (4, [.ref oA, .int (nI 10), .int (nI nA)])), (oA, .inl (G.2.1, 14, .inl fA)), (tJ, .inr (4, [.ref oJ, .int (nI 1), .int (nI nJ)])), (oJ, .inl (G.2.1, 10, .inl fJ)), (bO, .inr (1, [.ref ql, .ref qe, .ref qn, .ref qt, .ref qc, .ref qd, .ref qf, .int (nI bn)])), (qc, .inl (G.2.1, 300, .inl bc)), (qd, .inl (G.2.1, 300, .inl bd)), (qf, .inl (G.2.1, 300, .inl bf)), (sO, .inr (3, [.ref qv, .ref qh])), (qv, .inl (G.2.1, 140, .inl u20_5)), (qh, .inl (G.2.2.1, 140, .inl (zB (hdn fA nA fJ nJ (uB sc (140 * p0 + (10 * a + i)) b) p0 u20_5 hid)))), (qs, .inl (G.2.2.1, 1680, .inl (zB (uB sc (140 * p0 + (10 * a + i)) b))))] _ _ := w
  subst hr27_6
  refine vx_ret ?_
  exact W.iret (v := nI (cH (fun _ => true) (hdn fA nA fJ nJ (uB sc (140 * p0 + (10 * a + i)) b) p0 u20_5 hid) 140)) hx hb hr (fun t9 ht9 hW9 => ⟨⟨nI (cH (fun _ => true) (hdn fA nA fJ nJ (uB sc (140 * p0 + (10 * a + i)) b) p0 u20_5 hid) 140), u20_5, rfl, ⟨h1, by rw [ep]; exact hu0, by rw [ep, eN]⟩, by show va_P G.1 vwCl _ t9.heap; rw [ht9]; exact b_cg (by rw [ep, eN]) (w.1.sub (ws' := [(qs, .inl (G.2.2.1, 1680, .inl (zB (uB sc (140 * p0 + (10 * a + i)) b)))), (qv, .inl (G.2.1, 140, .inl u20_5)), (qh, .inl (G.2.2.1, 140, .inl (zB (hdn fA nA fJ nJ (uB sc (140 * p0 + (10 * a + i)) b) p0 u20_5 hid))))]) [12, 10, 11] rfl)⟩, w.2.1.F ht9⟩) w.2.1.2.2 dX5_secret_30
