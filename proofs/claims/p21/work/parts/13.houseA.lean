set_option maxHeartbeats 4000000 in
set_option maxRecDepth 100000 in
theorem c_X5_isPeriod (l : Launch) (hl0 : l.stackTraces = false) (G : bG) (sz : Nat) (x : Int32) : Met l yX5_isPeriod wsX5_isPeriod ({ frames := 0, cells := 0, slots := 0, locals := 0 }) (va_Pc [.int x] (bPre G vwCl bNW bSW sz [] [])) (va_Qi (fun (r : Int32) (_ : Unit) => r = bI (tHas 12 x)) (fun (_ : Unit) (tS : State) => va_P G.1 vwCl [] tS.heap) (Aw [] sz)) 0 0 (Aw [] sz) := by
  refine Met.ofW (cc := cX5_isPeriod) (maxL := 1) (ret := (some .boolean)) (by decide) rfl ?_
  intro p e s m args below meth c s₁ B hml hv
  obtain ⟨rfl, hsz, hP, hD, E, Z⟩ := hv
  have hts := atoms_spec (ws := wsX5_isPeriod) B.pre
  have hown : s.vm.findClass RX5 = some m.cls := findClass_of_methodNamed B.named
  have X : CallFix p m c cX5_isPeriod 1 s _ wsX5_isPeriod RX5 := ⟨B.exec, B.bytes, hml, hown, hts⟩
  have hx := B.exec
  have hb := B.bytes
  have hr := B.returns
  have hlocks := B.notSynchronized
  subst hsz
  have w : bSt G vwCl [] s [] s.heap [] := ⟨hP, va_S.rf, hD⟩
  have Z0 : bZ [] s := ⟨Z.1.narrow (fun q h => h.elim (fun h => nomatch h) Or.inr), Z.2.narrow (fun q h => h.elim (fun h => nomatch h) Or.inr)⟩
  have hl := lv_entry ([.int x]) (n := 1) (Nat.le_of_ble_eq_true rfl)
  rw [lg_entry_eq]
  generalize (lg_sl ([.int x]) ++ List.replicate (1 - (lg_sl ([.int x])).length) Slot.unset).toArray = ls at hl ⊢
  have hl : lv_has ls 1 [(0, .int x)] := hl
  refine lv_iload_n hx hb dX5_isPeriod_0 rfl (lv_at hl 0 rfl) ?_
  refine lv_if_lt (tgt := 14) hx hb dX5_isPeriod_1 (by decide) (fun c_1_3 => ?_) (fun c_1_3 => ?_)
  · refine lv_iconst (v := nI 0) hx hb dX5_isPeriod_14 (by decide) ?_
    exact W.zret (v := nI 0) hx hb hr rfl (fun t9 ht9 hW9 => ⟨⟨nI 0, (), rfl, bI_zero (by simp [tHas, c_1_3]), fun k q h => by cases k <;> cases h⟩, w.2.1.F ht9⟩) w.2.1.2.2 dX5_isPeriod_15
  · refine lv_iload_n hx hb dX5_isPeriod_4 rfl (lv_at hl 0 rfl) ?_
    refine lv_bipush (v := nI 12) hx hb dX5_isPeriod_5 (by decide) ?_
    refine lv_icmp_ge (tgt := 14) hx hb dX5_isPeriod_7 (by decide) (fun c_7_4 => ?_) (fun c_7_4 => ?_)
    · refine lv_iconst (v := nI 0) hx hb dX5_isPeriod_14 (by decide) ?_
      exact W.zret (v := nI 0) hx hb hr rfl (fun t9 ht9 hW9 => ⟨⟨nI 0, (), rfl, bI_zero (by simp [tHas, c_1_3, c_7_4]), fun k q h => by cases k <;> cases h⟩, w.2.1.F ht9⟩) w.2.1.2.2 dX5_isPeriod_15
    · refine lv_iconst (v := nI 1) hx hb dX5_isPeriod_10 (by decide) ?_
      refine lv_goto (tgt := 15) hx hb dX5_isPeriod_11 (by decide) ?_
      exact W.zret (v := nI 1) hx hb hr rfl (fun t9 ht9 hW9 => ⟨⟨nI 1, (), rfl, bI_one (by simp [tHas, c_1_3, c_7_4]), fun k q h => by cases k <;> cases h⟩, w.2.1.F ht9⟩) w.2.1.2.2 dX5_isPeriod_15
set_option maxHeartbeats 4000000 in
set_option maxRecDepth 100000 in
theorem c_X5_requireSender (l : Launch) (hl0 : l.stackTraces = false) (G : bG) (sz : Nat) (x : Int32) : vx_Met l yX5_requireSender wsX5_requireSender ({ frames := 6, cells := 1, slots := 6, locals := 90 }) (va_Pc [.int x] (bPre G vwCl bNW bSW sz [] [])) (va_Qv (fun (_ : Unit) => tHas 4 x = true) (fun (_ : Unit) (tS : State) => va_P G.1 vwCl [] tS.heap) (Aw [] sz)) (bX (fun E => E = xIO ∧ tHas 4 x = false) sz) 1 6 (Aw [] sz) := by
  refine vx_ofW (cc := cX5_requireSender) (maxL := 1) (ret := none) (by decide) rfl ?_
  intro p e s m args below meth c s₁ B hml hxt hv
  obtain ⟨rfl, hsz, hP, hD, E, Z⟩ := hv
  have hts := atoms_spec (ws := wsX5_requireSender) B.pre
  have hown : s.vm.findClass RX5 = some m.cls := findClass_of_methodNamed B.named
  have X : CallFix p m c cX5_requireSender 1 s _ wsX5_requireSender RX5 := ⟨B.exec, B.bytes, hml, hown, hts⟩
  have hx := B.exec
  have hb := B.bytes
  have hr := B.returns
  have hlocks := B.notSynchronized
  subst hsz
  have w : bSt G vwCl [] s [] s.heap [] := ⟨hP, va_S.rf, hD⟩
  have Z0 : bZ [] s := ⟨Z.1.narrow (fun q h => h.elim (fun h => nomatch h) Or.inr), Z.2.narrow (fun q h => h.elim (fun h => nomatch h) Or.inr)⟩
  have hl := lv_entry ([.int x]) (n := 1) (Nat.le_of_ble_eq_true rfl)
  rw [lg_entry_eq]
  generalize (lg_sl ([.int x]) ++ List.replicate (1 - (lg_sl ([.int x])).length) Slot.unset).toArray = ls at hl ⊢
  have hl : lv_has ls 1 [(0, .int x)] := hl
  refine lv_iload_n hx hb dX5_requireSender_0 rfl (lv_at hl 0 rfl) ?_
  refine lv_if_lt (tgt := 9) hx hb dX5_requireSender_1 (by decide) (fun c_1_3 => ?_) (fun c_1_3 => ?_)
  · have hE : tHas 4 x = false := tHas_lo c_1_3
    exact b_throw (cls := "java/lang/IndexOutOfBoundsException") (text := "no such sender") (ik := 129) (is := 206) (ic := 133) X E Z0 hl0 hxt hlocks w (⟨rfl, hE⟩) hl.1 (by decide) (by decide +kernel) (by decide +kernel) (by decide +kernel) (by decide +kernel) (by decide +kernel) (by decide +kernel) (by decide +kernel) dX5_requireSender_9 dX5_requireSender_12 dX5_requireSender_13 dX5_requireSender_15 dX5_requireSender_18 (Nat.le_of_ble_eq_true rfl) (Nat.le_of_ble_eq_true rfl) (Nat.le_of_ble_eq_true rfl) (Nat.le_of_ble_eq_true rfl) (by decide) (by decide)
  · have c1 := c_1_3
    refine lv_iload_n hx hb dX5_requireSender_4 rfl (lv_at hl 0 rfl) ?_
    refine lv_iconst (v := nI 4) hx hb dX5_requireSender_5 (by decide) ?_
    refine lv_icmp_lt (tgt := 19) hx hb dX5_requireSender_6 (by decide) (fun c_6_4 => ?_) (fun c_6_4 => ?_)
    · have hE := tHas_lt c1 c_6_4
      refine W.widen (k := 1) (n := 6) (by decide) (by decide) ?_
      refine vx_ret ?_
      exact W.vret hx hb hr (fun t9 ht9 hW9 => ⟨⟨(), rfl, hE, fun k q h => by cases k <;> cases h⟩, w.2.1.F ht9⟩) w.2.1.2.2 dX5_requireSender_19
    · have hE := tHas_hi c_6_4
      exact b_throw (cls := "java/lang/IndexOutOfBoundsException") (text := "no such sender") (ik := 129) (is := 206) (ic := 133) X E Z0 hl0 hxt hlocks w (⟨rfl, hE⟩) hl.1 (by decide) (by decide +kernel) (by decide +kernel) (by decide +kernel) (by decide +kernel) (by decide +kernel) (by decide +kernel) (by decide +kernel) dX5_requireSender_9 dX5_requireSender_12 dX5_requireSender_13 dX5_requireSender_15 dX5_requireSender_18 (Nat.le_of_ble_eq_true rfl) (Nat.le_of_ble_eq_true rfl) (Nat.le_of_ble_eq_true rfl) (Nat.le_of_ble_eq_true rfl) (by decide) (by decide)
set_option maxHeartbeats 4000000 in
set_option maxRecDepth 100000 in
theorem c_X5_requireNumberOrNone (l : Launch) (hl0 : l.stackTraces = false) (G : bG) (sz : Nat) (th o str n : Nat) (x : Int32) : vx_Met l yX5_requireNumberOrNone wsX5_requireNumberOrNone ({ frames := 6, cells := 1, slots := 6, locals := 90 }) (va_Pc [.ref th, .int x] (bPre G vwCl bNW bSW sz [(th, .inr (4, [.ref o, .int (nI str), .int (nI n)]))] [])) (va_Qv (fun (_ : Unit) => tPat n x = true) (fun (_ : Unit) (tS : State) => va_P G.1 vwCl [] tS.heap) (Aw [] sz)) (bX (fun E => E = xIO ∧ tPat n x = false) sz) 1 6 (Aw [] sz) := by
  refine vx_ofW (cc := cX5_requireNumberOrNone) (maxL := 2) (ret := none) (by decide) rfl ?_
  intro p e s m args below meth c s₁ B hml hxt hv
  obtain ⟨rfl, hsz, hP, hD, E, Z⟩ := hv
  have hts := atoms_spec (ws := wsX5_requireNumberOrNone) B.pre
  have hown : s.vm.findClass RX5 = some m.cls := findClass_of_methodNamed B.named
  have X : CallFix p m c cX5_requireNumberOrNone 2 s _ wsX5_requireNumberOrNone RX5 := ⟨B.exec, B.bytes, hml, hown, hts⟩
  have hx := B.exec
  have hb := B.bytes
  have hr := B.returns
  have hlocks := B.notSynchronized
  subst hsz
  have w : bSt G vwCl [] s [(th, .inr (4, [.ref o, .int (nI str), .int (nI n)]))] s.heap [] := ⟨hP, va_S.rf, hD⟩
  have Z0 : bZ [] s := ⟨Z.1.narrow (fun q h => h.elim (fun h => nomatch h) Or.inr), Z.2.narrow (fun q h => h.elim (fun h => nomatch h) Or.inr)⟩
  have hl := lv_entry ([.ref th, .int x]) (n := 2) (Nat.le_of_ble_eq_true rfl)
  rw [lg_entry_eq]
  generalize (lg_sl ([.ref th, .int x]) ++ List.replicate (2 - (lg_sl ([.ref th, .int x])).length) Slot.unset).toArray = ls at hl ⊢
  have hl : lv_has ls 2 [(0, .ref th), (1, .int x)] := hl
  refine lv_iload_n hx hb dX5_requireNumberOrNone_0 rfl (lv_at hl 1 rfl) ?_
  refine lv_iconst (v := -1) hx hb dX5_requireNumberOrNone_1 (by decide) ?_
  refine lv_icmp_eq (tgt := 23) hx hb dX5_requireNumberOrNone_2 (by decide) (fun c_2_5 => ?_) (fun c_2_5 => ?_)
  · refine W.widen (k := 1) (n := 6) (by decide) (by decide) ?_
    refine vx_ret ?_
    exact W.vret hx hb hr (fun t9 ht9 hW9 => ⟨⟨(), rfl, by simp [tPat, c_2_5], fun k q h => by cases k <;> cases h⟩, w.2.1.F ht9⟩) w.2.1.2.2 dX5_requireNumberOrNone_23
  · have c2 := c_2_5
    refine lv_aload_n hx hb dX5_requireNumberOrNone_5 rfl (lv_at hl 0 rfl) ?_
    refine lv_iload_n hx hb dX5_requireNumberOrNone_6 rfl (lv_at hl 1 rfl) ?_
    refine b_calli w (va_runV (As := [.int x]) (rest := []) X (c_X4_has l hl0 G _ (h := th) (x := x) (o := o) (str := str) (n := n) ) (cwV 1 hts gX5_requireNumberOrNone_X4_has rfl rfl rfl (by decide +kernel) ⟨Nat.le_of_ble_eq_true rfl, Nat.le_of_ble_eq_true rfl⟩) ⟨b_blind, b_recv E w (ci := 4) (q0 := 0) rfl rfl, (fun U9 hU9 hW9 => ⟨rfl, b_pre E Z0 w [0] (by decide) rfl b_nil U9 hU9 hW9⟩)⟩ rfl rfl hl.1 rfl (lv_room (Nat.le_of_ble_eq_true rfl)) dX5_requireNumberOrNone_7 ⟨Nat.le_of_ble_eq_true rfl, Nat.le_of_ble_eq_true rfl⟩) b_nil [] (fun _ => rfl) rfl (fun r7_6 u7_6 H locs hr7_6 w => ?_)
    have w : bSt G vwCl [] s [(th, .inr (4, [.ref o, .int (nI str), .int (nI n)]))] _ _ := w
    subst hr7_6
    refine lv_if_ne (tgt := 23) hx hb dX5_requireNumberOrNone_10 (by decide) (fun c_10_7 => ?_) (fun c_10_7 => ?_)
    · have q_10_8 : (tHas n x) = true := bI_n0.mp c_10_7
      refine W.widen (k := 1) (n := 6) (by decide) (by decide) ?_
      refine vx_ret ?_
      exact W.vret hx hb hr (fun t9 ht9 hW9 => ⟨⟨(), rfl, by simp [tPat, c_2_5, q_10_8], fun k q h => by cases k <;> cases h⟩, w.2.1.F ht9⟩) w.2.1.2.2 dX5_requireNumberOrNone_23
    · have q_10_8 : (tHas n x) = false := bI_0.mp c_10_7
      exact b_throw (cls := "java/lang/IndexOutOfBoundsException") (text := "no such area or item") (ik := 129) (is := 211) (ic := 133) X E Z0 hl0 hxt hlocks w (⟨rfl, by simp [tPat, c_2_5, q_10_8]⟩) hl.1 (by decide) (by decide +kernel) (by decide +kernel) (by decide +kernel) (by decide +kernel) (by decide +kernel) (by decide +kernel) (by decide +kernel) dX5_requireNumberOrNone_13 dX5_requireNumberOrNone_16 dX5_requireNumberOrNone_17 dX5_requireNumberOrNone_19 dX5_requireNumberOrNone_22 (Nat.le_of_ble_eq_true rfl) (Nat.le_of_ble_eq_true rfl) (Nat.le_of_ble_eq_true rfl) (Nat.le_of_ble_eq_true rfl) (by decide) (by decide)
set_option maxHeartbeats 4000000 in
set_option maxRecDepth 100000 in
theorem c_X5_requireRoom (l : Launch) (hl0 : l.stackTraces = false) (G : bG) (sz : Nat) (th o : Nat) (cap str n : Nat) (f : Nat → Int32) (hn : n ≤ 100) (hc : cap ≤ 100) : vx_Met l yX5_requireRoom wsX5_requireRoom ({ frames := 6, cells := 1, slots := 6, locals := 90 }) (va_Pc [.ref th] (bPre G vwCl bNW bSW sz [(th, .inr (4, [.ref o, .int (nI str), .int (nI n)])), (o, .inl (G.2.1, cap, .inl f))] [])) (va_Qv (fun (_ : Unit) => n < cap) (fun (_ : Unit) (tS : State) => va_P G.1 vwCl [] tS.heap) (Aw [] sz)) (bX (fun E => E = xIS ∧ cap ≤ n) sz) 1 6 (Aw [] sz) := by
  refine vx_ofW (cc := cX5_requireRoom) (maxL := 1) (ret := none) (by decide) rfl ?_
  intro p e s m args below meth c s₁ B hml hxt hv
  obtain ⟨rfl, hsz, hP, hD, E, Z⟩ := hv
  have hts := atoms_spec (ws := wsX5_requireRoom) B.pre
  have hown : s.vm.findClass RX5 = some m.cls := findClass_of_methodNamed B.named
  have X : CallFix p m c cX5_requireRoom 1 s _ wsX5_requireRoom RX5 := ⟨B.exec, B.bytes, hml, hown, hts⟩
  have hx := B.exec
  have hb := B.bytes
  have hr := B.returns
  have hlocks := B.notSynchronized
  subst hsz
  have w : bSt G vwCl [] s [(th, .inr (4, [.ref o, .int (nI str), .int (nI n)])), (o, .inl (G.2.1, cap, .inl f))] s.heap [] := ⟨hP, va_S.rf, hD⟩
  have Z0 : bZ [] s := ⟨Z.1.narrow (fun q h => h.elim (fun h => nomatch h) Or.inr), Z.2.narrow (fun q h => h.elim (fun h => nomatch h) Or.inr)⟩
  have hl := lv_entry ([.ref th]) (n := 1) (Nat.le_of_ble_eq_true rfl)
  rw [lg_entry_eq]
  generalize (lg_sl ([.ref th]) ++ List.replicate (1 - (lg_sl ([.ref th])).length) Slot.unset).toArray = ls at hl ⊢
  have hl : lv_has ls 1 [(0, .ref th)] := hl
  refine lv_aload_n hx hb dX5_requireRoom_0 rfl (lv_at hl 0 rfl) ?_
  refine b_calli w (va_runV (As := []) (rest := []) X (c_X4_isFull l hl0 G _ (h := th) (o := o) (str := str) (n := n) (cap := cap) (f := f) (hn := (by first | assumption | omega)) (hc := (by first | assumption | omega))) (cwV 0 hts gX5_requireRoom_X4_isFull rfl rfl rfl (by decide +kernel) ⟨Nat.le_of_ble_eq_true rfl, Nat.le_of_ble_eq_true rfl⟩) ⟨b_blind, b_recv E w (ci := 4) (q0 := 0) rfl rfl, (fun U9 hU9 hW9 => ⟨rfl, b_pre E Z0 w [0, 1] (by decide) rfl b_nil U9 hU9 hW9⟩)⟩ rfl rfl hl.1 rfl (lv_room (Nat.le_of_ble_eq_true rfl)) dX5_requireRoom_1 ⟨Nat.le_of_ble_eq_true rfl, Nat.le_of_ble_eq_true rfl⟩) b_nil [] (fun _ => rfl) rfl (fun r1_4 u1_4 H locs hr1_4 w => ?_)
  have w : bSt G vwCl [] s [(th, .inr (4, [.ref o, .int (nI str), .int (nI n)])), (o, .inl (G.2.1, cap, .inl f))] _ _ := w
  subst hr1_4
  refine lv_if_eq (tgt := 17) hx hb dX5_requireRoom_4 (by decide) (fun c_4_5 => ?_) (fun c_4_5 => ?_)
  · have q_4_6 : (decide (cap ≤ n)) = false := bI_0.mp c_4_5
    have hE := q_4_6
    refine W.widen (k := 1) (n := 6) (by decide) (by decide) ?_
    refine vx_ret ?_
    exact W.vret hx hb hr (fun t9 ht9 hW9 => ⟨⟨(), rfl, by simpa using hE, fun k q h => by cases k <;> cases h⟩, w.2.1.F ht9⟩) w.2.1.2.2 dX5_requireRoom_17
  · have q_4_6 : (decide (cap ≤ n)) = true := bI_n0.mp c_4_5
    have hE := q_4_6
    exact b_throw (cls := "java/lang/IllegalStateException") (text := "no more areas or items") (ik := 99) (is := 214) (ic := 103) X E Z0 hl0 hxt hlocks w (⟨rfl, by simpa using hE⟩) hl.1 (by decide) (by decide +kernel) (by decide +kernel) (by decide +kernel) (by decide +kernel) (by decide +kernel) (by decide +kernel) (by decide +kernel) dX5_requireRoom_7 dX5_requireRoom_10 dX5_requireRoom_11 dX5_requireRoom_13 dX5_requireRoom_16 (Nat.le_of_ble_eq_true rfl) (Nat.le_of_ble_eq_true rfl) (Nat.le_of_ble_eq_true rfl) (Nat.le_of_ble_eq_true rfl) (by decide) (by decide)
set_option maxHeartbeats 4000000 in
set_option maxRecDepth 100000 in
theorem c_X5_requireArea (l : Launch) (hl0 : l.stackTraces = false) (G : bG) (sz : Nat) (H0 tA tJ gO dO bO sO qs qr jd snt td : Nat) (oA nA : Nat) (x : Int32) : vx_Met l yX5_requireArea wsX5_requireArea ({ frames := 6, cells := 1, slots := 6, locals := 90 }) (va_Pc [.ref H0, .int x] (bPre G vwCl bNW bSW sz [(H0, .inr (5, [.ref tA, .ref tJ, .ref gO, .ref dO, .ref bO, .ref sO, .ref qs, .ref qr, .int (nI jd), .int (nI snt), .int (nI td)])), (tA, .inr (4, [.ref oA, .int (nI 10), .int (nI nA)]))] [])) (va_Qv (fun (_ : Unit) => tHas nA x = true) (fun (_ : Unit) (tS : State) => va_P G.1 vwCl [] tS.heap) (Aw [] sz)) (bX (fun E => E = xIO ∧ tHas nA x = false) sz) 1 6 (Aw [] sz) := by
  refine vx_ofW (cc := cX5_requireArea) (maxL := 2) (ret := none) (by decide) rfl ?_
  intro p e s m args below meth c s₁ B hml hxt hv
  obtain ⟨rfl, hsz, hP, hD, E, Z⟩ := hv
  have hts := atoms_spec (ws := wsX5_requireArea) B.pre
  have hown : s.vm.findClass RX5 = some m.cls := findClass_of_methodNamed B.named
  have X : CallFix p m c cX5_requireArea 2 s _ wsX5_requireArea RX5 := ⟨B.exec, B.bytes, hml, hown, hts⟩
  have hx := B.exec
  have hb := B.bytes
  have hr := B.returns
  have hlocks := B.notSynchronized
  subst hsz
  have w : bSt G vwCl [] s [(H0, .inr (5, [.ref tA, .ref tJ, .ref gO, .ref dO, .ref bO, .ref sO, .ref qs, .ref qr, .int (nI jd), .int (nI snt), .int (nI td)])), (tA, .inr (4, [.ref oA, .int (nI 10), .int (nI nA)]))] s.heap [] := ⟨hP, va_S.rf, hD⟩
  have Z0 : bZ [] s := ⟨Z.1.narrow (fun q h => h.elim (fun h => nomatch h) Or.inr), Z.2.narrow (fun q h => h.elim (fun h => nomatch h) Or.inr)⟩
  have iX5 : ∀ w ∈ wsX50, w ∈ wsX5_requireArea := by decide +kernel
  have hl := lv_entry ([.ref H0, .int x]) (n := 2) (Nat.le_of_ble_eq_true rfl)
  rw [lg_entry_eq]
  generalize (lg_sl ([.ref H0, .int x]) ++ List.replicate (2 - (lg_sl ([.ref H0, .int x])).length) Slot.unset).toArray = ls at hl ⊢
  have hl : lv_has ls 2 [(0, .ref H0), (1, .int x)] := hl
  refine lv_aload_n hx hb dX5_requireArea_0 rfl (lv_at hl 0 rfl) ?_
  refine b_get X E w 0 rfl rfl 0 (by decide) iX5 (by decide +kernel) rfl rfl dX5_requireArea_1 ?_
  refine lv_iload_n hx hb dX5_requireArea_4 rfl (lv_at hl 1 rfl) ?_
  refine b_calli w (va_runV (As := [.int x]) (rest := []) X (c_X4_has l hl0 G _ (h := tA) (x := x) (o := oA) (str := 10) (n := nA) ) (cwV 1 hts gX5_requireArea_X4_has rfl rfl rfl (by decide +kernel) ⟨Nat.le_of_ble_eq_true rfl, Nat.le_of_ble_eq_true rfl⟩) ⟨b_blind, b_recv E w (ci := 4) (q0 := 1) rfl rfl, (fun U9 hU9 hW9 => ⟨rfl, b_pre E Z0 w [1] (by decide) rfl b_nil U9 hU9 hW9⟩)⟩ rfl rfl hl.1 rfl (lv_room (Nat.le_of_ble_eq_true rfl)) dX5_requireArea_5 ⟨Nat.le_of_ble_eq_true rfl, Nat.le_of_ble_eq_true rfl⟩) b_nil [] (fun _ => rfl) rfl (fun r5_4 u5_4 H locs hr5_4 w => ?_)
  have w : bSt G vwCl [] s [(H0, .inr (5, [.ref tA, .ref tJ, .ref gO, .ref dO, .ref bO, .ref sO, .ref qs, .ref qr, .int (nI jd), .int (nI snt), .int (nI td)])), (tA, .inr (4, [.ref oA, .int (nI 10), .int (nI nA)]))] _ _ := w
  subst hr5_4
  refine lv_if_ne (tgt := 21) hx hb dX5_requireArea_8 (by decide) (fun c_8_5 => ?_) (fun c_8_5 => ?_)
  · have q_8_6 : (tHas nA x) = true := bI_n0.mp c_8_5
    refine W.widen (k := 1) (n := 6) (by decide) (by decide) ?_
    refine vx_ret ?_
    exact W.vret hx hb hr (fun t9 ht9 hW9 => ⟨⟨(), rfl, q_8_6, fun k q h => by cases k <;> cases h⟩, w.2.1.F ht9⟩) w.2.1.2.2 dX5_requireArea_21
  · have q_8_6 : (tHas nA x) = false := bI_0.mp c_8_5
    exact b_throw (cls := "java/lang/IndexOutOfBoundsException") (text := "no such area") (ik := 129) (is := 216) (ic := 133) X E Z0 hl0 hxt hlocks w (⟨rfl, q_8_6⟩) hl.1 (by decide) (by decide +kernel) (by decide +kernel) (by decide +kernel) (by decide +kernel) (by decide +kernel) (by decide +kernel) (by decide +kernel) dX5_requireArea_11 dX5_requireArea_14 dX5_requireArea_15 dX5_requireArea_17 dX5_requireArea_20 (Nat.le_of_ble_eq_true rfl) (Nat.le_of_ble_eq_true rfl) (Nat.le_of_ble_eq_true rfl) (Nat.le_of_ble_eq_true rfl) (by decide) (by decide)
set_option maxHeartbeats 4000000 in
set_option maxRecDepth 100000 in
theorem c_X5_slotOf_r (l : Launch) (hl0 : l.stackTraces = false) (G : bG) (sz : Nat) (a i : Int32) : Met l yX5_slotOf wsX5_slotOf ({ frames := 0, cells := 0, slots := 0, locals := 0 }) (va_Pc [.int a, .int i] (bPre G vwCl bNW bSW sz [] [])) (va_Qi (fun (r : Int32) (_ : Unit) => r = a * nI 10 + i) (fun (_ : Unit) (tS : State) => va_P G.1 vwCl [] tS.heap) (Aw [] sz)) 0 0 (Aw [] sz) := by
  refine Met.ofW (cc := cX5_slotOf) (maxL := 2) (ret := (some .int)) (by decide) rfl ?_
  intro p e s m args below meth c s₁ B hml hv
  obtain ⟨rfl, hsz, hP, hD, E, Z⟩ := hv
  have hts := atoms_spec (ws := wsX5_slotOf) B.pre
  have hown : s.vm.findClass RX5 = some m.cls := findClass_of_methodNamed B.named
  have X : CallFix p m c cX5_slotOf 2 s _ wsX5_slotOf RX5 := ⟨B.exec, B.bytes, hml, hown, hts⟩
  have hx := B.exec
  have hb := B.bytes
  have hr := B.returns
  have hlocks := B.notSynchronized
  subst hsz
  have w : bSt G vwCl [] s [] s.heap [] := ⟨hP, va_S.rf, hD⟩
  have Z0 : bZ [] s := ⟨Z.1.narrow (fun q h => h.elim (fun h => nomatch h) Or.inr), Z.2.narrow (fun q h => h.elim (fun h => nomatch h) Or.inr)⟩
  have hl := lv_entry ([.int a, .int i]) (n := 2) (Nat.le_of_ble_eq_true rfl)
  rw [lg_entry_eq]
  generalize (lg_sl ([.int a, .int i]) ++ List.replicate (2 - (lg_sl ([.int a, .int i])).length) Slot.unset).toArray = ls at hl ⊢
  have hl : lv_has ls 2 [(0, .int a), (1, .int i)] := hl
  refine lv_iload_n hx hb dX5_slotOf_0 rfl (lv_at hl 0 rfl) ?_
  refine lv_bipush (v := nI 10) hx hb dX5_slotOf_1 (by decide) ?_
  refine lv_imul hx hb dX5_slotOf_3 ?_
  refine lv_iload_n hx hb dX5_slotOf_4 rfl (lv_at hl 1 rfl) ?_
  refine lv_iadd hx hb dX5_slotOf_5 ?_
  exact W.iret (v := (a * (nI 10)) + i) hx hb hr (fun t9 ht9 hW9 => ⟨⟨(a * (nI 10)) + i, (), rfl, rfl, fun k q h => by cases k <;> cases h⟩, w.2.1.F ht9⟩) w.2.1.2.2 dX5_slotOf_6
set_option maxHeartbeats 4000000 in
set_option maxRecDepth 100000 in
theorem c_X5_cellOf_r (l : Launch) (hl0 : l.stackTraces = false) (G : bG) (sz : Nat) (a i pq : Int32) : Met l yX5_cellOf wsX5_cellOf ({ frames := 1, cells := 0, slots := 0, locals := 21 }) (va_Pc [.int a, .int i, .int pq] (bPre G vwCl bNW bSW sz [] [])) (va_Qi (fun (r : Int32) (_ : Unit) => r = cellI a i pq) (fun (_ : Unit) (tS : State) => va_P G.1 vwCl [] tS.heap) (Aw [] sz)) 0 0 (Aw [] sz) := by
  refine Met.ofW (cc := cX5_cellOf) (maxL := 3) (ret := (some .int)) (by decide) rfl ?_
  intro p e s m args below meth c s₁ B hml hv
  obtain ⟨rfl, hsz, hP, hD, E, Z⟩ := hv
  have hts := atoms_spec (ws := wsX5_cellOf) B.pre
  have hown : s.vm.findClass RX5 = some m.cls := findClass_of_methodNamed B.named
  have X : CallFix p m c cX5_cellOf 3 s _ wsX5_cellOf RX5 := ⟨B.exec, B.bytes, hml, hown, hts⟩
  have hx := B.exec
  have hb := B.bytes
  have hr := B.returns
  have hlocks := B.notSynchronized
  subst hsz
  have w : bSt G vwCl [] s [] s.heap [] := ⟨hP, va_S.rf, hD⟩
  have Z0 : bZ [] s := ⟨Z.1.narrow (fun q h => h.elim (fun h => nomatch h) Or.inr), Z.2.narrow (fun q h => h.elim (fun h => nomatch h) Or.inr)⟩
  have hl := lv_entry ([.int a, .int i, .int pq]) (n := 3) (Nat.le_of_ble_eq_true rfl)
  rw [lg_entry_eq]
  generalize (lg_sl ([.int a, .int i, .int pq]) ++ List.replicate (3 - (lg_sl ([.int a, .int i, .int pq])).length) Slot.unset).toArray = ls at hl ⊢
  have hl : lv_has ls 3 [(0, .int a), (1, .int i), (2, .int pq)] := hl
  refine lv_iload_n hx hb dX5_cellOf_0 rfl (lv_at hl 2 rfl) ?_
  refine lv_sipush (v := nI 140) hx hb dX5_cellOf_1 (by decide) ?_
  refine lv_imul hx hb dX5_cellOf_4 ?_
  refine lv_iload_n hx hb dX5_cellOf_5 rfl (lv_at hl 0 rfl) ?_
  refine lv_iload_n hx hb dX5_cellOf_6 rfl (lv_at hl 1 rfl) ?_
  refine b_calli w (va_runS (As := [.int a, .int i]) (rest := [.int (pq * (nI 140))]) X (c_X5_slotOf_r l hl0 G _ (a := a) (i := i) ) (va_cwS 2 hts gX5_cellOf_X5_slotOf rfl rfl rfl (by decide +kernel) ⟨Nat.le_of_ble_eq_true rfl, Nat.le_of_ble_eq_true rfl⟩) ⟨b_blind, (fun U9 hU9 hW9 => ⟨rfl, b_pre E Z0 w [] (by decide) rfl b_nil U9 hU9 hW9⟩)⟩ rfl rfl hl.1 rfl (lv_room (Nat.le_of_ble_eq_true rfl)) dX5_cellOf_7 ⟨Nat.le_of_ble_eq_true rfl, Nat.le_of_ble_eq_true rfl⟩) b_nil [] (fun _ => rfl) rfl (fun r7_2 u7_2 H locs hr7_2 w => ?_)
  have w : bSt G vwCl [] s [] _ _ := w
  subst hr7_2
  refine lv_iadd hx hb dX5_cellOf_10 ?_
  exact W.iret (v := (pq * (nI 140)) + (a * nI 10 + i)) hx hb hr (fun t9 ht9 hW9 => ⟨⟨(pq * (nI 140)) + (a * nI 10 + i), (), rfl, rfl, fun k q h => by cases k <;> cases h⟩, w.2.1.F ht9⟩) w.2.1.2.2 dX5_cellOf_11
set_option maxHeartbeats 4000000 in
set_option maxRecDepth 100000 in
theorem c_X5_cellOf (l : Launch) (hl0 : l.stackTraces = false) (G : bG) (sz : Nat) (a i pq : Nat) : Met l yX5_cellOf wsX5_cellOf ({ frames := 1, cells := 0, slots := 0, locals := 21 }) (va_Pc [.int (nI a), .int (nI i), .int (nI pq)] (bPre G vwCl bNW bSW sz [] [])) (va_Qi (fun (r : Int32) (_ : Unit) => r = nI (140 * pq + (10 * a + i))) (fun (_ : Unit) (tS : State) => va_P G.1 vwCl [] tS.heap) (Aw [] sz)) 0 0 (Aw [] sz) := by
  refine Met.ofW (cc := cX5_cellOf) (maxL := 3) (ret := (some .int)) (by decide) rfl ?_
  intro p e s m args below meth c s₁ B hml hv
  obtain ⟨rfl, hsz, hP, hD, E, Z⟩ := hv
  have hts := atoms_spec (ws := wsX5_cellOf) B.pre
  have hown : s.vm.findClass RX5 = some m.cls := findClass_of_methodNamed B.named
  have X : CallFix p m c cX5_cellOf 3 s _ wsX5_cellOf RX5 := ⟨B.exec, B.bytes, hml, hown, hts⟩
  have hx := B.exec
  have hb := B.bytes
  have hr := B.returns
  have hlocks := B.notSynchronized
  subst hsz
  have w : bSt G vwCl [] s [] s.heap [] := ⟨hP, va_S.rf, hD⟩
  have Z0 : bZ [] s := ⟨Z.1.narrow (fun q h => h.elim (fun h => nomatch h) Or.inr), Z.2.narrow (fun q h => h.elim (fun h => nomatch h) Or.inr)⟩
  have hl := lv_entry ([.int (nI a), .int (nI i), .int (nI pq)]) (n := 3) (Nat.le_of_ble_eq_true rfl)
  rw [lg_entry_eq]
  generalize (lg_sl ([.int (nI a), .int (nI i), .int (nI pq)]) ++ List.replicate (3 - (lg_sl ([.int (nI a), .int (nI i), .int (nI pq)])).length) Slot.unset).toArray = ls at hl ⊢
  have hl : lv_has ls 3 [(0, .int (nI a)), (1, .int (nI i)), (2, .int (nI pq))] := hl
  refine lv_iload_n hx hb dX5_cellOf_0 rfl (lv_at hl 2 rfl) ?_
  refine lv_sipush (v := nI 140) hx hb dX5_cellOf_1 (by decide) ?_
  refine lv_imul hx hb dX5_cellOf_4 ?_
  refine b_tp (show (nI pq) * (nI 140) = nI (140 * pq) from mulc pq 140) ?_
  refine lv_iload_n hx hb dX5_cellOf_5 rfl (lv_at hl 0 rfl) ?_
  refine lv_iload_n hx hb dX5_cellOf_6 rfl (lv_at hl 1 rfl) ?_
  refine b_calli w (va_runS (As := [.int (nI a), .int (nI i)]) (rest := [.int (nI (140 * pq))]) X (c_X5_slotOf l hl0 G _ (a := a) (i := i) ) (va_cwS 2 hts gX5_cellOf_X5_slotOf rfl rfl rfl (by decide +kernel) ⟨Nat.le_of_ble_eq_true rfl, Nat.le_of_ble_eq_true rfl⟩) ⟨b_blind, (fun U9 hU9 hW9 => ⟨rfl, b_pre E Z0 w [] (by decide) rfl b_nil U9 hU9 hW9⟩)⟩ rfl rfl hl.1 rfl (lv_room (Nat.le_of_ble_eq_true rfl)) dX5_cellOf_7 ⟨Nat.le_of_ble_eq_true rfl, Nat.le_of_ble_eq_true rfl⟩) b_nil [] (fun _ => rfl) rfl (fun r7_2 u7_2 H locs hr7_2 w => ?_)
  have w : bSt G vwCl [] s [] _ _ := w
  subst hr7_2
  refine lv_iadd hx hb dX5_cellOf_10 ?_
  refine b_tp (show (nI (140 * pq)) + (nI (10 * a + i)) = nI ((140 * pq) + (10 * a + i)) from nI_add (140 * pq) (10 * a + i)) ?_
  exact W.iret (v := nI ((140 * pq) + (10 * a + i))) hx hb hr (fun t9 ht9 hW9 => ⟨⟨nI ((140 * pq) + (10 * a + i)), (), rfl, rfl, fun k q h => by cases k <;> cases h⟩, w.2.1.F ht9⟩) w.2.1.2.2 dX5_cellOf_11
set_option maxHeartbeats 4000000 in
set_option maxRecDepth 100000 in
theorem c_X5_requireCell (l : Launch) (hl0 : l.stackTraces = false) (G : bG) (sz : Nat) (H0 tA tJ gO dO bO sO qs qr jd snt td : Nat) (oA nA : Nat) (oJ nJ : Nat) (x y z : Int32) : vx_Met l yX5_requireCell wsX5_requireCell ({ frames := 6, cells := 1, slots := 6, locals := 90 }) (va_Pc [.ref H0, .int x, .int y, .int z] (bPre G vwCl bNW bSW sz [(H0, .inr (5, [.ref tA, .ref tJ, .ref gO, .ref dO, .ref bO, .ref sO, .ref qs, .ref qr, .int (nI jd), .int (nI snt), .int (nI td)])), (tA, .inr (4, [.ref oA, .int (nI 10), .int (nI nA)])), (tJ, .inr (4, [.ref oJ, .int (nI 1), .int (nI nJ)]))] [])) (va_Qi (fun (r : Int32) (_ : Unit) => r = cellI x y z ∧ (okC nA nJ x y z = true)) (fun (_ : Unit) (tS : State) => va_P G.1 vwCl [] tS.heap) (Aw [] sz)) (bX (fun E => E = xIO ∧ okC nA nJ x y z = false) sz) 1 6 (Aw [] sz) := by
  refine vx_ofW (cc := cX5_requireCell) (maxL := 4) (ret := (some .int)) (by decide) rfl ?_
  intro p e s m args below meth c s₁ B hml hxt hv
  obtain ⟨rfl, hsz, hP, hD, E, Z⟩ := hv
  have hts := atoms_spec (ws := wsX5_requireCell) B.pre
  have hown : s.vm.findClass RX5 = some m.cls := findClass_of_methodNamed B.named
  have X : CallFix p m c cX5_requireCell 4 s _ wsX5_requireCell RX5 := ⟨B.exec, B.bytes, hml, hown, hts⟩
  have hx := B.exec
  have hb := B.bytes
  have hr := B.returns
  have hlocks := B.notSynchronized
  subst hsz
  have w : bSt G vwCl [] s [(H0, .inr (5, [.ref tA, .ref tJ, .ref gO, .ref dO, .ref bO, .ref sO, .ref qs, .ref qr, .int (nI jd), .int (nI snt), .int (nI td)])), (tA, .inr (4, [.ref oA, .int (nI 10), .int (nI nA)])), (tJ, .inr (4, [.ref oJ, .int (nI 1), .int (nI nJ)]))] s.heap [] := ⟨hP, va_S.rf, hD⟩
  have Z0 : bZ [] s := ⟨Z.1.narrow (fun q h => h.elim (fun h => nomatch h) Or.inr), Z.2.narrow (fun q h => h.elim (fun h => nomatch h) Or.inr)⟩
  have iX5 : ∀ w ∈ wsX50, w ∈ wsX5_requireCell := by decide +kernel
  have hl := lv_entry ([.ref H0, .int x, .int y, .int z]) (n := 4) (Nat.le_of_ble_eq_true rfl)
  rw [lg_entry_eq]
  generalize (lg_sl ([.ref H0, .int x, .int y, .int z]) ++ List.replicate (4 - (lg_sl ([.ref H0, .int x, .int y, .int z])).length) Slot.unset).toArray = ls at hl ⊢
  have hl : lv_has ls 4 [(0, .ref H0), (1, .int x), (2, .int y), (3, .int z)] := hl
  refine lv_aload_n hx hb dX5_requireCell_0 rfl (lv_at hl 0 rfl) ?_
  refine b_get X E w 0 rfl rfl 0 (by decide) iX5 (by decide +kernel) rfl rfl dX5_requireCell_1 ?_
  refine lv_iload_n hx hb dX5_requireCell_4 rfl (lv_at hl 1 rfl) ?_
  refine b_calli w (va_runV (As := [.int x]) (rest := []) X (c_X4_has l hl0 G _ (h := tA) (x := x) (o := oA) (str := 10) (n := nA) ) (cwV 1 hts gX5_requireCell_X4_has rfl rfl rfl (by decide +kernel) ⟨Nat.le_of_ble_eq_true rfl, Nat.le_of_ble_eq_true rfl⟩) ⟨b_blind, b_recv E w (ci := 4) (q0 := 1) rfl rfl, (fun U9 hU9 hW9 => ⟨rfl, b_pre E Z0 w [1] (by decide) rfl b_nil U9 hU9 hW9⟩)⟩ rfl rfl hl.1 rfl (lv_room (Nat.le_of_ble_eq_true rfl)) dX5_requireCell_5 ⟨Nat.le_of_ble_eq_true rfl, Nat.le_of_ble_eq_true rfl⟩) b_nil [] (fun _ => rfl) rfl (fun r5_11 u5_11 H locs hr5_11 w => ?_)
  have w : bSt G vwCl [] s [(H0, .inr (5, [.ref tA, .ref tJ, .ref gO, .ref dO, .ref bO, .ref sO, .ref qs, .ref qr, .int (nI jd), .int (nI snt), .int (nI td)])), (tA, .inr (4, [.ref oA, .int (nI 10), .int (nI nA)])), (tJ, .inr (4, [.ref oJ, .int (nI 1), .int (nI nJ)]))] _ _ := w
  subst hr5_11
  refine lv_if_eq (tgt := 29) hx hb dX5_requireCell_8 (by decide) (fun c_8_12 => ?_) (fun c_8_12 => ?_)
  · have q_8_13 : (tHas nA x) = false := bI_0.mp c_8_12
    exact b_throw (cls := "java/lang/IndexOutOfBoundsException") (text := "no such area, item or period") (ik := 129) (is := 218) (ic := 133) X E Z0 hl0 hxt hlocks w (⟨rfl, by simp [okC, q_8_13]⟩) hl.1 (by decide) (by decide +kernel) (by decide +kernel) (by decide +kernel) (by decide +kernel) (by decide +kernel) (by decide +kernel) (by decide +kernel) dX5_requireCell_29 dX5_requireCell_32 dX5_requireCell_33 dX5_requireCell_35 dX5_requireCell_38 (Nat.le_of_ble_eq_true rfl) (Nat.le_of_ble_eq_true rfl) (Nat.le_of_ble_eq_true rfl) (Nat.le_of_ble_eq_true rfl) (by decide) (by decide)
  · have q_8_13 : (tHas nA x) = true := bI_n0.mp c_8_12
    refine lv_aload_n hx hb dX5_requireCell_11 rfl (lv_at hl 0 rfl) ?_
    refine b_get X E w 0 rfl rfl 1 (by decide) iX5 (by decide +kernel) rfl rfl dX5_requireCell_12 ?_
    refine lv_iload_n hx hb dX5_requireCell_15 rfl (lv_at hl 2 rfl) ?_
    refine b_calli w (va_runV (As := [.int y]) (rest := []) X (c_X4_has l hl0 G _ (h := tJ) (x := y) (o := oJ) (str := 1) (n := nJ) ) (cwV 1 hts gX5_requireCell_X4_has rfl rfl rfl (by decide +kernel) ⟨Nat.le_of_ble_eq_true rfl, Nat.le_of_ble_eq_true rfl⟩) ⟨b_blind, b_recv E w (ci := 4) (q0 := 2) rfl rfl, (fun U9 hU9 hW9 => ⟨rfl, b_pre E Z0 w [2] (by decide) rfl b_nil U9 hU9 hW9⟩)⟩ rfl rfl hl.1 rfl (lv_room (Nat.le_of_ble_eq_true rfl)) dX5_requireCell_16 ⟨Nat.le_of_ble_eq_true rfl, Nat.le_of_ble_eq_true rfl⟩) b_nil [] (fun _ => rfl) rfl (fun r16_14 u16_14 H locs hr16_14 w => ?_)
    have w : bSt G vwCl [] s [(H0, .inr (5, [.ref tA, .ref tJ, .ref gO, .ref dO, .ref bO, .ref sO, .ref qs, .ref qr, .int (nI jd), .int (nI snt), .int (nI td)])), (tA, .inr (4, [.ref oA, .int (nI 10), .int (nI nA)])), (tJ, .inr (4, [.ref oJ, .int (nI 1), .int (nI nJ)]))] _ _ := w
    subst hr16_14
    refine lv_if_eq (tgt := 29) hx hb dX5_requireCell_19 (by decide) (fun c_19_15 => ?_) (fun c_19_15 => ?_)
    · have q_19_16 : (tHas nJ y) = false := bI_0.mp c_19_15
      exact b_throw (cls := "java/lang/IndexOutOfBoundsException") (text := "no such area, item or period") (ik := 129) (is := 218) (ic := 133) X E Z0 hl0 hxt hlocks w (⟨rfl, by simp [okC, q_8_13, q_19_16]⟩) hl.1 (by decide) (by decide +kernel) (by decide +kernel) (by decide +kernel) (by decide +kernel) (by decide +kernel) (by decide +kernel) (by decide +kernel) dX5_requireCell_29 dX5_requireCell_32 dX5_requireCell_33 dX5_requireCell_35 dX5_requireCell_38 (Nat.le_of_ble_eq_true rfl) (Nat.le_of_ble_eq_true rfl) (Nat.le_of_ble_eq_true rfl) (Nat.le_of_ble_eq_true rfl) (by decide) (by decide)
    · have q_19_16 : (tHas nJ y) = true := bI_n0.mp c_19_15
      refine lv_iload_n hx hb dX5_requireCell_22 rfl (lv_at hl 3 rfl) ?_
      refine b_calli w (va_runS (As := [.int z]) (rest := []) X (c_X5_isPeriod l hl0 G _ (x := z) ) (va_cwS 1 hts gX5_requireCell_X5_isPeriod rfl rfl rfl (by decide +kernel) ⟨Nat.le_of_ble_eq_true rfl, Nat.le_of_ble_eq_true rfl⟩) ⟨b_blind, (fun U9 hU9 hW9 => ⟨rfl, b_pre E Z0 w [] (by decide) rfl b_nil U9 hU9 hW9⟩)⟩ rfl rfl hl.1 rfl (lv_room (Nat.le_of_ble_eq_true rfl)) dX5_requireCell_23 ⟨Nat.le_of_ble_eq_true rfl, Nat.le_of_ble_eq_true rfl⟩) b_nil [] (fun _ => rfl) rfl (fun r23_17 u23_17 H locs hr23_17 w => ?_)
      have w : bSt G vwCl [] s [(H0, .inr (5, [.ref tA, .ref tJ, .ref gO, .ref dO, .ref bO, .ref sO, .ref qs, .ref qr, .int (nI jd), .int (nI snt), .int (nI td)])), (tA, .inr (4, [.ref oA, .int (nI 10), .int (nI nA)])), (tJ, .inr (4, [.ref oJ, .int (nI 1), .int (nI nJ)]))] _ _ := w
      subst hr23_17
      refine lv_if_ne (tgt := 39) hx hb dX5_requireCell_26 (by decide) (fun c_26_18 => ?_) (fun c_26_18 => ?_)
      · have q_26_19 : (tHas 12 z) = true := bI_n0.mp c_26_18
        refine lv_iload_n hx hb dX5_requireCell_39 rfl (lv_at hl 1 rfl) ?_
        refine lv_iload_n hx hb dX5_requireCell_40 rfl (lv_at hl 2 rfl) ?_
        refine lv_iload_n hx hb dX5_requireCell_41 rfl (lv_at hl 3 rfl) ?_
        refine b_calli w (va_runS (As := [.int x, .int y, .int z]) (rest := []) X (c_X5_cellOf_r l hl0 G _ (a := x) (i := y) (pq := z) ) (va_cwS 3 hts gX5_requireCell_X5_cellOf rfl rfl rfl (by decide +kernel) ⟨Nat.le_of_ble_eq_true rfl, Nat.le_of_ble_eq_true rfl⟩) ⟨b_blind, (fun U9 hU9 hW9 => ⟨rfl, b_pre E Z0 w [] (by decide) rfl b_nil U9 hU9 hW9⟩)⟩ rfl rfl hl.1 rfl (lv_room (Nat.le_of_ble_eq_true rfl)) dX5_requireCell_42 ⟨Nat.le_of_ble_eq_true rfl, Nat.le_of_ble_eq_true rfl⟩) b_nil [] (fun _ => rfl) rfl (fun r42_20 u42_20 H locs hr42_20 w => ?_)
        have w : bSt G vwCl [] s [(H0, .inr (5, [.ref tA, .ref tJ, .ref gO, .ref dO, .ref bO, .ref sO, .ref qs, .ref qr, .int (nI jd), .int (nI snt), .int (nI td)])), (tA, .inr (4, [.ref oA, .int (nI 10), .int (nI nA)])), (tJ, .inr (4, [.ref oJ, .int (nI 1), .int (nI nJ)]))] _ _ := w
        subst hr42_20
        refine W.widen (k := 1) (n := 6) (by decide) (by decide) ?_
        refine vx_ret ?_
        exact W.iret (v := cellI x y z) hx hb hr (fun t9 ht9 hW9 => ⟨⟨cellI x y z, (), rfl, ⟨rfl, by simp [okC, q_8_13, q_19_16, q_26_19]⟩, fun k q h => by cases k <;> cases h⟩, w.2.1.F ht9⟩) w.2.1.2.2 dX5_requireCell_45
      · have q_26_19 : (tHas 12 z) = false := bI_0.mp c_26_18
        exact b_throw (cls := "java/lang/IndexOutOfBoundsException") (text := "no such area, item or period") (ik := 129) (is := 218) (ic := 133) X E Z0 hl0 hxt hlocks w (⟨rfl, by simp [okC, q_8_13, q_19_16, q_26_19]⟩) hl.1 (by decide) (by decide +kernel) (by decide +kernel) (by decide +kernel) (by decide +kernel) (by decide +kernel) (by decide +kernel) (by decide +kernel) dX5_requireCell_29 dX5_requireCell_32 dX5_requireCell_33 dX5_requireCell_35 dX5_requireCell_38 (Nat.le_of_ble_eq_true rfl) (Nat.le_of_ble_eq_true rfl) (Nat.le_of_ble_eq_true rfl) (Nat.le_of_ble_eq_true rfl) (by decide) (by decide)
set_option maxHeartbeats 4000000 in
set_option maxRecDepth 100000 in
theorem c_X5_requireDay (l : Launch) (hl0 : l.stackTraces = false) (G : bG) (sz : Nat) (H0 tA tJ gO dO bO sO qs qr jd snt td : Nat) (x : Int32) : vx_Met l yX5_requireDay wsX5_requireDay ({ frames := 6, cells := 1, slots := 6, locals := 90 }) (va_Pc [.ref H0, .int x] (bPre G vwCl bNW bSW sz [(H0, .inr (5, [.ref tA, .ref tJ, .ref gO, .ref dO, .ref bO, .ref sO, .ref qs, .ref qr, .int (nI jd), .int (nI snt), .int (nI td)]))] [])) (va_Qv (fun (_ : Unit) => dOk td x = true) (fun (_ : Unit) (tS : State) => va_P G.1 vwCl [] tS.heap) (Aw [] sz)) (bX (fun E => E = xIA ∧ dOk td x = false) sz) 1 6 (Aw [] sz) := by
  refine vx_ofW (cc := cX5_requireDay) (maxL := 2) (ret := none) (by decide) rfl ?_
  intro p e s m args below meth c s₁ B hml hxt hv
  obtain ⟨rfl, hsz, hP, hD, E, Z⟩ := hv
  have hts := atoms_spec (ws := wsX5_requireDay) B.pre
  have hown : s.vm.findClass RX5 = some m.cls := findClass_of_methodNamed B.named
  have X : CallFix p m c cX5_requireDay 2 s _ wsX5_requireDay RX5 := ⟨B.exec, B.bytes, hml, hown, hts⟩
  have hx := B.exec
  have hb := B.bytes
  have hr := B.returns
  have hlocks := B.notSynchronized
  subst hsz
  have w : bSt G vwCl [] s [(H0, .inr (5, [.ref tA, .ref tJ, .ref gO, .ref dO, .ref bO, .ref sO, .ref qs, .ref qr, .int (nI jd), .int (nI snt), .int (nI td)]))] s.heap [] := ⟨hP, va_S.rf, hD⟩
  have Z0 : bZ [] s := ⟨Z.1.narrow (fun q h => h.elim (fun h => nomatch h) Or.inr), Z.2.narrow (fun q h => h.elim (fun h => nomatch h) Or.inr)⟩
  have iX5 : ∀ w ∈ wsX50, w ∈ wsX5_requireDay := by decide +kernel
  have hl := lv_entry ([.ref H0, .int x]) (n := 2) (Nat.le_of_ble_eq_true rfl)
  rw [lg_entry_eq]
  generalize (lg_sl ([.ref H0, .int x]) ++ List.replicate (2 - (lg_sl ([.ref H0, .int x])).length) Slot.unset).toArray = ls at hl ⊢
  have hl : lv_has ls 2 [(0, .ref H0), (1, .int x)] := hl
  refine lv_iload_n hx hb dX5_requireDay_0 rfl (lv_at hl 1 rfl) ?_
  refine lv_if_lt (tgt := 12) hx hb dX5_requireDay_1 (by decide) (fun c_1_3 => ?_) (fun c_1_3 => ?_)
  · exact b_throw (cls := "java/lang/IllegalArgumentException") (text := "day is out of range") (ik := 84) (is := 223) (ic := 88) X E Z0 hl0 hxt hlocks w (⟨rfl, by simp [dOk, c_1_3]⟩) hl.1 (by decide) (by decide +kernel) (by decide +kernel) (by decide +kernel) (by decide +kernel) (by decide +kernel) (by decide +kernel) (by decide +kernel) dX5_requireDay_12 dX5_requireDay_15 dX5_requireDay_16 dX5_requireDay_18 dX5_requireDay_21 (Nat.le_of_ble_eq_true rfl) (Nat.le_of_ble_eq_true rfl) (Nat.le_of_ble_eq_true rfl) (Nat.le_of_ble_eq_true rfl) (by decide) (by decide)
  · refine lv_iload_n hx hb dX5_requireDay_4 rfl (lv_at hl 1 rfl) ?_
    refine lv_aload_n hx hb dX5_requireDay_5 rfl (lv_at hl 0 rfl) ?_
    refine b_get X E w 0 rfl rfl 10 (by decide) iX5 (by decide +kernel) rfl rfl dX5_requireDay_6 ?_
    refine lv_icmp_le (tgt := 22) hx hb dX5_requireDay_9 (by decide) (fun c_9_4 => ?_) (fun c_9_4 => ?_)
    · refine W.widen (k := 1) (n := 6) (by decide) (by decide) ?_
      refine vx_ret ?_
      exact W.vret hx hb hr (fun t9 ht9 hW9 => ⟨⟨(), rfl, by simp [dOk, c_1_3, c_9_4], fun k q h => by cases k <;> cases h⟩, w.2.1.F ht9⟩) w.2.1.2.2 dX5_requireDay_22
    · exact b_throw (cls := "java/lang/IllegalArgumentException") (text := "day is out of range") (ik := 84) (is := 223) (ic := 88) X E Z0 hl0 hxt hlocks w (⟨rfl, by simp [dOk, c_1_3, c_9_4]⟩) hl.1 (by decide) (by decide +kernel) (by decide +kernel) (by decide +kernel) (by decide +kernel) (by decide +kernel) (by decide +kernel) (by decide +kernel) dX5_requireDay_12 dX5_requireDay_15 dX5_requireDay_16 dX5_requireDay_18 dX5_requireDay_21 (Nat.le_of_ble_eq_true rfl) (Nat.le_of_ble_eq_true rfl) (Nat.le_of_ble_eq_true rfl) (Nat.le_of_ble_eq_true rfl) (by decide) (by decide)
set_option maxHeartbeats 4000000 in
set_option maxRecDepth 100000 in
theorem c_X5_isOtherSum (l : Launch) (hl0 : l.stackTraces = false) (G : bG) (sz : Nat) (x y : Int32) : Met l yX5_isOtherSum wsX5_isOtherSum ({ frames := 0, cells := 0, slots := 0, locals := 0 }) (va_Pc [.int x, .int y] (bPre G vwCl bNW bSW sz [] [])) (va_Qi (fun (r : Int32) (_ : Unit) => r = bI (iOS x y)) (fun (_ : Unit) (tS : State) => va_P G.1 vwCl [] tS.heap) (Aw [] sz)) 0 0 (Aw [] sz) := by
  refine Met.ofW (cc := cX5_isOtherSum) (maxL := 2) (ret := (some .boolean)) (by decide) rfl ?_
  intro p e s m args below meth c s₁ B hml hv
  obtain ⟨rfl, hsz, hP, hD, E, Z⟩ := hv
  have hts := atoms_spec (ws := wsX5_isOtherSum) B.pre
  have hown : s.vm.findClass RX5 = some m.cls := findClass_of_methodNamed B.named
  have X : CallFix p m c cX5_isOtherSum 2 s _ wsX5_isOtherSum RX5 := ⟨B.exec, B.bytes, hml, hown, hts⟩
  have hx := B.exec
  have hb := B.bytes
  have hr := B.returns
  have hlocks := B.notSynchronized
  subst hsz
  have w : bSt G vwCl [] s [] s.heap [] := ⟨hP, va_S.rf, hD⟩
  have Z0 : bZ [] s := ⟨Z.1.narrow (fun q h => h.elim (fun h => nomatch h) Or.inr), Z.2.narrow (fun q h => h.elim (fun h => nomatch h) Or.inr)⟩
  have hl := lv_entry ([.int x, .int y]) (n := 2) (Nat.le_of_ble_eq_true rfl)
  rw [lg_entry_eq]
  generalize (lg_sl ([.int x, .int y]) ++ List.replicate (2 - (lg_sl ([.int x, .int y])).length) Slot.unset).toArray = ls at hl ⊢
  have hl : lv_has ls 2 [(0, .int x), (1, .int y)] := hl
  refine lv_iload_n hx hb dX5_isOtherSum_0 rfl (lv_at hl 0 rfl) ?_
  refine lv_ldc (v := MIS) hx hb hown (hts (.constant RX5 173 (-2000000001)) (by decide +kernel)) dX5_isOtherSum_1 ?_
  refine lv_icmp_eq (tgt := 15) hx hb dX5_isOtherSum_3 (by decide) (fun c_3_3 => ?_) (fun c_3_3 => ?_)
  · refine lv_iconst (v := nI 0) hx hb dX5_isOtherSum_15 (by decide) ?_
    exact W.zret (v := nI 0) hx hb hr rfl (fun t9 ht9 hW9 => ⟨⟨nI 0, (), rfl, bI_zero (by simp [iOS, c_3_3]), fun k q h => by cases k <;> cases h⟩, w.2.1.F ht9⟩) w.2.1.2.2 dX5_isOtherSum_16
  · refine lv_iload_n hx hb dX5_isOtherSum_6 rfl (lv_at hl 0 rfl) ?_
    refine lv_iload_n hx hb dX5_isOtherSum_7 rfl (lv_at hl 1 rfl) ?_
    refine lv_icmp_eq (tgt := 15) hx hb dX5_isOtherSum_8 (by decide) (fun c_8_4 => ?_) (fun c_8_4 => ?_)
    · refine lv_iconst (v := nI 0) hx hb dX5_isOtherSum_15 (by decide) ?_
      exact W.zret (v := nI 0) hx hb hr rfl (fun t9 ht9 hW9 => ⟨⟨nI 0, (), rfl, bI_zero (by simp [iOS, c_3_3, c_8_4]), fun k q h => by cases k <;> cases h⟩, w.2.1.F ht9⟩) w.2.1.2.2 dX5_isOtherSum_16
    · refine lv_iconst (v := nI 1) hx hb dX5_isOtherSum_11 (by decide) ?_
      refine lv_goto (tgt := 16) hx hb dX5_isOtherSum_12 (by decide) ?_
      exact W.zret (v := nI 1) hx hb hr rfl (fun t9 ht9 hW9 => ⟨⟨nI 1, (), rfl, bI_one (by simp [iOS, c_3_3, c_8_4]), fun k q h => by cases k <;> cases h⟩, w.2.1.F ht9⟩) w.2.1.2.2 dX5_isOtherSum_16
