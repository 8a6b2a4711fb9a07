set_option maxHeartbeats 4000000 in
set_option maxRecDepth 100000 in
theorem c_X6_thrown (l : Launch) (hl0 : l.stackTraces = false) (G : bG) (sz : Nat) (M yA yJ yg yw yc yv yr yC yD yF yS yV yH td nA nJ dn snt jd bn : Nat) (th : Int32) : Met l yX6_thrown wsX6_thrown ({ frames := 0, cells := 0, slots := 0, locals := 0 }) (va_Pc [.ref M] (bPre G vwCl bNW bSW sz [(M, .inr (6, [.int (nI td), .int (nI nA), .int (nI nJ), .ref yA, .ref yJ, .ref yg, .int (nI dn), .ref yw, .ref yc, .ref yv, .int (nI snt), .int (nI jd), .ref yr, .int (nI bn), .ref yC, .ref yD, .ref yF, .ref yS, .ref yV, .ref yH, .int th]))] [])) (va_Qi (fun (r : Int32) (_ : Unit) => r = th) (fun (_ : Unit) (tS : State) => va_P G.1 vwCl [] tS.heap) (Aw [] sz)) 0 0 (Aw [] sz) := by
  refine Met.ofW (cc := cX6_thrown) (maxL := 1) (ret := (some .int)) (by decide) rfl ?_
  intro p e s m args below meth c s₁ B hml hv
  obtain ⟨rfl, hsz, hP, hD, E, Z⟩ := hv
  have hts := atoms_spec (ws := wsX6_thrown) B.pre
  have hown : s.vm.findClass RX6 = some m.cls := findClass_of_methodNamed B.named
  have X : CallFix p m c cX6_thrown 1 s _ wsX6_thrown RX6 := ⟨B.exec, B.bytes, hml, hown, hts⟩
  have hx := B.exec
  have hb := B.bytes
  have hr := B.returns
  have hlocks := B.notSynchronized
  subst hsz
  have w : bSt G vwCl [] s [(M, .inr (6, [.int (nI td), .int (nI nA), .int (nI nJ), .ref yA, .ref yJ, .ref yg, .int (nI dn), .ref yw, .ref yc, .ref yv, .int (nI snt), .int (nI jd), .ref yr, .int (nI bn), .ref yC, .ref yD, .ref yF, .ref yS, .ref yV, .ref yH, .int th]))] s.heap [] := ⟨hP, va_S.rf, hD⟩
  have Z0 : bZ [] s := ⟨Z.1.narrow (fun q h => h.elim (fun h => nomatch h) Or.inr), Z.2.narrow (fun q h => h.elim (fun h => nomatch h) Or.inr)⟩
  have iX6 : ∀ w ∈ wsX60, w ∈ wsX6_thrown := by decide +kernel
  have hl := lv_entry ([.ref M]) (n := 1) (Nat.le_of_ble_eq_true rfl)
  rw [lg_entry_eq]
  generalize (lg_sl ([.ref M]) ++ List.replicate (1 - (lg_sl ([.ref M])).length) Slot.unset).toArray = ls at hl ⊢
  have hl : lv_has ls 1 [(0, .ref M)] := hl
  refine lv_aload_n hx hb dX6_thrown_0 rfl (lv_at hl 0 rfl) ?_
  refine b_get X E w 0 rfl rfl 20 (by decide) iX6 (by decide +kernel) rfl rfl dX6_thrown_1 ?_
  exact W.iret (v := th) hx hb hr (fun t9 ht9 hW9 => ⟨⟨th, (), rfl, rfl, fun k q h => by cases k <;> cases h⟩, w.2.1.F ht9⟩) w.2.1.2.2 dX6_thrown_4
set_option maxHeartbeats 4000000 in
set_option maxRecDepth 100000 in
theorem c_X6_isIn (l : Launch) (hl0 : l.stackTraces = false) (G : bG) (sz : Nat) (x lo hi : Int32) : Met l yX6_isIn wsX6_isIn ({ frames := 0, cells := 0, slots := 0, locals := 0 }) (va_Pc [.int x, .int lo, .int hi] (bPre G vwCl bNW bSW sz [] [])) (va_Qi (fun (r : Int32) (_ : Unit) => r = bI (tIn x lo hi)) (fun (_ : Unit) (tS : State) => va_P G.1 vwCl [] tS.heap) (Aw [] sz)) 0 0 (Aw [] sz) := by
  refine Met.ofW (cc := cX6_isIn) (maxL := 3) (ret := (some .boolean)) (by decide) rfl ?_
  intro p e s m args below meth c s₁ B hml hv
  obtain ⟨rfl, hsz, hP, hD, E, Z⟩ := hv
  have hts := atoms_spec (ws := wsX6_isIn) B.pre
  have hown : s.vm.findClass RX6 = some m.cls := findClass_of_methodNamed B.named
  have X : CallFix p m c cX6_isIn 3 s _ wsX6_isIn RX6 := ⟨B.exec, B.bytes, hml, hown, hts⟩
  have hx := B.exec
  have hb := B.bytes
  have hr := B.returns
  have hlocks := B.notSynchronized
  subst hsz
  have w : bSt G vwCl [] s [] s.heap [] := ⟨hP, va_S.rf, hD⟩
  have Z0 : bZ [] s := ⟨Z.1.narrow (fun q h => h.elim (fun h => nomatch h) Or.inr), Z.2.narrow (fun q h => h.elim (fun h => nomatch h) Or.inr)⟩
  have hl := lv_entry ([.int x, .int lo, .int hi]) (n := 3) (Nat.le_of_ble_eq_true rfl)
  rw [lg_entry_eq]
  generalize (lg_sl ([.int x, .int lo, .int hi]) ++ List.replicate (3 - (lg_sl ([.int x, .int lo, .int hi])).length) Slot.unset).toArray = ls at hl ⊢
  have hl : lv_has ls 3 [(0, .int x), (1, .int lo), (2, .int hi)] := hl
  refine lv_iload_n hx hb dX6_isIn_0 rfl (lv_at hl 0 rfl) ?_
  refine lv_iload_n hx hb dX6_isIn_1 rfl (lv_at hl 1 rfl) ?_
  refine lv_icmp_lt (tgt := 14) hx hb dX6_isIn_2 (by decide) (fun c_2_3 => ?_) (fun c_2_3 => ?_)
  · refine lv_iconst (v := nI 0) hx hb dX6_isIn_14 (by decide) ?_
    exact W.zret (v := nI 0) hx hb hr rfl (fun t9 ht9 hW9 => ⟨⟨nI 0, (), rfl, bI_zero (by simp [tIn, c_2_3]), fun k q h => by cases k <;> cases h⟩, w.2.1.F ht9⟩) w.2.1.2.2 dX6_isIn_15
  · refine lv_iload_n hx hb dX6_isIn_5 rfl (lv_at hl 0 rfl) ?_
    refine lv_iload_n hx hb dX6_isIn_6 rfl (lv_at hl 2 rfl) ?_
    refine lv_icmp_gt (tgt := 14) hx hb dX6_isIn_7 (by decide) (fun c_7_4 => ?_) (fun c_7_4 => ?_)
    · refine lv_iconst (v := nI 0) hx hb dX6_isIn_14 (by decide) ?_
      exact W.zret (v := nI 0) hx hb hr rfl (fun t9 ht9 hW9 => ⟨⟨nI 0, (), rfl, bI_zero (by simp [tIn, c_2_3, c_7_4]), fun k q h => by cases k <;> cases h⟩, w.2.1.F ht9⟩) w.2.1.2.2 dX6_isIn_15
    · refine lv_iconst (v := nI 1) hx hb dX6_isIn_10 (by decide) ?_
      refine lv_goto (tgt := 15) hx hb dX6_isIn_11 (by decide) ?_
      exact W.zret (v := nI 1) hx hb hr rfl (fun t9 ht9 hW9 => ⟨⟨nI 1, (), rfl, bI_one (by simp [tIn, c_2_3, c_7_4]), fun k q h => by cases k <;> cases h⟩, w.2.1.F ht9⟩) w.2.1.2.2 dX6_isIn_15
set_option maxHeartbeats 4000000 in
set_option maxRecDepth 100000 in
theorem c_X6_isArea (l : Launch) (hl0 : l.stackTraces = false) (G : bG) (sz : Nat) (M yA yJ yg yw yc yv yr yC yD yF yS yV yH td nA nJ dn snt jd bn : Nat) (th : Int32) (x : Int32) (hnA : nA ≤ 14) : Met l yX6_isArea wsX6_isArea ({ frames := 1, cells := 0, slots := 0, locals := 22 }) (va_Pc [.ref M, .int x] (bPre G vwCl bNW bSW sz [(M, .inr (6, [.int (nI td), .int (nI nA), .int (nI nJ), .ref yA, .ref yJ, .ref yg, .int (nI dn), .ref yw, .ref yc, .ref yv, .int (nI snt), .int (nI jd), .ref yr, .int (nI bn), .ref yC, .ref yD, .ref yF, .ref yS, .ref yV, .ref yH, .int th]))] [])) (va_Qi (fun (r : Int32) (_ : Unit) => r = bI (tHas nA x)) (fun (_ : Unit) (tS : State) => va_P G.1 vwCl [] tS.heap) (Aw [] sz)) 0 0 (Aw [] sz) := by
  refine Met.ofW (cc := cX6_isArea) (maxL := 2) (ret := (some .boolean)) (by decide) rfl ?_
  intro p e s m args below meth c s₁ B hml hv
  obtain ⟨rfl, hsz, hP, hD, E, Z⟩ := hv
  have hts := atoms_spec (ws := wsX6_isArea) B.pre
  have hown : s.vm.findClass RX6 = some m.cls := findClass_of_methodNamed B.named
  have X : CallFix p m c cX6_isArea 2 s _ wsX6_isArea RX6 := ⟨B.exec, B.bytes, hml, hown, hts⟩
  have hx := B.exec
  have hb := B.bytes
  have hr := B.returns
  have hlocks := B.notSynchronized
  subst hsz
  have w : bSt G vwCl [] s [(M, .inr (6, [.int (nI td), .int (nI nA), .int (nI nJ), .ref yA, .ref yJ, .ref yg, .int (nI dn), .ref yw, .ref yc, .ref yv, .int (nI snt), .int (nI jd), .ref yr, .int (nI bn), .ref yC, .ref yD, .ref yF, .ref yS, .ref yV, .ref yH, .int th]))] s.heap [] := ⟨hP, va_S.rf, hD⟩
  have Z0 : bZ [] s := ⟨Z.1.narrow (fun q h => h.elim (fun h => nomatch h) Or.inr), Z.2.narrow (fun q h => h.elim (fun h => nomatch h) Or.inr)⟩
  have iX6 : ∀ w ∈ wsX60, w ∈ wsX6_isArea := by decide +kernel
  have hl := lv_entry ([.ref M, .int x]) (n := 2) (Nat.le_of_ble_eq_true rfl)
  rw [lg_entry_eq]
  generalize (lg_sl ([.ref M, .int x]) ++ List.replicate (2 - (lg_sl ([.ref M, .int x])).length) Slot.unset).toArray = ls at hl ⊢
  have hl : lv_has ls 2 [(0, .ref M), (1, .int x)] := hl
  refine lv_iload_n hx hb dX6_isArea_0 rfl (lv_at hl 1 rfl) ?_
  refine lv_iconst (v := nI 0) hx hb dX6_isArea_1 (by decide) ?_
  refine lv_aload_n hx hb dX6_isArea_2 rfl (lv_at hl 0 rfl) ?_
  refine b_get X E w 0 rfl rfl 1 (by decide) iX6 (by decide +kernel) rfl rfl dX6_isArea_3 ?_
  refine lv_iconst (v := nI 1) hx hb dX6_isArea_6 (by decide) ?_
  refine lv_isub hx hb dX6_isArea_7 ?_
  refine b_calli w (va_runS (As := [.int x, .int (nI 0), .int ((nI nA) - (nI 1))]) (rest := []) X (c_X6_isIn l hl0 G _ (x := x) (lo := nI 0) (hi := (nI nA) - (nI 1)) ) (va_cwS 3 hts gX6_isArea_X6_isIn rfl rfl rfl (by decide +kernel) ⟨Nat.le_of_ble_eq_true rfl, Nat.le_of_ble_eq_true rfl⟩) ⟨b_blind, (fun U9 hU9 hW9 => ⟨rfl, b_pre E Z0 w [] (by decide) rfl b_nil U9 hU9 hW9⟩)⟩ rfl rfl hl.1 rfl (lv_room (Nat.le_of_ble_eq_true rfl)) dX6_isArea_8 ⟨Nat.le_of_ble_eq_true rfl, Nat.le_of_ble_eq_true rfl⟩) b_nil [] (fun _ => rfl) rfl (fun r8_2 u8_2 H locs hr8_2 w => ?_)
  have w : bSt G vwCl [] s [(M, .inr (6, [.int (nI td), .int (nI nA), .int (nI nJ), .ref yA, .ref yJ, .ref yg, .int (nI dn), .ref yw, .ref yc, .ref yv, .int (nI snt), .int (nI jd), .ref yr, .int (nI bn), .ref yC, .ref yD, .ref yF, .ref yS, .ref yV, .ref yH, .int th]))] _ _ := w
  subst hr8_2
  exact W.zret (v := bI (tIn x (nI 0) ((nI nA) - (nI 1)))) hx hb hr (bI_nar _) (fun t9 ht9 hW9 => ⟨⟨bI (tIn x (nI 0) ((nI nA) - (nI 1))), (), rfl, congrArg bI (tIn_has (by omega)), fun k q h => by cases k <;> cases h⟩, w.2.1.F ht9⟩) w.2.1.2.2 dX6_isArea_11
set_option maxHeartbeats 4000000 in
set_option maxRecDepth 100000 in
theorem c_X6_isItem (l : Launch) (hl0 : l.stackTraces = false) (G : bG) (sz : Nat) (M yA yJ yg yw yc yv yr yC yD yF yS yV yH td nA nJ dn snt jd bn : Nat) (th : Int32) (x : Int32) (hnJ : nJ ≤ 10) : Met l yX6_isItem wsX6_isItem ({ frames := 1, cells := 0, slots := 0, locals := 22 }) (va_Pc [.ref M, .int x] (bPre G vwCl bNW bSW sz [(M, .inr (6, [.int (nI td), .int (nI nA), .int (nI nJ), .ref yA, .ref yJ, .ref yg, .int (nI dn), .ref yw, .ref yc, .ref yv, .int (nI snt), .int (nI jd), .ref yr, .int (nI bn), .ref yC, .ref yD, .ref yF, .ref yS, .ref yV, .ref yH, .int th]))] [])) (va_Qi (fun (r : Int32) (_ : Unit) => r = bI (tHas nJ x)) (fun (_ : Unit) (tS : State) => va_P G.1 vwCl [] tS.heap) (Aw [] sz)) 0 0 (Aw [] sz) := by
  refine Met.ofW (cc := cX6_isItem) (maxL := 2) (ret := (some .boolean)) (by decide) rfl ?_
  intro p e s m args below meth c s₁ B hml hv
  obtain ⟨rfl, hsz, hP, hD, E, Z⟩ := hv
  have hts := atoms_spec (ws := wsX6_isItem) B.pre
  have hown : s.vm.findClass RX6 = some m.cls := findClass_of_methodNamed B.named
  have X : CallFix p m c cX6_isItem 2 s _ wsX6_isItem RX6 := ⟨B.exec, B.bytes, hml, hown, hts⟩
  have hx := B.exec
  have hb := B.bytes
  have hr := B.returns
  have hlocks := B.notSynchronized
  subst hsz
  have w : bSt G vwCl [] s [(M, .inr (6, [.int (nI td), .int (nI nA), .int (nI nJ), .ref yA, .ref yJ, .ref yg, .int (nI dn), .ref yw, .ref yc, .ref yv, .int (nI snt), .int (nI jd), .ref yr, .int (nI bn), .ref yC, .ref yD, .ref yF, .ref yS, .ref yV, .ref yH, .int th]))] s.heap [] := ⟨hP, va_S.rf, hD⟩
  have Z0 : bZ [] s := ⟨Z.1.narrow (fun q h => h.elim (fun h => nomatch h) Or.inr), Z.2.narrow (fun q h => h.elim (fun h => nomatch h) Or.inr)⟩
  have iX6 : ∀ w ∈ wsX60, w ∈ wsX6_isItem := by decide +kernel
  have hl := lv_entry ([.ref M, .int x]) (n := 2) (Nat.le_of_ble_eq_true rfl)
  rw [lg_entry_eq]
  generalize (lg_sl ([.ref M, .int x]) ++ List.replicate (2 - (lg_sl ([.ref M, .int x])).length) Slot.unset).toArray = ls at hl ⊢
  have hl : lv_has ls 2 [(0, .ref M), (1, .int x)] := hl
  refine lv_iload_n hx hb dX6_isItem_0 rfl (lv_at hl 1 rfl) ?_
  refine lv_iconst (v := nI 0) hx hb dX6_isItem_1 (by decide) ?_
  refine lv_aload_n hx hb dX6_isItem_2 rfl (lv_at hl 0 rfl) ?_
  refine b_get X E w 0 rfl rfl 2 (by decide) iX6 (by decide +kernel) rfl rfl dX6_isItem_3 ?_
  refine lv_iconst (v := nI 1) hx hb dX6_isItem_6 (by decide) ?_
  refine lv_isub hx hb dX6_isItem_7 ?_
  refine b_calli w (va_runS (As := [.int x, .int (nI 0), .int ((nI nJ) - (nI 1))]) (rest := []) X (c_X6_isIn l hl0 G _ (x := x) (lo := nI 0) (hi := (nI nJ) - (nI 1)) ) (va_cwS 3 hts gX6_isItem_X6_isIn rfl rfl rfl (by decide +kernel) ⟨Nat.le_of_ble_eq_true rfl, Nat.le_of_ble_eq_true rfl⟩) ⟨b_blind, (fun U9 hU9 hW9 => ⟨rfl, b_pre E Z0 w [] (by decide) rfl b_nil U9 hU9 hW9⟩)⟩ rfl rfl hl.1 rfl (lv_room (Nat.le_of_ble_eq_true rfl)) dX6_isItem_8 ⟨Nat.le_of_ble_eq_true rfl, Nat.le_of_ble_eq_true rfl⟩) b_nil [] (fun _ => rfl) rfl (fun r8_2 u8_2 H locs hr8_2 w => ?_)
  have w : bSt G vwCl [] s [(M, .inr (6, [.int (nI td), .int (nI nA), .int (nI nJ), .ref yA, .ref yJ, .ref yg, .int (nI dn), .ref yw, .ref yc, .ref yv, .int (nI snt), .int (nI jd), .ref yr, .int (nI bn), .ref yC, .ref yD, .ref yF, .ref yS, .ref yV, .ref yH, .int th]))] _ _ := w
  subst hr8_2
  exact W.zret (v := bI (tIn x (nI 0) ((nI nJ) - (nI 1)))) hx hb hr (bI_nar _) (fun t9 ht9 hW9 => ⟨⟨bI (tIn x (nI 0) ((nI nJ) - (nI 1))), (), rfl, congrArg bI (tIn_has (by omega)), fun k q h => by cases k <;> cases h⟩, w.2.1.F ht9⟩) w.2.1.2.2 dX6_isItem_11
set_option maxHeartbeats 4000000 in
set_option maxRecDepth 100000 in
theorem c_X6_isCell (l : Launch) (hl0 : l.stackTraces = false) (G : bG) (sz : Nat) (M yA yJ yg yw yc yv yr yC yD yF yS yV yH td nA nJ dn snt jd bn : Nat) (th : Int32) (x y z : Int32) (hnA : nA ≤ 14) (hnJ : nJ ≤ 10) : Met l yX6_isCell wsX6_isCell ({ frames := 2, cells := 0, slots := 0, locals := 43 }) (va_Pc [.ref M, .int x, .int y, .int z] (bPre G vwCl bNW bSW sz [(M, .inr (6, [.int (nI td), .int (nI nA), .int (nI nJ), .ref yA, .ref yJ, .ref yg, .int (nI dn), .ref yw, .ref yc, .ref yv, .int (nI snt), .int (nI jd), .ref yr, .int (nI bn), .ref yC, .ref yD, .ref yF, .ref yS, .ref yV, .ref yH, .int th]))] [])) (va_Qi (fun (r : Int32) (_ : Unit) => r = bI (okC nA nJ x y z)) (fun (_ : Unit) (tS : State) => va_P G.1 vwCl [] tS.heap) (Aw [] sz)) 0 0 (Aw [] sz) := by
  refine Met.ofW (cc := cX6_isCell) (maxL := 4) (ret := (some .boolean)) (by decide) rfl ?_
  intro p e s m args below meth c s₁ B hml hv
  obtain ⟨rfl, hsz, hP, hD, E, Z⟩ := hv
  have hts := atoms_spec (ws := wsX6_isCell) B.pre
  have hown : s.vm.findClass RX6 = some m.cls := findClass_of_methodNamed B.named
  have X : CallFix p m c cX6_isCell 4 s _ wsX6_isCell RX6 := ⟨B.exec, B.bytes, hml, hown, hts⟩
  have hx := B.exec
  have hb := B.bytes
  have hr := B.returns
  have hlocks := B.notSynchronized
  subst hsz
  have w : bSt G vwCl [] s [(M, .inr (6, [.int (nI td), .int (nI nA), .int (nI nJ), .ref yA, .ref yJ, .ref yg, .int (nI dn), .ref yw, .ref yc, .ref yv, .int (nI snt), .int (nI jd), .ref yr, .int (nI bn), .ref yC, .ref yD, .ref yF, .ref yS, .ref yV, .ref yH, .int th]))] s.heap [] := ⟨hP, va_S.rf, hD⟩
  have Z0 : bZ [] s := ⟨Z.1.narrow (fun q h => h.elim (fun h => nomatch h) Or.inr), Z.2.narrow (fun q h => h.elim (fun h => nomatch h) Or.inr)⟩
  have hl := lv_entry ([.ref M, .int x, .int y, .int z]) (n := 4) (Nat.le_of_ble_eq_true rfl)
  rw [lg_entry_eq]
  generalize (lg_sl ([.ref M, .int x, .int y, .int z]) ++ List.replicate (4 - (lg_sl ([.ref M, .int x, .int y, .int z])).length) Slot.unset).toArray = ls at hl ⊢
  have hl : lv_has ls 4 [(0, .ref M), (1, .int x), (2, .int y), (3, .int z)] := hl
  refine lv_aload_n hx hb dX6_isCell_0 rfl (lv_at hl 0 rfl) ?_
  refine lv_iload_n hx hb dX6_isCell_1 rfl (lv_at hl 1 rfl) ?_
  refine b_calli w (va_runV (As := [.int x]) (rest := []) X (c_X6_isArea l hl0 G _ (M := M) (x := x) (td := td) (nA := nA) (nJ := nJ) (yA := yA) (yJ := yJ) (yg := yg) (dn := dn) (yw := yw) (yc := yc) (yv := yv) (snt := snt) (jd := jd) (yr := yr) (bn := bn) (yC := yC) (yD := yD) (yF := yF) (yS := yS) (yV := yV) (yH := yH) (th := th) (hnA := (by first | assumption | omega))) (cwV 1 hts gX6_isCell_X6_isArea rfl rfl rfl (by decide +kernel) ⟨Nat.le_of_ble_eq_true rfl, Nat.le_of_ble_eq_true rfl⟩) ⟨b_blind, b_recv E w (ci := 6) (q0 := 0) rfl rfl, (fun U9 hU9 hW9 => ⟨rfl, b_pre E Z0 w [0] (by decide) rfl b_nil U9 hU9 hW9⟩)⟩ rfl rfl hl.1 rfl (lv_room (Nat.le_of_ble_eq_true rfl)) dX6_isCell_2 ⟨Nat.le_of_ble_eq_true rfl, Nat.le_of_ble_eq_true rfl⟩) b_nil [] (fun _ => rfl) rfl (fun r2_10 u2_10 H locs hr2_10 w => ?_)
  have w : bSt G vwCl [] s [(M, .inr (6, [.int (nI td), .int (nI nA), .int (nI nJ), .ref yA, .ref yJ, .ref yg, .int (nI dn), .ref yw, .ref yc, .ref yv, .int (nI snt), .int (nI jd), .ref yr, .int (nI bn), .ref yC, .ref yD, .ref yF, .ref yS, .ref yV, .ref yH, .int th]))] _ _ := w
  subst hr2_10
  refine lv_if_eq (tgt := 30) hx hb dX6_isCell_5 (by decide) (fun c_5_11 => ?_) (fun c_5_11 => ?_)
  · have q_5_12 : (tHas nA x) = false := bI_0.mp c_5_11
    refine lv_iconst (v := nI 0) hx hb dX6_isCell_30 (by decide) ?_
    exact W.zret (v := nI 0) hx hb hr rfl (fun t9 ht9 hW9 => ⟨⟨nI 0, (), rfl, bI_zero (by simp [okC, q_5_12]), fun k q h => by cases k <;> cases h⟩, w.2.1.F ht9⟩) w.2.1.2.2 dX6_isCell_31
  · have q_5_12 : (tHas nA x) = true := bI_n0.mp c_5_11
    refine lv_aload_n hx hb dX6_isCell_8 rfl (lv_at hl 0 rfl) ?_
    refine lv_iload_n hx hb dX6_isCell_9 rfl (lv_at hl 2 rfl) ?_
    refine b_calli w (va_runV (As := [.int y]) (rest := []) X (c_X6_isItem l hl0 G _ (M := M) (x := y) (td := td) (nA := nA) (nJ := nJ) (yA := yA) (yJ := yJ) (yg := yg) (dn := dn) (yw := yw) (yc := yc) (yv := yv) (snt := snt) (jd := jd) (yr := yr) (bn := bn) (yC := yC) (yD := yD) (yF := yF) (yS := yS) (yV := yV) (yH := yH) (th := th) (hnJ := (by first | assumption | omega))) (cwV 1 hts gX6_isCell_X6_isItem rfl rfl rfl (by decide +kernel) ⟨Nat.le_of_ble_eq_true rfl, Nat.le_of_ble_eq_true rfl⟩) ⟨b_blind, b_recv E w (ci := 6) (q0 := 0) rfl rfl, (fun U9 hU9 hW9 => ⟨rfl, b_pre E Z0 w [0] (by decide) rfl b_nil U9 hU9 hW9⟩)⟩ rfl rfl hl.1 rfl (lv_room (Nat.le_of_ble_eq_true rfl)) dX6_isCell_10 ⟨Nat.le_of_ble_eq_true rfl, Nat.le_of_ble_eq_true rfl⟩) b_nil [] (fun _ => rfl) rfl (fun r10_13 u10_13 H locs hr10_13 w => ?_)
    have w : bSt G vwCl [] s [(M, .inr (6, [.int (nI td), .int (nI nA), .int (nI nJ), .ref yA, .ref yJ, .ref yg, .int (nI dn), .ref yw, .ref yc, .ref yv, .int (nI snt), .int (nI jd), .ref yr, .int (nI bn), .ref yC, .ref yD, .ref yF, .ref yS, .ref yV, .ref yH, .int th]))] _ _ := w
    subst hr10_13
    refine lv_if_eq (tgt := 30) hx hb dX6_isCell_13 (by decide) (fun c_13_14 => ?_) (fun c_13_14 => ?_)
    · have q_13_15 : (tHas nJ y) = false := bI_0.mp c_13_14
      refine lv_iconst (v := nI 0) hx hb dX6_isCell_30 (by decide) ?_
      exact W.zret (v := nI 0) hx hb hr rfl (fun t9 ht9 hW9 => ⟨⟨nI 0, (), rfl, bI_zero (by simp [okC, q_5_12, q_13_15]), fun k q h => by cases k <;> cases h⟩, w.2.1.F ht9⟩) w.2.1.2.2 dX6_isCell_31
    · have q_13_15 : (tHas nJ y) = true := bI_n0.mp c_13_14
      refine lv_iload_n hx hb dX6_isCell_16 rfl (lv_at hl 3 rfl) ?_
      refine lv_iconst (v := nI 0) hx hb dX6_isCell_17 (by decide) ?_
      refine lv_bipush (v := nI 11) hx hb dX6_isCell_18 (by decide) ?_
      refine b_calli w (va_runS (As := [.int z, .int (nI 0), .int (nI 11)]) (rest := []) X (c_X6_isIn l hl0 G _ (x := z) (lo := nI 0) (hi := nI 11) ) (va_cwS 3 hts gX6_isCell_X6_isIn rfl rfl rfl (by decide +kernel) ⟨Nat.le_of_ble_eq_true rfl, Nat.le_of_ble_eq_true rfl⟩) ⟨b_blind, (fun U9 hU9 hW9 => ⟨rfl, b_pre E Z0 w [] (by decide) rfl b_nil U9 hU9 hW9⟩)⟩ rfl rfl hl.1 rfl (lv_room (Nat.le_of_ble_eq_true rfl)) dX6_isCell_20 ⟨Nat.le_of_ble_eq_true rfl, Nat.le_of_ble_eq_true rfl⟩) b_nil [] (fun _ => rfl) rfl (fun r20_16 u20_16 H locs hr20_16 w => ?_)
      have w : bSt G vwCl [] s [(M, .inr (6, [.int (nI td), .int (nI nA), .int (nI nJ), .ref yA, .ref yJ, .ref yg, .int (nI dn), .ref yw, .ref yc, .ref yv, .int (nI snt), .int (nI jd), .ref yr, .int (nI bn), .ref yC, .ref yD, .ref yF, .ref yS, .ref yV, .ref yH, .int th]))] _ _ := w
      subst hr20_16
      refine b_tp (show bI (tIn z (nI 0) (nI 11)) = bI (tHas 12 z) from congrArg bI (tIn_lit (n := 11) (by decide))) ?_
      refine lv_if_eq (tgt := 30) hx hb dX6_isCell_23 (by decide) (fun c_23_17 => ?_) (fun c_23_17 => ?_)
      · have q_23_18 : (tHas 12 z) = false := bI_0.mp c_23_17
        refine lv_iconst (v := nI 0) hx hb dX6_isCell_30 (by decide) ?_
        exact W.zret (v := nI 0) hx hb hr rfl (fun t9 ht9 hW9 => ⟨⟨nI 0, (), rfl, bI_zero (by simp [okC, q_5_12, q_13_15, q_23_18]), fun k q h => by cases k <;> cases h⟩, w.2.1.F ht9⟩) w.2.1.2.2 dX6_isCell_31
      · have q_23_18 : (tHas 12 z) = true := bI_n0.mp c_23_17
        refine lv_iconst (v := nI 1) hx hb dX6_isCell_26 (by decide) ?_
        refine lv_goto (tgt := 31) hx hb dX6_isCell_27 (by decide) ?_
        exact W.zret (v := nI 1) hx hb hr rfl (fun t9 ht9 hW9 => ⟨⟨nI 1, (), rfl, bI_one (by simp [okC, q_5_12, q_13_15, q_23_18]), fun k q h => by cases k <;> cases h⟩, w.2.1.F ht9⟩) w.2.1.2.2 dX6_isCell_31
set_option maxHeartbeats 4000000 in
set_option maxRecDepth 100000 in
theorem c_X6_cellOf (l : Launch) (hl0 : l.stackTraces = false) (G : bG) (sz : Nat) (a i p0 : Nat) : Met l yX6_cellOf wsX6_cellOf ({ frames := 0, cells := 0, slots := 0, locals := 0 }) (va_Pc [.int (nI a), .int (nI i), .int (nI p0)] (bPre G vwCl bNW bSW sz [] [])) (va_Qi (fun (r : Int32) (_ : Unit) => r = nI (140 * p0 + (10 * a + i))) (fun (_ : Unit) (tS : State) => va_P G.1 vwCl [] tS.heap) (Aw [] sz)) 0 0 (Aw [] sz) := by
  refine Met.ofW (cc := cX6_cellOf) (maxL := 3) (ret := (some .int)) (by decide) rfl ?_
  intro p e s m args below meth c s₁ B hml hv
  obtain ⟨rfl, hsz, hP, hD, E, Z⟩ := hv
  have hts := atoms_spec (ws := wsX6_cellOf) B.pre
  have hown : s.vm.findClass RX6 = some m.cls := findClass_of_methodNamed B.named
  have X : CallFix p m c cX6_cellOf 3 s _ wsX6_cellOf RX6 := ⟨B.exec, B.bytes, hml, hown, hts⟩
  have hx := B.exec
  have hb := B.bytes
  have hr := B.returns
  have hlocks := B.notSynchronized
  subst hsz
  have w : bSt G vwCl [] s [] s.heap [] := ⟨hP, va_S.rf, hD⟩
  have Z0 : bZ [] s := ⟨Z.1.narrow (fun q h => h.elim (fun h => nomatch h) Or.inr), Z.2.narrow (fun q h => h.elim (fun h => nomatch h) Or.inr)⟩
  have hl := lv_entry ([.int (nI a), .int (nI i), .int (nI p0)]) (n := 3) (Nat.le_of_ble_eq_true rfl)
  rw [lg_entry_eq]
  generalize (lg_sl ([.int (nI a), .int (nI i), .int (nI p0)]) ++ List.replicate (3 - (lg_sl ([.int (nI a), .int (nI i), .int (nI p0)])).length) Slot.unset).toArray = ls at hl ⊢
  have hl : lv_has ls 3 [(0, .int (nI a)), (1, .int (nI i)), (2, .int (nI p0))] := hl
  refine lv_sipush (v := nI 140) hx hb dX6_cellOf_0 (by decide) ?_
  refine lv_iload_n hx hb dX6_cellOf_3 rfl (lv_at hl 2 rfl) ?_
  refine lv_imul hx hb dX6_cellOf_4 ?_
  refine b_tp (show (nI 140) * (nI p0) = nI (140 * p0) from pk_mul 140 p0) ?_
  refine lv_bipush (v := nI 10) hx hb dX6_cellOf_5 (by decide) ?_
  refine lv_iload_n hx hb dX6_cellOf_7 rfl (lv_at hl 0 rfl) ?_
  refine lv_imul hx hb dX6_cellOf_8 ?_
  refine b_tp (show (nI 10) * (nI a) = nI (10 * a) from pk_mul 10 a) ?_
  refine lv_iadd hx hb dX6_cellOf_9 ?_
  refine b_tp (show (nI (140 * p0)) + (nI (10 * a)) = nI ((140 * p0) + 10 * a) from nI_add (140 * p0) (10 * a)) ?_
  refine lv_iload_n hx hb dX6_cellOf_10 rfl (lv_at hl 1 rfl) ?_
  refine lv_iadd hx hb dX6_cellOf_11 ?_
  refine b_tp (show (nI ((140 * p0) + 10 * a)) + (nI i) = nI ((140 * p0) + 10 * a + i) from nI_add ((140 * p0) + 10 * a) i) ?_
  exact W.iret (v := nI ((140 * p0) + 10 * a + i)) hx hb hr (fun t9 ht9 hW9 => ⟨⟨nI ((140 * p0) + 10 * a + i), (), rfl, congrArg nI (by omega), fun k q h => by cases k <;> cases h⟩, w.2.1.F ht9⟩) w.2.1.2.2 dX6_cellOf_12
set_option maxHeartbeats 4000000 in
set_option maxRecDepth 100000 in
theorem c_X6_isSender (l : Launch) (hl0 : l.stackTraces = false) (G : bG) (sz : Nat) (x : Int32) : Met l yX6_isSender wsX6_isSender ({ frames := 1, cells := 0, slots := 0, locals := 22 }) (va_Pc [.int x] (bPre G vwCl bNW bSW sz [] [])) (va_Qi (fun (r : Int32) (_ : Unit) => r = bI (tHas 4 x)) (fun (_ : Unit) (tS : State) => va_P G.1 vwCl [] tS.heap) (Aw [] sz)) 0 0 (Aw [] sz) := by
  refine Met.ofW (cc := cX6_isSender) (maxL := 1) (ret := (some .boolean)) (by decide) rfl ?_
  intro p e s m args below meth c s₁ B hml hv
  obtain ⟨rfl, hsz, hP, hD, E, Z⟩ := hv
  have hts := atoms_spec (ws := wsX6_isSender) B.pre
  have hown : s.vm.findClass RX6 = some m.cls := findClass_of_methodNamed B.named
  have X : CallFix p m c cX6_isSender 1 s _ wsX6_isSender RX6 := ⟨B.exec, B.bytes, hml, hown, hts⟩
  have hx := B.exec
  have hb := B.bytes
  have hr := B.returns
  have hlocks := B.notSynchronized
  subst hsz
  have w : bSt G vwCl [] s [] s.heap [] := ⟨hP, va_S.rf, hD⟩
  have Z0 : bZ [] s := ⟨Z.1.narrow (fun q h => h.elim (fun h => nomatch h) Or.inr), Z.2.narrow (fun q h => h.elim (fun h => nomatch h) Or.inr)⟩
  have hl := lv_entry ([.int x]) (n := 1) (Nat.le_of_ble_eq_true rfl)
  rw [lg_entry_eq]
  generalize (lg_sl ([.int x]) ++ List.replicate (1 - (lg_sl ([.int x])).length) Slot.unset).toArray = ls at hl ⊢
  have hl : lv_has ls 1 [(0, .int x)] := hl
  refine lv_iload_n hx hb dX6_isSender_0 rfl (lv_at hl 0 rfl) ?_
  refine lv_iconst (v := nI 0) hx hb dX6_isSender_1 (by decide) ?_
  refine lv_iconst (v := nI 3) hx hb dX6_isSender_2 (by decide) ?_
  refine b_calli w (va_runS (As := [.int x, .int (nI 0), .int (nI 3)]) (rest := []) X (c_X6_isIn l hl0 G _ (x := x) (lo := nI 0) (hi := nI 3) ) (va_cwS 3 hts gX6_isSender_X6_isIn rfl rfl rfl (by decide +kernel) ⟨Nat.le_of_ble_eq_true rfl, Nat.le_of_ble_eq_true rfl⟩) ⟨b_blind, (fun U9 hU9 hW9 => ⟨rfl, b_pre E Z0 w [] (by decide) rfl b_nil U9 hU9 hW9⟩)⟩ rfl rfl hl.1 rfl (lv_room (Nat.le_of_ble_eq_true rfl)) dX6_isSender_3 ⟨Nat.le_of_ble_eq_true rfl, Nat.le_of_ble_eq_true rfl⟩) b_nil [] (fun _ => rfl) rfl (fun r3_2 u3_2 H locs hr3_2 w => ?_)
  have w : bSt G vwCl [] s [] _ _ := w
  subst hr3_2
  exact W.zret (v := bI (tIn x (nI 0) (nI 3))) hx hb hr (bI_nar _) (fun t9 ht9 hW9 => ⟨⟨bI (tIn x (nI 0) (nI 3)), (), rfl, congrArg bI (tIn_lit (n := 3) (by decide)), fun k q h => by cases k <;> cases h⟩, w.2.1.F ht9⟩) w.2.1.2.2 dX6_isSender_6
set_option maxHeartbeats 4000000 in
set_option maxRecDepth 100000 in
theorem c_X6_may (l : Launch) (hl0 : l.stackTraces = false) (G : bG) (sz : Nat) (M yA yJ yg yw yc yv yr yC yD yF yS yV yH td nA nJ dn snt jd bn : Nat) (th : Int32) (fA : Nat → Int32) (on : Nat → Bool) (sd a : Nat) (hnA : nA ≤ 14) (hTA : TI fA nA) (hs : sd < 4) (ha : a < nA) : Met l yX6_may wsX6_may ({ frames := 0, cells := 0, slots := 0, locals := 0 }) (va_Pc [.ref M, .int (nI sd), .int (nI a)] (bPre G vwCl bNW bSW sz [(M, .inr (6, [.int (nI td), .int (nI nA), .int (nI nJ), .ref yA, .ref yJ, .ref yg, .int (nI dn), .ref yw, .ref yc, .ref yv, .int (nI snt), .int (nI jd), .ref yr, .int (nI bn), .ref yC, .ref yD, .ref yF, .ref yS, .ref yV, .ref yH, .int th])), (yA, .inl (G.2.1, 14, .inl fA)), (yg, .inl (G.2.2.1, 56, .inl (zB on)))] [])) (va_Qi (fun (r : Int32) (_ : Unit) => r = bI (wkB fA (fun k => on (14 * sd + k)) nA (nI a))) (fun (_ : Unit) (tS : State) => va_P G.1 vwCl [] tS.heap) (Aw [] sz)) 0 0 (Aw [] sz) := by
  refine Met.ofW (cc := cX6_may) (maxL := 5) (ret := (some .boolean)) (by decide) rfl ?_
  intro p e s m args below meth c s₁ B hml hv
  obtain ⟨rfl, hsz, hP, hD, E, Z⟩ := hv
  have hts := atoms_spec (ws := wsX6_may) B.pre
  have hown : s.vm.findClass RX6 = some m.cls := findClass_of_methodNamed B.named
  have X : CallFix p m c cX6_may 5 s _ wsX6_may RX6 := ⟨B.exec, B.bytes, hml, hown, hts⟩
  have hx := B.exec
  have hb := B.bytes
  have hr := B.returns
  have hlocks := B.notSynchronized
  subst hsz
  have w : bSt G vwCl [] s [(M, .inr (6, [.int (nI td), .int (nI nA), .int (nI nJ), .ref yA, .ref yJ, .ref yg, .int (nI dn), .ref yw, .ref yc, .ref yv, .int (nI snt), .int (nI jd), .ref yr, .int (nI bn), .ref yC, .ref yD, .ref yF, .ref yS, .ref yV, .ref yH, .int th])), (yA, .inl (G.2.1, 14, .inl fA)), (yg, .inl (G.2.2.1, 56, .inl (zB on)))] s.heap [] := ⟨hP, va_S.rf, hD⟩
  have Z0 : bZ [] s := ⟨Z.1.narrow (fun q h => h.elim (fun h => nomatch h) Or.inr), Z.2.narrow (fun q h => h.elim (fun h => nomatch h) Or.inr)⟩
  have iX6 : ∀ w ∈ wsX60, w ∈ wsX6_may := by decide +kernel
  have hl := lv_entry ([.ref M, .int (nI sd), .int (nI a)]) (n := 5) (Nat.le_of_ble_eq_true rfl)
  rw [lg_entry_eq]
  generalize (lg_sl ([.ref M, .int (nI sd), .int (nI a)]) ++ List.replicate (5 - (lg_sl ([.ref M, .int (nI sd), .int (nI a)])).length) Slot.unset).toArray = ls at hl ⊢
  have hl : lv_has ls 5 [(0, .ref M), (1, .int (nI sd)), (2, .int (nI a))] := hl
  refine lv_iconst (v := nI 0) hx hb dX6_may_0 (by decide) ?_
  refine lv_istore_n (lv' := [(3, .int (nI 0)), (0, .ref M), (1, .int (nI sd)), (2, .int (nI a))]) hx hb dX6_may_1 rfl hl (by decide) rfl (fun ls hl => ?_)
  refine lv_iload_n hx hb dX6_may_2 rfl (lv_at hl 3 rfl) ?_
  refine lv_istore (lv' := [(4, .int (nI a)), (3, .int (nI 0)), (0, .ref M), (1, .int (nI sd)), (2, .int (nI a))]) hx hb dX6_may_3 hl (by decide) rfl (fun ls hl => ?_)
  refine b_loop (pc := 5) (st := []) (fun (fuel : Nat) (H : Heap) (locs : List Loc) (ls : Array Slot) => ∃ (m : Nat) (y : Int32) (is : Bool), (m + 1 ≤ fuel) ∧ (y = -1 ∨ ∃ j, j < m ∧ j < nA ∧ y = nI j) ∧ (wkB fA (fun k => on (14 * sd + k)) nA (nI a) = (is || wkB fA (fun k => on (14 * sd + k)) m y)) ∧ bSt G vwCl [] s [(M, .inr (6, [.int (nI td), .int (nI nA), .int (nI nJ), .ref yA, .ref yJ, .ref yg, .int (nI dn), .ref yw, .ref yc, .ref yv, .int (nI snt), .int (nI jd), .ref yr, .int (nI bn), .ref yC, .ref yD, .ref yF, .ref yS, .ref yV, .ref yH, .int th])), (yA, .inl (G.2.1, 14, .inl fA)), (yg, .inl (G.2.2.1, 56, .inl (zB on)))] H locs ∧ lv_has ls 5 [(0, .ref M), (1, .int (nI sd)), (3, .int (bI is)), (4, .int y)]) (fun H locs ls h9 => ?_) (fun fuel H locs ls hI ih5 => ?_) (nA + 1) ⟨nA, nI a, false, (by omega), Or.inr ⟨a, ha, ha, rfl⟩, (Bool.false_or _).symm, w, lv_sub hl [2, 3, 1, 0] rfl⟩
  · obtain ⟨m, y, is, hf, hy, ht, w, hl⟩ := h9
    omega
  · obtain ⟨m, y, is, hf, hy, ht, w, hl⟩ := hI
    refine lv_iload hx hb dX6_may_5 (lv_at hl 3 rfl) ?_
    refine lv_iconst (v := -1) hx hb dX6_may_7 (by decide) ?_
    refine lv_icmp_eq (tgt := 38) hx hb dX6_may_8 (by decide) (fun c_8_2 => ?_) (fun c_8_2 => ?_)
    · have hE : wkB fA (fun k => on (14 * sd + k)) nA (nI a) = is := by rw [ht, c_8_2, wkB_end, Bool.or_false]
      refine lv_iload_n hx hb dX6_may_38 rfl (lv_at hl 2 rfl) ?_
      exact W.zret (v := bI is) hx hb hr (bI_nar _) (fun t9 ht9 hW9 => ⟨⟨bI is, (), rfl, congrArg bI hE.symm, fun k q h => by cases k <;> cases h⟩, w.2.1.F ht9⟩) w.2.1.2.2 dX6_may_39
    · obtain ⟨j, hj1, hj2, rfl⟩ := hy.resolve_left c_8_2
      obtain ⟨m1, rfl⟩ : ∃ m1, m = m1 + 1 := ⟨m - 1, by omega⟩
      refine lv_iload_n hx hb dX6_may_11 rfl (lv_at hl 2 rfl) ?_
      refine lv_aload_n hx hb dX6_may_12 rfl (lv_at hl 0 rfl) ?_
      refine b_get X E w 0 rfl rfl 5 (by decide) iX6 (by decide +kernel) rfl rfl dX6_may_13 ?_
      refine lv_bipush (v := nI 14) hx hb dX6_may_16 (by decide) ?_
      refine lv_iload_n hx hb dX6_may_18 rfl (lv_at hl 1 rfl) ?_
      refine lv_imul hx hb dX6_may_19 ?_
      refine b_tp (show (nI 14) * (nI sd) = nI (14 * sd) from pk_mul 14 sd) ?_
      refine lv_iload hx hb dX6_may_20 (lv_at hl 3 rfl) ?_
      refine lv_iadd hx hb dX6_may_22 ?_
      refine b_tp (show (nI (14 * sd)) + (nI j) = nI ((14 * sd) + j) from nI_add (14 * sd) j) ?_
      refine b_zald X E w 2 rfl ((14 * sd) + j) rfl (by omega) (by first | decide | omega) dX6_may_23 ?_
      refine b_tp (show zB on ((14 * sd) + j) = bI (on ((14 * sd) + j)) from rfl) ?_
      refine lv_ior hx hb dX6_may_24 ?_
      refine b_tp (show (bI is) ||| (bI (on ((14 * sd) + j))) = bI (is || (on ((14 * sd) + j))) from bI_or _ _) ?_
      refine lv_istore_n (lv' := [(3, .int (bI (is || (on ((14 * sd) + j))))), (0, .ref M), (1, .int (nI sd)), (4, .int (nI j))]) hx hb dX6_may_25 rfl hl (by decide) rfl (fun ls hl => ?_)
      refine lv_aload_n hx hb dX6_may_26 rfl (lv_at hl 1 rfl) ?_
      refine b_get X E w 0 rfl rfl 3 (by decide) iX6 (by decide +kernel) rfl rfl dX6_may_27 ?_
      refine lv_iload hx hb dX6_may_30 (lv_at hl 3 rfl) ?_
      refine b_iald X E w 1 rfl j rfl (by omega) (by first | decide | omega) dX6_may_32 ?_
      refine lv_istore (lv' := [(4, .int (fA j)), (3, .int (bI (is || (on ((14 * sd) + j))))), (0, .ref M), (1, .int (nI sd))]) hx hb dX6_may_33 hl (by decide) rfl (fun ls hl => ?_)
      refine lv_goto (tgt := 5) hx hb dX6_may_35 (by decide) ?_
      exact ih5 _ _ _ ⟨m1, fA j, (is || (on ((14 * sd) + j))), (by omega), tI_next2 hTA hj2 hj1, ht.trans (by rw [wkB_s (by omega), Bool.or_assoc]), w, lv_sub hl [2, 3, 1, 0] rfl⟩
set_option maxHeartbeats 4000000 in
set_option maxRecDepth 100000 in
theorem c_X6_figureOn (l : Launch) (hl0 : l.stackTraces = false) (G : bG) (sz : Nat) (M yA yJ yg yw yc yv yr yC yD yF yS yV yH td nA nJ dn snt jd bn : Nat) (th : Int32) (bc : Nat → Int32) (bd : Nat → Int32) (bf : Nat → Int32) (x d : Int32) (hbn : bn ≤ 300) : Met l yX6_figureOn wsX6_figureOn ({ frames := 0, cells := 0, slots := 0, locals := 0 }) (va_Pc [.ref M, .int x, .int d] (bPre G vwCl bNW bSW sz [(M, .inr (6, [.int (nI td), .int (nI nA), .int (nI nJ), .ref yA, .ref yJ, .ref yg, .int (nI dn), .ref yw, .ref yc, .ref yv, .int (nI snt), .int (nI jd), .ref yr, .int (nI bn), .ref yC, .ref yD, .ref yF, .ref yS, .ref yV, .ref yH, .int th])), (yC, .inl (G.2.1, 300, .inl bc)), (yD, .inl (G.2.1, 300, .inl bd)), (yF, .inl (G.2.1, 300, .inl bf))] [])) (va_Qi (fun (r : Int32) (_ : Unit) => r = fo bc bd bf x d bn) (fun (_ : Unit) (tS : State) => va_P G.1 vwCl [] tS.heap) (Aw [] sz)) 0 0 (Aw [] sz) := by
  refine Met.ofW (cc := cX6_figureOn) (maxL := 5) (ret := (some .int)) (by decide) rfl ?_
  intro p e s m args below meth c s₁ B hml hv
  obtain ⟨rfl, hsz, hP, hD, E, Z⟩ := hv
  have hts := atoms_spec (ws := wsX6_figureOn) B.pre
  have hown : s.vm.findClass RX6 = some m.cls := findClass_of_methodNamed B.named
  have X : CallFix p m c cX6_figureOn 5 s _ wsX6_figureOn RX6 := ⟨B.exec, B.bytes, hml, hown, hts⟩
  have hx := B.exec
  have hb := B.bytes
  have hr := B.returns
  have hlocks := B.notSynchronized
  subst hsz
  have w : bSt G vwCl [] s [(M, .inr (6, [.int (nI td), .int (nI nA), .int (nI nJ), .ref yA, .ref yJ, .ref yg, .int (nI dn), .ref yw, .ref yc, .ref yv, .int (nI snt), .int (nI jd), .ref yr, .int (nI bn), .ref yC, .ref yD, .ref yF, .ref yS, .ref yV, .ref yH, .int th])), (yC, .inl (G.2.1, 300, .inl bc)), (yD, .inl (G.2.1, 300, .inl bd)), (yF, .inl (G.2.1, 300, .inl bf))] s.heap [] := ⟨hP, va_S.rf, hD⟩
  have Z0 : bZ [] s := ⟨Z.1.narrow (fun q h => h.elim (fun h => nomatch h) Or.inr), Z.2.narrow (fun q h => h.elim (fun h => nomatch h) Or.inr)⟩
  have iX6 : ∀ w ∈ wsX60, w ∈ wsX6_figureOn := by decide +kernel
  have hl := lv_entry ([.ref M, .int x, .int d]) (n := 5) (Nat.le_of_ble_eq_true rfl)
  rw [lg_entry_eq]
  generalize (lg_sl ([.ref M, .int x, .int d]) ++ List.replicate (5 - (lg_sl ([.ref M, .int x, .int d])).length) Slot.unset).toArray = ls at hl ⊢
  have hl : lv_has ls 5 [(0, .ref M), (1, .int x), (2, .int d)] := hl
  refine lv_ldc (v := MIS) hx hb hown (hts (.constant RX6 86 (-2000000001)) (by decide +kernel)) dX6_figureOn_0 ?_
  refine lv_istore_n (lv' := [(3, .int MIS), (0, .ref M), (1, .int x), (2, .int d)]) hx hb dX6_figureOn_2 rfl hl (by decide) rfl (fun ls hl => ?_)
  refine lv_iconst (v := nI 0) hx hb dX6_figureOn_3 (by decide) ?_
  refine lv_istore (lv' := [(4, .int (nI 0)), (3, .int MIS), (0, .ref M), (1, .int x), (2, .int d)]) hx hb dX6_figureOn_4 hl (by decide) rfl (fun ls hl => ?_)
  refine b_loop (pc := 6) (st := []) (fun (fuel : Nat) (H : Heap) (locs : List Loc) (ls : Array Slot) => ∃ (k : Nat) (g : Int32), (k ≤ bn) ∧ (bn + 1 ≤ k + fuel) ∧ (g = fo bc bd bf x d k) ∧ bSt G vwCl [] s [(M, .inr (6, [.int (nI td), .int (nI nA), .int (nI nJ), .ref yA, .ref yJ, .ref yg, .int (nI dn), .ref yw, .ref yc, .ref yv, .int (nI snt), .int (nI jd), .ref yr, .int (nI bn), .ref yC, .ref yD, .ref yF, .ref yS, .ref yV, .ref yH, .int th])), (yC, .inl (G.2.1, 300, .inl bc)), (yD, .inl (G.2.1, 300, .inl bd)), (yF, .inl (G.2.1, 300, .inl bf))] H locs ∧ lv_has ls 5 [(0, .ref M), (1, .int x), (2, .int d), (3, .int g), (4, .int (nI k))]) (fun H locs ls h9 => ?_) (fun fuel H locs ls hI ih6 => ?_) (bn + 1) ⟨0, MIS, (by omega), (by omega), rfl, w, lv_sub hl [2, 3, 4, 1, 0] rfl⟩
  · obtain ⟨k, g, hk, hf, hg, w, hl⟩ := h9
    omega
  · obtain ⟨k, g, hk, hf, hg, w, hl⟩ := hI
    refine lv_iload hx hb dX6_figureOn_6 (lv_at hl 4 rfl) ?_
    refine lv_aload_n hx hb dX6_figureOn_8 rfl (lv_at hl 0 rfl) ?_
    refine b_get X E w 0 rfl rfl 13 (by decide) iX6 (by decide +kernel) rfl rfl dX6_figureOn_9 ?_
    refine lv_icmp_ge (tgt := 55) hx hb dX6_figureOn_12 (by decide) (fun c_12_5 => ?_) (fun c_12_5 => ?_)
    · have q_12_6 : bn ≤ k := q_le (by omega) (by omega) c_12_5
      have ek : k = bn := by omega
      rw [ek] at hg
      refine lv_iload_n hx hb dX6_figureOn_55 rfl (lv_at hl 3 rfl) ?_
      exact W.iret (v := g) hx hb hr (fun t9 ht9 hW9 => ⟨⟨g, (), rfl, hg, fun k q h => by cases k <;> cases h⟩, w.2.1.F ht9⟩) w.2.1.2.2 dX6_figureOn_56
    · have q_12_6 : k < bn := q_nle (by omega) (by omega) c_12_5
      refine lv_aload_n hx hb dX6_figureOn_15 rfl (lv_at hl 0 rfl) ?_
      refine b_get X E w 0 rfl rfl 14 (by decide) iX6 (by decide +kernel) rfl rfl dX6_figureOn_16 ?_
      refine lv_iload hx hb dX6_figureOn_19 (lv_at hl 4 rfl) ?_
      refine b_iald X E w 1 rfl k rfl (by omega) (by first | decide | omega) dX6_figureOn_21 ?_
      refine lv_iload_n hx hb dX6_figureOn_22 rfl (lv_at hl 1 rfl) ?_
      refine lv_icmp_ne (tgt := 47) hx hb dX6_figureOn_23 (by decide) (fun c_23_7 => ?_) (fun c_23_7 => ?_)
      · have hgn := hg.trans (fo_miss1 (bd := bd) (bf := bf) (d := d) c_23_7).symm
        refine lv_iload_n hx hb dX6_figureOn_47 rfl (lv_at hl 3 rfl) ?_
        refine lv_istore_n (lv' := [(3, .int g), (0, .ref M), (1, .int x), (2, .int d), (4, .int (nI k))]) hx hb dX6_figureOn_48 rfl hl (by decide) rfl (fun ls hl => ?_)
        refine lv_iinc (v := nI (k + 1)) (lv' := [(4, .int (nI (k + 1))), (3, .int g), (0, .ref M), (1, .int x), (2, .int d)]) hx hb dX6_figureOn_49 hl (k := 4) rfl (nI_add k 1) (by decide) rfl (fun ls hl => ?_)
        refine lv_goto (tgt := 6) hx hb dX6_figureOn_52 (by decide) ?_
        exact ih6 _ _ _ ⟨k + 1, g, (by omega), (by omega), hgn, w, lv_sub hl [2, 3, 4, 1, 0] rfl⟩
      · have c23 := c_23_7
        refine lv_aload_n hx hb dX6_figureOn_26 rfl (lv_at hl 0 rfl) ?_
        refine b_get X E w 0 rfl rfl 15 (by decide) iX6 (by decide +kernel) rfl rfl dX6_figureOn_27 ?_
        refine lv_iload hx hb dX6_figureOn_30 (lv_at hl 4 rfl) ?_
        refine b_iald X E w 2 rfl k rfl (by omega) (by first | decide | omega) dX6_figureOn_32 ?_
        refine lv_iload_n hx hb dX6_figureOn_33 rfl (lv_at hl 2 rfl) ?_
        refine lv_icmp_gt (tgt := 47) hx hb dX6_figureOn_34 (by decide) (fun c_34_8 => ?_) (fun c_34_8 => ?_)
        · have hgn := hg.trans (fo_miss2 (bc := bc) (bf := bf) (x := x) c_34_8).symm
          refine lv_iload_n hx hb dX6_figureOn_47 rfl (lv_at hl 3 rfl) ?_
          refine lv_istore_n (lv' := [(3, .int g), (0, .ref M), (1, .int x), (2, .int d), (4, .int (nI k))]) hx hb dX6_figureOn_48 rfl hl (by decide) rfl (fun ls hl => ?_)
          refine lv_iinc (v := nI (k + 1)) (lv' := [(4, .int (nI (k + 1))), (3, .int g), (0, .ref M), (1, .int x), (2, .int d)]) hx hb dX6_figureOn_49 hl (k := 4) rfl (nI_add k 1) (by decide) rfl (fun ls hl => ?_)
          refine lv_goto (tgt := 6) hx hb dX6_figureOn_52 (by decide) ?_
          exact ih6 _ _ _ ⟨k + 1, g, (by omega), (by omega), hgn, w, lv_sub hl [2, 3, 4, 1, 0] rfl⟩
        · have hgn := (fo_hit (bf := bf) c23 c_34_8).symm
          refine lv_aload_n hx hb dX6_figureOn_37 rfl (lv_at hl 0 rfl) ?_
          refine b_get X E w 0 rfl rfl 16 (by decide) iX6 (by decide +kernel) rfl rfl dX6_figureOn_38 ?_
          refine lv_iload hx hb dX6_figureOn_41 (lv_at hl 4 rfl) ?_
          refine b_iald X E w 3 rfl k rfl (by omega) (by first | decide | omega) dX6_figureOn_43 ?_
          refine lv_goto (tgt := 48) hx hb dX6_figureOn_44 (by decide) ?_
          refine lv_istore_n (lv' := [(3, .int (bf k)), (0, .ref M), (1, .int x), (2, .int d), (4, .int (nI k))]) hx hb dX6_figureOn_48 rfl hl (by decide) rfl (fun ls hl => ?_)
          refine lv_iinc (v := nI (k + 1)) (lv' := [(4, .int (nI (k + 1))), (3, .int (bf k)), (0, .ref M), (1, .int x), (2, .int d)]) hx hb dX6_figureOn_49 hl (k := 4) rfl (nI_add k 1) (by decide) rfl (fun ls hl => ?_)
          refine lv_goto (tgt := 6) hx hb dX6_figureOn_52 (by decide) ?_
          exact ih6 _ _ _ ⟨k + 1, bf k, (by omega), (by omega), hgn, w, lv_sub hl [2, 3, 4, 1, 0] rfl⟩
set_option maxHeartbeats 4000000 in
set_option maxRecDepth 100000 in
theorem c_X6_toldOn (l : Launch) (hl0 : l.stackTraces = false) (G : bG) (sz : Nat) (M yA yJ yg yw yc yv yr yC yD yF yS yV yH td nA nJ dn snt jd bn : Nat) (th : Int32) (bc : Nat → Int32) (bd : Nat → Int32) (x : Int32) (hbn : bn ≤ 300) : Met l yX6_toldOn wsX6_toldOn ({ frames := 0, cells := 0, slots := 0, locals := 0 }) (va_Pc [.ref M, .int x] (bPre G vwCl bNW bSW sz [(M, .inr (6, [.int (nI td), .int (nI nA), .int (nI nJ), .ref yA, .ref yJ, .ref yg, .int (nI dn), .ref yw, .ref yc, .ref yv, .int (nI snt), .int (nI jd), .ref yr, .int (nI bn), .ref yC, .ref yD, .ref yF, .ref yS, .ref yV, .ref yH, .int th])), (yC, .inl (G.2.1, 300, .inl bc)), (yD, .inl (G.2.1, 300, .inl bd))] [])) (va_Qi (fun (r : Int32) (_ : Unit) => r = tdO bc bd x bn) (fun (_ : Unit) (tS : State) => va_P G.1 vwCl [] tS.heap) (Aw [] sz)) 0 0 (Aw [] sz) := by
  refine Met.ofW (cc := cX6_toldOn) (maxL := 4) (ret := (some .int)) (by decide) rfl ?_
  intro p e s m args below meth c s₁ B hml hv
  obtain ⟨rfl, hsz, hP, hD, E, Z⟩ := hv
  have hts := atoms_spec (ws := wsX6_toldOn) B.pre
  have hown : s.vm.findClass RX6 = some m.cls := findClass_of_methodNamed B.named
  have X : CallFix p m c cX6_toldOn 4 s _ wsX6_toldOn RX6 := ⟨B.exec, B.bytes, hml, hown, hts⟩
  have hx := B.exec
  have hb := B.bytes
  have hr := B.returns
  have hlocks := B.notSynchronized
  subst hsz
  have w : bSt G vwCl [] s [(M, .inr (6, [.int (nI td), .int (nI nA), .int (nI nJ), .ref yA, .ref yJ, .ref yg, .int (nI dn), .ref yw, .ref yc, .ref yv, .int (nI snt), .int (nI jd), .ref yr, .int (nI bn), .ref yC, .ref yD, .ref yF, .ref yS, .ref yV, .ref yH, .int th])), (yC, .inl (G.2.1, 300, .inl bc)), (yD, .inl (G.2.1, 300, .inl bd))] s.heap [] := ⟨hP, va_S.rf, hD⟩
  have Z0 : bZ [] s := ⟨Z.1.narrow (fun q h => h.elim (fun h => nomatch h) Or.inr), Z.2.narrow (fun q h => h.elim (fun h => nomatch h) Or.inr)⟩
  have iX6 : ∀ w ∈ wsX60, w ∈ wsX6_toldOn := by decide +kernel
  have hl := lv_entry ([.ref M, .int x]) (n := 4) (Nat.le_of_ble_eq_true rfl)
  rw [lg_entry_eq]
  generalize (lg_sl ([.ref M, .int x]) ++ List.replicate (4 - (lg_sl ([.ref M, .int x])).length) Slot.unset).toArray = ls at hl ⊢
  have hl : lv_has ls 4 [(0, .ref M), (1, .int x)] := hl
  refine lv_iconst (v := -1) hx hb dX6_toldOn_0 (by decide) ?_
  refine lv_istore_n (lv' := [(2, .int (-1)), (0, .ref M), (1, .int x)]) hx hb dX6_toldOn_1 rfl hl (by decide) rfl (fun ls hl => ?_)
  refine lv_iconst (v := nI 0) hx hb dX6_toldOn_2 (by decide) ?_
  refine lv_istore_n (lv' := [(3, .int (nI 0)), (2, .int (-1)), (0, .ref M), (1, .int x)]) hx hb dX6_toldOn_3 rfl hl (by decide) rfl (fun ls hl => ?_)
  refine b_loop (pc := 4) (st := []) (fun (fuel : Nat) (H : Heap) (locs : List Loc) (ls : Array Slot) => ∃ (k : Nat) (g : Int32), (k ≤ bn) ∧ (bn + 1 ≤ k + fuel) ∧ (g = tdO bc bd x k) ∧ bSt G vwCl [] s [(M, .inr (6, [.int (nI td), .int (nI nA), .int (nI nJ), .ref yA, .ref yJ, .ref yg, .int (nI dn), .ref yw, .ref yc, .ref yv, .int (nI snt), .int (nI jd), .ref yr, .int (nI bn), .ref yC, .ref yD, .ref yF, .ref yS, .ref yV, .ref yH, .int th])), (yC, .inl (G.2.1, 300, .inl bc)), (yD, .inl (G.2.1, 300, .inl bd))] H locs ∧ lv_has ls 4 [(0, .ref M), (1, .int x), (2, .int g), (3, .int (nI k))]) (fun H locs ls h9 => ?_) (fun fuel H locs ls hI ih4 => ?_) (bn + 1) ⟨0, -1, (by omega), (by omega), rfl, w, lv_sub hl [2, 3, 1, 0] rfl⟩
  · obtain ⟨k, g, hk, hf, hg, w, hl⟩ := h9
    omega
  · obtain ⟨k, g, hk, hf, hg, w, hl⟩ := hI
    refine lv_iload_n hx hb dX6_toldOn_4 rfl (lv_at hl 3 rfl) ?_
    refine lv_aload_n hx hb dX6_toldOn_5 rfl (lv_at hl 0 rfl) ?_
    refine b_get X E w 0 rfl rfl 13 (by decide) iX6 (by decide +kernel) rfl rfl dX6_toldOn_6 ?_
    refine lv_icmp_ge (tgt := 39) hx hb dX6_toldOn_9 (by decide) (fun c_9_4 => ?_) (fun c_9_4 => ?_)
    · have q_9_5 : bn ≤ k := q_le (by omega) (by omega) c_9_4
      have ek : k = bn := by omega
      rw [ek] at hg
      refine lv_iload_n hx hb dX6_toldOn_39 rfl (lv_at hl 2 rfl) ?_
      exact W.iret (v := g) hx hb hr (fun t9 ht9 hW9 => ⟨⟨g, (), rfl, hg, fun k q h => by cases k <;> cases h⟩, w.2.1.F ht9⟩) w.2.1.2.2 dX6_toldOn_40
    · have q_9_5 : k < bn := q_nle (by omega) (by omega) c_9_4
      refine lv_aload_n hx hb dX6_toldOn_12 rfl (lv_at hl 0 rfl) ?_
      refine b_get X E w 0 rfl rfl 14 (by decide) iX6 (by decide +kernel) rfl rfl dX6_toldOn_13 ?_
      refine lv_iload_n hx hb dX6_toldOn_16 rfl (lv_at hl 3 rfl) ?_
      refine b_iald X E w 1 rfl k rfl (by omega) (by first | decide | omega) dX6_toldOn_17 ?_
      refine lv_iload_n hx hb dX6_toldOn_18 rfl (lv_at hl 1 rfl) ?_
      refine lv_icmp_ne (tgt := 31) hx hb dX6_toldOn_19 (by decide) (fun c_19_6 => ?_) (fun c_19_6 => ?_)
      · have hgn := hg.trans (tdO_n (bd := bd) c_19_6).symm
        refine lv_iload_n hx hb dX6_toldOn_31 rfl (lv_at hl 2 rfl) ?_
        refine lv_istore_n (lv' := [(2, .int g), (0, .ref M), (1, .int x), (3, .int (nI k))]) hx hb dX6_toldOn_32 rfl hl (by decide) rfl (fun ls hl => ?_)
        refine lv_iinc (v := nI (k + 1)) (lv' := [(3, .int (nI (k + 1))), (2, .int g), (0, .ref M), (1, .int x)]) hx hb dX6_toldOn_33 hl (k := 3) rfl (nI_add k 1) (by decide) rfl (fun ls hl => ?_)
        refine lv_goto (tgt := 4) hx hb dX6_toldOn_36 (by decide) ?_
        exact ih4 _ _ _ ⟨k + 1, g, (by omega), (by omega), hgn, w, lv_sub hl [2, 3, 1, 0] rfl⟩
      · have hgn := (tdO_y (bd := bd) c_19_6).symm
        refine lv_aload_n hx hb dX6_toldOn_22 rfl (lv_at hl 0 rfl) ?_
        refine b_get X E w 0 rfl rfl 15 (by decide) iX6 (by decide +kernel) rfl rfl dX6_toldOn_23 ?_
        refine lv_iload_n hx hb dX6_toldOn_26 rfl (lv_at hl 3 rfl) ?_
        refine b_iald X E w 2 rfl k rfl (by omega) (by first | decide | omega) dX6_toldOn_27 ?_
        refine lv_goto (tgt := 32) hx hb dX6_toldOn_28 (by decide) ?_
        refine lv_istore_n (lv' := [(2, .int (bd k)), (0, .ref M), (1, .int x), (3, .int (nI k))]) hx hb dX6_toldOn_32 rfl hl (by decide) rfl (fun ls hl => ?_)
        refine lv_iinc (v := nI (k + 1)) (lv' := [(3, .int (nI (k + 1))), (2, .int (bd k)), (0, .ref M), (1, .int x)]) hx hb dX6_toldOn_33 hl (k := 3) rfl (nI_add k 1) (by decide) rfl (fun ls hl => ?_)
        refine lv_goto (tgt := 4) hx hb dX6_toldOn_36 (by decide) ?_
        exact ih4 _ _ _ ⟨k + 1, bd k, (by omega), (by omega), hgn, w, lv_sub hl [2, 3, 1, 0] rfl⟩
set_option maxHeartbeats 4000000 in
set_option maxRecDepth 100000 in
theorem c_X6_isWithin_A (l : Launch) (hl0 : l.stackTraces = false) (G : bG) (sz : Nat) (M yA yJ yg yw yc yv yr yC yD yF yS yV yH td nA nJ dn snt jd bn : Nat) (th : Int32) (fA : Nat → Int32) (k : Nat) (x : Int32) (hnA : nA ≤ 14) (hTA : TI fA nA) (hk : k < nA) : Met l yX6_isWithin wsX6_isWithin ({ frames := 0, cells := 0, slots := 0, locals := 0 }) (va_Pc [.ref M, .int (nI k), .int x, .int (nI 0)] (bPre G vwCl bNW bSW sz [(M, .inr (6, [.int (nI td), .int (nI nA), .int (nI nJ), .ref yA, .ref yJ, .ref yg, .int (nI dn), .ref yw, .ref yc, .ref yv, .int (nI snt), .int (nI jd), .ref yr, .int (nI bn), .ref yC, .ref yD, .ref yF, .ref yS, .ref yV, .ref yH, .int th])), (yA, .inl (G.2.1, 14, .inl fA))] [])) (va_Qi (fun (r : Int32) (_ : Unit) => r = bI ((decide (x = -1) || wkB fA (fun j => decide (nI j = x)) nA (nI k)))) (fun (_ : Unit) (tS : State) => va_P G.1 vwCl [] tS.heap) (Aw [] sz)) 0 0 (Aw [] sz) := by
  refine Met.ofW (cc := cX6_isWithin) (maxL := 6) (ret := (some .boolean)) (by decide) rfl ?_
  intro p e s m args below meth c s₁ B hml hv
  obtain ⟨rfl, hsz, hP, hD, E, Z⟩ := hv
  have hts := atoms_spec (ws := wsX6_isWithin) B.pre
  have hown : s.vm.findClass RX6 = some m.cls := findClass_of_methodNamed B.named
  have X : CallFix p m c cX6_isWithin 6 s _ wsX6_isWithin RX6 := ⟨B.exec, B.bytes, hml, hown, hts⟩
  have hx := B.exec
  have hb := B.bytes
  have hr := B.returns
  have hlocks := B.notSynchronized
  subst hsz
  have w : bSt G vwCl [] s [(M, .inr (6, [.int (nI td), .int (nI nA), .int (nI nJ), .ref yA, .ref yJ, .ref yg, .int (nI dn), .ref yw, .ref yc, .ref yv, .int (nI snt), .int (nI jd), .ref yr, .int (nI bn), .ref yC, .ref yD, .ref yF, .ref yS, .ref yV, .ref yH, .int th])), (yA, .inl (G.2.1, 14, .inl fA))] s.heap [] := ⟨hP, va_S.rf, hD⟩
  have Z0 : bZ [] s := ⟨Z.1.narrow (fun q h => h.elim (fun h => nomatch h) Or.inr), Z.2.narrow (fun q h => h.elim (fun h => nomatch h) Or.inr)⟩
  have iX6 : ∀ w ∈ wsX60, w ∈ wsX6_isWithin := by decide +kernel
  have hl := lv_entry ([.ref M, .int (nI k), .int x, .int (nI 0)]) (n := 6) (Nat.le_of_ble_eq_true rfl)
  rw [lg_entry_eq]
  generalize (lg_sl ([.ref M, .int (nI k), .int x, .int (nI 0)]) ++ List.replicate (6 - (lg_sl ([.ref M, .int (nI k), .int x, .int (nI 0)])).length) Slot.unset).toArray = ls at hl ⊢
  have hl : lv_has ls 6 [(0, .ref M), (1, .int (nI k)), (2, .int x), (3, .int (nI 0))] := hl
  refine lv_iload_n hx hb dX6_isWithin_0 rfl (lv_at hl 2 rfl) ?_
  refine lv_iconst (v := -1) hx hb dX6_isWithin_1 (by decide) ?_
  refine lv_icmp_ne (tgt := 9) hx hb dX6_isWithin_2 (by decide) (fun c_2_10 => ?_) (fun c_2_10 => ?_)
  · refine lv_iconst (v := nI 0) hx hb dX6_isWithin_9 (by decide) ?_
    refine lv_istore (lv' := [(4, .int (nI 0)), (0, .ref M), (1, .int (nI k)), (2, .int x), (3, .int (nI 0))]) hx hb dX6_isWithin_10 hl (by decide) rfl (fun ls hl => ?_)
    refine lv_iload_n hx hb dX6_isWithin_12 rfl (lv_at hl 2 rfl) ?_
    refine lv_istore (lv' := [(5, .int (nI k)), (4, .int (nI 0)), (0, .ref M), (1, .int (nI k)), (2, .int x), (3, .int (nI 0))]) hx hb dX6_isWithin_13 hl (by decide) rfl (fun ls hl => ?_)
    refine b_loop (pc := 15) (st := []) (fun (fuel : Nat) (H : Heap) (locs : List Loc) (ls : Array Slot) => ∃ (m : Nat) (y : Int32) (is : Bool), (m + 1 ≤ fuel) ∧ (y = -1 ∨ ∃ j, j < m ∧ j < nA ∧ y = nI j) ∧ ((decide (x = -1) || wkB fA (fun j => decide (nI j = x)) nA (nI k)) = (is || wkB fA (fun j => decide (nI j = x)) m y)) ∧ bSt G vwCl [] s [(M, .inr (6, [.int (nI td), .int (nI nA), .int (nI nJ), .ref yA, .ref yJ, .ref yg, .int (nI dn), .ref yw, .ref yc, .ref yv, .int (nI snt), .int (nI jd), .ref yr, .int (nI bn), .ref yC, .ref yD, .ref yF, .ref yS, .ref yV, .ref yH, .int th])), (yA, .inl (G.2.1, 14, .inl fA))] H locs ∧ lv_has ls 6 [(0, .ref M), (2, .int x), (3, .int (nI 0)), (4, .int (bI is)), (5, .int y)]) (fun H locs ls h9 => ?_) (fun fuel H locs ls hI ih15 => ?_) (nA + 1) ⟨nA, nI k, false, (by omega), Or.inr ⟨k, hk, hk, rfl⟩, by simp [c_2_10], w, lv_sub hl [2, 4, 5, 1, 0] rfl⟩
    · obtain ⟨m, y, is, hf, hy, ht, w, hl⟩ := h9
      omega
    · obtain ⟨m, y, is, hf, hy, ht, w, hl⟩ := hI
      refine lv_iload hx hb dX6_isWithin_15 (lv_at hl 4 rfl) ?_
      refine lv_iconst (v := -1) hx hb dX6_isWithin_17 (by decide) ?_
      refine lv_icmp_eq (tgt := 63) hx hb dX6_isWithin_18 (by decide) (fun c_18_11 => ?_) (fun c_18_11 => ?_)
      · have hE : (decide (x = -1) || wkB fA (fun j => decide (nI j = x)) nA (nI k)) = is := by rw [ht, c_18_11, wkB_end, Bool.or_false]
        refine lv_iload hx hb dX6_isWithin_63 (lv_at hl 3 rfl) ?_
        exact W.zret (v := bI is) hx hb hr (bI_nar _) (fun t9 ht9 hW9 => ⟨⟨bI is, (), rfl, congrArg bI hE.symm, fun k q h => by cases k <;> cases h⟩, w.2.1.F ht9⟩) w.2.1.2.2 dX6_isWithin_65
      · obtain ⟨j, hj1, hj2, rfl⟩ := hy.resolve_left c_18_11
        obtain ⟨m1, rfl⟩ : ∃ m1, m = m1 + 1 := ⟨m - 1, by omega⟩
        refine lv_iload hx hb dX6_isWithin_21 (lv_at hl 3 rfl) ?_
        refine lv_iload hx hb dX6_isWithin_23 (lv_at hl 4 rfl) ?_
        refine lv_iload_n hx hb dX6_isWithin_25 rfl (lv_at hl 1 rfl) ?_
        refine lv_icmp_ne (tgt := 33) hx hb dX6_isWithin_26 (by decide) (fun c_26_12 => ?_) (fun c_26_12 => ?_)
        · refine lv_iconst (v := nI 0) hx hb dX6_isWithin_33 (by decide) ?_
          refine b_tp (show nI 0 = bI false from rfl) ?_
          refine lv_ior hx hb dX6_isWithin_34 ?_
          refine b_tp (show (bI is) ||| (bI false) = bI (is || false) from bI_or _ _) ?_
          refine lv_istore (lv' := [(4, .int (bI (is || false))), (0, .ref M), (2, .int x), (3, .int (nI 0)), (5, .int (nI j))]) hx hb dX6_isWithin_35 hl (by decide) rfl (fun ls hl => ?_)
          refine lv_iload_n hx hb dX6_isWithin_37 rfl (lv_at hl 3 rfl) ?_
          refine lv_if_eq (tgt := 51) hx hb dX6_isWithin_38 (by decide) (fun c_38_13 => ?_) (fun c_38_13 => ?_)
          · refine lv_aload_n hx hb dX6_isWithin_51 rfl (lv_at hl 1 rfl) ?_
            refine b_get X E w 0 rfl rfl 3 (by decide) iX6 (by decide +kernel) rfl rfl dX6_isWithin_52 ?_
            refine lv_iload hx hb dX6_isWithin_55 (lv_at hl 4 rfl) ?_
            refine b_iald X E w 1 rfl j rfl (by omega) (by first | decide | omega) dX6_isWithin_57 ?_
            refine lv_istore (lv' := [(5, .int (fA j)), (4, .int (bI (is || false))), (0, .ref M), (2, .int x), (3, .int (nI 0))]) hx hb dX6_isWithin_58 hl (by decide) rfl (fun ls hl => ?_)
            refine lv_goto (tgt := 15) hx hb dX6_isWithin_60 (by decide) ?_
            exact ih15 _ _ _ ⟨m1, fA j, (is || false), (by omega), tI_next2 hTA hj2 hj1, ht.trans (by rw [wkB_s (by omega), ← Bool.or_assoc]; simp [c_18_11, c_26_12, c_38_13]), w, lv_sub hl [2, 3, 4, 1, 0] rfl⟩
          · exact absurd (by decide) c_38_13
        · refine lv_iconst (v := nI 1) hx hb dX6_isWithin_29 (by decide) ?_
          refine lv_goto (tgt := 34) hx hb dX6_isWithin_30 (by decide) ?_
          refine b_tp (show nI 1 = bI true from rfl) ?_
          refine lv_ior hx hb dX6_isWithin_34 ?_
          refine b_tp (show (bI is) ||| (bI true) = bI (is || true) from bI_or _ _) ?_
          refine lv_istore (lv' := [(4, .int (bI (is || true))), (0, .ref M), (2, .int x), (3, .int (nI 0)), (5, .int (nI j))]) hx hb dX6_isWithin_35 hl (by decide) rfl (fun ls hl => ?_)
          refine lv_iload_n hx hb dX6_isWithin_37 rfl (lv_at hl 3 rfl) ?_
          refine lv_if_eq (tgt := 51) hx hb dX6_isWithin_38 (by decide) (fun c_38_14 => ?_) (fun c_38_14 => ?_)
          · refine lv_aload_n hx hb dX6_isWithin_51 rfl (lv_at hl 1 rfl) ?_
            refine b_get X E w 0 rfl rfl 3 (by decide) iX6 (by decide +kernel) rfl rfl dX6_isWithin_52 ?_
            refine lv_iload hx hb dX6_isWithin_55 (lv_at hl 4 rfl) ?_
            refine b_iald X E w 1 rfl j rfl (by omega) (by first | decide | omega) dX6_isWithin_57 ?_
            refine lv_istore (lv' := [(5, .int (fA j)), (4, .int (bI (is || true))), (0, .ref M), (2, .int x), (3, .int (nI 0))]) hx hb dX6_isWithin_58 hl (by decide) rfl (fun ls hl => ?_)
            refine lv_goto (tgt := 15) hx hb dX6_isWithin_60 (by decide) ?_
            exact ih15 _ _ _ ⟨m1, fA j, (is || true), (by omega), tI_next2 hTA hj2 hj1, ht.trans (by rw [wkB_s (by omega), ← Bool.or_assoc]; simp [c_18_11, c_26_12, c_38_14]), w, lv_sub hl [2, 3, 4, 1, 0] rfl⟩
          · exact absurd (by decide) c_38_14
  · refine lv_iconst (v := nI 1) hx hb dX6_isWithin_5 (by decide) ?_
    refine lv_goto (tgt := 10) hx hb dX6_isWithin_6 (by decide) ?_
    refine lv_istore (lv' := [(4, .int (nI 1)), (0, .ref M), (1, .int (nI k)), (2, .int x), (3, .int (nI 0))]) hx hb dX6_isWithin_10 hl (by decide) rfl (fun ls hl => ?_)
    refine lv_iload_n hx hb dX6_isWithin_12 rfl (lv_at hl 2 rfl) ?_
    refine lv_istore (lv' := [(5, .int (nI k)), (4, .int (nI 1)), (0, .ref M), (1, .int (nI k)), (2, .int x), (3, .int (nI 0))]) hx hb dX6_isWithin_13 hl (by decide) rfl (fun ls hl => ?_)
    refine b_loop (pc := 15) (st := []) (fun (fuel : Nat) (H : Heap) (locs : List Loc) (ls : Array Slot) => ∃ (m : Nat) (y : Int32) (is : Bool), (m + 1 ≤ fuel) ∧ (y = -1 ∨ ∃ j, j < m ∧ j < nA ∧ y = nI j) ∧ ((decide (x = -1) || wkB fA (fun j => decide (nI j = x)) nA (nI k)) = (is || wkB fA (fun j => decide (nI j = x)) m y)) ∧ bSt G vwCl [] s [(M, .inr (6, [.int (nI td), .int (nI nA), .int (nI nJ), .ref yA, .ref yJ, .ref yg, .int (nI dn), .ref yw, .ref yc, .ref yv, .int (nI snt), .int (nI jd), .ref yr, .int (nI bn), .ref yC, .ref yD, .ref yF, .ref yS, .ref yV, .ref yH, .int th])), (yA, .inl (G.2.1, 14, .inl fA))] H locs ∧ lv_has ls 6 [(0, .ref M), (2, .int x), (3, .int (nI 0)), (4, .int (bI is)), (5, .int y)]) (fun H locs ls h9 => ?_) (fun fuel H locs ls hI ih15 => ?_) (nA + 1) ⟨nA, nI k, true, (by omega), Or.inr ⟨k, hk, hk, rfl⟩, by simp [c_2_10], w, lv_sub hl [2, 4, 5, 1, 0] rfl⟩
    · obtain ⟨m, y, is, hf, hy, ht, w, hl⟩ := h9
      omega
    · obtain ⟨m, y, is, hf, hy, ht, w, hl⟩ := hI
      refine lv_iload hx hb dX6_isWithin_15 (lv_at hl 4 rfl) ?_
      refine lv_iconst (v := -1) hx hb dX6_isWithin_17 (by decide) ?_
      refine lv_icmp_eq (tgt := 63) hx hb dX6_isWithin_18 (by decide) (fun c_18_15 => ?_) (fun c_18_15 => ?_)
      · have hE : (decide (x = -1) || wkB fA (fun j => decide (nI j = x)) nA (nI k)) = is := by rw [ht, c_18_15, wkB_end, Bool.or_false]
        refine lv_iload hx hb dX6_isWithin_63 (lv_at hl 3 rfl) ?_
        exact W.zret (v := bI is) hx hb hr (bI_nar _) (fun t9 ht9 hW9 => ⟨⟨bI is, (), rfl, congrArg bI hE.symm, fun k q h => by cases k <;> cases h⟩, w.2.1.F ht9⟩) w.2.1.2.2 dX6_isWithin_65
      · obtain ⟨j, hj1, hj2, rfl⟩ := hy.resolve_left c_18_15
        obtain ⟨m1, rfl⟩ : ∃ m1, m = m1 + 1 := ⟨m - 1, by omega⟩
        refine lv_iload hx hb dX6_isWithin_21 (lv_at hl 3 rfl) ?_
        refine lv_iload hx hb dX6_isWithin_23 (lv_at hl 4 rfl) ?_
        refine lv_iload_n hx hb dX6_isWithin_25 rfl (lv_at hl 1 rfl) ?_
        refine lv_icmp_ne (tgt := 33) hx hb dX6_isWithin_26 (by decide) (fun c_26_16 => ?_) (fun c_26_16 => ?_)
        · refine lv_iconst (v := nI 0) hx hb dX6_isWithin_33 (by decide) ?_
          refine b_tp (show nI 0 = bI false from rfl) ?_
          refine lv_ior hx hb dX6_isWithin_34 ?_
          refine b_tp (show (bI is) ||| (bI false) = bI (is || false) from bI_or _ _) ?_
          refine lv_istore (lv' := [(4, .int (bI (is || false))), (0, .ref M), (2, .int x), (3, .int (nI 0)), (5, .int (nI j))]) hx hb dX6_isWithin_35 hl (by decide) rfl (fun ls hl => ?_)
          refine lv_iload_n hx hb dX6_isWithin_37 rfl (lv_at hl 3 rfl) ?_
          refine lv_if_eq (tgt := 51) hx hb dX6_isWithin_38 (by decide) (fun c_38_17 => ?_) (fun c_38_17 => ?_)
          · refine lv_aload_n hx hb dX6_isWithin_51 rfl (lv_at hl 1 rfl) ?_
            refine b_get X E w 0 rfl rfl 3 (by decide) iX6 (by decide +kernel) rfl rfl dX6_isWithin_52 ?_
            refine lv_iload hx hb dX6_isWithin_55 (lv_at hl 4 rfl) ?_
            refine b_iald X E w 1 rfl j rfl (by omega) (by first | decide | omega) dX6_isWithin_57 ?_
            refine lv_istore (lv' := [(5, .int (fA j)), (4, .int (bI (is || false))), (0, .ref M), (2, .int x), (3, .int (nI 0))]) hx hb dX6_isWithin_58 hl (by decide) rfl (fun ls hl => ?_)
            refine lv_goto (tgt := 15) hx hb dX6_isWithin_60 (by decide) ?_
            exact ih15 _ _ _ ⟨m1, fA j, (is || false), (by omega), tI_next2 hTA hj2 hj1, ht.trans (by rw [wkB_s (by omega), ← Bool.or_assoc]; simp [c_18_15, c_26_16, c_38_17]), w, lv_sub hl [2, 3, 4, 1, 0] rfl⟩
          · exact absurd (by decide) c_38_17
        · refine lv_iconst (v := nI 1) hx hb dX6_isWithin_29 (by decide) ?_
          refine lv_goto (tgt := 34) hx hb dX6_isWithin_30 (by decide) ?_
          refine b_tp (show nI 1 = bI true from rfl) ?_
          refine lv_ior hx hb dX6_isWithin_34 ?_
          refine b_tp (show (bI is) ||| (bI true) = bI (is || true) from bI_or _ _) ?_
          refine lv_istore (lv' := [(4, .int (bI (is || true))), (0, .ref M), (2, .int x), (3, .int (nI 0)), (5, .int (nI j))]) hx hb dX6_isWithin_35 hl (by decide) rfl (fun ls hl => ?_)
          refine lv_iload_n hx hb dX6_isWithin_37 rfl (lv_at hl 3 rfl) ?_
          refine lv_if_eq (tgt := 51) hx hb dX6_isWithin_38 (by decide) (fun c_38_18 => ?_) (fun c_38_18 => ?_)
          · refine lv_aload_n hx hb dX6_isWithin_51 rfl (lv_at hl 1 rfl) ?_
            refine b_get X E w 0 rfl rfl 3 (by decide) iX6 (by decide +kernel) rfl rfl dX6_isWithin_52 ?_
            refine lv_iload hx hb dX6_isWithin_55 (lv_at hl 4 rfl) ?_
            refine b_iald X E w 1 rfl j rfl (by omega) (by first | decide | omega) dX6_isWithin_57 ?_
            refine lv_istore (lv' := [(5, .int (fA j)), (4, .int (bI (is || true))), (0, .ref M), (2, .int x), (3, .int (nI 0))]) hx hb dX6_isWithin_58 hl (by decide) rfl (fun ls hl => ?_)
            refine lv_goto (tgt := 15) hx hb dX6_isWithin_60 (by decide) ?_
            exact ih15 _ _ _ ⟨m1, fA j, (is || true), (by omega), tI_next2 hTA hj2 hj1, ht.trans (by rw [wkB_s (by omega), ← Bool.or_assoc]; simp [c_18_15, c_26_16, c_38_18]), w, lv_sub hl [2, 3, 4, 1, 0] rfl⟩
          · exact absurd (by decide) c_38_18
set_option maxHeartbeats 4000000 in
set_option maxRecDepth 100000 in
theorem c_X6_isWithin_J (l : Launch) (hl0 : l.stackTraces = false) (G : bG) (sz : Nat) (M yA yJ yg yw yc yv yr yC yD yF yS yV yH td nA nJ dn snt jd bn : Nat) (th : Int32) (fJ : Nat → Int32) (k : Nat) (x : Int32) (hnJ : nJ ≤ 10) (hTJ : TI fJ nJ) (hk : k < nJ) : Met l yX6_isWithin wsX6_isWithin ({ frames := 0, cells := 0, slots := 0, locals := 0 }) (va_Pc [.ref M, .int (nI k), .int x, .int (nI 1)] (bPre G vwCl bNW bSW sz [(M, .inr (6, [.int (nI td), .int (nI nA), .int (nI nJ), .ref yA, .ref yJ, .ref yg, .int (nI dn), .ref yw, .ref yc, .ref yv, .int (nI snt), .int (nI jd), .ref yr, .int (nI bn), .ref yC, .ref yD, .ref yF, .ref yS, .ref yV, .ref yH, .int th])), (yJ, .inl (G.2.1, 10, .inl fJ))] [])) (va_Qi (fun (r : Int32) (_ : Unit) => r = bI ((decide (x = -1) || wkB fJ (fun j => decide (nI j = x)) nJ (nI k)))) (fun (_ : Unit) (tS : State) => va_P G.1 vwCl [] tS.heap) (Aw [] sz)) 0 0 (Aw [] sz) := by
  refine Met.ofW (cc := cX6_isWithin) (maxL := 6) (ret := (some .boolean)) (by decide) rfl ?_
  intro p e s m args below meth c s₁ B hml hv
  obtain ⟨rfl, hsz, hP, hD, E, Z⟩ := hv
  have hts := atoms_spec (ws := wsX6_isWithin) B.pre
  have hown : s.vm.findClass RX6 = some m.cls := findClass_of_methodNamed B.named
  have X : CallFix p m c cX6_isWithin 6 s _ wsX6_isWithin RX6 := ⟨B.exec, B.bytes, hml, hown, hts⟩
  have hx := B.exec
  have hb := B.bytes
  have hr := B.returns
  have hlocks := B.notSynchronized
  subst hsz
  have w : bSt G vwCl [] s [(M, .inr (6, [.int (nI td), .int (nI nA), .int (nI nJ), .ref yA, .ref yJ, .ref yg, .int (nI dn), .ref yw, .ref yc, .ref yv, .int (nI snt), .int (nI jd), .ref yr, .int (nI bn), .ref yC, .ref yD, .ref yF, .ref yS, .ref yV, .ref yH, .int th])), (yJ, .inl (G.2.1, 10, .inl fJ))] s.heap [] := ⟨hP, va_S.rf, hD⟩
  have Z0 : bZ [] s := ⟨Z.1.narrow (fun q h => h.elim (fun h => nomatch h) Or.inr), Z.2.narrow (fun q h => h.elim (fun h => nomatch h) Or.inr)⟩
  have iX6 : ∀ w ∈ wsX60, w ∈ wsX6_isWithin := by decide +kernel
  have hl := lv_entry ([.ref M, .int (nI k), .int x, .int (nI 1)]) (n := 6) (Nat.le_of_ble_eq_true rfl)
  rw [lg_entry_eq]
  generalize (lg_sl ([.ref M, .int (nI k), .int x, .int (nI 1)]) ++ List.replicate (6 - (lg_sl ([.ref M, .int (nI k), .int x, .int (nI 1)])).length) Slot.unset).toArray = ls at hl ⊢
  have hl : lv_has ls 6 [(0, .ref M), (1, .int (nI k)), (2, .int x), (3, .int (nI 1))] := hl
  refine lv_iload_n hx hb dX6_isWithin_0 rfl (lv_at hl 2 rfl) ?_
  refine lv_iconst (v := -1) hx hb dX6_isWithin_1 (by decide) ?_
  refine lv_icmp_ne (tgt := 9) hx hb dX6_isWithin_2 (by decide) (fun c_2_10 => ?_) (fun c_2_10 => ?_)
  · refine lv_iconst (v := nI 0) hx hb dX6_isWithin_9 (by decide) ?_
    refine lv_istore (lv' := [(4, .int (nI 0)), (0, .ref M), (1, .int (nI k)), (2, .int x), (3, .int (nI 1))]) hx hb dX6_isWithin_10 hl (by decide) rfl (fun ls hl => ?_)
    refine lv_iload_n hx hb dX6_isWithin_12 rfl (lv_at hl 2 rfl) ?_
    refine lv_istore (lv' := [(5, .int (nI k)), (4, .int (nI 0)), (0, .ref M), (1, .int (nI k)), (2, .int x), (3, .int (nI 1))]) hx hb dX6_isWithin_13 hl (by decide) rfl (fun ls hl => ?_)
    refine b_loop (pc := 15) (st := []) (fun (fuel : Nat) (H : Heap) (locs : List Loc) (ls : Array Slot) => ∃ (m : Nat) (y : Int32) (is : Bool), (m + 1 ≤ fuel) ∧ (y = -1 ∨ ∃ j, j < m ∧ j < nJ ∧ y = nI j) ∧ ((decide (x = -1) || wkB fJ (fun j => decide (nI j = x)) nJ (nI k)) = (is || wkB fJ (fun j => decide (nI j = x)) m y)) ∧ bSt G vwCl [] s [(M, .inr (6, [.int (nI td), .int (nI nA), .int (nI nJ), .ref yA, .ref yJ, .ref yg, .int (nI dn), .ref yw, .ref yc, .ref yv, .int (nI snt), .int (nI jd), .ref yr, .int (nI bn), .ref yC, .ref yD, .ref yF, .ref yS, .ref yV, .ref yH, .int th])), (yJ, .inl (G.2.1, 10, .inl fJ))] H locs ∧ lv_has ls 6 [(0, .ref M), (2, .int x), (3, .int (nI 1)), (4, .int (bI is)), (5, .int y)]) (fun H locs ls h9 => ?_) (fun fuel H locs ls hI ih15 => ?_) (nJ + 1) ⟨nJ, nI k, false, (by omega), Or.inr ⟨k, hk, hk, rfl⟩, by simp [c_2_10], w, lv_sub hl [2, 4, 5, 1, 0] rfl⟩
    · obtain ⟨m, y, is, hf, hy, ht, w, hl⟩ := h9
      omega
    · obtain ⟨m, y, is, hf, hy, ht, w, hl⟩ := hI
      refine lv_iload hx hb dX6_isWithin_15 (lv_at hl 4 rfl) ?_
      refine lv_iconst (v := -1) hx hb dX6_isWithin_17 (by decide) ?_
      refine lv_icmp_eq (tgt := 63) hx hb dX6_isWithin_18 (by decide) (fun c_18_11 => ?_) (fun c_18_11 => ?_)
      · have hE : (decide (x = -1) || wkB fJ (fun j => decide (nI j = x)) nJ (nI k)) = is := by rw [ht, c_18_11, wkB_end, Bool.or_false]
        refine lv_iload hx hb dX6_isWithin_63 (lv_at hl 3 rfl) ?_
        exact W.zret (v := bI is) hx hb hr (bI_nar _) (fun t9 ht9 hW9 => ⟨⟨bI is, (), rfl, congrArg bI hE.symm, fun k q h => by cases k <;> cases h⟩, w.2.1.F ht9⟩) w.2.1.2.2 dX6_isWithin_65
      · obtain ⟨j, hj1, hj2, rfl⟩ := hy.resolve_left c_18_11
        obtain ⟨m1, rfl⟩ : ∃ m1, m = m1 + 1 := ⟨m - 1, by omega⟩
        refine lv_iload hx hb dX6_isWithin_21 (lv_at hl 3 rfl) ?_
        refine lv_iload hx hb dX6_isWithin_23 (lv_at hl 4 rfl) ?_
        refine lv_iload_n hx hb dX6_isWithin_25 rfl (lv_at hl 1 rfl) ?_
        refine lv_icmp_ne (tgt := 33) hx hb dX6_isWithin_26 (by decide) (fun c_26_12 => ?_) (fun c_26_12 => ?_)
        · refine lv_iconst (v := nI 0) hx hb dX6_isWithin_33 (by decide) ?_
          refine b_tp (show nI 0 = bI false from rfl) ?_
          refine lv_ior hx hb dX6_isWithin_34 ?_
          refine b_tp (show (bI is) ||| (bI false) = bI (is || false) from bI_or _ _) ?_
          refine lv_istore (lv' := [(4, .int (bI (is || false))), (0, .ref M), (2, .int x), (3, .int (nI 1)), (5, .int (nI j))]) hx hb dX6_isWithin_35 hl (by decide) rfl (fun ls hl => ?_)
          refine lv_iload_n hx hb dX6_isWithin_37 rfl (lv_at hl 3 rfl) ?_
          refine lv_if_eq (tgt := 51) hx hb dX6_isWithin_38 (by decide) (fun c_38_13 => ?_) (fun c_38_13 => ?_)
          · exact absurd c_38_13 (by decide)
          · refine lv_aload_n hx hb dX6_isWithin_41 rfl (lv_at hl 1 rfl) ?_
            refine b_get X E w 0 rfl rfl 4 (by decide) iX6 (by decide +kernel) rfl rfl dX6_isWithin_42 ?_
            refine lv_iload hx hb dX6_isWithin_45 (lv_at hl 4 rfl) ?_
            refine b_iald X E w 1 rfl j rfl (by omega) (by first | decide | omega) dX6_isWithin_47 ?_
            refine lv_goto (tgt := 58) hx hb dX6_isWithin_48 (by decide) ?_
            refine lv_istore (lv' := [(5, .int (fJ j)), (4, .int (bI (is || false))), (0, .ref M), (2, .int x), (3, .int (nI 1))]) hx hb dX6_isWithin_58 hl (by decide) rfl (fun ls hl => ?_)
            refine lv_goto (tgt := 15) hx hb dX6_isWithin_60 (by decide) ?_
            exact ih15 _ _ _ ⟨m1, fJ j, (is || false), (by omega), tI_next2 hTJ hj2 hj1, ht.trans (by rw [wkB_s (by omega), ← Bool.or_assoc]; simp [c_18_11, c_26_12, c_38_13]), w, lv_sub hl [2, 3, 4, 1, 0] rfl⟩
        · refine lv_iconst (v := nI 1) hx hb dX6_isWithin_29 (by decide) ?_
          refine lv_goto (tgt := 34) hx hb dX6_isWithin_30 (by decide) ?_
          refine b_tp (show nI 1 = bI true from rfl) ?_
          refine lv_ior hx hb dX6_isWithin_34 ?_
          refine b_tp (show (bI is) ||| (bI true) = bI (is || true) from bI_or _ _) ?_
          refine lv_istore (lv' := [(4, .int (bI (is || true))), (0, .ref M), (2, .int x), (3, .int (nI 1)), (5, .int (nI j))]) hx hb dX6_isWithin_35 hl (by decide) rfl (fun ls hl => ?_)
          refine lv_iload_n hx hb dX6_isWithin_37 rfl (lv_at hl 3 rfl) ?_
          refine lv_if_eq (tgt := 51) hx hb dX6_isWithin_38 (by decide) (fun c_38_14 => ?_) (fun c_38_14 => ?_)
          · exact absurd c_38_14 (by decide)
          · refine lv_aload_n hx hb dX6_isWithin_41 rfl (lv_at hl 1 rfl) ?_
            refine b_get X E w 0 rfl rfl 4 (by decide) iX6 (by decide +kernel) rfl rfl dX6_isWithin_42 ?_
            refine lv_iload hx hb dX6_isWithin_45 (lv_at hl 4 rfl) ?_
            refine b_iald X E w 1 rfl j rfl (by omega) (by first | decide | omega) dX6_isWithin_47 ?_
            refine lv_goto (tgt := 58) hx hb dX6_isWithin_48 (by decide) ?_
            refine lv_istore (lv' := [(5, .int (fJ j)), (4, .int (bI (is || true))), (0, .ref M), (2, .int x), (3, .int (nI 1))]) hx hb dX6_isWithin_58 hl (by decide) rfl (fun ls hl => ?_)
            refine lv_goto (tgt := 15) hx hb dX6_isWithin_60 (by decide) ?_
            exact ih15 _ _ _ ⟨m1, fJ j, (is || true), (by omega), tI_next2 hTJ hj2 hj1, ht.trans (by rw [wkB_s (by omega), ← Bool.or_assoc]; simp [c_18_11, c_26_12, c_38_14]), w, lv_sub hl [2, 3, 4, 1, 0] rfl⟩
  · refine lv_iconst (v := nI 1) hx hb dX6_isWithin_5 (by decide) ?_
    refine lv_goto (tgt := 10) hx hb dX6_isWithin_6 (by decide) ?_
    refine lv_istore (lv' := [(4, .int (nI 1)), (0, .ref M), (1, .int (nI k)), (2, .int x), (3, .int (nI 1))]) hx hb dX6_isWithin_10 hl (by decide) rfl (fun ls hl => ?_)
    refine lv_iload_n hx hb dX6_isWithin_12 rfl (lv_at hl 2 rfl) ?_
    refine lv_istore (lv' := [(5, .int (nI k)), (4, .int (nI 1)), (0, .ref M), (1, .int (nI k)), (2, .int x), (3, .int (nI 1))]) hx hb dX6_isWithin_13 hl (by decide) rfl (fun ls hl => ?_)
    refine b_loop (pc := 15) (st := []) (fun (fuel : Nat) (H : Heap) (locs : List Loc) (ls : Array Slot) => ∃ (m : Nat) (y : Int32) (is : Bool), (m + 1 ≤ fuel) ∧ (y = -1 ∨ ∃ j, j < m ∧ j < nJ ∧ y = nI j) ∧ ((decide (x = -1) || wkB fJ (fun j => decide (nI j = x)) nJ (nI k)) = (is || wkB fJ (fun j => decide (nI j = x)) m y)) ∧ bSt G vwCl [] s [(M, .inr (6, [.int (nI td), .int (nI nA), .int (nI nJ), .ref yA, .ref yJ, .ref yg, .int (nI dn), .ref yw, .ref yc, .ref yv, .int (nI snt), .int (nI jd), .ref yr, .int (nI bn), .ref yC, .ref yD, .ref yF, .ref yS, .ref yV, .ref yH, .int th])), (yJ, .inl (G.2.1, 10, .inl fJ))] H locs ∧ lv_has ls 6 [(0, .ref M), (2, .int x), (3, .int (nI 1)), (4, .int (bI is)), (5, .int y)]) (fun H locs ls h9 => ?_) (fun fuel H locs ls hI ih15 => ?_) (nJ + 1) ⟨nJ, nI k, true, (by omega), Or.inr ⟨k, hk, hk, rfl⟩, by simp [c_2_10], w, lv_sub hl [2, 4, 5, 1, 0] rfl⟩
    · obtain ⟨m, y, is, hf, hy, ht, w, hl⟩ := h9
      omega
    · obtain ⟨m, y, is, hf, hy, ht, w, hl⟩ := hI
      refine lv_iload hx hb dX6_isWithin_15 (lv_at hl 4 rfl) ?_
      refine lv_iconst (v := -1) hx hb dX6_isWithin_17 (by decide) ?_
      refine lv_icmp_eq (tgt := 63) hx hb dX6_isWithin_18 (by decide) (fun c_18_15 => ?_) (fun c_18_15 => ?_)
      · have hE : (decide (x = -1) || wkB fJ (fun j => decide (nI j = x)) nJ (nI k)) = is := by rw [ht, c_18_15, wkB_end, Bool.or_false]
        refine lv_iload hx hb dX6_isWithin_63 (lv_at hl 3 rfl) ?_
        exact W.zret (v := bI is) hx hb hr (bI_nar _) (fun t9 ht9 hW9 => ⟨⟨bI is, (), rfl, congrArg bI hE.symm, fun k q h => by cases k <;> cases h⟩, w.2.1.F ht9⟩) w.2.1.2.2 dX6_isWithin_65
      · obtain ⟨j, hj1, hj2, rfl⟩ := hy.resolve_left c_18_15
        obtain ⟨m1, rfl⟩ : ∃ m1, m = m1 + 1 := ⟨m - 1, by omega⟩
        refine lv_iload hx hb dX6_isWithin_21 (lv_at hl 3 rfl) ?_
        refine lv_iload hx hb dX6_isWithin_23 (lv_at hl 4 rfl) ?_
        refine lv_iload_n hx hb dX6_isWithin_25 rfl (lv_at hl 1 rfl) ?_
        refine lv_icmp_ne (tgt := 33) hx hb dX6_isWithin_26 (by decide) (fun c_26_16 => ?_) (fun c_26_16 => ?_)
        · refine lv_iconst (v := nI 0) hx hb dX6_isWithin_33 (by decide) ?_
          refine b_tp (show nI 0 = bI false from rfl) ?_
          refine lv_ior hx hb dX6_isWithin_34 ?_
          refine b_tp (show (bI is) ||| (bI false) = bI (is || false) from bI_or _ _) ?_
          refine lv_istore (lv' := [(4, .int (bI (is || false))), (0, .ref M), (2, .int x), (3, .int (nI 1)), (5, .int (nI j))]) hx hb dX6_isWithin_35 hl (by decide) rfl (fun ls hl => ?_)
          refine lv_iload_n hx hb dX6_isWithin_37 rfl (lv_at hl 3 rfl) ?_
          refine lv_if_eq (tgt := 51) hx hb dX6_isWithin_38 (by decide) (fun c_38_17 => ?_) (fun c_38_17 => ?_)
          · exact absurd c_38_17 (by decide)
          · refine lv_aload_n hx hb dX6_isWithin_41 rfl (lv_at hl 1 rfl) ?_
            refine b_get X E w 0 rfl rfl 4 (by decide) iX6 (by decide +kernel) rfl rfl dX6_isWithin_42 ?_
            refine lv_iload hx hb dX6_isWithin_45 (lv_at hl 4 rfl) ?_
            refine b_iald X E w 1 rfl j rfl (by omega) (by first | decide | omega) dX6_isWithin_47 ?_
            refine lv_goto (tgt := 58) hx hb dX6_isWithin_48 (by decide) ?_
            refine lv_istore (lv' := [(5, .int (fJ j)), (4, .int (bI (is || false))), (0, .ref M), (2, .int x), (3, .int (nI 1))]) hx hb dX6_isWithin_58 hl (by decide) rfl (fun ls hl => ?_)
            refine lv_goto (tgt := 15) hx hb dX6_isWithin_60 (by decide) ?_
            exact ih15 _ _ _ ⟨m1, fJ j, (is || false), (by omega), tI_next2 hTJ hj2 hj1, ht.trans (by rw [wkB_s (by omega), ← Bool.or_assoc]; simp [c_18_15, c_26_16, c_38_17]), w, lv_sub hl [2, 3, 4, 1, 0] rfl⟩
        · refine lv_iconst (v := nI 1) hx hb dX6_isWithin_29 (by decide) ?_
          refine lv_goto (tgt := 34) hx hb dX6_isWithin_30 (by decide) ?_
          refine b_tp (show nI 1 = bI true from rfl) ?_
          refine lv_ior hx hb dX6_isWithin_34 ?_
          refine b_tp (show (bI is) ||| (bI true) = bI (is || true) from bI_or _ _) ?_
          refine lv_istore (lv' := [(4, .int (bI (is || true))), (0, .ref M), (2, .int x), (3, .int (nI 1)), (5, .int (nI j))]) hx hb dX6_isWithin_35 hl (by decide) rfl (fun ls hl => ?_)
          refine lv_iload_n hx hb dX6_isWithin_37 rfl (lv_at hl 3 rfl) ?_
          refine lv_if_eq (tgt := 51) hx hb dX6_isWithin_38 (by decide) (fun c_38_18 => ?_) (fun c_38_18 => ?_)
          · exact absurd c_38_18 (by decide)
          · refine lv_aload_n hx hb dX6_isWithin_41 rfl (lv_at hl 1 rfl) ?_
            refine b_get X E w 0 rfl rfl 4 (by decide) iX6 (by decide +kernel) rfl rfl dX6_isWithin_42 ?_
            refine lv_iload hx hb dX6_isWithin_45 (lv_at hl 4 rfl) ?_
            refine b_iald X E w 1 rfl j rfl (by omega) (by first | decide | omega) dX6_isWithin_47 ?_
            refine lv_goto (tgt := 58) hx hb dX6_isWithin_48 (by decide) ?_
            refine lv_istore (lv' := [(5, .int (fJ j)), (4, .int (bI (is || true))), (0, .ref M), (2, .int x), (3, .int (nI 1))]) hx hb dX6_isWithin_58 hl (by decide) rfl (fun ls hl => ?_)
            refine lv_goto (tgt := 15) hx hb dX6_isWithin_60 (by decide) ?_
            exact ih15 _ _ _ ⟨m1, fJ j, (is || true), (by omega), tI_next2 hTJ hj2 hj1, ht.trans (by rw [wkB_s (by omega), ← Bool.or_assoc]; simp [c_18_15, c_26_16, c_38_18]), w, lv_sub hl [2, 3, 4, 1, 0] rfl⟩
set_option maxHeartbeats 4000000 in
set_option maxRecDepth 100000 in
theorem c_X6_sumOf_A (l : Launch) (hl0 : l.stackTraces = false) (G : bG) (sz : Nat) (M yA yJ yg yw yc yv yr yC yD yF yS yV yH td nA nJ dn snt jd bn : Nat) (th : Int32) (fA : Nat → Int32) (v : Nat → Int32) (a i : Nat) (hnA : nA ≤ 14) (hnJ : nJ ≤ 10) (ha : a < nA) (hi : i < nJ) : Met l yX6_sumOf wsX6_sumOf ({ frames := 0, cells := 0, slots := 0, locals := 0 }) (va_Pc [.ref M, .int (nI a), .int (nI i), .int (nI 0)] (bPre G vwCl bNW bSW sz [(M, .inr (6, [.int (nI td), .int (nI nA), .int (nI nJ), .ref yA, .ref yJ, .ref yg, .int (nI dn), .ref yw, .ref yc, .ref yv, .int (nI snt), .int (nI jd), .ref yr, .int (nI bn), .ref yC, .ref yD, .ref yF, .ref yS, .ref yV, .ref yH, .int th])), (yA, .inl (G.2.1, 14, .inl fA)), (yV, .inl (G.2.1, 140, .inl v))] [])) (va_Qi (fun (r : Int32) (_ : Unit) => r = sA fA nA v a i) (fun (_ : Unit) (tS : State) => va_P G.1 vwCl [] tS.heap) (Aw [] sz)) 0 0 (Aw [] sz) := by
  refine Met.ofW (cc := cX6_sumOf) (maxL := 9) (ret := (some .int)) (by decide) rfl ?_
  intro p e s m args below meth c s₁ B hml hv
  obtain ⟨rfl, hsz, hP, hD, E, Z⟩ := hv
  have hts := atoms_spec (ws := wsX6_sumOf) B.pre
  have hown : s.vm.findClass RX6 = some m.cls := findClass_of_methodNamed B.named
  have X : CallFix p m c cX6_sumOf 9 s _ wsX6_sumOf RX6 := ⟨B.exec, B.bytes, hml, hown, hts⟩
  have hx := B.exec
  have hb := B.bytes
  have hr := B.returns
  have hlocks := B.notSynchronized
  subst hsz
  have w : bSt G vwCl [] s [(M, .inr (6, [.int (nI td), .int (nI nA), .int (nI nJ), .ref yA, .ref yJ, .ref yg, .int (nI dn), .ref yw, .ref yc, .ref yv, .int (nI snt), .int (nI jd), .ref yr, .int (nI bn), .ref yC, .ref yD, .ref yF, .ref yS, .ref yV, .ref yH, .int th])), (yA, .inl (G.2.1, 14, .inl fA)), (yV, .inl (G.2.1, 140, .inl v))] s.heap [] := ⟨hP, va_S.rf, hD⟩
  have Z0 : bZ [] s := ⟨Z.1.narrow (fun q h => h.elim (fun h => nomatch h) Or.inr), Z.2.narrow (fun q h => h.elim (fun h => nomatch h) Or.inr)⟩
  have iX6 : ∀ w ∈ wsX60, w ∈ wsX6_sumOf := by decide +kernel
  have hl := lv_entry ([.ref M, .int (nI a), .int (nI i), .int (nI 0)]) (n := 9) (Nat.le_of_ble_eq_true rfl)
  rw [lg_entry_eq]
  generalize (lg_sl ([.ref M, .int (nI a), .int (nI i), .int (nI 0)]) ++ List.replicate (9 - (lg_sl ([.ref M, .int (nI a), .int (nI i), .int (nI 0)])).length) Slot.unset).toArray = ls at hl ⊢
  have hl : lv_has ls 9 [(0, .ref M), (1, .int (nI a)), (2, .int (nI i)), (3, .int (nI 0))] := hl
  refine lv_iconst (v := nI 0) hx hb dX6_sumOf_0 (by decide) ?_
  refine lv_istore (lv' := [(4, .int (nI 0)), (0, .ref M), (1, .int (nI a)), (2, .int (nI i)), (3, .int (nI 0))]) hx hb dX6_sumOf_1 hl (by decide) rfl (fun ls hl => ?_)
  refine lv_iconst (v := nI 1) hx hb dX6_sumOf_3 (by decide) ?_
  refine lv_istore (lv' := [(5, .int (nI 1)), (4, .int (nI 0)), (0, .ref M), (1, .int (nI a)), (2, .int (nI i)), (3, .int (nI 0))]) hx hb dX6_sumOf_4 hl (by decide) rfl (fun ls hl => ?_)
  refine lv_iconst (v := nI 0) hx hb dX6_sumOf_6 (by decide) ?_
  refine lv_istore (lv' := [(6, .int (nI 0)), (5, .int (nI 1)), (4, .int (nI 0)), (0, .ref M), (1, .int (nI a)), (2, .int (nI i)), (3, .int (nI 0))]) hx hb dX6_sumOf_7 hl (by decide) rfl (fun ls hl => ?_)
  refine lv_iconst (v := nI 0) hx hb dX6_sumOf_9 (by decide) ?_
  refine lv_istore (lv' := [(7, .int (nI 0)), (6, .int (nI 0)), (5, .int (nI 1)), (4, .int (nI 0)), (0, .ref M), (1, .int (nI a)), (2, .int (nI i)), (3, .int (nI 0))]) hx hb dX6_sumOf_10 hl (by decide) rfl (fun ls hl => ?_)
  refine b_loop (pc := 12) (st := []) (fun (fuel : Nat) (H : Heap) (locs : List Loc) (ls : Array Slot) => ∃ (k : Nat) (sm : Int32) (al : Bool) (mn : Nat), (k ≤ nA) ∧ (nA + 1 ≤ k + fuel) ∧ (mn ≤ k) ∧ (mn = (rS (fun k => decide (fA k = nI a)) (fun k => v (10 * k + i)) k).2.2) ∧ (al = (rS (fun k => decide (fA k = nI a)) (fun k => v (10 * k + i)) k).2.1) ∧ (al = true → sm = (rS (fun k => decide (fA k = nI a)) (fun k => v (10 * k + i)) k).1) ∧ bSt G vwCl [] s [(M, .inr (6, [.int (nI td), .int (nI nA), .int (nI nJ), .ref yA, .ref yJ, .ref yg, .int (nI dn), .ref yw, .ref yc, .ref yv, .int (nI snt), .int (nI jd), .ref yr, .int (nI bn), .ref yC, .ref yD, .ref yF, .ref yS, .ref yV, .ref yH, .int th])), (yA, .inl (G.2.1, 14, .inl fA)), (yV, .inl (G.2.1, 140, .inl v))] H locs ∧ lv_has ls 9 [(0, .ref M), (1, .int (nI a)), (2, .int (nI i)), (3, .int (nI 0)), (4, .int sm), (5, .int (bI al)), (6, .int (nI mn)), (7, .int (nI k))]) (fun H locs ls h9 => ?_) (fun fuel H locs ls hI ih12 => ?_) (nA + 1) ⟨0, nI 0, true, 0, (by omega), (by omega), (by omega), rfl, rfl, fun _ => rfl, w, lv_sub hl [4, 5, 6, 7, 3, 2, 1, 0] rfl⟩
  · obtain ⟨k, sm, al, mn, hk, hf, hmk, h1, h2, h3, w, hl⟩ := h9
    omega
  · obtain ⟨k, sm, al, mn, hk, hf, hmk, h1, h2, h3, w, hl⟩ := hI
    refine lv_iload hx hb dX6_sumOf_12 (lv_at hl 7 rfl) ?_
    refine lv_iload_n hx hb dX6_sumOf_14 rfl (lv_at hl 3 rfl) ?_
    refine lv_if_eq (tgt := 25) hx hb dX6_sumOf_15 (by decide) (fun c_15_15 => ?_) (fun c_15_15 => ?_)
    · refine lv_aload_n hx hb dX6_sumOf_25 rfl (lv_at hl 0 rfl) ?_
      refine b_get X E w 0 rfl rfl 1 (by decide) iX6 (by decide +kernel) rfl rfl dX6_sumOf_26 ?_
      refine lv_icmp_ge (tgt := 137) hx hb dX6_sumOf_29 (by decide) (fun c_29_16 => ?_) (fun c_29_16 => ?_)
      · have q_29_17 : nA ≤ k := q_le (by omega) (by omega) c_29_16
        have ek : k = nA := by omega
        rw [ek] at h1 h2 h3
        have hE := rSum_mk h1 h2 h3
        refine lv_iload hx hb dX6_sumOf_137 (lv_at hl 6 rfl) ?_
        refine lv_if_le (tgt := 152) hx hb dX6_sumOf_139 (by decide) (fun c_139_18 => ?_) (fun c_139_18 => ?_)
        · have q_139_19 : mn = 0 := Nat.le_zero.mp (q_le (b := 0) (by decide) (by omega) c_139_18)
          have hR : sA fA nA v a i = MIS := hE.trans (if_neg (by omega))
          refine lv_ldc (v := MIS) hx hb hown (hts (.constant RX6 86 (-2000000001)) (by decide +kernel)) dX6_sumOf_152 ?_
          exact W.iret (v := MIS) hx hb hr (fun t9 ht9 hW9 => ⟨⟨MIS, (), rfl, hR.symm, fun k q h => by cases k <;> cases h⟩, w.2.1.F ht9⟩) w.2.1.2.2 dX6_sumOf_154
        · have q_139_19 : 0 < mn := q_nle (b := 0) (by decide) (by omega) c_139_18
          have q139 := q_139_19
          refine lv_iload hx hb dX6_sumOf_142 (lv_at hl 5 rfl) ?_
          refine lv_if_eq (tgt := 152) hx hb dX6_sumOf_144 (by decide) (fun c_144_20 => ?_) (fun c_144_20 => ?_)
          · have q_144_21 : al = false := bI_0.mp c_144_20
            have hR : sA fA nA v a i = MIS := hE.trans (if_neg (by rw [q_144_21]; simp))
            refine lv_ldc (v := MIS) hx hb hown (hts (.constant RX6 86 (-2000000001)) (by decide +kernel)) dX6_sumOf_152 ?_
            exact W.iret (v := MIS) hx hb hr (fun t9 ht9 hW9 => ⟨⟨MIS, (), rfl, hR.symm, fun k q h => by cases k <;> cases h⟩, w.2.1.F ht9⟩) w.2.1.2.2 dX6_sumOf_154
          · have q_144_21 : al = true := bI_n0.mp c_144_20
            have hR : sA fA nA v a i = sm := hE.trans (if_pos ⟨q139, q_144_21⟩)
            refine lv_iload hx hb dX6_sumOf_147 (lv_at hl 4 rfl) ?_
            refine lv_goto (tgt := 154) hx hb dX6_sumOf_149 (by decide) ?_
            exact W.iret (v := sm) hx hb hr (fun t9 ht9 hW9 => ⟨⟨sm, (), rfl, hR.symm, fun k q h => by cases k <;> cases h⟩, w.2.1.F ht9⟩) w.2.1.2.2 dX6_sumOf_154
      · have q_29_17 : k < nA := q_nle (by omega) (by omega) c_29_16
        refine lv_iload_n hx hb dX6_sumOf_32 rfl (lv_at hl 3 rfl) ?_
        refine lv_if_eq (tgt := 46) hx hb dX6_sumOf_33 (by decide) (fun c_33_22 => ?_) (fun c_33_22 => ?_)
        · refine lv_aload_n hx hb dX6_sumOf_46 rfl (lv_at hl 0 rfl) ?_
          refine b_get X E w 0 rfl rfl 3 (by decide) iX6 (by decide +kernel) rfl rfl dX6_sumOf_47 ?_
          refine lv_iload hx hb dX6_sumOf_50 (lv_at hl 7 rfl) ?_
          refine b_iald X E w 1 rfl k rfl (by omega) (by first | decide | omega) dX6_sumOf_52 ?_
          refine lv_iload_n hx hb dX6_sumOf_53 rfl (lv_at hl 3 rfl) ?_
          refine lv_if_eq (tgt := 61) hx hb dX6_sumOf_54 (by decide) (fun c_54_23 => ?_) (fun c_54_23 => ?_)
          · refine lv_iload_n hx hb dX6_sumOf_61 rfl (lv_at hl 1 rfl) ?_
            refine lv_icmp_ne (tgt := 131) hx hb dX6_sumOf_62 (by decide) (fun c_62_24 => ?_) (fun c_62_24 => ?_)
            · have g1 := rS_no (p := (fun k => decide (fA k = nI a))) (v := (fun k => v (10 * k + i))) (k := k) (decide_eq_false c_62_24)
              refine lv_iinc (v := nI (k + 1)) (lv' := [(7, .int (nI (k + 1))), (0, .ref M), (1, .int (nI a)), (2, .int (nI i)), (3, .int (nI 0)), (4, .int sm), (5, .int (bI al)), (6, .int (nI mn))]) hx hb dX6_sumOf_131 hl (k := 7) rfl (nI_add k 1) (by decide) rfl (fun ls hl => ?_)
              refine lv_goto (tgt := 12) hx hb dX6_sumOf_134 (by decide) ?_
              exact ih12 _ _ _ ⟨k + 1, sm, al, mn, (by omega), (by omega), (by omega), h1.trans (by rw [g1]), h2.trans (by rw [g1]), fun h9 => (h3 h9).trans (by rw [g1]), w, lv_sub hl [1, 2, 3, 4, 5, 6, 7, 0] rfl⟩
            · have g1 := rS_yes (p := (fun k => decide (fA k = nI a))) (v := (fun k => v (10 * k + i))) (k := k) (decide_eq_true c_62_24)
              refine lv_aload_n hx hb dX6_sumOf_65 rfl (lv_at hl 0 rfl) ?_
              refine b_get X E w 0 rfl rfl 18 (by decide) iX6 (by decide +kernel) rfl rfl dX6_sumOf_66 ?_
              refine lv_iload_n hx hb dX6_sumOf_69 rfl (lv_at hl 3 rfl) ?_
              refine lv_if_eq (tgt := 83) hx hb dX6_sumOf_70 (by decide) (fun c_70_25 => ?_) (fun c_70_25 => ?_)
              · refine lv_bipush (v := nI 10) hx hb dX6_sumOf_83 (by decide) ?_
                refine lv_iload hx hb dX6_sumOf_85 (lv_at hl 7 rfl) ?_
                refine lv_imul hx hb dX6_sumOf_87 ?_
                refine b_tp (show (nI 10) * (nI k) = nI (10 * k) from pk_mul 10 k) ?_
                refine lv_iload_n hx hb dX6_sumOf_88 rfl (lv_at hl 2 rfl) ?_
                refine lv_iadd hx hb dX6_sumOf_89 ?_
                refine b_tp (show (nI (10 * k)) + (nI i) = nI ((10 * k) + i) from nI_add (10 * k) i) ?_
                refine b_iald X E w 2 rfl ((10 * k) + i) rfl (by omega) (by first | decide | omega) dX6_sumOf_90 ?_
                refine lv_istore (lv' := [(8, .int (v ((10 * k) + i))), (0, .ref M), (1, .int (nI a)), (2, .int (nI i)), (3, .int (nI 0)), (4, .int sm), (5, .int (bI al)), (6, .int (nI mn)), (7, .int (nI k))]) hx hb dX6_sumOf_91 hl (by decide) rfl (fun ls hl => ?_)
                refine lv_iinc (v := nI (mn + 1)) (lv' := [(6, .int (nI (mn + 1))), (8, .int (v ((10 * k) + i))), (0, .ref M), (1, .int (nI a)), (2, .int (nI i)), (3, .int (nI 0)), (4, .int sm), (5, .int (bI al)), (7, .int (nI k))]) hx hb dX6_sumOf_93 hl (k := 7) rfl (nI_add mn 1) (by decide) rfl (fun ls hl => ?_)
                refine lv_iload hx hb dX6_sumOf_96 (lv_at hl 7 rfl) ?_
                refine lv_iload hx hb dX6_sumOf_98 (lv_at hl 1 rfl) ?_
                refine lv_ldc (v := MIS) hx hb hown (hts (.constant RX6 86 (-2000000001)) (by decide +kernel)) dX6_sumOf_100 ?_
                refine lv_icmp_eq (tgt := 109) hx hb dX6_sumOf_102 (by decide) (fun c_102_26 => ?_) (fun c_102_26 => ?_)
                · have c102 := c_102_26
                  refine lv_iconst (v := nI 0) hx hb dX6_sumOf_109 (by decide) ?_
                  refine b_tp (show nI 0 = bI false from rfl) ?_
                  refine lv_iand hx hb dX6_sumOf_110 ?_
                  refine b_tp (show (bI al) &&& (bI false) = bI (al && false) from bI_and _ _) ?_
                  refine lv_istore (lv' := [(5, .int (bI (al && false))), (6, .int (nI (mn + 1))), (8, .int (v ((10 * k) + i))), (0, .ref M), (1, .int (nI a)), (2, .int (nI i)), (3, .int (nI 0)), (4, .int sm), (7, .int (nI k))]) hx hb dX6_sumOf_111 hl (by decide) rfl (fun ls hl => ?_)
                  refine lv_iload hx hb dX6_sumOf_113 (lv_at hl 7 rfl) ?_
                  refine lv_iload hx hb dX6_sumOf_115 (lv_at hl 2 rfl) ?_
                  refine lv_ldc (v := MIS) hx hb hown (hts (.constant RX6 86 (-2000000001)) (by decide +kernel)) dX6_sumOf_117 ?_
                  refine lv_icmp_ne (tgt := 126) hx hb dX6_sumOf_119 (by decide) (fun c_119_27 => ?_) (fun c_119_27 => ?_)
                  · exact absurd c102 c_119_27
                  · refine lv_iconst (v := nI 0) hx hb dX6_sumOf_122 (by decide) ?_
                    refine lv_goto (tgt := 128) hx hb dX6_sumOf_123 (by decide) ?_
                    refine lv_iadd hx hb dX6_sumOf_128 ?_
                    refine lv_istore (lv' := [(4, .int (sm + (nI 0))), (5, .int (bI (al && false))), (6, .int (nI (mn + 1))), (8, .int (v ((10 * k) + i))), (0, .ref M), (1, .int (nI a)), (2, .int (nI i)), (3, .int (nI 0)), (7, .int (nI k))]) hx hb dX6_sumOf_129 hl (by decide) rfl (fun ls hl => ?_)
                    refine lv_iinc (v := nI (k + 1)) (lv' := [(7, .int (nI (k + 1))), (4, .int (sm + (nI 0))), (5, .int (bI (al && false))), (6, .int (nI (mn + 1))), (8, .int (v ((10 * k) + i))), (0, .ref M), (1, .int (nI a)), (2, .int (nI i)), (3, .int (nI 0))]) hx hb dX6_sumOf_131 hl (k := 8) rfl (nI_add k 1) (by decide) rfl (fun ls hl => ?_)
                    refine lv_goto (tgt := 12) hx hb dX6_sumOf_134 (by decide) ?_
                    exact ih12 _ _ _ ⟨k + 1, sm + (nI 0), (al && false), mn + 1, (by omega), (by omega), (by omega), by rw [g1, h1], by rw [g1, h2]; simp [c102], fun h9 => by simp at h9, w, lv_sub hl [5, 6, 7, 8, 1, 2, 3, 0] rfl⟩
                · have c102 := c_102_26
                  refine lv_iconst (v := nI 1) hx hb dX6_sumOf_105 (by decide) ?_
                  refine lv_goto (tgt := 110) hx hb dX6_sumOf_106 (by decide) ?_
                  refine b_tp (show nI 1 = bI true from rfl) ?_
                  refine lv_iand hx hb dX6_sumOf_110 ?_
                  refine b_tp (show (bI al) &&& (bI true) = bI (al && true) from bI_and _ _) ?_
                  refine lv_istore (lv' := [(5, .int (bI (al && true))), (6, .int (nI (mn + 1))), (8, .int (v ((10 * k) + i))), (0, .ref M), (1, .int (nI a)), (2, .int (nI i)), (3, .int (nI 0)), (4, .int sm), (7, .int (nI k))]) hx hb dX6_sumOf_111 hl (by decide) rfl (fun ls hl => ?_)
                  refine lv_iload hx hb dX6_sumOf_113 (lv_at hl 7 rfl) ?_
                  refine lv_iload hx hb dX6_sumOf_115 (lv_at hl 2 rfl) ?_
                  refine lv_ldc (v := MIS) hx hb hown (hts (.constant RX6 86 (-2000000001)) (by decide +kernel)) dX6_sumOf_117 ?_
                  refine lv_icmp_ne (tgt := 126) hx hb dX6_sumOf_119 (by decide) (fun c_119_28 => ?_) (fun c_119_28 => ?_)
                  · refine lv_iload hx hb dX6_sumOf_126 (lv_at hl 2 rfl) ?_
                    refine lv_iadd hx hb dX6_sumOf_128 ?_
                    refine lv_istore (lv' := [(4, .int (sm + (v ((10 * k) + i)))), (5, .int (bI (al && true))), (6, .int (nI (mn + 1))), (8, .int (v ((10 * k) + i))), (0, .ref M), (1, .int (nI a)), (2, .int (nI i)), (3, .int (nI 0)), (7, .int (nI k))]) hx hb dX6_sumOf_129 hl (by decide) rfl (fun ls hl => ?_)
                    refine lv_iinc (v := nI (k + 1)) (lv' := [(7, .int (nI (k + 1))), (4, .int (sm + (v ((10 * k) + i)))), (5, .int (bI (al && true))), (6, .int (nI (mn + 1))), (8, .int (v ((10 * k) + i))), (0, .ref M), (1, .int (nI a)), (2, .int (nI i)), (3, .int (nI 0))]) hx hb dX6_sumOf_131 hl (k := 8) rfl (nI_add k 1) (by decide) rfl (fun ls hl => ?_)
                    refine lv_goto (tgt := 12) hx hb dX6_sumOf_134 (by decide) ?_
                    exact ih12 _ _ _ ⟨k + 1, sm + (v ((10 * k) + i)), (al && true), mn + 1, (by omega), (by omega), (by omega), by rw [g1, h1], by rw [g1, h2]; simp [c102], fun h9 => by rw [g1, h3 (by simpa using h9)], w, lv_sub hl [5, 6, 7, 8, 1, 2, 3, 0] rfl⟩
                  · exact absurd c_119_28 c102
              · exact absurd (by decide) c_70_25
          · exact absurd (by decide) c_54_23
        · exact absurd (by decide) c_33_22
    · exact absurd (by decide) c_15_15
set_option maxHeartbeats 4000000 in
set_option maxRecDepth 100000 in
theorem c_X6_sumOf_J (l : Launch) (hl0 : l.stackTraces = false) (G : bG) (sz : Nat) (M yA yJ yg yw yc yv yr yC yD yF yS yV yH td nA nJ dn snt jd bn : Nat) (th : Int32) (fJ : Nat → Int32) (v : Nat → Int32) (a i : Nat) (hnA : nA ≤ 14) (hnJ : nJ ≤ 10) (ha : a < nA) (hi : i < nJ) : Met l yX6_sumOf wsX6_sumOf ({ frames := 0, cells := 0, slots := 0, locals := 0 }) (va_Pc [.ref M, .int (nI a), .int (nI i), .int (nI 1)] (bPre G vwCl bNW bSW sz [(M, .inr (6, [.int (nI td), .int (nI nA), .int (nI nJ), .ref yA, .ref yJ, .ref yg, .int (nI dn), .ref yw, .ref yc, .ref yv, .int (nI snt), .int (nI jd), .ref yr, .int (nI bn), .ref yC, .ref yD, .ref yF, .ref yS, .ref yV, .ref yH, .int th])), (yJ, .inl (G.2.1, 10, .inl fJ)), (yV, .inl (G.2.1, 140, .inl v))] [])) (va_Qi (fun (r : Int32) (_ : Unit) => r = sJ fJ nJ v a i) (fun (_ : Unit) (tS : State) => va_P G.1 vwCl [] tS.heap) (Aw [] sz)) 0 0 (Aw [] sz) := by
  refine Met.ofW (cc := cX6_sumOf) (maxL := 9) (ret := (some .int)) (by decide) rfl ?_
  intro p e s m args below meth c s₁ B hml hv
  obtain ⟨rfl, hsz, hP, hD, E, Z⟩ := hv
  have hts := atoms_spec (ws := wsX6_sumOf) B.pre
  have hown : s.vm.findClass RX6 = some m.cls := findClass_of_methodNamed B.named
  have X : CallFix p m c cX6_sumOf 9 s _ wsX6_sumOf RX6 := ⟨B.exec, B.bytes, hml, hown, hts⟩
  have hx := B.exec
  have hb := B.bytes
  have hr := B.returns
  have hlocks := B.notSynchronized
  subst hsz
  have w : bSt G vwCl [] s [(M, .inr (6, [.int (nI td), .int (nI nA), .int (nI nJ), .ref yA, .ref yJ, .ref yg, .int (nI dn), .ref yw, .ref yc, .ref yv, .int (nI snt), .int (nI jd), .ref yr, .int (nI bn), .ref yC, .ref yD, .ref yF, .ref yS, .ref yV, .ref yH, .int th])), (yJ, .inl (G.2.1, 10, .inl fJ)), (yV, .inl (G.2.1, 140, .inl v))] s.heap [] := ⟨hP, va_S.rf, hD⟩
  have Z0 : bZ [] s := ⟨Z.1.narrow (fun q h => h.elim (fun h => nomatch h) Or.inr), Z.2.narrow (fun q h => h.elim (fun h => nomatch h) Or.inr)⟩
  have iX6 : ∀ w ∈ wsX60, w ∈ wsX6_sumOf := by decide +kernel
  have hl := lv_entry ([.ref M, .int (nI a), .int (nI i), .int (nI 1)]) (n := 9) (Nat.le_of_ble_eq_true rfl)
  rw [lg_entry_eq]
  generalize (lg_sl ([.ref M, .int (nI a), .int (nI i), .int (nI 1)]) ++ List.replicate (9 - (lg_sl ([.ref M, .int (nI a), .int (nI i), .int (nI 1)])).length) Slot.unset).toArray = ls at hl ⊢
  have hl : lv_has ls 9 [(0, .ref M), (1, .int (nI a)), (2, .int (nI i)), (3, .int (nI 1))] := hl
  refine lv_iconst (v := nI 0) hx hb dX6_sumOf_0 (by decide) ?_
  refine lv_istore (lv' := [(4, .int (nI 0)), (0, .ref M), (1, .int (nI a)), (2, .int (nI i)), (3, .int (nI 1))]) hx hb dX6_sumOf_1 hl (by decide) rfl (fun ls hl => ?_)
  refine lv_iconst (v := nI 1) hx hb dX6_sumOf_3 (by decide) ?_
  refine lv_istore (lv' := [(5, .int (nI 1)), (4, .int (nI 0)), (0, .ref M), (1, .int (nI a)), (2, .int (nI i)), (3, .int (nI 1))]) hx hb dX6_sumOf_4 hl (by decide) rfl (fun ls hl => ?_)
  refine lv_iconst (v := nI 0) hx hb dX6_sumOf_6 (by decide) ?_
  refine lv_istore (lv' := [(6, .int (nI 0)), (5, .int (nI 1)), (4, .int (nI 0)), (0, .ref M), (1, .int (nI a)), (2, .int (nI i)), (3, .int (nI 1))]) hx hb dX6_sumOf_7 hl (by decide) rfl (fun ls hl => ?_)
  refine lv_iconst (v := nI 0) hx hb dX6_sumOf_9 (by decide) ?_
  refine lv_istore (lv' := [(7, .int (nI 0)), (6, .int (nI 0)), (5, .int (nI 1)), (4, .int (nI 0)), (0, .ref M), (1, .int (nI a)), (2, .int (nI i)), (3, .int (nI 1))]) hx hb dX6_sumOf_10 hl (by decide) rfl (fun ls hl => ?_)
  refine b_loop (pc := 12) (st := []) (fun (fuel : Nat) (H : Heap) (locs : List Loc) (ls : Array Slot) => ∃ (k : Nat) (sm : Int32) (al : Bool) (mn : Nat), (k ≤ nJ) ∧ (nJ + 1 ≤ k + fuel) ∧ (mn ≤ k) ∧ (mn = (rS (fun k => decide (fJ k = nI i)) (fun k => v (10 * a + k)) k).2.2) ∧ (al = (rS (fun k => decide (fJ k = nI i)) (fun k => v (10 * a + k)) k).2.1) ∧ (al = true → sm = (rS (fun k => decide (fJ k = nI i)) (fun k => v (10 * a + k)) k).1) ∧ bSt G vwCl [] s [(M, .inr (6, [.int (nI td), .int (nI nA), .int (nI nJ), .ref yA, .ref yJ, .ref yg, .int (nI dn), .ref yw, .ref yc, .ref yv, .int (nI snt), .int (nI jd), .ref yr, .int (nI bn), .ref yC, .ref yD, .ref yF, .ref yS, .ref yV, .ref yH, .int th])), (yJ, .inl (G.2.1, 10, .inl fJ)), (yV, .inl (G.2.1, 140, .inl v))] H locs ∧ lv_has ls 9 [(0, .ref M), (1, .int (nI a)), (2, .int (nI i)), (3, .int (nI 1)), (4, .int sm), (5, .int (bI al)), (6, .int (nI mn)), (7, .int (nI k))]) (fun H locs ls h9 => ?_) (fun fuel H locs ls hI ih12 => ?_) (nJ + 1) ⟨0, nI 0, true, 0, (by omega), (by omega), (by omega), rfl, rfl, fun _ => rfl, w, lv_sub hl [4, 5, 6, 7, 3, 2, 1, 0] rfl⟩
  · obtain ⟨k, sm, al, mn, hk, hf, hmk, h1, h2, h3, w, hl⟩ := h9
    omega
  · obtain ⟨k, sm, al, mn, hk, hf, hmk, h1, h2, h3, w, hl⟩ := hI
    refine lv_iload hx hb dX6_sumOf_12 (lv_at hl 7 rfl) ?_
    refine lv_iload_n hx hb dX6_sumOf_14 rfl (lv_at hl 3 rfl) ?_
    refine lv_if_eq (tgt := 25) hx hb dX6_sumOf_15 (by decide) (fun c_15_15 => ?_) (fun c_15_15 => ?_)
    · exact absurd c_15_15 (by decide)
    · refine lv_aload_n hx hb dX6_sumOf_18 rfl (lv_at hl 0 rfl) ?_
      refine b_get X E w 0 rfl rfl 2 (by decide) iX6 (by decide +kernel) rfl rfl dX6_sumOf_19 ?_
      refine lv_goto (tgt := 29) hx hb dX6_sumOf_22 (by decide) ?_
      refine lv_icmp_ge (tgt := 137) hx hb dX6_sumOf_29 (by decide) (fun c_29_16 => ?_) (fun c_29_16 => ?_)
      · have q_29_17 : nJ ≤ k := q_le (by omega) (by omega) c_29_16
        have ek : k = nJ := by omega
        rw [ek] at h1 h2 h3
        have hE := rSum_mk h1 h2 h3
        refine lv_iload hx hb dX6_sumOf_137 (lv_at hl 6 rfl) ?_
        refine lv_if_le (tgt := 152) hx hb dX6_sumOf_139 (by decide) (fun c_139_18 => ?_) (fun c_139_18 => ?_)
        · have q_139_19 : mn = 0 := Nat.le_zero.mp (q_le (b := 0) (by decide) (by omega) c_139_18)
          have hR : sJ fJ nJ v a i = MIS := hE.trans (if_neg (by omega))
          refine lv_ldc (v := MIS) hx hb hown (hts (.constant RX6 86 (-2000000001)) (by decide +kernel)) dX6_sumOf_152 ?_
          exact W.iret (v := MIS) hx hb hr (fun t9 ht9 hW9 => ⟨⟨MIS, (), rfl, hR.symm, fun k q h => by cases k <;> cases h⟩, w.2.1.F ht9⟩) w.2.1.2.2 dX6_sumOf_154
        · have q_139_19 : 0 < mn := q_nle (b := 0) (by decide) (by omega) c_139_18
          have q139 := q_139_19
          refine lv_iload hx hb dX6_sumOf_142 (lv_at hl 5 rfl) ?_
          refine lv_if_eq (tgt := 152) hx hb dX6_sumOf_144 (by decide) (fun c_144_20 => ?_) (fun c_144_20 => ?_)
          · have q_144_21 : al = false := bI_0.mp c_144_20
            have hR : sJ fJ nJ v a i = MIS := hE.trans (if_neg (by rw [q_144_21]; simp))
            refine lv_ldc (v := MIS) hx hb hown (hts (.constant RX6 86 (-2000000001)) (by decide +kernel)) dX6_sumOf_152 ?_
            exact W.iret (v := MIS) hx hb hr (fun t9 ht9 hW9 => ⟨⟨MIS, (), rfl, hR.symm, fun k q h => by cases k <;> cases h⟩, w.2.1.F ht9⟩) w.2.1.2.2 dX6_sumOf_154
          · have q_144_21 : al = true := bI_n0.mp c_144_20
            have hR : sJ fJ nJ v a i = sm := hE.trans (if_pos ⟨q139, q_144_21⟩)
            refine lv_iload hx hb dX6_sumOf_147 (lv_at hl 4 rfl) ?_
            refine lv_goto (tgt := 154) hx hb dX6_sumOf_149 (by decide) ?_
            exact W.iret (v := sm) hx hb hr (fun t9 ht9 hW9 => ⟨⟨sm, (), rfl, hR.symm, fun k q h => by cases k <;> cases h⟩, w.2.1.F ht9⟩) w.2.1.2.2 dX6_sumOf_154
      · have q_29_17 : k < nJ := q_nle (by omega) (by omega) c_29_16
        refine lv_iload_n hx hb dX6_sumOf_32 rfl (lv_at hl 3 rfl) ?_
        refine lv_if_eq (tgt := 46) hx hb dX6_sumOf_33 (by decide) (fun c_33_22 => ?_) (fun c_33_22 => ?_)
        · exact absurd c_33_22 (by decide)
        · refine lv_aload_n hx hb dX6_sumOf_36 rfl (lv_at hl 0 rfl) ?_
          refine b_get X E w 0 rfl rfl 4 (by decide) iX6 (by decide +kernel) rfl rfl dX6_sumOf_37 ?_
          refine lv_iload hx hb dX6_sumOf_40 (lv_at hl 7 rfl) ?_
          refine b_iald X E w 1 rfl k rfl (by omega) (by first | decide | omega) dX6_sumOf_42 ?_
          refine lv_goto (tgt := 53) hx hb dX6_sumOf_43 (by decide) ?_
          refine lv_iload_n hx hb dX6_sumOf_53 rfl (lv_at hl 3 rfl) ?_
          refine lv_if_eq (tgt := 61) hx hb dX6_sumOf_54 (by decide) (fun c_54_23 => ?_) (fun c_54_23 => ?_)
          · exact absurd c_54_23 (by decide)
          · refine lv_iload_n hx hb dX6_sumOf_57 rfl (lv_at hl 2 rfl) ?_
            refine lv_goto (tgt := 62) hx hb dX6_sumOf_58 (by decide) ?_
            refine lv_icmp_ne (tgt := 131) hx hb dX6_sumOf_62 (by decide) (fun c_62_24 => ?_) (fun c_62_24 => ?_)
            · have g1 := rS_no (p := (fun k => decide (fJ k = nI i))) (v := (fun k => v (10 * a + k))) (k := k) (decide_eq_false c_62_24)
              refine lv_iinc (v := nI (k + 1)) (lv' := [(7, .int (nI (k + 1))), (0, .ref M), (1, .int (nI a)), (2, .int (nI i)), (3, .int (nI 1)), (4, .int sm), (5, .int (bI al)), (6, .int (nI mn))]) hx hb dX6_sumOf_131 hl (k := 7) rfl (nI_add k 1) (by decide) rfl (fun ls hl => ?_)
              refine lv_goto (tgt := 12) hx hb dX6_sumOf_134 (by decide) ?_
              exact ih12 _ _ _ ⟨k + 1, sm, al, mn, (by omega), (by omega), (by omega), h1.trans (by rw [g1]), h2.trans (by rw [g1]), fun h9 => (h3 h9).trans (by rw [g1]), w, lv_sub hl [1, 2, 3, 4, 5, 6, 7, 0] rfl⟩
            · have g1 := rS_yes (p := (fun k => decide (fJ k = nI i))) (v := (fun k => v (10 * a + k))) (k := k) (decide_eq_true c_62_24)
              refine lv_aload_n hx hb dX6_sumOf_65 rfl (lv_at hl 0 rfl) ?_
              refine b_get X E w 0 rfl rfl 18 (by decide) iX6 (by decide +kernel) rfl rfl dX6_sumOf_66 ?_
              refine lv_iload_n hx hb dX6_sumOf_69 rfl (lv_at hl 3 rfl) ?_
              refine lv_if_eq (tgt := 83) hx hb dX6_sumOf_70 (by decide) (fun c_70_25 => ?_) (fun c_70_25 => ?_)
              · exact absurd c_70_25 (by decide)
              · refine lv_bipush (v := nI 10) hx hb dX6_sumOf_73 (by decide) ?_
                refine lv_iload_n hx hb dX6_sumOf_75 rfl (lv_at hl 1 rfl) ?_
                refine lv_imul hx hb dX6_sumOf_76 ?_
                refine b_tp (show (nI 10) * (nI a) = nI (10 * a) from pk_mul 10 a) ?_
                refine lv_iload hx hb dX6_sumOf_77 (lv_at hl 7 rfl) ?_
                refine lv_iadd hx hb dX6_sumOf_79 ?_
                refine b_tp (show (nI (10 * a)) + (nI k) = nI ((10 * a) + k) from nI_add (10 * a) k) ?_
                refine lv_goto (tgt := 90) hx hb dX6_sumOf_80 (by decide) ?_
                refine b_iald X E w 2 rfl ((10 * a) + k) rfl (by omega) (by first | decide | omega) dX6_sumOf_90 ?_
                refine lv_istore (lv' := [(8, .int (v ((10 * a) + k))), (0, .ref M), (1, .int (nI a)), (2, .int (nI i)), (3, .int (nI 1)), (4, .int sm), (5, .int (bI al)), (6, .int (nI mn)), (7, .int (nI k))]) hx hb dX6_sumOf_91 hl (by decide) rfl (fun ls hl => ?_)
                refine lv_iinc (v := nI (mn + 1)) (lv' := [(6, .int (nI (mn + 1))), (8, .int (v ((10 * a) + k))), (0, .ref M), (1, .int (nI a)), (2, .int (nI i)), (3, .int (nI 1)), (4, .int sm), (5, .int (bI al)), (7, .int (nI k))]) hx hb dX6_sumOf_93 hl (k := 7) rfl (nI_add mn 1) (by decide) rfl (fun ls hl => ?_)
                refine lv_iload hx hb dX6_sumOf_96 (lv_at hl 7 rfl) ?_
                refine lv_iload hx hb dX6_sumOf_98 (lv_at hl 1 rfl) ?_
                refine lv_ldc (v := MIS) hx hb hown (hts (.constant RX6 86 (-2000000001)) (by decide +kernel)) dX6_sumOf_100 ?_
                refine lv_icmp_eq (tgt := 109) hx hb dX6_sumOf_102 (by decide) (fun c_102_26 => ?_) (fun c_102_26 => ?_)
                · have c102 := c_102_26
                  refine lv_iconst (v := nI 0) hx hb dX6_sumOf_109 (by decide) ?_
                  refine b_tp (show nI 0 = bI false from rfl) ?_
                  refine lv_iand hx hb dX6_sumOf_110 ?_
                  refine b_tp (show (bI al) &&& (bI false) = bI (al && false) from bI_and _ _) ?_
                  refine lv_istore (lv' := [(5, .int (bI (al && false))), (6, .int (nI (mn + 1))), (8, .int (v ((10 * a) + k))), (0, .ref M), (1, .int (nI a)), (2, .int (nI i)), (3, .int (nI 1)), (4, .int sm), (7, .int (nI k))]) hx hb dX6_sumOf_111 hl (by decide) rfl (fun ls hl => ?_)
                  refine lv_iload hx hb dX6_sumOf_113 (lv_at hl 7 rfl) ?_
                  refine lv_iload hx hb dX6_sumOf_115 (lv_at hl 2 rfl) ?_
                  refine lv_ldc (v := MIS) hx hb hown (hts (.constant RX6 86 (-2000000001)) (by decide +kernel)) dX6_sumOf_117 ?_
                  refine lv_icmp_ne (tgt := 126) hx hb dX6_sumOf_119 (by decide) (fun c_119_27 => ?_) (fun c_119_27 => ?_)
                  · exact absurd c102 c_119_27
                  · refine lv_iconst (v := nI 0) hx hb dX6_sumOf_122 (by decide) ?_
                    refine lv_goto (tgt := 128) hx hb dX6_sumOf_123 (by decide) ?_
                    refine lv_iadd hx hb dX6_sumOf_128 ?_
                    refine lv_istore (lv' := [(4, .int (sm + (nI 0))), (5, .int (bI (al && false))), (6, .int (nI (mn + 1))), (8, .int (v ((10 * a) + k))), (0, .ref M), (1, .int (nI a)), (2, .int (nI i)), (3, .int (nI 1)), (7, .int (nI k))]) hx hb dX6_sumOf_129 hl (by decide) rfl (fun ls hl => ?_)
                    refine lv_iinc (v := nI (k + 1)) (lv' := [(7, .int (nI (k + 1))), (4, .int (sm + (nI 0))), (5, .int (bI (al && false))), (6, .int (nI (mn + 1))), (8, .int (v ((10 * a) + k))), (0, .ref M), (1, .int (nI a)), (2, .int (nI i)), (3, .int (nI 1))]) hx hb dX6_sumOf_131 hl (k := 8) rfl (nI_add k 1) (by decide) rfl (fun ls hl => ?_)
                    refine lv_goto (tgt := 12) hx hb dX6_sumOf_134 (by decide) ?_
                    exact ih12 _ _ _ ⟨k + 1, sm + (nI 0), (al && false), mn + 1, (by omega), (by omega), (by omega), by rw [g1, h1], by rw [g1, h2]; simp [c102], fun h9 => by simp at h9, w, lv_sub hl [5, 6, 7, 8, 1, 2, 3, 0] rfl⟩
                · have c102 := c_102_26
                  refine lv_iconst (v := nI 1) hx hb dX6_sumOf_105 (by decide) ?_
                  refine lv_goto (tgt := 110) hx hb dX6_sumOf_106 (by decide) ?_
                  refine b_tp (show nI 1 = bI true from rfl) ?_
                  refine lv_iand hx hb dX6_sumOf_110 ?_
                  refine b_tp (show (bI al) &&& (bI true) = bI (al && true) from bI_and _ _) ?_
                  refine lv_istore (lv' := [(5, .int (bI (al && true))), (6, .int (nI (mn + 1))), (8, .int (v ((10 * a) + k))), (0, .ref M), (1, .int (nI a)), (2, .int (nI i)), (3, .int (nI 1)), (4, .int sm), (7, .int (nI k))]) hx hb dX6_sumOf_111 hl (by decide) rfl (fun ls hl => ?_)
                  refine lv_iload hx hb dX6_sumOf_113 (lv_at hl 7 rfl) ?_
                  refine lv_iload hx hb dX6_sumOf_115 (lv_at hl 2 rfl) ?_
                  refine lv_ldc (v := MIS) hx hb hown (hts (.constant RX6 86 (-2000000001)) (by decide +kernel)) dX6_sumOf_117 ?_
                  refine lv_icmp_ne (tgt := 126) hx hb dX6_sumOf_119 (by decide) (fun c_119_28 => ?_) (fun c_119_28 => ?_)
                  · refine lv_iload hx hb dX6_sumOf_126 (lv_at hl 2 rfl) ?_
                    refine lv_iadd hx hb dX6_sumOf_128 ?_
                    refine lv_istore (lv' := [(4, .int (sm + (v ((10 * a) + k)))), (5, .int (bI (al && true))), (6, .int (nI (mn + 1))), (8, .int (v ((10 * a) + k))), (0, .ref M), (1, .int (nI a)), (2, .int (nI i)), (3, .int (nI 1)), (7, .int (nI k))]) hx hb dX6_sumOf_129 hl (by decide) rfl (fun ls hl => ?_)
                    refine lv_iinc (v := nI (k + 1)) (lv' := [(7, .int (nI (k + 1))), (4, .int (sm + (v ((10 * a) + k)))), (5, .int (bI (al && true))), (6, .int (nI (mn + 1))), (8, .int (v ((10 * a) + k))), (0, .ref M), (1, .int (nI a)), (2, .int (nI i)), (3, .int (nI 1))]) hx hb dX6_sumOf_131 hl (k := 8) rfl (nI_add k 1) (by decide) rfl (fun ls hl => ?_)
                    refine lv_goto (tgt := 12) hx hb dX6_sumOf_134 (by decide) ?_
                    exact ih12 _ _ _ ⟨k + 1, sm + (v ((10 * a) + k)), (al && true), mn + 1, (by omega), (by omega), (by omega), by rw [g1, h1], by rw [g1, h2]; simp [c102], fun h9 => by rw [g1, h3 (by simpa using h9)], w, lv_sub hl [5, 6, 7, 8, 1, 2, 3, 0] rfl⟩
                  · exact absurd c_119_28 c102
set_option maxHeartbeats 4000000 in
set_option maxRecDepth 100000 in
theorem c_X6_hides_A (l : Launch) (hl0 : l.stackTraces = false) (G : bG) (sz : Nat) (M yA yJ yg yw yc yv yr yC yD yF yS yV yH td nA nJ dn snt jd bn : Nat) (th : Int32) (fA : Nat → Int32) (hid : Nat → Bool) (a i : Nat) (hnA : nA ≤ 14) (hnJ : nJ ≤ 10) (ha : a < nA) (hi : i < nJ) : Met l yX6_hides wsX6_hides ({ frames := 0, cells := 0, slots := 0, locals := 0 }) (va_Pc [.ref M, .int (nI a), .int (nI i), .int (nI 0)] (bPre G vwCl bNW bSW sz [(M, .inr (6, [.int (nI td), .int (nI nA), .int (nI nJ), .ref yA, .ref yJ, .ref yg, .int (nI dn), .ref yw, .ref yc, .ref yv, .int (nI snt), .int (nI jd), .ref yr, .int (nI bn), .ref yC, .ref yD, .ref yF, .ref yS, .ref yV, .ref yH, .int th])), (yA, .inl (G.2.1, 14, .inl fA)), (yH, .inl (G.2.2.1, 140, .inl (zB hid)))] [])) (va_Qi (fun (r : Int32) (_ : Unit) => r = nI (b1 (hid (10 * a + i)) + cH (fun k => decide (fA k = nI a)) (fun k => hid (10 * k + i)) nA)) (fun (_ : Unit) (tS : State) => va_P G.1 vwCl [] tS.heap) (Aw [] sz)) 0 0 (Aw [] sz) := by
  refine Met.ofW (cc := cX6_hides) (maxL := 7) (ret := (some .int)) (by decide) rfl ?_
  intro p e s m args below meth c s₁ B hml hv
  obtain ⟨rfl, hsz, hP, hD, E, Z⟩ := hv
  have hts := atoms_spec (ws := wsX6_hides) B.pre
  have hown : s.vm.findClass RX6 = some m.cls := findClass_of_methodNamed B.named
  have X : CallFix p m c cX6_hides 7 s _ wsX6_hides RX6 := ⟨B.exec, B.bytes, hml, hown, hts⟩
  have hx := B.exec
  have hb := B.bytes
  have hr := B.returns
  have hlocks := B.notSynchronized
  subst hsz
  have w : bSt G vwCl [] s [(M, .inr (6, [.int (nI td), .int (nI nA), .int (nI nJ), .ref yA, .ref yJ, .ref yg, .int (nI dn), .ref yw, .ref yc, .ref yv, .int (nI snt), .int (nI jd), .ref yr, .int (nI bn), .ref yC, .ref yD, .ref yF, .ref yS, .ref yV, .ref yH, .int th])), (yA, .inl (G.2.1, 14, .inl fA)), (yH, .inl (G.2.2.1, 140, .inl (zB hid)))] s.heap [] := ⟨hP, va_S.rf, hD⟩
  have Z0 : bZ [] s := ⟨Z.1.narrow (fun q h => h.elim (fun h => nomatch h) Or.inr), Z.2.narrow (fun q h => h.elim (fun h => nomatch h) Or.inr)⟩
  have iX6 : ∀ w ∈ wsX60, w ∈ wsX6_hides := by decide +kernel
  have hl := lv_entry ([.ref M, .int (nI a), .int (nI i), .int (nI 0)]) (n := 7) (Nat.le_of_ble_eq_true rfl)
  rw [lg_entry_eq]
  generalize (lg_sl ([.ref M, .int (nI a), .int (nI i), .int (nI 0)]) ++ List.replicate (7 - (lg_sl ([.ref M, .int (nI a), .int (nI i), .int (nI 0)])).length) Slot.unset).toArray = ls at hl ⊢
  have hl : lv_has ls 7 [(0, .ref M), (1, .int (nI a)), (2, .int (nI i)), (3, .int (nI 0))] := hl
  have hb1 := b1_le (hid (10 * a + i))
  refine lv_aload_n hx hb dX6_hides_0 rfl (lv_at hl 0 rfl) ?_
  refine b_get X E w 0 rfl rfl 19 (by decide) iX6 (by decide +kernel) rfl rfl dX6_hides_1 ?_
  refine lv_bipush (v := nI 10) hx hb dX6_hides_4 (by decide) ?_
  refine lv_iload_n hx hb dX6_hides_6 rfl (lv_at hl 1 rfl) ?_
  refine lv_imul hx hb dX6_hides_7 ?_
  refine b_tp (show (nI 10) * (nI a) = nI (10 * a) from pk_mul 10 a) ?_
  refine lv_iload_n hx hb dX6_hides_8 rfl (lv_at hl 2 rfl) ?_
  refine lv_iadd hx hb dX6_hides_9 ?_
  refine b_tp (show (nI (10 * a)) + (nI i) = nI ((10 * a) + i) from nI_add (10 * a) i) ?_
  refine b_zald X E w 2 rfl ((10 * a) + i) rfl (by omega) (by first | decide | omega) dX6_hides_10 ?_
  refine b_tp (show zB hid ((10 * a) + i) = bI (hid ((10 * a) + i)) from rfl) ?_
  refine lv_if_eq (tgt := 18) hx hb dX6_hides_11 (by decide) (fun c_11_25 => ?_) (fun c_11_25 => ?_)
  · have q_11_26 : (hid ((10 * a) + i)) = false := bI_0.mp c_11_25
    have hct0 : 0 = b1 (hid (10 * a + i)) + 0 := by rw [b1_f q_11_26]
    refine lv_iconst (v := nI 0) hx hb dX6_hides_18 (by decide) ?_
    refine lv_istore (lv' := [(4, .int (nI 0)), (0, .ref M), (1, .int (nI a)), (2, .int (nI i)), (3, .int (nI 0))]) hx hb dX6_hides_19 hl (by decide) rfl (fun ls hl => ?_)
    refine lv_iconst (v := nI 0) hx hb dX6_hides_21 (by decide) ?_
    refine lv_istore (lv' := [(5, .int (nI 0)), (4, .int (nI 0)), (0, .ref M), (1, .int (nI a)), (2, .int (nI i)), (3, .int (nI 0))]) hx hb dX6_hides_22 hl (by decide) rfl (fun ls hl => ?_)
    refine b_loop (pc := 24) (st := []) (fun (fuel : Nat) (H : Heap) (locs : List Loc) (ls : Array Slot) => ∃ (k : Nat) (ct : Nat), (k ≤ nA) ∧ (nA + 1 ≤ k + fuel) ∧ (ct ≤ k + 1) ∧ (ct = b1 (hid (10 * a + i)) + cH (fun k => decide (fA k = nI a)) (fun k => hid (10 * k + i)) k) ∧ bSt G vwCl [] s [(M, .inr (6, [.int (nI td), .int (nI nA), .int (nI nJ), .ref yA, .ref yJ, .ref yg, .int (nI dn), .ref yw, .ref yc, .ref yv, .int (nI snt), .int (nI jd), .ref yr, .int (nI bn), .ref yC, .ref yD, .ref yF, .ref yS, .ref yV, .ref yH, .int th])), (yA, .inl (G.2.1, 14, .inl fA)), (yH, .inl (G.2.2.1, 140, .inl (zB hid)))] H locs ∧ lv_has ls 7 [(0, .ref M), (1, .int (nI a)), (2, .int (nI i)), (3, .int (nI 0)), (4, .int (nI ct)), (5, .int (nI k))]) (fun H locs ls h9 => ?_) (fun fuel H locs ls hI ih24 => ?_) (nA + 1) ⟨0, 0, (by omega), (by omega), (by omega), hct0, w, lv_sub hl [2, 3, 4, 5, 1, 0] rfl⟩
    · obtain ⟨k, ct, hk, hf, hck, hct, w, hl⟩ := h9
      omega
    · obtain ⟨k, ct, hk, hf, hck, hct, w, hl⟩ := hI
      refine lv_iload hx hb dX6_hides_24 (lv_at hl 5 rfl) ?_
      refine lv_iload_n hx hb dX6_hides_26 rfl (lv_at hl 3 rfl) ?_
      refine lv_if_eq (tgt := 37) hx hb dX6_hides_27 (by decide) (fun c_27_27 => ?_) (fun c_27_27 => ?_)
      · refine lv_aload_n hx hb dX6_hides_37 rfl (lv_at hl 0 rfl) ?_
        refine b_get X E w 0 rfl rfl 1 (by decide) iX6 (by decide +kernel) rfl rfl dX6_hides_38 ?_
        refine lv_icmp_ge (tgt := 134) hx hb dX6_hides_41 (by decide) (fun c_41_28 => ?_) (fun c_41_28 => ?_)
        · have q_41_29 : nA ≤ k := q_le (by omega) (by omega) c_41_28
          have ek : k = nA := by omega
          rw [ek] at hct
          refine lv_iload hx hb dX6_hides_134 (lv_at hl 4 rfl) ?_
          exact W.iret (v := nI ct) hx hb hr (fun t9 ht9 hW9 => ⟨⟨nI ct, (), rfl, congrArg nI hct, fun k q h => by cases k <;> cases h⟩, w.2.1.F ht9⟩) w.2.1.2.2 dX6_hides_136
        · have q_41_29 : k < nA := q_nle (by omega) (by omega) c_41_28
          refine lv_iload_n hx hb dX6_hides_44 rfl (lv_at hl 3 rfl) ?_
          refine lv_if_eq (tgt := 58) hx hb dX6_hides_45 (by decide) (fun c_45_30 => ?_) (fun c_45_30 => ?_)
          · refine lv_aload_n hx hb dX6_hides_58 rfl (lv_at hl 0 rfl) ?_
            refine b_get X E w 0 rfl rfl 3 (by decide) iX6 (by decide +kernel) rfl rfl dX6_hides_59 ?_
            refine lv_iload hx hb dX6_hides_62 (lv_at hl 5 rfl) ?_
            refine b_iald X E w 1 rfl k rfl (by omega) (by first | decide | omega) dX6_hides_64 ?_
            refine lv_iload_n hx hb dX6_hides_65 rfl (lv_at hl 3 rfl) ?_
            refine lv_if_eq (tgt := 73) hx hb dX6_hides_66 (by decide) (fun c_66_31 => ?_) (fun c_66_31 => ?_)
            · refine lv_iload_n hx hb dX6_hides_73 rfl (lv_at hl 1 rfl) ?_
              refine lv_icmp_ne (tgt := 81) hx hb dX6_hides_74 (by decide) (fun c_74_32 => ?_) (fun c_74_32 => ?_)
              · have g1 := cH_noP (p := (fun k => decide (fA k = nI a))) (b := (fun k => hid (10 * k + i))) (k := k) (decide_eq_false c_74_32)
                refine lv_iconst (v := nI 0) hx hb dX6_hides_81 (by decide) ?_
                refine lv_istore (lv' := [(6, .int (nI 0)), (0, .ref M), (1, .int (nI a)), (2, .int (nI i)), (3, .int (nI 0)), (4, .int (nI ct)), (5, .int (nI k))]) hx hb dX6_hides_82 hl (by decide) rfl (fun ls hl => ?_)
                refine lv_iload hx hb dX6_hides_84 (lv_at hl 5 rfl) ?_
                refine lv_iload hx hb dX6_hides_86 (lv_at hl 0 rfl) ?_
                refine lv_if_eq (tgt := 124) hx hb dX6_hides_88 (by decide) (fun c_88_33 => ?_) (fun c_88_33 => ?_)
                · refine lv_iconst (v := nI 0) hx hb dX6_hides_124 (by decide) ?_
                  refine lv_iadd hx hb dX6_hides_125 ?_
                  refine b_tp (show (nI ct) + (nI 0) = nI (ct + 0) from nI_add ct 0) ?_
                  refine lv_istore (lv' := [(4, .int (nI (ct + 0))), (6, .int (nI 0)), (0, .ref M), (1, .int (nI a)), (2, .int (nI i)), (3, .int (nI 0)), (5, .int (nI k))]) hx hb dX6_hides_126 hl (by decide) rfl (fun ls hl => ?_)
                  refine lv_iinc (v := nI (k + 1)) (lv' := [(5, .int (nI (k + 1))), (4, .int (nI (ct + 0))), (6, .int (nI 0)), (0, .ref M), (1, .int (nI a)), (2, .int (nI i)), (3, .int (nI 0))]) hx hb dX6_hides_128 hl (k := 6) rfl (nI_add k 1) (by decide) rfl (fun ls hl => ?_)
                  refine lv_goto (tgt := 24) hx hb dX6_hides_131 (by decide) ?_
                  exact ih24 _ _ _ ⟨k + 1, ct + 0, (by omega), (by omega), (by omega), by rw [g1]; omega, w, lv_sub hl [3, 4, 5, 6, 1, 0] rfl⟩
                · exact absurd (by decide) c_88_33
              · have hp := decide_eq_true c_74_32
                refine lv_iconst (v := nI 1) hx hb dX6_hides_77 (by decide) ?_
                refine lv_goto (tgt := 82) hx hb dX6_hides_78 (by decide) ?_
                refine lv_istore (lv' := [(6, .int (nI 1)), (0, .ref M), (1, .int (nI a)), (2, .int (nI i)), (3, .int (nI 0)), (4, .int (nI ct)), (5, .int (nI k))]) hx hb dX6_hides_82 hl (by decide) rfl (fun ls hl => ?_)
                refine lv_iload hx hb dX6_hides_84 (lv_at hl 5 rfl) ?_
                refine lv_iload hx hb dX6_hides_86 (lv_at hl 0 rfl) ?_
                refine lv_if_eq (tgt := 124) hx hb dX6_hides_88 (by decide) (fun c_88_34 => ?_) (fun c_88_34 => ?_)
                · exact absurd c_88_34 (by decide)
                · refine lv_aload_n hx hb dX6_hides_91 rfl (lv_at hl 1 rfl) ?_
                  refine b_get X E w 0 rfl rfl 19 (by decide) iX6 (by decide +kernel) rfl rfl dX6_hides_92 ?_
                  refine lv_iload_n hx hb dX6_hides_95 rfl (lv_at hl 4 rfl) ?_
                  refine lv_if_eq (tgt := 109) hx hb dX6_hides_96 (by decide) (fun c_96_35 => ?_) (fun c_96_35 => ?_)
                  · refine lv_bipush (v := nI 10) hx hb dX6_hides_109 (by decide) ?_
                    refine lv_iload hx hb dX6_hides_111 (lv_at hl 6 rfl) ?_
                    refine lv_imul hx hb dX6_hides_113 ?_
                    refine b_tp (show (nI 10) * (nI k) = nI (10 * k) from pk_mul 10 k) ?_
                    refine lv_iload_n hx hb dX6_hides_114 rfl (lv_at hl 3 rfl) ?_
                    refine lv_iadd hx hb dX6_hides_115 ?_
                    refine b_tp (show (nI (10 * k)) + (nI i) = nI ((10 * k) + i) from nI_add (10 * k) i) ?_
                    refine b_zald X E w 2 rfl ((10 * k) + i) rfl (by omega) (by first | decide | omega) dX6_hides_116 ?_
                    refine b_tp (show zB hid ((10 * k) + i) = bI (hid ((10 * k) + i)) from rfl) ?_
                    refine lv_if_eq (tgt := 124) hx hb dX6_hides_117 (by decide) (fun c_117_36 => ?_) (fun c_117_36 => ?_)
                    · have q_117_37 : (hid ((10 * k) + i)) = false := bI_0.mp c_117_36
                      have g1 := cH_noB (p := (fun k => decide (fA k = nI a))) (b := (fun k => hid (10 * k + i))) (k := k) hp q_117_37
                      refine lv_iconst (v := nI 0) hx hb dX6_hides_124 (by decide) ?_
                      refine lv_iadd hx hb dX6_hides_125 ?_
                      refine b_tp (show (nI ct) + (nI 0) = nI (ct + 0) from nI_add ct 0) ?_
                      refine lv_istore (lv' := [(4, .int (nI (ct + 0))), (6, .int (nI 1)), (0, .ref M), (1, .int (nI a)), (2, .int (nI i)), (3, .int (nI 0)), (5, .int (nI k))]) hx hb dX6_hides_126 hl (by decide) rfl (fun ls hl => ?_)
                      refine lv_iinc (v := nI (k + 1)) (lv' := [(5, .int (nI (k + 1))), (4, .int (nI (ct + 0))), (6, .int (nI 1)), (0, .ref M), (1, .int (nI a)), (2, .int (nI i)), (3, .int (nI 0))]) hx hb dX6_hides_128 hl (k := 6) rfl (nI_add k 1) (by decide) rfl (fun ls hl => ?_)
                      refine lv_goto (tgt := 24) hx hb dX6_hides_131 (by decide) ?_
                      exact ih24 _ _ _ ⟨k + 1, ct + 0, (by omega), (by omega), (by omega), by rw [g1]; omega, w, lv_sub hl [3, 4, 5, 6, 1, 0] rfl⟩
                    · have q_117_37 : (hid ((10 * k) + i)) = true := bI_n0.mp c_117_36
                      have g1 := cH_yes2 (p := (fun k => decide (fA k = nI a))) (b := (fun k => hid (10 * k + i))) (k := k) hp q_117_37
                      refine lv_iconst (v := nI 1) hx hb dX6_hides_120 (by decide) ?_
                      refine lv_goto (tgt := 125) hx hb dX6_hides_121 (by decide) ?_
                      refine lv_iadd hx hb dX6_hides_125 ?_
                      refine b_tp (show (nI ct) + (nI 1) = nI (ct + 1) from nI_add ct 1) ?_
                      refine lv_istore (lv' := [(4, .int (nI (ct + 1))), (6, .int (nI 1)), (0, .ref M), (1, .int (nI a)), (2, .int (nI i)), (3, .int (nI 0)), (5, .int (nI k))]) hx hb dX6_hides_126 hl (by decide) rfl (fun ls hl => ?_)
                      refine lv_iinc (v := nI (k + 1)) (lv' := [(5, .int (nI (k + 1))), (4, .int (nI (ct + 1))), (6, .int (nI 1)), (0, .ref M), (1, .int (nI a)), (2, .int (nI i)), (3, .int (nI 0))]) hx hb dX6_hides_128 hl (k := 6) rfl (nI_add k 1) (by decide) rfl (fun ls hl => ?_)
                      refine lv_goto (tgt := 24) hx hb dX6_hides_131 (by decide) ?_
                      exact ih24 _ _ _ ⟨k + 1, ct + 1, (by omega), (by omega), (by omega), by rw [g1]; omega, w, lv_sub hl [3, 4, 5, 6, 1, 0] rfl⟩
                  · exact absurd (by decide) c_96_35
            · exact absurd (by decide) c_66_31
          · exact absurd (by decide) c_45_30
      · exact absurd (by decide) c_27_27
  · have q_11_26 : (hid ((10 * a) + i)) = true := bI_n0.mp c_11_25
    have hct0 : 1 = b1 (hid (10 * a + i)) + 0 := by rw [b1_t q_11_26]
    refine lv_iconst (v := nI 1) hx hb dX6_hides_14 (by decide) ?_
    refine lv_goto (tgt := 19) hx hb dX6_hides_15 (by decide) ?_
    refine lv_istore (lv' := [(4, .int (nI 1)), (0, .ref M), (1, .int (nI a)), (2, .int (nI i)), (3, .int (nI 0))]) hx hb dX6_hides_19 hl (by decide) rfl (fun ls hl => ?_)
    refine lv_iconst (v := nI 0) hx hb dX6_hides_21 (by decide) ?_
    refine lv_istore (lv' := [(5, .int (nI 0)), (4, .int (nI 1)), (0, .ref M), (1, .int (nI a)), (2, .int (nI i)), (3, .int (nI 0))]) hx hb dX6_hides_22 hl (by decide) rfl (fun ls hl => ?_)
    refine b_loop (pc := 24) (st := []) (fun (fuel : Nat) (H : Heap) (locs : List Loc) (ls : Array Slot) => ∃ (k : Nat) (ct : Nat), (k ≤ nA) ∧ (nA + 1 ≤ k + fuel) ∧ (ct ≤ k + 1) ∧ (ct = b1 (hid (10 * a + i)) + cH (fun k => decide (fA k = nI a)) (fun k => hid (10 * k + i)) k) ∧ bSt G vwCl [] s [(M, .inr (6, [.int (nI td), .int (nI nA), .int (nI nJ), .ref yA, .ref yJ, .ref yg, .int (nI dn), .ref yw, .ref yc, .ref yv, .int (nI snt), .int (nI jd), .ref yr, .int (nI bn), .ref yC, .ref yD, .ref yF, .ref yS, .ref yV, .ref yH, .int th])), (yA, .inl (G.2.1, 14, .inl fA)), (yH, .inl (G.2.2.1, 140, .inl (zB hid)))] H locs ∧ lv_has ls 7 [(0, .ref M), (1, .int (nI a)), (2, .int (nI i)), (3, .int (nI 0)), (4, .int (nI ct)), (5, .int (nI k))]) (fun H locs ls h9 => ?_) (fun fuel H locs ls hI ih24 => ?_) (nA + 1) ⟨0, 1, (by omega), (by omega), (by omega), hct0, w, lv_sub hl [2, 3, 4, 5, 1, 0] rfl⟩
    · obtain ⟨k, ct, hk, hf, hck, hct, w, hl⟩ := h9
      omega
    · obtain ⟨k, ct, hk, hf, hck, hct, w, hl⟩ := hI
      refine lv_iload hx hb dX6_hides_24 (lv_at hl 5 rfl) ?_
      refine lv_iload_n hx hb dX6_hides_26 rfl (lv_at hl 3 rfl) ?_
      refine lv_if_eq (tgt := 37) hx hb dX6_hides_27 (by decide) (fun c_27_38 => ?_) (fun c_27_38 => ?_)
      · refine lv_aload_n hx hb dX6_hides_37 rfl (lv_at hl 0 rfl) ?_
        refine b_get X E w 0 rfl rfl 1 (by decide) iX6 (by decide +kernel) rfl rfl dX6_hides_38 ?_
        refine lv_icmp_ge (tgt := 134) hx hb dX6_hides_41 (by decide) (fun c_41_39 => ?_) (fun c_41_39 => ?_)
        · have q_41_40 : nA ≤ k := q_le (by omega) (by omega) c_41_39
          have ek : k = nA := by omega
          rw [ek] at hct
          refine lv_iload hx hb dX6_hides_134 (lv_at hl 4 rfl) ?_
          exact W.iret (v := nI ct) hx hb hr (fun t9 ht9 hW9 => ⟨⟨nI ct, (), rfl, congrArg nI hct, fun k q h => by cases k <;> cases h⟩, w.2.1.F ht9⟩) w.2.1.2.2 dX6_hides_136
        · have q_41_40 : k < nA := q_nle (by omega) (by omega) c_41_39
          refine lv_iload_n hx hb dX6_hides_44 rfl (lv_at hl 3 rfl) ?_
          refine lv_if_eq (tgt := 58) hx hb dX6_hides_45 (by decide) (fun c_45_41 => ?_) (fun c_45_41 => ?_)
          · refine lv_aload_n hx hb dX6_hides_58 rfl (lv_at hl 0 rfl) ?_
            refine b_get X E w 0 rfl rfl 3 (by decide) iX6 (by decide +kernel) rfl rfl dX6_hides_59 ?_
            refine lv_iload hx hb dX6_hides_62 (lv_at hl 5 rfl) ?_
            refine b_iald X E w 1 rfl k rfl (by omega) (by first | decide | omega) dX6_hides_64 ?_
            refine lv_iload_n hx hb dX6_hides_65 rfl (lv_at hl 3 rfl) ?_
            refine lv_if_eq (tgt := 73) hx hb dX6_hides_66 (by decide) (fun c_66_42 => ?_) (fun c_66_42 => ?_)
            · refine lv_iload_n hx hb dX6_hides_73 rfl (lv_at hl 1 rfl) ?_
              refine lv_icmp_ne (tgt := 81) hx hb dX6_hides_74 (by decide) (fun c_74_43 => ?_) (fun c_74_43 => ?_)
              · have g1 := cH_noP (p := (fun k => decide (fA k = nI a))) (b := (fun k => hid (10 * k + i))) (k := k) (decide_eq_false c_74_43)
                refine lv_iconst (v := nI 0) hx hb dX6_hides_81 (by decide) ?_
                refine lv_istore (lv' := [(6, .int (nI 0)), (0, .ref M), (1, .int (nI a)), (2, .int (nI i)), (3, .int (nI 0)), (4, .int (nI ct)), (5, .int (nI k))]) hx hb dX6_hides_82 hl (by decide) rfl (fun ls hl => ?_)
                refine lv_iload hx hb dX6_hides_84 (lv_at hl 5 rfl) ?_
                refine lv_iload hx hb dX6_hides_86 (lv_at hl 0 rfl) ?_
                refine lv_if_eq (tgt := 124) hx hb dX6_hides_88 (by decide) (fun c_88_44 => ?_) (fun c_88_44 => ?_)
                · refine lv_iconst (v := nI 0) hx hb dX6_hides_124 (by decide) ?_
                  refine lv_iadd hx hb dX6_hides_125 ?_
                  refine b_tp (show (nI ct) + (nI 0) = nI (ct + 0) from nI_add ct 0) ?_
                  refine lv_istore (lv' := [(4, .int (nI (ct + 0))), (6, .int (nI 0)), (0, .ref M), (1, .int (nI a)), (2, .int (nI i)), (3, .int (nI 0)), (5, .int (nI k))]) hx hb dX6_hides_126 hl (by decide) rfl (fun ls hl => ?_)
                  refine lv_iinc (v := nI (k + 1)) (lv' := [(5, .int (nI (k + 1))), (4, .int (nI (ct + 0))), (6, .int (nI 0)), (0, .ref M), (1, .int (nI a)), (2, .int (nI i)), (3, .int (nI 0))]) hx hb dX6_hides_128 hl (k := 6) rfl (nI_add k 1) (by decide) rfl (fun ls hl => ?_)
                  refine lv_goto (tgt := 24) hx hb dX6_hides_131 (by decide) ?_
                  exact ih24 _ _ _ ⟨k + 1, ct + 0, (by omega), (by omega), (by omega), by rw [g1]; omega, w, lv_sub hl [3, 4, 5, 6, 1, 0] rfl⟩
                · exact absurd (by decide) c_88_44
              · have hp := decide_eq_true c_74_43
                refine lv_iconst (v := nI 1) hx hb dX6_hides_77 (by decide) ?_
                refine lv_goto (tgt := 82) hx hb dX6_hides_78 (by decide) ?_
                refine lv_istore (lv' := [(6, .int (nI 1)), (0, .ref M), (1, .int (nI a)), (2, .int (nI i)), (3, .int (nI 0)), (4, .int (nI ct)), (5, .int (nI k))]) hx hb dX6_hides_82 hl (by decide) rfl (fun ls hl => ?_)
                refine lv_iload hx hb dX6_hides_84 (lv_at hl 5 rfl) ?_
                refine lv_iload hx hb dX6_hides_86 (lv_at hl 0 rfl) ?_
                refine lv_if_eq (tgt := 124) hx hb dX6_hides_88 (by decide) (fun c_88_45 => ?_) (fun c_88_45 => ?_)
                · exact absurd c_88_45 (by decide)
                · refine lv_aload_n hx hb dX6_hides_91 rfl (lv_at hl 1 rfl) ?_
                  refine b_get X E w 0 rfl rfl 19 (by decide) iX6 (by decide +kernel) rfl rfl dX6_hides_92 ?_
                  refine lv_iload_n hx hb dX6_hides_95 rfl (lv_at hl 4 rfl) ?_
                  refine lv_if_eq (tgt := 109) hx hb dX6_hides_96 (by decide) (fun c_96_46 => ?_) (fun c_96_46 => ?_)
                  · refine lv_bipush (v := nI 10) hx hb dX6_hides_109 (by decide) ?_
                    refine lv_iload hx hb dX6_hides_111 (lv_at hl 6 rfl) ?_
                    refine lv_imul hx hb dX6_hides_113 ?_
                    refine b_tp (show (nI 10) * (nI k) = nI (10 * k) from pk_mul 10 k) ?_
                    refine lv_iload_n hx hb dX6_hides_114 rfl (lv_at hl 3 rfl) ?_
                    refine lv_iadd hx hb dX6_hides_115 ?_
                    refine b_tp (show (nI (10 * k)) + (nI i) = nI ((10 * k) + i) from nI_add (10 * k) i) ?_
                    refine b_zald X E w 2 rfl ((10 * k) + i) rfl (by omega) (by first | decide | omega) dX6_hides_116 ?_
                    refine b_tp (show zB hid ((10 * k) + i) = bI (hid ((10 * k) + i)) from rfl) ?_
                    refine lv_if_eq (tgt := 124) hx hb dX6_hides_117 (by decide) (fun c_117_47 => ?_) (fun c_117_47 => ?_)
                    · have q_117_48 : (hid ((10 * k) + i)) = false := bI_0.mp c_117_47
                      have g1 := cH_noB (p := (fun k => decide (fA k = nI a))) (b := (fun k => hid (10 * k + i))) (k := k) hp q_117_48
                      refine lv_iconst (v := nI 0) hx hb dX6_hides_124 (by decide) ?_
                      refine lv_iadd hx hb dX6_hides_125 ?_
                      refine b_tp (show (nI ct) + (nI 0) = nI (ct + 0) from nI_add ct 0) ?_
                      refine lv_istore (lv' := [(4, .int (nI (ct + 0))), (6, .int (nI 1)), (0, .ref M), (1, .int (nI a)), (2, .int (nI i)), (3, .int (nI 0)), (5, .int (nI k))]) hx hb dX6_hides_126 hl (by decide) rfl (fun ls hl => ?_)
                      refine lv_iinc (v := nI (k + 1)) (lv' := [(5, .int (nI (k + 1))), (4, .int (nI (ct + 0))), (6, .int (nI 1)), (0, .ref M), (1, .int (nI a)), (2, .int (nI i)), (3, .int (nI 0))]) hx hb dX6_hides_128 hl (k := 6) rfl (nI_add k 1) (by decide) rfl (fun ls hl => ?_)
                      refine lv_goto (tgt := 24) hx hb dX6_hides_131 (by decide) ?_
                      exact ih24 _ _ _ ⟨k + 1, ct + 0, (by omega), (by omega), (by omega), by rw [g1]; omega, w, lv_sub hl [3, 4, 5, 6, 1, 0] rfl⟩
                    · have q_117_48 : (hid ((10 * k) + i)) = true := bI_n0.mp c_117_47
                      have g1 := cH_yes2 (p := (fun k => decide (fA k = nI a))) (b := (fun k => hid (10 * k + i))) (k := k) hp q_117_48
                      refine lv_iconst (v := nI 1) hx hb dX6_hides_120 (by decide) ?_
                      refine lv_goto (tgt := 125) hx hb dX6_hides_121 (by decide) ?_
                      refine lv_iadd hx hb dX6_hides_125 ?_
                      refine b_tp (show (nI ct) + (nI 1) = nI (ct + 1) from nI_add ct 1) ?_
                      refine lv_istore (lv' := [(4, .int (nI (ct + 1))), (6, .int (nI 1)), (0, .ref M), (1, .int (nI a)), (2, .int (nI i)), (3, .int (nI 0)), (5, .int (nI k))]) hx hb dX6_hides_126 hl (by decide) rfl (fun ls hl => ?_)
                      refine lv_iinc (v := nI (k + 1)) (lv' := [(5, .int (nI (k + 1))), (4, .int (nI (ct + 1))), (6, .int (nI 1)), (0, .ref M), (1, .int (nI a)), (2, .int (nI i)), (3, .int (nI 0))]) hx hb dX6_hides_128 hl (k := 6) rfl (nI_add k 1) (by decide) rfl (fun ls hl => ?_)
                      refine lv_goto (tgt := 24) hx hb dX6_hides_131 (by decide) ?_
                      exact ih24 _ _ _ ⟨k + 1, ct + 1, (by omega), (by omega), (by omega), by rw [g1]; omega, w, lv_sub hl [3, 4, 5, 6, 1, 0] rfl⟩
                  · exact absurd (by decide) c_96_46
            · exact absurd (by decide) c_66_42
          · exact absurd (by decide) c_45_41
      · exact absurd (by decide) c_27_38
set_option maxHeartbeats 4000000 in
set_option maxRecDepth 100000 in
theorem c_X6_hides_J (l : Launch) (hl0 : l.stackTraces = false) (G : bG) (sz : Nat) (M yA yJ yg yw yc yv yr yC yD yF yS yV yH td nA nJ dn snt jd bn : Nat) (th : Int32) (fJ : Nat → Int32) (hid : Nat → Bool) (a i : Nat) (hnA : nA ≤ 14) (hnJ : nJ ≤ 10) (ha : a < nA) (hi : i < nJ) : Met l yX6_hides wsX6_hides ({ frames := 0, cells := 0, slots := 0, locals := 0 }) (va_Pc [.ref M, .int (nI a), .int (nI i), .int (nI 1)] (bPre G vwCl bNW bSW sz [(M, .inr (6, [.int (nI td), .int (nI nA), .int (nI nJ), .ref yA, .ref yJ, .ref yg, .int (nI dn), .ref yw, .ref yc, .ref yv, .int (nI snt), .int (nI jd), .ref yr, .int (nI bn), .ref yC, .ref yD, .ref yF, .ref yS, .ref yV, .ref yH, .int th])), (yJ, .inl (G.2.1, 10, .inl fJ)), (yH, .inl (G.2.2.1, 140, .inl (zB hid)))] [])) (va_Qi (fun (r : Int32) (_ : Unit) => r = nI (b1 (hid (10 * a + i)) + cH (fun k => decide (fJ k = nI i)) (fun k => hid (10 * a + k)) nJ)) (fun (_ : Unit) (tS : State) => va_P G.1 vwCl [] tS.heap) (Aw [] sz)) 0 0 (Aw [] sz) := by
  refine Met.ofW (cc := cX6_hides) (maxL := 7) (ret := (some .int)) (by decide) rfl ?_
  intro p e s m args below meth c s₁ B hml hv
  obtain ⟨rfl, hsz, hP, hD, E, Z⟩ := hv
  have hts := atoms_spec (ws := wsX6_hides) B.pre
  have hown : s.vm.findClass RX6 = some m.cls := findClass_of_methodNamed B.named
  have X : CallFix p m c cX6_hides 7 s _ wsX6_hides RX6 := ⟨B.exec, B.bytes, hml, hown, hts⟩
  have hx := B.exec
  have hb := B.bytes
  have hr := B.returns
  have hlocks := B.notSynchronized
  subst hsz
  have w : bSt G vwCl [] s [(M, .inr (6, [.int (nI td), .int (nI nA), .int (nI nJ), .ref yA, .ref yJ, .ref yg, .int (nI dn), .ref yw, .ref yc, .ref yv, .int (nI snt), .int (nI jd), .ref yr, .int (nI bn), .ref yC, .ref yD, .ref yF, .ref yS, .ref yV, .ref yH, .int th])), (yJ, .inl (G.2.1, 10, .inl fJ)), (yH, .inl (G.2.2.1, 140, .inl (zB hid)))] s.heap [] := ⟨hP, va_S.rf, hD⟩
  have Z0 : bZ [] s := ⟨Z.1.narrow (fun q h => h.elim (fun h => nomatch h) Or.inr), Z.2.narrow (fun q h => h.elim (fun h => nomatch h) Or.inr)⟩
  have iX6 : ∀ w ∈ wsX60, w ∈ wsX6_hides := by decide +kernel
  have hl := lv_entry ([.ref M, .int (nI a), .int (nI i), .int (nI 1)]) (n := 7) (Nat.le_of_ble_eq_true rfl)
  rw [lg_entry_eq]
  generalize (lg_sl ([.ref M, .int (nI a), .int (nI i), .int (nI 1)]) ++ List.replicate (7 - (lg_sl ([.ref M, .int (nI a), .int (nI i), .int (nI 1)])).length) Slot.unset).toArray = ls at hl ⊢
  have hl : lv_has ls 7 [(0, .ref M), (1, .int (nI a)), (2, .int (nI i)), (3, .int (nI 1))] := hl
  have hb1 := b1_le (hid (10 * a + i))
  refine lv_aload_n hx hb dX6_hides_0 rfl (lv_at hl 0 rfl) ?_
  refine b_get X E w 0 rfl rfl 19 (by decide) iX6 (by decide +kernel) rfl rfl dX6_hides_1 ?_
  refine lv_bipush (v := nI 10) hx hb dX6_hides_4 (by decide) ?_
  refine lv_iload_n hx hb dX6_hides_6 rfl (lv_at hl 1 rfl) ?_
  refine lv_imul hx hb dX6_hides_7 ?_
  refine b_tp (show (nI 10) * (nI a) = nI (10 * a) from pk_mul 10 a) ?_
  refine lv_iload_n hx hb dX6_hides_8 rfl (lv_at hl 2 rfl) ?_
  refine lv_iadd hx hb dX6_hides_9 ?_
  refine b_tp (show (nI (10 * a)) + (nI i) = nI ((10 * a) + i) from nI_add (10 * a) i) ?_
  refine b_zald X E w 2 rfl ((10 * a) + i) rfl (by omega) (by first | decide | omega) dX6_hides_10 ?_
  refine b_tp (show zB hid ((10 * a) + i) = bI (hid ((10 * a) + i)) from rfl) ?_
  refine lv_if_eq (tgt := 18) hx hb dX6_hides_11 (by decide) (fun c_11_25 => ?_) (fun c_11_25 => ?_)
  · have q_11_26 : (hid ((10 * a) + i)) = false := bI_0.mp c_11_25
    have hct0 : 0 = b1 (hid (10 * a + i)) + 0 := by rw [b1_f q_11_26]
    refine lv_iconst (v := nI 0) hx hb dX6_hides_18 (by decide) ?_
    refine lv_istore (lv' := [(4, .int (nI 0)), (0, .ref M), (1, .int (nI a)), (2, .int (nI i)), (3, .int (nI 1))]) hx hb dX6_hides_19 hl (by decide) rfl (fun ls hl => ?_)
    refine lv_iconst (v := nI 0) hx hb dX6_hides_21 (by decide) ?_
    refine lv_istore (lv' := [(5, .int (nI 0)), (4, .int (nI 0)), (0, .ref M), (1, .int (nI a)), (2, .int (nI i)), (3, .int (nI 1))]) hx hb dX6_hides_22 hl (by decide) rfl (fun ls hl => ?_)
    refine b_loop (pc := 24) (st := []) (fun (fuel : Nat) (H : Heap) (locs : List Loc) (ls : Array Slot) => ∃ (k : Nat) (ct : Nat), (k ≤ nJ) ∧ (nJ + 1 ≤ k + fuel) ∧ (ct ≤ k + 1) ∧ (ct = b1 (hid (10 * a + i)) + cH (fun k => decide (fJ k = nI i)) (fun k => hid (10 * a + k)) k) ∧ bSt G vwCl [] s [(M, .inr (6, [.int (nI td), .int (nI nA), .int (nI nJ), .ref yA, .ref yJ, .ref yg, .int (nI dn), .ref yw, .ref yc, .ref yv, .int (nI snt), .int (nI jd), .ref yr, .int (nI bn), .ref yC, .ref yD, .ref yF, .ref yS, .ref yV, .ref yH, .int th])), (yJ, .inl (G.2.1, 10, .inl fJ)), (yH, .inl (G.2.2.1, 140, .inl (zB hid)))] H locs ∧ lv_has ls 7 [(0, .ref M), (1, .int (nI a)), (2, .int (nI i)), (3, .int (nI 1)), (4, .int (nI ct)), (5, .int (nI k))]) (fun H locs ls h9 => ?_) (fun fuel H locs ls hI ih24 => ?_) (nJ + 1) ⟨0, 0, (by omega), (by omega), (by omega), hct0, w, lv_sub hl [2, 3, 4, 5, 1, 0] rfl⟩
    · obtain ⟨k, ct, hk, hf, hck, hct, w, hl⟩ := h9
      omega
    · obtain ⟨k, ct, hk, hf, hck, hct, w, hl⟩ := hI
      refine lv_iload hx hb dX6_hides_24 (lv_at hl 5 rfl) ?_
      refine lv_iload_n hx hb dX6_hides_26 rfl (lv_at hl 3 rfl) ?_
      refine lv_if_eq (tgt := 37) hx hb dX6_hides_27 (by decide) (fun c_27_27 => ?_) (fun c_27_27 => ?_)
      · exact absurd c_27_27 (by decide)
      · refine lv_aload_n hx hb dX6_hides_30 rfl (lv_at hl 0 rfl) ?_
        refine b_get X E w 0 rfl rfl 2 (by decide) iX6 (by decide +kernel) rfl rfl dX6_hides_31 ?_
        refine lv_goto (tgt := 41) hx hb dX6_hides_34 (by decide) ?_
        refine lv_icmp_ge (tgt := 134) hx hb dX6_hides_41 (by decide) (fun c_41_28 => ?_) (fun c_41_28 => ?_)
        · have q_41_29 : nJ ≤ k := q_le (by omega) (by omega) c_41_28
          have ek : k = nJ := by omega
          rw [ek] at hct
          refine lv_iload hx hb dX6_hides_134 (lv_at hl 4 rfl) ?_
          exact W.iret (v := nI ct) hx hb hr (fun t9 ht9 hW9 => ⟨⟨nI ct, (), rfl, congrArg nI hct, fun k q h => by cases k <;> cases h⟩, w.2.1.F ht9⟩) w.2.1.2.2 dX6_hides_136
        · have q_41_29 : k < nJ := q_nle (by omega) (by omega) c_41_28
          refine lv_iload_n hx hb dX6_hides_44 rfl (lv_at hl 3 rfl) ?_
          refine lv_if_eq (tgt := 58) hx hb dX6_hides_45 (by decide) (fun c_45_30 => ?_) (fun c_45_30 => ?_)
          · exact absurd c_45_30 (by decide)
          · refine lv_aload_n hx hb dX6_hides_48 rfl (lv_at hl 0 rfl) ?_
            refine b_get X E w 0 rfl rfl 4 (by decide) iX6 (by decide +kernel) rfl rfl dX6_hides_49 ?_
            refine lv_iload hx hb dX6_hides_52 (lv_at hl 5 rfl) ?_
            refine b_iald X E w 1 rfl k rfl (by omega) (by first | decide | omega) dX6_hides_54 ?_
            refine lv_goto (tgt := 65) hx hb dX6_hides_55 (by decide) ?_
            refine lv_iload_n hx hb dX6_hides_65 rfl (lv_at hl 3 rfl) ?_
            refine lv_if_eq (tgt := 73) hx hb dX6_hides_66 (by decide) (fun c_66_31 => ?_) (fun c_66_31 => ?_)
            · exact absurd c_66_31 (by decide)
            · refine lv_iload_n hx hb dX6_hides_69 rfl (lv_at hl 2 rfl) ?_
              refine lv_goto (tgt := 74) hx hb dX6_hides_70 (by decide) ?_
              refine lv_icmp_ne (tgt := 81) hx hb dX6_hides_74 (by decide) (fun c_74_32 => ?_) (fun c_74_32 => ?_)
              · have g1 := cH_noP (p := (fun k => decide (fJ k = nI i))) (b := (fun k => hid (10 * a + k))) (k := k) (decide_eq_false c_74_32)
                refine lv_iconst (v := nI 0) hx hb dX6_hides_81 (by decide) ?_
                refine lv_istore (lv' := [(6, .int (nI 0)), (0, .ref M), (1, .int (nI a)), (2, .int (nI i)), (3, .int (nI 1)), (4, .int (nI ct)), (5, .int (nI k))]) hx hb dX6_hides_82 hl (by decide) rfl (fun ls hl => ?_)
                refine lv_iload hx hb dX6_hides_84 (lv_at hl 5 rfl) ?_
                refine lv_iload hx hb dX6_hides_86 (lv_at hl 0 rfl) ?_
                refine lv_if_eq (tgt := 124) hx hb dX6_hides_88 (by decide) (fun c_88_33 => ?_) (fun c_88_33 => ?_)
                · refine lv_iconst (v := nI 0) hx hb dX6_hides_124 (by decide) ?_
                  refine lv_iadd hx hb dX6_hides_125 ?_
                  refine b_tp (show (nI ct) + (nI 0) = nI (ct + 0) from nI_add ct 0) ?_
                  refine lv_istore (lv' := [(4, .int (nI (ct + 0))), (6, .int (nI 0)), (0, .ref M), (1, .int (nI a)), (2, .int (nI i)), (3, .int (nI 1)), (5, .int (nI k))]) hx hb dX6_hides_126 hl (by decide) rfl (fun ls hl => ?_)
                  refine lv_iinc (v := nI (k + 1)) (lv' := [(5, .int (nI (k + 1))), (4, .int (nI (ct + 0))), (6, .int (nI 0)), (0, .ref M), (1, .int (nI a)), (2, .int (nI i)), (3, .int (nI 1))]) hx hb dX6_hides_128 hl (k := 6) rfl (nI_add k 1) (by decide) rfl (fun ls hl => ?_)
                  refine lv_goto (tgt := 24) hx hb dX6_hides_131 (by decide) ?_
                  exact ih24 _ _ _ ⟨k + 1, ct + 0, (by omega), (by omega), (by omega), by rw [g1]; omega, w, lv_sub hl [3, 4, 5, 6, 1, 0] rfl⟩
                · exact absurd (by decide) c_88_33
              · have hp := decide_eq_true c_74_32
                refine lv_iconst (v := nI 1) hx hb dX6_hides_77 (by decide) ?_
                refine lv_goto (tgt := 82) hx hb dX6_hides_78 (by decide) ?_
                refine lv_istore (lv' := [(6, .int (nI 1)), (0, .ref M), (1, .int (nI a)), (2, .int (nI i)), (3, .int (nI 1)), (4, .int (nI ct)), (5, .int (nI k))]) hx hb dX6_hides_82 hl (by decide) rfl (fun ls hl => ?_)
                refine lv_iload hx hb dX6_hides_84 (lv_at hl 5 rfl) ?_
                refine lv_iload hx hb dX6_hides_86 (lv_at hl 0 rfl) ?_
                refine lv_if_eq (tgt := 124) hx hb dX6_hides_88 (by decide) (fun c_88_34 => ?_) (fun c_88_34 => ?_)
                · exact absurd c_88_34 (by decide)
                · refine lv_aload_n hx hb dX6_hides_91 rfl (lv_at hl 1 rfl) ?_
                  refine b_get X E w 0 rfl rfl 19 (by decide) iX6 (by decide +kernel) rfl rfl dX6_hides_92 ?_
                  refine lv_iload_n hx hb dX6_hides_95 rfl (lv_at hl 4 rfl) ?_
                  refine lv_if_eq (tgt := 109) hx hb dX6_hides_96 (by decide) (fun c_96_35 => ?_) (fun c_96_35 => ?_)
                  · exact absurd c_96_35 (by decide)
                  · refine lv_bipush (v := nI 10) hx hb dX6_hides_99 (by decide) ?_
                    refine lv_iload_n hx hb dX6_hides_101 rfl (lv_at hl 2 rfl) ?_
                    refine lv_imul hx hb dX6_hides_102 ?_
                    refine b_tp (show (nI 10) * (nI a) = nI (10 * a) from pk_mul 10 a) ?_
                    refine lv_iload hx hb dX6_hides_103 (lv_at hl 6 rfl) ?_
                    refine lv_iadd hx hb dX6_hides_105 ?_
                    refine b_tp (show (nI (10 * a)) + (nI k) = nI ((10 * a) + k) from nI_add (10 * a) k) ?_
                    refine lv_goto (tgt := 116) hx hb dX6_hides_106 (by decide) ?_
                    refine b_zald X E w 2 rfl ((10 * a) + k) rfl (by omega) (by first | decide | omega) dX6_hides_116 ?_
                    refine b_tp (show zB hid ((10 * a) + k) = bI (hid ((10 * a) + k)) from rfl) ?_
                    refine lv_if_eq (tgt := 124) hx hb dX6_hides_117 (by decide) (fun c_117_36 => ?_) (fun c_117_36 => ?_)
                    · have q_117_37 : (hid ((10 * a) + k)) = false := bI_0.mp c_117_36
                      have g1 := cH_noB (p := (fun k => decide (fJ k = nI i))) (b := (fun k => hid (10 * a + k))) (k := k) hp q_117_37
                      refine lv_iconst (v := nI 0) hx hb dX6_hides_124 (by decide) ?_
                      refine lv_iadd hx hb dX6_hides_125 ?_
                      refine b_tp (show (nI ct) + (nI 0) = nI (ct + 0) from nI_add ct 0) ?_
                      refine lv_istore (lv' := [(4, .int (nI (ct + 0))), (6, .int (nI 1)), (0, .ref M), (1, .int (nI a)), (2, .int (nI i)), (3, .int (nI 1)), (5, .int (nI k))]) hx hb dX6_hides_126 hl (by decide) rfl (fun ls hl => ?_)
                      refine lv_iinc (v := nI (k + 1)) (lv' := [(5, .int (nI (k + 1))), (4, .int (nI (ct + 0))), (6, .int (nI 1)), (0, .ref M), (1, .int (nI a)), (2, .int (nI i)), (3, .int (nI 1))]) hx hb dX6_hides_128 hl (k := 6) rfl (nI_add k 1) (by decide) rfl (fun ls hl => ?_)
                      refine lv_goto (tgt := 24) hx hb dX6_hides_131 (by decide) ?_
                      exact ih24 _ _ _ ⟨k + 1, ct + 0, (by omega), (by omega), (by omega), by rw [g1]; omega, w, lv_sub hl [3, 4, 5, 6, 1, 0] rfl⟩
                    · have q_117_37 : (hid ((10 * a) + k)) = true := bI_n0.mp c_117_36
                      have g1 := cH_yes2 (p := (fun k => decide (fJ k = nI i))) (b := (fun k => hid (10 * a + k))) (k := k) hp q_117_37
                      refine lv_iconst (v := nI 1) hx hb dX6_hides_120 (by decide) ?_
                      refine lv_goto (tgt := 125) hx hb dX6_hides_121 (by decide) ?_
                      refine lv_iadd hx hb dX6_hides_125 ?_
                      refine b_tp (show (nI ct) + (nI 1) = nI (ct + 1) from nI_add ct 1) ?_
                      refine lv_istore (lv' := [(4, .int (nI (ct + 1))), (6, .int (nI 1)), (0, .ref M), (1, .int (nI a)), (2, .int (nI i)), (3, .int (nI 1)), (5, .int (nI k))]) hx hb dX6_hides_126 hl (by decide) rfl (fun ls hl => ?_)
                      refine lv_iinc (v := nI (k + 1)) (lv' := [(5, .int (nI (k + 1))), (4, .int (nI (ct + 1))), (6, .int (nI 1)), (0, .ref M), (1, .int (nI a)), (2, .int (nI i)), (3, .int (nI 1))]) hx hb dX6_hides_128 hl (k := 6) rfl (nI_add k 1) (by decide) rfl (fun ls hl => ?_)
                      refine lv_goto (tgt := 24) hx hb dX6_hides_131 (by decide) ?_
                      exact ih24 _ _ _ ⟨k + 1, ct + 1, (by omega), (by omega), (by omega), by rw [g1]; omega, w, lv_sub hl [3, 4, 5, 6, 1, 0] rfl⟩
  · have q_11_26 : (hid ((10 * a) + i)) = true := bI_n0.mp c_11_25
    have hct0 : 1 = b1 (hid (10 * a + i)) + 0 := by rw [b1_t q_11_26]
    refine lv_iconst (v := nI 1) hx hb dX6_hides_14 (by decide) ?_
    refine lv_goto (tgt := 19) hx hb dX6_hides_15 (by decide) ?_
    refine lv_istore (lv' := [(4, .int (nI 1)), (0, .ref M), (1, .int (nI a)), (2, .int (nI i)), (3, .int (nI 1))]) hx hb dX6_hides_19 hl (by decide) rfl (fun ls hl => ?_)
    refine lv_iconst (v := nI 0) hx hb dX6_hides_21 (by decide) ?_
    refine lv_istore (lv' := [(5, .int (nI 0)), (4, .int (nI 1)), (0, .ref M), (1, .int (nI a)), (2, .int (nI i)), (3, .int (nI 1))]) hx hb dX6_hides_22 hl (by decide) rfl (fun ls hl => ?_)
    refine b_loop (pc := 24) (st := []) (fun (fuel : Nat) (H : Heap) (locs : List Loc) (ls : Array Slot) => ∃ (k : Nat) (ct : Nat), (k ≤ nJ) ∧ (nJ + 1 ≤ k + fuel) ∧ (ct ≤ k + 1) ∧ (ct = b1 (hid (10 * a + i)) + cH (fun k => decide (fJ k = nI i)) (fun k => hid (10 * a + k)) k) ∧ bSt G vwCl [] s [(M, .inr (6, [.int (nI td), .int (nI nA), .int (nI nJ), .ref yA, .ref yJ, .ref yg, .int (nI dn), .ref yw, .ref yc, .ref yv, .int (nI snt), .int (nI jd), .ref yr, .int (nI bn), .ref yC, .ref yD, .ref yF, .ref yS, .ref yV, .ref yH, .int th])), (yJ, .inl (G.2.1, 10, .inl fJ)), (yH, .inl (G.2.2.1, 140, .inl (zB hid)))] H locs ∧ lv_has ls 7 [(0, .ref M), (1, .int (nI a)), (2, .int (nI i)), (3, .int (nI 1)), (4, .int (nI ct)), (5, .int (nI k))]) (fun H locs ls h9 => ?_) (fun fuel H locs ls hI ih24 => ?_) (nJ + 1) ⟨0, 1, (by omega), (by omega), (by omega), hct0, w, lv_sub hl [2, 3, 4, 5, 1, 0] rfl⟩
    · obtain ⟨k, ct, hk, hf, hck, hct, w, hl⟩ := h9
      omega
    · obtain ⟨k, ct, hk, hf, hck, hct, w, hl⟩ := hI
      refine lv_iload hx hb dX6_hides_24 (lv_at hl 5 rfl) ?_
      refine lv_iload_n hx hb dX6_hides_26 rfl (lv_at hl 3 rfl) ?_
      refine lv_if_eq (tgt := 37) hx hb dX6_hides_27 (by decide) (fun c_27_38 => ?_) (fun c_27_38 => ?_)
      · exact absurd c_27_38 (by decide)
      · refine lv_aload_n hx hb dX6_hides_30 rfl (lv_at hl 0 rfl) ?_
        refine b_get X E w 0 rfl rfl 2 (by decide) iX6 (by decide +kernel) rfl rfl dX6_hides_31 ?_
        refine lv_goto (tgt := 41) hx hb dX6_hides_34 (by decide) ?_
        refine lv_icmp_ge (tgt := 134) hx hb dX6_hides_41 (by decide) (fun c_41_39 => ?_) (fun c_41_39 => ?_)
        · have q_41_40 : nJ ≤ k := q_le (by omega) (by omega) c_41_39
          have ek : k = nJ := by omega
          rw [ek] at hct
          refine lv_iload hx hb dX6_hides_134 (lv_at hl 4 rfl) ?_
          exact W.iret (v := nI ct) hx hb hr (fun t9 ht9 hW9 => ⟨⟨nI ct, (), rfl, congrArg nI hct, fun k q h => by cases k <;> cases h⟩, w.2.1.F ht9⟩) w.2.1.2.2 dX6_hides_136
        · have q_41_40 : k < nJ := q_nle (by omega) (by omega) c_41_39
          refine lv_iload_n hx hb dX6_hides_44 rfl (lv_at hl 3 rfl) ?_
          refine lv_if_eq (tgt := 58) hx hb dX6_hides_45 (by decide) (fun c_45_41 => ?_) (fun c_45_41 => ?_)
          · exact absurd c_45_41 (by decide)
          · refine lv_aload_n hx hb dX6_hides_48 rfl (lv_at hl 0 rfl) ?_
            refine b_get X E w 0 rfl rfl 4 (by decide) iX6 (by decide +kernel) rfl rfl dX6_hides_49 ?_
            refine lv_iload hx hb dX6_hides_52 (lv_at hl 5 rfl) ?_
            refine b_iald X E w 1 rfl k rfl (by omega) (by first | decide | omega) dX6_hides_54 ?_
            refine lv_goto (tgt := 65) hx hb dX6_hides_55 (by decide) ?_
            refine lv_iload_n hx hb dX6_hides_65 rfl (lv_at hl 3 rfl) ?_
            refine lv_if_eq (tgt := 73) hx hb dX6_hides_66 (by decide) (fun c_66_42 => ?_) (fun c_66_42 => ?_)
            · exact absurd c_66_42 (by decide)
            · refine lv_iload_n hx hb dX6_hides_69 rfl (lv_at hl 2 rfl) ?_
              refine lv_goto (tgt := 74) hx hb dX6_hides_70 (by decide) ?_
              refine lv_icmp_ne (tgt := 81) hx hb dX6_hides_74 (by decide) (fun c_74_43 => ?_) (fun c_74_43 => ?_)
              · have g1 := cH_noP (p := (fun k => decide (fJ k = nI i))) (b := (fun k => hid (10 * a + k))) (k := k) (decide_eq_false c_74_43)
                refine lv_iconst (v := nI 0) hx hb dX6_hides_81 (by decide) ?_
                refine lv_istore (lv' := [(6, .int (nI 0)), (0, .ref M), (1, .int (nI a)), (2, .int (nI i)), (3, .int (nI 1)), (4, .int (nI ct)), (5, .int (nI k))]) hx hb dX6_hides_82 hl (by decide) rfl (fun ls hl => ?_)
                refine lv_iload hx hb dX6_hides_84 (lv_at hl 5 rfl) ?_
                refine lv_iload hx hb dX6_hides_86 (lv_at hl 0 rfl) ?_
                refine lv_if_eq (tgt := 124) hx hb dX6_hides_88 (by decide) (fun c_88_44 => ?_) (fun c_88_44 => ?_)
                · refine lv_iconst (v := nI 0) hx hb dX6_hides_124 (by decide) ?_
                  refine lv_iadd hx hb dX6_hides_125 ?_
                  refine b_tp (show (nI ct) + (nI 0) = nI (ct + 0) from nI_add ct 0) ?_
                  refine lv_istore (lv' := [(4, .int (nI (ct + 0))), (6, .int (nI 0)), (0, .ref M), (1, .int (nI a)), (2, .int (nI i)), (3, .int (nI 1)), (5, .int (nI k))]) hx hb dX6_hides_126 hl (by decide) rfl (fun ls hl => ?_)
                  refine lv_iinc (v := nI (k + 1)) (lv' := [(5, .int (nI (k + 1))), (4, .int (nI (ct + 0))), (6, .int (nI 0)), (0, .ref M), (1, .int (nI a)), (2, .int (nI i)), (3, .int (nI 1))]) hx hb dX6_hides_128 hl (k := 6) rfl (nI_add k 1) (by decide) rfl (fun ls hl => ?_)
                  refine lv_goto (tgt := 24) hx hb dX6_hides_131 (by decide) ?_
                  exact ih24 _ _ _ ⟨k + 1, ct + 0, (by omega), (by omega), (by omega), by rw [g1]; omega, w, lv_sub hl [3, 4, 5, 6, 1, 0] rfl⟩
                · exact absurd (by decide) c_88_44
              · have hp := decide_eq_true c_74_43
                refine lv_iconst (v := nI 1) hx hb dX6_hides_77 (by decide) ?_
                refine lv_goto (tgt := 82) hx hb dX6_hides_78 (by decide) ?_
                refine lv_istore (lv' := [(6, .int (nI 1)), (0, .ref M), (1, .int (nI a)), (2, .int (nI i)), (3, .int (nI 1)), (4, .int (nI ct)), (5, .int (nI k))]) hx hb dX6_hides_82 hl (by decide) rfl (fun ls hl => ?_)
                refine lv_iload hx hb dX6_hides_84 (lv_at hl 5 rfl) ?_
                refine lv_iload hx hb dX6_hides_86 (lv_at hl 0 rfl) ?_
                refine lv_if_eq (tgt := 124) hx hb dX6_hides_88 (by decide) (fun c_88_45 => ?_) (fun c_88_45 => ?_)
                · exact absurd c_88_45 (by decide)
                · refine lv_aload_n hx hb dX6_hides_91 rfl (lv_at hl 1 rfl) ?_
                  refine b_get X E w 0 rfl rfl 19 (by decide) iX6 (by decide +kernel) rfl rfl dX6_hides_92 ?_
                  refine lv_iload_n hx hb dX6_hides_95 rfl (lv_at hl 4 rfl) ?_
                  refine lv_if_eq (tgt := 109) hx hb dX6_hides_96 (by decide) (fun c_96_46 => ?_) (fun c_96_46 => ?_)
                  · exact absurd c_96_46 (by decide)
                  · refine lv_bipush (v := nI 10) hx hb dX6_hides_99 (by decide) ?_
                    refine lv_iload_n hx hb dX6_hides_101 rfl (lv_at hl 2 rfl) ?_
                    refine lv_imul hx hb dX6_hides_102 ?_
                    refine b_tp (show (nI 10) * (nI a) = nI (10 * a) from pk_mul 10 a) ?_
                    refine lv_iload hx hb dX6_hides_103 (lv_at hl 6 rfl) ?_
                    refine lv_iadd hx hb dX6_hides_105 ?_
                    refine b_tp (show (nI (10 * a)) + (nI k) = nI ((10 * a) + k) from nI_add (10 * a) k) ?_
                    refine lv_goto (tgt := 116) hx hb dX6_hides_106 (by decide) ?_
                    refine b_zald X E w 2 rfl ((10 * a) + k) rfl (by omega) (by first | decide | omega) dX6_hides_116 ?_
                    refine b_tp (show zB hid ((10 * a) + k) = bI (hid ((10 * a) + k)) from rfl) ?_
                    refine lv_if_eq (tgt := 124) hx hb dX6_hides_117 (by decide) (fun c_117_47 => ?_) (fun c_117_47 => ?_)
                    · have q_117_48 : (hid ((10 * a) + k)) = false := bI_0.mp c_117_47
                      have g1 := cH_noB (p := (fun k => decide (fJ k = nI i))) (b := (fun k => hid (10 * a + k))) (k := k) hp q_117_48
                      refine lv_iconst (v := nI 0) hx hb dX6_hides_124 (by decide) ?_
                      refine lv_iadd hx hb dX6_hides_125 ?_
                      refine b_tp (show (nI ct) + (nI 0) = nI (ct + 0) from nI_add ct 0) ?_
                      refine lv_istore (lv' := [(4, .int (nI (ct + 0))), (6, .int (nI 1)), (0, .ref M), (1, .int (nI a)), (2, .int (nI i)), (3, .int (nI 1)), (5, .int (nI k))]) hx hb dX6_hides_126 hl (by decide) rfl (fun ls hl => ?_)
                      refine lv_iinc (v := nI (k + 1)) (lv' := [(5, .int (nI (k + 1))), (4, .int (nI (ct + 0))), (6, .int (nI 1)), (0, .ref M), (1, .int (nI a)), (2, .int (nI i)), (3, .int (nI 1))]) hx hb dX6_hides_128 hl (k := 6) rfl (nI_add k 1) (by decide) rfl (fun ls hl => ?_)
                      refine lv_goto (tgt := 24) hx hb dX6_hides_131 (by decide) ?_
                      exact ih24 _ _ _ ⟨k + 1, ct + 0, (by omega), (by omega), (by omega), by rw [g1]; omega, w, lv_sub hl [3, 4, 5, 6, 1, 0] rfl⟩
                    · have q_117_48 : (hid ((10 * a) + k)) = true := bI_n0.mp c_117_47
                      have g1 := cH_yes2 (p := (fun k => decide (fJ k = nI i))) (b := (fun k => hid (10 * a + k))) (k := k) hp q_117_48
                      refine lv_iconst (v := nI 1) hx hb dX6_hides_120 (by decide) ?_
                      refine lv_goto (tgt := 125) hx hb dX6_hides_121 (by decide) ?_
                      refine lv_iadd hx hb dX6_hides_125 ?_
                      refine b_tp (show (nI ct) + (nI 1) = nI (ct + 1) from nI_add ct 1) ?_
                      refine lv_istore (lv' := [(4, .int (nI (ct + 1))), (6, .int (nI 1)), (0, .ref M), (1, .int (nI a)), (2, .int (nI i)), (3, .int (nI 1)), (5, .int (nI k))]) hx hb dX6_hides_126 hl (by decide) rfl (fun ls hl => ?_)
                      refine lv_iinc (v := nI (k + 1)) (lv' := [(5, .int (nI (k + 1))), (4, .int (nI (ct + 1))), (6, .int (nI 1)), (0, .ref M), (1, .int (nI a)), (2, .int (nI i)), (3, .int (nI 1))]) hx hb dX6_hides_128 hl (k := 6) rfl (nI_add k 1) (by decide) rfl (fun ls hl => ?_)
                      refine lv_goto (tgt := 24) hx hb dX6_hides_131 (by decide) ?_
                      exact ih24 _ _ _ ⟨k + 1, ct + 1, (by omega), (by omega), (by omega), by rw [g1]; omega, w, lv_sub hl [3, 4, 5, 6, 1, 0] rfl⟩
set_option maxHeartbeats 4000000 in
set_option maxRecDepth 100000 in
theorem c_X6_size (l : Launch) (hl0 : l.stackTraces = false) (G : bG) (sz : Nat) (x : Int32) : Met l yX6_size wsX6_size ({ frames := 0, cells := 0, slots := 0, locals := 0 }) (va_Pc [.int x] (bPre G vwCl bNW bSW sz [] [])) (va_Qi (fun (r : Int32) (_ : Unit) => r = b_abs x) (fun (_ : Unit) (tS : State) => va_P G.1 vwCl [] tS.heap) (Aw [] sz)) 0 0 (Aw [] sz) := by
  refine Met.ofW (cc := cX6_size) (maxL := 1) (ret := (some .int)) (by decide) rfl ?_
  intro p e s m args below meth c s₁ B hml hv
  obtain ⟨rfl, hsz, hP, hD, E, Z⟩ := hv
  have hts := atoms_spec (ws := wsX6_size) B.pre
  have hown : s.vm.findClass RX6 = some m.cls := findClass_of_methodNamed B.named
  have X : CallFix p m c cX6_size 1 s _ wsX6_size RX6 := ⟨B.exec, B.bytes, hml, hown, hts⟩
  have hx := B.exec
  have hb := B.bytes
  have hr := B.returns
  have hlocks := B.notSynchronized
  subst hsz
  have w : bSt G vwCl [] s [] s.heap [] := ⟨hP, va_S.rf, hD⟩
  have Z0 : bZ [] s := ⟨Z.1.narrow (fun q h => h.elim (fun h => nomatch h) Or.inr), Z.2.narrow (fun q h => h.elim (fun h => nomatch h) Or.inr)⟩
  have hl := lv_entry ([.int x]) (n := 1) (Nat.le_of_ble_eq_true rfl)
  rw [lg_entry_eq]
  generalize (lg_sl ([.int x]) ++ List.replicate (1 - (lg_sl ([.int x])).length) Slot.unset).toArray = ls at hl ⊢
  have hl : lv_has ls 1 [(0, .int x)] := hl
  refine lv_iload_n hx hb dX6_size_0 rfl (lv_at hl 0 rfl) ?_
  refine lv_if_ge (tgt := 9) hx hb dX6_size_1 (by decide) (fun c_1_2 => ?_) (fun c_1_2 => ?_)
  · have hE : x = b_abs x := b_abs_pos c_1_2
    refine lv_iload_n hx hb dX6_size_9 rfl (lv_at hl 0 rfl) ?_
    exact W.iret (v := x) hx hb hr (fun t9 ht9 hW9 => ⟨⟨x, (), rfl, hE, fun k q h => by cases k <;> cases h⟩, w.2.1.F ht9⟩) w.2.1.2.2 dX6_size_10
  · have hE : -x = b_abs x := b_abs_neg c_1_2
    refine lv_iload_n hx hb dX6_size_4 rfl (lv_at hl 0 rfl) ?_
    refine lv_ineg hx hb dX6_size_5 ?_
    refine lv_goto (tgt := 10) hx hb dX6_size_6 (by decide) ?_
    exact W.iret (v := -x) hx hb hr (fun t9 ht9 hW9 => ⟨⟨-x, (), rfl, hE, fun k q h => by cases k <;> cases h⟩, w.2.1.F ht9⟩) w.2.1.2.2 dX6_size_10
set_option maxHeartbeats 4000000 in
set_option maxRecDepth 100000 in
theorem c_X6_finds (l : Launch) (hl0 : l.stackTraces = false) (G : bG) (sz : Nat) (M yA yJ yg yw yc yv yr yC yD yF yS yV yH td nA nJ dn snt jd bn : Nat) (th : Int32) (fA : Nat → Int32) (fJ : Nat → Int32) (bc : Nat → Int32) (bd : Nat → Int32) (bf : Nat → Int32) (v : Nat → Int32) (p0 : Nat) (d : Int32) (hnA : nA ≤ 14) (hnJ : nJ ≤ 10) (hTA : TI fA nA) (hTJ : TI fJ nJ) (hbn : bn ≤ 300) (hp : p0 < 12) : Met l yX6_finds wsX6_finds ({ frames := 1, cells := 0, slots := 0, locals := 28 }) (va_Pc [.ref M, .int (nI p0), .int d] (bPre G vwCl bNW bSW sz [(M, .inr (6, [.int (nI td), .int (nI nA), .int (nI nJ), .ref yA, .ref yJ, .ref yg, .int (nI dn), .ref yw, .ref yc, .ref yv, .int (nI snt), .int (nI jd), .ref yr, .int (nI bn), .ref yC, .ref yD, .ref yF, .ref yS, .ref yV, .ref yH, .int th])), (yA, .inl (G.2.1, 14, .inl fA)), (yJ, .inl (G.2.1, 10, .inl fJ)), (yC, .inl (G.2.1, 300, .inl bc)), (yD, .inl (G.2.1, 300, .inl bd)), (yF, .inl (G.2.1, 300, .inl bf)), (yV, .inl (G.2.1, 140, .inl v))] [yV])) (va_Qv (fun (u : Nat → Int32) => Fx (figs bc bd bf bn p0 d) fA nA fJ nJ u) (fun (u : Nat → Int32) (tS : State) => va_P G.1 vwCl [(yV, .inl (G.2.1, 140, .inl u))] tS.heap) (Aw [yV] sz)) 0 0 (Aw [yV] sz) := by
  refine Met.ofW (cc := cX6_finds) (maxL := 6) (ret := none) (by decide) rfl ?_
  intro p e s m args below meth c s₁ B hml hv
  obtain ⟨rfl, hsz, hP, hD, E, Z⟩ := hv
  have hts := atoms_spec (ws := wsX6_finds) B.pre
  have hown : s.vm.findClass RX6 = some m.cls := findClass_of_methodNamed B.named
  have X : CallFix p m c cX6_finds 6 s _ wsX6_finds RX6 := ⟨B.exec, B.bytes, hml, hown, hts⟩
  have hx := B.exec
  have hb := B.bytes
  have hr := B.returns
  have hlocks := B.notSynchronized
  subst hsz
  have w : bSt G vwCl [] s [(M, .inr (6, [.int (nI td), .int (nI nA), .int (nI nJ), .ref yA, .ref yJ, .ref yg, .int (nI dn), .ref yw, .ref yc, .ref yv, .int (nI snt), .int (nI jd), .ref yr, .int (nI bn), .ref yC, .ref yD, .ref yF, .ref yS, .ref yV, .ref yH, .int th])), (yA, .inl (G.2.1, 14, .inl fA)), (yJ, .inl (G.2.1, 10, .inl fJ)), (yC, .inl (G.2.1, 300, .inl bc)), (yD, .inl (G.2.1, 300, .inl bd)), (yF, .inl (G.2.1, 300, .inl bf)), (yV, .inl (G.2.1, 140, .inl v))] s.heap [] := ⟨hP, va_S.rf, hD⟩
  have Z0 : bZ [] s := ⟨Z.1.narrow (fun q h => h.elim (fun h => nomatch h) Or.inr), Z.2.narrow (fun q h => h.elim (fun h => nomatch h) Or.inr)⟩
  have iX6 : ∀ w ∈ wsX60, w ∈ wsX6_finds := by decide +kernel
  have hl := lv_entry ([.ref M, .int (nI p0), .int d]) (n := 6) (Nat.le_of_ble_eq_true rfl)
  rw [lg_entry_eq]
  generalize (lg_sl ([.ref M, .int (nI p0), .int d]) ++ List.replicate (6 - (lg_sl ([.ref M, .int (nI p0), .int d])).length) Slot.unset).toArray = ls at hl ⊢
  have hl : lv_has ls 6 [(0, .ref M), (1, .int (nI p0)), (2, .int d)] := hl
  refine lv_aload_n hx hb dX6_finds_0 rfl (lv_at hl 0 rfl) ?_
  refine b_get X E w 0 rfl rfl 1 (by decide) iX6 (by decide +kernel) rfl rfl dX6_finds_1 ?_
  refine lv_iconst (v := nI 1) hx hb dX6_finds_4 (by decide) ?_
  refine lv_isub hx hb dX6_finds_5 ?_
  refine lv_istore_n (lv' := [(3, .int ((nI nA) - (nI 1))), (0, .ref M), (1, .int (nI p0)), (2, .int d)]) hx hb dX6_finds_6 rfl hl (by decide) rfl (fun ls hl => ?_)
  have w := b_wide [yV] b_nil w
  refine b_loop (pc := 7) (st := []) (fun (fuel : Nat) (H : Heap) (locs : List Loc) (ls : Array Slot) => ∃ (A1 : Nat) (g : Nat → Int32), (A1 ≤ nA) ∧ (A1 + 1 ≤ fuel) ∧ (Pz (figs bc bd bf bn p0 d) fA nA fJ nJ A1 0 g) ∧ bSt G vwCl [yV] s [(M, .inr (6, [.int (nI td), .int (nI nA), .int (nI nJ), .ref yA, .ref yJ, .ref yg, .int (nI dn), .ref yw, .ref yc, .ref yv, .int (nI snt), .int (nI jd), .ref yr, .int (nI bn), .ref yC, .ref yD, .ref yF, .ref yS, .ref yV, .ref yH, .int th])), (yA, .inl (G.2.1, 14, .inl fA)), (yJ, .inl (G.2.1, 10, .inl fJ)), (yC, .inl (G.2.1, 300, .inl bc)), (yD, .inl (G.2.1, 300, .inl bd)), (yF, .inl (G.2.1, 300, .inl bf)), (yV, .inl (G.2.1, 140, .inl g))] H locs ∧ lv_has ls 6 [(0, .ref M), (1, .int (nI p0)), (2, .int d), (3, .int ((nI A1) - (nI 1)))]) (fun H locs ls h9 => ?_) (fun fuel H locs ls hI ih7 => ?_) (nA + 1) ⟨nA, v, (by omega), (by omega), Pz_top, w, lv_sub hl [1, 2, 3, 0] rfl⟩
  · obtain ⟨A1, g, hA1, hf, hz, w, hl⟩ := h9
    omega
  · obtain ⟨A1, g, hA1, hf, hz, w, hl⟩ := hI
    refine lv_iload_n hx hb dX6_finds_7 rfl (lv_at hl 3 rfl) ?_
    refine lv_if_lt (tgt := 104) hx hb dX6_finds_8 (by decide) (fun c_8_10 => ?_) (fun c_8_10 => ?_)
    · have hm0 := pred_0 (by omega) c_8_10
      subst hm0
      exact W.vret hx hb hr (fun t9 ht9 hW9 => ⟨⟨g, rfl, hz, by show va_P G.1 vwCl _ t9.heap; rw [ht9]; exact b_cg (rfl) (w.1.sub (ws' := [(yV, .inl (G.2.1, 140, .inl g))]) [6] rfl)⟩, w.2.1.F ht9⟩) w.2.1.2.2 dX6_finds_104
    · obtain ⟨a0, rfl⟩ := pred_s (by omega) c_8_10
      rw [pred_e] at hl
      have hl : lv_has ls 6 [(0, .ref M), (1, .int (nI p0)), (2, .int d), (3, .int (nI a0))] := hl
      refine lv_aload_n hx hb dX6_finds_11 rfl (lv_at hl 0 rfl) ?_
      refine b_get X E w 0 rfl rfl 2 (by decide) iX6 (by decide +kernel) rfl rfl dX6_finds_12 ?_
      refine lv_iconst (v := nI 1) hx hb dX6_finds_15 (by decide) ?_
      refine lv_isub hx hb dX6_finds_16 ?_
      refine lv_istore (lv' := [(4, .int ((nI nJ) - (nI 1))), (0, .ref M), (1, .int (nI p0)), (2, .int d), (3, .int (nI a0))]) hx hb dX6_finds_17 hl (by decide) rfl (fun ls hl => ?_)
      refine b_loop (pc := 19) (st := []) (fun (fuel : Nat) (H : Heap) (locs : List Loc) (ls : Array Slot) => ∃ (J1 : Nat) (g1 : Nat → Int32), (J1 ≤ nJ) ∧ (J1 + 1 ≤ fuel) ∧ (Pz (figs bc bd bf bn p0 d) fA nA fJ nJ a0 J1 g1) ∧ bSt G vwCl [yV] s [(M, .inr (6, [.int (nI td), .int (nI nA), .int (nI nJ), .ref yA, .ref yJ, .ref yg, .int (nI dn), .ref yw, .ref yc, .ref yv, .int (nI snt), .int (nI jd), .ref yr, .int (nI bn), .ref yC, .ref yD, .ref yF, .ref yS, .ref yV, .ref yH, .int th])), (yA, .inl (G.2.1, 14, .inl fA)), (yJ, .inl (G.2.1, 10, .inl fJ)), (yC, .inl (G.2.1, 300, .inl bc)), (yD, .inl (G.2.1, 300, .inl bd)), (yF, .inl (G.2.1, 300, .inl bf)), (yV, .inl (G.2.1, 140, .inl g1))] H locs ∧ lv_has ls 6 [(0, .ref M), (1, .int (nI p0)), (2, .int d), (3, .int (nI a0)), (4, .int ((nI J1) - (nI 1)))]) (fun H locs ls h9 => ?_) (fun fuel H locs ls hI ih19 => ?_) (nJ + 1) ⟨nJ, g, (by omega), (by omega), Pz_row hz, w, lv_sub hl [1, 2, 3, 4, 0] rfl⟩
      · obtain ⟨J1, g1, hJ1, hfj, hz1, w, hl⟩ := h9
        omega
      · obtain ⟨J1, g1, hJ1, hfj, hz1, w, hl⟩ := hI
        refine lv_iload hx hb dX6_finds_19 (lv_at hl 4 rfl) ?_
        refine lv_if_lt (tgt := 98) hx hb dX6_finds_21 (by decide) (fun c_21_11 => ?_) (fun c_21_11 => ?_)
        · have hm1 := pred_0 (by omega) c_21_11
          subst hm1
          refine lv_iinc (v := (nI a0) - (nI 1)) (lv' := [(3, .int ((nI a0) - (nI 1))), (0, .ref M), (1, .int (nI p0)), (2, .int d), (4, .int ((nI (0)) - (nI 1)))]) hx hb dX6_finds_98 hl (k := 3) rfl (dec_i a0) (by decide) rfl (fun ls hl => ?_)
          refine lv_goto (tgt := 7) hx hb dX6_finds_101 (by decide) ?_
          exact ih7 _ _ _ ⟨a0, g1, (by omega), (by omega), hz1, w, lv_sub hl [1, 2, 3, 0] rfl⟩
        · obtain ⟨i0, rfl⟩ := pred_s (by omega) c_21_11
          rw [pred_e] at hl
          have hl : lv_has ls 6 [(0, .ref M), (1, .int (nI p0)), (2, .int d), (3, .int (nI a0)), (4, .int (nI i0))] := hl
          refine lv_aload_n hx hb dX6_finds_24 rfl (lv_at hl 0 rfl) ?_
          refine lv_iload_n hx hb dX6_finds_25 rfl (lv_at hl 3 rfl) ?_
          refine lv_iload hx hb dX6_finds_26 (lv_at hl 4 rfl) ?_
          refine lv_iload_n hx hb dX6_finds_28 rfl (lv_at hl 1 rfl) ?_
          refine b_calli w (va_runS (As := [.int (nI a0), .int (nI i0), .int (nI p0)]) (rest := [.ref M]) X (c_X6_cellOf l hl0 G _ (a := a0) (i := i0) (p0 := p0) ) (va_cwS 3 hts gX6_finds_X6_cellOf rfl rfl rfl (by decide +kernel) ⟨Nat.le_of_ble_eq_true rfl, Nat.le_of_ble_eq_true rfl⟩) ⟨b_blind, (fun U9 hU9 hW9 => ⟨rfl, b_pre E Z w [] (by decide) rfl b_nil U9 hU9 hW9⟩)⟩ rfl rfl hl.1 rfl (lv_room (Nat.le_of_ble_eq_true rfl)) dX6_finds_29 ⟨Nat.le_of_ble_eq_true rfl, Nat.le_of_ble_eq_true rfl⟩) b_nil [] (fun _ => rfl) rfl (fun r29_12 u29_12 H locs hr29_12 w => ?_)
          have w : bSt G vwCl [yV] s [(M, .inr (6, [.int (nI td), .int (nI nA), .int (nI nJ), .ref yA, .ref yJ, .ref yg, .int (nI dn), .ref yw, .ref yc, .ref yv, .int (nI snt), .int (nI jd), .ref yr, .int (nI bn), .ref yC, .ref yD, .ref yF, .ref yS, .ref yV, .ref yH, .int th])), (yA, .inl (G.2.1, 14, .inl fA)), (yJ, .inl (G.2.1, 10, .inl fJ)), (yC, .inl (G.2.1, 300, .inl bc)), (yD, .inl (G.2.1, 300, .inl bd)), (yF, .inl (G.2.1, 300, .inl bf)), (yV, .inl (G.2.1, 140, .inl g1))] _ _ := w
          subst hr29_12
          refine lv_iload_n hx hb dX6_finds_32 rfl (lv_at hl 2 rfl) ?_
          refine b_calli w (va_runV (As := [.int (nI (140 * p0 + (10 * a0 + i0))), .int d]) (rest := []) X (c_X6_figureOn l hl0 G _ (M := M) (x := nI (140 * p0 + (10 * a0 + i0))) (d := d) (td := td) (nA := nA) (nJ := nJ) (yA := yA) (yJ := yJ) (yg := yg) (dn := dn) (yw := yw) (yc := yc) (yv := yv) (snt := snt) (jd := jd) (yr := yr) (bn := bn) (yC := yC) (yD := yD) (yF := yF) (yS := yS) (yV := yV) (yH := yH) (th := th) (bc := bc) (bd := bd) (bf := bf) (hbn := (by first | assumption | omega))) (cwV 2 hts gX6_finds_X6_figureOn rfl rfl rfl (by decide +kernel) ⟨Nat.le_of_ble_eq_true rfl, Nat.le_of_ble_eq_true rfl⟩) ⟨b_blind, b_recv E w (ci := 6) (q0 := 0) rfl rfl, (fun U9 hU9 hW9 => ⟨rfl, b_pre E Z w [0, 3, 4, 5] (by decide) rfl b_nil U9 hU9 hW9⟩)⟩ rfl rfl hl.1 rfl (lv_room (Nat.le_of_ble_eq_true rfl)) dX6_finds_33 ⟨Nat.le_of_ble_eq_true rfl, Nat.le_of_ble_eq_true rfl⟩) b_nil [] (fun _ => rfl) rfl (fun r33_13 u33_13 H locs hr33_13 w => ?_)
          have w : bSt G vwCl [yV] s [(M, .inr (6, [.int (nI td), .int (nI nA), .int (nI nJ), .ref yA, .ref yJ, .ref yg, .int (nI dn), .ref yw, .ref yc, .ref yv, .int (nI snt), .int (nI jd), .ref yr, .int (nI bn), .ref yC, .ref yD, .ref yF, .ref yS, .ref yV, .ref yH, .int th])), (yA, .inl (G.2.1, 14, .inl fA)), (yJ, .inl (G.2.1, 10, .inl fJ)), (yC, .inl (G.2.1, 300, .inl bc)), (yD, .inl (G.2.1, 300, .inl bd)), (yF, .inl (G.2.1, 300, .inl bf)), (yV, .inl (G.2.1, 140, .inl g1))] _ _ := w
          subst hr33_13
          refine b_tp (show fo bc bd bf (nI (140 * p0 + (10 * a0 + i0))) d bn = figs bc bd bf bn p0 d a0 i0 from rfl) ?_
          refine lv_istore (lv' := [(5, .int (figs bc bd bf bn p0 d a0 i0)), (0, .ref M), (1, .int (nI p0)), (2, .int d), (3, .int (nI a0)), (4, .int (nI i0))]) hx hb dX6_finds_36 hl (by decide) rfl (fun ls hl => ?_)
          refine lv_iload hx hb dX6_finds_38 (lv_at hl 0 rfl) ?_
          refine lv_ldc (v := MIS) hx hb hown (hts (.constant RX6 86 (-2000000001)) (by decide +kernel)) dX6_finds_40 ?_
          refine lv_icmp_ne (tgt := 56) hx hb dX6_finds_42 (by decide) (fun c_42_14 => ?_) (fun c_42_14 => ?_)
          · have c42 := c_42_14
            refine lv_iload hx hb dX6_finds_56 (lv_at hl 0 rfl) ?_
            refine lv_istore (lv' := [(5, .int (figs bc bd bf bn p0 d a0 i0)), (0, .ref M), (1, .int (nI p0)), (2, .int d), (3, .int (nI a0)), (4, .int (nI i0))]) hx hb dX6_finds_58 hl (by decide) rfl (fun ls hl => ?_)
            refine lv_aload_n hx hb dX6_finds_60 rfl (lv_at hl 1 rfl) ?_
            refine b_get X E w 0 rfl rfl 18 (by decide) iX6 (by decide +kernel) rfl rfl dX6_finds_61 ?_
            refine lv_bipush (v := nI 10) hx hb dX6_finds_64 (by decide) ?_
            refine lv_iload_n hx hb dX6_finds_66 rfl (lv_at hl 4 rfl) ?_
            refine lv_imul hx hb dX6_finds_67 ?_
            refine b_tp (show (nI 10) * (nI a0) = nI (10 * a0) from pk_mul 10 a0) ?_
            refine lv_iload hx hb dX6_finds_68 (lv_at hl 5 rfl) ?_
            refine lv_iadd hx hb dX6_finds_70 ?_
            refine b_tp (show (nI (10 * a0)) + (nI i0) = nI ((10 * a0) + i0) from nI_add (10 * a0) i0) ?_
            refine lv_iload hx hb dX6_finds_71 (lv_at hl 0 rfl) ?_
            refine lv_ldc (v := MIS) hx hb hown (hts (.constant RX6 86 (-2000000001)) (by decide +kernel)) dX6_finds_73 ?_
            refine lv_icmp_ne (tgt := 89) hx hb dX6_finds_75 (by decide) (fun c_75_15 => ?_) (fun c_75_15 => ?_)
            · have hn := Pz_step hTA hTJ hnA hnJ (by omega) (by omega) hz1 up1 (pk_us.trans (fy1 c42))
              refine lv_iload hx hb dX6_finds_89 (lv_at hl 0 rfl) ?_
              refine b_iast X E w (Or.inl (List.mem_of_getElem? (i := 0) rfl)) 6 rfl ((10 * a0) + i0) rfl (by omega) (by first | decide | omega) dX6_finds_91 (fun H locs w => ?_)
              have w : bSt G vwCl [yV] s [(M, .inr (6, [.int (nI td), .int (nI nA), .int (nI nJ), .ref yA, .ref yJ, .ref yg, .int (nI dn), .ref yw, .ref yc, .ref yv, .int (nI snt), .int (nI jd), .ref yr, .int (nI bn), .ref yC, .ref yD, .ref yF, .ref yS, .ref yV, .ref yH, .int th])), (yA, .inl (G.2.1, 14, .inl fA)), (yJ, .inl (G.2.1, 10, .inl fJ)), (yC, .inl (G.2.1, 300, .inl bc)), (yD, .inl (G.2.1, 300, .inl bd)), (yF, .inl (G.2.1, 300, .inl bf)), (yV, .inl (G.2.1, 140, .inl (upd g1 ((10 * a0) + i0) (figs bc bd bf bn p0 d a0 i0))))] _ _ := w
              refine lv_iinc (v := (nI i0) - (nI 1)) (lv' := [(4, .int ((nI i0) - (nI 1))), (5, .int (figs bc bd bf bn p0 d a0 i0)), (0, .ref M), (1, .int (nI p0)), (2, .int d), (3, .int (nI a0))]) hx hb dX6_finds_92 hl (k := 5) rfl (dec_i i0) (by decide) rfl (fun ls hl => ?_)
              refine lv_goto (tgt := 19) hx hb dX6_finds_95 (by decide) ?_
              exact ih19 _ _ _ ⟨i0, upd g1 ((10 * a0) + i0) (figs bc bd bf bn p0 d a0 i0), (by omega), (by omega), hn, w, lv_sub hl [2, 3, 4, 5, 0] rfl⟩
            · exact absurd c_75_15 c42
          · have c42 := c_42_14
            refine lv_aload_n hx hb dX6_finds_45 rfl (lv_at hl 1 rfl) ?_
            refine lv_iload_n hx hb dX6_finds_46 rfl (lv_at hl 4 rfl) ?_
            refine lv_iload hx hb dX6_finds_47 (lv_at hl 5 rfl) ?_
            refine lv_iconst (v := nI 0) hx hb dX6_finds_49 (by decide) ?_
            refine b_calli w (va_runV (As := [.int (nI a0), .int (nI i0), .int (nI 0)]) (rest := []) X (c_X6_sumOf_A l hl0 G _ (M := M) (a := a0) (i := i0) (td := td) (nA := nA) (nJ := nJ) (yA := yA) (yJ := yJ) (yg := yg) (dn := dn) (yw := yw) (yc := yc) (yv := yv) (snt := snt) (jd := jd) (yr := yr) (bn := bn) (yC := yC) (yD := yD) (yF := yF) (yS := yS) (yV := yV) (yH := yH) (th := th) (fA := fA) (v := g1) (hnA := (by first | assumption | omega)) (hnJ := (by first | assumption | omega)) (ha := (by first | assumption | omega)) (hi := (by first | assumption | omega))) (cwV 3 hts gX6_finds_X6_sumOf rfl rfl rfl (by decide +kernel) ⟨Nat.le_of_ble_eq_true rfl, Nat.le_of_ble_eq_true rfl⟩) ⟨b_blind, b_recv E w (ci := 6) (q0 := 0) rfl rfl, (fun U9 hU9 hW9 => ⟨rfl, b_pre E Z w [0, 1, 6] (by decide) rfl b_nil U9 hU9 hW9⟩)⟩ rfl rfl hl.1 rfl (lv_room (Nat.le_of_ble_eq_true rfl)) dX6_finds_50 ⟨Nat.le_of_ble_eq_true rfl, Nat.le_of_ble_eq_true rfl⟩) b_nil [] (fun _ => rfl) rfl (fun r50_16 u50_16 H locs hr50_16 w => ?_)
            have w : bSt G vwCl [yV] s [(M, .inr (6, [.int (nI td), .int (nI nA), .int (nI nJ), .ref yA, .ref yJ, .ref yg, .int (nI dn), .ref yw, .ref yc, .ref yv, .int (nI snt), .int (nI jd), .ref yr, .int (nI bn), .ref yC, .ref yD, .ref yF, .ref yS, .ref yV, .ref yH, .int th])), (yA, .inl (G.2.1, 14, .inl fA)), (yJ, .inl (G.2.1, 10, .inl fJ)), (yC, .inl (G.2.1, 300, .inl bc)), (yD, .inl (G.2.1, 300, .inl bd)), (yF, .inl (G.2.1, 300, .inl bf)), (yV, .inl (G.2.1, 140, .inl g1))] _ _ := w
            subst hr50_16
            refine lv_goto (tgt := 58) hx hb dX6_finds_53 (by decide) ?_
            refine lv_istore (lv' := [(5, .int (sA fA nA g1 a0 i0)), (0, .ref M), (1, .int (nI p0)), (2, .int d), (3, .int (nI a0)), (4, .int (nI i0))]) hx hb dX6_finds_58 hl (by decide) rfl (fun ls hl => ?_)
            refine lv_aload_n hx hb dX6_finds_60 rfl (lv_at hl 1 rfl) ?_
            refine b_get X E w 0 rfl rfl 18 (by decide) iX6 (by decide +kernel) rfl rfl dX6_finds_61 ?_
            refine lv_bipush (v := nI 10) hx hb dX6_finds_64 (by decide) ?_
            refine lv_iload_n hx hb dX6_finds_66 rfl (lv_at hl 4 rfl) ?_
            refine lv_imul hx hb dX6_finds_67 ?_
            refine b_tp (show (nI 10) * (nI a0) = nI (10 * a0) from pk_mul 10 a0) ?_
            refine lv_iload hx hb dX6_finds_68 (lv_at hl 5 rfl) ?_
            refine lv_iadd hx hb dX6_finds_70 ?_
            refine b_tp (show (nI (10 * a0)) + (nI i0) = nI ((10 * a0) + i0) from nI_add (10 * a0) i0) ?_
            refine lv_iload hx hb dX6_finds_71 (lv_at hl 0 rfl) ?_
            refine lv_ldc (v := MIS) hx hb hown (hts (.constant RX6 86 (-2000000001)) (by decide +kernel)) dX6_finds_73 ?_
            refine lv_icmp_ne (tgt := 89) hx hb dX6_finds_75 (by decide) (fun c_75_17 => ?_) (fun c_75_17 => ?_)
            · have hn := Pz_step hTA hTJ hnA hnJ (by omega) (by omega) hz1 up1 (pk_us.trans (fy2 c42 c_75_17))
              refine lv_iload hx hb dX6_finds_89 (lv_at hl 0 rfl) ?_
              refine b_iast X E w (Or.inl (List.mem_of_getElem? (i := 0) rfl)) 6 rfl ((10 * a0) + i0) rfl (by omega) (by first | decide | omega) dX6_finds_91 (fun H locs w => ?_)
              have w : bSt G vwCl [yV] s [(M, .inr (6, [.int (nI td), .int (nI nA), .int (nI nJ), .ref yA, .ref yJ, .ref yg, .int (nI dn), .ref yw, .ref yc, .ref yv, .int (nI snt), .int (nI jd), .ref yr, .int (nI bn), .ref yC, .ref yD, .ref yF, .ref yS, .ref yV, .ref yH, .int th])), (yA, .inl (G.2.1, 14, .inl fA)), (yJ, .inl (G.2.1, 10, .inl fJ)), (yC, .inl (G.2.1, 300, .inl bc)), (yD, .inl (G.2.1, 300, .inl bd)), (yF, .inl (G.2.1, 300, .inl bf)), (yV, .inl (G.2.1, 140, .inl (upd g1 ((10 * a0) + i0) (sA fA nA g1 a0 i0))))] _ _ := w
              refine lv_iinc (v := (nI i0) - (nI 1)) (lv' := [(4, .int ((nI i0) - (nI 1))), (5, .int (sA fA nA g1 a0 i0)), (0, .ref M), (1, .int (nI p0)), (2, .int d), (3, .int (nI a0))]) hx hb dX6_finds_92 hl (k := 5) rfl (dec_i i0) (by decide) rfl (fun ls hl => ?_)
              refine lv_goto (tgt := 19) hx hb dX6_finds_95 (by decide) ?_
              exact ih19 _ _ _ ⟨i0, upd g1 ((10 * a0) + i0) (sA fA nA g1 a0 i0), (by omega), (by omega), hn, w, lv_sub hl [2, 3, 4, 5, 0] rfl⟩
            · have hn := Pz_step hTA hTJ hnA hnJ (by omega) (by omega) hz1 up1 (pk_us.trans (fy3 c42 c_75_17))
              refine lv_aload_n hx hb dX6_finds_78 rfl (lv_at hl 1 rfl) ?_
              refine lv_iload_n hx hb dX6_finds_79 rfl (lv_at hl 4 rfl) ?_
              refine lv_iload hx hb dX6_finds_80 (lv_at hl 5 rfl) ?_
              refine lv_iconst (v := nI 1) hx hb dX6_finds_82 (by decide) ?_
              refine b_calli w (va_runV (As := [.int (nI a0), .int (nI i0), .int (nI 1)]) (rest := [.int (nI ((10 * a0) + i0)), .ref yV]) X (c_X6_sumOf_J l hl0 G _ (M := M) (a := a0) (i := i0) (td := td) (nA := nA) (nJ := nJ) (yA := yA) (yJ := yJ) (yg := yg) (dn := dn) (yw := yw) (yc := yc) (yv := yv) (snt := snt) (jd := jd) (yr := yr) (bn := bn) (yC := yC) (yD := yD) (yF := yF) (yS := yS) (yV := yV) (yH := yH) (th := th) (fJ := fJ) (v := g1) (hnA := (by first | assumption | omega)) (hnJ := (by first | assumption | omega)) (ha := (by first | assumption | omega)) (hi := (by first | assumption | omega))) (cwV 3 hts gX6_finds_X6_sumOf rfl rfl rfl (by decide +kernel) ⟨Nat.le_of_ble_eq_true rfl, Nat.le_of_ble_eq_true rfl⟩) ⟨b_blind, b_recv E w (ci := 6) (q0 := 0) rfl rfl, (fun U9 hU9 hW9 => ⟨rfl, b_pre E Z w [0, 2, 6] (by decide) rfl b_nil U9 hU9 hW9⟩)⟩ rfl rfl hl.1 rfl (lv_room (Nat.le_of_ble_eq_true rfl)) dX6_finds_83 ⟨Nat.le_of_ble_eq_true rfl, Nat.le_of_ble_eq_true rfl⟩) b_nil [] (fun _ => rfl) rfl (fun r83_18 u83_18 H locs hr83_18 w => ?_)
              have w : bSt G vwCl [yV] s [(M, .inr (6, [.int (nI td), .int (nI nA), .int (nI nJ), .ref yA, .ref yJ, .ref yg, .int (nI dn), .ref yw, .ref yc, .ref yv, .int (nI snt), .int (nI jd), .ref yr, .int (nI bn), .ref yC, .ref yD, .ref yF, .ref yS, .ref yV, .ref yH, .int th])), (yA, .inl (G.2.1, 14, .inl fA)), (yJ, .inl (G.2.1, 10, .inl fJ)), (yC, .inl (G.2.1, 300, .inl bc)), (yD, .inl (G.2.1, 300, .inl bd)), (yF, .inl (G.2.1, 300, .inl bf)), (yV, .inl (G.2.1, 140, .inl g1))] _ _ := w
              subst hr83_18
              refine lv_goto (tgt := 91) hx hb dX6_finds_86 (by decide) ?_
              refine b_iast X E w (Or.inl (List.mem_of_getElem? (i := 0) rfl)) 6 rfl ((10 * a0) + i0) rfl (by omega) (by first | decide | omega) dX6_finds_91 (fun H locs w => ?_)
              have w : bSt G vwCl [yV] s [(M, .inr (6, [.int (nI td), .int (nI nA), .int (nI nJ), .ref yA, .ref yJ, .ref yg, .int (nI dn), .ref yw, .ref yc, .ref yv, .int (nI snt), .int (nI jd), .ref yr, .int (nI bn), .ref yC, .ref yD, .ref yF, .ref yS, .ref yV, .ref yH, .int th])), (yA, .inl (G.2.1, 14, .inl fA)), (yJ, .inl (G.2.1, 10, .inl fJ)), (yC, .inl (G.2.1, 300, .inl bc)), (yD, .inl (G.2.1, 300, .inl bd)), (yF, .inl (G.2.1, 300, .inl bf)), (yV, .inl (G.2.1, 140, .inl (upd g1 ((10 * a0) + i0) (sJ fJ nJ g1 a0 i0))))] _ _ := w
              refine lv_iinc (v := (nI i0) - (nI 1)) (lv' := [(4, .int ((nI i0) - (nI 1))), (5, .int (sA fA nA g1 a0 i0)), (0, .ref M), (1, .int (nI p0)), (2, .int d), (3, .int (nI a0))]) hx hb dX6_finds_92 hl (k := 5) rfl (dec_i i0) (by decide) rfl (fun ls hl => ?_)
              refine lv_goto (tgt := 19) hx hb dX6_finds_95 (by decide) ?_
              exact ih19 _ _ _ ⟨i0, upd g1 ((10 * a0) + i0) (sJ fJ nJ g1 a0 i0), (by omega), (by omega), hn, w, lv_sub hl [2, 3, 4, 5, 0] rfl⟩
