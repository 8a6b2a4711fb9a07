set_option maxHeartbeats 4000000 in
set_option maxRecDepth 100000 in
theorem c_X0_init (l : Launch) (hl0 : l.stackTraces = false) (G : bG) (sz : Nat) (h : Nat) : Met l yX0_init wsX0_init ({ frames := 1, cells := 1, slots := 56, locals := 14 }) (va_Pc [.ref h] (bPre G vwCl bNW bSW sz [(h, .inr (0, [.null]))] [h])) (va_Qv (fun (u : Nat → Nat) => True) (bCt G vwCl sz (fun (u : Nat → Nat) => (h, .inr (0, [.ref (u 0)]))) (fun (u : Nat → Nat) => [((u 0), .inl (G.2.2.1, 56, .inl (zB (fun _ => false))))])) (Aw [h] sz)) 1 56 (Aw [h] sz) := by
  refine Met.ofW (cc := cX0_init) (maxL := 1) (ret := none) (by decide) rfl ?_
  intro p e s m args below meth c s₁ B hml hv
  obtain ⟨rfl, hsz, hP, hD, E, Z⟩ := hv
  have hts := atoms_spec (ws := wsX0_init) B.pre
  have hown : s.vm.findClass RX0 = some m.cls := findClass_of_methodNamed B.named
  have X : CallFix p m c cX0_init 1 s _ wsX0_init RX0 := ⟨B.exec, B.bytes, hml, hown, hts⟩
  have hx := B.exec
  have hts2 : ∀ w, w ∈ wsX0_init → w ∈ wsX0_init := fun _ h9 => h9
  have hb := B.bytes
  have hr := B.returns
  have hlocks := B.notSynchronized
  have hin : meth.name = "<init>" := (name_of_methodNamed B.named B.method).1
  subst hsz
  have w : bSt G vwCl [] s [(h, .inr (0, [.null]))] s.heap [] := ⟨hP, va_S.rf, hD⟩
  have Z0 : bZ [] s := ⟨Z.1.narrow (fun q h => h.elim (fun h => nomatch h) Or.inr), Z.2.narrow (fun q h => h.elim (fun h => nomatch h) Or.inr)⟩
  have iX0 : ∀ w ∈ wsX00, w ∈ wsX0_init := by decide +kernel
  have hl := lv_entry ([.ref h]) (n := 1) (Nat.le_of_ble_eq_true rfl)
  rw [lg_entry_eq]
  generalize (lg_sl ([.ref h]) ++ List.replicate (1 - (lg_sl ([.ref h])).length) Slot.unset).toArray = ls at hl ⊢
  have hl : lv_has ls 1 [(0, .ref h)] := hl
  refine lv_aload_n hx hb dX0_init_0 rfl (lv_at hl 0 rfl) ?_
  refine W.objInit hx hb hown (hts (.methodLink RX0 3 objectInit) (by decide +kernel)) (hts (.instanceMethod objectInit) (by decide +kernel)) (hts (.code objectInit ⟨#[0xb1]⟩ 1 none) (by decide +kernel)) rfl (by rw [hml]; exact hl.1) rfl dX0_init_1 (Nat.le_of_ble_eq_true rfl) (Nat.le_of_ble_eq_true rfl) ?_
  refine lv_aload_n hx hb dX0_init_4 rfl (lv_at hl 0 rfl) ?_
  refine lv_bipush (v := nI 56) hx hb dX0_init_5 (by decide) ?_
  have w := b_wide [h] b_nil w
  refine b_newZ X E w (hts2 (.arrayClass .boolean) (by decide +kernel)) 56 (by decide) (by decide) (Nat.le_of_ble_eq_true rfl) (Nat.le_of_ble_eq_true rfl) (Nat.le_of_ble_eq_true rfl) dX0_init_7 (fun q7 H hq7 w => ?_)
  have w : bSt G vwCl [h] s [(h, .inr (0, [.null])), (q7, .inl (G.2.2.1, 56, .inl (zB (fun _ => false))))] _ _ := w
  refine b_putF (ty := .array .boolean) X E w (Or.inl (List.mem_of_getElem? (i := 0) rfl)) hin 0 rfl rfl 0 (by decide) iX0 tyX0 tyX0_ok nmX0 (by decide +kernel) rfl rfl rfl (by decide +kernel) rfl rfl (Nat.le_of_ble_eq_true rfl) dX0_init_9 (fun H locs w => ?_)
  have w : bSt G vwCl [h] s [(h, .inr (0, [.ref q7])), (q7, .inl (G.2.2.1, 56, .inl (zB (fun _ => false))))] _ _ := w
  exact W.vret hx hb hr (fun t9 ht9 hW9 => ⟨⟨(fun k9 => [q7].getD k9 0), rfl, trivial, by show va_P G.1 vwCl [(h, .inr (0, [.ref q7])), (q7, .inl (G.2.2.1, 56, .inl (zB (fun _ => false))))] t9.heap; rw [ht9]; exact w.1, w.2.2, (b_inc2 hq7 b_inn2)⟩, w.2.1.F ht9⟩) w.2.1.2.2 dX0_init_12
set_option maxHeartbeats 4000000 in
set_option maxRecDepth 100000 in
theorem c_X2_init (l : Launch) (hl0 : l.stackTraces = false) (G : bG) (sz : Nat) (h : Nat) : Met l yX2_init wsX2_init ({ frames := 1, cells := 4, slots := 64, locals := 14 }) (va_Pc [.ref h] (bPre G vwCl bNW bSW sz [(h, .inr (2, [.null, .null, .null, .null, .int (nI 0)]))] [h])) (va_Qv (fun (u : Nat → Nat) => True) (bCt G vwCl sz (fun (u : Nat → Nat) => (h, .inr (2, [.ref (u 0), .ref (u 1), .ref (u 2), .ref (u 3), .int (nI 0)]))) (fun (u : Nat → Nat) => [((u 0), .inl (G.2.1, 16, .inl (fun _ => 0))), ((u 1), .inl (G.2.1, 16, .inl (fun _ => 0))), ((u 2), .inl (G.2.1, 16, .inl (fun _ => 0))), ((u 3), .inl (G.2.1, 16, .inl (fun _ => 0)))])) (Aw [h] sz)) 4 64 (Aw [h] sz) := by
  refine Met.ofW (cc := cX2_init) (maxL := 1) (ret := none) (by decide) rfl ?_
  intro p e s m args below meth c s₁ B hml hv
  obtain ⟨rfl, hsz, hP, hD, E, Z⟩ := hv
  have hts := atoms_spec (ws := wsX2_init) B.pre
  have hown : s.vm.findClass RX2 = some m.cls := findClass_of_methodNamed B.named
  have X : CallFix p m c cX2_init 1 s _ wsX2_init RX2 := ⟨B.exec, B.bytes, hml, hown, hts⟩
  have hx := B.exec
  have hts2 : ∀ w, w ∈ wsX2_init → w ∈ wsX2_init := fun _ h9 => h9
  have hb := B.bytes
  have hr := B.returns
  have hlocks := B.notSynchronized
  have hin : meth.name = "<init>" := (name_of_methodNamed B.named B.method).1
  subst hsz
  have w : bSt G vwCl [] s [(h, .inr (2, [.null, .null, .null, .null, .int (nI 0)]))] s.heap [] := ⟨hP, va_S.rf, hD⟩
  have Z0 : bZ [] s := ⟨Z.1.narrow (fun q h => h.elim (fun h => nomatch h) Or.inr), Z.2.narrow (fun q h => h.elim (fun h => nomatch h) Or.inr)⟩
  have iX2 : ∀ w ∈ wsX20, w ∈ wsX2_init := by decide +kernel
  have hl := lv_entry ([.ref h]) (n := 1) (Nat.le_of_ble_eq_true rfl)
  rw [lg_entry_eq]
  generalize (lg_sl ([.ref h]) ++ List.replicate (1 - (lg_sl ([.ref h])).length) Slot.unset).toArray = ls at hl ⊢
  have hl : lv_has ls 1 [(0, .ref h)] := hl
  refine lv_aload_n hx hb dX2_init_0 rfl (lv_at hl 0 rfl) ?_
  refine W.objInit hx hb hown (hts (.methodLink RX2 3 objectInit) (by decide +kernel)) (hts (.instanceMethod objectInit) (by decide +kernel)) (hts (.code objectInit ⟨#[0xb1]⟩ 1 none) (by decide +kernel)) rfl (by rw [hml]; exact hl.1) rfl dX2_init_1 (Nat.le_of_ble_eq_true rfl) (Nat.le_of_ble_eq_true rfl) ?_
  refine lv_aload_n hx hb dX2_init_4 rfl (lv_at hl 0 rfl) ?_
  refine lv_bipush (v := nI 16) hx hb dX2_init_5 (by decide) ?_
  have w := b_wide [h] b_nil w
  refine b_newI X E w (hts2 (.arrayClass .int) (by decide +kernel)) 16 (by decide) (by decide) (Nat.le_of_ble_eq_true rfl) (Nat.le_of_ble_eq_true rfl) (Nat.le_of_ble_eq_true rfl) dX2_init_7 (fun q7 H hq7 w => ?_)
  have w : bSt G vwCl [h] s [(h, .inr (2, [.null, .null, .null, .null, .int (nI 0)])), (q7, .inl (G.2.1, 16, .inl (fun _ => 0)))] _ _ := w
  refine b_putF (ty := .array .int) X E w (Or.inl (List.mem_of_getElem? (i := 0) rfl)) hin 0 rfl rfl 0 (by decide) iX2 tyX2 tyX2_ok nmX2 (by decide +kernel) rfl rfl rfl (by decide +kernel) rfl rfl (Nat.le_of_ble_eq_true rfl) dX2_init_9 (fun H locs w => ?_)
  have w : bSt G vwCl [h] s [(h, .inr (2, [.ref q7, .null, .null, .null, .int (nI 0)])), (q7, .inl (G.2.1, 16, .inl (fun _ => 0)))] _ _ := w
  refine lv_aload_n hx hb dX2_init_12 rfl (lv_at hl 0 rfl) ?_
  refine lv_bipush (v := nI 16) hx hb dX2_init_13 (by decide) ?_
  refine b_newI X E w (hts2 (.arrayClass .int) (by decide +kernel)) 16 (by decide) (by decide) (Nat.le_of_ble_eq_true rfl) (Nat.le_of_ble_eq_true rfl) (Nat.le_of_ble_eq_true rfl) dX2_init_15 (fun q15 H hq15 w => ?_)
  have w : bSt G vwCl [h] s [(h, .inr (2, [.ref q7, .null, .null, .null, .int (nI 0)])), (q7, .inl (G.2.1, 16, .inl (fun _ => 0))), (q15, .inl (G.2.1, 16, .inl (fun _ => 0)))] _ _ := w
  refine b_putF (ty := .array .int) X E w (Or.inl (List.mem_of_getElem? (i := 0) rfl)) hin 0 rfl rfl 1 (by decide) iX2 tyX2 tyX2_ok nmX2 (by decide +kernel) rfl rfl rfl (by decide +kernel) rfl rfl (Nat.le_of_ble_eq_true rfl) dX2_init_17 (fun H locs w => ?_)
  have w : bSt G vwCl [h] s [(h, .inr (2, [.ref q7, .ref q15, .null, .null, .int (nI 0)])), (q7, .inl (G.2.1, 16, .inl (fun _ => 0))), (q15, .inl (G.2.1, 16, .inl (fun _ => 0)))] _ _ := w
  refine lv_aload_n hx hb dX2_init_20 rfl (lv_at hl 0 rfl) ?_
  refine lv_bipush (v := nI 16) hx hb dX2_init_21 (by decide) ?_
  refine b_newI X E w (hts2 (.arrayClass .int) (by decide +kernel)) 16 (by decide) (by decide) (Nat.le_of_ble_eq_true rfl) (Nat.le_of_ble_eq_true rfl) (Nat.le_of_ble_eq_true rfl) dX2_init_23 (fun q23 H hq23 w => ?_)
  have w : bSt G vwCl [h] s [(h, .inr (2, [.ref q7, .ref q15, .null, .null, .int (nI 0)])), (q7, .inl (G.2.1, 16, .inl (fun _ => 0))), (q15, .inl (G.2.1, 16, .inl (fun _ => 0))), (q23, .inl (G.2.1, 16, .inl (fun _ => 0)))] _ _ := w
  refine b_putF (ty := .array .int) X E w (Or.inl (List.mem_of_getElem? (i := 0) rfl)) hin 0 rfl rfl 2 (by decide) iX2 tyX2 tyX2_ok nmX2 (by decide +kernel) rfl rfl rfl (by decide +kernel) rfl rfl (Nat.le_of_ble_eq_true rfl) dX2_init_25 (fun H locs w => ?_)
  have w : bSt G vwCl [h] s [(h, .inr (2, [.ref q7, .ref q15, .ref q23, .null, .int (nI 0)])), (q7, .inl (G.2.1, 16, .inl (fun _ => 0))), (q15, .inl (G.2.1, 16, .inl (fun _ => 0))), (q23, .inl (G.2.1, 16, .inl (fun _ => 0)))] _ _ := w
  refine lv_aload_n hx hb dX2_init_28 rfl (lv_at hl 0 rfl) ?_
  refine lv_bipush (v := nI 16) hx hb dX2_init_29 (by decide) ?_
  refine b_newI X E w (hts2 (.arrayClass .int) (by decide +kernel)) 16 (by decide) (by decide) (Nat.le_of_ble_eq_true rfl) (Nat.le_of_ble_eq_true rfl) (Nat.le_of_ble_eq_true rfl) dX2_init_31 (fun q31 H hq31 w => ?_)
  have w : bSt G vwCl [h] s [(h, .inr (2, [.ref q7, .ref q15, .ref q23, .null, .int (nI 0)])), (q7, .inl (G.2.1, 16, .inl (fun _ => 0))), (q15, .inl (G.2.1, 16, .inl (fun _ => 0))), (q23, .inl (G.2.1, 16, .inl (fun _ => 0))), (q31, .inl (G.2.1, 16, .inl (fun _ => 0)))] _ _ := w
  refine b_putF (ty := .array .int) X E w (Or.inl (List.mem_of_getElem? (i := 0) rfl)) hin 0 rfl rfl 3 (by decide) iX2 tyX2 tyX2_ok nmX2 (by decide +kernel) rfl rfl rfl (by decide +kernel) rfl rfl (Nat.le_of_ble_eq_true rfl) dX2_init_33 (fun H locs w => ?_)
  have w : bSt G vwCl [h] s [(h, .inr (2, [.ref q7, .ref q15, .ref q23, .ref q31, .int (nI 0)])), (q7, .inl (G.2.1, 16, .inl (fun _ => 0))), (q15, .inl (G.2.1, 16, .inl (fun _ => 0))), (q23, .inl (G.2.1, 16, .inl (fun _ => 0))), (q31, .inl (G.2.1, 16, .inl (fun _ => 0)))] _ _ := w
  exact W.vret hx hb hr (fun t9 ht9 hW9 => ⟨⟨(fun k9 => [q7, q15, q23, q31].getD k9 0), rfl, trivial, by show va_P G.1 vwCl [(h, .inr (2, [.ref q7, .ref q15, .ref q23, .ref q31, .int (nI 0)])), (q7, .inl (G.2.1, 16, .inl (fun _ => 0))), (q15, .inl (G.2.1, 16, .inl (fun _ => 0))), (q23, .inl (G.2.1, 16, .inl (fun _ => 0))), (q31, .inl (G.2.1, 16, .inl (fun _ => 0)))] t9.heap; rw [ht9]; exact w.1, w.2.2, (b_inc2 hq7 (b_inc2 hq15 (b_inc2 hq23 (b_inc2 hq31 b_inn2))))⟩, w.2.1.F ht9⟩) w.2.1.2.2 dX2_init_36
set_option maxHeartbeats 4000000 in
set_option maxRecDepth 100000 in
theorem c_X3_init (l : Launch) (hl0 : l.stackTraces = false) (G : bG) (sz : Nat) (h : Nat) : Met l yX3_init wsX3_init ({ frames := 1, cells := 2, slots := 280, locals := 14 }) (va_Pc [.ref h] (bPre G vwCl bNW bSW sz [(h, .inr (3, [.null, .null]))] [h])) (va_Qv (fun (u : Nat → Nat) => True) (bCt G vwCl sz (fun (u : Nat → Nat) => (h, .inr (3, [.ref (u 0), .ref (u 1)]))) (fun (u : Nat → Nat) => [((u 0), .inl (G.2.1, 140, .inl (fun _ => 0))), ((u 1), .inl (G.2.2.1, 140, .inl (zB (fun _ => false))))])) (Aw [h] sz)) 2 280 (Aw [h] sz) := by
  refine Met.ofW (cc := cX3_init) (maxL := 1) (ret := none) (by decide) rfl ?_
  intro p e s m args below meth c s₁ B hml hv
  obtain ⟨rfl, hsz, hP, hD, E, Z⟩ := hv
  have hts := atoms_spec (ws := wsX3_init) B.pre
  have hown : s.vm.findClass RX3 = some m.cls := findClass_of_methodNamed B.named
  have X : CallFix p m c cX3_init 1 s _ wsX3_init RX3 := ⟨B.exec, B.bytes, hml, hown, hts⟩
  have hx := B.exec
  have hts2 : ∀ w, w ∈ wsX3_init → w ∈ wsX3_init := fun _ h9 => h9
  have hb := B.bytes
  have hr := B.returns
  have hlocks := B.notSynchronized
  have hin : meth.name = "<init>" := (name_of_methodNamed B.named B.method).1
  subst hsz
  have w : bSt G vwCl [] s [(h, .inr (3, [.null, .null]))] s.heap [] := ⟨hP, va_S.rf, hD⟩
  have Z0 : bZ [] s := ⟨Z.1.narrow (fun q h => h.elim (fun h => nomatch h) Or.inr), Z.2.narrow (fun q h => h.elim (fun h => nomatch h) Or.inr)⟩
  have iX3 : ∀ w ∈ wsX30, w ∈ wsX3_init := by decide +kernel
  have hl := lv_entry ([.ref h]) (n := 1) (Nat.le_of_ble_eq_true rfl)
  rw [lg_entry_eq]
  generalize (lg_sl ([.ref h]) ++ List.replicate (1 - (lg_sl ([.ref h])).length) Slot.unset).toArray = ls at hl ⊢
  have hl : lv_has ls 1 [(0, .ref h)] := hl
  refine lv_aload_n hx hb dX3_init_0 rfl (lv_at hl 0 rfl) ?_
  refine W.objInit hx hb hown (hts (.methodLink RX3 3 objectInit) (by decide +kernel)) (hts (.instanceMethod objectInit) (by decide +kernel)) (hts (.code objectInit ⟨#[0xb1]⟩ 1 none) (by decide +kernel)) rfl (by rw [hml]; exact hl.1) rfl dX3_init_1 (Nat.le_of_ble_eq_true rfl) (Nat.le_of_ble_eq_true rfl) ?_
  refine lv_aload_n hx hb dX3_init_4 rfl (lv_at hl 0 rfl) ?_
  refine lv_sipush (v := nI 140) hx hb dX3_init_5 (by decide) ?_
  have w := b_wide [h] b_nil w
  refine b_newI X E w (hts2 (.arrayClass .int) (by decide +kernel)) 140 (by decide) (by decide) (Nat.le_of_ble_eq_true rfl) (Nat.le_of_ble_eq_true rfl) (Nat.le_of_ble_eq_true rfl) dX3_init_8 (fun q8 H hq8 w => ?_)
  have w : bSt G vwCl [h] s [(h, .inr (3, [.null, .null])), (q8, .inl (G.2.1, 140, .inl (fun _ => 0)))] _ _ := w
  refine b_putF (ty := .array .int) X E w (Or.inl (List.mem_of_getElem? (i := 0) rfl)) hin 0 rfl rfl 0 (by decide) iX3 tyX3 tyX3_ok nmX3 (by decide +kernel) rfl rfl rfl (by decide +kernel) rfl rfl (Nat.le_of_ble_eq_true rfl) dX3_init_10 (fun H locs w => ?_)
  have w : bSt G vwCl [h] s [(h, .inr (3, [.ref q8, .null])), (q8, .inl (G.2.1, 140, .inl (fun _ => 0)))] _ _ := w
  refine lv_aload_n hx hb dX3_init_13 rfl (lv_at hl 0 rfl) ?_
  refine lv_sipush (v := nI 140) hx hb dX3_init_14 (by decide) ?_
  refine b_newZ X E w (hts2 (.arrayClass .boolean) (by decide +kernel)) 140 (by decide) (by decide) (Nat.le_of_ble_eq_true rfl) (Nat.le_of_ble_eq_true rfl) (Nat.le_of_ble_eq_true rfl) dX3_init_17 (fun q17 H hq17 w => ?_)
  have w : bSt G vwCl [h] s [(h, .inr (3, [.ref q8, .null])), (q8, .inl (G.2.1, 140, .inl (fun _ => 0))), (q17, .inl (G.2.2.1, 140, .inl (zB (fun _ => false))))] _ _ := w
  refine b_putF (ty := .array .boolean) X E w (Or.inl (List.mem_of_getElem? (i := 0) rfl)) hin 0 rfl rfl 1 (by decide) iX3 tyX3 tyX3_ok nmX3 (by decide +kernel) rfl rfl rfl (by decide +kernel) rfl rfl (Nat.le_of_ble_eq_true rfl) dX3_init_19 (fun H locs w => ?_)
  have w : bSt G vwCl [h] s [(h, .inr (3, [.ref q8, .ref q17])), (q8, .inl (G.2.1, 140, .inl (fun _ => 0))), (q17, .inl (G.2.2.1, 140, .inl (zB (fun _ => false))))] _ _ := w
  exact W.vret hx hb hr (fun t9 ht9 hW9 => ⟨⟨(fun k9 => [q8, q17].getD k9 0), rfl, trivial, by show va_P G.1 vwCl [(h, .inr (3, [.ref q8, .ref q17])), (q8, .inl (G.2.1, 140, .inl (fun _ => 0))), (q17, .inl (G.2.2.1, 140, .inl (zB (fun _ => false))))] t9.heap; rw [ht9]; exact w.1, w.2.2, (b_inc2 hq8 (b_inc2 hq17 b_inn2))⟩, w.2.1.F ht9⟩) w.2.1.2.2 dX3_init_22
set_option maxHeartbeats 4000000 in
set_option maxRecDepth 100000 in
theorem c_X1_init (l : Launch) (hl0 : l.stackTraces = false) (G : bG) (sz : Nat) (h : Nat) : Met l yX1_init wsX1_init ({ frames := 1, cells := 7, slots := 7620, locals := 23 }) (va_Pc [.ref h] (bPre G vwCl bNW bSW sz [(h, .inr (1, [.null, .null, .null, .null, .null, .null, .null, .int (nI 0)]))] [h])) (va_Qv (fun (u : Nat → Nat) => True) (bCt G vwCl sz (fun (u : Nat → Nat) => (h, .inr (1, [.ref (u 0), .ref (u 1), .ref (u 2), .ref (u 3), .ref (u 4), .ref (u 5), .ref (u 6), .int (nI 0)]))) (fun (u : Nat → Nat) => [((u 0), .inl (G.2.1, 1680, .inl (fillF (fun _ => 0) MIS 1680))), ((u 1), .inl (G.2.1, 1680, .inl (fillF (fun _ => 0) MIS 1680))), ((u 2), .inl (G.2.1, 1680, .inl (fun _ => 0))), ((u 3), .inl (G.2.1, 1680, .inl (fun _ => 0))), ((u 4), .inl (G.2.1, 300, .inl (fun _ => 0))), ((u 5), .inl (G.2.1, 300, .inl (fun _ => 0))), ((u 6), .inl (G.2.1, 300, .inl (fun _ => 0)))])) (Aw [h] sz)) 7 7620 (Aw [h] sz) := by
  refine Met.ofW (cc := cX1_init) (maxL := 1) (ret := none) (by decide) rfl ?_
  intro p e s m args below meth c s₁ B hml hv
  obtain ⟨rfl, hsz, hP, hD, E, Z⟩ := hv
  have hts := atoms_spec (ws := wsX1_init) B.pre
  have hown : s.vm.findClass RX1 = some m.cls := findClass_of_methodNamed B.named
  have X : CallFix p m c cX1_init 1 s _ wsX1_init RX1 := ⟨B.exec, B.bytes, hml, hown, hts⟩
  have hx := B.exec
  have hts2 : ∀ w, w ∈ wsX1_init → w ∈ wsX1_init := fun _ h9 => h9
  have hb := B.bytes
  have hr := B.returns
  have hlocks := B.notSynchronized
  have hin : meth.name = "<init>" := (name_of_methodNamed B.named B.method).1
  subst hsz
  have w : bSt G vwCl [] s [(h, .inr (1, [.null, .null, .null, .null, .null, .null, .null, .int (nI 0)]))] s.heap [] := ⟨hP, va_S.rf, hD⟩
  have Z0 : bZ [] s := ⟨Z.1.narrow (fun q h => h.elim (fun h => nomatch h) Or.inr), Z.2.narrow (fun q h => h.elim (fun h => nomatch h) Or.inr)⟩
  have iX1 : ∀ w ∈ wsX10, w ∈ wsX1_init := by decide +kernel
  have hl := lv_entry ([.ref h]) (n := 1) (Nat.le_of_ble_eq_true rfl)
  rw [lg_entry_eq]
  generalize (lg_sl ([.ref h]) ++ List.replicate (1 - (lg_sl ([.ref h])).length) Slot.unset).toArray = ls at hl ⊢
  have hl : lv_has ls 1 [(0, .ref h)] := hl
  refine lv_aload_n hx hb dX1_init_0 rfl (lv_at hl 0 rfl) ?_
  refine W.objInit hx hb hown (hts (.methodLink RX1 3 objectInit) (by decide +kernel)) (hts (.instanceMethod objectInit) (by decide +kernel)) (hts (.code objectInit ⟨#[0xb1]⟩ 1 none) (by decide +kernel)) rfl (by rw [hml]; exact hl.1) rfl dX1_init_1 (Nat.le_of_ble_eq_true rfl) (Nat.le_of_ble_eq_true rfl) ?_
  refine lv_aload_n hx hb dX1_init_4 rfl (lv_at hl 0 rfl) ?_
  refine lv_sipush (v := nI 1680) hx hb dX1_init_5 (by decide) ?_
  have w := b_wide [h] b_nil w
  refine b_newI X E w (hts2 (.arrayClass .int) (by decide +kernel)) 1680 (by decide) (by decide) (Nat.le_of_ble_eq_true rfl) (Nat.le_of_ble_eq_true rfl) (Nat.le_of_ble_eq_true rfl) dX1_init_8 (fun q8 H hq8 w => ?_)
  have w : bSt G vwCl [h] s [(h, .inr (1, [.null, .null, .null, .null, .null, .null, .null, .int (nI 0)])), (q8, .inl (G.2.1, 1680, .inl (fun _ => 0)))] _ _ := w
  refine b_putF (ty := .array .int) X E w (Or.inl (List.mem_of_getElem? (i := 0) rfl)) hin 0 rfl rfl 0 (by decide) iX1 tyX1 tyX1_ok nmX1 (by decide +kernel) rfl rfl rfl (by decide +kernel) rfl rfl (Nat.le_of_ble_eq_true rfl) dX1_init_10 (fun H locs w => ?_)
  have w : bSt G vwCl [h] s [(h, .inr (1, [.ref q8, .null, .null, .null, .null, .null, .null, .int (nI 0)])), (q8, .inl (G.2.1, 1680, .inl (fun _ => 0)))] _ _ := w
  refine lv_aload_n hx hb dX1_init_13 rfl (lv_at hl 0 rfl) ?_
  refine lv_sipush (v := nI 1680) hx hb dX1_init_14 (by decide) ?_
  refine b_newI X E w (hts2 (.arrayClass .int) (by decide +kernel)) 1680 (by decide) (by decide) (Nat.le_of_ble_eq_true rfl) (Nat.le_of_ble_eq_true rfl) (Nat.le_of_ble_eq_true rfl) dX1_init_17 (fun q17 H hq17 w => ?_)
  have w : bSt G vwCl [h] s [(h, .inr (1, [.ref q8, .null, .null, .null, .null, .null, .null, .int (nI 0)])), (q8, .inl (G.2.1, 1680, .inl (fun _ => 0))), (q17, .inl (G.2.1, 1680, .inl (fun _ => 0)))] _ _ := w
  refine b_putF (ty := .array .int) X E w (Or.inl (List.mem_of_getElem? (i := 0) rfl)) hin 0 rfl rfl 1 (by decide) iX1 tyX1 tyX1_ok nmX1 (by decide +kernel) rfl rfl rfl (by decide +kernel) rfl rfl (Nat.le_of_ble_eq_true rfl) dX1_init_19 (fun H locs w => ?_)
  have w : bSt G vwCl [h] s [(h, .inr (1, [.ref q8, .ref q17, .null, .null, .null, .null, .null, .int (nI 0)])), (q8, .inl (G.2.1, 1680, .inl (fun _ => 0))), (q17, .inl (G.2.1, 1680, .inl (fun _ => 0)))] _ _ := w
  refine lv_aload_n hx hb dX1_init_22 rfl (lv_at hl 0 rfl) ?_
  refine lv_sipush (v := nI 1680) hx hb dX1_init_23 (by decide) ?_
  refine b_newI X E w (hts2 (.arrayClass .int) (by decide +kernel)) 1680 (by decide) (by decide) (Nat.le_of_ble_eq_true rfl) (Nat.le_of_ble_eq_true rfl) (Nat.le_of_ble_eq_true rfl) dX1_init_26 (fun q26 H hq26 w => ?_)
  have w : bSt G vwCl [h] s [(h, .inr (1, [.ref q8, .ref q17, .null, .null, .null, .null, .null, .int (nI 0)])), (q8, .inl (G.2.1, 1680, .inl (fun _ => 0))), (q17, .inl (G.2.1, 1680, .inl (fun _ => 0))), (q26, .inl (G.2.1, 1680, .inl (fun _ => 0)))] _ _ := w
  refine b_putF (ty := .array .int) X E w (Or.inl (List.mem_of_getElem? (i := 0) rfl)) hin 0 rfl rfl 2 (by decide) iX1 tyX1 tyX1_ok nmX1 (by decide +kernel) rfl rfl rfl (by decide +kernel) rfl rfl (Nat.le_of_ble_eq_true rfl) dX1_init_28 (fun H locs w => ?_)
  have w : bSt G vwCl [h] s [(h, .inr (1, [.ref q8, .ref q17, .ref q26, .null, .null, .null, .null, .int (nI 0)])), (q8, .inl (G.2.1, 1680, .inl (fun _ => 0))), (q17, .inl (G.2.1, 1680, .inl (fun _ => 0))), (q26, .inl (G.2.1, 1680, .inl (fun _ => 0)))] _ _ := w
  refine lv_aload_n hx hb dX1_init_31 rfl (lv_at hl 0 rfl) ?_
  refine lv_sipush (v := nI 1680) hx hb dX1_init_32 (by decide) ?_
  refine b_newI X E w (hts2 (.arrayClass .int) (by decide +kernel)) 1680 (by decide) (by decide) (Nat.le_of_ble_eq_true rfl) (Nat.le_of_ble_eq_true rfl) (Nat.le_of_ble_eq_true rfl) dX1_init_35 (fun q35 H hq35 w => ?_)
  have w : bSt G vwCl [h] s [(h, .inr (1, [.ref q8, .ref q17, .ref q26, .null, .null, .null, .null, .int (nI 0)])), (q8, .inl (G.2.1, 1680, .inl (fun _ => 0))), (q17, .inl (G.2.1, 1680, .inl (fun _ => 0))), (q26, .inl (G.2.1, 1680, .inl (fun _ => 0))), (q35, .inl (G.2.1, 1680, .inl (fun _ => 0)))] _ _ := w
  refine b_putF (ty := .array .int) X E w (Or.inl (List.mem_of_getElem? (i := 0) rfl)) hin 0 rfl rfl 3 (by decide) iX1 tyX1 tyX1_ok nmX1 (by decide +kernel) rfl rfl rfl (by decide +kernel) rfl rfl (Nat.le_of_ble_eq_true rfl) dX1_init_37 (fun H locs w => ?_)
  have w : bSt G vwCl [h] s [(h, .inr (1, [.ref q8, .ref q17, .ref q26, .ref q35, .null, .null, .null, .int (nI 0)])), (q8, .inl (G.2.1, 1680, .inl (fun _ => 0))), (q17, .inl (G.2.1, 1680, .inl (fun _ => 0))), (q26, .inl (G.2.1, 1680, .inl (fun _ => 0))), (q35, .inl (G.2.1, 1680, .inl (fun _ => 0)))] _ _ := w
  refine lv_aload_n hx hb dX1_init_40 rfl (lv_at hl 0 rfl) ?_
  refine lv_sipush (v := nI 300) hx hb dX1_init_41 (by decide) ?_
  refine b_newI X E w (hts2 (.arrayClass .int) (by decide +kernel)) 300 (by decide) (by decide) (Nat.le_of_ble_eq_true rfl) (Nat.le_of_ble_eq_true rfl) (Nat.le_of_ble_eq_true rfl) dX1_init_44 (fun q44 H hq44 w => ?_)
  have w : bSt G vwCl [h] s [(h, .inr (1, [.ref q8, .ref q17, .ref q26, .ref q35, .null, .null, .null, .int (nI 0)])), (q8, .inl (G.2.1, 1680, .inl (fun _ => 0))), (q17, .inl (G.2.1, 1680, .inl (fun _ => 0))), (q26, .inl (G.2.1, 1680, .inl (fun _ => 0))), (q35, .inl (G.2.1, 1680, .inl (fun _ => 0))), (q44, .inl (G.2.1, 300, .inl (fun _ => 0)))] _ _ := w
  refine b_putF (ty := .array .int) X E w (Or.inl (List.mem_of_getElem? (i := 0) rfl)) hin 0 rfl rfl 4 (by decide) iX1 tyX1 tyX1_ok nmX1 (by decide +kernel) rfl rfl rfl (by decide +kernel) rfl rfl (Nat.le_of_ble_eq_true rfl) dX1_init_46 (fun H locs w => ?_)
  have w : bSt G vwCl [h] s [(h, .inr (1, [.ref q8, .ref q17, .ref q26, .ref q35, .ref q44, .null, .null, .int (nI 0)])), (q8, .inl (G.2.1, 1680, .inl (fun _ => 0))), (q17, .inl (G.2.1, 1680, .inl (fun _ => 0))), (q26, .inl (G.2.1, 1680, .inl (fun _ => 0))), (q35, .inl (G.2.1, 1680, .inl (fun _ => 0))), (q44, .inl (G.2.1, 300, .inl (fun _ => 0)))] _ _ := w
  refine lv_aload_n hx hb dX1_init_49 rfl (lv_at hl 0 rfl) ?_
  refine lv_sipush (v := nI 300) hx hb dX1_init_50 (by decide) ?_
  refine b_newI X E w (hts2 (.arrayClass .int) (by decide +kernel)) 300 (by decide) (by decide) (Nat.le_of_ble_eq_true rfl) (Nat.le_of_ble_eq_true rfl) (Nat.le_of_ble_eq_true rfl) dX1_init_53 (fun q53 H hq53 w => ?_)
  have w : bSt G vwCl [h] s [(h, .inr (1, [.ref q8, .ref q17, .ref q26, .ref q35, .ref q44, .null, .null, .int (nI 0)])), (q8, .inl (G.2.1, 1680, .inl (fun _ => 0))), (q17, .inl (G.2.1, 1680, .inl (fun _ => 0))), (q26, .inl (G.2.1, 1680, .inl (fun _ => 0))), (q35, .inl (G.2.1, 1680, .inl (fun _ => 0))), (q44, .inl (G.2.1, 300, .inl (fun _ => 0))), (q53, .inl (G.2.1, 300, .inl (fun _ => 0)))] _ _ := w
  refine b_putF (ty := .array .int) X E w (Or.inl (List.mem_of_getElem? (i := 0) rfl)) hin 0 rfl rfl 5 (by decide) iX1 tyX1 tyX1_ok nmX1 (by decide +kernel) rfl rfl rfl (by decide +kernel) rfl rfl (Nat.le_of_ble_eq_true rfl) dX1_init_55 (fun H locs w => ?_)
  have w : bSt G vwCl [h] s [(h, .inr (1, [.ref q8, .ref q17, .ref q26, .ref q35, .ref q44, .ref q53, .null, .int (nI 0)])), (q8, .inl (G.2.1, 1680, .inl (fun _ => 0))), (q17, .inl (G.2.1, 1680, .inl (fun _ => 0))), (q26, .inl (G.2.1, 1680, .inl (fun _ => 0))), (q35, .inl (G.2.1, 1680, .inl (fun _ => 0))), (q44, .inl (G.2.1, 300, .inl (fun _ => 0))), (q53, .inl (G.2.1, 300, .inl (fun _ => 0)))] _ _ := w
  refine lv_aload_n hx hb dX1_init_58 rfl (lv_at hl 0 rfl) ?_
  refine lv_sipush (v := nI 300) hx hb dX1_init_59 (by decide) ?_
  refine b_newI X E w (hts2 (.arrayClass .int) (by decide +kernel)) 300 (by decide) (by decide) (Nat.le_of_ble_eq_true rfl) (Nat.le_of_ble_eq_true rfl) (Nat.le_of_ble_eq_true rfl) dX1_init_62 (fun q62 H hq62 w => ?_)
  have w : bSt G vwCl [h] s [(h, .inr (1, [.ref q8, .ref q17, .ref q26, .ref q35, .ref q44, .ref q53, .null, .int (nI 0)])), (q8, .inl (G.2.1, 1680, .inl (fun _ => 0))), (q17, .inl (G.2.1, 1680, .inl (fun _ => 0))), (q26, .inl (G.2.1, 1680, .inl (fun _ => 0))), (q35, .inl (G.2.1, 1680, .inl (fun _ => 0))), (q44, .inl (G.2.1, 300, .inl (fun _ => 0))), (q53, .inl (G.2.1, 300, .inl (fun _ => 0))), (q62, .inl (G.2.1, 300, .inl (fun _ => 0)))] _ _ := w
  refine b_putF (ty := .array .int) X E w (Or.inl (List.mem_of_getElem? (i := 0) rfl)) hin 0 rfl rfl 6 (by decide) iX1 tyX1 tyX1_ok nmX1 (by decide +kernel) rfl rfl rfl (by decide +kernel) rfl rfl (Nat.le_of_ble_eq_true rfl) dX1_init_64 (fun H locs w => ?_)
  have w : bSt G vwCl [h] s [(h, .inr (1, [.ref q8, .ref q17, .ref q26, .ref q35, .ref q44, .ref q53, .ref q62, .int (nI 0)])), (q8, .inl (G.2.1, 1680, .inl (fun _ => 0))), (q17, .inl (G.2.1, 1680, .inl (fun _ => 0))), (q26, .inl (G.2.1, 1680, .inl (fun _ => 0))), (q35, .inl (G.2.1, 1680, .inl (fun _ => 0))), (q44, .inl (G.2.1, 300, .inl (fun _ => 0))), (q53, .inl (G.2.1, 300, .inl (fun _ => 0))), (q62, .inl (G.2.1, 300, .inl (fun _ => 0)))] _ _ := w
  refine lv_aload_n hx hb dX1_init_67 rfl (lv_at hl 0 rfl) ?_
  refine b_get X E w 0 rfl rfl 0 (by decide) iX1 (by decide +kernel) rfl rfl dX1_init_68 ?_
  refine lv_ldc (v := MIS) hx hb hown (hts (.constant RX1 33 (-2000000001)) (by decide +kernel)) dX1_init_71 ?_
  refine b_callv w (va_runS (As := [.ref q8, .int MIS]) (rest := []) X (c_J7_fill_53178 l hl0 G _ (q := q8) (x := MIS) (n := 1680) (f := (fun _ => 0)) (hn := (by first | assumption | omega))) (va_cwS 2 hts gX1_init_J7_fill_53178 rfl rfl rfl (by decide +kernel) ⟨Nat.le_of_ble_eq_true rfl, Nat.le_of_ble_eq_true rfl⟩) ⟨b_blind, (fun U9 hU9 hW9 => ⟨rfl, b_pre E Z w [1] (by decide) rfl (b_inc (Or.inr hq8) b_inn) U9 hU9 hW9⟩)⟩ rfl rfl hl.1 rfl (lv_room (Nat.le_of_ble_eq_true rfl)) dX1_init_73 ⟨Nat.le_of_ble_eq_true rfl, Nat.le_of_ble_eq_true rfl⟩) (b_inc (Or.inr hq8) b_inn) [1] (fun _ => rfl) rfl (fun u73_3 H locs hr73_3 w => ?_)
  have w : bSt G vwCl [h] s [(h, .inr (1, [.ref q8, .ref q17, .ref q26, .ref q35, .ref q44, .ref q53, .ref q62, .int (nI 0)])), (q8, .inl (G.2.1, 1680, .inl (fillF (fun _ => 0) MIS 1680))), (q17, .inl (G.2.1, 1680, .inl (fun _ => 0))), (q26, .inl (G.2.1, 1680, .inl (fun _ => 0))), (q35, .inl (G.2.1, 1680, .inl (fun _ => 0))), (q44, .inl (G.2.1, 300, .inl (fun _ => 0))), (q53, .inl (G.2.1, 300, .inl (fun _ => 0))), (q62, .inl (G.2.1, 300, .inl (fun _ => 0)))] _ _ := w
  refine lv_aload_n hx hb dX1_init_76 rfl (lv_at hl 0 rfl) ?_
  refine b_get X E w 0 rfl rfl 1 (by decide) iX1 (by decide +kernel) rfl rfl dX1_init_77 ?_
  refine lv_ldc (v := MIS) hx hb hown (hts (.constant RX1 33 (-2000000001)) (by decide +kernel)) dX1_init_80 ?_
  refine b_callv w (va_runS (As := [.ref q17, .int MIS]) (rest := []) X (c_J7_fill_53178 l hl0 G _ (q := q17) (x := MIS) (n := 1680) (f := (fun _ => 0)) (hn := (by first | assumption | omega))) (va_cwS 2 hts gX1_init_J7_fill_53178 rfl rfl rfl (by decide +kernel) ⟨Nat.le_of_ble_eq_true rfl, Nat.le_of_ble_eq_true rfl⟩) ⟨b_blind, (fun U9 hU9 hW9 => ⟨rfl, b_pre E Z w [2] (by decide) rfl (b_inc (Or.inr hq17) b_inn) U9 hU9 hW9⟩)⟩ rfl rfl hl.1 rfl (lv_room (Nat.le_of_ble_eq_true rfl)) dX1_init_82 ⟨Nat.le_of_ble_eq_true rfl, Nat.le_of_ble_eq_true rfl⟩) (b_inc (Or.inr hq17) b_inn) [2] (fun _ => rfl) rfl (fun u82_4 H locs hr82_4 w => ?_)
  have w : bSt G vwCl [h] s [(h, .inr (1, [.ref q8, .ref q17, .ref q26, .ref q35, .ref q44, .ref q53, .ref q62, .int (nI 0)])), (q8, .inl (G.2.1, 1680, .inl (fillF (fun _ => 0) MIS 1680))), (q17, .inl (G.2.1, 1680, .inl (fillF (fun _ => 0) MIS 1680))), (q26, .inl (G.2.1, 1680, .inl (fun _ => 0))), (q35, .inl (G.2.1, 1680, .inl (fun _ => 0))), (q44, .inl (G.2.1, 300, .inl (fun _ => 0))), (q53, .inl (G.2.1, 300, .inl (fun _ => 0))), (q62, .inl (G.2.1, 300, .inl (fun _ => 0)))] _ _ := w
  exact W.vret hx hb hr (fun t9 ht9 hW9 => ⟨⟨(fun k9 => [q8, q17, q26, q35, q44, q53, q62].getD k9 0), rfl, trivial, by show va_P G.1 vwCl [(h, .inr (1, [.ref q8, .ref q17, .ref q26, .ref q35, .ref q44, .ref q53, .ref q62, .int (nI 0)])), (q8, .inl (G.2.1, 1680, .inl (fillF (fun _ => 0) MIS 1680))), (q17, .inl (G.2.1, 1680, .inl (fillF (fun _ => 0) MIS 1680))), (q26, .inl (G.2.1, 1680, .inl (fun _ => 0))), (q35, .inl (G.2.1, 1680, .inl (fun _ => 0))), (q44, .inl (G.2.1, 300, .inl (fun _ => 0))), (q53, .inl (G.2.1, 300, .inl (fun _ => 0))), (q62, .inl (G.2.1, 300, .inl (fun _ => 0)))] t9.heap; rw [ht9]; exact w.1, w.2.2, (b_inc2 hq8 (b_inc2 hq17 (b_inc2 hq26 (b_inc2 hq35 (b_inc2 hq44 (b_inc2 hq53 (b_inc2 hq62 b_inn2)))))))⟩, w.2.1.F ht9⟩) w.2.1.2.2 dX1_init_85
set_option maxHeartbeats 4000000 in
set_option maxRecDepth 100000 in
theorem c_X4_init_A (l : Launch) (hl0 : l.stackTraces = false) (G : bG) (sz : Nat) (h : Nat) : Met l yX4_init wsX4_init ({ frames := 1, cells := 1, slots := 14, locals := 14 }) (va_Pc [.ref h, .int (nI 14), .int (nI 10)] (bPre G vwCl bNW bSW sz [(h, .inr (4, [.null, .int (nI 0), .int (nI 0)]))] [h])) (va_Qv (fun (u : Nat → Nat) => True) (bCt G vwCl sz (fun (u : Nat → Nat) => (h, .inr (4, [.ref (u 0), .int (nI 10), .int (nI 0)]))) (fun (u : Nat → Nat) => [((u 0), .inl (G.2.1, 14, .inl (fun _ => 0)))])) (Aw [h] sz)) 1 14 (Aw [h] sz) := by
  refine Met.ofW (cc := cX4_init) (maxL := 3) (ret := none) (by decide) rfl ?_
  intro p e s m args below meth c s₁ B hml hv
  obtain ⟨rfl, hsz, hP, hD, E, Z⟩ := hv
  have hts := atoms_spec (ws := wsX4_init) B.pre
  have hown : s.vm.findClass RX4 = some m.cls := findClass_of_methodNamed B.named
  have X : CallFix p m c cX4_init 3 s _ wsX4_init RX4 := ⟨B.exec, B.bytes, hml, hown, hts⟩
  have hx := B.exec
  have hts2 : ∀ w, w ∈ wsX4_init → w ∈ wsX4_init := fun _ h9 => h9
  have hb := B.bytes
  have hr := B.returns
  have hlocks := B.notSynchronized
  have hin : meth.name = "<init>" := (name_of_methodNamed B.named B.method).1
  subst hsz
  have w : bSt G vwCl [] s [(h, .inr (4, [.null, .int (nI 0), .int (nI 0)]))] s.heap [] := ⟨hP, va_S.rf, hD⟩
  have Z0 : bZ [] s := ⟨Z.1.narrow (fun q h => h.elim (fun h => nomatch h) Or.inr), Z.2.narrow (fun q h => h.elim (fun h => nomatch h) Or.inr)⟩
  have iX4 : ∀ w ∈ wsX40, w ∈ wsX4_init := by decide +kernel
  have hl := lv_entry ([.ref h, .int (nI 14), .int (nI 10)]) (n := 3) (Nat.le_of_ble_eq_true rfl)
  rw [lg_entry_eq]
  generalize (lg_sl ([.ref h, .int (nI 14), .int (nI 10)]) ++ List.replicate (3 - (lg_sl ([.ref h, .int (nI 14), .int (nI 10)])).length) Slot.unset).toArray = ls at hl ⊢
  have hl : lv_has ls 3 [(0, .ref h), (1, .int (nI 14)), (2, .int (nI 10))] := hl
  refine lv_aload_n hx hb dX4_init_0 rfl (lv_at hl 0 rfl) ?_
  refine W.objInit hx hb hown (hts (.methodLink RX4 1 objectInit) (by decide +kernel)) (hts (.instanceMethod objectInit) (by decide +kernel)) (hts (.code objectInit ⟨#[0xb1]⟩ 1 none) (by decide +kernel)) rfl (by rw [hml]; exact hl.1) rfl dX4_init_1 (Nat.le_of_ble_eq_true rfl) (Nat.le_of_ble_eq_true rfl) ?_
  refine lv_aload_n hx hb dX4_init_4 rfl (lv_at hl 0 rfl) ?_
  refine lv_iload_n hx hb dX4_init_5 rfl (lv_at hl 1 rfl) ?_
  have w := b_wide [h] b_nil w
  refine b_newI X E w (hts2 (.arrayClass .int) (by decide +kernel)) 14 (by decide) (by decide) (Nat.le_of_ble_eq_true rfl) (Nat.le_of_ble_eq_true rfl) (Nat.le_of_ble_eq_true rfl) dX4_init_6 (fun q6 H hq6 w => ?_)
  have w : bSt G vwCl [h] s [(h, .inr (4, [.null, .int (nI 0), .int (nI 0)])), (q6, .inl (G.2.1, 14, .inl (fun _ => 0)))] _ _ := w
  refine b_putF (ty := .array .int) X E w (Or.inl (List.mem_of_getElem? (i := 0) rfl)) hin 0 rfl rfl 0 (by decide) iX4 tyX4 tyX4_ok nmX4 (by decide +kernel) rfl rfl rfl (by decide +kernel) rfl rfl (Nat.le_of_ble_eq_true rfl) dX4_init_8 (fun H locs w => ?_)
  have w : bSt G vwCl [h] s [(h, .inr (4, [.ref q6, .int (nI 0), .int (nI 0)])), (q6, .inl (G.2.1, 14, .inl (fun _ => 0)))] _ _ := w
  refine lv_aload_n hx hb dX4_init_11 rfl (lv_at hl 0 rfl) ?_
  refine lv_iload_n hx hb dX4_init_12 rfl (lv_at hl 2 rfl) ?_
  refine b_putF (ty := .int) X E w (Or.inl (List.mem_of_getElem? (i := 0) rfl)) hin 0 rfl rfl 1 (by decide) iX4 tyX4 tyX4_ok nmX4 (by decide +kernel) rfl rfl rfl (by decide +kernel) rfl rfl (Nat.le_of_ble_eq_true rfl) dX4_init_13 (fun H locs w => ?_)
  have w : bSt G vwCl [h] s [(h, .inr (4, [.ref q6, .int (nI 10), .int (nI 0)])), (q6, .inl (G.2.1, 14, .inl (fun _ => 0)))] _ _ := w
  exact W.vret hx hb hr (fun t9 ht9 hW9 => ⟨⟨(fun k9 => [q6].getD k9 0), rfl, trivial, by show va_P G.1 vwCl [(h, .inr (4, [.ref q6, .int (nI 10), .int (nI 0)])), (q6, .inl (G.2.1, 14, .inl (fun _ => 0)))] t9.heap; rw [ht9]; exact w.1, w.2.2, (b_inc2 hq6 b_inn2)⟩, w.2.1.F ht9⟩) w.2.1.2.2 dX4_init_16
set_option maxHeartbeats 4000000 in
set_option maxRecDepth 100000 in
theorem c_X4_init_J (l : Launch) (hl0 : l.stackTraces = false) (G : bG) (sz : Nat) (h : Nat) : Met l yX4_init wsX4_init ({ frames := 1, cells := 1, slots := 10, locals := 14 }) (va_Pc [.ref h, .int (nI 10), .int (nI 1)] (bPre G vwCl bNW bSW sz [(h, .inr (4, [.null, .int (nI 0), .int (nI 0)]))] [h])) (va_Qv (fun (u : Nat → Nat) => True) (bCt G vwCl sz (fun (u : Nat → Nat) => (h, .inr (4, [.ref (u 0), .int (nI 1), .int (nI 0)]))) (fun (u : Nat → Nat) => [((u 0), .inl (G.2.1, 10, .inl (fun _ => 0)))])) (Aw [h] sz)) 1 10 (Aw [h] sz) := by
  refine Met.ofW (cc := cX4_init) (maxL := 3) (ret := none) (by decide) rfl ?_
  intro p e s m args below meth c s₁ B hml hv
  obtain ⟨rfl, hsz, hP, hD, E, Z⟩ := hv
  have hts := atoms_spec (ws := wsX4_init) B.pre
  have hown : s.vm.findClass RX4 = some m.cls := findClass_of_methodNamed B.named
  have X : CallFix p m c cX4_init 3 s _ wsX4_init RX4 := ⟨B.exec, B.bytes, hml, hown, hts⟩
  have hx := B.exec
  have hts2 : ∀ w, w ∈ wsX4_init → w ∈ wsX4_init := fun _ h9 => h9
  have hb := B.bytes
  have hr := B.returns
  have hlocks := B.notSynchronized
  have hin : meth.name = "<init>" := (name_of_methodNamed B.named B.method).1
  subst hsz
  have w : bSt G vwCl [] s [(h, .inr (4, [.null, .int (nI 0), .int (nI 0)]))] s.heap [] := ⟨hP, va_S.rf, hD⟩
  have Z0 : bZ [] s := ⟨Z.1.narrow (fun q h => h.elim (fun h => nomatch h) Or.inr), Z.2.narrow (fun q h => h.elim (fun h => nomatch h) Or.inr)⟩
  have iX4 : ∀ w ∈ wsX40, w ∈ wsX4_init := by decide +kernel
  have hl := lv_entry ([.ref h, .int (nI 10), .int (nI 1)]) (n := 3) (Nat.le_of_ble_eq_true rfl)
  rw [lg_entry_eq]
  generalize (lg_sl ([.ref h, .int (nI 10), .int (nI 1)]) ++ List.replicate (3 - (lg_sl ([.ref h, .int (nI 10), .int (nI 1)])).length) Slot.unset).toArray = ls at hl ⊢
  have hl : lv_has ls 3 [(0, .ref h), (1, .int (nI 10)), (2, .int (nI 1))] := hl
  refine lv_aload_n hx hb dX4_init_0 rfl (lv_at hl 0 rfl) ?_
  refine W.objInit hx hb hown (hts (.methodLink RX4 1 objectInit) (by decide +kernel)) (hts (.instanceMethod objectInit) (by decide +kernel)) (hts (.code objectInit ⟨#[0xb1]⟩ 1 none) (by decide +kernel)) rfl (by rw [hml]; exact hl.1) rfl dX4_init_1 (Nat.le_of_ble_eq_true rfl) (Nat.le_of_ble_eq_true rfl) ?_
  refine lv_aload_n hx hb dX4_init_4 rfl (lv_at hl 0 rfl) ?_
  refine lv_iload_n hx hb dX4_init_5 rfl (lv_at hl 1 rfl) ?_
  have w := b_wide [h] b_nil w
  refine b_newI X E w (hts2 (.arrayClass .int) (by decide +kernel)) 10 (by decide) (by decide) (Nat.le_of_ble_eq_true rfl) (Nat.le_of_ble_eq_true rfl) (Nat.le_of_ble_eq_true rfl) dX4_init_6 (fun q6 H hq6 w => ?_)
  have w : bSt G vwCl [h] s [(h, .inr (4, [.null, .int (nI 0), .int (nI 0)])), (q6, .inl (G.2.1, 10, .inl (fun _ => 0)))] _ _ := w
  refine b_putF (ty := .array .int) X E w (Or.inl (List.mem_of_getElem? (i := 0) rfl)) hin 0 rfl rfl 0 (by decide) iX4 tyX4 tyX4_ok nmX4 (by decide +kernel) rfl rfl rfl (by decide +kernel) rfl rfl (Nat.le_of_ble_eq_true rfl) dX4_init_8 (fun H locs w => ?_)
  have w : bSt G vwCl [h] s [(h, .inr (4, [.ref q6, .int (nI 0), .int (nI 0)])), (q6, .inl (G.2.1, 10, .inl (fun _ => 0)))] _ _ := w
  refine lv_aload_n hx hb dX4_init_11 rfl (lv_at hl 0 rfl) ?_
  refine lv_iload_n hx hb dX4_init_12 rfl (lv_at hl 2 rfl) ?_
  refine b_putF (ty := .int) X E w (Or.inl (List.mem_of_getElem? (i := 0) rfl)) hin 0 rfl rfl 1 (by decide) iX4 tyX4 tyX4_ok nmX4 (by decide +kernel) rfl rfl rfl (by decide +kernel) rfl rfl (Nat.le_of_ble_eq_true rfl) dX4_init_13 (fun H locs w => ?_)
  have w : bSt G vwCl [h] s [(h, .inr (4, [.ref q6, .int (nI 1), .int (nI 0)])), (q6, .inl (G.2.1, 10, .inl (fun _ => 0)))] _ _ := w
  exact W.vret hx hb hr (fun t9 ht9 hW9 => ⟨⟨(fun k9 => [q6].getD k9 0), rfl, trivial, by show va_P G.1 vwCl [(h, .inr (4, [.ref q6, .int (nI 1), .int (nI 0)])), (q6, .inl (G.2.1, 10, .inl (fun _ => 0)))] t9.heap; rw [ht9]; exact w.1, w.2.2, (b_inc2 hq6 b_inn2)⟩, w.2.1.F ht9⟩) w.2.1.2.2 dX4_init_16
set_option maxHeartbeats 4000000 in
set_option maxRecDepth 100000 in
theorem c_X5_init (l : Launch) (hl0 : l.stackTraces = false) (G : bG) (sz : Nat) (h : Nat) : Met l yX5_init wsX5_init ({ frames := 2, cells := 24, slots := 9762, locals := 43 }) (va_Pc [.ref h] (bPre G vwCl bNW bSW sz [(h, .inr (5, [.null, .null, .null, .null, .null, .null, .null, .null, .int (nI 0), .int (nI 0), .int (nI 0)]))] [h])) (va_Qv (fun (u : Nat → Nat) => True) (bCt G vwCl sz (fun (u : Nat → Nat) => (h, .inr (5, [.ref (u 0), .ref (u 2), .ref (u 4), .ref (u 6), .ref (u 11), .ref (u 19), .ref (u 22), .ref (u 23), .int (nI 0), .int (nI 0), .int (nI 0)]))) (fun (u : Nat → Nat) => [((u 0), .inr (4, [.ref (u 1), .int (nI 10), .int (nI 0)])), ((u 1), .inl (G.2.1, 14, .inl (fun _ => 0))), ((u 2), .inr (4, [.ref (u 3), .int (nI 1), .int (nI 0)])), ((u 3), .inl (G.2.1, 10, .inl (fun _ => 0))), ((u 4), .inr (0, [.ref (u 5)])), ((u 5), .inl (G.2.2.1, 56, .inl (zB (fun _ => false)))), ((u 6), .inr (2, [.ref (u 7), .ref (u 8), .ref (u 9), .ref (u 10), .int (nI 0)])), ((u 7), .inl (G.2.1, 16, .inl (fun _ => 0))), ((u 8), .inl (G.2.1, 16, .inl (fun _ => 0))), ((u 9), .inl (G.2.1, 16, .inl (fun _ => 0))), ((u 10), .inl (G.2.1, 16, .inl (fun _ => 0))), ((u 11), .inr (1, [.ref (u 12), .ref (u 13), .ref (u 14), .ref (u 15), .ref (u 16), .ref (u 17), .ref (u 18), .int (nI 0)])), ((u 12), .inl (G.2.1, 1680, .inl (fillF (fun _ => 0) MIS 1680))), ((u 13), .inl (G.2.1, 1680, .inl (fillF (fun _ => 0) MIS 1680))), ((u 14), .inl (G.2.1, 1680, .inl (fun _ => 0))), ((u 15), .inl (G.2.1, 1680, .inl (fun _ => 0))), ((u 16), .inl (G.2.1, 300, .inl (fun _ => 0))), ((u 17), .inl (G.2.1, 300, .inl (fun _ => 0))), ((u 18), .inl (G.2.1, 300, .inl (fun _ => 0))), ((u 19), .inr (3, [.ref (u 20), .ref (u 21)])), ((u 20), .inl (G.2.1, 140, .inl (fun _ => 0))), ((u 21), .inl (G.2.2.1, 140, .inl (zB (fun _ => false)))), ((u 22), .inl (G.2.2.1, 1680, .inl (zB (fun _ => false)))), ((u 23), .inl (G.2.1, 16, .inl (fun _ => 0)))])) (Aw [h] sz)) 24 9762 (Aw [h] sz) := by
  refine Met.ofW (cc := cX5_init) (maxL := 1) (ret := none) (by decide) rfl ?_
  intro p e s m args below meth c s₁ B hml hv
  obtain ⟨rfl, hsz, hP, hD, E, Z⟩ := hv
  have hts := atoms_spec (ws := wsX5_init) B.pre
  have hown : s.vm.findClass RX5 = some m.cls := findClass_of_methodNamed B.named
  have X : CallFix p m c cX5_init 1 s _ wsX5_init RX5 := ⟨B.exec, B.bytes, hml, hown, hts⟩
  have hx := B.exec
  have hts2 : ∀ w, w ∈ wsX5_init → w ∈ wsX5_init := fun _ h9 => h9
  have hb := B.bytes
  have hr := B.returns
  have hlocks := B.notSynchronized
  have hin : meth.name = "<init>" := (name_of_methodNamed B.named B.method).1
  subst hsz
  have w : bSt G vwCl [] s [(h, .inr (5, [.null, .null, .null, .null, .null, .null, .null, .null, .int (nI 0), .int (nI 0), .int (nI 0)]))] s.heap [] := ⟨hP, va_S.rf, hD⟩
  have Z0 : bZ [] s := ⟨Z.1.narrow (fun q h => h.elim (fun h => nomatch h) Or.inr), Z.2.narrow (fun q h => h.elim (fun h => nomatch h) Or.inr)⟩
  have iX0 : ∀ w ∈ wsX00, w ∈ wsX5_init := by decide +kernel
  have iX1 : ∀ w ∈ wsX10, w ∈ wsX5_init := by decide +kernel
  have iX2 : ∀ w ∈ wsX20, w ∈ wsX5_init := by decide +kernel
  have iX3 : ∀ w ∈ wsX30, w ∈ wsX5_init := by decide +kernel
  have iX4 : ∀ w ∈ wsX40, w ∈ wsX5_init := by decide +kernel
  have iX5 : ∀ w ∈ wsX50, w ∈ wsX5_init := by decide +kernel
  have hl := lv_entry ([.ref h]) (n := 1) (Nat.le_of_ble_eq_true rfl)
  rw [lg_entry_eq]
  generalize (lg_sl ([.ref h]) ++ List.replicate (1 - (lg_sl ([.ref h])).length) Slot.unset).toArray = ls at hl ⊢
  have hl : lv_has ls 1 [(0, .ref h)] := hl
  refine lv_aload_n hx hb dX5_init_0 rfl (lv_at hl 0 rfl) ?_
  refine W.objInit hx hb hown (hts (.methodLink RX5 3 objectInit) (by decide +kernel)) (hts (.instanceMethod objectInit) (by decide +kernel)) (hts (.code objectInit ⟨#[0xb1]⟩ 1 none) (by decide +kernel)) rfl (by rw [hml]; exact hl.1) rfl dX5_init_1 (Nat.le_of_ble_eq_true rfl) (Nat.le_of_ble_eq_true rfl) ?_
  refine lv_aload_n hx hb dX5_init_4 rfl (lv_at hl 0 rfl) ?_
  have w := b_wide [h] b_nil w
  refine b_new X E w (fs := [.null, .int (nI 0), .int (nI 0)]) (ci := 4) iX4 tyX4 tyX4_ok (hts2 (.classLink RX5 9 RX4) (by decide +kernel)) (hts2 (.instantiable RX4 3) (by decide +kernel)) (hts2 (.initialized RX4) (by decide +kernel)) rfl (by decide) (Nat.le_of_ble_eq_true rfl) (Nat.le_of_ble_eq_true rfl) dX5_init_5 (fun q5 H hq5 w => ?_)
  have w : bSt G vwCl [h] s [(h, .inr (5, [.null, .null, .null, .null, .null, .null, .null, .null, .int (nI 0), .int (nI 0), .int (nI 0)])), (q5, .inr (4, [.null, .int (nI 0), .int (nI 0)]))] _ _ := w
  refine lv_dup hx hb dX5_init_8 rfl ?_
  refine lv_bipush (v := nI 14) hx hb dX5_init_9 (by decide) ?_
  refine lv_bipush (v := nI 10) hx hb dX5_init_11 (by decide) ?_
  refine b_callc w (va_runI (As := [.int (nI 14), .int (nI 10)]) (rest := [.ref q5, .ref h]) X (c_X4_init_A l hl0 G _ (h := q5)) (cwI 2 hts gX5_init_X4_init rfl rfl rfl (hts (.initialized RX4) (by decide +kernel)) (hts (.methodLink RX5 11 yX4_init) (by decide +kernel)) (hts (.instanceMethod yX4_init) (by decide +kernel)) rfl (by decide +kernel) ⟨Nat.le_of_ble_eq_true rfl, Nat.le_of_ble_eq_true rfl⟩) ⟨b_blind, fun U9 hU9 hW9 => ⟨rfl, b_pre E Z w [1] (by decide) rfl (b_inc (Or.inr hq5) b_inn) U9 hU9 hW9⟩⟩ rfl rfl hl.1 rfl (lv_room (Nat.le_of_ble_eq_true rfl)) dX5_init_13 ⟨Nat.le_of_ble_eq_true rfl, Nat.le_of_ble_eq_true rfl⟩) (Or.inr hq5) 1 (fun _ => rfl) rfl (fun u13 H locs _ hnu13 w => ?_)
  have w : bSt G vwCl [h] s [(h, .inr (5, [.null, .null, .null, .null, .null, .null, .null, .null, .int (nI 0), .int (nI 0), .int (nI 0)])), (q5, .inr (4, [.ref (u13 0), .int (nI 10), .int (nI 0)])), ((u13 0), .inl (G.2.1, 14, .inl (fun _ => 0)))] _ _ := w
  refine b_putF (ty := .object "Figurehouse$Tree") X E w (Or.inl (List.mem_of_getElem? (i := 0) rfl)) hin 0 rfl rfl 0 (by decide) iX5 tyX5 tyX5_ok nmX5 (by decide +kernel) rfl rfl rfl (by decide +kernel) rfl rfl (Nat.le_of_ble_eq_true rfl) dX5_init_16 (fun H locs w => ?_)
  have w : bSt G vwCl [h] s [(h, .inr (5, [.ref q5, .null, .null, .null, .null, .null, .null, .null, .int (nI 0), .int (nI 0), .int (nI 0)])), (q5, .inr (4, [.ref (u13 0), .int (nI 10), .int (nI 0)])), ((u13 0), .inl (G.2.1, 14, .inl (fun _ => 0)))] _ _ := w
  refine lv_aload_n hx hb dX5_init_19 rfl (lv_at hl 0 rfl) ?_
  refine b_new X E w (fs := [.null, .int (nI 0), .int (nI 0)]) (ci := 4) iX4 tyX4 tyX4_ok (hts2 (.classLink RX5 9 RX4) (by decide +kernel)) (hts2 (.instantiable RX4 3) (by decide +kernel)) (hts2 (.initialized RX4) (by decide +kernel)) rfl (by decide) (Nat.le_of_ble_eq_true rfl) (Nat.le_of_ble_eq_true rfl) dX5_init_20 (fun q20 H hq20 w => ?_)
  have w : bSt G vwCl [h] s [(h, .inr (5, [.ref q5, .null, .null, .null, .null, .null, .null, .null, .int (nI 0), .int (nI 0), .int (nI 0)])), (q5, .inr (4, [.ref (u13 0), .int (nI 10), .int (nI 0)])), ((u13 0), .inl (G.2.1, 14, .inl (fun _ => 0))), (q20, .inr (4, [.null, .int (nI 0), .int (nI 0)]))] _ _ := w
  refine lv_dup hx hb dX5_init_23 rfl ?_
  refine lv_bipush (v := nI 10) hx hb dX5_init_24 (by decide) ?_
  refine lv_iconst (v := nI 1) hx hb dX5_init_26 (by decide) ?_
  refine b_callc w (va_runI (As := [.int (nI 10), .int (nI 1)]) (rest := [.ref q20, .ref h]) X (c_X4_init_J l hl0 G _ (h := q20)) (cwI 2 hts gX5_init_X4_init rfl rfl rfl (hts (.initialized RX4) (by decide +kernel)) (hts (.methodLink RX5 11 yX4_init) (by decide +kernel)) (hts (.instanceMethod yX4_init) (by decide +kernel)) rfl (by decide +kernel) ⟨Nat.le_of_ble_eq_true rfl, Nat.le_of_ble_eq_true rfl⟩) ⟨b_blind, fun U9 hU9 hW9 => ⟨rfl, b_pre E Z w [3] (by decide) rfl (b_inc (Or.inr hq20) b_inn) U9 hU9 hW9⟩⟩ rfl rfl hl.1 rfl (lv_room (Nat.le_of_ble_eq_true rfl)) dX5_init_27 ⟨Nat.le_of_ble_eq_true rfl, Nat.le_of_ble_eq_true rfl⟩) (Or.inr hq20) 3 (fun _ => rfl) rfl (fun u27 H locs _ hnu27 w => ?_)
  have w : bSt G vwCl [h] s [(h, .inr (5, [.ref q5, .null, .null, .null, .null, .null, .null, .null, .int (nI 0), .int (nI 0), .int (nI 0)])), (q5, .inr (4, [.ref (u13 0), .int (nI 10), .int (nI 0)])), ((u13 0), .inl (G.2.1, 14, .inl (fun _ => 0))), (q20, .inr (4, [.ref (u27 0), .int (nI 1), .int (nI 0)])), ((u27 0), .inl (G.2.1, 10, .inl (fun _ => 0)))] _ _ := w
  refine b_putF (ty := .object "Figurehouse$Tree") X E w (Or.inl (List.mem_of_getElem? (i := 0) rfl)) hin 0 rfl rfl 1 (by decide) iX5 tyX5 tyX5_ok nmX5 (by decide +kernel) rfl rfl rfl (by decide +kernel) rfl rfl (Nat.le_of_ble_eq_true rfl) dX5_init_30 (fun H locs w => ?_)
  have w : bSt G vwCl [h] s [(h, .inr (5, [.ref q5, .ref q20, .null, .null, .null, .null, .null, .null, .int (nI 0), .int (nI 0), .int (nI 0)])), (q5, .inr (4, [.ref (u13 0), .int (nI 10), .int (nI 0)])), ((u13 0), .inl (G.2.1, 14, .inl (fun _ => 0))), (q20, .inr (4, [.ref (u27 0), .int (nI 1), .int (nI 0)])), ((u27 0), .inl (G.2.1, 10, .inl (fun _ => 0)))] _ _ := w
  refine lv_aload_n hx hb dX5_init_33 rfl (lv_at hl 0 rfl) ?_
  refine b_new X E w (fs := [.null]) (ci := 0) iX0 tyX0 tyX0_ok (hts2 (.classLink RX5 21 RX0) (by decide +kernel)) (hts2 (.instantiable RX0 1) (by decide +kernel)) (hts2 (.initialized RX0) (by decide +kernel)) rfl (by decide) (Nat.le_of_ble_eq_true rfl) (Nat.le_of_ble_eq_true rfl) dX5_init_34 (fun q34 H hq34 w => ?_)
  have w : bSt G vwCl [h] s [(h, .inr (5, [.ref q5, .ref q20, .null, .null, .null, .null, .null, .null, .int (nI 0), .int (nI 0), .int (nI 0)])), (q5, .inr (4, [.ref (u13 0), .int (nI 10), .int (nI 0)])), ((u13 0), .inl (G.2.1, 14, .inl (fun _ => 0))), (q20, .inr (4, [.ref (u27 0), .int (nI 1), .int (nI 0)])), ((u27 0), .inl (G.2.1, 10, .inl (fun _ => 0))), (q34, .inr (0, [.null]))] _ _ := w
  refine lv_dup hx hb dX5_init_37 rfl ?_
  refine b_callc w (va_runIN (As := []) (rest := [.ref q34, .ref h]) X (c_X0_init l hl0 G _ (h := q34)) ⟨va_cnB 0 hts gX5_init_X0_init_n23 rfl rfl rfl (E.2.1 (.methodLinkNest RX5 23 yX0_init "Figurehouse") (by decide +kernel)).2 (hts (.initialized RX0) (by decide +kernel)) (by decide +kernel) ⟨Nat.le_of_ble_eq_true rfl, Nat.le_of_ble_eq_true rfl⟩, rfl, hts (.instanceMethod yX0_init) (by decide +kernel)⟩ ⟨b_blind, fun U9 hU9 hW9 => ⟨rfl, b_pre E Z w [5] (by decide) rfl (b_inc (Or.inr hq34) b_inn) U9 hU9 hW9⟩⟩ rfl rfl hl.1 rfl (lv_room (Nat.le_of_ble_eq_true rfl)) dX5_init_38 ⟨Nat.le_of_ble_eq_true rfl, Nat.le_of_ble_eq_true rfl⟩) (Or.inr hq34) 5 (fun _ => rfl) rfl (fun u38 H locs _ hnu38 w => ?_)
  have w : bSt G vwCl [h] s [(h, .inr (5, [.ref q5, .ref q20, .null, .null, .null, .null, .null, .null, .int (nI 0), .int (nI 0), .int (nI 0)])), (q5, .inr (4, [.ref (u13 0), .int (nI 10), .int (nI 0)])), ((u13 0), .inl (G.2.1, 14, .inl (fun _ => 0))), (q20, .inr (4, [.ref (u27 0), .int (nI 1), .int (nI 0)])), ((u27 0), .inl (G.2.1, 10, .inl (fun _ => 0))), (q34, .inr (0, [.ref (u38 0)])), ((u38 0), .inl (G.2.2.1, 56, .inl (zB (fun _ => false))))] _ _ := w
  refine b_putF (ty := .object "Figurehouse$Agreements") X E w (Or.inl (List.mem_of_getElem? (i := 0) rfl)) hin 0 rfl rfl 2 (by decide) iX5 tyX5 tyX5_ok nmX5 (by decide +kernel) rfl rfl rfl (by decide +kernel) rfl rfl (Nat.le_of_ble_eq_true rfl) dX5_init_41 (fun H locs w => ?_)
  have w : bSt G vwCl [h] s [(h, .inr (5, [.ref q5, .ref q20, .ref q34, .null, .null, .null, .null, .null, .int (nI 0), .int (nI 0), .int (nI 0)])), (q5, .inr (4, [.ref (u13 0), .int (nI 10), .int (nI 0)])), ((u13 0), .inl (G.2.1, 14, .inl (fun _ => 0))), (q20, .inr (4, [.ref (u27 0), .int (nI 1), .int (nI 0)])), ((u27 0), .inl (G.2.1, 10, .inl (fun _ => 0))), (q34, .inr (0, [.ref (u38 0)])), ((u38 0), .inl (G.2.2.1, 56, .inl (zB (fun _ => false))))] _ _ := w
  refine lv_aload_n hx hb dX5_init_44 rfl (lv_at hl 0 rfl) ?_
  refine b_new X E w (fs := [.null, .null, .null, .null, .int (nI 0)]) (ci := 2) iX2 tyX2 tyX2_ok (hts2 (.classLink RX5 28 RX2) (by decide +kernel)) (hts2 (.instantiable RX2 5) (by decide +kernel)) (hts2 (.initialized RX2) (by decide +kernel)) rfl (by decide) (Nat.le_of_ble_eq_true rfl) (Nat.le_of_ble_eq_true rfl) dX5_init_45 (fun q45 H hq45 w => ?_)
  have w : bSt G vwCl [h] s [(h, .inr (5, [.ref q5, .ref q20, .ref q34, .null, .null, .null, .null, .null, .int (nI 0), .int (nI 0), .int (nI 0)])), (q5, .inr (4, [.ref (u13 0), .int (nI 10), .int (nI 0)])), ((u13 0), .inl (G.2.1, 14, .inl (fun _ => 0))), (q20, .inr (4, [.ref (u27 0), .int (nI 1), .int (nI 0)])), ((u27 0), .inl (G.2.1, 10, .inl (fun _ => 0))), (q34, .inr (0, [.ref (u38 0)])), ((u38 0), .inl (G.2.2.1, 56, .inl (zB (fun _ => false)))), (q45, .inr (2, [.null, .null, .null, .null, .int (nI 0)]))] _ _ := w
  refine lv_dup hx hb dX5_init_48 rfl ?_
  refine b_callc w (va_runIN (As := []) (rest := [.ref q45, .ref h]) X (c_X2_init l hl0 G _ (h := q45)) ⟨va_cnB 0 hts gX5_init_X2_init_n30 rfl rfl rfl (E.2.1 (.methodLinkNest RX5 30 yX2_init "Figurehouse") (by decide +kernel)).2 (hts (.initialized RX2) (by decide +kernel)) (by decide +kernel) ⟨Nat.le_of_ble_eq_true rfl, Nat.le_of_ble_eq_true rfl⟩, rfl, hts (.instanceMethod yX2_init) (by decide +kernel)⟩ ⟨b_blind, fun U9 hU9 hW9 => ⟨rfl, b_pre E Z w [7] (by decide) rfl (b_inc (Or.inr hq45) b_inn) U9 hU9 hW9⟩⟩ rfl rfl hl.1 rfl (lv_room (Nat.le_of_ble_eq_true rfl)) dX5_init_49 ⟨Nat.le_of_ble_eq_true rfl, Nat.le_of_ble_eq_true rfl⟩) (Or.inr hq45) 7 (fun _ => rfl) rfl (fun u49 H locs _ hnu49 w => ?_)
  have w : bSt G vwCl [h] s [(h, .inr (5, [.ref q5, .ref q20, .ref q34, .null, .null, .null, .null, .null, .int (nI 0), .int (nI 0), .int (nI 0)])), (q5, .inr (4, [.ref (u13 0), .int (nI 10), .int (nI 0)])), ((u13 0), .inl (G.2.1, 14, .inl (fun _ => 0))), (q20, .inr (4, [.ref (u27 0), .int (nI 1), .int (nI 0)])), ((u27 0), .inl (G.2.1, 10, .inl (fun _ => 0))), (q34, .inr (0, [.ref (u38 0)])), ((u38 0), .inl (G.2.2.1, 56, .inl (zB (fun _ => false)))), (q45, .inr (2, [.ref (u49 0), .ref (u49 1), .ref (u49 2), .ref (u49 3), .int (nI 0)])), ((u49 0), .inl (G.2.1, 16, .inl (fun _ => 0))), ((u49 1), .inl (G.2.1, 16, .inl (fun _ => 0))), ((u49 2), .inl (G.2.1, 16, .inl (fun _ => 0))), ((u49 3), .inl (G.2.1, 16, .inl (fun _ => 0)))] _ _ := w
  refine b_putF (ty := .object "Figurehouse$Draft") X E w (Or.inl (List.mem_of_getElem? (i := 0) rfl)) hin 0 rfl rfl 3 (by decide) iX5 tyX5 tyX5_ok nmX5 (by decide +kernel) rfl rfl rfl (by decide +kernel) rfl rfl (Nat.le_of_ble_eq_true rfl) dX5_init_52 (fun H locs w => ?_)
  have w : bSt G vwCl [h] s [(h, .inr (5, [.ref q5, .ref q20, .ref q34, .ref q45, .null, .null, .null, .null, .int (nI 0), .int (nI 0), .int (nI 0)])), (q5, .inr (4, [.ref (u13 0), .int (nI 10), .int (nI 0)])), ((u13 0), .inl (G.2.1, 14, .inl (fun _ => 0))), (q20, .inr (4, [.ref (u27 0), .int (nI 1), .int (nI 0)])), ((u27 0), .inl (G.2.1, 10, .inl (fun _ => 0))), (q34, .inr (0, [.ref (u38 0)])), ((u38 0), .inl (G.2.2.1, 56, .inl (zB (fun _ => false)))), (q45, .inr (2, [.ref (u49 0), .ref (u49 1), .ref (u49 2), .ref (u49 3), .int (nI 0)])), ((u49 0), .inl (G.2.1, 16, .inl (fun _ => 0))), ((u49 1), .inl (G.2.1, 16, .inl (fun _ => 0))), ((u49 2), .inl (G.2.1, 16, .inl (fun _ => 0))), ((u49 3), .inl (G.2.1, 16, .inl (fun _ => 0)))] _ _ := w
  refine lv_aload_n hx hb dX5_init_55 rfl (lv_at hl 0 rfl) ?_
  refine b_new X E w (fs := [.null, .null, .null, .null, .null, .null, .null, .int (nI 0)]) (ci := 1) iX1 tyX1 tyX1_ok (hts2 (.classLink RX5 35 RX1) (by decide +kernel)) (hts2 (.instantiable RX1 8) (by decide +kernel)) (hts2 (.initialized RX1) (by decide +kernel)) rfl (by decide) (Nat.le_of_ble_eq_true rfl) (Nat.le_of_ble_eq_true rfl) dX5_init_56 (fun q56 H hq56 w => ?_)
  have w : bSt G vwCl [h] s [(h, .inr (5, [.ref q5, .ref q20, .ref q34, .ref q45, .null, .null, .null, .null, .int (nI 0), .int (nI 0), .int (nI 0)])), (q5, .inr (4, [.ref (u13 0), .int (nI 10), .int (nI 0)])), ((u13 0), .inl (G.2.1, 14, .inl (fun _ => 0))), (q20, .inr (4, [.ref (u27 0), .int (nI 1), .int (nI 0)])), ((u27 0), .inl (G.2.1, 10, .inl (fun _ => 0))), (q34, .inr (0, [.ref (u38 0)])), ((u38 0), .inl (G.2.2.1, 56, .inl (zB (fun _ => false)))), (q45, .inr (2, [.ref (u49 0), .ref (u49 1), .ref (u49 2), .ref (u49 3), .int (nI 0)])), ((u49 0), .inl (G.2.1, 16, .inl (fun _ => 0))), ((u49 1), .inl (G.2.1, 16, .inl (fun _ => 0))), ((u49 2), .inl (G.2.1, 16, .inl (fun _ => 0))), ((u49 3), .inl (G.2.1, 16, .inl (fun _ => 0))), (q56, .inr (1, [.null, .null, .null, .null, .null, .null, .null, .int (nI 0)]))] _ _ := w
  refine lv_dup hx hb dX5_init_59 rfl ?_
  refine b_callc w (va_runI (As := []) (rest := [.ref q56, .ref h]) X (c_X1_init l hl0 G _ (h := q56)) (cwI 0 hts gX5_init_X1_init rfl rfl rfl (hts (.initialized RX1) (by decide +kernel)) (hts (.methodLink RX5 37 yX1_init) (by decide +kernel)) (hts (.instanceMethod yX1_init) (by decide +kernel)) rfl (by decide +kernel) ⟨Nat.le_of_ble_eq_true rfl, Nat.le_of_ble_eq_true rfl⟩) ⟨b_blind, fun U9 hU9 hW9 => ⟨rfl, b_pre E Z w [12] (by decide) rfl (b_inc (Or.inr hq56) b_inn) U9 hU9 hW9⟩⟩ rfl rfl hl.1 rfl (lv_room (Nat.le_of_ble_eq_true rfl)) dX5_init_60 ⟨Nat.le_of_ble_eq_true rfl, Nat.le_of_ble_eq_true rfl⟩) (Or.inr hq56) 12 (fun _ => rfl) rfl (fun u60 H locs _ hnu60 w => ?_)
  have w : bSt G vwCl [h] s [(h, .inr (5, [.ref q5, .ref q20, .ref q34, .ref q45, .null, .null, .null, .null, .int (nI 0), .int (nI 0), .int (nI 0)])), (q5, .inr (4, [.ref (u13 0), .int (nI 10), .int (nI 0)])), ((u13 0), .inl (G.2.1, 14, .inl (fun _ => 0))), (q20, .inr (4, [.ref (u27 0), .int (nI 1), .int (nI 0)])), ((u27 0), .inl (G.2.1, 10, .inl (fun _ => 0))), (q34, .inr (0, [.ref (u38 0)])), ((u38 0), .inl (G.2.2.1, 56, .inl (zB (fun _ => false)))), (q45, .inr (2, [.ref (u49 0), .ref (u49 1), .ref (u49 2), .ref (u49 3), .int (nI 0)])), ((u49 0), .inl (G.2.1, 16, .inl (fun _ => 0))), ((u49 1), .inl (G.2.1, 16, .inl (fun _ => 0))), ((u49 2), .inl (G.2.1, 16, .inl (fun _ => 0))), ((u49 3), .inl (G.2.1, 16, .inl (fun _ => 0))), (q56, .inr (1, [.ref (u60 0), .ref (u60 1), .ref (u60 2), .ref (u60 3), .ref (u60 4), .ref (u60 5), .ref (u60 6), .int (nI 0)])), ((u60 0), .inl (G.2.1, 1680, .inl (fillF (fun _ => 0) MIS 1680))), ((u60 1), .inl (G.2.1, 1680, .inl (fillF (fun _ => 0) MIS 1680))), ((u60 2), .inl (G.2.1, 1680, .inl (fun _ => 0))), ((u60 3), .inl (G.2.1, 1680, .inl (fun _ => 0))), ((u60 4), .inl (G.2.1, 300, .inl (fun _ => 0))), ((u60 5), .inl (G.2.1, 300, .inl (fun _ => 0))), ((u60 6), .inl (G.2.1, 300, .inl (fun _ => 0)))] _ _ := w
  refine b_putF (ty := .object "Figurehouse$Book") X E w (Or.inl (List.mem_of_getElem? (i := 0) rfl)) hin 0 rfl rfl 4 (by decide) iX5 tyX5 tyX5_ok nmX5 (by decide +kernel) rfl rfl rfl (by decide +kernel) rfl rfl (Nat.le_of_ble_eq_true rfl) dX5_init_63 (fun H locs w => ?_)
  have w : bSt G vwCl [h] s [(h, .inr (5, [.ref q5, .ref q20, .ref q34, .ref q45, .ref q56, .null, .null, .null, .int (nI 0), .int (nI 0), .int (nI 0)])), (q5, .inr (4, [.ref (u13 0), .int (nI 10), .int (nI 0)])), ((u13 0), .inl (G.2.1, 14, .inl (fun _ => 0))), (q20, .inr (4, [.ref (u27 0), .int (nI 1), .int (nI 0)])), ((u27 0), .inl (G.2.1, 10, .inl (fun _ => 0))), (q34, .inr (0, [.ref (u38 0)])), ((u38 0), .inl (G.2.2.1, 56, .inl (zB (fun _ => false)))), (q45, .inr (2, [.ref (u49 0), .ref (u49 1), .ref (u49 2), .ref (u49 3), .int (nI 0)])), ((u49 0), .inl (G.2.1, 16, .inl (fun _ => 0))), ((u49 1), .inl (G.2.1, 16, .inl (fun _ => 0))), ((u49 2), .inl (G.2.1, 16, .inl (fun _ => 0))), ((u49 3), .inl (G.2.1, 16, .inl (fun _ => 0))), (q56, .inr (1, [.ref (u60 0), .ref (u60 1), .ref (u60 2), .ref (u60 3), .ref (u60 4), .ref (u60 5), .ref (u60 6), .int (nI 0)])), ((u60 0), .inl (G.2.1, 1680, .inl (fillF (fun _ => 0) MIS 1680))), ((u60 1), .inl (G.2.1, 1680, .inl (fillF (fun _ => 0) MIS 1680))), ((u60 2), .inl (G.2.1, 1680, .inl (fun _ => 0))), ((u60 3), .inl (G.2.1, 1680, .inl (fun _ => 0))), ((u60 4), .inl (G.2.1, 300, .inl (fun _ => 0))), ((u60 5), .inl (G.2.1, 300, .inl (fun _ => 0))), ((u60 6), .inl (G.2.1, 300, .inl (fun _ => 0)))] _ _ := w
  refine lv_aload_n hx hb dX5_init_66 rfl (lv_at hl 0 rfl) ?_
  refine b_new X E w (fs := [.null, .null]) (ci := 3) iX3 tyX3 tyX3_ok (hts2 (.classLink RX5 42 RX3) (by decide +kernel)) (hts2 (.instantiable RX3 2) (by decide +kernel)) (hts2 (.initialized RX3) (by decide +kernel)) rfl (by decide) (Nat.le_of_ble_eq_true rfl) (Nat.le_of_ble_eq_true rfl) dX5_init_67 (fun q67 H hq67 w => ?_)
  have w : bSt G vwCl [h] s [(h, .inr (5, [.ref q5, .ref q20, .ref q34, .ref q45, .ref q56, .null, .null, .null, .int (nI 0), .int (nI 0), .int (nI 0)])), (q5, .inr (4, [.ref (u13 0), .int (nI 10), .int (nI 0)])), ((u13 0), .inl (G.2.1, 14, .inl (fun _ => 0))), (q20, .inr (4, [.ref (u27 0), .int (nI 1), .int (nI 0)])), ((u27 0), .inl (G.2.1, 10, .inl (fun _ => 0))), (q34, .inr (0, [.ref (u38 0)])), ((u38 0), .inl (G.2.2.1, 56, .inl (zB (fun _ => false)))), (q45, .inr (2, [.ref (u49 0), .ref (u49 1), .ref (u49 2), .ref (u49 3), .int (nI 0)])), ((u49 0), .inl (G.2.1, 16, .inl (fun _ => 0))), ((u49 1), .inl (G.2.1, 16, .inl (fun _ => 0))), ((u49 2), .inl (G.2.1, 16, .inl (fun _ => 0))), ((u49 3), .inl (G.2.1, 16, .inl (fun _ => 0))), (q56, .inr (1, [.ref (u60 0), .ref (u60 1), .ref (u60 2), .ref (u60 3), .ref (u60 4), .ref (u60 5), .ref (u60 6), .int (nI 0)])), ((u60 0), .inl (G.2.1, 1680, .inl (fillF (fun _ => 0) MIS 1680))), ((u60 1), .inl (G.2.1, 1680, .inl (fillF (fun _ => 0) MIS 1680))), ((u60 2), .inl (G.2.1, 1680, .inl (fun _ => 0))), ((u60 3), .inl (G.2.1, 1680, .inl (fun _ => 0))), ((u60 4), .inl (G.2.1, 300, .inl (fun _ => 0))), ((u60 5), .inl (G.2.1, 300, .inl (fun _ => 0))), ((u60 6), .inl (G.2.1, 300, .inl (fun _ => 0))), (q67, .inr (3, [.null, .null]))] _ _ := w
  refine lv_dup hx hb dX5_init_70 rfl ?_
  refine b_callc w (va_runIN (As := []) (rest := [.ref q67, .ref h]) X (c_X3_init l hl0 G _ (h := q67)) ⟨va_cnB 0 hts gX5_init_X3_init_n44 rfl rfl rfl (E.2.1 (.methodLinkNest RX5 44 yX3_init "Figurehouse") (by decide +kernel)).2 (hts (.initialized RX3) (by decide +kernel)) (by decide +kernel) ⟨Nat.le_of_ble_eq_true rfl, Nat.le_of_ble_eq_true rfl⟩, rfl, hts (.instanceMethod yX3_init) (by decide +kernel)⟩ ⟨b_blind, fun U9 hU9 hW9 => ⟨rfl, b_pre E Z w [20] (by decide) rfl (b_inc (Or.inr hq67) b_inn) U9 hU9 hW9⟩⟩ rfl rfl hl.1 rfl (lv_room (Nat.le_of_ble_eq_true rfl)) dX5_init_71 ⟨Nat.le_of_ble_eq_true rfl, Nat.le_of_ble_eq_true rfl⟩) (Or.inr hq67) 20 (fun _ => rfl) rfl (fun u71 H locs _ hnu71 w => ?_)
  have w : bSt G vwCl [h] s [(h, .inr (5, [.ref q5, .ref q20, .ref q34, .ref q45, .ref q56, .null, .null, .null, .int (nI 0), .int (nI 0), .int (nI 0)])), (q5, .inr (4, [.ref (u13 0), .int (nI 10), .int (nI 0)])), ((u13 0), .inl (G.2.1, 14, .inl (fun _ => 0))), (q20, .inr (4, [.ref (u27 0), .int (nI 1), .int (nI 0)])), ((u27 0), .inl (G.2.1, 10, .inl (fun _ => 0))), (q34, .inr (0, [.ref (u38 0)])), ((u38 0), .inl (G.2.2.1, 56, .inl (zB (fun _ => false)))), (q45, .inr (2, [.ref (u49 0), .ref (u49 1), .ref (u49 2), .ref (u49 3), .int (nI 0)])), ((u49 0), .inl (G.2.1, 16, .inl (fun _ => 0))), ((u49 1), .inl (G.2.1, 16, .inl (fun _ => 0))), ((u49 2), .inl (G.2.1, 16, .inl (fun _ => 0))), ((u49 3), .inl (G.2.1, 16, .inl (fun _ => 0))), (q56, .inr (1, [.ref (u60 0), .ref (u60 1), .ref (u60 2), .ref (u60 3), .ref (u60 4), .ref (u60 5), .ref (u60 6), .int (nI 0)])), ((u60 0), .inl (G.2.1, 1680, .inl (fillF (fun _ => 0) MIS 1680))), ((u60 1), .inl (G.2.1, 1680, .inl (fillF (fun _ => 0) MIS 1680))), ((u60 2), .inl (G.2.1, 1680, .inl (fun _ => 0))), ((u60 3), .inl (G.2.1, 1680, .inl (fun _ => 0))), ((u60 4), .inl (G.2.1, 300, .inl (fun _ => 0))), ((u60 5), .inl (G.2.1, 300, .inl (fun _ => 0))), ((u60 6), .inl (G.2.1, 300, .inl (fun _ => 0))), (q67, .inr (3, [.ref (u71 0), .ref (u71 1)])), ((u71 0), .inl (G.2.1, 140, .inl (fun _ => 0))), ((u71 1), .inl (G.2.2.1, 140, .inl (zB (fun _ => false))))] _ _ := w
  refine b_putF (ty := .object "Figurehouse$Sheet") X E w (Or.inl (List.mem_of_getElem? (i := 0) rfl)) hin 0 rfl rfl 5 (by decide) iX5 tyX5 tyX5_ok nmX5 (by decide +kernel) rfl rfl rfl (by decide +kernel) rfl rfl (Nat.le_of_ble_eq_true rfl) dX5_init_74 (fun H locs w => ?_)
  have w : bSt G vwCl [h] s [(h, .inr (5, [.ref q5, .ref q20, .ref q34, .ref q45, .ref q56, .ref q67, .null, .null, .int (nI 0), .int (nI 0), .int (nI 0)])), (q5, .inr (4, [.ref (u13 0), .int (nI 10), .int (nI 0)])), ((u13 0), .inl (G.2.1, 14, .inl (fun _ => 0))), (q20, .inr (4, [.ref (u27 0), .int (nI 1), .int (nI 0)])), ((u27 0), .inl (G.2.1, 10, .inl (fun _ => 0))), (q34, .inr (0, [.ref (u38 0)])), ((u38 0), .inl (G.2.2.1, 56, .inl (zB (fun _ => false)))), (q45, .inr (2, [.ref (u49 0), .ref (u49 1), .ref (u49 2), .ref (u49 3), .int (nI 0)])), ((u49 0), .inl (G.2.1, 16, .inl (fun _ => 0))), ((u49 1), .inl (G.2.1, 16, .inl (fun _ => 0))), ((u49 2), .inl (G.2.1, 16, .inl (fun _ => 0))), ((u49 3), .inl (G.2.1, 16, .inl (fun _ => 0))), (q56, .inr (1, [.ref (u60 0), .ref (u60 1), .ref (u60 2), .ref (u60 3), .ref (u60 4), .ref (u60 5), .ref (u60 6), .int (nI 0)])), ((u60 0), .inl (G.2.1, 1680, .inl (fillF (fun _ => 0) MIS 1680))), ((u60 1), .inl (G.2.1, 1680, .inl (fillF (fun _ => 0) MIS 1680))), ((u60 2), .inl (G.2.1, 1680, .inl (fun _ => 0))), ((u60 3), .inl (G.2.1, 1680, .inl (fun _ => 0))), ((u60 4), .inl (G.2.1, 300, .inl (fun _ => 0))), ((u60 5), .inl (G.2.1, 300, .inl (fun _ => 0))), ((u60 6), .inl (G.2.1, 300, .inl (fun _ => 0))), (q67, .inr (3, [.ref (u71 0), .ref (u71 1)])), ((u71 0), .inl (G.2.1, 140, .inl (fun _ => 0))), ((u71 1), .inl (G.2.2.1, 140, .inl (zB (fun _ => false))))] _ _ := w
  refine lv_aload_n hx hb dX5_init_77 rfl (lv_at hl 0 rfl) ?_
  refine lv_sipush (v := nI 1680) hx hb dX5_init_78 (by decide) ?_
  refine b_newZ X E w (hts2 (.arrayClass .boolean) (by decide +kernel)) 1680 (by decide) (by decide) (Nat.le_of_ble_eq_true rfl) (Nat.le_of_ble_eq_true rfl) (Nat.le_of_ble_eq_true rfl) dX5_init_81 (fun q81 H hq81 w => ?_)
  have w : bSt G vwCl [h] s [(h, .inr (5, [.ref q5, .ref q20, .ref q34, .ref q45, .ref q56, .ref q67, .null, .null, .int (nI 0), .int (nI 0), .int (nI 0)])), (q5, .inr (4, [.ref (u13 0), .int (nI 10), .int (nI 0)])), ((u13 0), .inl (G.2.1, 14, .inl (fun _ => 0))), (q20, .inr (4, [.ref (u27 0), .int (nI 1), .int (nI 0)])), ((u27 0), .inl (G.2.1, 10, .inl (fun _ => 0))), (q34, .inr (0, [.ref (u38 0)])), ((u38 0), .inl (G.2.2.1, 56, .inl (zB (fun _ => false)))), (q45, .inr (2, [.ref (u49 0), .ref (u49 1), .ref (u49 2), .ref (u49 3), .int (nI 0)])), ((u49 0), .inl (G.2.1, 16, .inl (fun _ => 0))), ((u49 1), .inl (G.2.1, 16, .inl (fun _ => 0))), ((u49 2), .inl (G.2.1, 16, .inl (fun _ => 0))), ((u49 3), .inl (G.2.1, 16, .inl (fun _ => 0))), (q56, .inr (1, [.ref (u60 0), .ref (u60 1), .ref (u60 2), .ref (u60 3), .ref (u60 4), .ref (u60 5), .ref (u60 6), .int (nI 0)])), ((u60 0), .inl (G.2.1, 1680, .inl (fillF (fun _ => 0) MIS 1680))), ((u60 1), .inl (G.2.1, 1680, .inl (fillF (fun _ => 0) MIS 1680))), ((u60 2), .inl (G.2.1, 1680, .inl (fun _ => 0))), ((u60 3), .inl (G.2.1, 1680, .inl (fun _ => 0))), ((u60 4), .inl (G.2.1, 300, .inl (fun _ => 0))), ((u60 5), .inl (G.2.1, 300, .inl (fun _ => 0))), ((u60 6), .inl (G.2.1, 300, .inl (fun _ => 0))), (q67, .inr (3, [.ref (u71 0), .ref (u71 1)])), ((u71 0), .inl (G.2.1, 140, .inl (fun _ => 0))), ((u71 1), .inl (G.2.2.1, 140, .inl (zB (fun _ => false)))), (q81, .inl (G.2.2.1, 1680, .inl (zB (fun _ => false))))] _ _ := w
  refine b_putF (ty := .array .boolean) X E w (Or.inl (List.mem_of_getElem? (i := 0) rfl)) hin 0 rfl rfl 6 (by decide) iX5 tyX5 tyX5_ok nmX5 (by decide +kernel) rfl rfl rfl (by decide +kernel) rfl rfl (Nat.le_of_ble_eq_true rfl) dX5_init_83 (fun H locs w => ?_)
  have w : bSt G vwCl [h] s [(h, .inr (5, [.ref q5, .ref q20, .ref q34, .ref q45, .ref q56, .ref q67, .ref q81, .null, .int (nI 0), .int (nI 0), .int (nI 0)])), (q5, .inr (4, [.ref (u13 0), .int (nI 10), .int (nI 0)])), ((u13 0), .inl (G.2.1, 14, .inl (fun _ => 0))), (q20, .inr (4, [.ref (u27 0), .int (nI 1), .int (nI 0)])), ((u27 0), .inl (G.2.1, 10, .inl (fun _ => 0))), (q34, .inr (0, [.ref (u38 0)])), ((u38 0), .inl (G.2.2.1, 56, .inl (zB (fun _ => false)))), (q45, .inr (2, [.ref (u49 0), .ref (u49 1), .ref (u49 2), .ref (u49 3), .int (nI 0)])), ((u49 0), .inl (G.2.1, 16, .inl (fun _ => 0))), ((u49 1), .inl (G.2.1, 16, .inl (fun _ => 0))), ((u49 2), .inl (G.2.1, 16, .inl (fun _ => 0))), ((u49 3), .inl (G.2.1, 16, .inl (fun _ => 0))), (q56, .inr (1, [.ref (u60 0), .ref (u60 1), .ref (u60 2), .ref (u60 3), .ref (u60 4), .ref (u60 5), .ref (u60 6), .int (nI 0)])), ((u60 0), .inl (G.2.1, 1680, .inl (fillF (fun _ => 0) MIS 1680))), ((u60 1), .inl (G.2.1, 1680, .inl (fillF (fun _ => 0) MIS 1680))), ((u60 2), .inl (G.2.1, 1680, .inl (fun _ => 0))), ((u60 3), .inl (G.2.1, 1680, .inl (fun _ => 0))), ((u60 4), .inl (G.2.1, 300, .inl (fun _ => 0))), ((u60 5), .inl (G.2.1, 300, .inl (fun _ => 0))), ((u60 6), .inl (G.2.1, 300, .inl (fun _ => 0))), (q67, .inr (3, [.ref (u71 0), .ref (u71 1)])), ((u71 0), .inl (G.2.1, 140, .inl (fun _ => 0))), ((u71 1), .inl (G.2.2.1, 140, .inl (zB (fun _ => false)))), (q81, .inl (G.2.2.1, 1680, .inl (zB (fun _ => false))))] _ _ := w
  refine lv_aload_n hx hb dX5_init_86 rfl (lv_at hl 0 rfl) ?_
  refine lv_bipush (v := nI 16) hx hb dX5_init_87 (by decide) ?_
  refine b_newI X E w (hts2 (.arrayClass .int) (by decide +kernel)) 16 (by decide) (by decide) (Nat.le_of_ble_eq_true rfl) (Nat.le_of_ble_eq_true rfl) (Nat.le_of_ble_eq_true rfl) dX5_init_89 (fun q89 H hq89 w => ?_)
  have w : bSt G vwCl [h] s [(h, .inr (5, [.ref q5, .ref q20, .ref q34, .ref q45, .ref q56, .ref q67, .ref q81, .null, .int (nI 0), .int (nI 0), .int (nI 0)])), (q5, .inr (4, [.ref (u13 0), .int (nI 10), .int (nI 0)])), ((u13 0), .inl (G.2.1, 14, .inl (fun _ => 0))), (q20, .inr (4, [.ref (u27 0), .int (nI 1), .int (nI 0)])), ((u27 0), .inl (G.2.1, 10, .inl (fun _ => 0))), (q34, .inr (0, [.ref (u38 0)])), ((u38 0), .inl (G.2.2.1, 56, .inl (zB (fun _ => false)))), (q45, .inr (2, [.ref (u49 0), .ref (u49 1), .ref (u49 2), .ref (u49 3), .int (nI 0)])), ((u49 0), .inl (G.2.1, 16, .inl (fun _ => 0))), ((u49 1), .inl (G.2.1, 16, .inl (fun _ => 0))), ((u49 2), .inl (G.2.1, 16, .inl (fun _ => 0))), ((u49 3), .inl (G.2.1, 16, .inl (fun _ => 0))), (q56, .inr (1, [.ref (u60 0), .ref (u60 1), .ref (u60 2), .ref (u60 3), .ref (u60 4), .ref (u60 5), .ref (u60 6), .int (nI 0)])), ((u60 0), .inl (G.2.1, 1680, .inl (fillF (fun _ => 0) MIS 1680))), ((u60 1), .inl (G.2.1, 1680, .inl (fillF (fun _ => 0) MIS 1680))), ((u60 2), .inl (G.2.1, 1680, .inl (fun _ => 0))), ((u60 3), .inl (G.2.1, 1680, .inl (fun _ => 0))), ((u60 4), .inl (G.2.1, 300, .inl (fun _ => 0))), ((u60 5), .inl (G.2.1, 300, .inl (fun _ => 0))), ((u60 6), .inl (G.2.1, 300, .inl (fun _ => 0))), (q67, .inr (3, [.ref (u71 0), .ref (u71 1)])), ((u71 0), .inl (G.2.1, 140, .inl (fun _ => 0))), ((u71 1), .inl (G.2.2.1, 140, .inl (zB (fun _ => false)))), (q81, .inl (G.2.2.1, 1680, .inl (zB (fun _ => false)))), (q89, .inl (G.2.1, 16, .inl (fun _ => 0)))] _ _ := w
  refine b_putF (ty := .array .int) X E w (Or.inl (List.mem_of_getElem? (i := 0) rfl)) hin 0 rfl rfl 7 (by decide) iX5 tyX5 tyX5_ok nmX5 (by decide +kernel) rfl rfl rfl (by decide +kernel) rfl rfl (Nat.le_of_ble_eq_true rfl) dX5_init_91 (fun H locs w => ?_)
  have w : bSt G vwCl [h] s [(h, .inr (5, [.ref q5, .ref q20, .ref q34, .ref q45, .ref q56, .ref q67, .ref q81, .ref q89, .int (nI 0), .int (nI 0), .int (nI 0)])), (q5, .inr (4, [.ref (u13 0), .int (nI 10), .int (nI 0)])), ((u13 0), .inl (G.2.1, 14, .inl (fun _ => 0))), (q20, .inr (4, [.ref (u27 0), .int (nI 1), .int (nI 0)])), ((u27 0), .inl (G.2.1, 10, .inl (fun _ => 0))), (q34, .inr (0, [.ref (u38 0)])), ((u38 0), .inl (G.2.2.1, 56, .inl (zB (fun _ => false)))), (q45, .inr (2, [.ref (u49 0), .ref (u49 1), .ref (u49 2), .ref (u49 3), .int (nI 0)])), ((u49 0), .inl (G.2.1, 16, .inl (fun _ => 0))), ((u49 1), .inl (G.2.1, 16, .inl (fun _ => 0))), ((u49 2), .inl (G.2.1, 16, .inl (fun _ => 0))), ((u49 3), .inl (G.2.1, 16, .inl (fun _ => 0))), (q56, .inr (1, [.ref (u60 0), .ref (u60 1), .ref (u60 2), .ref (u60 3), .ref (u60 4), .ref (u60 5), .ref (u60 6), .int (nI 0)])), ((u60 0), .inl (G.2.1, 1680, .inl (fillF (fun _ => 0) MIS 1680))), ((u60 1), .inl (G.2.1, 1680, .inl (fillF (fun _ => 0) MIS 1680))), ((u60 2), .inl (G.2.1, 1680, .inl (fun _ => 0))), ((u60 3), .inl (G.2.1, 1680, .inl (fun _ => 0))), ((u60 4), .inl (G.2.1, 300, .inl (fun _ => 0))), ((u60 5), .inl (G.2.1, 300, .inl (fun _ => 0))), ((u60 6), .inl (G.2.1, 300, .inl (fun _ => 0))), (q67, .inr (3, [.ref (u71 0), .ref (u71 1)])), ((u71 0), .inl (G.2.1, 140, .inl (fun _ => 0))), ((u71 1), .inl (G.2.2.1, 140, .inl (zB (fun _ => false)))), (q81, .inl (G.2.2.1, 1680, .inl (zB (fun _ => false)))), (q89, .inl (G.2.1, 16, .inl (fun _ => 0)))] _ _ := w
  exact W.vret hx hb hr (fun t9 ht9 hW9 => ⟨⟨(fun k9 => [q5, (u13 0), q20, (u27 0), q34, (u38 0), q45, (u49 0), (u49 1), (u49 2), (u49 3), q56, (u60 0), (u60 1), (u60 2), (u60 3), (u60 4), (u60 5), (u60 6), q67, (u71 0), (u71 1), q81, q89].getD k9 0), rfl, trivial, by show va_P G.1 vwCl [(h, .inr (5, [.ref q5, .ref q20, .ref q34, .ref q45, .ref q56, .ref q67, .ref q81, .ref q89, .int (nI 0), .int (nI 0), .int (nI 0)])), (q5, .inr (4, [.ref (u13 0), .int (nI 10), .int (nI 0)])), ((u13 0), .inl (G.2.1, 14, .inl (fun _ => 0))), (q20, .inr (4, [.ref (u27 0), .int (nI 1), .int (nI 0)])), ((u27 0), .inl (G.2.1, 10, .inl (fun _ => 0))), (q34, .inr (0, [.ref (u38 0)])), ((u38 0), .inl (G.2.2.1, 56, .inl (zB (fun _ => false)))), (q45, .inr (2, [.ref (u49 0), .ref (u49 1), .ref (u49 2), .ref (u49 3), .int (nI 0)])), ((u49 0), .inl (G.2.1, 16, .inl (fun _ => 0))), ((u49 1), .inl (G.2.1, 16, .inl (fun _ => 0))), ((u49 2), .inl (G.2.1, 16, .inl (fun _ => 0))), ((u49 3), .inl (G.2.1, 16, .inl (fun _ => 0))), (q56, .inr (1, [.ref (u60 0), .ref (u60 1), .ref (u60 2), .ref (u60 3), .ref (u60 4), .ref (u60 5), .ref (u60 6), .int (nI 0)])), ((u60 0), .inl (G.2.1, 1680, .inl (fillF (fun _ => 0) MIS 1680))), ((u60 1), .inl (G.2.1, 1680, .inl (fillF (fun _ => 0) MIS 1680))), ((u60 2), .inl (G.2.1, 1680, .inl (fun _ => 0))), ((u60 3), .inl (G.2.1, 1680, .inl (fun _ => 0))), ((u60 4), .inl (G.2.1, 300, .inl (fun _ => 0))), ((u60 5), .inl (G.2.1, 300, .inl (fun _ => 0))), ((u60 6), .inl (G.2.1, 300, .inl (fun _ => 0))), (q67, .inr (3, [.ref (u71 0), .ref (u71 1)])), ((u71 0), .inl (G.2.1, 140, .inl (fun _ => 0))), ((u71 1), .inl (G.2.2.1, 140, .inl (zB (fun _ => false)))), (q81, .inl (G.2.2.1, 1680, .inl (zB (fun _ => false)))), (q89, .inl (G.2.1, 16, .inl (fun _ => 0)))] t9.heap; rw [ht9]; exact w.1, w.2.2, (b_inc2 hq5 (b_inc2 (hnu13 _ (List.mem_of_getElem? (i := 0) rfl)) (b_inc2 hq20 (b_inc2 (hnu27 _ (List.mem_of_getElem? (i := 0) rfl)) (b_inc2 hq34 (b_inc2 (hnu38 _ (List.mem_of_getElem? (i := 0) rfl)) (b_inc2 hq45 (b_inc2 (hnu49 _ (List.mem_of_getElem? (i := 0) rfl)) (b_inc2 (hnu49 _ (List.mem_of_getElem? (i := 1) rfl)) (b_inc2 (hnu49 _ (List.mem_of_getElem? (i := 2) rfl)) (b_inc2 (hnu49 _ (List.mem_of_getElem? (i := 3) rfl)) (b_inc2 hq56 (b_inc2 (hnu60 _ (List.mem_of_getElem? (i := 0) rfl)) (b_inc2 (hnu60 _ (List.mem_of_getElem? (i := 1) rfl)) (b_inc2 (hnu60 _ (List.mem_of_getElem? (i := 2) rfl)) (b_inc2 (hnu60 _ (List.mem_of_getElem? (i := 3) rfl)) (b_inc2 (hnu60 _ (List.mem_of_getElem? (i := 4) rfl)) (b_inc2 (hnu60 _ (List.mem_of_getElem? (i := 5) rfl)) (b_inc2 (hnu60 _ (List.mem_of_getElem? (i := 6) rfl)) (b_inc2 hq67 (b_inc2 (hnu71 _ (List.mem_of_getElem? (i := 0) rfl)) (b_inc2 (hnu71 _ (List.mem_of_getElem? (i := 1) rfl)) (b_inc2 hq81 (b_inc2 hq89 b_inn2))))))))))))))))))))))))⟩, w.2.1.F ht9⟩) w.2.1.2.2 dX5_init_94
