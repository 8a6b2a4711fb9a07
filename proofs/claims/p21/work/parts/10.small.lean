set_option maxHeartbeats 4000000 in
set_option maxRecDepth 100000 in
theorem c_X4_has (l : Launch) (hl0 : l.stackTraces = false) (G : bG) (sz : Nat) (h o : Nat) (str n : Nat) (x : Int32) : Met l yX4_has wsX4_has ({ frames := 0, cells := 0, slots := 0, locals := 0 }) (va_Pc [.ref h, .int x] (bPre G vwCl bNW bSW sz [(h, .inr (4, [.ref o, .int (nI str), .int (nI n)]))] [])) (va_Qi (fun (r : Int32) (_ : Unit) => r = bI (tHas n x)) (fun (_ : Unit) (tS : State) => va_P G.1 vwCl [] tS.heap) (Aw [] sz)) 0 0 (Aw [] sz) := by
  refine Met.ofW (cc := cX4_has) (maxL := 2) (ret := (some .boolean)) (by decide) rfl ?_
  intro p e s m args below meth c s₁ B hml hv
  obtain ⟨rfl, hsz, hP, hD, E, Z⟩ := hv
  have hts := atoms_spec (ws := wsX4_has) B.pre
  have hown : s.vm.findClass RX4 = some m.cls := findClass_of_methodNamed B.named
  have X : CallFix p m c cX4_has 2 s _ wsX4_has RX4 := ⟨B.exec, B.bytes, hml, hown, hts⟩
  have hx := B.exec
  have hb := B.bytes
  have hr := B.returns
  have hlocks := B.notSynchronized
  subst hsz
  have w : bSt G vwCl [] s [(h, .inr (4, [.ref o, .int (nI str), .int (nI n)]))] s.heap [] := ⟨hP, va_S.rf, hD⟩
  have Z0 : bZ [] s := ⟨Z.1.narrow (fun q h => h.elim (fun h => nomatch h) Or.inr), Z.2.narrow (fun q h => h.elim (fun h => nomatch h) Or.inr)⟩
  have iX4 : ∀ w ∈ wsX40, w ∈ wsX4_has := by decide +kernel
  have hl := lv_entry ([.ref h, .int x]) (n := 2) (Nat.le_of_ble_eq_true rfl)
  rw [lg_entry_eq]
  generalize (lg_sl ([.ref h, .int x]) ++ List.replicate (2 - (lg_sl ([.ref h, .int x])).length) Slot.unset).toArray = ls at hl ⊢
  have hl : lv_has ls 2 [(0, .ref h), (1, .int x)] := hl
  refine lv_iload_n hx hb dX4_has_0 rfl (lv_at hl 1 rfl) ?_
  refine lv_if_lt (tgt := 16) hx hb dX4_has_1 (by decide) (fun c_1_3 => ?_) (fun c_1_3 => ?_)
  · refine lv_iconst (v := nI 0) hx hb dX4_has_16 (by decide) ?_
    exact W.zret (v := nI 0) hx hb hr rfl (fun t9 ht9 hW9 => ⟨⟨nI 0, (), rfl, bI_zero (by simp [tHas, c_1_3]), fun k q h => by cases k <;> cases h⟩, w.2.1.F ht9⟩) w.2.1.2.2 dX4_has_17
  · refine lv_iload_n hx hb dX4_has_4 rfl (lv_at hl 1 rfl) ?_
    refine lv_aload_n hx hb dX4_has_5 rfl (lv_at hl 0 rfl) ?_
    refine b_get X E w 0 rfl rfl 2 (by decide) iX4 (by decide +kernel) rfl rfl dX4_has_6 ?_
    refine lv_icmp_ge (tgt := 16) hx hb dX4_has_9 (by decide) (fun c_9_4 => ?_) (fun c_9_4 => ?_)
    · refine lv_iconst (v := nI 0) hx hb dX4_has_16 (by decide) ?_
      exact W.zret (v := nI 0) hx hb hr rfl (fun t9 ht9 hW9 => ⟨⟨nI 0, (), rfl, bI_zero (by simp [tHas, c_1_3, c_9_4]), fun k q h => by cases k <;> cases h⟩, w.2.1.F ht9⟩) w.2.1.2.2 dX4_has_17
    · refine lv_iconst (v := nI 1) hx hb dX4_has_12 (by decide) ?_
      refine lv_goto (tgt := 17) hx hb dX4_has_13 (by decide) ?_
      exact W.zret (v := nI 1) hx hb hr rfl (fun t9 ht9 hW9 => ⟨⟨nI 1, (), rfl, bI_one (by simp [tHas, c_1_3, c_9_4]), fun k q h => by cases k <;> cases h⟩, w.2.1.F ht9⟩) w.2.1.2.2 dX4_has_17
set_option maxHeartbeats 4000000 in
set_option maxRecDepth 100000 in
theorem c_X4_isFull (l : Launch) (hl0 : l.stackTraces = false) (G : bG) (sz : Nat) (h o : Nat) (cap str n : Nat) (f : Nat → Int32) (hn : n ≤ 100) (hc : cap ≤ 100) : Met l yX4_isFull wsX4_isFull ({ frames := 0, cells := 0, slots := 0, locals := 0 }) (va_Pc [.ref h] (bPre G vwCl bNW bSW sz [(h, .inr (4, [.ref o, .int (nI str), .int (nI n)])), (o, .inl (G.2.1, cap, .inl f))] [])) (va_Qi (fun (r : Int32) (_ : Unit) => r = bI (decide (cap ≤ n))) (fun (_ : Unit) (tS : State) => va_P G.1 vwCl [] tS.heap) (Aw [] sz)) 0 0 (Aw [] sz) := by
  refine Met.ofW (cc := cX4_isFull) (maxL := 1) (ret := (some .boolean)) (by decide) rfl ?_
  intro p e s m args below meth c s₁ B hml hv
  obtain ⟨rfl, hsz, hP, hD, E, Z⟩ := hv
  have hts := atoms_spec (ws := wsX4_isFull) B.pre
  have hown : s.vm.findClass RX4 = some m.cls := findClass_of_methodNamed B.named
  have X : CallFix p m c cX4_isFull 1 s _ wsX4_isFull RX4 := ⟨B.exec, B.bytes, hml, hown, hts⟩
  have hx := B.exec
  have hb := B.bytes
  have hr := B.returns
  have hlocks := B.notSynchronized
  subst hsz
  have w : bSt G vwCl [] s [(h, .inr (4, [.ref o, .int (nI str), .int (nI n)])), (o, .inl (G.2.1, cap, .inl f))] s.heap [] := ⟨hP, va_S.rf, hD⟩
  have Z0 : bZ [] s := ⟨Z.1.narrow (fun q h => h.elim (fun h => nomatch h) Or.inr), Z.2.narrow (fun q h => h.elim (fun h => nomatch h) Or.inr)⟩
  have iX4 : ∀ w ∈ wsX40, w ∈ wsX4_isFull := by decide +kernel
  have hl := lv_entry ([.ref h]) (n := 1) (Nat.le_of_ble_eq_true rfl)
  rw [lg_entry_eq]
  generalize (lg_sl ([.ref h]) ++ List.replicate (1 - (lg_sl ([.ref h])).length) Slot.unset).toArray = ls at hl ⊢
  have hl : lv_has ls 1 [(0, .ref h)] := hl
  refine lv_aload_n hx hb dX4_isFull_0 rfl (lv_at hl 0 rfl) ?_
  refine b_get X E w 0 rfl rfl 2 (by decide) iX4 (by decide +kernel) rfl rfl dX4_isFull_1 ?_
  refine lv_aload_n hx hb dX4_isFull_4 rfl (lv_at hl 0 rfl) ?_
  refine b_get X E w 0 rfl rfl 0 (by decide) iX4 (by decide +kernel) rfl rfl dX4_isFull_5 ?_
  refine b_alen X E w 1 rfl dX4_isFull_8 ?_
  refine lv_icmp_lt (tgt := 16) hx hb dX4_isFull_9 (by decide) (fun c_9_3 => ?_) (fun c_9_3 => ?_)
  · have q_9_4 : n < cap := q_lt (by omega) (by omega) c_9_3
    refine lv_iconst (v := nI 0) hx hb dX4_isFull_16 (by decide) ?_
    exact W.zret (v := nI 0) hx hb hr rfl (fun t9 ht9 hW9 => ⟨⟨nI 0, (), rfl, bI_zero (by simp [q_9_4]; try omega), fun k q h => by cases k <;> cases h⟩, w.2.1.F ht9⟩) w.2.1.2.2 dX4_isFull_17
  · have q_9_4 : cap ≤ n := q_nlt (by omega) (by omega) c_9_3
    refine lv_iconst (v := nI 1) hx hb dX4_isFull_12 (by decide) ?_
    refine lv_goto (tgt := 17) hx hb dX4_isFull_13 (by decide) ?_
    exact W.zret (v := nI 1) hx hb hr rfl (fun t9 ht9 hW9 => ⟨⟨nI 1, (), rfl, bI_one (by simp [q_9_4]; try omega), fun k q h => by cases k <;> cases h⟩, w.2.1.F ht9⟩) w.2.1.2.2 dX4_isFull_17
set_option maxHeartbeats 4000000 in
set_option maxRecDepth 100000 in
theorem c_X4_grow (l : Launch) (hl0 : l.stackTraces = false) (G : bG) (sz : Nat) (h o : Nat) (cap str n : Nat) (f : Nat → Int32) (x : Int32) (hn : n < cap) (hc : cap ≤ 100) : Met l yX4_grow wsX4_grow ({ frames := 0, cells := 0, slots := 0, locals := 0 }) (va_Pc [.ref h, .int x] (bPre G vwCl bNW bSW sz [(h, .inr (4, [.ref o, .int (nI str), .int (nI n)])), (o, .inl (G.2.1, cap, .inl f))] [h, o])) (va_Qi (fun (r : Int32) (_ : Unit) => r = nI n) (fun (_ : Unit) (tS : State) => va_P G.1 vwCl [(h, .inr (4, [.ref o, .int (nI str), .int (nI (n + 1))])), (o, .inl (G.2.1, cap, .inl (upd f n x)))] tS.heap) (Aw [h, o] sz)) 0 0 (Aw [h, o] sz) := by
  refine Met.ofW (cc := cX4_grow) (maxL := 3) (ret := (some .int)) (by decide) rfl ?_
  intro p e s m args below meth c s₁ B hml hv
  obtain ⟨rfl, hsz, hP, hD, E, Z⟩ := hv
  have hts := atoms_spec (ws := wsX4_grow) B.pre
  have hown : s.vm.findClass RX4 = some m.cls := findClass_of_methodNamed B.named
  have X : CallFix p m c cX4_grow 3 s _ wsX4_grow RX4 := ⟨B.exec, B.bytes, hml, hown, hts⟩
  have hx := B.exec
  have hb := B.bytes
  have hr := B.returns
  have hlocks := B.notSynchronized
  subst hsz
  have w : bSt G vwCl [] s [(h, .inr (4, [.ref o, .int (nI str), .int (nI n)])), (o, .inl (G.2.1, cap, .inl f))] s.heap [] := ⟨hP, va_S.rf, hD⟩
  have Z0 : bZ [] s := ⟨Z.1.narrow (fun q h => h.elim (fun h => nomatch h) Or.inr), Z.2.narrow (fun q h => h.elim (fun h => nomatch h) Or.inr)⟩
  have iX4 : ∀ w ∈ wsX40, w ∈ wsX4_grow := by decide +kernel
  have hl := lv_entry ([.ref h, .int x]) (n := 3) (Nat.le_of_ble_eq_true rfl)
  rw [lg_entry_eq]
  generalize (lg_sl ([.ref h, .int x]) ++ List.replicate (3 - (lg_sl ([.ref h, .int x])).length) Slot.unset).toArray = ls at hl ⊢
  have hl : lv_has ls 3 [(0, .ref h), (1, .int x)] := hl
  refine lv_aload_n hx hb dX4_grow_0 rfl (lv_at hl 0 rfl) ?_
  refine b_get X E w 0 rfl rfl 2 (by decide) iX4 (by decide +kernel) rfl rfl dX4_grow_1 ?_
  refine lv_istore_n (lv' := [(2, .int (nI n)), (0, .ref h), (1, .int x)]) hx hb dX4_grow_4 rfl hl (by decide) rfl (fun ls hl => ?_)
  refine lv_iload_n hx hb dX4_grow_5 rfl (lv_at hl 0 rfl) ?_
  refine lv_aload_n hx hb dX4_grow_6 rfl (lv_at hl 1 rfl) ?_
  refine b_get X E w 0 rfl rfl 0 (by decide) iX4 (by decide +kernel) rfl rfl dX4_grow_7 ?_
  refine b_alen X E w 1 rfl dX4_grow_10 ?_
  refine lv_icmp_ge (tgt := 28) hx hb dX4_grow_11 (by decide) (fun c_11_3 => ?_) (fun c_11_3 => ?_)
  · exact absurd (q_le (by omega) (by omega) c_11_3) (by omega)
  · have q_11_4 : n < cap := q_nle (by omega) (by omega) c_11_3
    refine lv_aload_n hx hb dX4_grow_14 rfl (lv_at hl 1 rfl) ?_
    refine b_get X E w 0 rfl rfl 0 (by decide) iX4 (by decide +kernel) rfl rfl dX4_grow_15 ?_
    refine lv_iload_n hx hb dX4_grow_18 rfl (lv_at hl 0 rfl) ?_
    refine lv_iload_n hx hb dX4_grow_19 rfl (lv_at hl 2 rfl) ?_
    have w := b_wide [h, o] b_nil w
    refine b_iast X E w (Or.inl (List.mem_of_getElem? (i := 1) rfl)) 1 rfl n rfl (by omega) (by first | decide | omega) dX4_grow_20 (fun H locs w => ?_)
    have w : bSt G vwCl [h, o] s [(h, .inr (4, [.ref o, .int (nI str), .int (nI n)])), (o, .inl (G.2.1, cap, .inl (upd f n x)))] _ _ := w
    refine lv_aload_n hx hb dX4_grow_21 rfl (lv_at hl 1 rfl) ?_
    refine lv_iload_n hx hb dX4_grow_22 rfl (lv_at hl 0 rfl) ?_
    refine lv_iconst (v := nI 1) hx hb dX4_grow_23 (by decide) ?_
    refine lv_iadd hx hb dX4_grow_24 ?_
    refine b_tp (show (nI n) + (nI 1) = nI (n + 1) from nI_add n 1) ?_
    refine b_put (ty := .int) X E w (Or.inl (List.mem_of_getElem? (i := 0) rfl)) 0 rfl rfl 2 (by decide) iX4 tyX4 tyX4_ok nmX4 (by decide +kernel) rfl rfl (by decide +kernel) rfl rfl (Nat.le_of_ble_eq_true rfl) dX4_grow_25 (fun H locs w => ?_)
    have w : bSt G vwCl [h, o] s [(h, .inr (4, [.ref o, .int (nI str), .int (nI (n + 1))])), (o, .inl (G.2.1, cap, .inl (upd f n x)))] _ _ := w
    refine lv_iload_n hx hb dX4_grow_28 rfl (lv_at hl 0 rfl) ?_
    exact W.iret (v := nI n) hx hb hr (fun t9 ht9 hW9 => ⟨⟨nI n, (), rfl, rfl, by show va_P G.1 vwCl _ t9.heap; rw [ht9]; exact b_cg (rfl) (w.1.sub (ws' := [(h, .inr (4, [.ref o, .int (nI str), .int (nI (n + 1))])), (o, .inl (G.2.1, cap, .inl (upd f n x)))]) [0, 1] rfl)⟩, w.2.1.F ht9⟩) w.2.1.2.2 dX4_grow_29
set_option maxHeartbeats 4000000 in
set_option maxRecDepth 100000 in
theorem c_X4_isRightIn (l : Launch) (hl0 : l.stackTraces = false) (G : bG) (sz : Nat) (h o : Nat) (cap str n : Nat) (f : Nat → Int32) (k : Nat) (y : Int32) (hk : k < n) (hn : n ≤ cap) (hc : cap ≤ 100) : Met l yX4_isRightIn wsX4_isRightIn ({ frames := 0, cells := 0, slots := 0, locals := 0 }) (va_Pc [.ref h, .int (nI k), .int y] (bPre G vwCl bNW bSW sz [(h, .inr (4, [.ref o, .int (nI str), .int (nI n)])), (o, .inl (G.2.1, cap, .inl f))] [])) (va_Qi (fun (r : Int32) (_ : Unit) => r = bI (decide (f k = y))) (fun (_ : Unit) (tS : State) => va_P G.1 vwCl [] tS.heap) (Aw [] sz)) 0 0 (Aw [] sz) := by
  refine Met.ofW (cc := cX4_isRightIn) (maxL := 3) (ret := (some .boolean)) (by decide) rfl ?_
  intro p e s m args below meth c s₁ B hml hv
  obtain ⟨rfl, hsz, hP, hD, E, Z⟩ := hv
  have hts := atoms_spec (ws := wsX4_isRightIn) B.pre
  have hown : s.vm.findClass RX4 = some m.cls := findClass_of_methodNamed B.named
  have X : CallFix p m c cX4_isRightIn 3 s _ wsX4_isRightIn RX4 := ⟨B.exec, B.bytes, hml, hown, hts⟩
  have hx := B.exec
  have hb := B.bytes
  have hr := B.returns
  have hlocks := B.notSynchronized
  subst hsz
  have w : bSt G vwCl [] s [(h, .inr (4, [.ref o, .int (nI str), .int (nI n)])), (o, .inl (G.2.1, cap, .inl f))] s.heap [] := ⟨hP, va_S.rf, hD⟩
  have Z0 : bZ [] s := ⟨Z.1.narrow (fun q h => h.elim (fun h => nomatch h) Or.inr), Z.2.narrow (fun q h => h.elim (fun h => nomatch h) Or.inr)⟩
  have iX4 : ∀ w ∈ wsX40, w ∈ wsX4_isRightIn := by decide +kernel
  have hl := lv_entry ([.ref h, .int (nI k), .int y]) (n := 3) (Nat.le_of_ble_eq_true rfl)
  rw [lg_entry_eq]
  generalize (lg_sl ([.ref h, .int (nI k), .int y]) ++ List.replicate (3 - (lg_sl ([.ref h, .int (nI k), .int y])).length) Slot.unset).toArray = ls at hl ⊢
  have hl : lv_has ls 3 [(0, .ref h), (1, .int (nI k)), (2, .int y)] := hl
  refine lv_iload_n hx hb dX4_isRightIn_0 rfl (lv_at hl 1 rfl) ?_
  refine lv_if_lt (tgt := 26) hx hb dX4_isRightIn_1 (by decide) (fun c_1_6 => ?_) (fun c_1_6 => ?_)
  · exact absurd c_1_6 (nI_pos (by omega))
  · refine lv_iload_n hx hb dX4_isRightIn_4 rfl (lv_at hl 1 rfl) ?_
    refine lv_aload_n hx hb dX4_isRightIn_5 rfl (lv_at hl 0 rfl) ?_
    refine b_get X E w 0 rfl rfl 2 (by decide) iX4 (by decide +kernel) rfl rfl dX4_isRightIn_6 ?_
    refine lv_icmp_ge (tgt := 26) hx hb dX4_isRightIn_9 (by decide) (fun c_9_8 => ?_) (fun c_9_8 => ?_)
    · exact absurd (q_le (by omega) (by omega) c_9_8) (by omega)
    · have q_9_9 : k < n := q_nle (by omega) (by omega) c_9_8
      refine lv_aload_n hx hb dX4_isRightIn_12 rfl (lv_at hl 0 rfl) ?_
      refine b_get X E w 0 rfl rfl 0 (by decide) iX4 (by decide +kernel) rfl rfl dX4_isRightIn_13 ?_
      refine lv_iload_n hx hb dX4_isRightIn_16 rfl (lv_at hl 1 rfl) ?_
      refine b_iald X E w 1 rfl k rfl (by omega) (by first | decide | omega) dX4_isRightIn_17 ?_
      refine lv_iload_n hx hb dX4_isRightIn_18 rfl (lv_at hl 2 rfl) ?_
      refine lv_icmp_ne (tgt := 26) hx hb dX4_isRightIn_19 (by decide) (fun c_19_10 => ?_) (fun c_19_10 => ?_)
      · refine lv_iconst (v := nI 0) hx hb dX4_isRightIn_26 (by decide) ?_
        exact W.zret (v := nI 0) hx hb hr rfl (fun t9 ht9 hW9 => ⟨⟨nI 0, (), rfl, bI_zero (by simp [q_9_9, c_19_10]), fun k q h => by cases k <;> cases h⟩, w.2.1.F ht9⟩) w.2.1.2.2 dX4_isRightIn_27
      · refine lv_iconst (v := nI 1) hx hb dX4_isRightIn_22 (by decide) ?_
        refine lv_goto (tgt := 27) hx hb dX4_isRightIn_23 (by decide) ?_
        exact W.zret (v := nI 1) hx hb hr rfl (fun t9 ht9 hW9 => ⟨⟨nI 1, (), rfl, bI_one (by simp [q_9_9, c_19_10]), fun k q h => by cases k <;> cases h⟩, w.2.1.F ht9⟩) w.2.1.2.2 dX4_isRightIn_27
set_option maxHeartbeats 4000000 in
set_option maxRecDepth 100000 in
theorem c_X4_isWithin (l : Launch) (hl0 : l.stackTraces = false) (G : bG) (sz : Nat) (h o : Nat) (cap str n : Nat) (f : Nat → Int32) (k : Nat) (x : Int32) (hk : k < n) (hn : n ≤ cap) (hc : cap ≤ 100) (hT : TI f n) : Met l yX4_isWithin wsX4_isWithin ({ frames := 1, cells := 0, slots := 0, locals := 21 }) (va_Pc [.ref h, .int (nI k), .int x] (bPre G vwCl bNW bSW sz [(h, .inr (4, [.ref o, .int (nI str), .int (nI n)])), (o, .inl (G.2.1, cap, .inl f))] [])) (va_Qi (fun (r : Int32) (_ : Unit) => r = bI (tW f x n (nI k))) (fun (_ : Unit) (tS : State) => va_P G.1 vwCl [] tS.heap) (Aw [] sz)) 0 0 (Aw [] sz) := by
  refine Met.ofW (cc := cX4_isWithin) (maxL := 5) (ret := (some .boolean)) (by decide) rfl ?_
  intro p e s m args below meth c s₁ B hml hv
  obtain ⟨rfl, hsz, hP, hD, E, Z⟩ := hv
  have hts := atoms_spec (ws := wsX4_isWithin) B.pre
  have hown : s.vm.findClass RX4 = some m.cls := findClass_of_methodNamed B.named
  have X : CallFix p m c cX4_isWithin 5 s _ wsX4_isWithin RX4 := ⟨B.exec, B.bytes, hml, hown, hts⟩
  have hx := B.exec
  have hb := B.bytes
  have hr := B.returns
  have hlocks := B.notSynchronized
  subst hsz
  have w : bSt G vwCl [] s [(h, .inr (4, [.ref o, .int (nI str), .int (nI n)])), (o, .inl (G.2.1, cap, .inl f))] s.heap [] := ⟨hP, va_S.rf, hD⟩
  have Z0 : bZ [] s := ⟨Z.1.narrow (fun q h => h.elim (fun h => nomatch h) Or.inr), Z.2.narrow (fun q h => h.elim (fun h => nomatch h) Or.inr)⟩
  have iX4 : ∀ w ∈ wsX40, w ∈ wsX4_isWithin := by decide +kernel
  have hl := lv_entry ([.ref h, .int (nI k), .int x]) (n := 5) (Nat.le_of_ble_eq_true rfl)
  rw [lg_entry_eq]
  generalize (lg_sl ([.ref h, .int (nI k), .int x]) ++ List.replicate (5 - (lg_sl ([.ref h, .int (nI k), .int x])).length) Slot.unset).toArray = ls at hl ⊢
  have hl : lv_has ls 5 [(0, .ref h), (1, .int (nI k)), (2, .int x)] := hl
  refine lv_iload_n hx hb dX4_isWithin_0 rfl (lv_at hl 1 rfl) ?_
  refine lv_istore_n (lv' := [(3, .int (nI k)), (0, .ref h), (1, .int (nI k)), (2, .int x)]) hx hb dX4_isWithin_1 rfl hl (by decide) rfl (fun ls hl => ?_)
  refine lv_iconst (v := nI 0) hx hb dX4_isWithin_2 (by decide) ?_
  refine lv_istore (lv' := [(4, .int (nI 0)), (3, .int (nI k)), (0, .ref h), (1, .int (nI k)), (2, .int x)]) hx hb dX4_isWithin_3 hl (by decide) rfl (fun ls hl => ?_)
  refine b_loop (pc := 5) (st := []) (fun (fuel : Nat) (H : Heap) (locs : List Loc) (ls : Array Slot) => ∃ (i : Nat) (y : Int32), (i ≤ n) ∧ (n + 1 ≤ i + fuel) ∧ (y = -1 ∨ ∃ j, j < n ∧ y = nI j) ∧ (tW f x n (nI k) = tW f x (n - i) y) ∧ bSt G vwCl [] s [(h, .inr (4, [.ref o, .int (nI str), .int (nI n)])), (o, .inl (G.2.1, cap, .inl f))] H locs ∧ lv_has ls 5 [(0, .ref h), (2, .int x), (3, .int y), (4, .int (nI i))]) (fun H locs ls h9 => ?_) (fun fuel H locs ls hI ih5 => ?_) (n + 1) ⟨0, nI k, (by omega), (by omega), Or.inr ⟨k, hk, rfl⟩, rfl, w, lv_sub hl [2, 4, 1, 0] rfl⟩
  · obtain ⟨i, y, hi, hf, hy, hW, w, hl⟩ := h9
    omega
  · obtain ⟨i, y, hi, hf, hy, hW, w, hl⟩ := hI
    refine lv_iload hx hb dX4_isWithin_5 (lv_at hl 3 rfl) ?_
    refine lv_aload_n hx hb dX4_isWithin_7 rfl (lv_at hl 0 rfl) ?_
    refine b_get X E w 0 rfl rfl 2 (by decide) iX4 (by decide +kernel) rfl rfl dX4_isWithin_8 ?_
    refine lv_icmp_ge (tgt := 40) hx hb dX4_isWithin_11 (by decide) (fun c_11_10 => ?_) (fun c_11_10 => ?_)
    · have q_11_11 : n ≤ i := q_le (by omega) (by omega) c_11_10
      have hE : tW f x n (nI k) = decide (y = x) := hW.trans (tW_end (by omega))
      refine lv_iload_n hx hb dX4_isWithin_40 rfl (lv_at hl 2 rfl) ?_
      refine lv_iload_n hx hb dX4_isWithin_41 rfl (lv_at hl 1 rfl) ?_
      refine lv_icmp_ne (tgt := 49) hx hb dX4_isWithin_42 (by decide) (fun c_42_12 => ?_) (fun c_42_12 => ?_)
      · refine lv_iconst (v := nI 0) hx hb dX4_isWithin_49 (by decide) ?_
        exact W.zret (v := nI 0) hx hb hr rfl (fun t9 ht9 hW9 => ⟨⟨nI 0, (), rfl, bI_zero (by rw [hE]; first | (simp [q_11_11, c_42_12]; done) | contradiction), fun k q h => by cases k <;> cases h⟩, w.2.1.F ht9⟩) w.2.1.2.2 dX4_isWithin_50
      · refine lv_iconst (v := nI 1) hx hb dX4_isWithin_45 (by decide) ?_
        refine lv_goto (tgt := 50) hx hb dX4_isWithin_46 (by decide) ?_
        exact W.zret (v := nI 1) hx hb hr rfl (fun t9 ht9 hW9 => ⟨⟨nI 1, (), rfl, bI_one (by rw [hE]; first | (simp [q_11_11, c_42_12]; done) | contradiction), fun k q h => by cases k <;> cases h⟩, w.2.1.F ht9⟩) w.2.1.2.2 dX4_isWithin_50
    · have q_11_11 : i < n := q_nle (by omega) (by omega) c_11_10
      refine lv_aload_n hx hb dX4_isWithin_14 rfl (lv_at hl 0 rfl) ?_
      refine lv_iload_n hx hb dX4_isWithin_15 rfl (lv_at hl 2 rfl) ?_
      refine b_calli w (va_runV (As := [.int y]) (rest := []) X (c_X4_has l hl0 G _ (h := h) (x := y) (o := o) (str := str) (n := n) ) (cwV 1 hts gX4_isWithin_X4_has rfl rfl rfl (by decide +kernel) ⟨Nat.le_of_ble_eq_true rfl, Nat.le_of_ble_eq_true rfl⟩) ⟨b_blind, b_recv E w (ci := 4) (q0 := 0) rfl rfl, (fun U9 hU9 hW9 => ⟨rfl, b_pre E Z0 w [0] (by decide) rfl b_nil U9 hU9 hW9⟩)⟩ rfl rfl hl.1 rfl (lv_room (Nat.le_of_ble_eq_true rfl)) dX4_isWithin_16 ⟨Nat.le_of_ble_eq_true rfl, Nat.le_of_ble_eq_true rfl⟩) b_nil [] (fun _ => rfl) rfl (fun r16_13 u16_13 H locs hr16_13 w => ?_)
      have w : bSt G vwCl [] s [(h, .inr (4, [.ref o, .int (nI str), .int (nI n)])), (o, .inl (G.2.1, cap, .inl f))] _ _ := w
      subst hr16_13
      refine lv_if_eq (tgt := 40) hx hb dX4_isWithin_19 (by decide) (fun c_19_14 => ?_) (fun c_19_14 => ?_)
      · have q_19_15 : (tHas n y) = false := bI_0.mp c_19_14
        have hE : tW f x n (nI k) = decide (y = x) := hW.trans (tW_out (tHas_not (by omega) hy q_19_15))
        refine lv_iload_n hx hb dX4_isWithin_40 rfl (lv_at hl 2 rfl) ?_
        refine lv_iload_n hx hb dX4_isWithin_41 rfl (lv_at hl 1 rfl) ?_
        refine lv_icmp_ne (tgt := 49) hx hb dX4_isWithin_42 (by decide) (fun c_42_16 => ?_) (fun c_42_16 => ?_)
        · refine lv_iconst (v := nI 0) hx hb dX4_isWithin_49 (by decide) ?_
          exact W.zret (v := nI 0) hx hb hr rfl (fun t9 ht9 hW9 => ⟨⟨nI 0, (), rfl, bI_zero (by rw [hE]; first | (simp [q_11_11, q_19_15, c_42_16]; done) | contradiction), fun k q h => by cases k <;> cases h⟩, w.2.1.F ht9⟩) w.2.1.2.2 dX4_isWithin_50
        · refine lv_iconst (v := nI 1) hx hb dX4_isWithin_45 (by decide) ?_
          refine lv_goto (tgt := 50) hx hb dX4_isWithin_46 (by decide) ?_
          exact W.zret (v := nI 1) hx hb hr rfl (fun t9 ht9 hW9 => ⟨⟨nI 1, (), rfl, bI_one (by rw [hE]; first | (simp [q_11_11, q_19_15, c_42_16]; done) | contradiction), fun k q h => by cases k <;> cases h⟩, w.2.1.F ht9⟩) w.2.1.2.2 dX4_isWithin_50
      · have q_19_15 : (tHas n y) = true := bI_n0.mp c_19_14
        obtain ⟨j, hj, rfl⟩ := tHas_yes hy q_19_15
        refine lv_iload_n hx hb dX4_isWithin_22 rfl (lv_at hl 2 rfl) ?_
        refine lv_iload_n hx hb dX4_isWithin_23 rfl (lv_at hl 1 rfl) ?_
        refine lv_icmp_eq (tgt := 40) hx hb dX4_isWithin_24 (by decide) (fun c_24_17 => ?_) (fun c_24_17 => ?_)
        · have hE : tW f x n (nI k) = decide (nI j = x) := hW.trans (tW_hit c_24_17)
          refine lv_iload_n hx hb dX4_isWithin_40 rfl (lv_at hl 2 rfl) ?_
          refine lv_iload_n hx hb dX4_isWithin_41 rfl (lv_at hl 1 rfl) ?_
          refine lv_icmp_ne (tgt := 49) hx hb dX4_isWithin_42 (by decide) (fun c_42_18 => ?_) (fun c_42_18 => ?_)
          · refine lv_iconst (v := nI 0) hx hb dX4_isWithin_49 (by decide) ?_
            exact W.zret (v := nI 0) hx hb hr rfl (fun t9 ht9 hW9 => ⟨⟨nI 0, (), rfl, bI_zero (by rw [hE]; first | (simp [q_11_11, q_19_15, c_24_17, c_42_18]; done) | contradiction), fun k q h => by cases k <;> cases h⟩, w.2.1.F ht9⟩) w.2.1.2.2 dX4_isWithin_50
          · refine lv_iconst (v := nI 1) hx hb dX4_isWithin_45 (by decide) ?_
            refine lv_goto (tgt := 50) hx hb dX4_isWithin_46 (by decide) ?_
            exact W.zret (v := nI 1) hx hb hr rfl (fun t9 ht9 hW9 => ⟨⟨nI 1, (), rfl, bI_one (by rw [hE]; first | (simp [q_11_11, q_19_15, c_24_17, c_42_18]; done) | contradiction), fun k q h => by cases k <;> cases h⟩, w.2.1.F ht9⟩) w.2.1.2.2 dX4_isWithin_50
        · have c24 := c_24_17
          refine lv_aload_n hx hb dX4_isWithin_27 rfl (lv_at hl 0 rfl) ?_
          refine b_get X E w 0 rfl rfl 0 (by decide) iX4 (by decide +kernel) rfl rfl dX4_isWithin_28 ?_
          refine lv_iload_n hx hb dX4_isWithin_31 rfl (lv_at hl 2 rfl) ?_
          refine b_iald X E w 1 rfl j rfl (by omega) (by first | decide | omega) dX4_isWithin_32 ?_
          refine lv_istore_n (lv' := [(3, .int (f j)), (0, .ref h), (2, .int x), (4, .int (nI i))]) hx hb dX4_isWithin_33 rfl hl (by decide) rfl (fun ls hl => ?_)
          refine lv_iinc (v := nI (i + 1)) (lv' := [(4, .int (nI (i + 1))), (3, .int (f j)), (0, .ref h), (2, .int x)]) hx hb dX4_isWithin_34 hl (k := 3) rfl (nI_add i 1) (by decide) rfl (fun ls hl => ?_)
          refine lv_goto (tgt := 5) hx hb dX4_isWithin_37 (by decide) ?_
          exact ih5 _ _ _ ⟨i + 1, f j, (by omega), (by omega), tI_next hT hj, hW.trans (tW_next (by omega) c24 (by omega)), w, lv_sub hl [2, 3, 1, 0] rfl⟩
set_option maxHeartbeats 4000000 in
set_option maxRecDepth 100000 in
theorem c_X0_change (l : Launch) (hl0 : l.stackTraces = false) (G : bG) (sz : Nat) (h q : Nat) (on : Nat → Bool) (sd a : Nat) (b : Bool) (hs : sd < 4) (ha : a < 14) : Met l yX0_change wsX0_change ({ frames := 0, cells := 0, slots := 0, locals := 0 }) (va_Pc [.ref h, .int (nI sd), .int (nI a), .int (bI b)] (bPre G vwCl bNW bSW sz [(h, .inr (0, [.ref q])), (q, .inl (G.2.2.1, 56, .inl (zB on)))] [q])) (va_Qi (fun (r : Int32) (_ : Unit) => r = bI ((on (14 * sd + a) != b))) (fun (_ : Unit) (tS : State) => va_P G.1 vwCl [(q, .inl (G.2.2.1, 56, .inl (zB (uB on (14 * sd + a) b))))] tS.heap) (Aw [q] sz)) 0 0 (Aw [q] sz) := by
  refine Met.ofW (cc := cX0_change) (maxL := 6) (ret := (some .boolean)) (by decide) rfl ?_
  intro p e s m args below meth c s₁ B hml hv
  obtain ⟨rfl, hsz, hP, hD, E, Z⟩ := hv
  have hts := atoms_spec (ws := wsX0_change) B.pre
  have hown : s.vm.findClass RX0 = some m.cls := findClass_of_methodNamed B.named
  have X : CallFix p m c cX0_change 6 s _ wsX0_change RX0 := ⟨B.exec, B.bytes, hml, hown, hts⟩
  have hx := B.exec
  have hb := B.bytes
  have hr := B.returns
  have hlocks := B.notSynchronized
  subst hsz
  have w : bSt G vwCl [] s [(h, .inr (0, [.ref q])), (q, .inl (G.2.2.1, 56, .inl (zB on)))] s.heap [] := ⟨hP, va_S.rf, hD⟩
  have Z0 : bZ [] s := ⟨Z.1.narrow (fun q h => h.elim (fun h => nomatch h) Or.inr), Z.2.narrow (fun q h => h.elim (fun h => nomatch h) Or.inr)⟩
  have iX0 : ∀ w ∈ wsX00, w ∈ wsX0_change := by decide +kernel
  have hl := lv_entry ([.ref h, .int (nI sd), .int (nI a), .int (bI b)]) (n := 6) (Nat.le_of_ble_eq_true rfl)
  rw [lg_entry_eq]
  generalize (lg_sl ([.ref h, .int (nI sd), .int (nI a), .int (bI b)]) ++ List.replicate (6 - (lg_sl ([.ref h, .int (nI sd), .int (nI a), .int (bI b)])).length) Slot.unset).toArray = ls at hl ⊢
  have hl : lv_has ls 6 [(0, .ref h), (1, .int (nI sd)), (2, .int (nI a)), (3, .int (bI b))] := hl
  refine lv_iload_n hx hb dX0_change_0 rfl (lv_at hl 1 rfl) ?_
  refine lv_bipush (v := nI 14) hx hb dX0_change_1 (by decide) ?_
  refine lv_imul hx hb dX0_change_3 ?_
  refine b_tp (show (nI sd) * (nI 14) = nI (14 * sd) from mulc sd 14) ?_
  refine lv_iload_n hx hb dX0_change_4 rfl (lv_at hl 2 rfl) ?_
  refine lv_iadd hx hb dX0_change_5 ?_
  refine b_tp (show (nI (14 * sd)) + (nI a) = nI ((14 * sd) + a) from nI_add (14 * sd) a) ?_
  refine lv_istore (lv' := [(4, .int (nI ((14 * sd) + a))), (0, .ref h), (1, .int (nI sd)), (2, .int (nI a)), (3, .int (bI b))]) hx hb dX0_change_6 hl (by decide) rfl (fun ls hl => ?_)
  refine lv_aload_n hx hb dX0_change_8 rfl (lv_at hl 1 rfl) ?_
  refine b_get X E w 0 rfl rfl 0 (by decide) iX0 (by decide +kernel) rfl rfl dX0_change_9 ?_
  refine lv_iload hx hb dX0_change_12 (lv_at hl 0 rfl) ?_
  refine b_zald X E w 1 rfl ((14 * sd) + a) rfl (by omega) (by first | decide | omega) dX0_change_14 ?_
  refine b_tp (show zB on ((14 * sd) + a) = bI (on ((14 * sd) + a)) from rfl) ?_
  refine lv_iload_n hx hb dX0_change_15 rfl (lv_at hl 4 rfl) ?_
  refine lv_icmp_eq (tgt := 23) hx hb dX0_change_16 (by decide) (fun c_16_3 => ?_) (fun c_16_3 => ?_)
  · have q_16_4 : (on ((14 * sd) + a)) = b := bI_inj.mp c_16_3
    refine lv_iconst (v := nI 0) hx hb dX0_change_23 (by decide) ?_
    refine lv_istore (lv' := [(5, .int (nI 0)), (4, .int (nI ((14 * sd) + a))), (0, .ref h), (1, .int (nI sd)), (2, .int (nI a)), (3, .int (bI b))]) hx hb dX0_change_24 hl (by decide) rfl (fun ls hl => ?_)
    refine lv_aload_n hx hb dX0_change_26 rfl (lv_at hl 2 rfl) ?_
    refine b_get X E w 0 rfl rfl 0 (by decide) iX0 (by decide +kernel) rfl rfl dX0_change_27 ?_
    refine lv_iload hx hb dX0_change_30 (lv_at hl 1 rfl) ?_
    refine lv_iload_n hx hb dX0_change_32 rfl (lv_at hl 5 rfl) ?_
    have w := b_wide [q] b_nil w
    refine b_zast X E w (Or.inl (List.mem_of_getElem? (i := 0) rfl)) 1 rfl ((14 * sd) + a) rfl (by omega) (by first | decide | omega) (bI_01 _) dX0_change_33 (fun H locs w => ?_)
    rw [zB_upd] at w
    have w : bSt G vwCl [q] s [(h, .inr (0, [.ref q])), (q, .inl (G.2.2.1, 56, .inl (zB (uB on ((14 * sd) + a) b))))] _ _ := w
    refine lv_iload hx hb dX0_change_34 (lv_at hl 0 rfl) ?_
    exact W.zret (v := nI 0) hx hb hr rfl (fun t9 ht9 hW9 => ⟨⟨nI 0, (), rfl, bI_zero (by simp [q_16_4]), by show va_P G.1 vwCl _ t9.heap; rw [ht9]; exact b_cg (rfl) (w.1.sub (ws' := [(q, .inl (G.2.2.1, 56, .inl (zB (uB on ((14 * sd) + a) b))))]) [1] rfl)⟩, w.2.1.F ht9⟩) w.2.1.2.2 dX0_change_36
  · have q_16_4 : ¬ (on ((14 * sd) + a)) = b := fun h9 => c_16_3 (bI_inj.mpr h9)
    refine lv_iconst (v := nI 1) hx hb dX0_change_19 (by decide) ?_
    refine lv_goto (tgt := 24) hx hb dX0_change_20 (by decide) ?_
    refine lv_istore (lv' := [(5, .int (nI 1)), (4, .int (nI ((14 * sd) + a))), (0, .ref h), (1, .int (nI sd)), (2, .int (nI a)), (3, .int (bI b))]) hx hb dX0_change_24 hl (by decide) rfl (fun ls hl => ?_)
    refine lv_aload_n hx hb dX0_change_26 rfl (lv_at hl 2 rfl) ?_
    refine b_get X E w 0 rfl rfl 0 (by decide) iX0 (by decide +kernel) rfl rfl dX0_change_27 ?_
    refine lv_iload hx hb dX0_change_30 (lv_at hl 1 rfl) ?_
    refine lv_iload_n hx hb dX0_change_32 rfl (lv_at hl 5 rfl) ?_
    have w := b_wide [q] b_nil w
    refine b_zast X E w (Or.inl (List.mem_of_getElem? (i := 0) rfl)) 1 rfl ((14 * sd) + a) rfl (by omega) (by first | decide | omega) (bI_01 _) dX0_change_33 (fun H locs w => ?_)
    rw [zB_upd] at w
    have w : bSt G vwCl [q] s [(h, .inr (0, [.ref q])), (q, .inl (G.2.2.1, 56, .inl (zB (uB on ((14 * sd) + a) b))))] _ _ := w
    refine lv_iload hx hb dX0_change_34 (lv_at hl 0 rfl) ?_
    exact W.zret (v := nI 1) hx hb hr rfl (fun t9 ht9 hW9 => ⟨⟨nI 1, (), rfl, bI_one (by simp [q_16_4]), by show va_P G.1 vwCl _ t9.heap; rw [ht9]; exact b_cg (rfl) (w.1.sub (ws' := [(q, .inl (G.2.2.1, 56, .inl (zB (uB on ((14 * sd) + a) b))))]) [1] rfl)⟩, w.2.1.F ht9⟩) w.2.1.2.2 dX0_change_36
set_option maxHeartbeats 4000000 in
set_option maxRecDepth 100000 in
theorem c_X0_cover (l : Launch) (hl0 : l.stackTraces = false) (G : bG) (sz : Nat) (h q : Nat) (on : Nat → Bool) (sd a : Nat) (th o cap str n : Nat) (f : Nat → Int32) (hs : sd < 4) (ha : a < n) (hn : n ≤ cap) (hc : cap ≤ 14) (hT : TI f n) : Met l yX0_cover wsX0_cover ({ frames := 2, cells := 0, slots := 0, locals := 45 }) (va_Pc [.ref h, .int (nI sd), .int (nI a), .ref th] (bPre G vwCl bNW bSW sz [(h, .inr (0, [.ref q])), (q, .inl (G.2.2.1, 56, .inl (zB on))), (th, .inr (4, [.ref o, .int (nI str), .int (nI n)])), (o, .inl (G.2.1, cap, .inl f))] [])) (va_Qi (fun (r : Int32) (_ : Unit) => r = bI (anyB (fun k => on (14 * sd + k) && tW f (nI k) n (nI a)) n)) (fun (_ : Unit) (tS : State) => va_P G.1 vwCl [] tS.heap) (Aw [] sz)) 0 0 (Aw [] sz) := by
  refine Met.ofW (cc := cX0_cover) (maxL := 5) (ret := (some .boolean)) (by decide) rfl ?_
  intro p e s m args below meth c s₁ B hml hv
  obtain ⟨rfl, hsz, hP, hD, E, Z⟩ := hv
  have hts := atoms_spec (ws := wsX0_cover) B.pre
  have hown : s.vm.findClass RX0 = some m.cls := findClass_of_methodNamed B.named
  have X : CallFix p m c cX0_cover 5 s _ wsX0_cover RX0 := ⟨B.exec, B.bytes, hml, hown, hts⟩
  have hx := B.exec
  have hb := B.bytes
  have hr := B.returns
  have hlocks := B.notSynchronized
  subst hsz
  have w : bSt G vwCl [] s [(h, .inr (0, [.ref q])), (q, .inl (G.2.2.1, 56, .inl (zB on))), (th, .inr (4, [.ref o, .int (nI str), .int (nI n)])), (o, .inl (G.2.1, cap, .inl f))] s.heap [] := ⟨hP, va_S.rf, hD⟩
  have Z0 : bZ [] s := ⟨Z.1.narrow (fun q h => h.elim (fun h => nomatch h) Or.inr), Z.2.narrow (fun q h => h.elim (fun h => nomatch h) Or.inr)⟩
  have iX0 : ∀ w ∈ wsX00, w ∈ wsX0_cover := by decide +kernel
  have iX4 : ∀ w ∈ wsX40, w ∈ wsX0_cover := by decide +kernel
  have hl := lv_entry ([.ref h, .int (nI sd), .int (nI a), .ref th]) (n := 5) (Nat.le_of_ble_eq_true rfl)
  rw [lg_entry_eq]
  generalize (lg_sl ([.ref h, .int (nI sd), .int (nI a), .ref th]) ++ List.replicate (5 - (lg_sl ([.ref h, .int (nI sd), .int (nI a), .ref th])).length) Slot.unset).toArray = ls at hl ⊢
  have hl : lv_has ls 5 [(0, .ref h), (1, .int (nI sd)), (2, .int (nI a)), (3, .ref th)] := hl
  refine lv_iconst (v := nI 0) hx hb dX0_cover_0 (by decide) ?_
  refine lv_istore (lv' := [(4, .int (nI 0)), (0, .ref h), (1, .int (nI sd)), (2, .int (nI a)), (3, .ref th)]) hx hb dX0_cover_1 hl (by decide) rfl (fun ls hl => ?_)
  refine b_loop (pc := 3) (st := []) (fun (fuel : Nat) (H : Heap) (locs : List Loc) (ls : Array Slot) => ∃ (k : Nat), (k ≤ n) ∧ (n + 1 ≤ k + fuel) ∧ (∀ j, j < k → (fun k => on (14 * sd + k) && tW f (nI k) n (nI a)) j = false) ∧ bSt G vwCl [] s [(h, .inr (0, [.ref q])), (q, .inl (G.2.2.1, 56, .inl (zB on))), (th, .inr (4, [.ref o, .int (nI str), .int (nI n)])), (o, .inl (G.2.1, cap, .inl f))] H locs ∧ lv_has ls 5 [(0, .ref h), (1, .int (nI sd)), (2, .int (nI a)), (3, .ref th), (4, .int (nI k))]) (fun H locs ls h9 => ?_) (fun fuel H locs ls hI ih3 => ?_) (n + 1) ⟨0, (by omega), (by omega), fun j hj => absurd hj (Nat.not_lt_zero j), w, lv_sub hl [1, 2, 3, 4, 0] rfl⟩
  · obtain ⟨k, hk, hf, hno, w, hl⟩ := h9
    omega
  · obtain ⟨k, hk, hf, hno, w, hl⟩ := hI
    refine lv_iload hx hb dX0_cover_3 (lv_at hl 4 rfl) ?_
    refine lv_aload_n hx hb dX0_cover_5 rfl (lv_at hl 3 rfl) ?_
    refine b_getN (host := "Figurehouse") X E w 2 rfl rfl 2 (by decide) iX4 (by decide +kernel) rfl rfl dX0_cover_6 ?_
    refine lv_icmp_ge (tgt := 45) hx hb dX0_cover_9 (by decide) (fun c_9_8 => ?_) (fun c_9_8 => ?_)
    · have q_9_9 : n ≤ k := q_le (by omega) (by omega) c_9_8
      refine lv_iconst (v := nI 0) hx hb dX0_cover_45 (by decide) ?_
      exact W.zret (v := nI 0) hx hb hr rfl (fun t9 ht9 hW9 => ⟨⟨nI 0, (), rfl, bI_zero (anyB_no (fun j hj => hno j (by omega))), fun k q h => by cases k <;> cases h⟩, w.2.1.F ht9⟩) w.2.1.2.2 dX0_cover_46
    · have q_9_9 : k < n := q_nle (by omega) (by omega) c_9_8
      refine lv_aload_n hx hb dX0_cover_12 rfl (lv_at hl 0 rfl) ?_
      refine b_get X E w 0 rfl rfl 0 (by decide) iX0 (by decide +kernel) rfl rfl dX0_cover_13 ?_
      refine lv_iload_n hx hb dX0_cover_16 rfl (lv_at hl 1 rfl) ?_
      refine lv_bipush (v := nI 14) hx hb dX0_cover_17 (by decide) ?_
      refine lv_imul hx hb dX0_cover_19 ?_
      refine b_tp (show (nI sd) * (nI 14) = nI (14 * sd) from mulc sd 14) ?_
      refine lv_iload hx hb dX0_cover_20 (lv_at hl 4 rfl) ?_
      refine lv_iadd hx hb dX0_cover_22 ?_
      refine b_tp (show (nI (14 * sd)) + (nI k) = nI ((14 * sd) + k) from nI_add (14 * sd) k) ?_
      refine b_zald X E w 1 rfl ((14 * sd) + k) rfl (by omega) (by first | decide | omega) dX0_cover_23 ?_
      refine b_tp (show zB on ((14 * sd) + k) = bI (on ((14 * sd) + k)) from rfl) ?_
      refine lv_if_eq (tgt := 39) hx hb dX0_cover_24 (by decide) (fun c_24_10 => ?_) (fun c_24_10 => ?_)
      · have q_24_11 : (on ((14 * sd) + k)) = false := bI_0.mp c_24_10
        refine lv_iinc (v := nI (k + 1)) (lv' := [(4, .int (nI (k + 1))), (0, .ref h), (1, .int (nI sd)), (2, .int (nI a)), (3, .ref th)]) hx hb dX0_cover_39 hl (k := 4) rfl (nI_add k 1) (by decide) rfl (fun ls hl => ?_)
        refine lv_goto (tgt := 3) hx hb dX0_cover_42 (by decide) ?_
        exact ih3 _ _ _ ⟨k + 1, (by omega), (by omega), allN_s hno (by simp [q_9_9, q_24_11]), w, lv_sub hl [1, 2, 3, 4, 0] rfl⟩
      · have q_24_11 : (on ((14 * sd) + k)) = true := bI_n0.mp c_24_10
        refine lv_aload_n hx hb dX0_cover_27 rfl (lv_at hl 3 rfl) ?_
        refine lv_iload_n hx hb dX0_cover_28 rfl (lv_at hl 2 rfl) ?_
        refine lv_iload hx hb dX0_cover_29 (lv_at hl 4 rfl) ?_
        refine b_calli w (va_runV (As := [.int (nI a), .int (nI k)]) (rest := []) X (c_X4_isWithin l hl0 G _ (h := th) (k := a) (x := nI k) (o := o) (str := str) (n := n) (cap := cap) (f := f) (hk := (by first | assumption | omega)) (hn := (by first | assumption | omega)) (hc := (by first | assumption | omega)) (hT := (by first | assumption | omega))) (cwV 2 hts gX0_cover_X4_isWithin rfl rfl rfl (by decide +kernel) ⟨Nat.le_of_ble_eq_true rfl, Nat.le_of_ble_eq_true rfl⟩) ⟨b_blind, b_recv E w (ci := 4) (q0 := 2) rfl rfl, (fun U9 hU9 hW9 => ⟨rfl, b_pre E Z0 w [2, 3] (by decide) rfl b_nil U9 hU9 hW9⟩)⟩ rfl rfl hl.1 rfl (lv_room (Nat.le_of_ble_eq_true rfl)) dX0_cover_31 ⟨Nat.le_of_ble_eq_true rfl, Nat.le_of_ble_eq_true rfl⟩) b_nil [] (fun _ => rfl) rfl (fun r31_12 u31_12 H locs hr31_12 w => ?_)
        have w : bSt G vwCl [] s [(h, .inr (0, [.ref q])), (q, .inl (G.2.2.1, 56, .inl (zB on))), (th, .inr (4, [.ref o, .int (nI str), .int (nI n)])), (o, .inl (G.2.1, cap, .inl f))] _ _ := w
        subst hr31_12
        refine lv_if_eq (tgt := 39) hx hb dX0_cover_34 (by decide) (fun c_34_13 => ?_) (fun c_34_13 => ?_)
        · have q_34_14 : (tW f (nI k) n (nI a)) = false := bI_0.mp c_34_13
          refine lv_iinc (v := nI (k + 1)) (lv' := [(4, .int (nI (k + 1))), (0, .ref h), (1, .int (nI sd)), (2, .int (nI a)), (3, .ref th)]) hx hb dX0_cover_39 hl (k := 4) rfl (nI_add k 1) (by decide) rfl (fun ls hl => ?_)
          refine lv_goto (tgt := 3) hx hb dX0_cover_42 (by decide) ?_
          exact ih3 _ _ _ ⟨k + 1, (by omega), (by omega), allN_s hno (by simp [q_9_9, q_24_11, q_34_14]), w, lv_sub hl [1, 2, 3, 4, 0] rfl⟩
        · have q_34_14 : (tW f (nI k) n (nI a)) = true := bI_n0.mp c_34_13
          refine lv_iconst (v := nI 1) hx hb dX0_cover_37 (by decide) ?_
          exact W.zret (v := nI 1) hx hb hr rfl (fun t9 ht9 hW9 => ⟨⟨nI 1, (), rfl, bI_one (anyB_iff.mpr ⟨k, by omega, by simp [q_9_9, q_24_11, q_34_14]⟩), fun k q h => by cases k <;> cases h⟩, w.2.1.F ht9⟩) w.2.1.2.2 dX0_cover_38
set_option maxHeartbeats 4000000 in
set_option maxRecDepth 100000 in
theorem c_X2_isFull (l : Launch) (hl0 : l.stackTraces = false) (G : bG) (sz : Nat) (h qw qa qc qv dn : Nat) (hd : dn ≤ 16) : Met l yX2_isFull wsX2_isFull ({ frames := 0, cells := 0, slots := 0, locals := 0 }) (va_Pc [.ref h] (bPre G vwCl bNW bSW sz [(h, .inr (2, [.ref qw, .ref qa, .ref qc, .ref qv, .int (nI dn)]))] [])) (va_Qi (fun (r : Int32) (_ : Unit) => r = bI (decide (16 ≤ dn))) (fun (_ : Unit) (tS : State) => va_P G.1 vwCl [] tS.heap) (Aw [] sz)) 0 0 (Aw [] sz) := by
  refine Met.ofW (cc := cX2_isFull) (maxL := 1) (ret := (some .boolean)) (by decide) rfl ?_
  intro p e s m args below meth c s₁ B hml hv
  obtain ⟨rfl, hsz, hP, hD, E, Z⟩ := hv
  have hts := atoms_spec (ws := wsX2_isFull) B.pre
  have hown : s.vm.findClass RX2 = some m.cls := findClass_of_methodNamed B.named
  have X : CallFix p m c cX2_isFull 1 s _ wsX2_isFull RX2 := ⟨B.exec, B.bytes, hml, hown, hts⟩
  have hx := B.exec
  have hb := B.bytes
  have hr := B.returns
  have hlocks := B.notSynchronized
  subst hsz
  have w : bSt G vwCl [] s [(h, .inr (2, [.ref qw, .ref qa, .ref qc, .ref qv, .int (nI dn)]))] s.heap [] := ⟨hP, va_S.rf, hD⟩
  have Z0 : bZ [] s := ⟨Z.1.narrow (fun q h => h.elim (fun h => nomatch h) Or.inr), Z.2.narrow (fun q h => h.elim (fun h => nomatch h) Or.inr)⟩
  have iX2 : ∀ w ∈ wsX20, w ∈ wsX2_isFull := by decide +kernel
  have hl := lv_entry ([.ref h]) (n := 1) (Nat.le_of_ble_eq_true rfl)
  rw [lg_entry_eq]
  generalize (lg_sl ([.ref h]) ++ List.replicate (1 - (lg_sl ([.ref h])).length) Slot.unset).toArray = ls at hl ⊢
  have hl : lv_has ls 1 [(0, .ref h)] := hl
  refine lv_aload_n hx hb dX2_isFull_0 rfl (lv_at hl 0 rfl) ?_
  refine b_get X E w 0 rfl rfl 4 (by decide) iX2 (by decide +kernel) rfl rfl dX2_isFull_1 ?_
  refine lv_bipush (v := nI 16) hx hb dX2_isFull_4 (by decide) ?_
  refine lv_icmp_lt (tgt := 13) hx hb dX2_isFull_6 (by decide) (fun c_6_3 => ?_) (fun c_6_3 => ?_)
  · have q_6_4 : dn < 16 := q_lt (by omega) (by omega) c_6_3
    refine lv_iconst (v := nI 0) hx hb dX2_isFull_13 (by decide) ?_
    exact W.zret (v := nI 0) hx hb hr rfl (fun t9 ht9 hW9 => ⟨⟨nI 0, (), rfl, bI_zero (by simp [q_6_4]; try omega), fun k q h => by cases k <;> cases h⟩, w.2.1.F ht9⟩) w.2.1.2.2 dX2_isFull_14
  · have q_6_4 : 16 ≤ dn := q_nlt (by omega) (by omega) c_6_3
    refine lv_iconst (v := nI 1) hx hb dX2_isFull_9 (by decide) ?_
    refine lv_goto (tgt := 14) hx hb dX2_isFull_10 (by decide) ?_
    exact W.zret (v := nI 1) hx hb hr rfl (fun t9 ht9 hW9 => ⟨⟨nI 1, (), rfl, bI_one (by simp [q_6_4]; try omega), fun k q h => by cases k <;> cases h⟩, w.2.1.F ht9⟩) w.2.1.2.2 dX2_isFull_14
set_option maxHeartbeats 4000000 in
set_option maxRecDepth 100000 in
theorem c_X2_append (l : Launch) (hl0 : l.stackTraces = false) (G : bG) (sz : Nat) (h qw qa qc qv dn : Nat) (dw da dc dv : Nat → Int32) (x1 x2 x3 x4 : Int32) (hd : dn < 16) : Met l yX2_append wsX2_append ({ frames := 0, cells := 0, slots := 0, locals := 0 }) (va_Pc [.ref h, .int x1, .int x2, .int x3, .int x4] (bPre G vwCl bNW bSW sz [(h, .inr (2, [.ref qw, .ref qa, .ref qc, .ref qv, .int (nI dn)])), (qw, .inl (G.2.1, 16, .inl dw)), (qa, .inl (G.2.1, 16, .inl da)), (qc, .inl (G.2.1, 16, .inl dc)), (qv, .inl (G.2.1, 16, .inl dv))] [h, qw, qa, qc, qv])) (va_Qi (fun (r : Int32) (_ : Unit) => r = nI (dn + 1)) (fun (_ : Unit) (tS : State) => va_P G.1 vwCl [(h, .inr (2, [.ref qw, .ref qa, .ref qc, .ref qv, .int (nI (dn + 1))])), (qw, .inl (G.2.1, 16, .inl (upd dw dn x1))), (qa, .inl (G.2.1, 16, .inl (upd da dn x2))), (qc, .inl (G.2.1, 16, .inl (upd dc dn x3))), (qv, .inl (G.2.1, 16, .inl (upd dv dn x4)))] tS.heap) (Aw [h, qw, qa, qc, qv] sz)) 0 0 (Aw [h, qw, qa, qc, qv] sz) := by
  refine Met.ofW (cc := cX2_append) (maxL := 5) (ret := (some .int)) (by decide) rfl ?_
  intro p e s m args below meth c s₁ B hml hv
  obtain ⟨rfl, hsz, hP, hD, E, Z⟩ := hv
  have hts := atoms_spec (ws := wsX2_append) B.pre
  have hown : s.vm.findClass RX2 = some m.cls := findClass_of_methodNamed B.named
  have X : CallFix p m c cX2_append 5 s _ wsX2_append RX2 := ⟨B.exec, B.bytes, hml, hown, hts⟩
  have hx := B.exec
  have hb := B.bytes
  have hr := B.returns
  have hlocks := B.notSynchronized
  subst hsz
  have w : bSt G vwCl [] s [(h, .inr (2, [.ref qw, .ref qa, .ref qc, .ref qv, .int (nI dn)])), (qw, .inl (G.2.1, 16, .inl dw)), (qa, .inl (G.2.1, 16, .inl da)), (qc, .inl (G.2.1, 16, .inl dc)), (qv, .inl (G.2.1, 16, .inl dv))] s.heap [] := ⟨hP, va_S.rf, hD⟩
  have Z0 : bZ [] s := ⟨Z.1.narrow (fun q h => h.elim (fun h => nomatch h) Or.inr), Z.2.narrow (fun q h => h.elim (fun h => nomatch h) Or.inr)⟩
  have iX2 : ∀ w ∈ wsX20, w ∈ wsX2_append := by decide +kernel
  have hl := lv_entry ([.ref h, .int x1, .int x2, .int x3, .int x4]) (n := 5) (Nat.le_of_ble_eq_true rfl)
  rw [lg_entry_eq]
  generalize (lg_sl ([.ref h, .int x1, .int x2, .int x3, .int x4]) ++ List.replicate (5 - (lg_sl ([.ref h, .int x1, .int x2, .int x3, .int x4])).length) Slot.unset).toArray = ls at hl ⊢
  have hl : lv_has ls 5 [(0, .ref h), (1, .int x1), (2, .int x2), (3, .int x3), (4, .int x4)] := hl
  refine lv_aload_n hx hb dX2_append_0 rfl (lv_at hl 0 rfl) ?_
  refine b_get X E w 0 rfl rfl 4 (by decide) iX2 (by decide +kernel) rfl rfl dX2_append_1 ?_
  refine lv_bipush (v := nI 16) hx hb dX2_append_4 (by decide) ?_
  refine lv_icmp_ge (tgt := 60) hx hb dX2_append_6 (by decide) (fun c_6_3 => ?_) (fun c_6_3 => ?_)
  · exact absurd (q_le (by omega) (by omega) c_6_3) (by omega)
  · have q_6_4 : dn < 16 := q_nle (by omega) (by omega) c_6_3
    refine lv_aload_n hx hb dX2_append_9 rfl (lv_at hl 0 rfl) ?_
    refine b_get X E w 0 rfl rfl 0 (by decide) iX2 (by decide +kernel) rfl rfl dX2_append_10 ?_
    refine lv_aload_n hx hb dX2_append_13 rfl (lv_at hl 0 rfl) ?_
    refine b_get X E w 0 rfl rfl 4 (by decide) iX2 (by decide +kernel) rfl rfl dX2_append_14 ?_
    refine lv_iload_n hx hb dX2_append_17 rfl (lv_at hl 1 rfl) ?_
    have w := b_wide [h, qw, qa, qc, qv] b_nil w
    refine b_iast X E w (Or.inl (List.mem_of_getElem? (i := 1) rfl)) 1 rfl dn rfl (by omega) (by first | decide | omega) dX2_append_18 (fun H locs w => ?_)
    have w : bSt G vwCl [h, qw, qa, qc, qv] s [(h, .inr (2, [.ref qw, .ref qa, .ref qc, .ref qv, .int (nI dn)])), (qw, .inl (G.2.1, 16, .inl (upd dw dn x1))), (qa, .inl (G.2.1, 16, .inl da)), (qc, .inl (G.2.1, 16, .inl dc)), (qv, .inl (G.2.1, 16, .inl dv))] _ _ := w
    refine lv_aload_n hx hb dX2_append_19 rfl (lv_at hl 0 rfl) ?_
    refine b_get X E w 0 rfl rfl 1 (by decide) iX2 (by decide +kernel) rfl rfl dX2_append_20 ?_
    refine lv_aload_n hx hb dX2_append_23 rfl (lv_at hl 0 rfl) ?_
    refine b_get X E w 0 rfl rfl 4 (by decide) iX2 (by decide +kernel) rfl rfl dX2_append_24 ?_
    refine lv_iload_n hx hb dX2_append_27 rfl (lv_at hl 2 rfl) ?_
    refine b_iast X E w (Or.inl (List.mem_of_getElem? (i := 2) rfl)) 2 rfl dn rfl (by omega) (by first | decide | omega) dX2_append_28 (fun H locs w => ?_)
    have w : bSt G vwCl [h, qw, qa, qc, qv] s [(h, .inr (2, [.ref qw, .ref qa, .ref qc, .ref qv, .int (nI dn)])), (qw, .inl (G.2.1, 16, .inl (upd dw dn x1))), (qa, .inl (G.2.1, 16, .inl (upd da dn x2))), (qc, .inl (G.2.1, 16, .inl dc)), (qv, .inl (G.2.1, 16, .inl dv))] _ _ := w
    refine lv_aload_n hx hb dX2_append_29 rfl (lv_at hl 0 rfl) ?_
    refine b_get X E w 0 rfl rfl 2 (by decide) iX2 (by decide +kernel) rfl rfl dX2_append_30 ?_
    refine lv_aload_n hx hb dX2_append_33 rfl (lv_at hl 0 rfl) ?_
    refine b_get X E w 0 rfl rfl 4 (by decide) iX2 (by decide +kernel) rfl rfl dX2_append_34 ?_
    refine lv_iload_n hx hb dX2_append_37 rfl (lv_at hl 3 rfl) ?_
    refine b_iast X E w (Or.inl (List.mem_of_getElem? (i := 3) rfl)) 3 rfl dn rfl (by omega) (by first | decide | omega) dX2_append_38 (fun H locs w => ?_)
    have w : bSt G vwCl [h, qw, qa, qc, qv] s [(h, .inr (2, [.ref qw, .ref qa, .ref qc, .ref qv, .int (nI dn)])), (qw, .inl (G.2.1, 16, .inl (upd dw dn x1))), (qa, .inl (G.2.1, 16, .inl (upd da dn x2))), (qc, .inl (G.2.1, 16, .inl (upd dc dn x3))), (qv, .inl (G.2.1, 16, .inl dv))] _ _ := w
    refine lv_aload_n hx hb dX2_append_39 rfl (lv_at hl 0 rfl) ?_
    refine b_get X E w 0 rfl rfl 3 (by decide) iX2 (by decide +kernel) rfl rfl dX2_append_40 ?_
    refine lv_aload_n hx hb dX2_append_43 rfl (lv_at hl 0 rfl) ?_
    refine b_get X E w 0 rfl rfl 4 (by decide) iX2 (by decide +kernel) rfl rfl dX2_append_44 ?_
    refine lv_iload hx hb dX2_append_47 (lv_at hl 4 rfl) ?_
    refine b_iast X E w (Or.inl (List.mem_of_getElem? (i := 4) rfl)) 4 rfl dn rfl (by omega) (by first | decide | omega) dX2_append_49 (fun H locs w => ?_)
    have w : bSt G vwCl [h, qw, qa, qc, qv] s [(h, .inr (2, [.ref qw, .ref qa, .ref qc, .ref qv, .int (nI dn)])), (qw, .inl (G.2.1, 16, .inl (upd dw dn x1))), (qa, .inl (G.2.1, 16, .inl (upd da dn x2))), (qc, .inl (G.2.1, 16, .inl (upd dc dn x3))), (qv, .inl (G.2.1, 16, .inl (upd dv dn x4)))] _ _ := w
    refine lv_aload_n hx hb dX2_append_50 rfl (lv_at hl 0 rfl) ?_
    refine lv_dup hx hb dX2_append_51 rfl ?_
    refine b_get X E w 0 rfl rfl 4 (by decide) iX2 (by decide +kernel) rfl rfl dX2_append_52 ?_
    refine lv_iconst (v := nI 1) hx hb dX2_append_55 (by decide) ?_
    refine lv_iadd hx hb dX2_append_56 ?_
    refine b_tp (show (nI dn) + (nI 1) = nI (dn + 1) from nI_add dn 1) ?_
    refine b_put (ty := .int) X E w (Or.inl (List.mem_of_getElem? (i := 0) rfl)) 0 rfl rfl 4 (by decide) iX2 tyX2 tyX2_ok nmX2 (by decide +kernel) rfl rfl (by decide +kernel) rfl rfl (Nat.le_of_ble_eq_true rfl) dX2_append_57 (fun H locs w => ?_)
    have w : bSt G vwCl [h, qw, qa, qc, qv] s [(h, .inr (2, [.ref qw, .ref qa, .ref qc, .ref qv, .int (nI (dn + 1))])), (qw, .inl (G.2.1, 16, .inl (upd dw dn x1))), (qa, .inl (G.2.1, 16, .inl (upd da dn x2))), (qc, .inl (G.2.1, 16, .inl (upd dc dn x3))), (qv, .inl (G.2.1, 16, .inl (upd dv dn x4)))] _ _ := w
    refine lv_aload_n hx hb dX2_append_60 rfl (lv_at hl 0 rfl) ?_
    refine b_get X E w 0 rfl rfl 4 (by decide) iX2 (by decide +kernel) rfl rfl dX2_append_61 ?_
    exact W.iret (v := nI (dn + 1)) hx hb hr (fun t9 ht9 hW9 => ⟨⟨nI (dn + 1), (), rfl, rfl, by show va_P G.1 vwCl _ t9.heap; rw [ht9]; exact b_cg (rfl) (w.1.sub (ws' := [(h, .inr (2, [.ref qw, .ref qa, .ref qc, .ref qv, .int (nI (dn + 1))])), (qw, .inl (G.2.1, 16, .inl (upd dw dn x1))), (qa, .inl (G.2.1, 16, .inl (upd da dn x2))), (qc, .inl (G.2.1, 16, .inl (upd dc dn x3))), (qv, .inl (G.2.1, 16, .inl (upd dv dn x4)))]) [0, 1, 2, 3, 4] rfl)⟩, w.2.1.F ht9⟩) w.2.1.2.2 dX2_append_64
set_option maxHeartbeats 4000000 in
set_option maxRecDepth 100000 in
theorem c_X2_figureBehind (l : Launch) (hl0 : l.stackTraces = false) (G : bG) (sz : Nat) (h qw qa qc qv dn : Nat) (dw dv : Nat → Int32) (k : Nat) (hk : k < 16) : Met l yX2_figureBehind wsX2_figureBehind ({ frames := 0, cells := 0, slots := 0, locals := 0 }) (va_Pc [.ref h, .int (nI k)] (bPre G vwCl bNW bSW sz [(h, .inr (2, [.ref qw, .ref qa, .ref qc, .ref qv, .int (nI dn)])), (qw, .inl (G.2.1, 16, .inl dw)), (qv, .inl (G.2.1, 16, .inl dv))] [])) (va_Qi (fun (r : Int32) (_ : Unit) => r = (if dw k = nI 2 then MIS else dv k)) (fun (_ : Unit) (tS : State) => va_P G.1 vwCl [] tS.heap) (Aw [] sz)) 0 0 (Aw [] sz) := by
  refine Met.ofW (cc := cX2_figureBehind) (maxL := 2) (ret := (some .int)) (by decide) rfl ?_
  intro p e s m args below meth c s₁ B hml hv
  obtain ⟨rfl, hsz, hP, hD, E, Z⟩ := hv
  have hts := atoms_spec (ws := wsX2_figureBehind) B.pre
  have hown : s.vm.findClass RX2 = some m.cls := findClass_of_methodNamed B.named
  have X : CallFix p m c cX2_figureBehind 2 s _ wsX2_figureBehind RX2 := ⟨B.exec, B.bytes, hml, hown, hts⟩
  have hx := B.exec
  have hb := B.bytes
  have hr := B.returns
  have hlocks := B.notSynchronized
  subst hsz
  have w : bSt G vwCl [] s [(h, .inr (2, [.ref qw, .ref qa, .ref qc, .ref qv, .int (nI dn)])), (qw, .inl (G.2.1, 16, .inl dw)), (qv, .inl (G.2.1, 16, .inl dv))] s.heap [] := ⟨hP, va_S.rf, hD⟩
  have Z0 : bZ [] s := ⟨Z.1.narrow (fun q h => h.elim (fun h => nomatch h) Or.inr), Z.2.narrow (fun q h => h.elim (fun h => nomatch h) Or.inr)⟩
  have iX2 : ∀ w ∈ wsX20, w ∈ wsX2_figureBehind := by decide +kernel
  have hl := lv_entry ([.ref h, .int (nI k)]) (n := 2) (Nat.le_of_ble_eq_true rfl)
  rw [lg_entry_eq]
  generalize (lg_sl ([.ref h, .int (nI k)]) ++ List.replicate (2 - (lg_sl ([.ref h, .int (nI k)])).length) Slot.unset).toArray = ls at hl ⊢
  have hl : lv_has ls 2 [(0, .ref h), (1, .int (nI k))] := hl
  refine lv_aload_n hx hb dX2_figureBehind_0 rfl (lv_at hl 0 rfl) ?_
  refine b_get X E w 0 rfl rfl 0 (by decide) iX2 (by decide +kernel) rfl rfl dX2_figureBehind_1 ?_
  refine lv_iload_n hx hb dX2_figureBehind_4 rfl (lv_at hl 1 rfl) ?_
  refine b_iald X E w 1 rfl k rfl (by omega) (by first | decide | omega) dX2_figureBehind_5 ?_
  refine lv_iconst (v := nI 2) hx hb dX2_figureBehind_6 (by decide) ?_
  refine lv_icmp_ne (tgt := 15) hx hb dX2_figureBehind_7 (by decide) (fun c_7_2 => ?_) (fun c_7_2 => ?_)
  · refine lv_aload_n hx hb dX2_figureBehind_15 rfl (lv_at hl 0 rfl) ?_
    refine b_get X E w 0 rfl rfl 3 (by decide) iX2 (by decide +kernel) rfl rfl dX2_figureBehind_16 ?_
    refine lv_iload_n hx hb dX2_figureBehind_19 rfl (lv_at hl 1 rfl) ?_
    refine b_iald X E w 2 rfl k rfl (by omega) (by first | decide | omega) dX2_figureBehind_20 ?_
    exact W.iret (v := dv k) hx hb hr (fun t9 ht9 hW9 => ⟨⟨dv k, (), rfl, by simp [c_7_2], fun k q h => by cases k <;> cases h⟩, w.2.1.F ht9⟩) w.2.1.2.2 dX2_figureBehind_21
  · refine lv_ldc (v := MIS) hx hb hown (hts (.constant RX2 28 (-2000000001)) (by decide +kernel)) dX2_figureBehind_10 ?_
    refine lv_goto (tgt := 21) hx hb dX2_figureBehind_12 (by decide) ?_
    exact W.iret (v := MIS) hx hb hr (fun t9 ht9 hW9 => ⟨⟨MIS, (), rfl, by simp [c_7_2], fun k q h => by cases k <;> cases h⟩, w.2.1.F ht9⟩) w.2.1.2.2 dX2_figureBehind_21
set_option maxHeartbeats 4000000 in
set_option maxRecDepth 100000 in
theorem c_X2_clear (l : Launch) (hl0 : l.stackTraces = false) (G : bG) (sz : Nat) (h qw qa qc qv dn : Nat) : Met l yX2_clear wsX2_clear ({ frames := 0, cells := 0, slots := 0, locals := 0 }) (va_Pc [.ref h] (bPre G vwCl bNW bSW sz [(h, .inr (2, [.ref qw, .ref qa, .ref qc, .ref qv, .int (nI dn)]))] [h])) (va_Qi (fun (r : Int32) (_ : Unit) => r = nI dn) (fun (_ : Unit) (tS : State) => va_P G.1 vwCl [(h, .inr (2, [.ref qw, .ref qa, .ref qc, .ref qv, .int (nI 0)]))] tS.heap) (Aw [h] sz)) 0 0 (Aw [h] sz) := by
  refine Met.ofW (cc := cX2_clear) (maxL := 2) (ret := (some .int)) (by decide) rfl ?_
  intro p e s m args below meth c s₁ B hml hv
  obtain ⟨rfl, hsz, hP, hD, E, Z⟩ := hv
  have hts := atoms_spec (ws := wsX2_clear) B.pre
  have hown : s.vm.findClass RX2 = some m.cls := findClass_of_methodNamed B.named
  have X : CallFix p m c cX2_clear 2 s _ wsX2_clear RX2 := ⟨B.exec, B.bytes, hml, hown, hts⟩
  have hx := B.exec
  have hb := B.bytes
  have hr := B.returns
  have hlocks := B.notSynchronized
  subst hsz
  have w : bSt G vwCl [] s [(h, .inr (2, [.ref qw, .ref qa, .ref qc, .ref qv, .int (nI dn)]))] s.heap [] := ⟨hP, va_S.rf, hD⟩
  have Z0 : bZ [] s := ⟨Z.1.narrow (fun q h => h.elim (fun h => nomatch h) Or.inr), Z.2.narrow (fun q h => h.elim (fun h => nomatch h) Or.inr)⟩
  have iX2 : ∀ w ∈ wsX20, w ∈ wsX2_clear := by decide +kernel
  have hl := lv_entry ([.ref h]) (n := 2) (Nat.le_of_ble_eq_true rfl)
  rw [lg_entry_eq]
  generalize (lg_sl ([.ref h]) ++ List.replicate (2 - (lg_sl ([.ref h])).length) Slot.unset).toArray = ls at hl ⊢
  have hl : lv_has ls 2 [(0, .ref h)] := hl
  refine lv_aload_n hx hb dX2_clear_0 rfl (lv_at hl 0 rfl) ?_
  refine b_get X E w 0 rfl rfl 4 (by decide) iX2 (by decide +kernel) rfl rfl dX2_clear_1 ?_
  refine lv_istore_n (lv' := [(1, .int (nI dn)), (0, .ref h)]) hx hb dX2_clear_4 rfl hl (by decide) rfl (fun ls hl => ?_)
  refine lv_aload_n hx hb dX2_clear_5 rfl (lv_at hl 1 rfl) ?_
  refine lv_iconst (v := nI 0) hx hb dX2_clear_6 (by decide) ?_
  have w := b_wide [h] b_nil w
  refine b_put (ty := .int) X E w (Or.inl (List.mem_of_getElem? (i := 0) rfl)) 0 rfl rfl 4 (by decide) iX2 tyX2 tyX2_ok nmX2 (by decide +kernel) rfl rfl (by decide +kernel) rfl rfl (Nat.le_of_ble_eq_true rfl) dX2_clear_7 (fun H locs w => ?_)
  have w : bSt G vwCl [h] s [(h, .inr (2, [.ref qw, .ref qa, .ref qc, .ref qv, .int (nI 0)]))] _ _ := w
  refine lv_iload_n hx hb dX2_clear_10 rfl (lv_at hl 0 rfl) ?_
  exact W.iret (v := nI dn) hx hb hr (fun t9 ht9 hW9 => ⟨⟨nI dn, (), rfl, rfl, by show va_P G.1 vwCl _ t9.heap; rw [ht9]; exact b_cg (rfl) (w.1.sub (ws' := [(h, .inr (2, [.ref qw, .ref qa, .ref qc, .ref qv, .int (nI 0)]))]) [0] rfl)⟩, w.2.1.F ht9⟩) w.2.1.2.2 dX2_clear_11
set_option maxHeartbeats 4000000 in
set_option maxRecDepth 100000 in
theorem c_X1_enter (l : Launch) (hl0 : l.stackTraces = false) (G : bG) (sz : Nat) (h ql qe qn qt qc qd qf bn : Nat) (lat ear cnt ld bc bd bf : Nat → Int32) (c0 : Nat) (d g : Int32) (hb : bn < 300) (hc : c0 < 1680) : Met l yX1_enter wsX1_enter ({ frames := 0, cells := 0, slots := 0, locals := 0 }) (va_Pc [.ref h, .int (nI c0), .int d, .int g] (bPre G vwCl bNW bSW sz [(h, .inr (1, [.ref ql, .ref qe, .ref qn, .ref qt, .ref qc, .ref qd, .ref qf, .int (nI bn)])), (ql, .inl (G.2.1, 1680, .inl lat)), (qe, .inl (G.2.1, 1680, .inl ear)), (qn, .inl (G.2.1, 1680, .inl cnt)), (qt, .inl (G.2.1, 1680, .inl ld)), (qc, .inl (G.2.1, 300, .inl bc)), (qd, .inl (G.2.1, 300, .inl bd)), (qf, .inl (G.2.1, 300, .inl bf))] [h, ql, qe, qn, qt, qc, qd, qf])) (va_Qv (fun (_ : Unit) => True) (fun (_ : Unit) (tS : State) => va_P G.1 vwCl [(h, .inr (1, [.ref ql, .ref qe, .ref qn, .ref qt, .ref qc, .ref qd, .ref qf, .int (nI (bn + 1))])), (ql, .inl (G.2.1, 1680, .inl (upd lat c0 g))), (qe, .inl (G.2.1, 1680, .inl (if cnt c0 = 0 then upd ear c0 g else ear))), (qn, .inl (G.2.1, 1680, .inl (upd cnt c0 (cnt c0 + nI 1)))), (qt, .inl (G.2.1, 1680, .inl (upd ld c0 d))), (qc, .inl (G.2.1, 300, .inl (upd bc bn (nI c0)))), (qd, .inl (G.2.1, 300, .inl (upd bd bn d))), (qf, .inl (G.2.1, 300, .inl (upd bf bn g)))] tS.heap) (Aw [h, ql, qe, qn, qt, qc, qd, qf] sz)) 0 0 (Aw [h, ql, qe, qn, qt, qc, qd, qf] sz) := by
  refine Met.ofW (cc := cX1_enter) (maxL := 4) (ret := none) (by decide) rfl ?_
  intro p e s m args below meth c s₁ B hml hv
  obtain ⟨rfl, hsz, hP, hD, E, Z⟩ := hv
  have hts := atoms_spec (ws := wsX1_enter) B.pre
  have hown : s.vm.findClass RX1 = some m.cls := findClass_of_methodNamed B.named
  have X : CallFix p m c cX1_enter 4 s _ wsX1_enter RX1 := ⟨B.exec, B.bytes, hml, hown, hts⟩
  have hx := B.exec
  have hb := B.bytes
  have hr := B.returns
  have hlocks := B.notSynchronized
  subst hsz
  have w : bSt G vwCl [] s [(h, .inr (1, [.ref ql, .ref qe, .ref qn, .ref qt, .ref qc, .ref qd, .ref qf, .int (nI bn)])), (ql, .inl (G.2.1, 1680, .inl lat)), (qe, .inl (G.2.1, 1680, .inl ear)), (qn, .inl (G.2.1, 1680, .inl cnt)), (qt, .inl (G.2.1, 1680, .inl ld)), (qc, .inl (G.2.1, 300, .inl bc)), (qd, .inl (G.2.1, 300, .inl bd)), (qf, .inl (G.2.1, 300, .inl bf))] s.heap [] := ⟨hP, va_S.rf, hD⟩
  have Z0 : bZ [] s := ⟨Z.1.narrow (fun q h => h.elim (fun h => nomatch h) Or.inr), Z.2.narrow (fun q h => h.elim (fun h => nomatch h) Or.inr)⟩
  have iX1 : ∀ w ∈ wsX10, w ∈ wsX1_enter := by decide +kernel
  have hl := lv_entry ([.ref h, .int (nI c0), .int d, .int g]) (n := 4) (Nat.le_of_ble_eq_true rfl)
  rw [lg_entry_eq]
  generalize (lg_sl ([.ref h, .int (nI c0), .int d, .int g]) ++ List.replicate (4 - (lg_sl ([.ref h, .int (nI c0), .int d, .int g])).length) Slot.unset).toArray = ls at hl ⊢
  have hl : lv_has ls 4 [(0, .ref h), (1, .int (nI c0)), (2, .int d), (3, .int g)] := hl
  refine lv_aload_n hx hb dX1_enter_0 rfl (lv_at hl 0 rfl) ?_
  refine b_get X E w 0 rfl rfl 7 (by decide) iX1 (by decide +kernel) rfl rfl dX1_enter_1 ?_
  refine lv_sipush (v := nI 300) hx hb dX1_enter_4 (by decide) ?_
  refine lv_icmp_ge (tgt := 90) hx hb dX1_enter_7 (by decide) (fun c_7_4 => ?_) (fun c_7_4 => ?_)
  · exact absurd (q_le (by omega) (by omega) c_7_4) (by omega)
  · have q_7_5 : bn < 300 := q_nle (by omega) (by omega) c_7_4
    refine lv_aload_n hx hb dX1_enter_10 rfl (lv_at hl 0 rfl) ?_
    refine b_get X E w 0 rfl rfl 4 (by decide) iX1 (by decide +kernel) rfl rfl dX1_enter_11 ?_
    refine lv_aload_n hx hb dX1_enter_14 rfl (lv_at hl 0 rfl) ?_
    refine b_get X E w 0 rfl rfl 7 (by decide) iX1 (by decide +kernel) rfl rfl dX1_enter_15 ?_
    refine lv_iload_n hx hb dX1_enter_18 rfl (lv_at hl 1 rfl) ?_
    have w := b_wide [h, ql, qe, qn, qt, qc, qd, qf] b_nil w
    refine b_iast X E w (Or.inl (List.mem_of_getElem? (i := 5) rfl)) 5 rfl bn rfl (by omega) (by first | decide | omega) dX1_enter_19 (fun H locs w => ?_)
    have w : bSt G vwCl [h, ql, qe, qn, qt, qc, qd, qf] s [(h, .inr (1, [.ref ql, .ref qe, .ref qn, .ref qt, .ref qc, .ref qd, .ref qf, .int (nI bn)])), (ql, .inl (G.2.1, 1680, .inl lat)), (qe, .inl (G.2.1, 1680, .inl ear)), (qn, .inl (G.2.1, 1680, .inl cnt)), (qt, .inl (G.2.1, 1680, .inl ld)), (qc, .inl (G.2.1, 300, .inl (upd bc bn (nI c0)))), (qd, .inl (G.2.1, 300, .inl bd)), (qf, .inl (G.2.1, 300, .inl bf))] _ _ := w
    refine lv_aload_n hx hb dX1_enter_20 rfl (lv_at hl 0 rfl) ?_
    refine b_get X E w 0 rfl rfl 5 (by decide) iX1 (by decide +kernel) rfl rfl dX1_enter_21 ?_
    refine lv_aload_n hx hb dX1_enter_24 rfl (lv_at hl 0 rfl) ?_
    refine b_get X E w 0 rfl rfl 7 (by decide) iX1 (by decide +kernel) rfl rfl dX1_enter_25 ?_
    refine lv_iload_n hx hb dX1_enter_28 rfl (lv_at hl 2 rfl) ?_
    refine b_iast X E w (Or.inl (List.mem_of_getElem? (i := 6) rfl)) 6 rfl bn rfl (by omega) (by first | decide | omega) dX1_enter_29 (fun H locs w => ?_)
    have w : bSt G vwCl [h, ql, qe, qn, qt, qc, qd, qf] s [(h, .inr (1, [.ref ql, .ref qe, .ref qn, .ref qt, .ref qc, .ref qd, .ref qf, .int (nI bn)])), (ql, .inl (G.2.1, 1680, .inl lat)), (qe, .inl (G.2.1, 1680, .inl ear)), (qn, .inl (G.2.1, 1680, .inl cnt)), (qt, .inl (G.2.1, 1680, .inl ld)), (qc, .inl (G.2.1, 300, .inl (upd bc bn (nI c0)))), (qd, .inl (G.2.1, 300, .inl (upd bd bn d))), (qf, .inl (G.2.1, 300, .inl bf))] _ _ := w
    refine lv_aload_n hx hb dX1_enter_30 rfl (lv_at hl 0 rfl) ?_
    refine b_get X E w 0 rfl rfl 6 (by decide) iX1 (by decide +kernel) rfl rfl dX1_enter_31 ?_
    refine lv_aload_n hx hb dX1_enter_34 rfl (lv_at hl 0 rfl) ?_
    refine b_get X E w 0 rfl rfl 7 (by decide) iX1 (by decide +kernel) rfl rfl dX1_enter_35 ?_
    refine lv_iload_n hx hb dX1_enter_38 rfl (lv_at hl 3 rfl) ?_
    refine b_iast X E w (Or.inl (List.mem_of_getElem? (i := 7) rfl)) 7 rfl bn rfl (by omega) (by first | decide | omega) dX1_enter_39 (fun H locs w => ?_)
    have w : bSt G vwCl [h, ql, qe, qn, qt, qc, qd, qf] s [(h, .inr (1, [.ref ql, .ref qe, .ref qn, .ref qt, .ref qc, .ref qd, .ref qf, .int (nI bn)])), (ql, .inl (G.2.1, 1680, .inl lat)), (qe, .inl (G.2.1, 1680, .inl ear)), (qn, .inl (G.2.1, 1680, .inl cnt)), (qt, .inl (G.2.1, 1680, .inl ld)), (qc, .inl (G.2.1, 300, .inl (upd bc bn (nI c0)))), (qd, .inl (G.2.1, 300, .inl (upd bd bn d))), (qf, .inl (G.2.1, 300, .inl (upd bf bn g)))] _ _ := w
    refine lv_aload_n hx hb dX1_enter_40 rfl (lv_at hl 0 rfl) ?_
    refine lv_dup hx hb dX1_enter_41 rfl ?_
    refine b_get X E w 0 rfl rfl 7 (by decide) iX1 (by decide +kernel) rfl rfl dX1_enter_42 ?_
    refine lv_iconst (v := nI 1) hx hb dX1_enter_45 (by decide) ?_
    refine lv_iadd hx hb dX1_enter_46 ?_
    refine b_tp (show (nI bn) + (nI 1) = nI (bn + 1) from nI_add bn 1) ?_
    refine b_put (ty := .int) X E w (Or.inl (List.mem_of_getElem? (i := 0) rfl)) 0 rfl rfl 7 (by decide) iX1 tyX1 tyX1_ok nmX1 (by decide +kernel) rfl rfl (by decide +kernel) rfl rfl (Nat.le_of_ble_eq_true rfl) dX1_enter_47 (fun H locs w => ?_)
    have w : bSt G vwCl [h, ql, qe, qn, qt, qc, qd, qf] s [(h, .inr (1, [.ref ql, .ref qe, .ref qn, .ref qt, .ref qc, .ref qd, .ref qf, .int (nI (bn + 1))])), (ql, .inl (G.2.1, 1680, .inl lat)), (qe, .inl (G.2.1, 1680, .inl ear)), (qn, .inl (G.2.1, 1680, .inl cnt)), (qt, .inl (G.2.1, 1680, .inl ld)), (qc, .inl (G.2.1, 300, .inl (upd bc bn (nI c0)))), (qd, .inl (G.2.1, 300, .inl (upd bd bn d))), (qf, .inl (G.2.1, 300, .inl (upd bf bn g)))] _ _ := w
    refine lv_aload_n hx hb dX1_enter_50 rfl (lv_at hl 0 rfl) ?_
    refine b_get X E w 0 rfl rfl 2 (by decide) iX1 (by decide +kernel) rfl rfl dX1_enter_51 ?_
    refine lv_iload_n hx hb dX1_enter_54 rfl (lv_at hl 1 rfl) ?_
    refine b_iald X E w 3 rfl c0 rfl (by omega) (by first | decide | omega) dX1_enter_55 ?_
    refine lv_if_ne (tgt := 66) hx hb dX1_enter_56 (by decide) (fun c_56_6 => ?_) (fun c_56_6 => ?_)
    · refine lv_aload_n hx hb dX1_enter_66 rfl (lv_at hl 0 rfl) ?_
      refine b_get X E w 0 rfl rfl 0 (by decide) iX1 (by decide +kernel) rfl rfl dX1_enter_67 ?_
      refine lv_iload_n hx hb dX1_enter_70 rfl (lv_at hl 1 rfl) ?_
      refine lv_iload_n hx hb dX1_enter_71 rfl (lv_at hl 3 rfl) ?_
      refine b_iast X E w (Or.inl (List.mem_of_getElem? (i := 1) rfl)) 1 rfl c0 rfl (by omega) (by first | decide | omega) dX1_enter_72 (fun H locs w => ?_)
      have w : bSt G vwCl [h, ql, qe, qn, qt, qc, qd, qf] s [(h, .inr (1, [.ref ql, .ref qe, .ref qn, .ref qt, .ref qc, .ref qd, .ref qf, .int (nI (bn + 1))])), (ql, .inl (G.2.1, 1680, .inl (upd lat c0 g))), (qe, .inl (G.2.1, 1680, .inl ear)), (qn, .inl (G.2.1, 1680, .inl cnt)), (qt, .inl (G.2.1, 1680, .inl ld)), (qc, .inl (G.2.1, 300, .inl (upd bc bn (nI c0)))), (qd, .inl (G.2.1, 300, .inl (upd bd bn d))), (qf, .inl (G.2.1, 300, .inl (upd bf bn g)))] _ _ := w
      refine lv_aload_n hx hb dX1_enter_73 rfl (lv_at hl 0 rfl) ?_
      refine b_get X E w 0 rfl rfl 2 (by decide) iX1 (by decide +kernel) rfl rfl dX1_enter_74 ?_
      refine lv_iload_n hx hb dX1_enter_77 rfl (lv_at hl 1 rfl) ?_
      refine lv_dup2_11 hx hb dX1_enter_78 rfl rfl ?_
      refine b_iald X E w 3 rfl c0 rfl (by omega) (by first | decide | omega) dX1_enter_79 ?_
      refine lv_iconst (v := nI 1) hx hb dX1_enter_80 (by decide) ?_
      refine lv_iadd hx hb dX1_enter_81 ?_
      refine b_iast X E w (Or.inl (List.mem_of_getElem? (i := 3) rfl)) 3 rfl c0 rfl (by omega) (by first | decide | omega) dX1_enter_82 (fun H locs w => ?_)
      have w : bSt G vwCl [h, ql, qe, qn, qt, qc, qd, qf] s [(h, .inr (1, [.ref ql, .ref qe, .ref qn, .ref qt, .ref qc, .ref qd, .ref qf, .int (nI (bn + 1))])), (ql, .inl (G.2.1, 1680, .inl (upd lat c0 g))), (qe, .inl (G.2.1, 1680, .inl ear)), (qn, .inl (G.2.1, 1680, .inl (upd cnt c0 ((cnt c0) + (nI 1))))), (qt, .inl (G.2.1, 1680, .inl ld)), (qc, .inl (G.2.1, 300, .inl (upd bc bn (nI c0)))), (qd, .inl (G.2.1, 300, .inl (upd bd bn d))), (qf, .inl (G.2.1, 300, .inl (upd bf bn g)))] _ _ := w
      refine lv_aload_n hx hb dX1_enter_83 rfl (lv_at hl 0 rfl) ?_
      refine b_get X E w 0 rfl rfl 3 (by decide) iX1 (by decide +kernel) rfl rfl dX1_enter_84 ?_
      refine lv_iload_n hx hb dX1_enter_87 rfl (lv_at hl 1 rfl) ?_
      refine lv_iload_n hx hb dX1_enter_88 rfl (lv_at hl 2 rfl) ?_
      refine b_iast X E w (Or.inl (List.mem_of_getElem? (i := 4) rfl)) 4 rfl c0 rfl (by omega) (by first | decide | omega) dX1_enter_89 (fun H locs w => ?_)
      have w : bSt G vwCl [h, ql, qe, qn, qt, qc, qd, qf] s [(h, .inr (1, [.ref ql, .ref qe, .ref qn, .ref qt, .ref qc, .ref qd, .ref qf, .int (nI (bn + 1))])), (ql, .inl (G.2.1, 1680, .inl (upd lat c0 g))), (qe, .inl (G.2.1, 1680, .inl ear)), (qn, .inl (G.2.1, 1680, .inl (upd cnt c0 ((cnt c0) + (nI 1))))), (qt, .inl (G.2.1, 1680, .inl (upd ld c0 d))), (qc, .inl (G.2.1, 300, .inl (upd bc bn (nI c0)))), (qd, .inl (G.2.1, 300, .inl (upd bd bn d))), (qf, .inl (G.2.1, 300, .inl (upd bf bn g)))] _ _ := w
      exact W.vret hx hb hr (fun t9 ht9 hW9 => ⟨⟨(), rfl, trivial, by show va_P G.1 vwCl _ t9.heap; rw [ht9]; exact b_cg (by simp [q_7_5, c_56_6]) (w.1.sub (ws' := [(h, .inr (1, [.ref ql, .ref qe, .ref qn, .ref qt, .ref qc, .ref qd, .ref qf, .int (nI (bn + 1))])), (ql, .inl (G.2.1, 1680, .inl (upd lat c0 g))), (qe, .inl (G.2.1, 1680, .inl ear)), (qn, .inl (G.2.1, 1680, .inl (upd cnt c0 ((cnt c0) + (nI 1))))), (qt, .inl (G.2.1, 1680, .inl (upd ld c0 d))), (qc, .inl (G.2.1, 300, .inl (upd bc bn (nI c0)))), (qd, .inl (G.2.1, 300, .inl (upd bd bn d))), (qf, .inl (G.2.1, 300, .inl (upd bf bn g)))]) [0, 1, 2, 3, 4, 5, 6, 7] rfl)⟩, w.2.1.F ht9⟩) w.2.1.2.2 dX1_enter_90
    · refine lv_aload_n hx hb dX1_enter_59 rfl (lv_at hl 0 rfl) ?_
      refine b_get X E w 0 rfl rfl 1 (by decide) iX1 (by decide +kernel) rfl rfl dX1_enter_60 ?_
      refine lv_iload_n hx hb dX1_enter_63 rfl (lv_at hl 1 rfl) ?_
      refine lv_iload_n hx hb dX1_enter_64 rfl (lv_at hl 3 rfl) ?_
      refine b_iast X E w (Or.inl (List.mem_of_getElem? (i := 2) rfl)) 2 rfl c0 rfl (by omega) (by first | decide | omega) dX1_enter_65 (fun H locs w => ?_)
      have w : bSt G vwCl [h, ql, qe, qn, qt, qc, qd, qf] s [(h, .inr (1, [.ref ql, .ref qe, .ref qn, .ref qt, .ref qc, .ref qd, .ref qf, .int (nI (bn + 1))])), (ql, .inl (G.2.1, 1680, .inl lat)), (qe, .inl (G.2.1, 1680, .inl (upd ear c0 g))), (qn, .inl (G.2.1, 1680, .inl cnt)), (qt, .inl (G.2.1, 1680, .inl ld)), (qc, .inl (G.2.1, 300, .inl (upd bc bn (nI c0)))), (qd, .inl (G.2.1, 300, .inl (upd bd bn d))), (qf, .inl (G.2.1, 300, .inl (upd bf bn g)))] _ _ := w
      refine lv_aload_n hx hb dX1_enter_66 rfl (lv_at hl 0 rfl) ?_
      refine b_get X E w 0 rfl rfl 0 (by decide) iX1 (by decide +kernel) rfl rfl dX1_enter_67 ?_
      refine lv_iload_n hx hb dX1_enter_70 rfl (lv_at hl 1 rfl) ?_
      refine lv_iload_n hx hb dX1_enter_71 rfl (lv_at hl 3 rfl) ?_
      refine b_iast X E w (Or.inl (List.mem_of_getElem? (i := 1) rfl)) 1 rfl c0 rfl (by omega) (by first | decide | omega) dX1_enter_72 (fun H locs w => ?_)
      have w : bSt G vwCl [h, ql, qe, qn, qt, qc, qd, qf] s [(h, .inr (1, [.ref ql, .ref qe, .ref qn, .ref qt, .ref qc, .ref qd, .ref qf, .int (nI (bn + 1))])), (ql, .inl (G.2.1, 1680, .inl (upd lat c0 g))), (qe, .inl (G.2.1, 1680, .inl (upd ear c0 g))), (qn, .inl (G.2.1, 1680, .inl cnt)), (qt, .inl (G.2.1, 1680, .inl ld)), (qc, .inl (G.2.1, 300, .inl (upd bc bn (nI c0)))), (qd, .inl (G.2.1, 300, .inl (upd bd bn d))), (qf, .inl (G.2.1, 300, .inl (upd bf bn g)))] _ _ := w
      refine lv_aload_n hx hb dX1_enter_73 rfl (lv_at hl 0 rfl) ?_
      refine b_get X E w 0 rfl rfl 2 (by decide) iX1 (by decide +kernel) rfl rfl dX1_enter_74 ?_
      refine lv_iload_n hx hb dX1_enter_77 rfl (lv_at hl 1 rfl) ?_
      refine lv_dup2_11 hx hb dX1_enter_78 rfl rfl ?_
      refine b_iald X E w 3 rfl c0 rfl (by omega) (by first | decide | omega) dX1_enter_79 ?_
      refine lv_iconst (v := nI 1) hx hb dX1_enter_80 (by decide) ?_
      refine lv_iadd hx hb dX1_enter_81 ?_
      refine b_iast X E w (Or.inl (List.mem_of_getElem? (i := 3) rfl)) 3 rfl c0 rfl (by omega) (by first | decide | omega) dX1_enter_82 (fun H locs w => ?_)
      have w : bSt G vwCl [h, ql, qe, qn, qt, qc, qd, qf] s [(h, .inr (1, [.ref ql, .ref qe, .ref qn, .ref qt, .ref qc, .ref qd, .ref qf, .int (nI (bn + 1))])), (ql, .inl (G.2.1, 1680, .inl (upd lat c0 g))), (qe, .inl (G.2.1, 1680, .inl (upd ear c0 g))), (qn, .inl (G.2.1, 1680, .inl (upd cnt c0 ((cnt c0) + (nI 1))))), (qt, .inl (G.2.1, 1680, .inl ld)), (qc, .inl (G.2.1, 300, .inl (upd bc bn (nI c0)))), (qd, .inl (G.2.1, 300, .inl (upd bd bn d))), (qf, .inl (G.2.1, 300, .inl (upd bf bn g)))] _ _ := w
      refine lv_aload_n hx hb dX1_enter_83 rfl (lv_at hl 0 rfl) ?_
      refine b_get X E w 0 rfl rfl 3 (by decide) iX1 (by decide +kernel) rfl rfl dX1_enter_84 ?_
      refine lv_iload_n hx hb dX1_enter_87 rfl (lv_at hl 1 rfl) ?_
      refine lv_iload_n hx hb dX1_enter_88 rfl (lv_at hl 2 rfl) ?_
      refine b_iast X E w (Or.inl (List.mem_of_getElem? (i := 4) rfl)) 4 rfl c0 rfl (by omega) (by first | decide | omega) dX1_enter_89 (fun H locs w => ?_)
      have w : bSt G vwCl [h, ql, qe, qn, qt, qc, qd, qf] s [(h, .inr (1, [.ref ql, .ref qe, .ref qn, .ref qt, .ref qc, .ref qd, .ref qf, .int (nI (bn + 1))])), (ql, .inl (G.2.1, 1680, .inl (upd lat c0 g))), (qe, .inl (G.2.1, 1680, .inl (upd ear c0 g))), (qn, .inl (G.2.1, 1680, .inl (upd cnt c0 ((cnt c0) + (nI 1))))), (qt, .inl (G.2.1, 1680, .inl (upd ld c0 d))), (qc, .inl (G.2.1, 300, .inl (upd bc bn (nI c0)))), (qd, .inl (G.2.1, 300, .inl (upd bd bn d))), (qf, .inl (G.2.1, 300, .inl (upd bf bn g)))] _ _ := w
      exact W.vret hx hb hr (fun t9 ht9 hW9 => ⟨⟨(), rfl, trivial, by show va_P G.1 vwCl _ t9.heap; rw [ht9]; exact b_cg (by simp [q_7_5, c_56_6]) (w.1.sub (ws' := [(h, .inr (1, [.ref ql, .ref qe, .ref qn, .ref qt, .ref qc, .ref qd, .ref qf, .int (nI (bn + 1))])), (ql, .inl (G.2.1, 1680, .inl (upd lat c0 g))), (qe, .inl (G.2.1, 1680, .inl (upd ear c0 g))), (qn, .inl (G.2.1, 1680, .inl (upd cnt c0 ((cnt c0) + (nI 1))))), (qt, .inl (G.2.1, 1680, .inl (upd ld c0 d))), (qc, .inl (G.2.1, 300, .inl (upd bc bn (nI c0)))), (qd, .inl (G.2.1, 300, .inl (upd bd bn d))), (qf, .inl (G.2.1, 300, .inl (upd bf bn g)))]) [0, 1, 2, 3, 4, 5, 6, 7] rfl)⟩, w.2.1.F ht9⟩) w.2.1.2.2 dX1_enter_90
set_option maxHeartbeats 4000000 in
set_option maxRecDepth 100000 in
theorem c_X1_figureOn (l : Launch) (hl0 : l.stackTraces = false) (G : bG) (sz : Nat) (h ql qe qn qt qc qd qf bn : Nat) (bc bd bf : Nat → Int32) (x d : Int32) (hb : bn ≤ 300) : Met l yX1_figureOn wsX1_figureOn ({ frames := 0, cells := 0, slots := 0, locals := 0 }) (va_Pc [.ref h, .int x, .int d] (bPre G vwCl bNW bSW sz [(h, .inr (1, [.ref ql, .ref qe, .ref qn, .ref qt, .ref qc, .ref qd, .ref qf, .int (nI bn)])), (qc, .inl (G.2.1, 300, .inl bc)), (qd, .inl (G.2.1, 300, .inl bd)), (qf, .inl (G.2.1, 300, .inl bf))] [])) (va_Qi (fun (r : Int32) (_ : Unit) => r = fo bc bd bf x d bn) (fun (_ : Unit) (tS : State) => va_P G.1 vwCl [] tS.heap) (Aw [] sz)) 0 0 (Aw [] sz) := by
  refine Met.ofW (cc := cX1_figureOn) (maxL := 4) (ret := (some .int)) (by decide) rfl ?_
  intro p e s m args below meth c s₁ B hml hv
  obtain ⟨rfl, hsz, hP, hD, E, Z⟩ := hv
  have hts := atoms_spec (ws := wsX1_figureOn) B.pre
  have hown : s.vm.findClass RX1 = some m.cls := findClass_of_methodNamed B.named
  have X : CallFix p m c cX1_figureOn 4 s _ wsX1_figureOn RX1 := ⟨B.exec, B.bytes, hml, hown, hts⟩
  have hx := B.exec
  have hb := B.bytes
  have hr := B.returns
  have hlocks := B.notSynchronized
  subst hsz
  have w : bSt G vwCl [] s [(h, .inr (1, [.ref ql, .ref qe, .ref qn, .ref qt, .ref qc, .ref qd, .ref qf, .int (nI bn)])), (qc, .inl (G.2.1, 300, .inl bc)), (qd, .inl (G.2.1, 300, .inl bd)), (qf, .inl (G.2.1, 300, .inl bf))] s.heap [] := ⟨hP, va_S.rf, hD⟩
  have Z0 : bZ [] s := ⟨Z.1.narrow (fun q h => h.elim (fun h => nomatch h) Or.inr), Z.2.narrow (fun q h => h.elim (fun h => nomatch h) Or.inr)⟩
  have iX1 : ∀ w ∈ wsX10, w ∈ wsX1_figureOn := by decide +kernel
  have hl := lv_entry ([.ref h, .int x, .int d]) (n := 4) (Nat.le_of_ble_eq_true rfl)
  rw [lg_entry_eq]
  generalize (lg_sl ([.ref h, .int x, .int d]) ++ List.replicate (4 - (lg_sl ([.ref h, .int x, .int d])).length) Slot.unset).toArray = ls at hl ⊢
  have hl : lv_has ls 4 [(0, .ref h), (1, .int x), (2, .int d)] := hl
  refine lv_aload_n hx hb dX1_figureOn_0 rfl (lv_at hl 0 rfl) ?_
  refine b_get X E w 0 rfl rfl 7 (by decide) iX1 (by decide +kernel) rfl rfl dX1_figureOn_1 ?_
  refine lv_iconst (v := nI 1) hx hb dX1_figureOn_4 (by decide) ?_
  refine lv_isub hx hb dX1_figureOn_5 ?_
  refine lv_istore_n (lv' := [(3, .int ((nI bn) - (nI 1))), (0, .ref h), (1, .int x), (2, .int d)]) hx hb dX1_figureOn_6 rfl hl (by decide) rfl (fun ls hl => ?_)
  refine b_loop (pc := 7) (st := []) (fun (fuel : Nat) (H : Heap) (locs : List Loc) (ls : Array Slot) => ∃ (m : Nat), (m ≤ bn) ∧ (m + 1 ≤ fuel) ∧ (fo bc bd bf x d bn = fo bc bd bf x d m) ∧ bSt G vwCl [] s [(h, .inr (1, [.ref ql, .ref qe, .ref qn, .ref qt, .ref qc, .ref qd, .ref qf, .int (nI bn)])), (qc, .inl (G.2.1, 300, .inl bc)), (qd, .inl (G.2.1, 300, .inl bd)), (qf, .inl (G.2.1, 300, .inl bf))] H locs ∧ lv_has ls 4 [(0, .ref h), (1, .int x), (2, .int d), (3, .int ((nI m) - (nI 1)))]) (fun H locs ls h9 => ?_) (fun fuel H locs ls hI ih7 => ?_) (bn + 1) ⟨bn, (by omega), (by omega), rfl, w, lv_sub hl [1, 2, 3, 0] rfl⟩
  · obtain ⟨m, hm, hf, hv, w, hl⟩ := h9
    omega
  · obtain ⟨m, hm, hf, hv, w, hl⟩ := hI
    refine lv_iload_n hx hb dX1_figureOn_7 rfl (lv_at hl 3 rfl) ?_
    refine lv_if_lt (tgt := 44) hx hb dX1_figureOn_8 (by decide) (fun c_8_4 => ?_) (fun c_8_4 => ?_)
    · have hm0 := pred_0 (by omega) c_8_4
      subst hm0
      refine lv_ldc (v := MIS) hx hb hown (hts (.constant RX1 33 (-2000000001)) (by decide +kernel)) dX1_figureOn_44 ?_
      exact W.iret (v := MIS) hx hb hr (fun t9 ht9 hW9 => ⟨⟨MIS, (), rfl, hv.symm, fun k q h => by cases k <;> cases h⟩, w.2.1.F ht9⟩) w.2.1.2.2 dX1_figureOn_46
    · obtain ⟨k, rfl⟩ := pred_s (by omega) c_8_4
      refine lv_aload_n hx hb dX1_figureOn_11 rfl (lv_at hl 0 rfl) ?_
      refine b_get X E w 0 rfl rfl 4 (by decide) iX1 (by decide +kernel) rfl rfl dX1_figureOn_12 ?_
      refine lv_iload_n hx hb dX1_figureOn_15 rfl (lv_at hl 3 rfl) ?_
      refine b_iald X E w 1 rfl k (pred_e k) (by omega) (by first | decide | omega) dX1_figureOn_16 ?_
      refine lv_iload_n hx hb dX1_figureOn_17 rfl (lv_at hl 1 rfl) ?_
      refine lv_icmp_ne (tgt := 38) hx hb dX1_figureOn_18 (by decide) (fun c_18_5 => ?_) (fun c_18_5 => ?_)
      · have hs := fo_miss1 (bd := bd) (bf := bf) (d := d) c_18_5
        refine lv_iinc (v := (nI k) - (nI 1)) (lv' := [(3, .int ((nI k) - (nI 1))), (0, .ref h), (1, .int x), (2, .int d)]) hx hb dX1_figureOn_38 hl (k := 3) rfl (pred_i k) (by decide) rfl (fun ls hl => ?_)
        refine lv_goto (tgt := 7) hx hb dX1_figureOn_41 (by decide) ?_
        exact ih7 _ _ _ ⟨k, (by omega), (by omega), hv.trans hs, w, lv_sub hl [1, 2, 3, 0] rfl⟩
      · have c18 := c_18_5
        refine lv_aload_n hx hb dX1_figureOn_21 rfl (lv_at hl 0 rfl) ?_
        refine b_get X E w 0 rfl rfl 5 (by decide) iX1 (by decide +kernel) rfl rfl dX1_figureOn_22 ?_
        refine lv_iload_n hx hb dX1_figureOn_25 rfl (lv_at hl 3 rfl) ?_
        refine b_iald X E w 2 rfl k (pred_e k) (by omega) (by first | decide | omega) dX1_figureOn_26 ?_
        refine lv_iload_n hx hb dX1_figureOn_27 rfl (lv_at hl 2 rfl) ?_
        refine lv_icmp_gt (tgt := 38) hx hb dX1_figureOn_28 (by decide) (fun c_28_6 => ?_) (fun c_28_6 => ?_)
        · have hs := fo_miss2 (bc := bc) (bf := bf) (x := x) c_28_6
          refine lv_iinc (v := (nI k) - (nI 1)) (lv' := [(3, .int ((nI k) - (nI 1))), (0, .ref h), (1, .int x), (2, .int d)]) hx hb dX1_figureOn_38 hl (k := 3) rfl (pred_i k) (by decide) rfl (fun ls hl => ?_)
          refine lv_goto (tgt := 7) hx hb dX1_figureOn_41 (by decide) ?_
          exact ih7 _ _ _ ⟨k, (by omega), (by omega), hv.trans hs, w, lv_sub hl [1, 2, 3, 0] rfl⟩
        · have c28 := c_28_6
          refine lv_aload_n hx hb dX1_figureOn_31 rfl (lv_at hl 0 rfl) ?_
          refine b_get X E w 0 rfl rfl 6 (by decide) iX1 (by decide +kernel) rfl rfl dX1_figureOn_32 ?_
          refine lv_iload_n hx hb dX1_figureOn_35 rfl (lv_at hl 3 rfl) ?_
          refine b_iald X E w 3 rfl k (pred_e k) (by omega) (by first | decide | omega) dX1_figureOn_36 ?_
          exact W.iret (v := bf k) hx hb hr (fun t9 ht9 hW9 => ⟨⟨bf k, (), rfl, (hv.trans (fo_hit c18 c28)).symm, fun k q h => by cases k <;> cases h⟩, w.2.1.F ht9⟩) w.2.1.2.2 dX1_figureOn_37
set_option maxHeartbeats 4000000 in
set_option maxRecDepth 100000 in
theorem c_X1_isToldSince (l : Launch) (hl0 : l.stackTraces = false) (G : bG) (sz : Nat) (h ql qe qn qt qc qd qf bn : Nat) (lat ld : Nat → Int32) (c0 : Nat) (d : Int32) (hc : c0 < 1680) : Met l yX1_isToldSince wsX1_isToldSince ({ frames := 0, cells := 0, slots := 0, locals := 0 }) (va_Pc [.ref h, .int (nI c0), .int d] (bPre G vwCl bNW bSW sz [(h, .inr (1, [.ref ql, .ref qe, .ref qn, .ref qt, .ref qc, .ref qd, .ref qf, .int (nI bn)])), (ql, .inl (G.2.1, 1680, .inl lat)), (qt, .inl (G.2.1, 1680, .inl ld))] [])) (va_Qi (fun (r : Int32) (_ : Unit) => r = bI ((!decide (lat c0 = MIS) && !decide (ld c0 < d)))) (fun (_ : Unit) (tS : State) => va_P G.1 vwCl [] tS.heap) (Aw [] sz)) 0 0 (Aw [] sz) := by
  refine Met.ofW (cc := cX1_isToldSince) (maxL := 3) (ret := (some .boolean)) (by decide) rfl ?_
  intro p e s m args below meth c s₁ B hml hv
  obtain ⟨rfl, hsz, hP, hD, E, Z⟩ := hv
  have hts := atoms_spec (ws := wsX1_isToldSince) B.pre
  have hown : s.vm.findClass RX1 = some m.cls := findClass_of_methodNamed B.named
  have X : CallFix p m c cX1_isToldSince 3 s _ wsX1_isToldSince RX1 := ⟨B.exec, B.bytes, hml, hown, hts⟩
  have hx := B.exec
  have hb := B.bytes
  have hr := B.returns
  have hlocks := B.notSynchronized
  subst hsz
  have w : bSt G vwCl [] s [(h, .inr (1, [.ref ql, .ref qe, .ref qn, .ref qt, .ref qc, .ref qd, .ref qf, .int (nI bn)])), (ql, .inl (G.2.1, 1680, .inl lat)), (qt, .inl (G.2.1, 1680, .inl ld))] s.heap [] := ⟨hP, va_S.rf, hD⟩
  have Z0 : bZ [] s := ⟨Z.1.narrow (fun q h => h.elim (fun h => nomatch h) Or.inr), Z.2.narrow (fun q h => h.elim (fun h => nomatch h) Or.inr)⟩
  have iX1 : ∀ w ∈ wsX10, w ∈ wsX1_isToldSince := by decide +kernel
  have hl := lv_entry ([.ref h, .int (nI c0), .int d]) (n := 3) (Nat.le_of_ble_eq_true rfl)
  rw [lg_entry_eq]
  generalize (lg_sl ([.ref h, .int (nI c0), .int d]) ++ List.replicate (3 - (lg_sl ([.ref h, .int (nI c0), .int d])).length) Slot.unset).toArray = ls at hl ⊢
  have hl : lv_has ls 3 [(0, .ref h), (1, .int (nI c0)), (2, .int d)] := hl
  refine lv_aload_n hx hb dX1_isToldSince_0 rfl (lv_at hl 0 rfl) ?_
  refine b_get X E w 0 rfl rfl 0 (by decide) iX1 (by decide +kernel) rfl rfl dX1_isToldSince_1 ?_
  refine lv_iload_n hx hb dX1_isToldSince_4 rfl (lv_at hl 1 rfl) ?_
  refine b_iald X E w 1 rfl c0 rfl (by omega) (by first | decide | omega) dX1_isToldSince_5 ?_
  refine lv_ldc (v := MIS) hx hb hown (hts (.constant RX1 33 (-2000000001)) (by decide +kernel)) dX1_isToldSince_6 ?_
  refine lv_icmp_eq (tgt := 25) hx hb dX1_isToldSince_8 (by decide) (fun c_8_3 => ?_) (fun c_8_3 => ?_)
  · refine lv_iconst (v := nI 0) hx hb dX1_isToldSince_25 (by decide) ?_
    exact W.zret (v := nI 0) hx hb hr rfl (fun t9 ht9 hW9 => ⟨⟨nI 0, (), rfl, bI_zero (by simp [c_8_3]), fun k q h => by cases k <;> cases h⟩, w.2.1.F ht9⟩) w.2.1.2.2 dX1_isToldSince_26
  · refine lv_aload_n hx hb dX1_isToldSince_11 rfl (lv_at hl 0 rfl) ?_
    refine b_get X E w 0 rfl rfl 3 (by decide) iX1 (by decide +kernel) rfl rfl dX1_isToldSince_12 ?_
    refine lv_iload_n hx hb dX1_isToldSince_15 rfl (lv_at hl 1 rfl) ?_
    refine b_iald X E w 2 rfl c0 rfl (by omega) (by first | decide | omega) dX1_isToldSince_16 ?_
    refine lv_iload_n hx hb dX1_isToldSince_17 rfl (lv_at hl 2 rfl) ?_
    refine lv_icmp_lt (tgt := 25) hx hb dX1_isToldSince_18 (by decide) (fun c_18_4 => ?_) (fun c_18_4 => ?_)
    · refine lv_iconst (v := nI 0) hx hb dX1_isToldSince_25 (by decide) ?_
      exact W.zret (v := nI 0) hx hb hr rfl (fun t9 ht9 hW9 => ⟨⟨nI 0, (), rfl, bI_zero (by simp [c_8_3, c_18_4]), fun k q h => by cases k <;> cases h⟩, w.2.1.F ht9⟩) w.2.1.2.2 dX1_isToldSince_26
    · refine lv_iconst (v := nI 1) hx hb dX1_isToldSince_21 (by decide) ?_
      refine lv_goto (tgt := 26) hx hb dX1_isToldSince_22 (by decide) ?_
      exact W.zret (v := nI 1) hx hb hr rfl (fun t9 ht9 hW9 => ⟨⟨nI 1, (), rfl, bI_one (by simp [c_8_3, c_18_4]), fun k q h => by cases k <;> cases h⟩, w.2.1.F ht9⟩) w.2.1.2.2 dX1_isToldSince_26
