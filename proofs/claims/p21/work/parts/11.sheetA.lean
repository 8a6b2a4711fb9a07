set_option maxHeartbeats 4000000 in
set_option maxRecDepth 100000 in
theorem c_J7_fill_53178 (l : Launch) (hl0 : l.stackTraces = false) (G : bG) (sz : Nat) (q n : Nat) (f : Nat → Int32) (x : Int32) (hn : n < 2 ^ 31) : Met l yJ7_fill_53178 wsJ7_fill_53178 ({ frames := 0, cells := 0, slots := 0, locals := 0 }) (va_Pc [.ref q, .int x] (bPre G vwCl bNW bSW sz [(q, .inl (G.2.1, n, .inl f))] [q])) (va_Qv (fun (_ : Unit) => True) (fun (_ : Unit) (tS : State) => va_P G.1 vwCl [(q, .inl (G.2.1, n, .inl (fillF f x n)))] tS.heap) (Aw [q] sz)) 0 0 (Aw [q] sz) := by
  refine Met.ofW (cc := cJ7_fill_53178) (maxL := 4) (ret := none) (by decide) rfl ?_
  intro p e s m args below meth c s₁ B hml hv
  obtain ⟨rfl, hsz, hP, hD, E, Z⟩ := hv
  have hts := atoms_spec (ws := wsJ7_fill_53178) B.pre
  have hown : s.vm.findClass RJ7 = some m.cls := findClass_of_methodNamed B.named
  have X : CallFix p m c cJ7_fill_53178 4 s _ wsJ7_fill_53178 RJ7 := ⟨B.exec, B.bytes, hml, hown, hts⟩
  have hx := B.exec
  have hb := B.bytes
  have hr := B.returns
  have hlocks := B.notSynchronized
  subst hsz
  have w : bSt G vwCl [] s [(q, .inl (G.2.1, n, .inl f))] s.heap [] := ⟨hP, va_S.rf, hD⟩
  have Z0 : bZ [] s := ⟨Z.1.narrow (fun q h => h.elim (fun h => nomatch h) Or.inr), Z.2.narrow (fun q h => h.elim (fun h => nomatch h) Or.inr)⟩
  have hl := lv_entry ([.ref q, .int x]) (n := 4) (Nat.le_of_ble_eq_true rfl)
  rw [lg_entry_eq]
  generalize (lg_sl ([.ref q, .int x]) ++ List.replicate (4 - (lg_sl ([.ref q, .int x])).length) Slot.unset).toArray = ls at hl ⊢
  have hl : lv_has ls 4 [(0, .ref q), (1, .int x)] := hl
  refine lv_iconst (v := nI 0) hx hb dJ7_fill_53178_0 (by decide) ?_
  refine lv_istore_n (lv' := [(2, .int (nI 0)), (0, .ref q), (1, .int x)]) hx hb dJ7_fill_53178_1 rfl hl (by decide) rfl (fun ls hl => ?_)
  refine lv_aload_n hx hb dJ7_fill_53178_2 rfl (lv_at hl 1 rfl) ?_
  refine b_alen X E w 0 rfl dJ7_fill_53178_3 ?_
  refine lv_istore_n (lv' := [(3, .int (nI n)), (2, .int (nI 0)), (0, .ref q), (1, .int x)]) hx hb dJ7_fill_53178_4 rfl hl (by decide) rfl (fun ls hl => ?_)
  have w := b_wide [q] b_nil w
  refine b_loop (pc := 5) (st := []) (fun (fuel : Nat) (H : Heap) (locs : List Loc) (ls : Array Slot) => ∃ (k : Nat), (k ≤ n) ∧ (n + 1 ≤ k + fuel) ∧ bSt G vwCl [q] s [(q, .inl (G.2.1, n, .inl (fillF f x k)))] H locs ∧ lv_has ls 4 [(0, .ref q), (1, .int x), (2, .int (nI k)), (3, .int (nI n))]) (fun H locs ls h9 => ?_) (fun fuel H locs ls hI ih5 => ?_) (n + 1) ⟨0, (by omega), (by omega), (by rw [fillF_0]; exact w), lv_sub hl [2, 3, 1, 0] rfl⟩
  · obtain ⟨k, hk, hf, w, hl⟩ := h9
    omega
  · obtain ⟨k, hk, hf, w, hl⟩ := hI
    refine lv_iload_n hx hb dJ7_fill_53178_5 rfl (lv_at hl 2 rfl) ?_
    refine lv_iload_n hx hb dJ7_fill_53178_6 rfl (lv_at hl 3 rfl) ?_
    refine lv_icmp_ge (tgt := 20) hx hb dJ7_fill_53178_7 (by decide) (fun c_7_3 => ?_) (fun c_7_3 => ?_)
    · have q_7_4 : n ≤ k := q_le (by omega) (by omega) c_7_3
      have ek : k = n := by omega
      rw [ek] at w
      have w : bSt G vwCl [q] s [(q, .inl (G.2.1, n, .inl (fillF f x n)))] _ _ := w
      exact W.vret hx hb hr (fun t9 ht9 hW9 => ⟨⟨(), rfl, trivial, by show va_P G.1 vwCl _ t9.heap; rw [ht9]; exact b_cg (rfl) (w.1.sub (ws' := [(q, .inl (G.2.1, n, .inl (fillF f x n)))]) [0] rfl)⟩, w.2.1.F ht9⟩) w.2.1.2.2 dJ7_fill_53178_20
    · have q_7_4 : k < n := q_nle (by omega) (by omega) c_7_3
      refine lv_aload_n hx hb dJ7_fill_53178_10 rfl (lv_at hl 0 rfl) ?_
      refine lv_iload_n hx hb dJ7_fill_53178_11 rfl (lv_at hl 2 rfl) ?_
      refine lv_iload_n hx hb dJ7_fill_53178_12 rfl (lv_at hl 1 rfl) ?_
      refine b_iast X E w (Or.inl (List.mem_of_getElem? (i := 0) rfl)) 0 rfl k rfl (by omega) (by first | decide | omega) dJ7_fill_53178_13 (fun H locs w => ?_)
      have w : bSt G vwCl [q] s [(q, .inl (G.2.1, n, .inl (upd (fillF f x k) k x)))] _ _ := w
      refine lv_iinc (v := nI (k + 1)) (lv' := [(2, .int (nI (k + 1))), (0, .ref q), (1, .int x), (3, .int (nI n))]) hx hb dJ7_fill_53178_14 hl (k := 2) rfl (nI_add k 1) (by decide) rfl (fun ls hl => ?_)
      refine lv_goto (tgt := 5) hx hb dJ7_fill_53178_17 (by decide) ?_
      exact ih5 _ _ _ ⟨k + 1, (by omega), (by omega), (by rw [fillF_s] at w; exact w), lv_sub hl [1, 2, 0, 3] rfl⟩
set_option maxHeartbeats 4000000 in
set_option maxRecDepth 100000 in
theorem c_X3_valueAt (l : Launch) (hl0 : l.stackTraces = false) (G : bG) (sz : Nat) (h qv qh : Nat) (v : Nat → Int32) (t0 : Nat) (ht : t0 < 140) : Met l yX3_valueAt wsX3_valueAt ({ frames := 0, cells := 0, slots := 0, locals := 0 }) (va_Pc [.ref h, .int (nI t0)] (bPre G vwCl bNW bSW sz [(h, .inr (3, [.ref qv, .ref qh])), (qv, .inl (G.2.1, 140, .inl v))] [])) (va_Qi (fun (r : Int32) (_ : Unit) => r = v t0) (fun (_ : Unit) (tS : State) => va_P G.1 vwCl [] tS.heap) (Aw [] sz)) 0 0 (Aw [] sz) := by
  refine Met.ofW (cc := cX3_valueAt) (maxL := 2) (ret := (some .int)) (by decide) rfl ?_
  intro p e s m args below meth c s₁ B hml hv
  obtain ⟨rfl, hsz, hP, hD, E, Z⟩ := hv
  have hts := atoms_spec (ws := wsX3_valueAt) B.pre
  have hown : s.vm.findClass RX3 = some m.cls := findClass_of_methodNamed B.named
  have X : CallFix p m c cX3_valueAt 2 s _ wsX3_valueAt RX3 := ⟨B.exec, B.bytes, hml, hown, hts⟩
  have hx := B.exec
  have hb := B.bytes
  have hr := B.returns
  have hlocks := B.notSynchronized
  subst hsz
  have w : bSt G vwCl [] s [(h, .inr (3, [.ref qv, .ref qh])), (qv, .inl (G.2.1, 140, .inl v))] s.heap [] := ⟨hP, va_S.rf, hD⟩
  have Z0 : bZ [] s := ⟨Z.1.narrow (fun q h => h.elim (fun h => nomatch h) Or.inr), Z.2.narrow (fun q h => h.elim (fun h => nomatch h) Or.inr)⟩
  have iX3 : ∀ w ∈ wsX30, w ∈ wsX3_valueAt := by decide +kernel
  have hl := lv_entry ([.ref h, .int (nI t0)]) (n := 2) (Nat.le_of_ble_eq_true rfl)
  rw [lg_entry_eq]
  generalize (lg_sl ([.ref h, .int (nI t0)]) ++ List.replicate (2 - (lg_sl ([.ref h, .int (nI t0)])).length) Slot.unset).toArray = ls at hl ⊢
  have hl : lv_has ls 2 [(0, .ref h), (1, .int (nI t0))] := hl
  refine lv_iload_n hx hb dX3_valueAt_0 rfl (lv_at hl 1 rfl) ?_
  refine lv_if_lt (tgt := 20) hx hb dX3_valueAt_1 (by decide) (fun c_1_5 => ?_) (fun c_1_5 => ?_)
  · exact absurd c_1_5 (nI_pos (by omega))
  · refine lv_iload_n hx hb dX3_valueAt_4 rfl (lv_at hl 1 rfl) ?_
    refine lv_sipush (v := nI 140) hx hb dX3_valueAt_5 (by decide) ?_
    refine lv_icmp_ge (tgt := 20) hx hb dX3_valueAt_8 (by decide) (fun c_8_7 => ?_) (fun c_8_7 => ?_)
    · exact absurd (q_le (by omega) (by omega) c_8_7) (by omega)
    · have q_8_8 : t0 < 140 := q_nle (by omega) (by omega) c_8_7
      refine lv_aload_n hx hb dX3_valueAt_11 rfl (lv_at hl 0 rfl) ?_
      refine b_get X E w 0 rfl rfl 0 (by decide) iX3 (by decide +kernel) rfl rfl dX3_valueAt_12 ?_
      refine lv_iload_n hx hb dX3_valueAt_15 rfl (lv_at hl 1 rfl) ?_
      refine b_iald X E w 1 rfl t0 rfl (by omega) (by first | decide | omega) dX3_valueAt_16 ?_
      refine lv_goto (tgt := 22) hx hb dX3_valueAt_17 (by decide) ?_
      exact W.iret (v := v t0) hx hb hr (fun t9 ht9 hW9 => ⟨⟨v t0, (), rfl, rfl, fun k q h => by cases k <;> cases h⟩, w.2.1.F ht9⟩) w.2.1.2.2 dX3_valueAt_22
set_option maxHeartbeats 4000000 in
set_option maxRecDepth 100000 in
theorem c_X3_isHidden (l : Launch) (hl0 : l.stackTraces = false) (G : bG) (sz : Nat) (h qv qh : Nat) (hid : Nat → Bool) (t0 : Nat) (ht : t0 < 140) : Met l yX3_isHidden wsX3_isHidden ({ frames := 0, cells := 0, slots := 0, locals := 0 }) (va_Pc [.ref h, .int (nI t0)] (bPre G vwCl bNW bSW sz [(h, .inr (3, [.ref qv, .ref qh])), (qh, .inl (G.2.2.1, 140, .inl (zB hid)))] [])) (va_Qi (fun (r : Int32) (_ : Unit) => r = bI (hid t0)) (fun (_ : Unit) (tS : State) => va_P G.1 vwCl [] tS.heap) (Aw [] sz)) 0 0 (Aw [] sz) := by
  refine Met.ofW (cc := cX3_isHidden) (maxL := 2) (ret := (some .boolean)) (by decide) rfl ?_
  intro p e s m args below meth c s₁ B hml hv
  obtain ⟨rfl, hsz, hP, hD, E, Z⟩ := hv
  have hts := atoms_spec (ws := wsX3_isHidden) B.pre
  have hown : s.vm.findClass RX3 = some m.cls := findClass_of_methodNamed B.named
  have X : CallFix p m c cX3_isHidden 2 s _ wsX3_isHidden RX3 := ⟨B.exec, B.bytes, hml, hown, hts⟩
  have hx := B.exec
  have hb := B.bytes
  have hr := B.returns
  have hlocks := B.notSynchronized
  subst hsz
  have w : bSt G vwCl [] s [(h, .inr (3, [.ref qv, .ref qh])), (qh, .inl (G.2.2.1, 140, .inl (zB hid)))] s.heap [] := ⟨hP, va_S.rf, hD⟩
  have Z0 : bZ [] s := ⟨Z.1.narrow (fun q h => h.elim (fun h => nomatch h) Or.inr), Z.2.narrow (fun q h => h.elim (fun h => nomatch h) Or.inr)⟩
  have iX3 : ∀ w ∈ wsX30, w ∈ wsX3_isHidden := by decide +kernel
  have hl := lv_entry ([.ref h, .int (nI t0)]) (n := 2) (Nat.le_of_ble_eq_true rfl)
  rw [lg_entry_eq]
  generalize (lg_sl ([.ref h, .int (nI t0)]) ++ List.replicate (2 - (lg_sl ([.ref h, .int (nI t0)])).length) Slot.unset).toArray = ls at hl ⊢
  have hl : lv_has ls 2 [(0, .ref h), (1, .int (nI t0))] := hl
  refine lv_iload_n hx hb dX3_isHidden_0 rfl (lv_at hl 1 rfl) ?_
  refine lv_if_lt (tgt := 24) hx hb dX3_isHidden_1 (by decide) (fun c_1_7 => ?_) (fun c_1_7 => ?_)
  · exact absurd c_1_7 (nI_pos (by omega))
  · refine lv_iload_n hx hb dX3_isHidden_4 rfl (lv_at hl 1 rfl) ?_
    refine lv_sipush (v := nI 140) hx hb dX3_isHidden_5 (by decide) ?_
    refine lv_icmp_ge (tgt := 24) hx hb dX3_isHidden_8 (by decide) (fun c_8_9 => ?_) (fun c_8_9 => ?_)
    · exact absurd (q_le (by omega) (by omega) c_8_9) (by omega)
    · have q_8_10 : t0 < 140 := q_nle (by omega) (by omega) c_8_9
      refine lv_aload_n hx hb dX3_isHidden_11 rfl (lv_at hl 0 rfl) ?_
      refine b_get X E w 0 rfl rfl 1 (by decide) iX3 (by decide +kernel) rfl rfl dX3_isHidden_12 ?_
      refine lv_iload_n hx hb dX3_isHidden_15 rfl (lv_at hl 1 rfl) ?_
      refine b_zald X E w 1 rfl t0 rfl (by omega) (by first | decide | omega) dX3_isHidden_16 ?_
      refine b_tp (show zB hid t0 = bI (hid t0) from rfl) ?_
      refine lv_if_eq (tgt := 24) hx hb dX3_isHidden_17 (by decide) (fun c_17_11 => ?_) (fun c_17_11 => ?_)
      · have q_17_12 : (hid t0) = false := bI_0.mp c_17_11
        refine lv_iconst (v := nI 0) hx hb dX3_isHidden_24 (by decide) ?_
        exact W.zret (v := nI 0) hx hb hr rfl (fun t9 ht9 hW9 => ⟨⟨nI 0, (), rfl, bI_zero (by simp [q_8_10, q_17_12]), fun k q h => by cases k <;> cases h⟩, w.2.1.F ht9⟩) w.2.1.2.2 dX3_isHidden_25
      · have q_17_12 : (hid t0) = true := bI_n0.mp c_17_11
        refine lv_iconst (v := nI 1) hx hb dX3_isHidden_20 (by decide) ?_
        refine lv_goto (tgt := 25) hx hb dX3_isHidden_21 (by decide) ?_
        exact W.zret (v := nI 1) hx hb hr rfl (fun t9 ht9 hW9 => ⟨⟨nI 1, (), rfl, bI_one (by simp [q_8_10, q_17_12]), fun k q h => by cases k <;> cases h⟩, w.2.1.F ht9⟩) w.2.1.2.2 dX3_isHidden_25
set_option maxHeartbeats 4000000 in
set_option maxRecDepth 100000 in
theorem c_X3_slotBeside (l : Launch) (hl0 : l.stackTraces = false) (G : bG) (sz : Nat) (th o str n hd hs k : Nat) (hle : hd ≤ k) : Met l yX3_slotBeside wsX3_slotBeside ({ frames := 0, cells := 0, slots := 0, locals := 0 }) (va_Pc [.ref th, .int (nI hd), .int (nI hs), .int (nI k)] (bPre G vwCl bNW bSW sz [(th, .inr (4, [.ref o, .int (nI str), .int (nI n)]))] [])) (va_Qi (fun (r : Int32) (_ : Unit) => r = nI (hs + str * (k - hd))) (fun (_ : Unit) (tS : State) => va_P G.1 vwCl [] tS.heap) (Aw [] sz)) 0 0 (Aw [] sz) := by
  refine Met.ofW (cc := cX3_slotBeside) (maxL := 4) (ret := (some .int)) (by decide) rfl ?_
  intro p e s m args below meth c s₁ B hml hv
  obtain ⟨rfl, hsz, hP, hD, E, Z⟩ := hv
  have hts := atoms_spec (ws := wsX3_slotBeside) B.pre
  have hown : s.vm.findClass RX3 = some m.cls := findClass_of_methodNamed B.named
  have X : CallFix p m c cX3_slotBeside 4 s _ wsX3_slotBeside RX3 := ⟨B.exec, B.bytes, hml, hown, hts⟩
  have hx := B.exec
  have hb := B.bytes
  have hr := B.returns
  have hlocks := B.notSynchronized
  subst hsz
  have w : bSt G vwCl [] s [(th, .inr (4, [.ref o, .int (nI str), .int (nI n)]))] s.heap [] := ⟨hP, va_S.rf, hD⟩
  have Z0 : bZ [] s := ⟨Z.1.narrow (fun q h => h.elim (fun h => nomatch h) Or.inr), Z.2.narrow (fun q h => h.elim (fun h => nomatch h) Or.inr)⟩
  have iX4 : ∀ w ∈ wsX40, w ∈ wsX3_slotBeside := by decide +kernel
  have hl := lv_entry ([.ref th, .int (nI hd), .int (nI hs), .int (nI k)]) (n := 4) (Nat.le_of_ble_eq_true rfl)
  rw [lg_entry_eq]
  generalize (lg_sl ([.ref th, .int (nI hd), .int (nI hs), .int (nI k)]) ++ List.replicate (4 - (lg_sl ([.ref th, .int (nI hd), .int (nI hs), .int (nI k)])).length) Slot.unset).toArray = ls at hl ⊢
  have hl : lv_has ls 4 [(0, .ref th), (1, .int (nI hd)), (2, .int (nI hs)), (3, .int (nI k))] := hl
  refine lv_iload_n hx hb dX3_slotBeside_0 rfl (lv_at hl 2 rfl) ?_
  refine lv_iload_n hx hb dX3_slotBeside_1 rfl (lv_at hl 3 rfl) ?_
  refine lv_iload_n hx hb dX3_slotBeside_2 rfl (lv_at hl 1 rfl) ?_
  refine lv_isub hx hb dX3_slotBeside_3 ?_
  refine b_tp (show (nI k) - (nI hd) = nI (k - hd) from pk_sub hle) ?_
  refine lv_aload_n hx hb dX3_slotBeside_4 rfl (lv_at hl 0 rfl) ?_
  refine b_getN (host := "Figurehouse") X E w 0 rfl rfl 1 (by decide) iX4 (by decide +kernel) rfl rfl dX3_slotBeside_5 ?_
  refine lv_imul hx hb dX3_slotBeside_8 ?_
  refine b_tp (show (nI (k - hd)) * (nI str) = nI (str * (k - hd)) from mulc _ _) ?_
  refine lv_iadd hx hb dX3_slotBeside_9 ?_
  refine b_tp (show (nI hs) + (nI (str * (k - hd))) = nI (hs + str * (k - hd)) from nI_add hs (str * (k - hd))) ?_
  exact W.iret (v := nI (hs + str * (k - hd))) hx hb hr (fun t9 ht9 hW9 => ⟨⟨nI (hs + str * (k - hd)), (), rfl, rfl, fun k q h => by cases k <;> cases h⟩, w.2.1.F ht9⟩) w.2.1.2.2 dX3_slotBeside_10
set_option maxHeartbeats 4000000 in
set_option maxRecDepth 100000 in
theorem c_X3_sumRightIn (l : Launch) (hl0 : l.stackTraces = false) (G : bG) (sz : Nat) (h qv qh : Nat) (v : Nat → Int32) (th o cap str n : Nat) (f : Nat → Int32) (hd hs : Nat) (hh : hd < n) (hn : n ≤ cap) (hc : cap ≤ 100) (hT : TI f n) (hsl : ∀ k, hd < k → k < n → hs + str * (k - hd) < 140) : Met l yX3_sumRightIn wsX3_sumRightIn ({ frames := 1, cells := 0, slots := 0, locals := 23 }) (va_Pc [.ref h, .ref th, .int (nI hd), .int (nI hs)] (bPre G vwCl bNW bSW sz [(h, .inr (3, [.ref qv, .ref qh])), (qv, .inl (G.2.1, 140, .inl v)), (th, .inr (4, [.ref o, .int (nI str), .int (nI n)])), (o, .inl (G.2.1, cap, .inl f))] [])) (va_Qi (fun (r : Int32) (_ : Unit) => r = rSum (fun k => decide (f k = nI hd)) (fun k => v (hs + str * (k - hd))) n) (fun (_ : Unit) (tS : State) => va_P G.1 vwCl [] tS.heap) (Aw [] sz)) 0 0 (Aw [] sz) := by
  refine Met.ofW (cc := cX3_sumRightIn) (maxL := 8) (ret := (some .int)) (by decide) rfl ?_
  intro p e s m args below meth c s₁ B hml hv
  obtain ⟨rfl, hsz, hP, hD, E, Z⟩ := hv
  have hts := atoms_spec (ws := wsX3_sumRightIn) B.pre
  have hown : s.vm.findClass RX3 = some m.cls := findClass_of_methodNamed B.named
  have X : CallFix p m c cX3_sumRightIn 8 s _ wsX3_sumRightIn RX3 := ⟨B.exec, B.bytes, hml, hown, hts⟩
  have hx := B.exec
  have hb := B.bytes
  have hr := B.returns
  have hlocks := B.notSynchronized
  subst hsz
  have w : bSt G vwCl [] s [(h, .inr (3, [.ref qv, .ref qh])), (qv, .inl (G.2.1, 140, .inl v)), (th, .inr (4, [.ref o, .int (nI str), .int (nI n)])), (o, .inl (G.2.1, cap, .inl f))] s.heap [] := ⟨hP, va_S.rf, hD⟩
  have Z0 : bZ [] s := ⟨Z.1.narrow (fun q h => h.elim (fun h => nomatch h) Or.inr), Z.2.narrow (fun q h => h.elim (fun h => nomatch h) Or.inr)⟩
  have iX4 : ∀ w ∈ wsX40, w ∈ wsX3_sumRightIn := by decide +kernel
  have hl := lv_entry ([.ref h, .ref th, .int (nI hd), .int (nI hs)]) (n := 8) (Nat.le_of_ble_eq_true rfl)
  rw [lg_entry_eq]
  generalize (lg_sl ([.ref h, .ref th, .int (nI hd), .int (nI hs)]) ++ List.replicate (8 - (lg_sl ([.ref h, .ref th, .int (nI hd), .int (nI hs)])).length) Slot.unset).toArray = ls at hl ⊢
  have hl : lv_has ls 8 [(0, .ref h), (1, .ref th), (2, .int (nI hd)), (3, .int (nI hs))] := hl
  have hlow := tI_low hT (by omega) hh
  refine lv_iconst (v := nI 0) hx hb dX3_sumRightIn_0 (by decide) ?_
  refine lv_istore (lv' := [(4, .int (nI 0)), (0, .ref h), (1, .ref th), (2, .int (nI hd)), (3, .int (nI hs))]) hx hb dX3_sumRightIn_1 hl (by decide) rfl (fun ls hl => ?_)
  refine lv_iconst (v := nI 1) hx hb dX3_sumRightIn_3 (by decide) ?_
  refine lv_istore (lv' := [(5, .int (nI 1)), (4, .int (nI 0)), (0, .ref h), (1, .ref th), (2, .int (nI hd)), (3, .int (nI hs))]) hx hb dX3_sumRightIn_4 hl (by decide) rfl (fun ls hl => ?_)
  refine lv_iload_n hx hb dX3_sumRightIn_6 rfl (lv_at hl 4 rfl) ?_
  refine lv_iconst (v := nI 1) hx hb dX3_sumRightIn_7 (by decide) ?_
  refine lv_iadd hx hb dX3_sumRightIn_8 ?_
  refine b_tp (show (nI hd) + (nI 1) = nI (hd + 1) from nI_add hd 1) ?_
  refine lv_istore (lv' := [(6, .int (nI (hd + 1))), (5, .int (nI 1)), (4, .int (nI 0)), (0, .ref h), (1, .ref th), (2, .int (nI hd)), (3, .int (nI hs))]) hx hb dX3_sumRightIn_9 hl (by decide) rfl (fun ls hl => ?_)
  refine b_loop (pc := 11) (st := []) (fun (fuel : Nat) (H : Heap) (locs : List Loc) (ls : Array Slot) => ∃ (k : Nat) (sm : Int32) (e : Bool), (hd < k) ∧ (k ≤ n) ∧ (n + 1 ≤ k + fuel) ∧ ((rS (fun k => decide (f k = nI hd)) (fun k => v (hs + str * (k - hd))) k).2.1 = true) ∧ (sm = (rS (fun k => decide (f k = nI hd)) (fun k => v (hs + str * (k - hd))) k).1) ∧ (e = decide ((rS (fun k => decide (f k = nI hd)) (fun k => v (hs + str * (k - hd))) k).2.2 = 0)) ∧ bSt G vwCl [] s [(h, .inr (3, [.ref qv, .ref qh])), (qv, .inl (G.2.1, 140, .inl v)), (th, .inr (4, [.ref o, .int (nI str), .int (nI n)])), (o, .inl (G.2.1, cap, .inl f))] H locs ∧ lv_has ls 8 [(0, .ref h), (1, .ref th), (2, .int (nI hd)), (3, .int (nI hs)), (4, .int sm), (5, .int (bI e)), (6, .int (nI k))]) (fun H locs ls h9 => ?_) (fun fuel H locs ls hI ih11 => ?_) (n + 1) ⟨hd + 1, nI 0, true, (by omega), (by omega), (by omega), by rw [rS_0 hlow], by rw [rS_0 hlow]; rfl, by rw [rS_0 hlow]; rfl, w, lv_sub hl [3, 4, 5, 6, 2, 1, 0] rfl⟩
  · obtain ⟨k, sm, e, hk1, hk, hf, ha, hs1, he, w, hl⟩ := h9
    omega
  · obtain ⟨k, sm, e, hk1, hk, hf, ha, hs1, he, w, hl⟩ := hI
    refine lv_iload hx hb dX3_sumRightIn_11 (lv_at hl 6 rfl) ?_
    refine lv_aload_n hx hb dX3_sumRightIn_13 rfl (lv_at hl 1 rfl) ?_
    refine b_getN (host := "Figurehouse") X E w 2 rfl rfl 2 (by decide) iX4 (by decide +kernel) rfl rfl dX3_sumRightIn_14 ?_
    refine lv_icmp_ge (tgt := 70) hx hb dX3_sumRightIn_17 (by decide) (fun c_17_11 => ?_) (fun c_17_11 => ?_)
    · have q_17_12 : n ≤ k := q_le (by omega) (by omega) c_17_11
      have ek : k = n := by omega
      rw [ek] at ha hs1 he
      refine lv_iload hx hb dX3_sumRightIn_70 (lv_at hl 5 rfl) ?_
      refine lv_if_eq (tgt := 80) hx hb dX3_sumRightIn_72 (by decide) (fun c_72_13 => ?_) (fun c_72_13 => ?_)
      · have q_72_14 : e = false := bI_0.mp c_72_13
        have hE := (rSum_pos ha he q_72_14).trans hs1.symm
        refine lv_iload hx hb dX3_sumRightIn_80 (lv_at hl 4 rfl) ?_
        exact W.iret (v := sm) hx hb hr (fun t9 ht9 hW9 => ⟨⟨sm, (), rfl, hE.symm, fun k q h => by cases k <;> cases h⟩, w.2.1.F ht9⟩) w.2.1.2.2 dX3_sumRightIn_82
      · have q_72_14 : e = true := bI_n0.mp c_72_13
        have hE := rSum_neg he q_72_14
        refine lv_ldc (v := MIS) hx hb hown (hts (.constant RX3 19 (-2000000001)) (by decide +kernel)) dX3_sumRightIn_75 ?_
        refine lv_goto (tgt := 82) hx hb dX3_sumRightIn_77 (by decide) ?_
        exact W.iret (v := MIS) hx hb hr (fun t9 ht9 hW9 => ⟨⟨MIS, (), rfl, hE.symm, fun k q h => by cases k <;> cases h⟩, w.2.1.F ht9⟩) w.2.1.2.2 dX3_sumRightIn_82
    · have q_17_12 : k < n := q_nle (by omega) (by omega) c_17_11
      refine lv_aload_n hx hb dX3_sumRightIn_20 rfl (lv_at hl 1 rfl) ?_
      refine lv_iload hx hb dX3_sumRightIn_21 (lv_at hl 6 rfl) ?_
      refine lv_iload_n hx hb dX3_sumRightIn_23 rfl (lv_at hl 2 rfl) ?_
      refine b_calli w (va_runV (As := [.int (nI k), .int (nI hd)]) (rest := []) X (c_X4_isRightIn l hl0 G _ (h := th) (k := k) (y := nI hd) (o := o) (str := str) (n := n) (cap := cap) (f := f) (hk := (by first | assumption | omega)) (hn := (by first | assumption | omega)) (hc := (by first | assumption | omega))) (cwV 2 hts gX3_sumRightIn_X4_isRightIn rfl rfl rfl (by decide +kernel) ⟨Nat.le_of_ble_eq_true rfl, Nat.le_of_ble_eq_true rfl⟩) ⟨b_blind, b_recv E w (ci := 4) (q0 := 2) rfl rfl, (fun U9 hU9 hW9 => ⟨rfl, b_pre E Z0 w [2, 3] (by decide) rfl b_nil U9 hU9 hW9⟩)⟩ rfl rfl hl.1 rfl (lv_room (Nat.le_of_ble_eq_true rfl)) dX3_sumRightIn_24 ⟨Nat.le_of_ble_eq_true rfl, Nat.le_of_ble_eq_true rfl⟩) b_nil [] (fun _ => rfl) rfl (fun r24_15 u24_15 H locs hr24_15 w => ?_)
      have w : bSt G vwCl [] s [(h, .inr (3, [.ref qv, .ref qh])), (qv, .inl (G.2.1, 140, .inl v)), (th, .inr (4, [.ref o, .int (nI str), .int (nI n)])), (o, .inl (G.2.1, cap, .inl f))] _ _ := w
      subst hr24_15
      refine lv_if_eq (tgt := 64) hx hb dX3_sumRightIn_27 (by decide) (fun c_27_16 => ?_) (fun c_27_16 => ?_)
      · have q_27_17 : (decide (f k = (nI hd))) = false := bI_0.mp c_27_16
        have g1 := rS_no (v := (fun k => v (hs + str * (k - hd)))) (p := (fun k => decide (f k = nI hd))) q_27_17
        refine lv_iinc (v := nI (k + 1)) (lv' := [(6, .int (nI (k + 1))), (0, .ref h), (1, .ref th), (2, .int (nI hd)), (3, .int (nI hs)), (4, .int sm), (5, .int (bI e))]) hx hb dX3_sumRightIn_64 hl (k := 6) rfl (nI_add k 1) (by decide) rfl (fun ls hl => ?_)
        refine lv_goto (tgt := 11) hx hb dX3_sumRightIn_67 (by decide) ?_
        exact ih11 _ _ _ ⟨k + 1, sm, e, (by omega), (by omega), (by omega), by rw [g1]; exact ha, by rw [g1]; exact hs1, by rw [g1]; exact he, w, lv_sub hl [1, 2, 3, 4, 5, 6, 0] rfl⟩
      · have q_27_17 : (decide (f k = (nI hd))) = true := bI_n0.mp c_27_16
        have hp := q_27_17
        have hsl1 := hsl k (by omega) (by omega)
        refine lv_aload_n hx hb dX3_sumRightIn_30 rfl (lv_at hl 0 rfl) ?_
        refine lv_aload_n hx hb dX3_sumRightIn_31 rfl (lv_at hl 1 rfl) ?_
        refine lv_iload_n hx hb dX3_sumRightIn_32 rfl (lv_at hl 2 rfl) ?_
        refine lv_iload_n hx hb dX3_sumRightIn_33 rfl (lv_at hl 3 rfl) ?_
        refine lv_iload hx hb dX3_sumRightIn_34 (lv_at hl 6 rfl) ?_
        refine b_calli w (va_runS (As := [.ref th, .int (nI hd), .int (nI hs), .int (nI k)]) (rest := [.ref h]) X (c_X3_slotBeside l hl0 G _ (th := th) (hd := hd) (hs := hs) (k := k) (o := o) (str := str) (n := n) (hle := (by first | assumption | omega))) (va_cwS 4 hts gX3_sumRightIn_X3_slotBeside rfl rfl rfl (by decide +kernel) ⟨Nat.le_of_ble_eq_true rfl, Nat.le_of_ble_eq_true rfl⟩) ⟨b_blind, (fun U9 hU9 hW9 => ⟨rfl, b_pre E Z0 w [2] (by decide) rfl b_nil U9 hU9 hW9⟩)⟩ rfl rfl hl.1 rfl (lv_room (Nat.le_of_ble_eq_true rfl)) dX3_sumRightIn_36 ⟨Nat.le_of_ble_eq_true rfl, Nat.le_of_ble_eq_true rfl⟩) b_nil [] (fun _ => rfl) rfl (fun r36_18 u36_18 H locs hr36_18 w => ?_)
        have w : bSt G vwCl [] s [(h, .inr (3, [.ref qv, .ref qh])), (qv, .inl (G.2.1, 140, .inl v)), (th, .inr (4, [.ref o, .int (nI str), .int (nI n)])), (o, .inl (G.2.1, cap, .inl f))] _ _ := w
        subst hr36_18
        refine b_calli w (va_runV (As := [.int (nI (hs + str * (k - hd)))]) (rest := []) X (c_X3_valueAt l hl0 G _ (h := h) (t0 := hs + str * (k - hd)) (qv := qv) (qh := qh) (v := v) (ht := (by first | assumption | omega))) (cwV 1 hts gX3_sumRightIn_X3_valueAt rfl rfl rfl (by decide +kernel) ⟨Nat.le_of_ble_eq_true rfl, Nat.le_of_ble_eq_true rfl⟩) ⟨b_blind, b_recv E w (ci := 3) (q0 := 0) rfl rfl, (fun U9 hU9 hW9 => ⟨rfl, b_pre E Z0 w [0, 1] (by decide) rfl b_nil U9 hU9 hW9⟩)⟩ rfl rfl hl.1 rfl (lv_room (Nat.le_of_ble_eq_true rfl)) dX3_sumRightIn_39 ⟨Nat.le_of_ble_eq_true rfl, Nat.le_of_ble_eq_true rfl⟩) b_nil [] (fun _ => rfl) rfl (fun r39_19 u39_19 H locs hr39_19 w => ?_)
        have w : bSt G vwCl [] s [(h, .inr (3, [.ref qv, .ref qh])), (qv, .inl (G.2.1, 140, .inl v)), (th, .inr (4, [.ref o, .int (nI str), .int (nI n)])), (o, .inl (G.2.1, cap, .inl f))] _ _ := w
        subst hr39_19
        refine lv_istore (lv' := [(7, .int (v (hs + str * (k - hd)))), (0, .ref h), (1, .ref th), (2, .int (nI hd)), (3, .int (nI hs)), (4, .int sm), (5, .int (bI e)), (6, .int (nI k))]) hx hb dX3_sumRightIn_42 hl (by decide) rfl (fun ls hl => ?_)
        refine lv_iload hx hb dX3_sumRightIn_44 (lv_at hl 0 rfl) ?_
        refine lv_ldc (v := MIS) hx hb hown (hts (.constant RX3 19 (-2000000001)) (by decide +kernel)) dX3_sumRightIn_46 ?_
        refine lv_icmp_ne (tgt := 54) hx hb dX3_sumRightIn_48 (by decide) (fun c_48_20 => ?_) (fun c_48_20 => ?_)
        · have g1 := rS_yes (p := (fun k => decide (f k = nI hd))) (v := (fun k => v (hs + str * (k - hd)))) hp
          have c48 := c_48_20
          refine lv_iload hx hb dX3_sumRightIn_54 (lv_at hl 5 rfl) ?_
          refine lv_iload hx hb dX3_sumRightIn_56 (lv_at hl 0 rfl) ?_
          refine lv_iadd hx hb dX3_sumRightIn_58 ?_
          refine lv_istore (lv' := [(4, .int (sm + (v (hs + str * (k - hd))))), (7, .int (v (hs + str * (k - hd)))), (0, .ref h), (1, .ref th), (2, .int (nI hd)), (3, .int (nI hs)), (5, .int (bI e)), (6, .int (nI k))]) hx hb dX3_sumRightIn_59 hl (by decide) rfl (fun ls hl => ?_)
          refine lv_iconst (v := nI 0) hx hb dX3_sumRightIn_61 (by decide) ?_
          refine lv_istore (lv' := [(5, .int (nI 0)), (4, .int (sm + (v (hs + str * (k - hd))))), (7, .int (v (hs + str * (k - hd)))), (0, .ref h), (1, .ref th), (2, .int (nI hd)), (3, .int (nI hs)), (6, .int (nI k))]) hx hb dX3_sumRightIn_62 hl (by decide) rfl (fun ls hl => ?_)
          refine lv_iinc (v := nI (k + 1)) (lv' := [(6, .int (nI (k + 1))), (5, .int (nI 0)), (4, .int (sm + (v (hs + str * (k - hd))))), (7, .int (v (hs + str * (k - hd)))), (0, .ref h), (1, .ref th), (2, .int (nI hd)), (3, .int (nI hs))]) hx hb dX3_sumRightIn_64 hl (k := 7) rfl (nI_add k 1) (by decide) rfl (fun ls hl => ?_)
          refine lv_goto (tgt := 11) hx hb dX3_sumRightIn_67 (by decide) ?_
          exact ih11 _ _ _ ⟨k + 1, sm + (v (hs + str * (k - hd))), false, (by omega), (by omega), (by omega), by rw [g1]; simp [ha, c48], by simp only [g1, hs1], by rw [g1]; simp, w, lv_sub hl [4, 5, 6, 7, 2, 1, 0] rfl⟩
        · have c48 := c_48_20
          refine lv_ldc (v := MIS) hx hb hown (hts (.constant RX3 19 (-2000000001)) (by decide +kernel)) dX3_sumRightIn_51 ?_
          exact W.iret (v := MIS) hx hb hr (fun t9 ht9 hW9 => ⟨⟨MIS, (), rfl, (rSum_miss (p := (fun k => decide (f k = nI hd))) (v := (fun k => v (hs + str * (k - hd)))) hp c48 (by omega)).symm, fun k q h => by cases k <;> cases h⟩, w.2.1.F ht9⟩) w.2.1.2.2 dX3_sumRightIn_53
set_option maxHeartbeats 4000000 in
set_option maxRecDepth 100000 in
theorem c_X3_countHiddenInRow (l : Launch) (hl0 : l.stackTraces = false) (G : bG) (sz : Nat) (h qv qh : Nat) (hid : Nat → Bool) (th o cap str n : Nat) (f : Nat → Int32) (hd hs : Nat) (hh : hd < n) (hn : n ≤ cap) (hc : cap ≤ 100) (hT : TI f n) (hsl : ∀ k, hd < k → k < n → hs + str * (k - hd) < 140) (hs0 : hs < 140) : Met l yX3_countHiddenInRow wsX3_countHiddenInRow ({ frames := 1, cells := 0, slots := 0, locals := 23 }) (va_Pc [.ref h, .ref th, .int (nI hd), .int (nI hs)] (bPre G vwCl bNW bSW sz [(h, .inr (3, [.ref qv, .ref qh])), (qh, .inl (G.2.2.1, 140, .inl (zB hid))), (th, .inr (4, [.ref o, .int (nI str), .int (nI n)])), (o, .inl (G.2.1, cap, .inl f))] [])) (va_Qi (fun (r : Int32) (_ : Unit) => r = nI (b1 (hid hs) + cH (fun k => decide (f k = nI hd)) (fun k => hid (hs + str * (k - hd))) n)) (fun (_ : Unit) (tS : State) => va_P G.1 vwCl [] tS.heap) (Aw [] sz)) 0 0 (Aw [] sz) := by
  refine Met.ofW (cc := cX3_countHiddenInRow) (maxL := 6) (ret := (some .int)) (by decide) rfl ?_
  intro p e s m args below meth c s₁ B hml hv
  obtain ⟨rfl, hsz, hP, hD, E, Z⟩ := hv
  have hts := atoms_spec (ws := wsX3_countHiddenInRow) B.pre
  have hown : s.vm.findClass RX3 = some m.cls := findClass_of_methodNamed B.named
  have X : CallFix p m c cX3_countHiddenInRow 6 s _ wsX3_countHiddenInRow RX3 := ⟨B.exec, B.bytes, hml, hown, hts⟩
  have hx := B.exec
  have hb := B.bytes
  have hr := B.returns
  have hlocks := B.notSynchronized
  subst hsz
  have w : bSt G vwCl [] s [(h, .inr (3, [.ref qv, .ref qh])), (qh, .inl (G.2.2.1, 140, .inl (zB hid))), (th, .inr (4, [.ref o, .int (nI str), .int (nI n)])), (o, .inl (G.2.1, cap, .inl f))] s.heap [] := ⟨hP, va_S.rf, hD⟩
  have Z0 : bZ [] s := ⟨Z.1.narrow (fun q h => h.elim (fun h => nomatch h) Or.inr), Z.2.narrow (fun q h => h.elim (fun h => nomatch h) Or.inr)⟩
  have iX4 : ∀ w ∈ wsX40, w ∈ wsX3_countHiddenInRow := by decide +kernel
  have hl := lv_entry ([.ref h, .ref th, .int (nI hd), .int (nI hs)]) (n := 6) (Nat.le_of_ble_eq_true rfl)
  rw [lg_entry_eq]
  generalize (lg_sl ([.ref h, .ref th, .int (nI hd), .int (nI hs)]) ++ List.replicate (6 - (lg_sl ([.ref h, .ref th, .int (nI hd), .int (nI hs)])).length) Slot.unset).toArray = ls at hl ⊢
  have hl : lv_has ls 6 [(0, .ref h), (1, .ref th), (2, .int (nI hd)), (3, .int (nI hs))] := hl
  have hlow := tI_low hT (by omega) hh
  refine lv_aload_n hx hb dX3_countHiddenInRow_0 rfl (lv_at hl 0 rfl) ?_
  refine lv_iload_n hx hb dX3_countHiddenInRow_1 rfl (lv_at hl 3 rfl) ?_
  refine b_calli w (va_runV (As := [.int (nI hs)]) (rest := []) X (c_X3_isHidden l hl0 G _ (h := h) (t0 := hs) (qv := qv) (qh := qh) (hid := hid) (ht := (by first | assumption | omega))) (cwV 1 hts gX3_countHiddenInRow_X3_isHidden rfl rfl rfl (by decide +kernel) ⟨Nat.le_of_ble_eq_true rfl, Nat.le_of_ble_eq_true rfl⟩) ⟨b_blind, b_recv E w (ci := 3) (q0 := 0) rfl rfl, (fun U9 hU9 hW9 => ⟨rfl, b_pre E Z0 w [0, 1] (by decide) rfl b_nil U9 hU9 hW9⟩)⟩ rfl rfl hl.1 rfl (lv_room (Nat.le_of_ble_eq_true rfl)) dX3_countHiddenInRow_2 ⟨Nat.le_of_ble_eq_true rfl, Nat.le_of_ble_eq_true rfl⟩) b_nil [] (fun _ => rfl) rfl (fun r2_22 u2_22 H locs hr2_22 w => ?_)
  have w : bSt G vwCl [] s [(h, .inr (3, [.ref qv, .ref qh])), (qh, .inl (G.2.2.1, 140, .inl (zB hid))), (th, .inr (4, [.ref o, .int (nI str), .int (nI n)])), (o, .inl (G.2.1, cap, .inl f))] _ _ := w
  subst hr2_22
  refine lv_if_eq (tgt := 12) hx hb dX3_countHiddenInRow_5 (by decide) (fun c_5_23 => ?_) (fun c_5_23 => ?_)
  · have q_5_24 : (hid hs) = false := bI_0.mp c_5_23
    have hct0 : 0 = b1 (hid hs) + 0 := by rw [b1_f q_5_24]
    refine lv_iconst (v := nI 0) hx hb dX3_countHiddenInRow_12 (by decide) ?_
    refine lv_istore (lv' := [(4, .int (nI 0)), (0, .ref h), (1, .ref th), (2, .int (nI hd)), (3, .int (nI hs))]) hx hb dX3_countHiddenInRow_13 hl (by decide) rfl (fun ls hl => ?_)
    refine lv_iload_n hx hb dX3_countHiddenInRow_15 rfl (lv_at hl 3 rfl) ?_
    refine lv_iconst (v := nI 1) hx hb dX3_countHiddenInRow_16 (by decide) ?_
    refine lv_iadd hx hb dX3_countHiddenInRow_17 ?_
    refine b_tp (show (nI hd) + (nI 1) = nI (hd + 1) from nI_add hd 1) ?_
    refine lv_istore (lv' := [(5, .int (nI (hd + 1))), (4, .int (nI 0)), (0, .ref h), (1, .ref th), (2, .int (nI hd)), (3, .int (nI hs))]) hx hb dX3_countHiddenInRow_18 hl (by decide) rfl (fun ls hl => ?_)
    refine b_loop (pc := 20) (st := []) (fun (fuel : Nat) (H : Heap) (locs : List Loc) (ls : Array Slot) => ∃ (k : Nat) (ct : Nat), (hd < k) ∧ (k ≤ n) ∧ (n + 1 ≤ k + fuel) ∧ (ct = b1 (hid hs) + cH (fun k => decide (f k = nI hd)) (fun k => hid (hs + str * (k - hd))) k) ∧ bSt G vwCl [] s [(h, .inr (3, [.ref qv, .ref qh])), (qh, .inl (G.2.2.1, 140, .inl (zB hid))), (th, .inr (4, [.ref o, .int (nI str), .int (nI n)])), (o, .inl (G.2.1, cap, .inl f))] H locs ∧ lv_has ls 6 [(0, .ref h), (1, .ref th), (2, .int (nI hd)), (3, .int (nI hs)), (4, .int (nI ct)), (5, .int (nI k))]) (fun H locs ls h9 => ?_) (fun fuel H locs ls hI ih20 => ?_) (n + 1) ⟨hd + 1, _, (by omega), (by omega), (by omega), by rw [cH_0 hlow]; exact hct0, w, lv_sub hl [2, 3, 4, 5, 1, 0] rfl⟩
    · obtain ⟨k, ct, hk1, hk, hf, hct, w, hl⟩ := h9
      omega
    · obtain ⟨k, ct, hk1, hk, hf, hct, w, hl⟩ := hI
      refine lv_iload hx hb dX3_countHiddenInRow_20 (lv_at hl 5 rfl) ?_
      refine lv_aload_n hx hb dX3_countHiddenInRow_22 rfl (lv_at hl 1 rfl) ?_
      refine b_getN (host := "Figurehouse") X E w 2 rfl rfl 2 (by decide) iX4 (by decide +kernel) rfl rfl dX3_countHiddenInRow_23 ?_
      refine lv_icmp_ge (tgt := 63) hx hb dX3_countHiddenInRow_26 (by decide) (fun c_26_25 => ?_) (fun c_26_25 => ?_)
      · have q_26_26 : n ≤ k := q_le (by omega) (by omega) c_26_25
        have ek : k = n := by omega
        rw [ek] at hct
        refine lv_iload hx hb dX3_countHiddenInRow_63 (lv_at hl 4 rfl) ?_
        exact W.iret (v := nI ct) hx hb hr (fun t9 ht9 hW9 => ⟨⟨nI ct, (), rfl, congrArg nI hct, fun k q h => by cases k <;> cases h⟩, w.2.1.F ht9⟩) w.2.1.2.2 dX3_countHiddenInRow_65
      · have q_26_26 : k < n := q_nle (by omega) (by omega) c_26_25
        refine lv_aload_n hx hb dX3_countHiddenInRow_29 rfl (lv_at hl 1 rfl) ?_
        refine lv_iload hx hb dX3_countHiddenInRow_30 (lv_at hl 5 rfl) ?_
        refine lv_iload_n hx hb dX3_countHiddenInRow_32 rfl (lv_at hl 2 rfl) ?_
        refine b_calli w (va_runV (As := [.int (nI k), .int (nI hd)]) (rest := []) X (c_X4_isRightIn l hl0 G _ (h := th) (k := k) (y := nI hd) (o := o) (str := str) (n := n) (cap := cap) (f := f) (hk := (by first | assumption | omega)) (hn := (by first | assumption | omega)) (hc := (by first | assumption | omega))) (cwV 2 hts gX3_countHiddenInRow_X4_isRightIn rfl rfl rfl (by decide +kernel) ⟨Nat.le_of_ble_eq_true rfl, Nat.le_of_ble_eq_true rfl⟩) ⟨b_blind, b_recv E w (ci := 4) (q0 := 2) rfl rfl, (fun U9 hU9 hW9 => ⟨rfl, b_pre E Z0 w [2, 3] (by decide) rfl b_nil U9 hU9 hW9⟩)⟩ rfl rfl hl.1 rfl (lv_room (Nat.le_of_ble_eq_true rfl)) dX3_countHiddenInRow_33 ⟨Nat.le_of_ble_eq_true rfl, Nat.le_of_ble_eq_true rfl⟩) b_nil [] (fun _ => rfl) rfl (fun r33_27 u33_27 H locs hr33_27 w => ?_)
        have w : bSt G vwCl [] s [(h, .inr (3, [.ref qv, .ref qh])), (qh, .inl (G.2.2.1, 140, .inl (zB hid))), (th, .inr (4, [.ref o, .int (nI str), .int (nI n)])), (o, .inl (G.2.1, cap, .inl f))] _ _ := w
        subst hr33_27
        refine lv_if_eq (tgt := 57) hx hb dX3_countHiddenInRow_36 (by decide) (fun c_36_28 => ?_) (fun c_36_28 => ?_)
        · have q_36_29 : (decide (f k = (nI hd))) = false := bI_0.mp c_36_28
          have g1 := cH_noP (b := (fun k => hid (hs + str * (k - hd)))) (p := (fun k => decide (f k = nI hd))) q_36_29
          refine lv_iinc (v := nI (k + 1)) (lv' := [(5, .int (nI (k + 1))), (0, .ref h), (1, .ref th), (2, .int (nI hd)), (3, .int (nI hs)), (4, .int (nI ct))]) hx hb dX3_countHiddenInRow_57 hl (k := 5) rfl (nI_add k 1) (by decide) rfl (fun ls hl => ?_)
          refine lv_goto (tgt := 20) hx hb dX3_countHiddenInRow_60 (by decide) ?_
          exact ih20 _ _ _ ⟨k + 1, ct, (by omega), (by omega), (by omega), by rw [g1, hct], w, lv_sub hl [1, 2, 3, 4, 5, 0] rfl⟩
        · have q_36_29 : (decide (f k = (nI hd))) = true := bI_n0.mp c_36_28
          have hp := q_36_29
          have hsl1 := hsl k (by omega) (by omega)
          refine lv_aload_n hx hb dX3_countHiddenInRow_39 rfl (lv_at hl 0 rfl) ?_
          refine lv_aload_n hx hb dX3_countHiddenInRow_40 rfl (lv_at hl 1 rfl) ?_
          refine lv_iload_n hx hb dX3_countHiddenInRow_41 rfl (lv_at hl 2 rfl) ?_
          refine lv_iload_n hx hb dX3_countHiddenInRow_42 rfl (lv_at hl 3 rfl) ?_
          refine lv_iload hx hb dX3_countHiddenInRow_43 (lv_at hl 5 rfl) ?_
          refine b_calli w (va_runS (As := [.ref th, .int (nI hd), .int (nI hs), .int (nI k)]) (rest := [.ref h]) X (c_X3_slotBeside l hl0 G _ (th := th) (hd := hd) (hs := hs) (k := k) (o := o) (str := str) (n := n) (hle := (by first | assumption | omega))) (va_cwS 4 hts gX3_countHiddenInRow_X3_slotBeside rfl rfl rfl (by decide +kernel) ⟨Nat.le_of_ble_eq_true rfl, Nat.le_of_ble_eq_true rfl⟩) ⟨b_blind, (fun U9 hU9 hW9 => ⟨rfl, b_pre E Z0 w [2] (by decide) rfl b_nil U9 hU9 hW9⟩)⟩ rfl rfl hl.1 rfl (lv_room (Nat.le_of_ble_eq_true rfl)) dX3_countHiddenInRow_45 ⟨Nat.le_of_ble_eq_true rfl, Nat.le_of_ble_eq_true rfl⟩) b_nil [] (fun _ => rfl) rfl (fun r45_30 u45_30 H locs hr45_30 w => ?_)
          have w : bSt G vwCl [] s [(h, .inr (3, [.ref qv, .ref qh])), (qh, .inl (G.2.2.1, 140, .inl (zB hid))), (th, .inr (4, [.ref o, .int (nI str), .int (nI n)])), (o, .inl (G.2.1, cap, .inl f))] _ _ := w
          subst hr45_30
          refine b_calli w (va_runV (As := [.int (nI (hs + str * (k - hd)))]) (rest := []) X (c_X3_isHidden l hl0 G _ (h := h) (t0 := hs + str * (k - hd)) (qv := qv) (qh := qh) (hid := hid) (ht := (by first | assumption | omega))) (cwV 1 hts gX3_countHiddenInRow_X3_isHidden rfl rfl rfl (by decide +kernel) ⟨Nat.le_of_ble_eq_true rfl, Nat.le_of_ble_eq_true rfl⟩) ⟨b_blind, b_recv E w (ci := 3) (q0 := 0) rfl rfl, (fun U9 hU9 hW9 => ⟨rfl, b_pre E Z0 w [0, 1] (by decide) rfl b_nil U9 hU9 hW9⟩)⟩ rfl rfl hl.1 rfl (lv_room (Nat.le_of_ble_eq_true rfl)) dX3_countHiddenInRow_48 ⟨Nat.le_of_ble_eq_true rfl, Nat.le_of_ble_eq_true rfl⟩) b_nil [] (fun _ => rfl) rfl (fun r48_31 u48_31 H locs hr48_31 w => ?_)
          have w : bSt G vwCl [] s [(h, .inr (3, [.ref qv, .ref qh])), (qh, .inl (G.2.2.1, 140, .inl (zB hid))), (th, .inr (4, [.ref o, .int (nI str), .int (nI n)])), (o, .inl (G.2.1, cap, .inl f))] _ _ := w
          subst hr48_31
          refine lv_if_eq (tgt := 57) hx hb dX3_countHiddenInRow_51 (by decide) (fun c_51_32 => ?_) (fun c_51_32 => ?_)
          · have q_51_33 : (hid (hs + str * (k - hd))) = false := bI_0.mp c_51_32
            have g1 := cH_noB (p := (fun k => decide (f k = nI hd))) (b := (fun k => hid (hs + str * (k - hd)))) hp q_51_33
            refine lv_iinc (v := nI (k + 1)) (lv' := [(5, .int (nI (k + 1))), (0, .ref h), (1, .ref th), (2, .int (nI hd)), (3, .int (nI hs)), (4, .int (nI ct))]) hx hb dX3_countHiddenInRow_57 hl (k := 5) rfl (nI_add k 1) (by decide) rfl (fun ls hl => ?_)
            refine lv_goto (tgt := 20) hx hb dX3_countHiddenInRow_60 (by decide) ?_
            exact ih20 _ _ _ ⟨k + 1, ct, (by omega), (by omega), (by omega), by rw [g1, hct], w, lv_sub hl [1, 2, 3, 4, 5, 0] rfl⟩
          · have q_51_33 : (hid (hs + str * (k - hd))) = true := bI_n0.mp c_51_32
            have g1 := cH_yes2 (p := (fun k => decide (f k = nI hd))) (b := (fun k => hid (hs + str * (k - hd)))) hp q_51_33
            refine lv_iinc (v := nI (ct + 1)) (lv' := [(4, .int (nI (ct + 1))), (0, .ref h), (1, .ref th), (2, .int (nI hd)), (3, .int (nI hs)), (5, .int (nI k))]) hx hb dX3_countHiddenInRow_54 hl (k := 4) rfl (nI_add ct 1) (by decide) rfl (fun ls hl => ?_)
            refine lv_iinc (v := nI (k + 1)) (lv' := [(5, .int (nI (k + 1))), (4, .int (nI (ct + 1))), (0, .ref h), (1, .ref th), (2, .int (nI hd)), (3, .int (nI hs))]) hx hb dX3_countHiddenInRow_57 hl (k := 5) rfl (nI_add k 1) (by decide) rfl (fun ls hl => ?_)
            refine lv_goto (tgt := 20) hx hb dX3_countHiddenInRow_60 (by decide) ?_
            exact ih20 _ _ _ ⟨k + 1, ct + 1, (by omega), (by omega), (by omega), by rw [g1, hct, Nat.add_assoc], w, lv_sub hl [2, 3, 4, 5, 1, 0] rfl⟩
  · have q_5_24 : (hid hs) = true := bI_n0.mp c_5_23
    have hct0 : 1 = b1 (hid hs) + 0 := by rw [b1_t q_5_24]
    refine lv_iconst (v := nI 1) hx hb dX3_countHiddenInRow_8 (by decide) ?_
    refine lv_goto (tgt := 13) hx hb dX3_countHiddenInRow_9 (by decide) ?_
    refine lv_istore (lv' := [(4, .int (nI 1)), (0, .ref h), (1, .ref th), (2, .int (nI hd)), (3, .int (nI hs))]) hx hb dX3_countHiddenInRow_13 hl (by decide) rfl (fun ls hl => ?_)
    refine lv_iload_n hx hb dX3_countHiddenInRow_15 rfl (lv_at hl 3 rfl) ?_
    refine lv_iconst (v := nI 1) hx hb dX3_countHiddenInRow_16 (by decide) ?_
    refine lv_iadd hx hb dX3_countHiddenInRow_17 ?_
    refine b_tp (show (nI hd) + (nI 1) = nI (hd + 1) from nI_add hd 1) ?_
    refine lv_istore (lv' := [(5, .int (nI (hd + 1))), (4, .int (nI 1)), (0, .ref h), (1, .ref th), (2, .int (nI hd)), (3, .int (nI hs))]) hx hb dX3_countHiddenInRow_18 hl (by decide) rfl (fun ls hl => ?_)
    refine b_loop (pc := 20) (st := []) (fun (fuel : Nat) (H : Heap) (locs : List Loc) (ls : Array Slot) => ∃ (k : Nat) (ct : Nat), (hd < k) ∧ (k ≤ n) ∧ (n + 1 ≤ k + fuel) ∧ (ct = b1 (hid hs) + cH (fun k => decide (f k = nI hd)) (fun k => hid (hs + str * (k - hd))) k) ∧ bSt G vwCl [] s [(h, .inr (3, [.ref qv, .ref qh])), (qh, .inl (G.2.2.1, 140, .inl (zB hid))), (th, .inr (4, [.ref o, .int (nI str), .int (nI n)])), (o, .inl (G.2.1, cap, .inl f))] H locs ∧ lv_has ls 6 [(0, .ref h), (1, .ref th), (2, .int (nI hd)), (3, .int (nI hs)), (4, .int (nI ct)), (5, .int (nI k))]) (fun H locs ls h9 => ?_) (fun fuel H locs ls hI ih20 => ?_) (n + 1) ⟨hd + 1, _, (by omega), (by omega), (by omega), by rw [cH_0 hlow]; exact hct0, w, lv_sub hl [2, 3, 4, 5, 1, 0] rfl⟩
    · obtain ⟨k, ct, hk1, hk, hf, hct, w, hl⟩ := h9
      omega
    · obtain ⟨k, ct, hk1, hk, hf, hct, w, hl⟩ := hI
      refine lv_iload hx hb dX3_countHiddenInRow_20 (lv_at hl 5 rfl) ?_
      refine lv_aload_n hx hb dX3_countHiddenInRow_22 rfl (lv_at hl 1 rfl) ?_
      refine b_getN (host := "Figurehouse") X E w 2 rfl rfl 2 (by decide) iX4 (by decide +kernel) rfl rfl dX3_countHiddenInRow_23 ?_
      refine lv_icmp_ge (tgt := 63) hx hb dX3_countHiddenInRow_26 (by decide) (fun c_26_34 => ?_) (fun c_26_34 => ?_)
      · have q_26_35 : n ≤ k := q_le (by omega) (by omega) c_26_34
        have ek : k = n := by omega
        rw [ek] at hct
        refine lv_iload hx hb dX3_countHiddenInRow_63 (lv_at hl 4 rfl) ?_
        exact W.iret (v := nI ct) hx hb hr (fun t9 ht9 hW9 => ⟨⟨nI ct, (), rfl, congrArg nI hct, fun k q h => by cases k <;> cases h⟩, w.2.1.F ht9⟩) w.2.1.2.2 dX3_countHiddenInRow_65
      · have q_26_35 : k < n := q_nle (by omega) (by omega) c_26_34
        refine lv_aload_n hx hb dX3_countHiddenInRow_29 rfl (lv_at hl 1 rfl) ?_
        refine lv_iload hx hb dX3_countHiddenInRow_30 (lv_at hl 5 rfl) ?_
        refine lv_iload_n hx hb dX3_countHiddenInRow_32 rfl (lv_at hl 2 rfl) ?_
        refine b_calli w (va_runV (As := [.int (nI k), .int (nI hd)]) (rest := []) X (c_X4_isRightIn l hl0 G _ (h := th) (k := k) (y := nI hd) (o := o) (str := str) (n := n) (cap := cap) (f := f) (hk := (by first | assumption | omega)) (hn := (by first | assumption | omega)) (hc := (by first | assumption | omega))) (cwV 2 hts gX3_countHiddenInRow_X4_isRightIn rfl rfl rfl (by decide +kernel) ⟨Nat.le_of_ble_eq_true rfl, Nat.le_of_ble_eq_true rfl⟩) ⟨b_blind, b_recv E w (ci := 4) (q0 := 2) rfl rfl, (fun U9 hU9 hW9 => ⟨rfl, b_pre E Z0 w [2, 3] (by decide) rfl b_nil U9 hU9 hW9⟩)⟩ rfl rfl hl.1 rfl (lv_room (Nat.le_of_ble_eq_true rfl)) dX3_countHiddenInRow_33 ⟨Nat.le_of_ble_eq_true rfl, Nat.le_of_ble_eq_true rfl⟩) b_nil [] (fun _ => rfl) rfl (fun r33_36 u33_36 H locs hr33_36 w => ?_)
        have w : bSt G vwCl [] s [(h, .inr (3, [.ref qv, .ref qh])), (qh, .inl (G.2.2.1, 140, .inl (zB hid))), (th, .inr (4, [.ref o, .int (nI str), .int (nI n)])), (o, .inl (G.2.1, cap, .inl f))] _ _ := w
        subst hr33_36
        refine lv_if_eq (tgt := 57) hx hb dX3_countHiddenInRow_36 (by decide) (fun c_36_37 => ?_) (fun c_36_37 => ?_)
        · have q_36_38 : (decide (f k = (nI hd))) = false := bI_0.mp c_36_37
          have g1 := cH_noP (b := (fun k => hid (hs + str * (k - hd)))) (p := (fun k => decide (f k = nI hd))) q_36_38
          refine lv_iinc (v := nI (k + 1)) (lv' := [(5, .int (nI (k + 1))), (0, .ref h), (1, .ref th), (2, .int (nI hd)), (3, .int (nI hs)), (4, .int (nI ct))]) hx hb dX3_countHiddenInRow_57 hl (k := 5) rfl (nI_add k 1) (by decide) rfl (fun ls hl => ?_)
          refine lv_goto (tgt := 20) hx hb dX3_countHiddenInRow_60 (by decide) ?_
          exact ih20 _ _ _ ⟨k + 1, ct, (by omega), (by omega), (by omega), by rw [g1, hct], w, lv_sub hl [1, 2, 3, 4, 5, 0] rfl⟩
        · have q_36_38 : (decide (f k = (nI hd))) = true := bI_n0.mp c_36_37
          have hp := q_36_38
          have hsl1 := hsl k (by omega) (by omega)
          refine lv_aload_n hx hb dX3_countHiddenInRow_39 rfl (lv_at hl 0 rfl) ?_
          refine lv_aload_n hx hb dX3_countHiddenInRow_40 rfl (lv_at hl 1 rfl) ?_
          refine lv_iload_n hx hb dX3_countHiddenInRow_41 rfl (lv_at hl 2 rfl) ?_
          refine lv_iload_n hx hb dX3_countHiddenInRow_42 rfl (lv_at hl 3 rfl) ?_
          refine lv_iload hx hb dX3_countHiddenInRow_43 (lv_at hl 5 rfl) ?_
          refine b_calli w (va_runS (As := [.ref th, .int (nI hd), .int (nI hs), .int (nI k)]) (rest := [.ref h]) X (c_X3_slotBeside l hl0 G _ (th := th) (hd := hd) (hs := hs) (k := k) (o := o) (str := str) (n := n) (hle := (by first | assumption | omega))) (va_cwS 4 hts gX3_countHiddenInRow_X3_slotBeside rfl rfl rfl (by decide +kernel) ⟨Nat.le_of_ble_eq_true rfl, Nat.le_of_ble_eq_true rfl⟩) ⟨b_blind, (fun U9 hU9 hW9 => ⟨rfl, b_pre E Z0 w [2] (by decide) rfl b_nil U9 hU9 hW9⟩)⟩ rfl rfl hl.1 rfl (lv_room (Nat.le_of_ble_eq_true rfl)) dX3_countHiddenInRow_45 ⟨Nat.le_of_ble_eq_true rfl, Nat.le_of_ble_eq_true rfl⟩) b_nil [] (fun _ => rfl) rfl (fun r45_39 u45_39 H locs hr45_39 w => ?_)
          have w : bSt G vwCl [] s [(h, .inr (3, [.ref qv, .ref qh])), (qh, .inl (G.2.2.1, 140, .inl (zB hid))), (th, .inr (4, [.ref o, .int (nI str), .int (nI n)])), (o, .inl (G.2.1, cap, .inl f))] _ _ := w
          subst hr45_39
          refine b_calli w (va_runV (As := [.int (nI (hs + str * (k - hd)))]) (rest := []) X (c_X3_isHidden l hl0 G _ (h := h) (t0 := hs + str * (k - hd)) (qv := qv) (qh := qh) (hid := hid) (ht := (by first | assumption | omega))) (cwV 1 hts gX3_countHiddenInRow_X3_isHidden rfl rfl rfl (by decide +kernel) ⟨Nat.le_of_ble_eq_true rfl, Nat.le_of_ble_eq_true rfl⟩) ⟨b_blind, b_recv E w (ci := 3) (q0 := 0) rfl rfl, (fun U9 hU9 hW9 => ⟨rfl, b_pre E Z0 w [0, 1] (by decide) rfl b_nil U9 hU9 hW9⟩)⟩ rfl rfl hl.1 rfl (lv_room (Nat.le_of_ble_eq_true rfl)) dX3_countHiddenInRow_48 ⟨Nat.le_of_ble_eq_true rfl, Nat.le_of_ble_eq_true rfl⟩) b_nil [] (fun _ => rfl) rfl (fun r48_40 u48_40 H locs hr48_40 w => ?_)
          have w : bSt G vwCl [] s [(h, .inr (3, [.ref qv, .ref qh])), (qh, .inl (G.2.2.1, 140, .inl (zB hid))), (th, .inr (4, [.ref o, .int (nI str), .int (nI n)])), (o, .inl (G.2.1, cap, .inl f))] _ _ := w
          subst hr48_40
          refine lv_if_eq (tgt := 57) hx hb dX3_countHiddenInRow_51 (by decide) (fun c_51_41 => ?_) (fun c_51_41 => ?_)
          · have q_51_42 : (hid (hs + str * (k - hd))) = false := bI_0.mp c_51_41
            have g1 := cH_noB (p := (fun k => decide (f k = nI hd))) (b := (fun k => hid (hs + str * (k - hd)))) hp q_51_42
            refine lv_iinc (v := nI (k + 1)) (lv' := [(5, .int (nI (k + 1))), (0, .ref h), (1, .ref th), (2, .int (nI hd)), (3, .int (nI hs)), (4, .int (nI ct))]) hx hb dX3_countHiddenInRow_57 hl (k := 5) rfl (nI_add k 1) (by decide) rfl (fun ls hl => ?_)
            refine lv_goto (tgt := 20) hx hb dX3_countHiddenInRow_60 (by decide) ?_
            exact ih20 _ _ _ ⟨k + 1, ct, (by omega), (by omega), (by omega), by rw [g1, hct], w, lv_sub hl [1, 2, 3, 4, 5, 0] rfl⟩
          · have q_51_42 : (hid (hs + str * (k - hd))) = true := bI_n0.mp c_51_41
            have g1 := cH_yes2 (p := (fun k => decide (f k = nI hd))) (b := (fun k => hid (hs + str * (k - hd)))) hp q_51_42
            refine lv_iinc (v := nI (ct + 1)) (lv' := [(4, .int (nI (ct + 1))), (0, .ref h), (1, .ref th), (2, .int (nI hd)), (3, .int (nI hs)), (5, .int (nI k))]) hx hb dX3_countHiddenInRow_54 hl (k := 4) rfl (nI_add ct 1) (by decide) rfl (fun ls hl => ?_)
            refine lv_iinc (v := nI (k + 1)) (lv' := [(5, .int (nI (k + 1))), (4, .int (nI (ct + 1))), (0, .ref h), (1, .ref th), (2, .int (nI hd)), (3, .int (nI hs))]) hx hb dX3_countHiddenInRow_57 hl (k := 5) rfl (nI_add k 1) (by decide) rfl (fun ls hl => ?_)
            refine lv_goto (tgt := 20) hx hb dX3_countHiddenInRow_60 (by decide) ?_
            exact ih20 _ _ _ ⟨k + 1, ct + 1, (by omega), (by omega), (by omega), by rw [g1, hct, Nat.add_assoc], w, lv_sub hl [2, 3, 4, 5, 1, 0] rfl⟩
set_option maxHeartbeats 4000000 in
set_option maxRecDepth 100000 in
theorem c_X3_nearestOpenSlot (l : Launch) (hl0 : l.stackTraces = false) (G : bG) (sz : Nat) (h qv qh : Nat) (v : Nat → Int32) (hid : Nat → Bool) (th o cap str n : Nat) (f : Nat → Int32) (hd hs : Nat) (hh : hd < n) (hn : n ≤ cap) (hc : cap ≤ 100) (hT : TI f n) (hsl : ∀ k, hd < k → k < n → hs + str * (k - hd) < 140) (hs0 : hs < 140) : Met l yX3_nearestOpenSlot wsX3_nearestOpenSlot ({ frames := 1, cells := 0, slots := 0, locals := 24 }) (va_Pc [.ref h, .ref th, .int (nI hd), .int (nI hs)] (bPre G vwCl bNW bSW sz [(h, .inr (3, [.ref qv, .ref qh])), (qv, .inl (G.2.1, 140, .inl v)), (qh, .inl (G.2.2.1, 140, .inl (zB hid))), (th, .inr (4, [.ref o, .int (nI str), .int (nI n)])), (o, .inl (G.2.1, cap, .inl f))] [])) (va_Qi (fun (r : Int32) (_ : Unit) => r = nI (oN (fun k => hs + str * (k - hd)) hs (nr (fun k => decide (f k = nI hd)) (fun k => hid (hs + str * (k - hd))) (fun k => v (hs + str * (k - hd))) n))) (fun (_ : Unit) (tS : State) => va_P G.1 vwCl [] tS.heap) (Aw [] sz)) 0 0 (Aw [] sz) := by
  refine Met.ofW (cc := cX3_nearestOpenSlot) (maxL := 7) (ret := (some .int)) (by decide) rfl ?_
  intro p e s m args below meth c s₁ B hml hv
  obtain ⟨rfl, hsz, hP, hD, E, Z⟩ := hv
  have hts := atoms_spec (ws := wsX3_nearestOpenSlot) B.pre
  have hown : s.vm.findClass RX3 = some m.cls := findClass_of_methodNamed B.named
  have X : CallFix p m c cX3_nearestOpenSlot 7 s _ wsX3_nearestOpenSlot RX3 := ⟨B.exec, B.bytes, hml, hown, hts⟩
  have hx := B.exec
  have hb := B.bytes
  have hr := B.returns
  have hlocks := B.notSynchronized
  subst hsz
  have w : bSt G vwCl [] s [(h, .inr (3, [.ref qv, .ref qh])), (qv, .inl (G.2.1, 140, .inl v)), (qh, .inl (G.2.2.1, 140, .inl (zB hid))), (th, .inr (4, [.ref o, .int (nI str), .int (nI n)])), (o, .inl (G.2.1, cap, .inl f))] s.heap [] := ⟨hP, va_S.rf, hD⟩
  have Z0 : bZ [] s := ⟨Z.1.narrow (fun q h => h.elim (fun h => nomatch h) Or.inr), Z.2.narrow (fun q h => h.elim (fun h => nomatch h) Or.inr)⟩
  have iX4 : ∀ w ∈ wsX40, w ∈ wsX3_nearestOpenSlot := by decide +kernel
  have hl := lv_entry ([.ref h, .ref th, .int (nI hd), .int (nI hs)]) (n := 7) (Nat.le_of_ble_eq_true rfl)
  rw [lg_entry_eq]
  generalize (lg_sl ([.ref h, .ref th, .int (nI hd), .int (nI hs)]) ++ List.replicate (7 - (lg_sl ([.ref h, .ref th, .int (nI hd), .int (nI hs)])).length) Slot.unset).toArray = ls at hl ⊢
  have hl : lv_has ls 7 [(0, .ref h), (1, .ref th), (2, .int (nI hd)), (3, .int (nI hs))] := hl
  have hlow := tI_low hT (by omega) hh
  refine lv_iconst (v := -1) hx hb dX3_nearestOpenSlot_0 (by decide) ?_
  refine lv_istore (lv' := [(4, .int (-1)), (0, .ref h), (1, .ref th), (2, .int (nI hd)), (3, .int (nI hs))]) hx hb dX3_nearestOpenSlot_1 hl (by decide) rfl (fun ls hl => ?_)
  refine lv_iload_n hx hb dX3_nearestOpenSlot_3 rfl (lv_at hl 3 rfl) ?_
  refine lv_iconst (v := nI 1) hx hb dX3_nearestOpenSlot_4 (by decide) ?_
  refine lv_iadd hx hb dX3_nearestOpenSlot_5 ?_
  refine b_tp (show (nI hd) + (nI 1) = nI (hd + 1) from nI_add hd 1) ?_
  refine lv_istore (lv' := [(5, .int (nI (hd + 1))), (4, .int (-1)), (0, .ref h), (1, .ref th), (2, .int (nI hd)), (3, .int (nI hs))]) hx hb dX3_nearestOpenSlot_6 hl (by decide) rfl (fun ls hl => ?_)
  refine b_loop (pc := 8) (st := []) (fun (fuel : Nat) (H : Heap) (locs : List Loc) (ls : Array Slot) => ∃ (k : Nat) (o1 : Option Nat), (hd < k) ∧ (k ≤ n) ∧ (n + 1 ≤ k + fuel) ∧ (o1 = nr (fun k => decide (f k = nI hd)) (fun k => hid (hs + str * (k - hd))) (fun k => v (hs + str * (k - hd))) k) ∧ bSt G vwCl [] s [(h, .inr (3, [.ref qv, .ref qh])), (qv, .inl (G.2.1, 140, .inl v)), (qh, .inl (G.2.2.1, 140, .inl (zB hid))), (th, .inr (4, [.ref o, .int (nI str), .int (nI n)])), (o, .inl (G.2.1, cap, .inl f))] H locs ∧ lv_has ls 7 [(0, .ref h), (1, .ref th), (2, .int (nI hd)), (3, .int (nI hs)), (4, .int (oS (fun k => hs + str * (k - hd)) o1)), (5, .int (nI k))]) (fun H locs ls h9 => ?_) (fun fuel H locs ls hI ih8 => ?_) (n + 1) ⟨hd + 1, none, (by omega), (by omega), (by omega), (nr_0 hlow).symm, w, lv_sub hl [2, 3, 4, 5, 1, 0] rfl⟩
  · obtain ⟨k, o1, hk1, hk, hf, ho, w, hl⟩ := h9
    omega
  · obtain ⟨k, o1, hk1, hk, hf, ho, w, hl⟩ := hI
    have hsm : ∀ j, o1 = some j → hs + str * (j - hd) < 140 := fun j hj => by
      obtain ⟨j1, j2, -⟩ := nr_some (ho.symm.trans hj)
      exact hsl j (tI_up hT (by omega) (by omega) j2 hh) (by omega)
    refine lv_iload hx hb dX3_nearestOpenSlot_8 (lv_at hl 5 rfl) ?_
    refine lv_aload_n hx hb dX3_nearestOpenSlot_10 rfl (lv_at hl 1 rfl) ?_
    refine b_getN (host := "Figurehouse") X E w 3 rfl rfl 2 (by decide) iX4 (by decide +kernel) rfl rfl dX3_nearestOpenSlot_11 ?_
    refine lv_icmp_ge (tgt := 83) hx hb dX3_nearestOpenSlot_14 (by decide) (fun c_14_15 => ?_) (fun c_14_15 => ?_)
    · have q_14_16 : n ≤ k := q_le (by omega) (by omega) c_14_15
      have ek : k = n := by omega
      rw [ek] at ho
      refine lv_iload hx hb dX3_nearestOpenSlot_83 (lv_at hl 4 rfl) ?_
      refine lv_iconst (v := -1) hx hb dX3_nearestOpenSlot_85 (by decide) ?_
      refine lv_icmp_ne (tgt := 93) hx hb dX3_nearestOpenSlot_86 (by decide) (fun c_86_17 => ?_) (fun c_86_17 => ?_)
      · obtain ⟨j, rfl⟩ := oS_some c_86_17
        have hE : nI (hs + str * (j - hd)) = nI (oN (fun k => hs + str * (k - hd)) hs (nr (fun k => decide (f k = nI hd)) (fun k => hid (hs + str * (k - hd))) (fun k => v (hs + str * (k - hd))) n)) := by rw [← ho]; rfl
        have hl : lv_has ls 7 [(0, .ref h), (1, .ref th), (2, .int (nI hd)), (3, .int (nI hs)), (4, .int (nI (hs + str * (j - hd)))), (5, .int (nI k))] := hl
        refine lv_iload hx hb dX3_nearestOpenSlot_93 (lv_at hl 4 rfl) ?_
        exact W.iret (v := nI (hs + str * (j - hd))) hx hb hr (fun t9 ht9 hW9 => ⟨⟨nI (hs + str * (j - hd)), (), rfl, hE, fun k q h => by cases k <;> cases h⟩, w.2.1.F ht9⟩) w.2.1.2.2 dX3_nearestOpenSlot_95
      · have on : o1 = none := oS_none c_86_17 (fun j hj => Nat.lt_trans (hsm j hj) (by decide))
        have hE : nI hs = nI (oN (fun k => hs + str * (k - hd)) hs (nr (fun k => decide (f k = nI hd)) (fun k => hid (hs + str * (k - hd))) (fun k => v (hs + str * (k - hd))) n)) := by rw [← ho, on]; rfl
        refine lv_iload_n hx hb dX3_nearestOpenSlot_89 rfl (lv_at hl 3 rfl) ?_
        refine lv_goto (tgt := 95) hx hb dX3_nearestOpenSlot_90 (by decide) ?_
        exact W.iret (v := nI hs) hx hb hr (fun t9 ht9 hW9 => ⟨⟨nI hs, (), rfl, hE, fun k q h => by cases k <;> cases h⟩, w.2.1.F ht9⟩) w.2.1.2.2 dX3_nearestOpenSlot_95
    · have q_14_16 : k < n := q_nle (by omega) (by omega) c_14_15
      refine lv_aload_n hx hb dX3_nearestOpenSlot_17 rfl (lv_at hl 1 rfl) ?_
      refine lv_iload_n hx hb dX3_nearestOpenSlot_18 rfl (lv_at hl 2 rfl) ?_
      refine lv_iload_n hx hb dX3_nearestOpenSlot_19 rfl (lv_at hl 3 rfl) ?_
      refine lv_iload hx hb dX3_nearestOpenSlot_20 (lv_at hl 5 rfl) ?_
      refine b_calli w (va_runS (As := [.ref th, .int (nI hd), .int (nI hs), .int (nI k)]) (rest := []) X (c_X3_slotBeside l hl0 G _ (th := th) (hd := hd) (hs := hs) (k := k) (o := o) (str := str) (n := n) (hle := (by first | assumption | omega))) (va_cwS 4 hts gX3_nearestOpenSlot_X3_slotBeside rfl rfl rfl (by decide +kernel) ⟨Nat.le_of_ble_eq_true rfl, Nat.le_of_ble_eq_true rfl⟩) ⟨b_blind, (fun U9 hU9 hW9 => ⟨rfl, b_pre E Z0 w [3] (by decide) rfl b_nil U9 hU9 hW9⟩)⟩ rfl rfl hl.1 rfl (lv_room (Nat.le_of_ble_eq_true rfl)) dX3_nearestOpenSlot_22 ⟨Nat.le_of_ble_eq_true rfl, Nat.le_of_ble_eq_true rfl⟩) b_nil [] (fun _ => rfl) rfl (fun r22_18 u22_18 H locs hr22_18 w => ?_)
      have w : bSt G vwCl [] s [(h, .inr (3, [.ref qv, .ref qh])), (qv, .inl (G.2.1, 140, .inl v)), (qh, .inl (G.2.2.1, 140, .inl (zB hid))), (th, .inr (4, [.ref o, .int (nI str), .int (nI n)])), (o, .inl (G.2.1, cap, .inl f))] _ _ := w
      subst hr22_18
      refine lv_istore (lv' := [(6, .int (nI (hs + str * (k - hd)))), (0, .ref h), (1, .ref th), (2, .int (nI hd)), (3, .int (nI hs)), (4, .int (oS (fun k => hs + str * (k - hd)) o1)), (5, .int (nI k))]) hx hb dX3_nearestOpenSlot_25 hl (by decide) rfl (fun ls hl => ?_)
      refine lv_aload_n hx hb dX3_nearestOpenSlot_27 rfl (lv_at hl 2 rfl) ?_
      refine lv_iload hx hb dX3_nearestOpenSlot_28 (lv_at hl 6 rfl) ?_
      refine lv_iload_n hx hb dX3_nearestOpenSlot_30 rfl (lv_at hl 3 rfl) ?_
      refine b_calli w (va_runV (As := [.int (nI k), .int (nI hd)]) (rest := []) X (c_X4_isRightIn l hl0 G _ (h := th) (k := k) (y := nI hd) (o := o) (str := str) (n := n) (cap := cap) (f := f) (hk := (by first | assumption | omega)) (hn := (by first | assumption | omega)) (hc := (by first | assumption | omega))) (cwV 2 hts gX3_nearestOpenSlot_X4_isRightIn rfl rfl rfl (by decide +kernel) ⟨Nat.le_of_ble_eq_true rfl, Nat.le_of_ble_eq_true rfl⟩) ⟨b_blind, b_recv E w (ci := 4) (q0 := 3) rfl rfl, (fun U9 hU9 hW9 => ⟨rfl, b_pre E Z0 w [3, 4] (by decide) rfl b_nil U9 hU9 hW9⟩)⟩ rfl rfl hl.1 rfl (lv_room (Nat.le_of_ble_eq_true rfl)) dX3_nearestOpenSlot_31 ⟨Nat.le_of_ble_eq_true rfl, Nat.le_of_ble_eq_true rfl⟩) b_nil [] (fun _ => rfl) rfl (fun r31_19 u31_19 H locs hr31_19 w => ?_)
      have w : bSt G vwCl [] s [(h, .inr (3, [.ref qv, .ref qh])), (qv, .inl (G.2.1, 140, .inl v)), (qh, .inl (G.2.2.1, 140, .inl (zB hid))), (th, .inr (4, [.ref o, .int (nI str), .int (nI n)])), (o, .inl (G.2.1, cap, .inl f))] _ _ := w
      subst hr31_19
      refine lv_if_eq (tgt := 77) hx hb dX3_nearestOpenSlot_34 (by decide) (fun c_34_20 => ?_) (fun c_34_20 => ?_)
      · have q_34_21 : (decide (f k = (nI hd))) = false := bI_0.mp c_34_20
        have g1 := nr_noP (b := (fun k => hid (hs + str * (k - hd)))) (v := (fun k => v (hs + str * (k - hd)))) (p := (fun k => decide (f k = nI hd))) q_34_21
        refine lv_iinc (v := nI (k + 1)) (lv' := [(5, .int (nI (k + 1))), (6, .int (nI (hs + str * (k - hd)))), (0, .ref h), (1, .ref th), (2, .int (nI hd)), (3, .int (nI hs)), (4, .int (oS (fun k => hs + str * (k - hd)) o1))]) hx hb dX3_nearestOpenSlot_77 hl (k := 6) rfl (nI_add k 1) (by decide) rfl (fun ls hl => ?_)
        refine lv_goto (tgt := 8) hx hb dX3_nearestOpenSlot_80 (by decide) ?_
        exact ih8 _ _ _ ⟨k + 1, o1, (by omega), (by omega), (by omega), ho.trans g1.symm, w, lv_sub hl [2, 3, 4, 5, 6, 0] rfl⟩
      · have q_34_21 : (decide (f k = (nI hd))) = true := bI_n0.mp c_34_20
        have hp := q_34_21
        have hsl1 := hsl k (by omega) (by omega)
        refine lv_aload_n hx hb dX3_nearestOpenSlot_37 rfl (lv_at hl 1 rfl) ?_
        refine lv_iload hx hb dX3_nearestOpenSlot_38 (lv_at hl 0 rfl) ?_
        refine b_calli w (va_runV (As := [.int (nI (hs + str * (k - hd)))]) (rest := []) X (c_X3_isHidden l hl0 G _ (h := h) (t0 := hs + str * (k - hd)) (qv := qv) (qh := qh) (hid := hid) (ht := (by first | assumption | omega))) (cwV 1 hts gX3_nearestOpenSlot_X3_isHidden rfl rfl rfl (by decide +kernel) ⟨Nat.le_of_ble_eq_true rfl, Nat.le_of_ble_eq_true rfl⟩) ⟨b_blind, b_recv E w (ci := 3) (q0 := 0) rfl rfl, (fun U9 hU9 hW9 => ⟨rfl, b_pre E Z0 w [0, 2] (by decide) rfl b_nil U9 hU9 hW9⟩)⟩ rfl rfl hl.1 rfl (lv_room (Nat.le_of_ble_eq_true rfl)) dX3_nearestOpenSlot_40 ⟨Nat.le_of_ble_eq_true rfl, Nat.le_of_ble_eq_true rfl⟩) b_nil [] (fun _ => rfl) rfl (fun r40_22 u40_22 H locs hr40_22 w => ?_)
        have w : bSt G vwCl [] s [(h, .inr (3, [.ref qv, .ref qh])), (qv, .inl (G.2.1, 140, .inl v)), (qh, .inl (G.2.2.1, 140, .inl (zB hid))), (th, .inr (4, [.ref o, .int (nI str), .int (nI n)])), (o, .inl (G.2.1, cap, .inl f))] _ _ := w
        subst hr40_22
        refine lv_if_ne (tgt := 77) hx hb dX3_nearestOpenSlot_43 (by decide) (fun c_43_23 => ?_) (fun c_43_23 => ?_)
        · have q_43_24 : (hid (hs + str * (k - hd))) = true := bI_n0.mp c_43_23
          have g1 := nr_noB (p := (fun k => decide (f k = nI hd))) (v := (fun k => v (hs + str * (k - hd)))) (b := (fun k => hid (hs + str * (k - hd)))) q_43_24
          refine lv_iinc (v := nI (k + 1)) (lv' := [(5, .int (nI (k + 1))), (6, .int (nI (hs + str * (k - hd)))), (0, .ref h), (1, .ref th), (2, .int (nI hd)), (3, .int (nI hs)), (4, .int (oS (fun k => hs + str * (k - hd)) o1))]) hx hb dX3_nearestOpenSlot_77 hl (k := 6) rfl (nI_add k 1) (by decide) rfl (fun ls hl => ?_)
          refine lv_goto (tgt := 8) hx hb dX3_nearestOpenSlot_80 (by decide) ?_
          exact ih8 _ _ _ ⟨k + 1, o1, (by omega), (by omega), (by omega), ho.trans g1.symm, w, lv_sub hl [2, 3, 4, 5, 6, 0] rfl⟩
        · have q_43_24 : (hid (hs + str * (k - hd))) = false := bI_0.mp c_43_23
          have hq := q_43_24
          refine lv_iload hx hb dX3_nearestOpenSlot_46 (lv_at hl 5 rfl) ?_
          refine lv_iconst (v := -1) hx hb dX3_nearestOpenSlot_48 (by decide) ?_
          refine lv_icmp_eq (tgt := 73) hx hb dX3_nearestOpenSlot_49 (by decide) (fun c_49_25 => ?_) (fun c_49_25 => ?_)
          · have on : o1 = none := oS_none c_49_25 (fun j hj => Nat.lt_trans (hsm j hj) (by decide))
            have g1 := nr_first2 (p := (fun k => decide (f k = nI hd))) (b := (fun k => hid (hs + str * (k - hd)))) (v := (fun k => v (hs + str * (k - hd)))) hp hq (ho.symm.trans on)
            refine lv_iload hx hb dX3_nearestOpenSlot_73 (lv_at hl 0 rfl) ?_
            refine lv_istore (lv' := [(4, .int (nI (hs + str * (k - hd)))), (6, .int (nI (hs + str * (k - hd)))), (0, .ref h), (1, .ref th), (2, .int (nI hd)), (3, .int (nI hs)), (5, .int (nI k))]) hx hb dX3_nearestOpenSlot_75 hl (by decide) rfl (fun ls hl => ?_)
            refine lv_iinc (v := nI (k + 1)) (lv' := [(5, .int (nI (k + 1))), (4, .int (nI (hs + str * (k - hd)))), (6, .int (nI (hs + str * (k - hd)))), (0, .ref h), (1, .ref th), (2, .int (nI hd)), (3, .int (nI hs))]) hx hb dX3_nearestOpenSlot_77 hl (k := 6) rfl (nI_add k 1) (by decide) rfl (fun ls hl => ?_)
            refine lv_goto (tgt := 8) hx hb dX3_nearestOpenSlot_80 (by decide) ?_
            exact ih8 _ _ _ ⟨k + 1, some k, (by omega), (by omega), (by omega), g1.symm, w, lv_sub hl [3, 4, 5, 6, 1, 0] rfl⟩
          · obtain ⟨j, rfl⟩ := oS_some c_49_25
            have hsl2 := hsm j rfl
            have hl : lv_has ls 7 [(6, .int (nI (hs + str * (k - hd)))), (0, .ref h), (1, .ref th), (2, .int (nI hd)), (3, .int (nI hs)), (4, .int (nI (hs + str * (j - hd)))), (5, .int (nI k))] := hl
            refine lv_aload_n hx hb dX3_nearestOpenSlot_52 rfl (lv_at hl 1 rfl) ?_
            refine lv_iload hx hb dX3_nearestOpenSlot_53 (lv_at hl 0 rfl) ?_
            refine b_calli w (va_runV (As := [.int (nI (hs + str * (k - hd)))]) (rest := []) X (c_X3_valueAt l hl0 G _ (h := h) (t0 := hs + str * (k - hd)) (qv := qv) (qh := qh) (v := v) (ht := (by first | assumption | omega))) (cwV 1 hts gX3_nearestOpenSlot_X3_valueAt rfl rfl rfl (by decide +kernel) ⟨Nat.le_of_ble_eq_true rfl, Nat.le_of_ble_eq_true rfl⟩) ⟨b_blind, b_recv E w (ci := 3) (q0 := 0) rfl rfl, (fun U9 hU9 hW9 => ⟨rfl, b_pre E Z0 w [0, 1] (by decide) rfl b_nil U9 hU9 hW9⟩)⟩ rfl rfl hl.1 rfl (lv_room (Nat.le_of_ble_eq_true rfl)) dX3_nearestOpenSlot_55 ⟨Nat.le_of_ble_eq_true rfl, Nat.le_of_ble_eq_true rfl⟩) b_nil [] (fun _ => rfl) rfl (fun r55_26 u55_26 H locs hr55_26 w => ?_)
            have w : bSt G vwCl [] s [(h, .inr (3, [.ref qv, .ref qh])), (qv, .inl (G.2.1, 140, .inl v)), (qh, .inl (G.2.2.1, 140, .inl (zB hid))), (th, .inr (4, [.ref o, .int (nI str), .int (nI n)])), (o, .inl (G.2.1, cap, .inl f))] _ _ := w
            subst hr55_26
            refine va_mabs hx hb (hml.trans hl.1.symm) hown (hts (.methodLink RX3 89 Lib.Math.abs.name) (by decide +kernel)) (hts (.static Lib.Math.abs.name) (by decide +kernel)) (hts (.initialized "java/lang/Math") (by decide +kernel)) (hts (.code Lib.Math.abs.name Lib.Math.abs.code 1 (some .int)) (by decide +kernel)) (Nat.le_of_ble_eq_true rfl) (Nat.le_of_ble_eq_true rfl) (Nat.le_of_ble_eq_true rfl) (Nat.le_of_ble_eq_true rfl) dX3_nearestOpenSlot_58 ?_
            refine b_tp (show (if 0 ≤ v (hs + str * (k - hd)) then v (hs + str * (k - hd)) else 0 - (v (hs + str * (k - hd)))) = b_abs (v (hs + str * (k - hd))) from rfl) ?_
            refine lv_aload_n hx hb dX3_nearestOpenSlot_61 rfl (lv_at hl 1 rfl) ?_
            refine lv_iload hx hb dX3_nearestOpenSlot_62 (lv_at hl 5 rfl) ?_
            refine b_calli w (va_runV (As := [.int (nI (hs + str * (j - hd)))]) (rest := [.int (b_abs (v (hs + str * (k - hd))))]) X (c_X3_valueAt l hl0 G _ (h := h) (t0 := hs + str * (j - hd)) (qv := qv) (qh := qh) (v := v) (ht := (by first | assumption | omega))) (cwV 1 hts gX3_nearestOpenSlot_X3_valueAt rfl rfl rfl (by decide +kernel) ⟨Nat.le_of_ble_eq_true rfl, Nat.le_of_ble_eq_true rfl⟩) ⟨b_blind, b_recv E w (ci := 3) (q0 := 0) rfl rfl, (fun U9 hU9 hW9 => ⟨rfl, b_pre E Z0 w [0, 1] (by decide) rfl b_nil U9 hU9 hW9⟩)⟩ rfl rfl hl.1 rfl (lv_room (Nat.le_of_ble_eq_true rfl)) dX3_nearestOpenSlot_64 ⟨Nat.le_of_ble_eq_true rfl, Nat.le_of_ble_eq_true rfl⟩) b_nil [] (fun _ => rfl) rfl (fun r64_27 u64_27 H locs hr64_27 w => ?_)
            have w : bSt G vwCl [] s [(h, .inr (3, [.ref qv, .ref qh])), (qv, .inl (G.2.1, 140, .inl v)), (qh, .inl (G.2.2.1, 140, .inl (zB hid))), (th, .inr (4, [.ref o, .int (nI str), .int (nI n)])), (o, .inl (G.2.1, cap, .inl f))] _ _ := w
            subst hr64_27
            refine va_mabs hx hb (hml.trans hl.1.symm) hown (hts (.methodLink RX3 89 Lib.Math.abs.name) (by decide +kernel)) (hts (.static Lib.Math.abs.name) (by decide +kernel)) (hts (.initialized "java/lang/Math") (by decide +kernel)) (hts (.code Lib.Math.abs.name Lib.Math.abs.code 1 (some .int)) (by decide +kernel)) (Nat.le_of_ble_eq_true rfl) (Nat.le_of_ble_eq_true rfl) (Nat.le_of_ble_eq_true rfl) (Nat.le_of_ble_eq_true rfl) dX3_nearestOpenSlot_67 ?_
            refine b_tp (show (if 0 ≤ v (hs + str * (j - hd)) then v (hs + str * (j - hd)) else 0 - (v (hs + str * (j - hd)))) = b_abs (v (hs + str * (j - hd))) from rfl) ?_
            refine lv_icmp_ge (tgt := 77) hx hb dX3_nearestOpenSlot_70 (by decide) (fun c_70_28 => ?_) (fun c_70_28 => ?_)
            · have g1 := nr_not2 (p := (fun k => decide (f k = nI hd))) (b := (fun k => hid (hs + str * (k - hd)))) (v := (fun k => v (hs + str * (k - hd)))) ho.symm c_70_28
              refine lv_iinc (v := nI (k + 1)) (lv' := [(5, .int (nI (k + 1))), (6, .int (nI (hs + str * (k - hd)))), (0, .ref h), (1, .ref th), (2, .int (nI hd)), (3, .int (nI hs)), (4, .int (nI (hs + str * (j - hd))))]) hx hb dX3_nearestOpenSlot_77 hl (k := 6) rfl (nI_add k 1) (by decide) rfl (fun ls hl => ?_)
              refine lv_goto (tgt := 8) hx hb dX3_nearestOpenSlot_80 (by decide) ?_
              exact ih8 _ _ _ ⟨k + 1, some j, (by omega), (by omega), (by omega), ho.trans g1.symm, w, lv_sub hl [2, 3, 4, 5, 6, 0] rfl⟩
            · have g1 := nr_less2 (p := (fun k => decide (f k = nI hd))) (b := (fun k => hid (hs + str * (k - hd)))) (v := (fun k => v (hs + str * (k - hd)))) hp hq ho.symm c_70_28
              refine lv_iload hx hb dX3_nearestOpenSlot_73 (lv_at hl 0 rfl) ?_
              refine lv_istore (lv' := [(4, .int (nI (hs + str * (k - hd)))), (6, .int (nI (hs + str * (k - hd)))), (0, .ref h), (1, .ref th), (2, .int (nI hd)), (3, .int (nI hs)), (5, .int (nI k))]) hx hb dX3_nearestOpenSlot_75 hl (by decide) rfl (fun ls hl => ?_)
              refine lv_iinc (v := nI (k + 1)) (lv' := [(5, .int (nI (k + 1))), (4, .int (nI (hs + str * (k - hd)))), (6, .int (nI (hs + str * (k - hd)))), (0, .ref h), (1, .ref th), (2, .int (nI hd)), (3, .int (nI hs))]) hx hb dX3_nearestOpenSlot_77 hl (k := 6) rfl (nI_add k 1) (by decide) rfl (fun ls hl => ?_)
              refine lv_goto (tgt := 8) hx hb dX3_nearestOpenSlot_80 (by decide) ?_
              exact ih8 _ _ _ ⟨k + 1, some k, (by omega), (by omega), (by omega), g1.symm, w, lv_sub hl [3, 4, 5, 6, 1, 0] rfl⟩
set_option maxHeartbeats 4000000 in
set_option maxRecDepth 100000 in
theorem c_X3_countHiddenSlots (l : Launch) (hl0 : l.stackTraces = false) (G : bG) (sz : Nat) (h qv qh : Nat) (hid : Nat → Bool) : Met l yX3_countHiddenSlots wsX3_countHiddenSlots ({ frames := 0, cells := 0, slots := 0, locals := 0 }) (va_Pc [.ref h] (bPre G vwCl bNW bSW sz [(h, .inr (3, [.ref qv, .ref qh])), (qh, .inl (G.2.2.1, 140, .inl (zB hid)))] [])) (va_Qi (fun (r : Int32) (_ : Unit) => r = nI (cH (fun _ => true) hid 140)) (fun (_ : Unit) (tS : State) => va_P G.1 vwCl [] tS.heap) (Aw [] sz)) 0 0 (Aw [] sz) := by
  refine Met.ofW (cc := cX3_countHiddenSlots) (maxL := 3) (ret := (some .int)) (by decide) rfl ?_
  intro p e s m args below meth c s₁ B hml hv
  obtain ⟨rfl, hsz, hP, hD, E, Z⟩ := hv
  have hts := atoms_spec (ws := wsX3_countHiddenSlots) B.pre
  have hown : s.vm.findClass RX3 = some m.cls := findClass_of_methodNamed B.named
  have X : CallFix p m c cX3_countHiddenSlots 3 s _ wsX3_countHiddenSlots RX3 := ⟨B.exec, B.bytes, hml, hown, hts⟩
  have hx := B.exec
  have hb := B.bytes
  have hr := B.returns
  have hlocks := B.notSynchronized
  subst hsz
  have w : bSt G vwCl [] s [(h, .inr (3, [.ref qv, .ref qh])), (qh, .inl (G.2.2.1, 140, .inl (zB hid)))] s.heap [] := ⟨hP, va_S.rf, hD⟩
  have Z0 : bZ [] s := ⟨Z.1.narrow (fun q h => h.elim (fun h => nomatch h) Or.inr), Z.2.narrow (fun q h => h.elim (fun h => nomatch h) Or.inr)⟩
  have iX3 : ∀ w ∈ wsX30, w ∈ wsX3_countHiddenSlots := by decide +kernel
  have hl := lv_entry ([.ref h]) (n := 3) (Nat.le_of_ble_eq_true rfl)
  rw [lg_entry_eq]
  generalize (lg_sl ([.ref h]) ++ List.replicate (3 - (lg_sl ([.ref h])).length) Slot.unset).toArray = ls at hl ⊢
  have hl : lv_has ls 3 [(0, .ref h)] := hl
  refine lv_iconst (v := nI 0) hx hb dX3_countHiddenSlots_0 (by decide) ?_
  refine lv_istore_n (lv' := [(1, .int (nI 0)), (0, .ref h)]) hx hb dX3_countHiddenSlots_1 rfl hl (by decide) rfl (fun ls hl => ?_)
  refine lv_iconst (v := nI 0) hx hb dX3_countHiddenSlots_2 (by decide) ?_
  refine lv_istore_n (lv' := [(2, .int (nI 0)), (1, .int (nI 0)), (0, .ref h)]) hx hb dX3_countHiddenSlots_3 rfl hl (by decide) rfl (fun ls hl => ?_)
  refine b_loop (pc := 4) (st := []) (fun (fuel : Nat) (H : Heap) (locs : List Loc) (ls : Array Slot) => ∃ (k : Nat) (ct : Nat), (k ≤ 140) ∧ (141 ≤ k + fuel) ∧ (ct = cH (fun _ => true) hid k) ∧ bSt G vwCl [] s [(h, .inr (3, [.ref qv, .ref qh])), (qh, .inl (G.2.2.1, 140, .inl (zB hid)))] H locs ∧ lv_has ls 3 [(0, .ref h), (1, .int (nI ct)), (2, .int (nI k))]) (fun H locs ls h9 => ?_) (fun fuel H locs ls hI ih4 => ?_) (141) ⟨0, 0, (by omega), (by omega), rfl, w, lv_sub hl [2, 1, 0] rfl⟩
  · obtain ⟨k, ct, hk, hf, hct, w, hl⟩ := h9
    omega
  · obtain ⟨k, ct, hk, hf, hct, w, hl⟩ := hI
    refine lv_iload_n hx hb dX3_countHiddenSlots_4 rfl (lv_at hl 2 rfl) ?_
    refine lv_sipush (v := nI 140) hx hb dX3_countHiddenSlots_5 (by decide) ?_
    refine lv_icmp_ge (tgt := 29) hx hb dX3_countHiddenSlots_8 (by decide) (fun c_8_5 => ?_) (fun c_8_5 => ?_)
    · have q_8_6 : 140 ≤ k := q_le (by omega) (by omega) c_8_5
      have ek : k = 140 := by omega
      rw [ek] at hct
      refine lv_iload_n hx hb dX3_countHiddenSlots_29 rfl (lv_at hl 1 rfl) ?_
      exact W.iret (v := nI ct) hx hb hr (fun t9 ht9 hW9 => ⟨⟨nI ct, (), rfl, congrArg nI hct, fun k q h => by cases k <;> cases h⟩, w.2.1.F ht9⟩) w.2.1.2.2 dX3_countHiddenSlots_30
    · have q_8_6 : k < 140 := q_nle (by omega) (by omega) c_8_5
      refine lv_aload_n hx hb dX3_countHiddenSlots_11 rfl (lv_at hl 0 rfl) ?_
      refine b_get X E w 0 rfl rfl 1 (by decide) iX3 (by decide +kernel) rfl rfl dX3_countHiddenSlots_12 ?_
      refine lv_iload_n hx hb dX3_countHiddenSlots_15 rfl (lv_at hl 2 rfl) ?_
      refine b_zald X E w 1 rfl k rfl (by omega) (by first | decide | omega) dX3_countHiddenSlots_16 ?_
      refine b_tp (show zB hid k = bI (hid k) from rfl) ?_
      refine lv_if_eq (tgt := 23) hx hb dX3_countHiddenSlots_17 (by decide) (fun c_17_7 => ?_) (fun c_17_7 => ?_)
      · have q_17_8 : (hid k) = false := bI_0.mp c_17_7
        have g1 := cH_noB (p := fun _ => true) (b := hid) rfl q_17_8
        refine lv_iinc (v := nI (k + 1)) (lv' := [(2, .int (nI (k + 1))), (0, .ref h), (1, .int (nI ct))]) hx hb dX3_countHiddenSlots_23 hl (k := 2) rfl (nI_add k 1) (by decide) rfl (fun ls hl => ?_)
        refine lv_goto (tgt := 4) hx hb dX3_countHiddenSlots_26 (by decide) ?_
        exact ih4 _ _ _ ⟨k + 1, ct, (by omega), (by omega), by rw [g1, hct], w, lv_sub hl [1, 2, 0] rfl⟩
      · have q_17_8 : (hid k) = true := bI_n0.mp c_17_7
        have g1 := cH_yes2 (p := fun _ => true) (b := hid) rfl q_17_8
        refine lv_iinc (v := nI (ct + 1)) (lv' := [(1, .int (nI (ct + 1))), (0, .ref h), (2, .int (nI k))]) hx hb dX3_countHiddenSlots_20 hl (k := 1) rfl (nI_add ct 1) (by decide) rfl (fun ls hl => ?_)
        refine lv_iinc (v := nI (k + 1)) (lv' := [(2, .int (nI (k + 1))), (1, .int (nI (ct + 1))), (0, .ref h)]) hx hb dX3_countHiddenSlots_23 hl (k := 2) rfl (nI_add k 1) (by decide) rfl (fun ls hl => ?_)
        refine lv_goto (tgt := 4) hx hb dX3_countHiddenSlots_26 (by decide) ?_
        exact ih4 _ _ _ ⟨k + 1, ct + 1, (by omega), (by omega), by rw [g1, hct], w, lv_sub hl [2, 1, 0] rfl⟩
set_option maxHeartbeats 4000000 in
set_option maxRecDepth 100000 in
theorem c_X3_protectRow (l : Launch) (hl0 : l.stackTraces = false) (G : bG) (sz : Nat) (h qv qh : Nat) (v : Nat → Int32) (hid : Nat → Bool) (th o cap str n : Nat) (f : Nat → Int32) (hd hs : Nat) (hh : hd < n) (hn : n ≤ cap) (hc : cap ≤ 100) (hT : TI f n) (hsl : ∀ k, hd < k → k < n → hs + str * (k - hd) < 140) (hs0 : hs < 140) : Met l yX3_protectRow wsX3_protectRow ({ frames := 2, cells := 0, slots := 0, locals := 50 }) (va_Pc [.ref h, .ref th, .int (nI hd), .int (nI hs)] (bPre G vwCl bNW bSW sz [(h, .inr (3, [.ref qv, .ref qh])), (qv, .inl (G.2.1, 140, .inl v)), (qh, .inl (G.2.2.1, 140, .inl (zB hid))), (th, .inr (4, [.ref o, .int (nI str), .int (nI n)])), (o, .inl (G.2.1, cap, .inl f))] [qh])) (va_Qi (fun (r : Int32) (_ : Unit) => r = bI ((pR (fun k => decide (f k = nI hd)) (fun k => hid (hs + str * (k - hd))) (fun k => v (hs + str * (k - hd))) n hs (hid hs) (fun k => hs + str * (k - hd))).isSome)) (fun (_ : Unit) (tS : State) => va_P G.1 vwCl [(qh, .inl (G.2.2.1, 140, .inl (zB (uO hid (pR (fun k => decide (f k = nI hd)) (fun k => hid (hs + str * (k - hd))) (fun k => v (hs + str * (k - hd))) n hs (hid hs) (fun k => hs + str * (k - hd)))))))] tS.heap) (Aw [qh] sz)) 0 0 (Aw [qh] sz) := by
  refine Met.ofW (cc := cX3_protectRow) (maxL := 4) (ret := (some .boolean)) (by decide) rfl ?_
  intro p e s m args below meth c s₁ B hml hv
  obtain ⟨rfl, hsz, hP, hD, E, Z⟩ := hv
  have hts := atoms_spec (ws := wsX3_protectRow) B.pre
  have hown : s.vm.findClass RX3 = some m.cls := findClass_of_methodNamed B.named
  have X : CallFix p m c cX3_protectRow 4 s _ wsX3_protectRow RX3 := ⟨B.exec, B.bytes, hml, hown, hts⟩
  have hx := B.exec
  have hb := B.bytes
  have hr := B.returns
  have hlocks := B.notSynchronized
  subst hsz
  have w : bSt G vwCl [] s [(h, .inr (3, [.ref qv, .ref qh])), (qv, .inl (G.2.1, 140, .inl v)), (qh, .inl (G.2.2.1, 140, .inl (zB hid))), (th, .inr (4, [.ref o, .int (nI str), .int (nI n)])), (o, .inl (G.2.1, cap, .inl f))] s.heap [] := ⟨hP, va_S.rf, hD⟩
  have Z0 : bZ [] s := ⟨Z.1.narrow (fun q h => h.elim (fun h => nomatch h) Or.inr), Z.2.narrow (fun q h => h.elim (fun h => nomatch h) Or.inr)⟩
  have iX3 : ∀ w ∈ wsX30, w ∈ wsX3_protectRow := by decide +kernel
  have hl := lv_entry ([.ref h, .ref th, .int (nI hd), .int (nI hs)]) (n := 4) (Nat.le_of_ble_eq_true rfl)
  rw [lg_entry_eq]
  generalize (lg_sl ([.ref h, .ref th, .int (nI hd), .int (nI hs)]) ++ List.replicate (4 - (lg_sl ([.ref h, .ref th, .int (nI hd), .int (nI hs)])).length) Slot.unset).toArray = ls at hl ⊢
  have hl : lv_has ls 4 [(0, .ref h), (1, .ref th), (2, .int (nI hd)), (3, .int (nI hs))] := hl
  have hcl := cH_le (p := (fun k => decide (f k = nI hd))) (b := (fun k => hid (hs + str * (k - hd)))) n
  have hb1 := b1_le (hid hs)
  have hlt : oN (fun k => hs + str * (k - hd)) hs (nr (fun k => decide (f k = nI hd)) (fun k => hid (hs + str * (k - hd))) (fun k => v (hs + str * (k - hd))) n) < 140 := oN_lt hs0 (fun k h1 h2 => hsl k (tI_up hT (by omega) h1 h2 hh) h1)
  refine lv_aload_n hx hb dX3_protectRow_0 rfl (lv_at hl 0 rfl) ?_
  refine lv_aload_n hx hb dX3_protectRow_1 rfl (lv_at hl 1 rfl) ?_
  refine lv_iload_n hx hb dX3_protectRow_2 rfl (lv_at hl 2 rfl) ?_
  refine lv_iload_n hx hb dX3_protectRow_3 rfl (lv_at hl 3 rfl) ?_
  refine b_calli w (va_runV (As := [.ref th, .int (nI hd), .int (nI hs)]) (rest := []) X (c_X3_countHiddenInRow l hl0 G _ (h := h) (th := th) (hd := hd) (hs := hs) (qv := qv) (qh := qh) (hid := hid) (o := o) (str := str) (n := n) (cap := cap) (f := f) (hh := (by first | assumption | omega)) (hn := (by first | assumption | omega)) (hc := (by first | assumption | omega)) (hT := (by first | assumption | omega)) (hsl := (by first | assumption | omega)) (hs0 := (by first | assumption | omega))) (cwV 3 hts gX3_protectRow_X3_countHiddenInRow rfl rfl rfl (by decide +kernel) ⟨Nat.le_of_ble_eq_true rfl, Nat.le_of_ble_eq_true rfl⟩) ⟨b_blind, b_recv E w (ci := 3) (q0 := 0) rfl rfl, (fun U9 hU9 hW9 => ⟨rfl, b_pre E Z0 w [0, 2, 3, 4] (by decide) rfl b_nil U9 hU9 hW9⟩)⟩ rfl rfl hl.1 rfl (lv_room (Nat.le_of_ble_eq_true rfl)) dX3_protectRow_4 ⟨Nat.le_of_ble_eq_true rfl, Nat.le_of_ble_eq_true rfl⟩) b_nil [] (fun _ => rfl) rfl (fun r4_7 u4_7 H locs hr4_7 w => ?_)
  have w : bSt G vwCl [] s [(h, .inr (3, [.ref qv, .ref qh])), (qv, .inl (G.2.1, 140, .inl v)), (qh, .inl (G.2.2.1, 140, .inl (zB hid))), (th, .inr (4, [.ref o, .int (nI str), .int (nI n)])), (o, .inl (G.2.1, cap, .inl f))] _ _ := w
  subst hr4_7
  refine lv_iconst (v := nI 1) hx hb dX3_protectRow_7 (by decide) ?_
  refine lv_icmp_ne (tgt := 23) hx hb dX3_protectRow_8 (by decide) (fun c_8_8 => ?_) (fun c_8_8 => ?_)
  · have q_8_9 : ¬ b1 (hid hs) + cH (fun k => decide (f k = nI hd)) (fun k => hid (hs + str * (k - hd))) n = 1 := fun h9 => c_8_8 ((nI_eq (by omega) (by omega)).mpr h9)
    have hE : pR (fun k => decide (f k = nI hd)) (fun k => hid (hs + str * (k - hd))) (fun k => v (hs + str * (k - hd))) n hs (hid hs) (fun k => hs + str * (k - hd)) = none := pR_n1 q_8_9
    refine lv_iconst (v := nI 0) hx hb dX3_protectRow_23 (by decide) ?_
    have w := b_wide [qh] b_nil w
    exact W.zret (v := nI 0) hx hb hr rfl (fun t9 ht9 hW9 => ⟨⟨nI 0, (), rfl, bI_zero (by rw [hE]; rfl), by show va_P G.1 vwCl _ t9.heap; rw [ht9]; exact b_cg (by rw [hE]; rfl) (w.1.sub (ws' := [(qh, .inl (G.2.2.1, 140, .inl (zB hid)))]) [2] rfl)⟩, w.2.1.F ht9⟩) w.2.1.2.2 dX3_protectRow_24
  · have q_8_9 : b1 (hid hs) + cH (fun k => decide (f k = nI hd)) (fun k => hid (hs + str * (k - hd))) n = 1 := (nI_eq (by omega) (by omega)).mp c_8_8
    have c8 := q_8_9
    refine lv_aload_n hx hb dX3_protectRow_11 rfl (lv_at hl 0 rfl) ?_
    refine lv_aload_n hx hb dX3_protectRow_12 rfl (lv_at hl 1 rfl) ?_
    refine lv_iload_n hx hb dX3_protectRow_13 rfl (lv_at hl 2 rfl) ?_
    refine lv_iload_n hx hb dX3_protectRow_14 rfl (lv_at hl 3 rfl) ?_
    refine b_calli w (va_runV (As := [.ref th, .int (nI hd), .int (nI hs)]) (rest := []) X (c_X3_sumRightIn l hl0 G _ (h := h) (th := th) (hd := hd) (hs := hs) (qv := qv) (qh := qh) (v := v) (o := o) (str := str) (n := n) (cap := cap) (f := f) (hh := (by first | assumption | omega)) (hn := (by first | assumption | omega)) (hc := (by first | assumption | omega)) (hT := (by first | assumption | omega)) (hsl := (by first | assumption | omega))) (cwV 3 hts gX3_protectRow_X3_sumRightIn rfl rfl rfl (by decide +kernel) ⟨Nat.le_of_ble_eq_true rfl, Nat.le_of_ble_eq_true rfl⟩) ⟨b_blind, b_recv E w (ci := 3) (q0 := 0) rfl rfl, (fun U9 hU9 hW9 => ⟨rfl, b_pre E Z0 w [0, 1, 3, 4] (by decide) rfl b_nil U9 hU9 hW9⟩)⟩ rfl rfl hl.1 rfl (lv_room (Nat.le_of_ble_eq_true rfl)) dX3_protectRow_15 ⟨Nat.le_of_ble_eq_true rfl, Nat.le_of_ble_eq_true rfl⟩) b_nil [] (fun _ => rfl) rfl (fun r15_10 u15_10 H locs hr15_10 w => ?_)
    have w : bSt G vwCl [] s [(h, .inr (3, [.ref qv, .ref qh])), (qv, .inl (G.2.1, 140, .inl v)), (qh, .inl (G.2.2.1, 140, .inl (zB hid))), (th, .inr (4, [.ref o, .int (nI str), .int (nI n)])), (o, .inl (G.2.1, cap, .inl f))] _ _ := w
    subst hr15_10
    refine lv_ldc (v := MIS) hx hb hown (hts (.constant RX3 19 (-2000000001)) (by decide +kernel)) dX3_protectRow_18 ?_
    refine lv_icmp_ne (tgt := 25) hx hb dX3_protectRow_20 (by decide) (fun c_20_11 => ?_) (fun c_20_11 => ?_)
    · have hE : pR (fun k => decide (f k = nI hd)) (fun k => hid (hs + str * (k - hd))) (fun k => v (hs + str * (k - hd))) n hs (hid hs) (fun k => hs + str * (k - hd)) = some (oN (fun k => hs + str * (k - hd)) hs (nr (fun k => decide (f k = nI hd)) (fun k => hid (hs + str * (k - hd))) (fun k => v (hs + str * (k - hd))) n)) := pR_y c8 c_20_11
      refine lv_aload_n hx hb dX3_protectRow_25 rfl (lv_at hl 0 rfl) ?_
      refine b_get X E w 0 rfl rfl 1 (by decide) iX3 (by decide +kernel) rfl rfl dX3_protectRow_26 ?_
      refine lv_aload_n hx hb dX3_protectRow_29 rfl (lv_at hl 0 rfl) ?_
      refine lv_aload_n hx hb dX3_protectRow_30 rfl (lv_at hl 1 rfl) ?_
      refine lv_iload_n hx hb dX3_protectRow_31 rfl (lv_at hl 2 rfl) ?_
      refine lv_iload_n hx hb dX3_protectRow_32 rfl (lv_at hl 3 rfl) ?_
      refine b_calli w (va_runV (As := [.ref th, .int (nI hd), .int (nI hs)]) (rest := [.ref qh]) X (c_X3_nearestOpenSlot l hl0 G _ (h := h) (th := th) (hd := hd) (hs := hs) (qv := qv) (qh := qh) (v := v) (hid := hid) (o := o) (str := str) (n := n) (cap := cap) (f := f) (hh := (by first | assumption | omega)) (hn := (by first | assumption | omega)) (hc := (by first | assumption | omega)) (hT := (by first | assumption | omega)) (hsl := (by first | assumption | omega)) (hs0 := (by first | assumption | omega))) (cwV 3 hts gX3_protectRow_X3_nearestOpenSlot rfl rfl rfl (by decide +kernel) ⟨Nat.le_of_ble_eq_true rfl, Nat.le_of_ble_eq_true rfl⟩) ⟨b_blind, b_recv E w (ci := 3) (q0 := 0) rfl rfl, (fun U9 hU9 hW9 => ⟨rfl, b_pre E Z0 w [0, 1, 2, 3, 4] (by decide) rfl b_nil U9 hU9 hW9⟩)⟩ rfl rfl hl.1 rfl (lv_room (Nat.le_of_ble_eq_true rfl)) dX3_protectRow_33 ⟨Nat.le_of_ble_eq_true rfl, Nat.le_of_ble_eq_true rfl⟩) b_nil [] (fun _ => rfl) rfl (fun r33_12 u33_12 H locs hr33_12 w => ?_)
      have w : bSt G vwCl [] s [(h, .inr (3, [.ref qv, .ref qh])), (qv, .inl (G.2.1, 140, .inl v)), (qh, .inl (G.2.2.1, 140, .inl (zB hid))), (th, .inr (4, [.ref o, .int (nI str), .int (nI n)])), (o, .inl (G.2.1, cap, .inl f))] _ _ := w
      subst hr33_12
      refine lv_iconst (v := nI 1) hx hb dX3_protectRow_36 (by decide) ?_
      refine b_tp (show nI 1 = bI true from rfl) ?_
      have w := b_wide [qh] b_nil w
      refine b_zast X E w (Or.inl (List.mem_of_getElem? (i := 0) rfl)) 2 rfl (oN (fun k => hs + str * (k - hd)) hs (nr (fun k => decide (f k = nI hd)) (fun k => hid (hs + str * (k - hd))) (fun k => v (hs + str * (k - hd))) n)) rfl hlt (by first | decide | omega) (bI_01 _) dX3_protectRow_37 (fun H locs w => ?_)
      rw [zB_upd] at w
      have w : bSt G vwCl [qh] s [(h, .inr (3, [.ref qv, .ref qh])), (qv, .inl (G.2.1, 140, .inl v)), (qh, .inl (G.2.2.1, 140, .inl (zB (uB hid (oN (fun k => hs + str * (k - hd)) hs (nr (fun k => decide (f k = nI hd)) (fun k => hid (hs + str * (k - hd))) (fun k => v (hs + str * (k - hd))) n)) true)))), (th, .inr (4, [.ref o, .int (nI str), .int (nI n)])), (o, .inl (G.2.1, cap, .inl f))] _ _ := w
      refine lv_iconst (v := nI 1) hx hb dX3_protectRow_38 (by decide) ?_
      exact W.zret (v := nI 1) hx hb hr rfl (fun t9 ht9 hW9 => ⟨⟨nI 1, (), rfl, bI_one (by rw [hE]; rfl), by show va_P G.1 vwCl _ t9.heap; rw [ht9]; exact b_cg (by rw [hE]; rfl) (w.1.sub (ws' := [(qh, .inl (G.2.2.1, 140, .inl (zB (uB hid (oN (fun k => hs + str * (k - hd)) hs (nr (fun k => decide (f k = nI hd)) (fun k => hid (hs + str * (k - hd))) (fun k => v (hs + str * (k - hd))) n)) true))))]) [2] rfl)⟩, w.2.1.F ht9⟩) w.2.1.2.2 dX3_protectRow_39
    · have hE : pR (fun k => decide (f k = nI hd)) (fun k => hid (hs + str * (k - hd))) (fun k => v (hs + str * (k - hd))) n hs (hid hs) (fun k => hs + str * (k - hd)) = none := pR_n2 c_20_11
      refine lv_iconst (v := nI 0) hx hb dX3_protectRow_23 (by decide) ?_
      have w := b_wide [qh] b_nil w
      exact W.zret (v := nI 0) hx hb hr rfl (fun t9 ht9 hW9 => ⟨⟨nI 0, (), rfl, bI_zero (by rw [hE]; rfl), by show va_P G.1 vwCl _ t9.heap; rw [ht9]; exact b_cg (by rw [hE]; rfl) (w.1.sub (ws' := [(qh, .inl (G.2.2.1, 140, .inl (zB hid)))]) [2] rfl)⟩, w.2.1.F ht9⟩) w.2.1.2.2 dX3_protectRow_24
