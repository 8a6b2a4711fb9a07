set_option maxHeartbeats 4000000 in
set_option maxRecDepth 100000 in
theorem c_X5_slotOf (l : Launch) (hl0 : l.stackTraces = false) (G : bG) (sz : Nat) (a i : Nat) : Met l yX5_slotOf wsX5_slotOf ({ frames := 0, cells := 0, slots := 0, locals := 0 }) (va_Pc [.int (nI a), .int (nI i)] (bPre G vwCl bNW bSW sz [] [])) (va_Qi (fun (r : Int32) (_ : Unit) => r = nI (10 * a + i)) (fun (_ : Unit) (tS : State) => va_P G.1 vwCl [] tS.heap) (Aw [] sz)) 0 0 (Aw [] sz) := by
  refine Met.ofW (cc := cX5_slotOf) (maxL := 2) (ret := (some .int)) (by decide) rfl ?_
  intro p e s m args below meth c s₁ B hml hv
  obtain ⟨rfl, hsz, hP, hD, E, Z⟩ := hv
  have hts := atoms_spec (ws := wsX5_slotOf) B.pre
  have hown : s.vm.findClass RX5 = some m.cls := findClass_of_methodNamed B.named
  have X : CallFix p m c cX5_slotOf 2 s _ wsX5_slotOf RX5 := ⟨B.exec, B.bytes, hml, hown, hts⟩
  have hx := B.exec
  have hb := B.bytes
  have hr := B.returns
  have hlocks := B.notSynchronized
  subst hsz
  have w : bSt G vwCl [] s [] s.heap [] := ⟨hP, va_S.rf, hD⟩
  have Z0 : bZ [] s := ⟨Z.1.narrow (fun q h => h.elim (fun h => nomatch h) Or.inr), Z.2.narrow (fun q h => h.elim (fun h => nomatch h) Or.inr)⟩
  have hl := lv_entry ([.int (nI a), .int (nI i)]) (n := 2) (Nat.le_of_ble_eq_true rfl)
  rw [lg_entry_eq]
  generalize (lg_sl ([.int (nI a), .int (nI i)]) ++ List.replicate (2 - (lg_sl ([.int (nI a), .int (nI i)])).length) Slot.unset).toArray = ls at hl ⊢
  have hl : lv_has ls 2 [(0, .int (nI a)), (1, .int (nI i))] := hl
  refine lv_iload_n hx hb dX5_slotOf_0 rfl (lv_at hl 0 rfl) ?_
  refine lv_bipush (v := nI 10) hx hb dX5_slotOf_1 (by decide) ?_
  refine lv_imul hx hb dX5_slotOf_3 ?_
  refine b_tp (show (nI a) * (nI 10) = nI (10 * a) from mulc a 10) ?_
  refine lv_iload_n hx hb dX5_slotOf_4 rfl (lv_at hl 1 rfl) ?_
  refine lv_iadd hx hb dX5_slotOf_5 ?_
  refine b_tp (show (nI (10 * a)) + (nI i) = nI ((10 * a) + i) from nI_add (10 * a) i) ?_
  exact W.iret (v := nI ((10 * a) + i)) hx hb hr (fun t9 ht9 hW9 => ⟨⟨nI ((10 * a) + i), (), rfl, rfl, fun k q h => by cases k <;> cases h⟩, w.2.1.F ht9⟩) w.2.1.2.2 dX5_slotOf_6
set_option maxHeartbeats 4000000 in
set_option maxRecDepth 100000 in
theorem c_X3_goThroughRows (l : Launch) (hl0 : l.stackTraces = false) (G : bG) (sz : Nat) (h qv qh : Nat) (v : Nat → Int32) (hid : Nat → Bool) (tA oA nA : Nat) (fA : Nat → Int32) (tJ oJ nJ : Nat) (fJ : Nat → Int32) (by_ : Bool) (hnA : nA ≤ 14) (hnJ : nJ ≤ 10) (hTA : TI fA nA) (hTJ : TI fJ nJ) : Met l yX3_goThroughRows wsX3_goThroughRows ({ frames := 3, cells := 0, slots := 0, locals := 73 }) (va_Pc [.ref h, .ref tA, .ref tJ, .int (bI by_)] (bPre G vwCl bNW bSW sz [(h, .inr (3, [.ref qv, .ref qh])), (qv, .inl (G.2.1, 140, .inl v)), (qh, .inl (G.2.2.1, 140, .inl (zB hid))), (tA, .inr (4, [.ref oA, .int (nI 10), .int (nI nA)])), (oA, .inl (G.2.1, 14, .inl fA)), (tJ, .inr (4, [.ref oJ, .int (nI 1), .int (nI nJ)])), (oJ, .inl (G.2.1, 10, .inl fJ))] [qh])) (va_Qi (fun (r : Int32) (_ : Unit) => r = bI ((gA fA nA fJ nJ v by_ (hid, false) nA).2)) (fun (_ : Unit) (tS : State) => va_P G.1 vwCl [(qh, .inl (G.2.2.1, 140, .inl (zB ((gA fA nA fJ nJ v by_ (hid, false) nA).1))))] tS.heap) (Aw [qh] sz)) 0 0 (Aw [qh] sz) := by
  refine Met.ofW (cc := cX3_goThroughRows) (maxL := 8) (ret := (some .boolean)) (by decide) rfl ?_
  intro p e s m args below meth c s₁ B hml hv
  obtain ⟨rfl, hsz, hP, hD, E, Z⟩ := hv
  have hts := atoms_spec (ws := wsX3_goThroughRows) B.pre
  have hown : s.vm.findClass RX3 = some m.cls := findClass_of_methodNamed B.named
  have X : CallFix p m c cX3_goThroughRows 8 s _ wsX3_goThroughRows RX3 := ⟨B.exec, B.bytes, hml, hown, hts⟩
  have hx := B.exec
  have hb := B.bytes
  have hr := B.returns
  have hlocks := B.notSynchronized
  subst hsz
  have w : bSt G vwCl [] s [(h, .inr (3, [.ref qv, .ref qh])), (qv, .inl (G.2.1, 140, .inl v)), (qh, .inl (G.2.2.1, 140, .inl (zB hid))), (tA, .inr (4, [.ref oA, .int (nI 10), .int (nI nA)])), (oA, .inl (G.2.1, 14, .inl fA)), (tJ, .inr (4, [.ref oJ, .int (nI 1), .int (nI nJ)])), (oJ, .inl (G.2.1, 10, .inl fJ))] s.heap [] := ⟨hP, va_S.rf, hD⟩
  have Z0 : bZ [] s := ⟨Z.1.narrow (fun q h => h.elim (fun h => nomatch h) Or.inr), Z.2.narrow (fun q h => h.elim (fun h => nomatch h) Or.inr)⟩
  have iX4 : ∀ w ∈ wsX40, w ∈ wsX3_goThroughRows := by decide +kernel
  have hl := lv_entry ([.ref h, .ref tA, .ref tJ, .int (bI by_)]) (n := 8) (Nat.le_of_ble_eq_true rfl)
  rw [lg_entry_eq]
  generalize (lg_sl ([.ref h, .ref tA, .ref tJ, .int (bI by_)]) ++ List.replicate (8 - (lg_sl ([.ref h, .ref tA, .ref tJ, .int (bI by_)])).length) Slot.unset).toArray = ls at hl ⊢
  have hl : lv_has ls 8 [(0, .ref h), (1, .ref tA), (2, .ref tJ), (3, .int (bI by_))] := hl
  refine lv_iconst (v := nI 0) hx hb dX3_goThroughRows_0 (by decide) ?_
  refine lv_istore (lv' := [(4, .int (nI 0)), (0, .ref h), (1, .ref tA), (2, .ref tJ), (3, .int (bI by_))]) hx hb dX3_goThroughRows_1 hl (by decide) rfl (fun ls hl => ?_)
  refine lv_iconst (v := nI 0) hx hb dX3_goThroughRows_3 (by decide) ?_
  refine lv_istore (lv' := [(5, .int (nI 0)), (4, .int (nI 0)), (0, .ref h), (1, .ref tA), (2, .ref tJ), (3, .int (bI by_))]) hx hb dX3_goThroughRows_4 hl (by decide) rfl (fun ls hl => ?_)
  have w := b_wide [qh] b_nil w
  refine b_loop (pc := 6) (st := []) (fun (fuel : Nat) (H : Heap) (locs : List Loc) (ls : Array Slot) => ∃ (a : Nat) (S0 : (Nat → Bool) × Bool), (a ≤ nA) ∧ (nA + 1 ≤ a + fuel) ∧ (S0 = gA fA nA fJ nJ v by_ (hid, false) a) ∧ bSt G vwCl [qh] s [(h, .inr (3, [.ref qv, .ref qh])), (qv, .inl (G.2.1, 140, .inl v)), (qh, .inl (G.2.2.1, 140, .inl (zB S0.1))), (tA, .inr (4, [.ref oA, .int (nI 10), .int (nI nA)])), (oA, .inl (G.2.1, 14, .inl fA)), (tJ, .inr (4, [.ref oJ, .int (nI 1), .int (nI nJ)])), (oJ, .inl (G.2.1, 10, .inl fJ))] H locs ∧ lv_has ls 8 [(0, .ref h), (1, .ref tA), (2, .ref tJ), (3, .int (bI by_)), (4, .int (bI S0.2)), (5, .int (nI a))]) (fun H locs ls h9 => ?_) (fun fuel H locs ls hI ih6 => ?_) (nA + 1) ⟨0, (hid, false), (by omega), (by omega), rfl, w, lv_sub hl [2, 3, 4, 5, 1, 0] rfl⟩
  · obtain ⟨a, S0, ha, hf, hS0, w, hl⟩ := h9
    omega
  · obtain ⟨a, S0, ha, hf, hS0, w, hl⟩ := hI
    refine lv_iload hx hb dX3_goThroughRows_6 (lv_at hl 5 rfl) ?_
    refine lv_aload_n hx hb dX3_goThroughRows_8 rfl (lv_at hl 1 rfl) ?_
    refine b_getN (host := "Figurehouse") X E w 3 rfl rfl 2 (by decide) iX4 (by decide +kernel) rfl rfl dX3_goThroughRows_9 ?_
    refine lv_icmp_ge (tgt := 82) hx hb dX3_goThroughRows_12 (by decide) (fun c_12_14 => ?_) (fun c_12_14 => ?_)
    · have q_12_15 : nA ≤ a := q_le (by omega) (by omega) c_12_14
      have ea : a = nA := by omega
      refine lv_iload hx hb dX3_goThroughRows_82 (lv_at hl 4 rfl) ?_
      exact W.zret (v := bI S0.2) hx hb hr (bI_nar _) (fun t9 ht9 hW9 => ⟨⟨bI S0.2, (), rfl, by rw [hS0, ea], by show va_P G.1 vwCl _ t9.heap; rw [ht9]; exact b_cg (by rw [hS0, ea]) (w.1.sub (ws' := [(qh, .inl (G.2.2.1, 140, .inl (zB S0.1)))]) [2] rfl)⟩, w.2.1.F ht9⟩) w.2.1.2.2 dX3_goThroughRows_84
    · have q_12_15 : a < nA := q_nle (by omega) (by omega) c_12_14
      have ha1 := q_12_15
      refine lv_iconst (v := nI 0) hx hb dX3_goThroughRows_15 (by decide) ?_
      refine lv_istore (lv' := [(6, .int (nI 0)), (0, .ref h), (1, .ref tA), (2, .ref tJ), (3, .int (bI by_)), (4, .int (bI S0.2)), (5, .int (nI a))]) hx hb dX3_goThroughRows_16 hl (by decide) rfl (fun ls hl => ?_)
      refine b_loop (pc := 18) (st := []) (fun (fuel : Nat) (H : Heap) (locs : List Loc) (ls : Array Slot) => ∃ (i : Nat) (S1 : (Nat → Bool) × Bool), (i ≤ nJ) ∧ (nJ + 1 ≤ i + fuel) ∧ (S1 = gI fA nA fJ nJ v by_ S0 a i) ∧ bSt G vwCl [qh] s [(h, .inr (3, [.ref qv, .ref qh])), (qv, .inl (G.2.1, 140, .inl v)), (qh, .inl (G.2.2.1, 140, .inl (zB S1.1))), (tA, .inr (4, [.ref oA, .int (nI 10), .int (nI nA)])), (oA, .inl (G.2.1, 14, .inl fA)), (tJ, .inr (4, [.ref oJ, .int (nI 1), .int (nI nJ)])), (oJ, .inl (G.2.1, 10, .inl fJ))] H locs ∧ lv_has ls 8 [(0, .ref h), (1, .ref tA), (2, .ref tJ), (3, .int (bI by_)), (4, .int (bI S1.2)), (5, .int (nI a)), (6, .int (nI i))]) (fun H locs ls h9 => ?_) (fun fuel H locs ls hI ih18 => ?_) (nJ + 1) ⟨0, S0, (by omega), (by omega), rfl, w, lv_sub hl [1, 2, 3, 4, 5, 6, 0] rfl⟩
      · obtain ⟨i, S1, hi, hfi, hS1, w, hl⟩ := h9
        omega
      · obtain ⟨i, S1, hi, hfi, hS1, w, hl⟩ := hI
        refine lv_iload hx hb dX3_goThroughRows_18 (lv_at hl 6 rfl) ?_
        refine lv_aload_n hx hb dX3_goThroughRows_20 rfl (lv_at hl 2 rfl) ?_
        refine b_getN (host := "Figurehouse") X E w 5 rfl rfl 2 (by decide) iX4 (by decide +kernel) rfl rfl dX3_goThroughRows_21 ?_
        refine lv_icmp_ge (tgt := 76) hx hb dX3_goThroughRows_24 (by decide) (fun c_24_16 => ?_) (fun c_24_16 => ?_)
        · have q_24_17 : nJ ≤ i := q_le (by omega) (by omega) c_24_16
          have ei : i = nJ := by omega
          refine lv_iinc (v := nI (a + 1)) (lv' := [(5, .int (nI (a + 1))), (0, .ref h), (1, .ref tA), (2, .ref tJ), (3, .int (bI by_)), (4, .int (bI S1.2)), (6, .int (nI i))]) hx hb dX3_goThroughRows_76 hl (k := 5) rfl (nI_add a 1) (by decide) rfl (fun ls hl => ?_)
          refine lv_goto (tgt := 6) hx hb dX3_goThroughRows_79 (by decide) ?_
          exact ih6 _ _ _ ⟨a + 1, S1, (by omega), (by omega), by rw [hS1, ei, hS0]; rfl, w, lv_sub hl [1, 2, 3, 4, 5, 0] rfl⟩
        · have q_24_17 : i < nJ := q_nle (by omega) (by omega) c_24_16
          have hi1 := q_24_17
          refine lv_iload hx hb dX3_goThroughRows_27 (lv_at hl 5 rfl) ?_
          refine lv_iload hx hb dX3_goThroughRows_29 (lv_at hl 6 rfl) ?_
          refine b_calli w (va_runSN (As := [.int (nI a), .int (nI i)]) (rest := []) X (c_X5_slotOf l hl0 G _ (a := a) (i := i) ) ⟨va_cnB 2 hts gX3_goThroughRows_X5_slotOf_n30 rfl rfl rfl (E.2.1 (.methodLinkNest RX3 30 yX5_slotOf "Figurehouse") (by decide +kernel)).2 (hts (.initialized RX5) (by decide +kernel)) (by decide +kernel) ⟨Nat.le_of_ble_eq_true rfl, Nat.le_of_ble_eq_true rfl⟩, hts (.static yX5_slotOf) (by decide +kernel), trivial⟩ ⟨b_blind, (fun U9 hU9 hW9 => ⟨rfl, b_pre E Z w [] (by decide) rfl b_nil U9 hU9 hW9⟩)⟩ rfl rfl hl.1 rfl (lv_room (Nat.le_of_ble_eq_true rfl)) dX3_goThroughRows_31 ⟨Nat.le_of_ble_eq_true rfl, Nat.le_of_ble_eq_true rfl⟩) b_nil [] (fun _ => rfl) rfl (fun r31_18 u31_18 H locs hr31_18 w => ?_)
          have w : bSt G vwCl [qh] s [(h, .inr (3, [.ref qv, .ref qh])), (qv, .inl (G.2.1, 140, .inl v)), (qh, .inl (G.2.2.1, 140, .inl (zB S1.1))), (tA, .inr (4, [.ref oA, .int (nI 10), .int (nI nA)])), (oA, .inl (G.2.1, 14, .inl fA)), (tJ, .inr (4, [.ref oJ, .int (nI 1), .int (nI nJ)])), (oJ, .inl (G.2.1, 10, .inl fJ))] _ _ := w
          subst hr31_18
          refine lv_istore (lv' := [(7, .int (nI (10 * a + i))), (0, .ref h), (1, .ref tA), (2, .ref tJ), (3, .int (bI by_)), (4, .int (bI S1.2)), (5, .int (nI a)), (6, .int (nI i))]) hx hb dX3_goThroughRows_34 hl (by decide) rfl (fun ls hl => ?_)
          refine lv_iload_n hx hb dX3_goThroughRows_36 rfl (lv_at hl 4 rfl) ?_
          refine lv_if_eq (tgt := 55) hx hb dX3_goThroughRows_37 (by decide) (fun c_37_19 => ?_) (fun c_37_19 => ?_)
          · have q_37_20 : by_ = false := bI_0.mp c_37_19
            have hrow := (pRJ (fA := fA) (nA := nA) (v := v) (hb := S1.1) (a := a) hTJ (by omega) hi1).trans (show _ = gRow fA nA fJ nJ v by_ S1.1 a i by rw [q_37_20])
            refine lv_aload_n hx hb dX3_goThroughRows_55 rfl (lv_at hl 1 rfl) ?_
            refine lv_aload_n hx hb dX3_goThroughRows_56 rfl (lv_at hl 3 rfl) ?_
            refine lv_iload hx hb dX3_goThroughRows_57 (lv_at hl 7 rfl) ?_
            refine lv_iload hx hb dX3_goThroughRows_59 (lv_at hl 0 rfl) ?_
            refine b_calli w (va_runV (As := [.ref tJ, .int (nI i), .int (nI (10 * a + i))]) (rest := []) X (c_X3_protectRow l hl0 G _ (h := h) (th := tJ) (hd := i) (hs := 10 * a + i) (qv := qv) (qh := qh) (v := v) (hid := S1.1) (o := oJ) (str := 1) (n := nJ) (cap := 10) (f := fJ) (hh := (by first | assumption | omega)) (hn := (by first | assumption | omega)) (hc := (by first | assumption | omega)) (hT := (by first | assumption | omega)) (hsl := (fun k h1 h2 => by omega)) (hs0 := (by first | assumption | omega))) (cwV 3 hts gX3_goThroughRows_X3_protectRow rfl rfl rfl (by decide +kernel) ⟨Nat.le_of_ble_eq_true rfl, Nat.le_of_ble_eq_true rfl⟩) ⟨b_blind, b_recv E w (ci := 3) (q0 := 0) rfl rfl, (fun U9 hU9 hW9 => ⟨rfl, b_pre E Z w [0, 1, 2, 5, 6] (by decide) rfl (b_subA [0] rfl) U9 hU9 hW9⟩)⟩ rfl rfl hl.1 rfl (lv_room (Nat.le_of_ble_eq_true rfl)) dX3_goThroughRows_61 ⟨Nat.le_of_ble_eq_true rfl, Nat.le_of_ble_eq_true rfl⟩) (b_subA [0] rfl) [2] (fun _ => rfl) rfl (fun r61_21 u61_21 H locs hr61_21 w => ?_)
            have w : bSt G vwCl [qh] s [(h, .inr (3, [.ref qv, .ref qh])), (qv, .inl (G.2.1, 140, .inl v)), (qh, .inl (G.2.2.1, 140, .inl (zB (uO S1.1 (pR (fun k => decide (fJ k = nI i)) (fun k => S1.1 ((10 * a + i) + 1 * (k - i))) (fun k => v ((10 * a + i) + 1 * (k - i))) nJ (10 * a + i) (S1.1 (10 * a + i)) (fun k => (10 * a + i) + 1 * (k - i))))))), (tA, .inr (4, [.ref oA, .int (nI 10), .int (nI nA)])), (oA, .inl (G.2.1, 14, .inl fA)), (tJ, .inr (4, [.ref oJ, .int (nI 1), .int (nI nJ)])), (oJ, .inl (G.2.1, 10, .inl fJ))] _ _ := w
            subst hr61_21
            refine lv_if_eq (tgt := 70) hx hb dX3_goThroughRows_64 (by decide) (fun c_64_22 => ?_) (fun c_64_22 => ?_)
            · have q_64_23 : ((pR (fun k => decide (fJ k = nI i)) (fun k => S1.1 ((10 * a + i) + 1 * (k - i))) (fun k => v ((10 * a + i) + 1 * (k - i))) nJ (10 * a + i) (S1.1 (10 * a + i)) (fun k => (10 * a + i) + 1 * (k - i))).isSome) = false := bI_0.mp c_64_22
              refine lv_iinc (v := nI (i + 1)) (lv' := [(6, .int (nI (i + 1))), (7, .int (nI (10 * a + i))), (0, .ref h), (1, .ref tA), (2, .ref tJ), (3, .int (bI by_)), (4, .int (bI S1.2)), (5, .int (nI a))]) hx hb dX3_goThroughRows_70 hl (k := 7) rfl (nI_add i 1) (by decide) rfl (fun ls hl => ?_)
              refine lv_goto (tgt := 18) hx hb dX3_goThroughRows_73 (by decide) ?_
              exact ih18 _ _ _ ⟨i + 1, (uO S1.1 (pR (fun k => decide (fJ k = nI i)) (fun k => S1.1 ((10 * a + i) + 1 * (k - i))) (fun k => v ((10 * a + i) + 1 * (k - i))) nJ (10 * a + i) (S1.1 (10 * a + i)) (fun k => (10 * a + i) + 1 * (k - i))), S1.2), (by omega), (by omega), gI_step hS1 hrow (by rw [q_64_23]; simp), w, lv_sub hl [2, 3, 4, 5, 6, 7, 0] rfl⟩
            · have q_64_23 : ((pR (fun k => decide (fJ k = nI i)) (fun k => S1.1 ((10 * a + i) + 1 * (k - i))) (fun k => v ((10 * a + i) + 1 * (k - i))) nJ (10 * a + i) (S1.1 (10 * a + i)) (fun k => (10 * a + i) + 1 * (k - i))).isSome) = true := bI_n0.mp c_64_22
              refine lv_iconst (v := nI 1) hx hb dX3_goThroughRows_67 (by decide) ?_
              refine lv_istore (lv' := [(4, .int (nI 1)), (7, .int (nI (10 * a + i))), (0, .ref h), (1, .ref tA), (2, .ref tJ), (3, .int (bI by_)), (5, .int (nI a)), (6, .int (nI i))]) hx hb dX3_goThroughRows_68 hl (by decide) rfl (fun ls hl => ?_)
              refine lv_iinc (v := nI (i + 1)) (lv' := [(6, .int (nI (i + 1))), (4, .int (nI 1)), (7, .int (nI (10 * a + i))), (0, .ref h), (1, .ref tA), (2, .ref tJ), (3, .int (bI by_)), (5, .int (nI a))]) hx hb dX3_goThroughRows_70 hl (k := 7) rfl (nI_add i 1) (by decide) rfl (fun ls hl => ?_)
              refine lv_goto (tgt := 18) hx hb dX3_goThroughRows_73 (by decide) ?_
              exact ih18 _ _ _ ⟨i + 1, (uO S1.1 (pR (fun k => decide (fJ k = nI i)) (fun k => S1.1 ((10 * a + i) + 1 * (k - i))) (fun k => v ((10 * a + i) + 1 * (k - i))) nJ (10 * a + i) (S1.1 (10 * a + i)) (fun k => (10 * a + i) + 1 * (k - i))), true), (by omega), (by omega), gI_step hS1 hrow (by rw [q_64_23]; simp), w, lv_sub hl [3, 4, 5, 6, 1, 7, 0] rfl⟩
          · have q_37_20 : by_ = true := bI_n0.mp c_37_19
            have hrow := (pRA (fJ := fJ) (nJ := nJ) (v := v) (hb := S1.1) (i := i) hTA (by omega) ha1).trans (show _ = gRow fA nA fJ nJ v by_ S1.1 a i by rw [q_37_20])
            refine lv_aload_n hx hb dX3_goThroughRows_40 rfl (lv_at hl 1 rfl) ?_
            refine lv_aload_n hx hb dX3_goThroughRows_41 rfl (lv_at hl 2 rfl) ?_
            refine lv_iload hx hb dX3_goThroughRows_42 (lv_at hl 6 rfl) ?_
            refine lv_iload hx hb dX3_goThroughRows_44 (lv_at hl 0 rfl) ?_
            refine b_calli w (va_runV (As := [.ref tA, .int (nI a), .int (nI (10 * a + i))]) (rest := []) X (c_X3_protectRow l hl0 G _ (h := h) (th := tA) (hd := a) (hs := 10 * a + i) (qv := qv) (qh := qh) (v := v) (hid := S1.1) (o := oA) (str := 10) (n := nA) (cap := 14) (f := fA) (hh := (by first | assumption | omega)) (hn := (by first | assumption | omega)) (hc := (by first | assumption | omega)) (hT := (by first | assumption | omega)) (hsl := (fun k h1 h2 => by omega)) (hs0 := (by first | assumption | omega))) (cwV 3 hts gX3_goThroughRows_X3_protectRow rfl rfl rfl (by decide +kernel) ⟨Nat.le_of_ble_eq_true rfl, Nat.le_of_ble_eq_true rfl⟩) ⟨b_blind, b_recv E w (ci := 3) (q0 := 0) rfl rfl, (fun U9 hU9 hW9 => ⟨rfl, b_pre E Z w [0, 1, 2, 3, 4] (by decide) rfl (b_subA [0] rfl) U9 hU9 hW9⟩)⟩ rfl rfl hl.1 rfl (lv_room (Nat.le_of_ble_eq_true rfl)) dX3_goThroughRows_46 ⟨Nat.le_of_ble_eq_true rfl, Nat.le_of_ble_eq_true rfl⟩) (b_subA [0] rfl) [2] (fun _ => rfl) rfl (fun r46_24 u46_24 H locs hr46_24 w => ?_)
            have w : bSt G vwCl [qh] s [(h, .inr (3, [.ref qv, .ref qh])), (qv, .inl (G.2.1, 140, .inl v)), (qh, .inl (G.2.2.1, 140, .inl (zB (uO S1.1 (pR (fun k => decide (fA k = nI a)) (fun k => S1.1 ((10 * a + i) + 10 * (k - a))) (fun k => v ((10 * a + i) + 10 * (k - a))) nA (10 * a + i) (S1.1 (10 * a + i)) (fun k => (10 * a + i) + 10 * (k - a))))))), (tA, .inr (4, [.ref oA, .int (nI 10), .int (nI nA)])), (oA, .inl (G.2.1, 14, .inl fA)), (tJ, .inr (4, [.ref oJ, .int (nI 1), .int (nI nJ)])), (oJ, .inl (G.2.1, 10, .inl fJ))] _ _ := w
            subst hr46_24
            refine lv_if_eq (tgt := 70) hx hb dX3_goThroughRows_49 (by decide) (fun c_49_25 => ?_) (fun c_49_25 => ?_)
            · have q_49_26 : ((pR (fun k => decide (fA k = nI a)) (fun k => S1.1 ((10 * a + i) + 10 * (k - a))) (fun k => v ((10 * a + i) + 10 * (k - a))) nA (10 * a + i) (S1.1 (10 * a + i)) (fun k => (10 * a + i) + 10 * (k - a))).isSome) = false := bI_0.mp c_49_25
              refine lv_iinc (v := nI (i + 1)) (lv' := [(6, .int (nI (i + 1))), (7, .int (nI (10 * a + i))), (0, .ref h), (1, .ref tA), (2, .ref tJ), (3, .int (bI by_)), (4, .int (bI S1.2)), (5, .int (nI a))]) hx hb dX3_goThroughRows_70 hl (k := 7) rfl (nI_add i 1) (by decide) rfl (fun ls hl => ?_)
              refine lv_goto (tgt := 18) hx hb dX3_goThroughRows_73 (by decide) ?_
              exact ih18 _ _ _ ⟨i + 1, (uO S1.1 (pR (fun k => decide (fA k = nI a)) (fun k => S1.1 ((10 * a + i) + 10 * (k - a))) (fun k => v ((10 * a + i) + 10 * (k - a))) nA (10 * a + i) (S1.1 (10 * a + i)) (fun k => (10 * a + i) + 10 * (k - a))), S1.2), (by omega), (by omega), gI_step hS1 hrow (by rw [q_49_26]; simp), w, lv_sub hl [2, 3, 4, 5, 6, 7, 0] rfl⟩
            · have q_49_26 : ((pR (fun k => decide (fA k = nI a)) (fun k => S1.1 ((10 * a + i) + 10 * (k - a))) (fun k => v ((10 * a + i) + 10 * (k - a))) nA (10 * a + i) (S1.1 (10 * a + i)) (fun k => (10 * a + i) + 10 * (k - a))).isSome) = true := bI_n0.mp c_49_25
              refine lv_goto (tgt := 67) hx hb dX3_goThroughRows_52 (by decide) ?_
              refine lv_iconst (v := nI 1) hx hb dX3_goThroughRows_67 (by decide) ?_
              refine lv_istore (lv' := [(4, .int (nI 1)), (7, .int (nI (10 * a + i))), (0, .ref h), (1, .ref tA), (2, .ref tJ), (3, .int (bI by_)), (5, .int (nI a)), (6, .int (nI i))]) hx hb dX3_goThroughRows_68 hl (by decide) rfl (fun ls hl => ?_)
              refine lv_iinc (v := nI (i + 1)) (lv' := [(6, .int (nI (i + 1))), (4, .int (nI 1)), (7, .int (nI (10 * a + i))), (0, .ref h), (1, .ref tA), (2, .ref tJ), (3, .int (bI by_)), (5, .int (nI a))]) hx hb dX3_goThroughRows_70 hl (k := 7) rfl (nI_add i 1) (by decide) rfl (fun ls hl => ?_)
              refine lv_goto (tgt := 18) hx hb dX3_goThroughRows_73 (by decide) ?_
              exact ih18 _ _ _ ⟨i + 1, (uO S1.1 (pR (fun k => decide (fA k = nI a)) (fun k => S1.1 ((10 * a + i) + 10 * (k - a))) (fun k => v ((10 * a + i) + 10 * (k - a))) nA (10 * a + i) (S1.1 (10 * a + i)) (fun k => (10 * a + i) + 10 * (k - a))), true), (by omega), (by omega), gI_step hS1 hrow (by rw [q_49_26]; simp), w, lv_sub hl [3, 4, 5, 6, 1, 7, 0] rfl⟩
set_option maxHeartbeats 4000000 in
set_option maxRecDepth 100000 in
theorem c_X3_hide (l : Launch) (hl0 : l.stackTraces = false) (G : bG) (sz : Nat) (h qv qh : Nat) (v : Nat → Int32) (hid : Nat → Bool) (qs : Nat) (sc : Nat → Bool) (p0 : Nat) (tA oA nA : Nat) (fA : Nat → Int32) (tJ oJ nJ : Nat) (fJ : Nat → Int32) (hnA : nA ≤ 14) (hnJ : nJ ≤ 10) (hTA : TI fA nA) (hTJ : TI fJ nJ) (hp : p0 < 12) : Met l yX3_hide wsX3_hide ({ frames := 4, cells := 0, slots := 0, locals := 100 }) (va_Pc [.ref h, .ref qs, .int (nI p0), .ref tA, .ref tJ] (bPre G vwCl bNW bSW sz [(h, .inr (3, [.ref qv, .ref qh])), (qv, .inl (G.2.1, 140, .inl v)), (qh, .inl (G.2.2.1, 140, .inl (zB hid))), (qs, .inl (G.2.2.1, 1680, .inl (zB sc))), (tA, .inr (4, [.ref oA, .int (nI 10), .int (nI nA)])), (oA, .inl (G.2.1, 14, .inl fA)), (tJ, .inr (4, [.ref oJ, .int (nI 1), .int (nI nJ)])), (oJ, .inl (G.2.1, 10, .inl fJ))] [qh])) (va_Qv (fun (_ : Unit) => True) (fun (_ : Unit) (tS : State) => va_P G.1 vwCl [(qh, .inl (G.2.2.1, 140, .inl (zB (itR (stp fA nA fJ nJ v) 141 (hF hid (fun t => sc (140 * p0 + t) && !decide (v t = MIS)) 140)))))] tS.heap) (Aw [qh] sz)) 0 0 (Aw [qh] sz) := by
  refine Met.ofW (cc := cX3_hide) (maxL := 9) (ret := none) (by decide) rfl ?_
  intro p e s m args below meth c s₁ B hml hv
  obtain ⟨rfl, hsz, hP, hD, E, Z⟩ := hv
  have hts := atoms_spec (ws := wsX3_hide) B.pre
  have hown : s.vm.findClass RX3 = some m.cls := findClass_of_methodNamed B.named
  have X : CallFix p m c cX3_hide 9 s _ wsX3_hide RX3 := ⟨B.exec, B.bytes, hml, hown, hts⟩
  have hx := B.exec
  have hb := B.bytes
  have hr := B.returns
  have hlocks := B.notSynchronized
  subst hsz
  have w : bSt G vwCl [] s [(h, .inr (3, [.ref qv, .ref qh])), (qv, .inl (G.2.1, 140, .inl v)), (qh, .inl (G.2.2.1, 140, .inl (zB hid))), (qs, .inl (G.2.2.1, 1680, .inl (zB sc))), (tA, .inr (4, [.ref oA, .int (nI 10), .int (nI nA)])), (oA, .inl (G.2.1, 14, .inl fA)), (tJ, .inr (4, [.ref oJ, .int (nI 1), .int (nI nJ)])), (oJ, .inl (G.2.1, 10, .inl fJ))] s.heap [] := ⟨hP, va_S.rf, hD⟩
  have Z0 : bZ [] s := ⟨Z.1.narrow (fun q h => h.elim (fun h => nomatch h) Or.inr), Z.2.narrow (fun q h => h.elim (fun h => nomatch h) Or.inr)⟩
  have iX3 : ∀ w ∈ wsX30, w ∈ wsX3_hide := by decide +kernel
  have hl := lv_entry ([.ref h, .ref qs, .int (nI p0), .ref tA, .ref tJ]) (n := 9) (Nat.le_of_ble_eq_true rfl)
  rw [lg_entry_eq]
  generalize (lg_sl ([.ref h, .ref qs, .int (nI p0), .ref tA, .ref tJ]) ++ List.replicate (9 - (lg_sl ([.ref h, .ref qs, .int (nI p0), .ref tA, .ref tJ])).length) Slot.unset).toArray = ls at hl ⊢
  have hl : lv_has ls 9 [(0, .ref h), (1, .ref qs), (2, .int (nI p0)), (3, .ref tA), (4, .ref tJ)] := hl
  refine lv_iconst (v := nI 0) hx hb dX3_hide_0 (by decide) ?_
  refine lv_istore (lv' := [(5, .int (nI 0)), (0, .ref h), (1, .ref qs), (2, .int (nI p0)), (3, .ref tA), (4, .ref tJ)]) hx hb dX3_hide_1 hl (by decide) rfl (fun ls hl => ?_)
  have w := b_wide [qh] b_nil w
  refine b_loop (pc := 3) (st := []) (fun (fuel : Nat) (H : Heap) (locs : List Loc) (ls : Array Slot) => ∃ (k : Nat), (k ≤ 140) ∧ (141 ≤ k + fuel) ∧ bSt G vwCl [qh] s [(h, .inr (3, [.ref qv, .ref qh])), (qv, .inl (G.2.1, 140, .inl v)), (qh, .inl (G.2.2.1, 140, .inl (zB (hF hid (fun t => sc (140 * p0 + t) && !decide (v t = MIS)) k)))), (qs, .inl (G.2.2.1, 1680, .inl (zB sc))), (tA, .inr (4, [.ref oA, .int (nI 10), .int (nI nA)])), (oA, .inl (G.2.1, 14, .inl fA)), (tJ, .inr (4, [.ref oJ, .int (nI 1), .int (nI nJ)])), (oJ, .inl (G.2.1, 10, .inl fJ))] H locs ∧ lv_has ls 9 [(0, .ref h), (1, .ref qs), (2, .int (nI p0)), (3, .ref tA), (4, .ref tJ), (5, .int (nI k))]) (fun H locs ls h9 => ?_) (fun fuel H locs ls hI ih3 => ?_) (141) ⟨0, (by omega), (by omega), (by rw [hF_0]; exact w), lv_sub hl [1, 2, 3, 4, 5, 0] rfl⟩
  · obtain ⟨k, hk, hf, w, hl⟩ := h9
    omega
  · obtain ⟨k, hk, hf, w, hl⟩ := hI
    refine lv_iload hx hb dX3_hide_3 (lv_at hl 5 rfl) ?_
    refine lv_sipush (v := nI 140) hx hb dX3_hide_5 (by decide) ?_
    refine lv_icmp_ge (tgt := 54) hx hb dX3_hide_8 (by decide) (fun c_8_16 => ?_) (fun c_8_16 => ?_)
    · have q_8_17 : 140 ≤ k := q_le (by omega) (by omega) c_8_16
      have ek : k = 140 := by omega
      rw [ek] at w
      have w : bSt G vwCl [qh] s [(h, .inr (3, [.ref qv, .ref qh])), (qv, .inl (G.2.1, 140, .inl v)), (qh, .inl (G.2.2.1, 140, .inl (zB (hF hid (fun t => sc (140 * p0 + t) && !decide (v t = MIS)) 140)))), (qs, .inl (G.2.2.1, 1680, .inl (zB sc))), (tA, .inr (4, [.ref oA, .int (nI 10), .int (nI nA)])), (oA, .inl (G.2.1, 14, .inl fA)), (tJ, .inr (4, [.ref oJ, .int (nI 1), .int (nI nJ)])), (oJ, .inl (G.2.1, 10, .inl fJ))] _ _ := w
      refine lv_iconst (v := nI 1) hx hb dX3_hide_54 (by decide) ?_
      refine lv_istore (lv' := [(5, .int (nI 1)), (0, .ref h), (1, .ref qs), (2, .int (nI p0)), (3, .ref tA), (4, .ref tJ)]) hx hb dX3_hide_55 hl (by decide) rfl (fun ls hl => ?_)
      refine lv_iconst (v := nI 0) hx hb dX3_hide_57 (by decide) ?_
      refine lv_istore (lv' := [(6, .int (nI 0)), (5, .int (nI 1)), (0, .ref h), (1, .ref qs), (2, .int (nI p0)), (3, .ref tA), (4, .ref tJ)]) hx hb dX3_hide_58 hl (by decide) rfl (fun ls hl => ?_)
      refine b_loop (pc := 60) (st := []) (fun (fuel : Nat) (H : Heap) (locs : List Loc) (ls : Array Slot) => ∃ (r : Nat) (b : Nat → Bool) (more : Bool), (r ≤ 141) ∧ (142 ≤ r + fuel) ∧ (itR (stp fA nA fJ nJ v) 141 (hF hid (fun t => sc (140 * p0 + t) && !decide (v t = MIS)) 140) = if more = true then itR (stp fA nA fJ nJ v) (141 - r) b else b) ∧ bSt G vwCl [qh] s [(h, .inr (3, [.ref qv, .ref qh])), (qv, .inl (G.2.1, 140, .inl v)), (qh, .inl (G.2.2.1, 140, .inl (zB b))), (qs, .inl (G.2.2.1, 1680, .inl (zB sc))), (tA, .inr (4, [.ref oA, .int (nI 10), .int (nI nA)])), (oA, .inl (G.2.1, 14, .inl fA)), (tJ, .inr (4, [.ref oJ, .int (nI 1), .int (nI nJ)])), (oJ, .inl (G.2.1, 10, .inl fJ))] H locs ∧ lv_has ls 9 [(0, .ref h), (1, .ref qs), (2, .int (nI p0)), (3, .ref tA), (4, .ref tJ), (5, .int (bI more)), (6, .int (nI r))]) (fun H locs ls h9 => ?_) (fun fuel H locs ls hI ih60 => ?_) (142) ⟨0, hF hid (fun t => sc (140 * p0 + t) && !decide (v t = MIS)) 140, true, (by omega), (by omega), (if_pos rfl).symm, w, lv_sub hl [2, 3, 4, 5, 6, 1, 0] rfl⟩
      · obtain ⟨r, b, more, hr0, hf, hIt, w, hl⟩ := h9
        omega
      · obtain ⟨r, b, more, hr0, hf, hIt, w, hl⟩ := hI
        refine lv_iload hx hb dX3_hide_60 (lv_at hl 6 rfl) ?_
        refine lv_sipush (v := nI 140) hx hb dX3_hide_62 (by decide) ?_
        refine lv_icmp_gt (tgt := 116) hx hb dX3_hide_65 (by decide) (fun c_65_18 => ?_) (fun c_65_18 => ?_)
        · have q_65_19 : 140 < r := q_lt (by omega) (by omega) c_65_18
          have hE : itR (stp fA nA fJ nJ v) 141 (hF hid (fun t => sc (140 * p0 + t) && !decide (v t = MIS)) 140) = b := hIt.trans (itR_0 (by omega))
          exact W.vret hx hb hr (fun t9 ht9 hW9 => ⟨⟨(), rfl, trivial, by show va_P G.1 vwCl _ t9.heap; rw [ht9]; exact b_cg (by rw [hE]) (w.1.sub (ws' := [(qh, .inl (G.2.2.1, 140, .inl (zB b)))]) [2] rfl)⟩, w.2.1.F ht9⟩) w.2.1.2.2 dX3_hide_116
        · have q_65_19 : r ≤ 140 := q_nlt (by omega) (by omega) c_65_18
          refine lv_iload hx hb dX3_hide_68 (lv_at hl 5 rfl) ?_
          refine lv_if_eq (tgt := 116) hx hb dX3_hide_70 (by decide) (fun c_70_20 => ?_) (fun c_70_20 => ?_)
          · have q_70_21 : more = false := bI_0.mp c_70_20
            have hE : itR (stp fA nA fJ nJ v) 141 (hF hid (fun t => sc (140 * p0 + t) && !decide (v t = MIS)) 140) = b := hIt.trans (by rw [q_70_21]; simp)
            exact W.vret hx hb hr (fun t9 ht9 hW9 => ⟨⟨(), rfl, trivial, by show va_P G.1 vwCl _ t9.heap; rw [ht9]; exact b_cg (by rw [hE]) (w.1.sub (ws' := [(qh, .inl (G.2.2.1, 140, .inl (zB b)))]) [2] rfl)⟩, w.2.1.F ht9⟩) w.2.1.2.2 dX3_hide_116
          · have q_70_21 : more = true := bI_n0.mp c_70_20
            have q70 := q_70_21
            refine lv_aload_n hx hb dX3_hide_73 rfl (lv_at hl 0 rfl) ?_
            refine lv_aload_n hx hb dX3_hide_74 rfl (lv_at hl 3 rfl) ?_
            refine lv_aload hx hb dX3_hide_75 (lv_at hl 4 rfl) ?_
            refine lv_iconst (v := nI 1) hx hb dX3_hide_77 (by decide) ?_
            refine b_calli w (va_runV (As := [.ref tA, .ref tJ, .int (nI 1)]) (rest := []) X (c_X3_goThroughRows l hl0 G _ (h := h) (tA := tA) (tJ := tJ) (by_ := true) (qv := qv) (qh := qh) (v := v) (hid := b) (oA := oA) (nA := nA) (fA := fA) (oJ := oJ) (nJ := nJ) (fJ := fJ) (hnA := (by first | assumption | omega)) (hnJ := (by first | assumption | omega)) (hTA := (by first | assumption | omega)) (hTJ := (by first | assumption | omega))) (cwV 3 hts gX3_hide_X3_goThroughRows rfl rfl rfl (by decide +kernel) ⟨Nat.le_of_ble_eq_true rfl, Nat.le_of_ble_eq_true rfl⟩) ⟨b_blind, b_recv E w (ci := 3) (q0 := 0) rfl rfl, (fun U9 hU9 hW9 => ⟨rfl, b_pre E Z w [0, 1, 2, 4, 5, 6, 7] (by decide) rfl (b_subA [0] rfl) U9 hU9 hW9⟩)⟩ rfl rfl hl.1 rfl (lv_room (Nat.le_of_ble_eq_true rfl)) dX3_hide_78 ⟨Nat.le_of_ble_eq_true rfl, Nat.le_of_ble_eq_true rfl⟩) (b_subA [0] rfl) [2] (fun _ => rfl) rfl (fun r78_22 u78_22 H locs hr78_22 w => ?_)
            have w : bSt G vwCl [qh] s [(h, .inr (3, [.ref qv, .ref qh])), (qv, .inl (G.2.1, 140, .inl v)), (qh, .inl (G.2.2.1, 140, .inl (zB ((gA fA nA fJ nJ v true (b, false) nA).1)))), (qs, .inl (G.2.2.1, 1680, .inl (zB sc))), (tA, .inr (4, [.ref oA, .int (nI 10), .int (nI nA)])), (oA, .inl (G.2.1, 14, .inl fA)), (tJ, .inr (4, [.ref oJ, .int (nI 1), .int (nI nJ)])), (oJ, .inl (G.2.1, 10, .inl fJ))] _ _ := w
            subst hr78_22
            refine lv_istore (lv' := [(7, .int (bI ((gA fA nA fJ nJ v true (b, false) nA).2))), (0, .ref h), (1, .ref qs), (2, .int (nI p0)), (3, .ref tA), (4, .ref tJ), (5, .int (bI more)), (6, .int (nI r))]) hx hb dX3_hide_81 hl (by decide) rfl (fun ls hl => ?_)
            refine lv_aload_n hx hb dX3_hide_83 rfl (lv_at hl 1 rfl) ?_
            refine lv_aload_n hx hb dX3_hide_84 rfl (lv_at hl 4 rfl) ?_
            refine lv_aload hx hb dX3_hide_85 (lv_at hl 5 rfl) ?_
            refine lv_iconst (v := nI 0) hx hb dX3_hide_87 (by decide) ?_
            refine b_calli w (va_runV (As := [.ref tA, .ref tJ, .int (nI 0)]) (rest := []) X (c_X3_goThroughRows l hl0 G _ (h := h) (tA := tA) (tJ := tJ) (by_ := false) (qv := qv) (qh := qh) (v := v) (hid := (gA fA nA fJ nJ v true (b, false) nA).1) (oA := oA) (nA := nA) (fA := fA) (oJ := oJ) (nJ := nJ) (fJ := fJ) (hnA := (by first | assumption | omega)) (hnJ := (by first | assumption | omega)) (hTA := (by first | assumption | omega)) (hTJ := (by first | assumption | omega))) (cwV 3 hts gX3_hide_X3_goThroughRows rfl rfl rfl (by decide +kernel) ⟨Nat.le_of_ble_eq_true rfl, Nat.le_of_ble_eq_true rfl⟩) ⟨b_blind, b_recv E w (ci := 3) (q0 := 0) rfl rfl, (fun U9 hU9 hW9 => ⟨rfl, b_pre E Z w [0, 1, 2, 4, 5, 6, 7] (by decide) rfl (b_subA [0] rfl) U9 hU9 hW9⟩)⟩ rfl rfl hl.1 rfl (lv_room (Nat.le_of_ble_eq_true rfl)) dX3_hide_88 ⟨Nat.le_of_ble_eq_true rfl, Nat.le_of_ble_eq_true rfl⟩) (b_subA [0] rfl) [2] (fun _ => rfl) rfl (fun r88_23 u88_23 H locs hr88_23 w => ?_)
            have w : bSt G vwCl [qh] s [(h, .inr (3, [.ref qv, .ref qh])), (qv, .inl (G.2.1, 140, .inl v)), (qh, .inl (G.2.2.1, 140, .inl (zB ((gA fA nA fJ nJ v false (((gA fA nA fJ nJ v true (b, false) nA).1), false) nA).1)))), (qs, .inl (G.2.2.1, 1680, .inl (zB sc))), (tA, .inr (4, [.ref oA, .int (nI 10), .int (nI nA)])), (oA, .inl (G.2.1, 14, .inl fA)), (tJ, .inr (4, [.ref oJ, .int (nI 1), .int (nI nJ)])), (oJ, .inl (G.2.1, 10, .inl fJ))] _ _ := w
            subst hr88_23
            refine lv_istore (lv' := [(8, .int (bI ((gA fA nA fJ nJ v false (((gA fA nA fJ nJ v true (b, false) nA).1), false) nA).2))), (7, .int (bI ((gA fA nA fJ nJ v true (b, false) nA).2))), (0, .ref h), (1, .ref qs), (2, .int (nI p0)), (3, .ref tA), (4, .ref tJ), (5, .int (bI more)), (6, .int (nI r))]) hx hb dX3_hide_91 hl (by decide) rfl (fun ls hl => ?_)
            refine lv_iload hx hb dX3_hide_93 (lv_at hl 1 rfl) ?_
            refine lv_if_ne (tgt := 103) hx hb dX3_hide_95 (by decide) (fun c_95_24 => ?_) (fun c_95_24 => ?_)
            · have q_95_25 : ((gA fA nA fJ nJ v true (b, false) nA).2) = true := bI_n0.mp c_95_24
              refine lv_iconst (v := nI 1) hx hb dX3_hide_103 (by decide) ?_
              refine lv_goto (tgt := 108) hx hb dX3_hide_104 (by decide) ?_
              refine lv_istore (lv' := [(5, .int (nI 1)), (8, .int (bI ((gA fA nA fJ nJ v false (((gA fA nA fJ nJ v true (b, false) nA).1), false) nA).2))), (7, .int (bI ((gA fA nA fJ nJ v true (b, false) nA).2))), (0, .ref h), (1, .ref qs), (2, .int (nI p0)), (3, .ref tA), (4, .ref tJ), (6, .int (nI r))]) hx hb dX3_hide_108 hl (by decide) rfl (fun ls hl => ?_)
              refine lv_iinc (v := nI (r + 1)) (lv' := [(6, .int (nI (r + 1))), (5, .int (nI 1)), (8, .int (bI ((gA fA nA fJ nJ v false (((gA fA nA fJ nJ v true (b, false) nA).1), false) nA).2))), (7, .int (bI ((gA fA nA fJ nJ v true (b, false) nA).2))), (0, .ref h), (1, .ref qs), (2, .int (nI p0)), (3, .ref tA), (4, .ref tJ)]) hx hb dX3_hide_110 hl (k := 8) rfl (nI_add r 1) (by decide) rfl (fun ls hl => ?_)
              refine lv_goto (tgt := 60) hx hb dX3_hide_113 (by decide) ?_
              exact ih60 _ _ _ ⟨r + 1, (stp fA nA fJ nJ v b).1, true, (by omega), (by omega), itR_n hIt q70 (by omega) (show (stp fA nA fJ nJ v b).2 = _ by simp [stp, q_65_19, q_70_21, q_95_25]), w, lv_sub hl [4, 5, 6, 7, 8, 1, 0] rfl⟩
            · have q_95_25 : ((gA fA nA fJ nJ v true (b, false) nA).2) = false := bI_0.mp c_95_24
              refine lv_iload hx hb dX3_hide_98 (lv_at hl 0 rfl) ?_
              refine lv_if_eq (tgt := 107) hx hb dX3_hide_100 (by decide) (fun c_100_26 => ?_) (fun c_100_26 => ?_)
              · have q_100_27 : ((gA fA nA fJ nJ v false (((gA fA nA fJ nJ v true (b, false) nA).1), false) nA).2) = false := bI_0.mp c_100_26
                refine lv_iconst (v := nI 0) hx hb dX3_hide_107 (by decide) ?_
                refine lv_istore (lv' := [(5, .int (nI 0)), (8, .int (bI ((gA fA nA fJ nJ v false (((gA fA nA fJ nJ v true (b, false) nA).1), false) nA).2))), (7, .int (bI ((gA fA nA fJ nJ v true (b, false) nA).2))), (0, .ref h), (1, .ref qs), (2, .int (nI p0)), (3, .ref tA), (4, .ref tJ), (6, .int (nI r))]) hx hb dX3_hide_108 hl (by decide) rfl (fun ls hl => ?_)
                refine lv_iinc (v := nI (r + 1)) (lv' := [(6, .int (nI (r + 1))), (5, .int (nI 0)), (8, .int (bI ((gA fA nA fJ nJ v false (((gA fA nA fJ nJ v true (b, false) nA).1), false) nA).2))), (7, .int (bI ((gA fA nA fJ nJ v true (b, false) nA).2))), (0, .ref h), (1, .ref qs), (2, .int (nI p0)), (3, .ref tA), (4, .ref tJ)]) hx hb dX3_hide_110 hl (k := 8) rfl (nI_add r 1) (by decide) rfl (fun ls hl => ?_)
                refine lv_goto (tgt := 60) hx hb dX3_hide_113 (by decide) ?_
                exact ih60 _ _ _ ⟨r + 1, (stp fA nA fJ nJ v b).1, false, (by omega), (by omega), itR_n hIt q70 (by omega) (show (stp fA nA fJ nJ v b).2 = _ by simp [stp, q_65_19, q_70_21, q_95_25, q_100_27]), w, lv_sub hl [4, 5, 6, 7, 8, 1, 0] rfl⟩
              · have q_100_27 : ((gA fA nA fJ nJ v false (((gA fA nA fJ nJ v true (b, false) nA).1), false) nA).2) = true := bI_n0.mp c_100_26
                refine lv_iconst (v := nI 1) hx hb dX3_hide_103 (by decide) ?_
                refine lv_goto (tgt := 108) hx hb dX3_hide_104 (by decide) ?_
                refine lv_istore (lv' := [(5, .int (nI 1)), (8, .int (bI ((gA fA nA fJ nJ v false (((gA fA nA fJ nJ v true (b, false) nA).1), false) nA).2))), (7, .int (bI ((gA fA nA fJ nJ v true (b, false) nA).2))), (0, .ref h), (1, .ref qs), (2, .int (nI p0)), (3, .ref tA), (4, .ref tJ), (6, .int (nI r))]) hx hb dX3_hide_108 hl (by decide) rfl (fun ls hl => ?_)
                refine lv_iinc (v := nI (r + 1)) (lv' := [(6, .int (nI (r + 1))), (5, .int (nI 1)), (8, .int (bI ((gA fA nA fJ nJ v false (((gA fA nA fJ nJ v true (b, false) nA).1), false) nA).2))), (7, .int (bI ((gA fA nA fJ nJ v true (b, false) nA).2))), (0, .ref h), (1, .ref qs), (2, .int (nI p0)), (3, .ref tA), (4, .ref tJ)]) hx hb dX3_hide_110 hl (k := 8) rfl (nI_add r 1) (by decide) rfl (fun ls hl => ?_)
                refine lv_goto (tgt := 60) hx hb dX3_hide_113 (by decide) ?_
                exact ih60 _ _ _ ⟨r + 1, (stp fA nA fJ nJ v b).1, true, (by omega), (by omega), itR_n hIt q70 (by omega) (show (stp fA nA fJ nJ v b).2 = _ by simp [stp, q_65_19, q_70_21, q_95_25, q_100_27]), w, lv_sub hl [4, 5, 6, 7, 8, 1, 0] rfl⟩
    · have q_8_17 : k < 140 := q_nle (by omega) (by omega) c_8_16
      refine lv_aload_n hx hb dX3_hide_11 rfl (lv_at hl 0 rfl) ?_
      refine b_get X E w 0 rfl rfl 1 (by decide) iX3 (by decide +kernel) rfl rfl dX3_hide_12 ?_
      refine lv_iload hx hb dX3_hide_15 (lv_at hl 5 rfl) ?_
      refine lv_aload_n hx hb dX3_hide_17 rfl (lv_at hl 1 rfl) ?_
      refine lv_iload_n hx hb dX3_hide_18 rfl (lv_at hl 2 rfl) ?_
      refine lv_sipush (v := nI 140) hx hb dX3_hide_19 (by decide) ?_
      refine lv_imul hx hb dX3_hide_22 ?_
      refine b_tp (show (nI p0) * (nI 140) = nI (140 * p0) from mulc p0 140) ?_
      refine lv_iload hx hb dX3_hide_23 (lv_at hl 5 rfl) ?_
      refine lv_iadd hx hb dX3_hide_25 ?_
      refine b_tp (show (nI (140 * p0)) + (nI k) = nI ((140 * p0) + k) from nI_add (140 * p0) k) ?_
      refine b_zald X E w 3 rfl ((140 * p0) + k) rfl (by omega) (by first | decide | omega) dX3_hide_26 ?_
      refine b_tp (show zB sc ((140 * p0) + k) = bI (sc ((140 * p0) + k)) from rfl) ?_
      refine lv_if_eq (tgt := 46) hx hb dX3_hide_27 (by decide) (fun c_27_28 => ?_) (fun c_27_28 => ?_)
      · have q_27_29 : (sc ((140 * p0) + k)) = false := bI_0.mp c_27_28
        refine lv_iconst (v := nI 0) hx hb dX3_hide_46 (by decide) ?_
        refine b_tp (show nI 0 = bI false from rfl) ?_
        refine b_zast X E w (Or.inl (List.mem_of_getElem? (i := 0) rfl)) 2 rfl k rfl (by omega) (by first | decide | omega) (bI_01 _) dX3_hide_47 (fun H locs w => ?_)
        rw [zB_upd] at w
        have w : bSt G vwCl [qh] s [(h, .inr (3, [.ref qv, .ref qh])), (qv, .inl (G.2.1, 140, .inl v)), (qh, .inl (G.2.2.1, 140, .inl (zB (uB (hF hid (fun t => sc (140 * p0 + t) && !decide (v t = MIS)) k) k false)))), (qs, .inl (G.2.2.1, 1680, .inl (zB sc))), (tA, .inr (4, [.ref oA, .int (nI 10), .int (nI nA)])), (oA, .inl (G.2.1, 14, .inl fA)), (tJ, .inr (4, [.ref oJ, .int (nI 1), .int (nI nJ)])), (oJ, .inl (G.2.1, 10, .inl fJ))] _ _ := w
        refine lv_iinc (v := nI (k + 1)) (lv' := [(5, .int (nI (k + 1))), (0, .ref h), (1, .ref qs), (2, .int (nI p0)), (3, .ref tA), (4, .ref tJ)]) hx hb dX3_hide_48 hl (k := 5) rfl (nI_add k 1) (by decide) rfl (fun ls hl => ?_)
        refine lv_goto (tgt := 3) hx hb dX3_hide_51 (by decide) ?_
        rw [hF_s hid (fun t => sc (140 * p0 + t) && !decide (v t = MIS)) k (by simp [q_8_17, q_27_29])] at w
        exact ih3 _ _ _ ⟨k + 1, (by omega), (by omega), w, lv_sub hl [1, 2, 3, 4, 5, 0] rfl⟩
      · have q_27_29 : (sc ((140 * p0) + k)) = true := bI_n0.mp c_27_28
        refine lv_aload_n hx hb dX3_hide_30 rfl (lv_at hl 0 rfl) ?_
        refine b_get X E w 0 rfl rfl 0 (by decide) iX3 (by decide +kernel) rfl rfl dX3_hide_31 ?_
        refine lv_iload hx hb dX3_hide_34 (lv_at hl 5 rfl) ?_
        refine b_iald X E w 1 rfl k rfl (by omega) (by first | decide | omega) dX3_hide_36 ?_
        refine lv_ldc (v := MIS) hx hb hown (hts (.constant RX3 19 (-2000000001)) (by decide +kernel)) dX3_hide_37 ?_
        refine lv_icmp_eq (tgt := 46) hx hb dX3_hide_39 (by decide) (fun c_39_30 => ?_) (fun c_39_30 => ?_)
        · refine lv_iconst (v := nI 0) hx hb dX3_hide_46 (by decide) ?_
          refine b_tp (show nI 0 = bI false from rfl) ?_
          refine b_zast X E w (Or.inl (List.mem_of_getElem? (i := 0) rfl)) 2 rfl k rfl (by omega) (by first | decide | omega) (bI_01 _) dX3_hide_47 (fun H locs w => ?_)
          rw [zB_upd] at w
          have w : bSt G vwCl [qh] s [(h, .inr (3, [.ref qv, .ref qh])), (qv, .inl (G.2.1, 140, .inl v)), (qh, .inl (G.2.2.1, 140, .inl (zB (uB (hF hid (fun t => sc (140 * p0 + t) && !decide (v t = MIS)) k) k false)))), (qs, .inl (G.2.2.1, 1680, .inl (zB sc))), (tA, .inr (4, [.ref oA, .int (nI 10), .int (nI nA)])), (oA, .inl (G.2.1, 14, .inl fA)), (tJ, .inr (4, [.ref oJ, .int (nI 1), .int (nI nJ)])), (oJ, .inl (G.2.1, 10, .inl fJ))] _ _ := w
          refine lv_iinc (v := nI (k + 1)) (lv' := [(5, .int (nI (k + 1))), (0, .ref h), (1, .ref qs), (2, .int (nI p0)), (3, .ref tA), (4, .ref tJ)]) hx hb dX3_hide_48 hl (k := 5) rfl (nI_add k 1) (by decide) rfl (fun ls hl => ?_)
          refine lv_goto (tgt := 3) hx hb dX3_hide_51 (by decide) ?_
          rw [hF_s hid (fun t => sc (140 * p0 + t) && !decide (v t = MIS)) k (by simp [q_8_17, q_27_29, c_39_30])] at w
          exact ih3 _ _ _ ⟨k + 1, (by omega), (by omega), w, lv_sub hl [1, 2, 3, 4, 5, 0] rfl⟩
        · refine lv_iconst (v := nI 1) hx hb dX3_hide_42 (by decide) ?_
          refine lv_goto (tgt := 47) hx hb dX3_hide_43 (by decide) ?_
          refine b_tp (show nI 1 = bI true from rfl) ?_
          refine b_zast X E w (Or.inl (List.mem_of_getElem? (i := 0) rfl)) 2 rfl k rfl (by omega) (by first | decide | omega) (bI_01 _) dX3_hide_47 (fun H locs w => ?_)
          rw [zB_upd] at w
          have w : bSt G vwCl [qh] s [(h, .inr (3, [.ref qv, .ref qh])), (qv, .inl (G.2.1, 140, .inl v)), (qh, .inl (G.2.2.1, 140, .inl (zB (uB (hF hid (fun t => sc (140 * p0 + t) && !decide (v t = MIS)) k) k true)))), (qs, .inl (G.2.2.1, 1680, .inl (zB sc))), (tA, .inr (4, [.ref oA, .int (nI 10), .int (nI nA)])), (oA, .inl (G.2.1, 14, .inl fA)), (tJ, .inr (4, [.ref oJ, .int (nI 1), .int (nI nJ)])), (oJ, .inl (G.2.1, 10, .inl fJ))] _ _ := w
          refine lv_iinc (v := nI (k + 1)) (lv' := [(5, .int (nI (k + 1))), (0, .ref h), (1, .ref qs), (2, .int (nI p0)), (3, .ref tA), (4, .ref tJ)]) hx hb dX3_hide_48 hl (k := 5) rfl (nI_add k 1) (by decide) rfl (fun ls hl => ?_)
          refine lv_goto (tgt := 3) hx hb dX3_hide_51 (by decide) ?_
          rw [hF_s hid (fun t => sc (140 * p0 + t) && !decide (v t = MIS)) k (by simp [q_8_17, q_27_29, c_39_30])] at w
          exact ih3 _ _ _ ⟨k + 1, (by omega), (by omega), w, lv_sub hl [1, 2, 3, 4, 5, 0] rfl⟩
