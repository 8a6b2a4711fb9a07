set_option maxHeartbeats 4000000 in
set_option maxRecDepth 100000 in
theorem c_X5_matchAt (l : Launch) (hl0 : l.stackTraces = false) (G : bG) (sz : Nat) (H0 tA tJ gO dO bO sO qs qr jd snt td : Nat) (oA nA : Nat) (fA : Nat → Int32) (oJ nJ : Nat) (fJ : Nat → Int32) (ql qe qn qt qc qd qf bn : Nat) (lat : Nat → Int32) (ld : Nat → Int32) (x y sn : Int32) (f0 t0 pl : Nat) (hnA : nA ≤ 14) (hnJ : nJ ≤ 10) (hTA : TI fA nA) (hTJ : TI fJ nJ) (hf0 : f0 ≤ t0) (ht0 : t0 < 12) (hpl : pl < 2 ^ 31) : Met l yX5_matchAt wsX5_matchAt ({ frames := 2, cells := 0, slots := 0, locals := 45 }) (va_Pc [.ref H0, .int x, .int y, .int (nI f0), .int (nI t0), .int sn, .int (nI pl)] (bPre G vwCl bNW bSW sz [(H0, .inr (5, [.ref tA, .ref tJ, .ref gO, .ref dO, .ref bO, .ref sO, .ref qs, .ref qr, .int (nI jd), .int (nI snt), .int (nI td)])), (tA, .inr (4, [.ref oA, .int (nI 10), .int (nI nA)])), (oA, .inl (G.2.1, 14, .inl fA)), (tJ, .inr (4, [.ref oJ, .int (nI 1), .int (nI nJ)])), (oJ, .inl (G.2.1, 10, .inl fJ)), (bO, .inr (1, [.ref ql, .ref qe, .ref qn, .ref qt, .ref qc, .ref qd, .ref qf, .int (nI bn)])), (ql, .inl (G.2.1, 1680, .inl lat)), (qt, .inl (G.2.1, 1680, .inl ld))] [])) (va_Qi (fun (r : Int32) (_ : Unit) => r = srR (srT (mM fA nA fJ nJ lat ld x y sn) nA nJ f0 t0 pl)) (fun (_ : Unit) (tS : State) => va_P G.1 vwCl [] tS.heap) (Aw [] sz)) 0 0 (Aw [] sz) := by
  refine Met.ofW (cc := cX5_matchAt) (maxL := 11) (ret := (some .int)) (by decide) rfl ?_
  intro p e s m args below meth c s₁ B hml hv
  obtain ⟨rfl, hsz, hP, hD, E, Z⟩ := hv
  have hts := atoms_spec (ws := wsX5_matchAt) B.pre
  have hown : s.vm.findClass RX5 = some m.cls := findClass_of_methodNamed B.named
  have X : CallFix p m c cX5_matchAt 11 s _ wsX5_matchAt RX5 := ⟨B.exec, B.bytes, hml, hown, hts⟩
  have hx := B.exec
  have hb := B.bytes
  have hr := B.returns
  have hlocks := B.notSynchronized
  subst hsz
  have w : bSt G vwCl [] s [(H0, .inr (5, [.ref tA, .ref tJ, .ref gO, .ref dO, .ref bO, .ref sO, .ref qs, .ref qr, .int (nI jd), .int (nI snt), .int (nI td)])), (tA, .inr (4, [.ref oA, .int (nI 10), .int (nI nA)])), (oA, .inl (G.2.1, 14, .inl fA)), (tJ, .inr (4, [.ref oJ, .int (nI 1), .int (nI nJ)])), (oJ, .inl (G.2.1, 10, .inl fJ)), (bO, .inr (1, [.ref ql, .ref qe, .ref qn, .ref qt, .ref qc, .ref qd, .ref qf, .int (nI bn)])), (ql, .inl (G.2.1, 1680, .inl lat)), (qt, .inl (G.2.1, 1680, .inl ld))] s.heap [] := ⟨hP, va_S.rf, hD⟩
  have Z0 : bZ [] s := ⟨Z.1.narrow (fun q h => h.elim (fun h => nomatch h) Or.inr), Z.2.narrow (fun q h => h.elim (fun h => nomatch h) Or.inr)⟩
  have iX4 : ∀ w ∈ wsX40, w ∈ wsX5_matchAt := by decide +kernel
  have iX5 : ∀ w ∈ wsX50, w ∈ wsX5_matchAt := by decide +kernel
  have hl := lv_entry ([.ref H0, .int x, .int y, .int (nI f0), .int (nI t0), .int sn, .int (nI pl)]) (n := 11) (Nat.le_of_ble_eq_true rfl)
  rw [lg_entry_eq]
  generalize (lg_sl ([.ref H0, .int x, .int y, .int (nI f0), .int (nI t0), .int sn, .int (nI pl)]) ++ List.replicate (11 - (lg_sl ([.ref H0, .int x, .int y, .int (nI f0), .int (nI t0), .int sn, .int (nI pl)])).length) Slot.unset).toArray = ls at hl ⊢
  have hl : lv_has ls 11 [(0, .ref H0), (1, .int x), (2, .int y), (3, .int (nI f0)), (4, .int (nI t0)), (5, .int sn), (6, .int (nI pl))] := hl
  refine lv_iload hx hb dX5_matchAt_0 (lv_at hl 6 rfl) ?_
  refine lv_istore (lv' := [(7, .int (nI pl)), (0, .ref H0), (1, .int x), (2, .int y), (3, .int (nI f0)), (4, .int (nI t0)), (5, .int sn), (6, .int (nI pl))]) hx hb dX5_matchAt_2 hl (by decide) rfl (fun ls hl => ?_)
  refine lv_iload_n hx hb dX5_matchAt_4 rfl (lv_at hl 4 rfl) ?_
  refine lv_istore (lv' := [(8, .int (nI f0)), (7, .int (nI pl)), (0, .ref H0), (1, .int x), (2, .int y), (3, .int (nI f0)), (4, .int (nI t0)), (5, .int sn), (6, .int (nI pl))]) hx hb dX5_matchAt_5 hl (by decide) rfl (fun ls hl => ?_)
  refine b_loop (pc := 7) (st := []) (fun (fuel : Nat) (H : Heap) (locs : List Loc) (ls : Array Slot) => ∃ (p : Nat) (l1 : Nat), (p ≤ t0 + 1) ∧ (t0 + 2 ≤ p + fuel) ∧ (l1 ≤ pl) ∧ (srT (mM fA nA fJ nJ lat ld x y sn) nA nJ f0 t0 pl = srA (fun p l => srA (fun a l => srI (mM fA nA fJ nJ lat ld x y sn p a) (codeN p a) nJ nJ l) nA nA l) (t0 + 1) (t0 + 1 - p) l1) ∧ bSt G vwCl [] s [(H0, .inr (5, [.ref tA, .ref tJ, .ref gO, .ref dO, .ref bO, .ref sO, .ref qs, .ref qr, .int (nI jd), .int (nI snt), .int (nI td)])), (tA, .inr (4, [.ref oA, .int (nI 10), .int (nI nA)])), (oA, .inl (G.2.1, 14, .inl fA)), (tJ, .inr (4, [.ref oJ, .int (nI 1), .int (nI nJ)])), (oJ, .inl (G.2.1, 10, .inl fJ)), (bO, .inr (1, [.ref ql, .ref qe, .ref qn, .ref qt, .ref qc, .ref qd, .ref qf, .int (nI bn)])), (ql, .inl (G.2.1, 1680, .inl lat)), (qt, .inl (G.2.1, 1680, .inl ld))] H locs ∧ lv_has ls 11 [(0, .ref H0), (1, .int x), (2, .int y), (4, .int (nI t0)), (5, .int sn), (7, .int (nI l1)), (8, .int (nI p))]) (fun H locs ls h9 => ?_) (fun fuel H locs ls hI ih7 => ?_) (t0 + 2) ⟨f0, pl, (by omega), (by omega), Nat.le_refl _, rfl, w, lv_sub hl [2, 3, 4, 6, 7, 1, 0] rfl⟩
  · obtain ⟨p, l1, hpp, hfp, hl1, hP1, w, hl⟩ := h9
    omega
  · obtain ⟨p, l1, hpp, hfp, hl1, hP1, w, hl⟩ := hI
    refine lv_iload hx hb dX5_matchAt_7 (lv_at hl 6 rfl) ?_
    refine lv_iload hx hb dX5_matchAt_9 (lv_at hl 3 rfl) ?_
    refine lv_icmp_gt (tgt := 133) hx hb dX5_matchAt_11 (by decide) (fun c_11_19 => ?_) (fun c_11_19 => ?_)
    · have q_11_20 : t0 < p := q_lt (by omega) (by omega) c_11_19
      have ep1 : p = t0 + 1 := by omega
      refine lv_iconst (v := -1) hx hb dX5_matchAt_133 (by decide) ?_
      exact W.iret (v := -1) hx hb hr (fun t9 ht9 hW9 => ⟨⟨-1, (), rfl, (congrArg srR (hP1.trans (srA_end ep1))).symm, fun k q h => by cases k <;> cases h⟩, w.2.1.F ht9⟩) w.2.1.2.2 dX5_matchAt_134
    · have q_11_20 : p ≤ t0 := q_nlt (by omega) (by omega) c_11_19
      have hp1 := q_11_20
      refine lv_iconst (v := nI 0) hx hb dX5_matchAt_14 (by decide) ?_
      refine lv_istore (lv' := [(9, .int (nI 0)), (0, .ref H0), (1, .int x), (2, .int y), (4, .int (nI t0)), (5, .int sn), (7, .int (nI l1)), (8, .int (nI p))]) hx hb dX5_matchAt_15 hl (by decide) rfl (fun ls hl => ?_)
      refine b_loop (pc := 17) (st := []) (fun (fuel : Nat) (H : Heap) (locs : List Loc) (ls : Array Slot) => ∃ (a : Nat) (l2 : Nat), (a ≤ nA) ∧ (nA + 1 ≤ a + fuel) ∧ (l2 ≤ pl) ∧ (srA (fun a l => srI (mM fA nA fJ nJ lat ld x y sn p a) (codeN p a) nJ nJ l) nA nA l1 = srA (fun a l => srI (mM fA nA fJ nJ lat ld x y sn p a) (codeN p a) nJ nJ l) nA (nA - a) l2) ∧ bSt G vwCl [] s [(H0, .inr (5, [.ref tA, .ref tJ, .ref gO, .ref dO, .ref bO, .ref sO, .ref qs, .ref qr, .int (nI jd), .int (nI snt), .int (nI td)])), (tA, .inr (4, [.ref oA, .int (nI 10), .int (nI nA)])), (oA, .inl (G.2.1, 14, .inl fA)), (tJ, .inr (4, [.ref oJ, .int (nI 1), .int (nI nJ)])), (oJ, .inl (G.2.1, 10, .inl fJ)), (bO, .inr (1, [.ref ql, .ref qe, .ref qn, .ref qt, .ref qc, .ref qd, .ref qf, .int (nI bn)])), (ql, .inl (G.2.1, 1680, .inl lat)), (qt, .inl (G.2.1, 1680, .inl ld))] H locs ∧ lv_has ls 11 [(0, .ref H0), (1, .int x), (2, .int y), (4, .int (nI t0)), (5, .int sn), (7, .int (nI l2)), (8, .int (nI p)), (9, .int (nI a))]) (fun H locs ls h9 => ?_) (fun fuel H locs ls hI ih17 => ?_) (nA + 1) ⟨0, l1, (by omega), (by omega), hl1, rfl, w, lv_sub hl [1, 2, 3, 4, 5, 6, 7, 0] rfl⟩
      · obtain ⟨a, l2, ha, hfa, hl2, hA1, w, hl⟩ := h9
        omega
      · obtain ⟨a, l2, ha, hfa, hl2, hA1, w, hl⟩ := hI
        refine lv_iload hx hb dX5_matchAt_17 (lv_at hl 7 rfl) ?_
        refine lv_aload_n hx hb dX5_matchAt_19 rfl (lv_at hl 0 rfl) ?_
        refine b_get X E w 0 rfl rfl 0 (by decide) iX5 (by decide +kernel) rfl rfl dX5_matchAt_20 ?_
        refine b_getN (host := "Figurehouse") X E w 1 rfl rfl 2 (by decide) iX4 (by decide +kernel) rfl rfl dX5_matchAt_23 ?_
        refine lv_icmp_ge (tgt := 127) hx hb dX5_matchAt_26 (by decide) (fun c_26_21 => ?_) (fun c_26_21 => ?_)
        · have q_26_22 : nA ≤ a := q_le (by omega) (by omega) c_26_21
          have ea : a = nA := by omega
          refine lv_iinc (v := nI (p + 1)) (lv' := [(8, .int (nI (p + 1))), (0, .ref H0), (1, .int x), (2, .int y), (4, .int (nI t0)), (5, .int sn), (7, .int (nI l2)), (9, .int (nI a))]) hx hb dX5_matchAt_127 hl (k := 6) rfl (nI_add p 1) (by decide) rfl (fun ls hl => ?_)
          refine lv_goto (tgt := 7) hx hb dX5_matchAt_130 (by decide) ?_
          exact ih7 _ _ _ ⟨p + 1, l2, (by omega), (by omega), (by omega), hP1.trans (srA_l (by omega) (hA1.trans (srA_end ea))), w, lv_sub hl [1, 2, 3, 4, 5, 6, 0] rfl⟩
        · have q_26_22 : a < nA := q_nle (by omega) (by omega) c_26_21
          refine lv_iconst (v := nI 0) hx hb dX5_matchAt_29 (by decide) ?_
          refine lv_istore (lv' := [(10, .int (nI 0)), (0, .ref H0), (1, .int x), (2, .int y), (4, .int (nI t0)), (5, .int sn), (7, .int (nI l2)), (8, .int (nI p)), (9, .int (nI a))]) hx hb dX5_matchAt_30 hl (by decide) rfl (fun ls hl => ?_)
          refine b_loop (pc := 32) (st := []) (fun (fuel : Nat) (H : Heap) (locs : List Loc) (ls : Array Slot) => ∃ (i : Nat) (l3 : Nat), (i ≤ nJ) ∧ (nJ + 1 ≤ i + fuel) ∧ (l3 ≤ pl) ∧ (srI (mM fA nA fJ nJ lat ld x y sn p a) (codeN p a) nJ nJ l2 = srI (mM fA nA fJ nJ lat ld x y sn p a) (codeN p a) nJ (nJ - i) l3) ∧ bSt G vwCl [] s [(H0, .inr (5, [.ref tA, .ref tJ, .ref gO, .ref dO, .ref bO, .ref sO, .ref qs, .ref qr, .int (nI jd), .int (nI snt), .int (nI td)])), (tA, .inr (4, [.ref oA, .int (nI 10), .int (nI nA)])), (oA, .inl (G.2.1, 14, .inl fA)), (tJ, .inr (4, [.ref oJ, .int (nI 1), .int (nI nJ)])), (oJ, .inl (G.2.1, 10, .inl fJ)), (bO, .inr (1, [.ref ql, .ref qe, .ref qn, .ref qt, .ref qc, .ref qd, .ref qf, .int (nI bn)])), (ql, .inl (G.2.1, 1680, .inl lat)), (qt, .inl (G.2.1, 1680, .inl ld))] H locs ∧ lv_has ls 11 [(0, .ref H0), (1, .int x), (2, .int y), (4, .int (nI t0)), (5, .int sn), (7, .int (nI l3)), (8, .int (nI p)), (9, .int (nI a)), (10, .int (nI i))]) (fun H locs ls h9 => ?_) (fun fuel H locs ls hI ih32 => ?_) (nJ + 1) ⟨0, l2, (by omega), (by omega), hl2, rfl, w, lv_sub hl [1, 2, 3, 4, 5, 6, 7, 8, 0] rfl⟩
          · obtain ⟨i, l3, hi, hfi, hl3, hI1, w, hl⟩ := h9
            omega
          · obtain ⟨i, l3, hi, hfi, hl3, hI1, w, hl⟩ := hI
            refine lv_iload hx hb dX5_matchAt_32 (lv_at hl 8 rfl) ?_
            refine lv_aload_n hx hb dX5_matchAt_34 rfl (lv_at hl 0 rfl) ?_
            refine b_get X E w 0 rfl rfl 1 (by decide) iX5 (by decide +kernel) rfl rfl dX5_matchAt_35 ?_
            refine b_getN (host := "Figurehouse") X E w 3 rfl rfl 2 (by decide) iX4 (by decide +kernel) rfl rfl dX5_matchAt_38 ?_
            refine lv_icmp_ge (tgt := 121) hx hb dX5_matchAt_41 (by decide) (fun c_41_23 => ?_) (fun c_41_23 => ?_)
            · have q_41_24 : nJ ≤ i := q_le (by omega) (by omega) c_41_23
              have ei : i = nJ := by omega
              refine lv_iinc (v := nI (a + 1)) (lv' := [(9, .int (nI (a + 1))), (0, .ref H0), (1, .int x), (2, .int y), (4, .int (nI t0)), (5, .int sn), (7, .int (nI l3)), (8, .int (nI p)), (10, .int (nI i))]) hx hb dX5_matchAt_121 hl (k := 7) rfl (nI_add a 1) (by decide) rfl (fun ls hl => ?_)
              refine lv_goto (tgt := 17) hx hb dX5_matchAt_124 (by decide) ?_
              exact ih17 _ _ _ ⟨a + 1, l3, (by omega), (by omega), (by omega), hA1.trans (srA_l (by omega) (hI1.trans (srI_end ei))), w, lv_sub hl [1, 2, 3, 4, 5, 6, 7, 0] rfl⟩
            · have q_41_24 : i < nJ := q_nle (by omega) (by omega) c_41_23
              refine lv_aload_n hx hb dX5_matchAt_44 rfl (lv_at hl 0 rfl) ?_
              refine b_get X E w 0 rfl rfl 4 (by decide) iX5 (by decide +kernel) rfl rfl dX5_matchAt_45 ?_
              refine lv_iload hx hb dX5_matchAt_48 (lv_at hl 7 rfl) ?_
              refine lv_iload hx hb dX5_matchAt_50 (lv_at hl 8 rfl) ?_
              refine lv_iload hx hb dX5_matchAt_52 (lv_at hl 6 rfl) ?_
              refine b_calli w (va_runS (As := [.int (nI a), .int (nI i), .int (nI p)]) (rest := [.ref bO]) X (c_X5_cellOf l hl0 G _ (a := a) (i := i) (pq := p) ) (va_cwS 3 hts gX5_matchAt_X5_cellOf rfl rfl rfl (by decide +kernel) ⟨Nat.le_of_ble_eq_true rfl, Nat.le_of_ble_eq_true rfl⟩) ⟨b_blind, (fun U9 hU9 hW9 => ⟨rfl, b_pre E Z0 w [] (by decide) rfl b_nil U9 hU9 hW9⟩)⟩ rfl rfl hl.1 rfl (lv_room (Nat.le_of_ble_eq_true rfl)) dX5_matchAt_54 ⟨Nat.le_of_ble_eq_true rfl, Nat.le_of_ble_eq_true rfl⟩) b_nil [] (fun _ => rfl) rfl (fun r54_25 u54_25 H locs hr54_25 w => ?_)
              have w : bSt G vwCl [] s [(H0, .inr (5, [.ref tA, .ref tJ, .ref gO, .ref dO, .ref bO, .ref sO, .ref qs, .ref qr, .int (nI jd), .int (nI snt), .int (nI td)])), (tA, .inr (4, [.ref oA, .int (nI 10), .int (nI nA)])), (oA, .inl (G.2.1, 14, .inl fA)), (tJ, .inr (4, [.ref oJ, .int (nI 1), .int (nI nJ)])), (oJ, .inl (G.2.1, 10, .inl fJ)), (bO, .inr (1, [.ref ql, .ref qe, .ref qn, .ref qt, .ref qc, .ref qd, .ref qf, .int (nI bn)])), (ql, .inl (G.2.1, 1680, .inl lat)), (qt, .inl (G.2.1, 1680, .inl ld))] _ _ := w
              subst hr54_25
              refine lv_iload hx hb dX5_matchAt_57 (lv_at hl 4 rfl) ?_
              refine b_calli w (va_runV (As := [.int (nI (140 * p + (10 * a + i))), .int sn]) (rest := []) X (c_X1_isToldSince l hl0 G _ (h := bO) (c0 := 140 * p + (10 * a + i)) (d := sn) (ql := ql) (qe := qe) (qn := qn) (qt := qt) (qc := qc) (qd := qd) (qf := qf) (bn := bn) (lat := lat) (ld := ld) (hc := (by first | assumption | omega))) (cwV 2 hts gX5_matchAt_X1_isToldSince rfl rfl rfl (by decide +kernel) ⟨Nat.le_of_ble_eq_true rfl, Nat.le_of_ble_eq_true rfl⟩) ⟨b_blind, b_recv E w (ci := 1) (q0 := 5) rfl rfl, (fun U9 hU9 hW9 => ⟨rfl, b_pre E Z0 w [5, 6, 7] (by decide) rfl b_nil U9 hU9 hW9⟩)⟩ rfl rfl hl.1 rfl (lv_room (Nat.le_of_ble_eq_true rfl)) dX5_matchAt_59 ⟨Nat.le_of_ble_eq_true rfl, Nat.le_of_ble_eq_true rfl⟩) b_nil [] (fun _ => rfl) rfl (fun r59_26 u59_26 H locs hr59_26 w => ?_)
              have w : bSt G vwCl [] s [(H0, .inr (5, [.ref tA, .ref tJ, .ref gO, .ref dO, .ref bO, .ref sO, .ref qs, .ref qr, .int (nI jd), .int (nI snt), .int (nI td)])), (tA, .inr (4, [.ref oA, .int (nI 10), .int (nI nA)])), (oA, .inl (G.2.1, 14, .inl fA)), (tJ, .inr (4, [.ref oJ, .int (nI 1), .int (nI nJ)])), (oJ, .inl (G.2.1, 10, .inl fJ)), (bO, .inr (1, [.ref ql, .ref qe, .ref qn, .ref qt, .ref qc, .ref qd, .ref qf, .int (nI bn)])), (ql, .inl (G.2.1, 1680, .inl lat)), (qt, .inl (G.2.1, 1680, .inl ld))] _ _ := w
              subst hr59_26
              refine lv_if_eq (tgt := 115) hx hb dX5_matchAt_62 (by decide) (fun c_62_27 => ?_) (fun c_62_27 => ?_)
              · have q_62_28 : (!decide (lat (140 * p + (10 * a + i)) = MIS) && !decide (ld (140 * p + (10 * a + i)) < sn)) = false := bI_0.mp c_62_27
                have hgn := srI_no (M := mM fA nA fJ nJ lat ld x y sn p a) (code := codeN p a) (l := l3) (show i < nJ by omega) (by simp [mM, q_62_28])
                refine lv_iinc (v := nI (i + 1)) (lv' := [(10, .int (nI (i + 1))), (0, .ref H0), (1, .int x), (2, .int y), (4, .int (nI t0)), (5, .int sn), (7, .int (nI l3)), (8, .int (nI p)), (9, .int (nI a))]) hx hb dX5_matchAt_115 hl (k := 8) rfl (nI_add i 1) (by decide) rfl (fun ls hl => ?_)
                refine lv_goto (tgt := 32) hx hb dX5_matchAt_118 (by decide) ?_
                exact ih32 _ _ _ ⟨i + 1, l3, (by omega), (by omega), (by omega), hI1.trans hgn, w, lv_sub hl [1, 2, 3, 4, 5, 6, 7, 8, 0] rfl⟩
              · have q_62_28 : (!decide (lat (140 * p + (10 * a + i)) = MIS) && !decide (ld (140 * p + (10 * a + i)) < sn)) = true := bI_n0.mp c_62_27
                have m1 := q_62_28
                refine lv_aload_n hx hb dX5_matchAt_65 rfl (lv_at hl 0 rfl) ?_
                refine b_get X E w 0 rfl rfl 0 (by decide) iX5 (by decide +kernel) rfl rfl dX5_matchAt_66 ?_
                refine lv_iload hx hb dX5_matchAt_69 (lv_at hl 7 rfl) ?_
                refine lv_iload_n hx hb dX5_matchAt_71 rfl (lv_at hl 1 rfl) ?_
                refine b_calli w (va_runV (As := [.int (nI a), .int x]) (rest := []) X (c_X4_isWithin l hl0 G _ (h := tA) (k := a) (x := x) (o := oA) (str := 10) (n := nA) (cap := 14) (f := fA) (hk := (by first | assumption | omega)) (hn := (by first | assumption | omega)) (hc := (by first | assumption | omega)) (hT := (by first | assumption | omega))) (cwV 2 hts gX5_matchAt_X4_isWithin rfl rfl rfl (by decide +kernel) ⟨Nat.le_of_ble_eq_true rfl, Nat.le_of_ble_eq_true rfl⟩) ⟨b_blind, b_recv E w (ci := 4) (q0 := 1) rfl rfl, (fun U9 hU9 hW9 => ⟨rfl, b_pre E Z0 w [1, 2] (by decide) rfl b_nil U9 hU9 hW9⟩)⟩ rfl rfl hl.1 rfl (lv_room (Nat.le_of_ble_eq_true rfl)) dX5_matchAt_72 ⟨Nat.le_of_ble_eq_true rfl, Nat.le_of_ble_eq_true rfl⟩) b_nil [] (fun _ => rfl) rfl (fun r72_29 u72_29 H locs hr72_29 w => ?_)
                have w : bSt G vwCl [] s [(H0, .inr (5, [.ref tA, .ref tJ, .ref gO, .ref dO, .ref bO, .ref sO, .ref qs, .ref qr, .int (nI jd), .int (nI snt), .int (nI td)])), (tA, .inr (4, [.ref oA, .int (nI 10), .int (nI nA)])), (oA, .inl (G.2.1, 14, .inl fA)), (tJ, .inr (4, [.ref oJ, .int (nI 1), .int (nI nJ)])), (oJ, .inl (G.2.1, 10, .inl fJ)), (bO, .inr (1, [.ref ql, .ref qe, .ref qn, .ref qt, .ref qc, .ref qd, .ref qf, .int (nI bn)])), (ql, .inl (G.2.1, 1680, .inl lat)), (qt, .inl (G.2.1, 1680, .inl ld))] _ _ := w
                subst hr72_29
                refine lv_if_eq (tgt := 115) hx hb dX5_matchAt_75 (by decide) (fun c_75_30 => ?_) (fun c_75_30 => ?_)
                · have q_75_31 : (tW fA x nA (nI a)) = false := bI_0.mp c_75_30
                  have hgn := srI_no (M := mM fA nA fJ nJ lat ld x y sn p a) (code := codeN p a) (l := l3) (show i < nJ by omega) (by simp [mM, q_75_31])
                  refine lv_iinc (v := nI (i + 1)) (lv' := [(10, .int (nI (i + 1))), (0, .ref H0), (1, .int x), (2, .int y), (4, .int (nI t0)), (5, .int sn), (7, .int (nI l3)), (8, .int (nI p)), (9, .int (nI a))]) hx hb dX5_matchAt_115 hl (k := 8) rfl (nI_add i 1) (by decide) rfl (fun ls hl => ?_)
                  refine lv_goto (tgt := 32) hx hb dX5_matchAt_118 (by decide) ?_
                  exact ih32 _ _ _ ⟨i + 1, l3, (by omega), (by omega), (by omega), hI1.trans hgn, w, lv_sub hl [1, 2, 3, 4, 5, 6, 7, 8, 0] rfl⟩
                · have q_75_31 : (tW fA x nA (nI a)) = true := bI_n0.mp c_75_30
                  have m2 := q_75_31
                  refine lv_aload_n hx hb dX5_matchAt_78 rfl (lv_at hl 0 rfl) ?_
                  refine b_get X E w 0 rfl rfl 1 (by decide) iX5 (by decide +kernel) rfl rfl dX5_matchAt_79 ?_
                  refine lv_iload hx hb dX5_matchAt_82 (lv_at hl 8 rfl) ?_
                  refine lv_iload_n hx hb dX5_matchAt_84 rfl (lv_at hl 2 rfl) ?_
                  refine b_calli w (va_runV (As := [.int (nI i), .int y]) (rest := []) X (c_X4_isWithin l hl0 G _ (h := tJ) (k := i) (x := y) (o := oJ) (str := 1) (n := nJ) (cap := 10) (f := fJ) (hk := (by first | assumption | omega)) (hn := (by first | assumption | omega)) (hc := (by first | assumption | omega)) (hT := (by first | assumption | omega))) (cwV 2 hts gX5_matchAt_X4_isWithin rfl rfl rfl (by decide +kernel) ⟨Nat.le_of_ble_eq_true rfl, Nat.le_of_ble_eq_true rfl⟩) ⟨b_blind, b_recv E w (ci := 4) (q0 := 3) rfl rfl, (fun U9 hU9 hW9 => ⟨rfl, b_pre E Z0 w [3, 4] (by decide) rfl b_nil U9 hU9 hW9⟩)⟩ rfl rfl hl.1 rfl (lv_room (Nat.le_of_ble_eq_true rfl)) dX5_matchAt_85 ⟨Nat.le_of_ble_eq_true rfl, Nat.le_of_ble_eq_true rfl⟩) b_nil [] (fun _ => rfl) rfl (fun r85_32 u85_32 H locs hr85_32 w => ?_)
                  have w : bSt G vwCl [] s [(H0, .inr (5, [.ref tA, .ref tJ, .ref gO, .ref dO, .ref bO, .ref sO, .ref qs, .ref qr, .int (nI jd), .int (nI snt), .int (nI td)])), (tA, .inr (4, [.ref oA, .int (nI 10), .int (nI nA)])), (oA, .inl (G.2.1, 14, .inl fA)), (tJ, .inr (4, [.ref oJ, .int (nI 1), .int (nI nJ)])), (oJ, .inl (G.2.1, 10, .inl fJ)), (bO, .inr (1, [.ref ql, .ref qe, .ref qn, .ref qt, .ref qc, .ref qd, .ref qf, .int (nI bn)])), (ql, .inl (G.2.1, 1680, .inl lat)), (qt, .inl (G.2.1, 1680, .inl ld))] _ _ := w
                  subst hr85_32
                  refine lv_if_eq (tgt := 115) hx hb dX5_matchAt_88 (by decide) (fun c_88_33 => ?_) (fun c_88_33 => ?_)
                  · have q_88_34 : (tW fJ y nJ (nI i)) = false := bI_0.mp c_88_33
                    have hgn := srI_no (M := mM fA nA fJ nJ lat ld x y sn p a) (code := codeN p a) (l := l3) (show i < nJ by omega) (by simp [mM, q_88_34])
                    refine lv_iinc (v := nI (i + 1)) (lv' := [(10, .int (nI (i + 1))), (0, .ref H0), (1, .int x), (2, .int y), (4, .int (nI t0)), (5, .int sn), (7, .int (nI l3)), (8, .int (nI p)), (9, .int (nI a))]) hx hb dX5_matchAt_115 hl (k := 8) rfl (nI_add i 1) (by decide) rfl (fun ls hl => ?_)
                    refine lv_goto (tgt := 32) hx hb dX5_matchAt_118 (by decide) ?_
                    exact ih32 _ _ _ ⟨i + 1, l3, (by omega), (by omega), (by omega), hI1.trans hgn, w, lv_sub hl [1, 2, 3, 4, 5, 6, 7, 8, 0] rfl⟩
                  · have q_88_34 : (tW fJ y nJ (nI i)) = true := bI_n0.mp c_88_33
                    have m3 := q_88_34
                    have hM : mM fA nA fJ nJ lat ld x y sn p a i = true := by unfold mM; rw [m1, m2, m3]; rfl
                    refine lv_iload hx hb dX5_matchAt_91 (lv_at hl 5 rfl) ?_
                    refine lv_if_ne (tgt := 112) hx hb dX5_matchAt_93 (by decide) (fun c_93_35 => ?_) (fun c_93_35 => ?_)
                    · have q_93_36 : ¬ l3 = 0 := fun h9 => c_93_35 ((nI_z (by omega)).mpr h9)
                      have hgn := srI_pass (M := mM fA nA fJ nJ lat ld x y sn p a) (code := codeN p a) (show i < nJ by omega) hM q_93_36
                      refine lv_iinc (v := nI (l3 - 1)) (lv' := [(7, .int (nI (l3 - 1))), (0, .ref H0), (1, .int x), (2, .int y), (4, .int (nI t0)), (5, .int sn), (8, .int (nI p)), (9, .int (nI a)), (10, .int (nI i))]) hx hb dX5_matchAt_112 hl (k := 5) rfl (b_dec (d := 1) (by omega)) (by decide) rfl (fun ls hl => ?_)
                      refine lv_iinc (v := nI (i + 1)) (lv' := [(10, .int (nI (i + 1))), (7, .int (nI (l3 - 1))), (0, .ref H0), (1, .int x), (2, .int y), (4, .int (nI t0)), (5, .int sn), (8, .int (nI p)), (9, .int (nI a))]) hx hb dX5_matchAt_115 hl (k := 8) rfl (nI_add i 1) (by decide) rfl (fun ls hl => ?_)
                      refine lv_goto (tgt := 32) hx hb dX5_matchAt_118 (by decide) ?_
                      exact ih32 _ _ _ ⟨i + 1, l3 - 1, (by omega), (by omega), (by omega), hI1.trans hgn, w, lv_sub hl [2, 3, 4, 5, 6, 1, 7, 8, 0] rfl⟩
                    · have q_93_36 : l3 = 0 := (nI_z (by omega)).mp c_93_35
                      have hh := srI_hit (M := mM fA nA fJ nJ lat ld x y sn p a) (code := codeN p a) (show i < nJ by omega) hM q_93_36
                      refine lv_sipush (v := nI 1000) hx hb dX5_matchAt_96 (by decide) ?_
                      refine lv_iload hx hb dX5_matchAt_99 (lv_at hl 6 rfl) ?_
                      refine lv_imul hx hb dX5_matchAt_101 ?_
                      refine b_tp (show (nI 1000) * (nI p) = nI (1000 * p) from pk_mul 1000 p) ?_
                      refine lv_bipush (v := nI 20) hx hb dX5_matchAt_102 (by decide) ?_
                      refine lv_iload hx hb dX5_matchAt_104 (lv_at hl 7 rfl) ?_
                      refine lv_imul hx hb dX5_matchAt_106 ?_
                      refine b_tp (show (nI 20) * (nI a) = nI (20 * a) from pk_mul 20 a) ?_
                      refine lv_iadd hx hb dX5_matchAt_107 ?_
                      refine b_tp (show (nI (1000 * p)) + (nI (20 * a)) = nI ((1000 * p) + 20 * a) from nI_add (1000 * p) (20 * a)) ?_
                      refine lv_iload hx hb dX5_matchAt_108 (lv_at hl 8 rfl) ?_
                      refine lv_iadd hx hb dX5_matchAt_110 ?_
                      refine b_tp (show (nI ((1000 * p) + 20 * a)) + (nI i) = nI ((1000 * p) + 20 * a + i) from nI_add ((1000 * p) + 20 * a) i) ?_
                      exact W.iret (v := nI ((1000 * p) + 20 * a + i)) hx hb hr (fun t9 ht9 hW9 => ⟨⟨nI ((1000 * p) + 20 * a + i), (), rfl, (congrArg srR (hP1.trans (srA_r (by omega) (hA1.trans (srA_r (by omega) (hI1.trans hh)))))).symm, fun k q h => by cases k <;> cases h⟩, w.2.1.F ht9⟩) w.2.1.2.2 dX5_matchAt_111
set_option maxHeartbeats 4000000 in
set_option maxRecDepth 100000 in
theorem c_X5_find (l : Launch) (hl0 : l.stackTraces = false) (G : bG) (sz : Nat) (H0 tA tJ gO dO bO sO qs qr jd snt td : Nat) (oA nA : Nat) (fA : Nat → Int32) (oJ nJ : Nat) (fJ : Nat → Int32) (ql qe qn qt qc qd qf bn : Nat) (lat : Nat → Int32) (ld : Nat → Int32) (x y f t sn pl : Int32) (hnA : nA ≤ 14) (hnJ : nJ ≤ 10) (hTA : TI fA nA) (hTJ : TI fJ nJ) : vx_Met l yX5_find wsX5_find ({ frames := 7, cells := 3, slots := 18, locals := 111 }) (va_Pc [.ref H0, .int x, .int y, .int f, .int t, .int sn, .int pl] (bPre G vwCl bNW bSW sz [(H0, .inr (5, [.ref tA, .ref tJ, .ref gO, .ref dO, .ref bO, .ref sO, .ref qs, .ref qr, .int (nI jd), .int (nI snt), .int (nI td)])), (tA, .inr (4, [.ref oA, .int (nI 10), .int (nI nA)])), (oA, .inl (G.2.1, 14, .inl fA)), (tJ, .inr (4, [.ref oJ, .int (nI 1), .int (nI nJ)])), (oJ, .inl (G.2.1, 10, .inl fJ)), (bO, .inr (1, [.ref ql, .ref qe, .ref qn, .ref qt, .ref qc, .ref qd, .ref qf, .int (nI bn)])), (ql, .inl (G.2.1, 1680, .inl lat)), (qt, .inl (G.2.1, 1680, .inl ld))] [])) (va_Qi (fun (r : Int32) (_ : Unit) => r = srR (srT (mM fA nA fJ nJ lat ld x y sn) nA nJ (cl f) (cl t) (cl pl)) ∧ ((tPat nA x && tPat nJ y && !decide (pl < 0)) = true ∧ (tHas 12 f && tHas 12 t && !decide (t < f) && sOk sn) = true)) (fun (_ : Unit) (tS : State) => va_P G.1 vwCl [] tS.heap) (Aw [] sz)) (bX (fun E => (E = xIO ∧ (tPat nA x && tPat nJ y && !decide (pl < 0)) = false) ∨ (E = xIA ∧ (tPat nA x && tPat nJ y && !decide (pl < 0)) = true ∧ (tHas 12 f && tHas 12 t && !decide (t < f) && sOk sn) = false)) sz) 3 18 (Aw [] sz) := by
  refine vx_ofW (cc := cX5_find) (maxL := 7) (ret := (some .int)) (by decide) rfl ?_
  intro p e s m args below meth c s₁ B hml hxt hv
  obtain ⟨rfl, hsz, hP, hD, E, Z⟩ := hv
  have hts := atoms_spec (ws := wsX5_find) B.pre
  have hown : s.vm.findClass RX5 = some m.cls := findClass_of_methodNamed B.named
  have X : CallFix p m c cX5_find 7 s _ wsX5_find RX5 := ⟨B.exec, B.bytes, hml, hown, hts⟩
  have hx := B.exec
  have hb := B.bytes
  have hr := B.returns
  have hlocks := B.notSynchronized
  subst hsz
  have w : bSt G vwCl [] s [(H0, .inr (5, [.ref tA, .ref tJ, .ref gO, .ref dO, .ref bO, .ref sO, .ref qs, .ref qr, .int (nI jd), .int (nI snt), .int (nI td)])), (tA, .inr (4, [.ref oA, .int (nI 10), .int (nI nA)])), (oA, .inl (G.2.1, 14, .inl fA)), (tJ, .inr (4, [.ref oJ, .int (nI 1), .int (nI nJ)])), (oJ, .inl (G.2.1, 10, .inl fJ)), (bO, .inr (1, [.ref ql, .ref qe, .ref qn, .ref qt, .ref qc, .ref qd, .ref qf, .int (nI bn)])), (ql, .inl (G.2.1, 1680, .inl lat)), (qt, .inl (G.2.1, 1680, .inl ld))] s.heap [] := ⟨hP, va_S.rf, hD⟩
  have Z0 : bZ [] s := ⟨Z.1.narrow (fun q h => h.elim (fun h => nomatch h) Or.inr), Z.2.narrow (fun q h => h.elim (fun h => nomatch h) Or.inr)⟩
  have iX5 : ∀ w ∈ wsX50, w ∈ wsX5_find := by decide +kernel
  have hl := lv_entry ([.ref H0, .int x, .int y, .int f, .int t, .int sn, .int pl]) (n := 7) (Nat.le_of_ble_eq_true rfl)
  rw [lg_entry_eq]
  generalize (lg_sl ([.ref H0, .int x, .int y, .int f, .int t, .int sn, .int pl]) ++ List.replicate (7 - (lg_sl ([.ref H0, .int x, .int y, .int f, .int t, .int sn, .int pl])).length) Slot.unset).toArray = ls at hl ⊢
  have hl : lv_has ls 7 [(0, .ref H0), (1, .int x), (2, .int y), (3, .int f), (4, .int t), (5, .int sn), (6, .int pl)] := hl
  refine lv_aload_n hx hb dX5_find_0 rfl (lv_at hl 0 rfl) ?_
  refine b_get X E w 0 rfl rfl 0 (by decide) iX5 (by decide +kernel) rfl rfl dX5_find_1 ?_
  refine lv_iload_n hx hb dX5_find_4 rfl (lv_at hl 1 rfl) ?_
  refine b_xcallv w (vx_runS (As := [.ref tA, .int x]) (rest := []) X (c_X5_requireNumberOrNone l hl0 G _ (th := tA) (x := x) (o := oA) (str := 10) (n := nA) ) (va_cwS 2 hts gX5_find_X5_requireNumberOrNone rfl rfl rfl (by decide +kernel) ⟨Nat.le_of_ble_eq_true rfl, Nat.le_of_ble_eq_true rfl⟩) ⟨b_blind, (fun U9 hU9 hW9 => ⟨rfl, b_pre E Z0 w [1] (by decide) rfl b_nil U9 hU9 hW9⟩)⟩ rfl rfl hl.1 rfl (lv_room (Nat.le_of_ble_eq_true rfl)) dX5_find_5 ⟨Nat.le_of_ble_eq_true rfl, Nat.le_of_ble_eq_true rfl⟩) b_nil [] (fun _ => rfl) rfl (fun E9 ce9 q9 H9 locs9 hex w9 hce hcv hcl => b_out hxt hlocks w9 (Or.inl ⟨hex.1, by rw [hex.2]; rfl⟩) hce hcv hcl (by decide) (by decide)) (fun u5_14 H locs hr5_14 w => ?_)
  have w : bSt G vwCl [] s [(H0, .inr (5, [.ref tA, .ref tJ, .ref gO, .ref dO, .ref bO, .ref sO, .ref qs, .ref qr, .int (nI jd), .int (nI snt), .int (nI td)])), (tA, .inr (4, [.ref oA, .int (nI 10), .int (nI nA)])), (oA, .inl (G.2.1, 14, .inl fA)), (tJ, .inr (4, [.ref oJ, .int (nI 1), .int (nI nJ)])), (oJ, .inl (G.2.1, 10, .inl fJ)), (bO, .inr (1, [.ref ql, .ref qe, .ref qn, .ref qt, .ref qc, .ref qd, .ref qf, .int (nI bn)])), (ql, .inl (G.2.1, 1680, .inl lat)), (qt, .inl (G.2.1, 1680, .inl ld))] _ _ := w
  have h1 := hr5_14
  refine lv_aload_n hx hb dX5_find_8 rfl (lv_at hl 0 rfl) ?_
  refine b_get X E w 0 rfl rfl 1 (by decide) iX5 (by decide +kernel) rfl rfl dX5_find_9 ?_
  refine lv_iload_n hx hb dX5_find_12 rfl (lv_at hl 2 rfl) ?_
  refine b_xcallv w (vx_runS (As := [.ref tJ, .int y]) (rest := []) X (c_X5_requireNumberOrNone l hl0 G _ (th := tJ) (x := y) (o := oJ) (str := 1) (n := nJ) ) (va_cwS 2 hts gX5_find_X5_requireNumberOrNone rfl rfl rfl (by decide +kernel) ⟨Nat.le_of_ble_eq_true rfl, Nat.le_of_ble_eq_true rfl⟩) ⟨b_blind, (fun U9 hU9 hW9 => ⟨rfl, b_pre E Z0 w [3] (by decide) rfl b_nil U9 hU9 hW9⟩)⟩ rfl rfl hl.1 rfl (lv_room (Nat.le_of_ble_eq_true rfl)) dX5_find_13 ⟨Nat.le_of_ble_eq_true rfl, Nat.le_of_ble_eq_true rfl⟩) b_nil [] (fun _ => rfl) rfl (fun E9 ce9 q9 H9 locs9 hex w9 hce hcv hcl => b_out hxt hlocks w9 (Or.inl ⟨hex.1, by rw [h1, hex.2]; rfl⟩) hce hcv hcl (by decide) (by decide)) (fun u13_15 H locs hr13_15 w => ?_)
  have w : bSt G vwCl [] s [(H0, .inr (5, [.ref tA, .ref tJ, .ref gO, .ref dO, .ref bO, .ref sO, .ref qs, .ref qr, .int (nI jd), .int (nI snt), .int (nI td)])), (tA, .inr (4, [.ref oA, .int (nI 10), .int (nI nA)])), (oA, .inl (G.2.1, 14, .inl fA)), (tJ, .inr (4, [.ref oJ, .int (nI 1), .int (nI nJ)])), (oJ, .inl (G.2.1, 10, .inl fJ)), (bO, .inr (1, [.ref ql, .ref qe, .ref qn, .ref qt, .ref qc, .ref qd, .ref qf, .int (nI bn)])), (ql, .inl (G.2.1, 1680, .inl lat)), (qt, .inl (G.2.1, 1680, .inl ld))] _ _ := w
  have h2 := hr13_15
  refine lv_iload hx hb dX5_find_16 (lv_at hl 6 rfl) ?_
  refine lv_if_ge (tgt := 31) hx hb dX5_find_18 (by decide) (fun c_18_16 => ?_) (fun c_18_16 => ?_)
  · have c18 : ¬ pl < 0 := fun h9 => absurd c_18_16 (i_le_of_lt h9)
    have h3 : (tPat nA x && tPat nJ y && !decide (pl < 0)) = true := by simp [h1, h2, c18]
    refine lv_iload_n hx hb dX5_find_31 rfl (lv_at hl 3 rfl) ?_
    refine b_calli w (va_runS (As := [.int f]) (rest := []) X (c_X5_isPeriod l hl0 G _ (x := f) ) (va_cwS 1 hts gX5_find_X5_isPeriod rfl rfl rfl (by decide +kernel) ⟨Nat.le_of_ble_eq_true rfl, Nat.le_of_ble_eq_true rfl⟩) ⟨b_blind, (fun U9 hU9 hW9 => ⟨rfl, b_pre E Z0 w [] (by decide) rfl b_nil U9 hU9 hW9⟩)⟩ rfl rfl hl.1 rfl (lv_room (Nat.le_of_ble_eq_true rfl)) dX5_find_32 ⟨Nat.le_of_ble_eq_true rfl, Nat.le_of_ble_eq_true rfl⟩) b_nil [] (fun _ => rfl) rfl (fun r32_17 u32_17 H locs hr32_17 w => ?_)
    have w : bSt G vwCl [] s [(H0, .inr (5, [.ref tA, .ref tJ, .ref gO, .ref dO, .ref bO, .ref sO, .ref qs, .ref qr, .int (nI jd), .int (nI snt), .int (nI td)])), (tA, .inr (4, [.ref oA, .int (nI 10), .int (nI nA)])), (oA, .inl (G.2.1, 14, .inl fA)), (tJ, .inr (4, [.ref oJ, .int (nI 1), .int (nI nJ)])), (oJ, .inl (G.2.1, 10, .inl fJ)), (bO, .inr (1, [.ref ql, .ref qe, .ref qn, .ref qt, .ref qc, .ref qd, .ref qf, .int (nI bn)])), (ql, .inl (G.2.1, 1680, .inl lat)), (qt, .inl (G.2.1, 1680, .inl ld))] _ _ := w
    subst hr32_17
    refine lv_if_eq (tgt := 52) hx hb dX5_find_35 (by decide) (fun c_35_18 => ?_) (fun c_35_18 => ?_)
    · have q_35_19 : (tHas 12 f) = false := bI_0.mp c_35_18
      have hE : (tHas 12 f && tHas 12 t && !decide (t < f) && sOk sn) = false := by simp [q_35_19]
      exact b_throw (cls := "java/lang/IllegalArgumentException") (text := "from or to is out of range") (ik := 84) (is := 194) (ic := 88) X E Z0 hl0 hxt hlocks w (Or.inr ⟨rfl, h3, hE⟩) hl.1 (by decide) (by decide +kernel) (by decide +kernel) (by decide +kernel) (by decide +kernel) (by decide +kernel) (by decide +kernel) (by decide +kernel) dX5_find_52 dX5_find_55 dX5_find_56 dX5_find_58 dX5_find_61 (Nat.le_of_ble_eq_true rfl) (Nat.le_of_ble_eq_true rfl) (Nat.le_of_ble_eq_true rfl) (Nat.le_of_ble_eq_true rfl) (by decide) (by decide)
    · have q_35_19 : (tHas 12 f) = true := bI_n0.mp c_35_18
      have h4 := q_35_19
      refine lv_iload hx hb dX5_find_38 (lv_at hl 4 rfl) ?_
      refine b_calli w (va_runS (As := [.int t]) (rest := []) X (c_X5_isPeriod l hl0 G _ (x := t) ) (va_cwS 1 hts gX5_find_X5_isPeriod rfl rfl rfl (by decide +kernel) ⟨Nat.le_of_ble_eq_true rfl, Nat.le_of_ble_eq_true rfl⟩) ⟨b_blind, (fun U9 hU9 hW9 => ⟨rfl, b_pre E Z0 w [] (by decide) rfl b_nil U9 hU9 hW9⟩)⟩ rfl rfl hl.1 rfl (lv_room (Nat.le_of_ble_eq_true rfl)) dX5_find_40 ⟨Nat.le_of_ble_eq_true rfl, Nat.le_of_ble_eq_true rfl⟩) b_nil [] (fun _ => rfl) rfl (fun r40_20 u40_20 H locs hr40_20 w => ?_)
      have w : bSt G vwCl [] s [(H0, .inr (5, [.ref tA, .ref tJ, .ref gO, .ref dO, .ref bO, .ref sO, .ref qs, .ref qr, .int (nI jd), .int (nI snt), .int (nI td)])), (tA, .inr (4, [.ref oA, .int (nI 10), .int (nI nA)])), (oA, .inl (G.2.1, 14, .inl fA)), (tJ, .inr (4, [.ref oJ, .int (nI 1), .int (nI nJ)])), (oJ, .inl (G.2.1, 10, .inl fJ)), (bO, .inr (1, [.ref ql, .ref qe, .ref qn, .ref qt, .ref qc, .ref qd, .ref qf, .int (nI bn)])), (ql, .inl (G.2.1, 1680, .inl lat)), (qt, .inl (G.2.1, 1680, .inl ld))] _ _ := w
      subst hr40_20
      refine lv_if_eq (tgt := 52) hx hb dX5_find_43 (by decide) (fun c_43_21 => ?_) (fun c_43_21 => ?_)
      · have q_43_22 : (tHas 12 t) = false := bI_0.mp c_43_21
        have hE : (tHas 12 f && tHas 12 t && !decide (t < f) && sOk sn) = false := by simp [q_43_22]
        exact b_throw (cls := "java/lang/IllegalArgumentException") (text := "from or to is out of range") (ik := 84) (is := 194) (ic := 88) X E Z0 hl0 hxt hlocks w (Or.inr ⟨rfl, h3, hE⟩) hl.1 (by decide) (by decide +kernel) (by decide +kernel) (by decide +kernel) (by decide +kernel) (by decide +kernel) (by decide +kernel) (by decide +kernel) dX5_find_52 dX5_find_55 dX5_find_56 dX5_find_58 dX5_find_61 (Nat.le_of_ble_eq_true rfl) (Nat.le_of_ble_eq_true rfl) (Nat.le_of_ble_eq_true rfl) (Nat.le_of_ble_eq_true rfl) (by decide) (by decide)
      · have q_43_22 : (tHas 12 t) = true := bI_n0.mp c_43_21
        have h5 := q_43_22
        refine lv_iload hx hb dX5_find_46 (lv_at hl 4 rfl) ?_
        refine lv_iload_n hx hb dX5_find_48 rfl (lv_at hl 3 rfl) ?_
        refine lv_icmp_ge (tgt := 62) hx hb dX5_find_49 (by decide) (fun c_49_23 => ?_) (fun c_49_23 => ?_)
        · have h6 : ¬ t < f := fun h9 => absurd c_49_23 (i_le_of_lt h9)
          refine lv_iload hx hb dX5_find_62 (lv_at hl 5 rfl) ?_
          refine lv_if_lt (tgt := 75) hx hb dX5_find_64 (by decide) (fun c_64_24 => ?_) (fun c_64_24 => ?_)
          · have hE : (tHas 12 f && tHas 12 t && !decide (t < f) && sOk sn) = false := by simp [sOk, c_64_24]
            exact b_throw (cls := "java/lang/IllegalArgumentException") (text := "since is out of range") (ik := 84) (is := 196) (ic := 88) X E Z0 hl0 hxt hlocks w (Or.inr ⟨rfl, h3, hE⟩) hl.1 (by decide) (by decide +kernel) (by decide +kernel) (by decide +kernel) (by decide +kernel) (by decide +kernel) (by decide +kernel) (by decide +kernel) dX5_find_75 dX5_find_78 dX5_find_79 dX5_find_81 dX5_find_84 (Nat.le_of_ble_eq_true rfl) (Nat.le_of_ble_eq_true rfl) (Nat.le_of_ble_eq_true rfl) (Nat.le_of_ble_eq_true rfl) (by decide) (by decide)
          · have c64 := c_64_24
            refine lv_iload hx hb dX5_find_67 (lv_at hl 5 rfl) ?_
            refine lv_sipush (v := nI 1000) hx hb dX5_find_69 (by decide) ?_
            refine lv_icmp_le (tgt := 85) hx hb dX5_find_72 (by decide) (fun c_72_25 => ?_) (fun c_72_25 => ?_)
            · have h7 : (tHas 12 f && tHas 12 t && !decide (t < f) && sOk sn) = true := by simp [h4, h5, h6, sOk, c64, c_72_25]
              obtain ⟨f0, hf0, rfl⟩ := (tHas_iff (by decide)).mp h4
              obtain ⟨t0, ht0, rfl⟩ := (tHas_iff (by decide)).mp h5
              obtain ⟨p9, hp9, rfl⟩ := nI_of c18
              have hft := q_nlt (by omega) (by omega) h6
              have ef : cl (nI f0) = f0 := cl_nI (by omega)
              have et : cl (nI t0) = t0 := cl_nI (by omega)
              have ep : cl (nI p9) = p9 := cl_nI hp9
              refine lv_aload_n hx hb dX5_find_85 rfl (lv_at hl 0 rfl) ?_
              refine lv_iload_n hx hb dX5_find_86 rfl (lv_at hl 1 rfl) ?_
              refine lv_iload_n hx hb dX5_find_87 rfl (lv_at hl 2 rfl) ?_
              refine lv_iload_n hx hb dX5_find_88 rfl (lv_at hl 3 rfl) ?_
              refine lv_iload hx hb dX5_find_89 (lv_at hl 4 rfl) ?_
              refine lv_iload hx hb dX5_find_91 (lv_at hl 5 rfl) ?_
              refine lv_iload hx hb dX5_find_93 (lv_at hl 6 rfl) ?_
              refine b_calli w (va_runV (As := [.int x, .int y, .int (nI f0), .int (nI t0), .int sn, .int (nI p9)]) (rest := []) X (c_X5_matchAt l hl0 G _ (H0 := H0) (x := x) (y := y) (f0 := f0) (t0 := t0) (sn := sn) (pl := p9) (tA := tA) (tJ := tJ) (gO := gO) (dO := dO) (bO := bO) (sO := sO) (qs := qs) (qr := qr) (jd := jd) (snt := snt) (td := td) (oA := oA) (nA := nA) (fA := fA) (oJ := oJ) (nJ := nJ) (fJ := fJ) (ql := ql) (qe := qe) (qn := qn) (qt := qt) (qc := qc) (qd := qd) (qf := qf) (bn := bn) (lat := lat) (ld := ld) (hnA := (by first | assumption | omega)) (hnJ := (by first | assumption | omega)) (hTA := (by first | assumption | omega)) (hTJ := (by first | assumption | omega)) (hf0 := (by first | assumption | omega)) (ht0 := (by first | assumption | omega)) (hpl := (by first | assumption | omega))) (cwV 6 hts gX5_find_X5_matchAt rfl rfl rfl (by decide +kernel) ⟨Nat.le_of_ble_eq_true rfl, Nat.le_of_ble_eq_true rfl⟩) ⟨b_blind, b_recv E w (ci := 5) (q0 := 0) rfl rfl, (fun U9 hU9 hW9 => ⟨rfl, b_pre E Z0 w [0, 1, 2, 3, 4, 5, 6, 7] (by decide) rfl b_nil U9 hU9 hW9⟩)⟩ rfl rfl hl.1 rfl (lv_room (Nat.le_of_ble_eq_true rfl)) dX5_find_95 ⟨Nat.le_of_ble_eq_true rfl, Nat.le_of_ble_eq_true rfl⟩) b_nil [] (fun _ => rfl) rfl (fun r95_26 u95_26 H locs hr95_26 w => ?_)
              have w : bSt G vwCl [] s [(H0, .inr (5, [.ref tA, .ref tJ, .ref gO, .ref dO, .ref bO, .ref sO, .ref qs, .ref qr, .int (nI jd), .int (nI snt), .int (nI td)])), (tA, .inr (4, [.ref oA, .int (nI 10), .int (nI nA)])), (oA, .inl (G.2.1, 14, .inl fA)), (tJ, .inr (4, [.ref oJ, .int (nI 1), .int (nI nJ)])), (oJ, .inl (G.2.1, 10, .inl fJ)), (bO, .inr (1, [.ref ql, .ref qe, .ref qn, .ref qt, .ref qc, .ref qd, .ref qf, .int (nI bn)])), (ql, .inl (G.2.1, 1680, .inl lat)), (qt, .inl (G.2.1, 1680, .inl ld))] _ _ := w
              subst hr95_26
              refine W.widen (k := 3) (n := 18) (by decide) (by decide) ?_
              refine vx_ret ?_
              exact W.iret (v := srR (srT (mM fA nA fJ nJ lat ld x y sn) nA nJ f0 t0 p9)) hx hb hr (fun t9 ht9 hW9 => ⟨⟨srR (srT (mM fA nA fJ nJ lat ld x y sn) nA nJ f0 t0 p9), (), rfl, ⟨by rw [ef, et, ep], h3, h7⟩, fun k q h => by cases k <;> cases h⟩, w.2.1.F ht9⟩) w.2.1.2.2 dX5_find_98
            · have hE : (tHas 12 f && tHas 12 t && !decide (t < f) && sOk sn) = false := by simp [sOk, c_72_25]
              exact b_throw (cls := "java/lang/IllegalArgumentException") (text := "since is out of range") (ik := 84) (is := 196) (ic := 88) X E Z0 hl0 hxt hlocks w (Or.inr ⟨rfl, h3, hE⟩) hl.1 (by decide) (by decide +kernel) (by decide +kernel) (by decide +kernel) (by decide +kernel) (by decide +kernel) (by decide +kernel) (by decide +kernel) dX5_find_75 dX5_find_78 dX5_find_79 dX5_find_81 dX5_find_84 (Nat.le_of_ble_eq_true rfl) (Nat.le_of_ble_eq_true rfl) (Nat.le_of_ble_eq_true rfl) (Nat.le_of_ble_eq_true rfl) (by decide) (by decide)
        · have hE : (tHas 12 f && tHas 12 t && !decide (t < f) && sOk sn) = false := by simp [i_lt_of_nle c_49_23]
          exact b_throw (cls := "java/lang/IllegalArgumentException") (text := "from or to is out of range") (ik := 84) (is := 194) (ic := 88) X E Z0 hl0 hxt hlocks w (Or.inr ⟨rfl, h3, hE⟩) hl.1 (by decide) (by decide +kernel) (by decide +kernel) (by decide +kernel) (by decide +kernel) (by decide +kernel) (by decide +kernel) (by decide +kernel) dX5_find_52 dX5_find_55 dX5_find_56 dX5_find_58 dX5_find_61 (Nat.le_of_ble_eq_true rfl) (Nat.le_of_ble_eq_true rfl) (Nat.le_of_ble_eq_true rfl) (Nat.le_of_ble_eq_true rfl) (by decide) (by decide)
  · have c18 : pl < 0 := i_lt_of_nle c_18_16
    exact b_throw (cls := "java/lang/IndexOutOfBoundsException") (text := "place is below 0") (ik := 129) (is := 192) (ic := 133) X E Z0 hl0 hxt hlocks w (Or.inl ⟨rfl, by simp [c18]⟩) hl.1 (by decide) (by decide +kernel) (by decide +kernel) (by decide +kernel) (by decide +kernel) (by decide +kernel) (by decide +kernel) (by decide +kernel) dX5_find_21 dX5_find_24 dX5_find_25 dX5_find_27 dX5_find_30 (Nat.le_of_ble_eq_true rfl) (Nat.le_of_ble_eq_true rfl) (Nat.le_of_ble_eq_true rfl) (Nat.le_of_ble_eq_true rfl) (by decide) (by decide)
