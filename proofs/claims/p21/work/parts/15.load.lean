set_option maxHeartbeats 4000000 in
set_option maxRecDepth 100000 in
theorem c_X3_loadFigures (l : Launch) (hl0 : l.stackTraces = false) (G : bG) (sz : Nat) (h qv qh : Nat) (v : Nat → Int32) (bO ql qe qn qt qc qd qf bn : Nat) (bc bd bf : Nat → Int32) (p0 : Nat) (d : Int32) (hbn : bn ≤ 300) (hp : p0 < 12) (hbc : ∀ j, j < bn → ∃ c, c < 1680 ∧ bc j = nI c) (hbd : ∀ i j, i ≤ j → j < bn → bd i ≤ bd j) : Met l yX3_loadFigures wsX3_loadFigures ({ frames := 1, cells := 0, slots := 0, locals := 23 }) (va_Pc [.ref h, .ref bO, .int (nI p0), .int d] (bPre G vwCl bNW bSW sz [(h, .inr (3, [.ref qv, .ref qh])), (qv, .inl (G.2.1, 140, .inl v)), (bO, .inr (1, [.ref ql, .ref qe, .ref qn, .ref qt, .ref qc, .ref qd, .ref qf, .int (nI bn)])), (qc, .inl (G.2.1, 300, .inl bc)), (qd, .inl (G.2.1, 300, .inl bd)), (qf, .inl (G.2.1, 300, .inl bf))] [qv])) (va_Qv (fun (u : Nat → Int32) => ∀ t, t < 140 → u t = fo bc bd bf (nI (140 * p0 + t)) d bn) (fun (u : Nat → Int32) (tS : State) => va_P G.1 vwCl [(qv, .inl (G.2.1, 140, .inl u))] tS.heap) (Aw [qv] sz)) 0 0 (Aw [qv] sz) := by
  refine Met.ofW (cc := cX3_loadFigures) (maxL := 6) (ret := none) (by decide) rfl ?_
  intro p e s m args below meth c s₁ B hml hv
  obtain ⟨rfl, hsz, hP, hD, E, Z⟩ := hv
  have hts := atoms_spec (ws := wsX3_loadFigures) B.pre
  have hown : s.vm.findClass RX3 = some m.cls := findClass_of_methodNamed B.named
  have X : CallFix p m c cX3_loadFigures 6 s _ wsX3_loadFigures RX3 := ⟨B.exec, B.bytes, hml, hown, hts⟩
  have hx := B.exec
  have hb := B.bytes
  have hr := B.returns
  have hlocks := B.notSynchronized
  subst hsz
  have w : bSt G vwCl [] s [(h, .inr (3, [.ref qv, .ref qh])), (qv, .inl (G.2.1, 140, .inl v)), (bO, .inr (1, [.ref ql, .ref qe, .ref qn, .ref qt, .ref qc, .ref qd, .ref qf, .int (nI bn)])), (qc, .inl (G.2.1, 300, .inl bc)), (qd, .inl (G.2.1, 300, .inl bd)), (qf, .inl (G.2.1, 300, .inl bf))] s.heap [] := ⟨hP, va_S.rf, hD⟩
  have Z0 : bZ [] s := ⟨Z.1.narrow (fun q h => h.elim (fun h => nomatch h) Or.inr), Z.2.narrow (fun q h => h.elim (fun h => nomatch h) Or.inr)⟩
  have iX1 : ∀ w ∈ wsX10, w ∈ wsX3_loadFigures := by decide +kernel
  have iX3 : ∀ w ∈ wsX30, w ∈ wsX3_loadFigures := by decide +kernel
  have hl := lv_entry ([.ref h, .ref bO, .int (nI p0), .int d]) (n := 6) (Nat.le_of_ble_eq_true rfl)
  rw [lg_entry_eq]
  generalize (lg_sl ([.ref h, .ref bO, .int (nI p0), .int d]) ++ List.replicate (6 - (lg_sl ([.ref h, .ref bO, .int (nI p0), .int d])).length) Slot.unset).toArray = ls at hl ⊢
  have hl : lv_has ls 6 [(0, .ref h), (1, .ref bO), (2, .int (nI p0)), (3, .int d)] := hl
  refine lv_aload_n hx hb dX3_loadFigures_0 rfl (lv_at hl 0 rfl) ?_
  refine b_get X E w 0 rfl rfl 0 (by decide) iX3 (by decide +kernel) rfl rfl dX3_loadFigures_1 ?_
  refine lv_ldc (v := MIS) hx hb hown (hts (.constant RX3 19 (-2000000001)) (by decide +kernel)) dX3_loadFigures_4 ?_
  have w := b_wide [qv] b_nil w
  refine b_callv w (va_runS (As := [.ref qv, .int MIS]) (rest := []) X (c_J7_fill_53178 l hl0 G _ (q := qv) (x := MIS) (n := 140) (f := v) (hn := (by first | assumption | omega))) (va_cwS 2 hts gX3_loadFigures_J7_fill_53178 rfl rfl rfl (by decide +kernel) ⟨Nat.le_of_ble_eq_true rfl, Nat.le_of_ble_eq_true rfl⟩) ⟨b_blind, (fun U9 hU9 hW9 => ⟨rfl, b_pre E Z w [1] (by decide) rfl (b_subA [0] rfl) U9 hU9 hW9⟩)⟩ rfl rfl hl.1 rfl (lv_room (Nat.le_of_ble_eq_true rfl)) dX3_loadFigures_6 ⟨Nat.le_of_ble_eq_true rfl, Nat.le_of_ble_eq_true rfl⟩) (b_subA [0] rfl) [1] (fun _ => rfl) rfl (fun u6_8 H locs hr6_8 w => ?_)
  have w : bSt G vwCl [qv] s [(h, .inr (3, [.ref qv, .ref qh])), (qv, .inl (G.2.1, 140, .inl (fillF v MIS 140))), (bO, .inr (1, [.ref ql, .ref qe, .ref qn, .ref qt, .ref qc, .ref qd, .ref qf, .int (nI bn)])), (qc, .inl (G.2.1, 300, .inl bc)), (qd, .inl (G.2.1, 300, .inl bd)), (qf, .inl (G.2.1, 300, .inl bf))] _ _ := w
  refine lv_iconst (v := nI 0) hx hb dX3_loadFigures_9 (by decide) ?_
  refine lv_istore (lv' := [(4, .int (nI 0)), (0, .ref h), (1, .ref bO), (2, .int (nI p0)), (3, .int d)]) hx hb dX3_loadFigures_10 hl (by decide) rfl (fun ls hl => ?_)
  refine b_loop (pc := 12) (st := []) (fun (fuel : Nat) (H : Heap) (locs : List Loc) (ls : Array Slot) => ∃ (k : Nat) (g : Nat → Int32), (k ≤ bn) ∧ (bn + 1 ≤ k + fuel) ∧ (∀ t, t < 140 → g t = fo bc bd bf (nI (140 * p0 + t)) d k) ∧ bSt G vwCl [qv] s [(h, .inr (3, [.ref qv, .ref qh])), (qv, .inl (G.2.1, 140, .inl g)), (bO, .inr (1, [.ref ql, .ref qe, .ref qn, .ref qt, .ref qc, .ref qd, .ref qf, .int (nI bn)])), (qc, .inl (G.2.1, 300, .inl bc)), (qd, .inl (G.2.1, 300, .inl bd)), (qf, .inl (G.2.1, 300, .inl bf))] H locs ∧ lv_has ls 6 [(0, .ref h), (1, .ref bO), (2, .int (nI p0)), (3, .int d), (4, .int (nI k))]) (fun H locs ls h9 => ?_) (fun fuel H locs ls hI ih12 => ?_) (bn + 1) ⟨0, fillF v MIS 140, (by omega), (by omega), fun t ht => by simp [fillF, ht, fo], w, lv_sub hl [1, 2, 3, 4, 0] rfl⟩
  · obtain ⟨k, g, hk, hf, hg, w, hl⟩ := h9
    omega
  · obtain ⟨k, g, hk, hf, hg, w, hl⟩ := hI
    refine lv_iload hx hb dX3_loadFigures_12 (lv_at hl 4 rfl) ?_
    refine lv_aload_n hx hb dX3_loadFigures_14 rfl (lv_at hl 1 rfl) ?_
    refine b_getN (host := "Figurehouse") X E w 2 rfl rfl 7 (by decide) iX1 (by decide +kernel) rfl rfl dX3_loadFigures_15 ?_
    refine lv_icmp_ge (tgt := 80) hx hb dX3_loadFigures_18 (by decide) (fun c_18_9 => ?_) (fun c_18_9 => ?_)
    · have q_18_10 : bn ≤ k := q_le (by omega) (by omega) c_18_9
      have hE : ∀ t, t < 140 → g t = fo bc bd bf (nI (140 * p0 + t)) d bn := by rw [← show k = bn by omega]; exact hg
      exact W.vret hx hb hr (fun t9 ht9 hW9 => ⟨⟨g, rfl, hE, by show va_P G.1 vwCl _ t9.heap; rw [ht9]; exact b_cg (rfl) (w.1.sub (ws' := [(qv, .inl (G.2.1, 140, .inl g))]) [1] rfl)⟩, w.2.1.F ht9⟩) w.2.1.2.2 dX3_loadFigures_80
    · have q_18_10 : k < bn := q_nle (by omega) (by omega) c_18_9
      refine lv_aload_n hx hb dX3_loadFigures_21 rfl (lv_at hl 1 rfl) ?_
      refine b_getN (host := "Figurehouse") X E w 2 rfl rfl 5 (by decide) iX1 (by decide +kernel) rfl rfl dX3_loadFigures_22 ?_
      refine lv_iload hx hb dX3_loadFigures_25 (lv_at hl 4 rfl) ?_
      refine b_iald X E w 4 rfl k rfl (by omega) (by first | decide | omega) dX3_loadFigures_27 ?_
      refine lv_iload_n hx hb dX3_loadFigures_28 rfl (lv_at hl 3 rfl) ?_
      refine lv_icmp_gt (tgt := 80) hx hb dX3_loadFigures_29 (by decide) (fun c_29_11 => ?_) (fun c_29_11 => ?_)
      · have hE : ∀ t, t < 140 → g t = fo bc bd bf (nI (140 * p0 + t)) d bn := fun t ht => (hg t ht).trans (fo_sorted (by omega) (fun j h1 h2 => i_lt_trans c_29_11 (hbd k j h1 h2))).symm
        exact W.vret hx hb hr (fun t9 ht9 hW9 => ⟨⟨g, rfl, hE, by show va_P G.1 vwCl _ t9.heap; rw [ht9]; exact b_cg (rfl) (w.1.sub (ws' := [(qv, .inl (G.2.1, 140, .inl g))]) [1] rfl)⟩, w.2.1.F ht9⟩) w.2.1.2.2 dX3_loadFigures_80
      · have c29 := c_29_11
        obtain ⟨c9, hc9, ec9⟩ := hbc k (by omega)
        refine lv_aload_n hx hb dX3_loadFigures_32 rfl (lv_at hl 1 rfl) ?_
        refine b_getN (host := "Figurehouse") X E w 2 rfl rfl 4 (by decide) iX1 (by decide +kernel) rfl rfl dX3_loadFigures_33 ?_
        refine lv_iload hx hb dX3_loadFigures_36 (lv_at hl 4 rfl) ?_
        refine b_iald X E w 3 rfl k rfl (by omega) (by first | decide | omega) dX3_loadFigures_38 ?_
        refine b_tp (show bc k = nI c9 from ec9) ?_
        refine lv_iload_n hx hb dX3_loadFigures_39 rfl (lv_at hl 2 rfl) ?_
        refine lv_sipush (v := nI 140) hx hb dX3_loadFigures_40 (by decide) ?_
        refine lv_imul hx hb dX3_loadFigures_43 ?_
        refine b_tp (show (nI p0) * (nI 140) = nI (140 * p0) from mulc p0 140) ?_
        refine lv_isub hx hb dX3_loadFigures_44 ?_
        refine lv_istore (lv' := [(5, .int ((nI c9) - (nI (140 * p0)))), (0, .ref h), (1, .ref bO), (2, .int (nI p0)), (3, .int d), (4, .int (nI k))]) hx hb dX3_loadFigures_45 hl (by decide) rfl (fun ls hl => ?_)
        refine lv_iload hx hb dX3_loadFigures_47 (lv_at hl 0 rfl) ?_
        refine lv_if_lt (tgt := 74) hx hb dX3_loadFigures_49 (by decide) (fun c_49_12 => ?_) (fun c_49_12 => ?_)
        · have hgn := ld_skip hg ec9 (by omega) hp (Or.inl (sub_lt0 (by omega) (by omega) c_49_12))
          refine lv_iinc (v := nI (k + 1)) (lv' := [(4, .int (nI (k + 1))), (5, .int ((nI c9) - (nI (140 * p0)))), (0, .ref h), (1, .ref bO), (2, .int (nI p0)), (3, .int d)]) hx hb dX3_loadFigures_74 hl (k := 5) rfl (nI_add k 1) (by decide) rfl (fun ls hl => ?_)
          refine lv_goto (tgt := 12) hx hb dX3_loadFigures_77 (by decide) ?_
          exact ih12 _ _ _ ⟨k + 1, g, (by omega), (by omega), hgn, w, lv_sub hl [2, 3, 4, 5, 0] rfl⟩
        · have hle := sub_ge0 (by omega) (by omega) c_49_12
          rw [pk_sub hle] at hl
          have hl : lv_has ls 6 [(5, .int (nI (c9 - 140 * p0))), (0, .ref h), (1, .ref bO), (2, .int (nI p0)), (3, .int d), (4, .int (nI k))] := hl
          refine lv_iload hx hb dX3_loadFigures_52 (lv_at hl 0 rfl) ?_
          refine lv_sipush (v := nI 140) hx hb dX3_loadFigures_54 (by decide) ?_
          refine lv_icmp_ge (tgt := 74) hx hb dX3_loadFigures_57 (by decide) (fun c_57_13 => ?_) (fun c_57_13 => ?_)
          · have q_57_14 : 140 ≤ c9 - 140 * p0 := q_le (by omega) (by omega) c_57_13
            have hgn := ld_skip hg ec9 (by omega) hp (Or.inr q_57_14)
            refine lv_iinc (v := nI (k + 1)) (lv' := [(4, .int (nI (k + 1))), (5, .int (nI (c9 - 140 * p0))), (0, .ref h), (1, .ref bO), (2, .int (nI p0)), (3, .int d)]) hx hb dX3_loadFigures_74 hl (k := 5) rfl (nI_add k 1) (by decide) rfl (fun ls hl => ?_)
            refine lv_goto (tgt := 12) hx hb dX3_loadFigures_77 (by decide) ?_
            exact ih12 _ _ _ ⟨k + 1, g, (by omega), (by omega), hgn, w, lv_sub hl [2, 3, 4, 5, 0] rfl⟩
          · have q_57_14 : c9 - 140 * p0 < 140 := q_nle (by omega) (by omega) c_57_13
            have hgn := ld_put hg ec9 (by omega) hp hle c29
            refine lv_aload_n hx hb dX3_loadFigures_60 rfl (lv_at hl 1 rfl) ?_
            refine b_get X E w 0 rfl rfl 0 (by decide) iX3 (by decide +kernel) rfl rfl dX3_loadFigures_61 ?_
            refine lv_iload hx hb dX3_loadFigures_64 (lv_at hl 0 rfl) ?_
            refine lv_aload_n hx hb dX3_loadFigures_66 rfl (lv_at hl 2 rfl) ?_
            refine b_getN (host := "Figurehouse") X E w 2 rfl rfl 6 (by decide) iX1 (by decide +kernel) rfl rfl dX3_loadFigures_67 ?_
            refine lv_iload hx hb dX3_loadFigures_70 (lv_at hl 5 rfl) ?_
            refine b_iald X E w 5 rfl k rfl (by omega) (by first | decide | omega) dX3_loadFigures_72 ?_
            refine b_iast X E w (Or.inl (List.mem_of_getElem? (i := 0) rfl)) 1 rfl (c9 - 140 * p0) rfl (by omega) (by first | decide | omega) dX3_loadFigures_73 (fun H locs w => ?_)
            have w : bSt G vwCl [qv] s [(h, .inr (3, [.ref qv, .ref qh])), (qv, .inl (G.2.1, 140, .inl (upd g (c9 - 140 * p0) (bf k)))), (bO, .inr (1, [.ref ql, .ref qe, .ref qn, .ref qt, .ref qc, .ref qd, .ref qf, .int (nI bn)])), (qc, .inl (G.2.1, 300, .inl bc)), (qd, .inl (G.2.1, 300, .inl bd)), (qf, .inl (G.2.1, 300, .inl bf))] _ _ := w
            refine lv_iinc (v := nI (k + 1)) (lv' := [(4, .int (nI (k + 1))), (5, .int (nI (c9 - 140 * p0))), (0, .ref h), (1, .ref bO), (2, .int (nI p0)), (3, .int d)]) hx hb dX3_loadFigures_74 hl (k := 5) rfl (nI_add k 1) (by decide) rfl (fun ls hl => ?_)
            refine lv_goto (tgt := 12) hx hb dX3_loadFigures_77 (by decide) ?_
            exact ih12 _ _ _ ⟨k + 1, upd g (c9 - 140 * p0) (bf k), (by omega), (by omega), hgn, w, lv_sub hl [2, 3, 4, 5, 0] rfl⟩
set_option maxHeartbeats 4000000 in
set_option maxRecDepth 100000 in
theorem c_X3_load (l : Launch) (hl0 : l.stackTraces = false) (G : bG) (sz : Nat) (h qv qh : Nat) (v : Nat → Int32) (bO ql qe qn qt qc qd qf bn : Nat) (bc bd bf : Nat → Int32) (tA oA nA : Nat) (fA : Nat → Int32) (tJ oJ nJ : Nat) (fJ : Nat → Int32) (p0 td : Nat) (d : Int32) (hnA : nA ≤ 14) (hnJ : nJ ≤ 10) (hTA : TI fA nA) (hTJ : TI fJ nJ) (hbn : bn ≤ 300) (hp : p0 < 12) (hbk : bOk nA nJ bn td bc bd) : Met l yX3_load wsX3_load ({ frames := 2, cells := 0, slots := 0, locals := 50 }) (va_Pc [.ref h, .ref bO, .int (nI p0), .int d, .ref tA, .ref tJ] (bPre G vwCl bNW bSW sz [(h, .inr (3, [.ref qv, .ref qh])), (qv, .inl (G.2.1, 140, .inl v)), (bO, .inr (1, [.ref ql, .ref qe, .ref qn, .ref qt, .ref qc, .ref qd, .ref qf, .int (nI bn)])), (qc, .inl (G.2.1, 300, .inl bc)), (qd, .inl (G.2.1, 300, .inl bd)), (qf, .inl (G.2.1, 300, .inl bf)), (tA, .inr (4, [.ref oA, .int (nI 10), .int (nI nA)])), (oA, .inl (G.2.1, 14, .inl fA)), (tJ, .inr (4, [.ref oJ, .int (nI 1), .int (nI nJ)])), (oJ, .inl (G.2.1, 10, .inl fJ))] [qv])) (va_Qv (fun (u : Nat → Int32) => Fx (figs bc bd bf bn p0 d) fA nA fJ nJ u ∧ vOut nA nJ u) (fun (u : Nat → Int32) (tS : State) => va_P G.1 vwCl [(qv, .inl (G.2.1, 140, .inl u))] tS.heap) (Aw [qv] sz)) 0 0 (Aw [qv] sz) := by
  refine Met.ofW (cc := cX3_load) (maxL := 9) (ret := none) (by decide) rfl ?_
  intro p e s m args below meth c s₁ B hml hv
  obtain ⟨rfl, hsz, hP, hD, E, Z⟩ := hv
  have hts := atoms_spec (ws := wsX3_load) B.pre
  have hown : s.vm.findClass RX3 = some m.cls := findClass_of_methodNamed B.named
  have X : CallFix p m c cX3_load 9 s _ wsX3_load RX3 := ⟨B.exec, B.bytes, hml, hown, hts⟩
  have hx := B.exec
  have hb := B.bytes
  have hr := B.returns
  have hlocks := B.notSynchronized
  subst hsz
  have w : bSt G vwCl [] s [(h, .inr (3, [.ref qv, .ref qh])), (qv, .inl (G.2.1, 140, .inl v)), (bO, .inr (1, [.ref ql, .ref qe, .ref qn, .ref qt, .ref qc, .ref qd, .ref qf, .int (nI bn)])), (qc, .inl (G.2.1, 300, .inl bc)), (qd, .inl (G.2.1, 300, .inl bd)), (qf, .inl (G.2.1, 300, .inl bf)), (tA, .inr (4, [.ref oA, .int (nI 10), .int (nI nA)])), (oA, .inl (G.2.1, 14, .inl fA)), (tJ, .inr (4, [.ref oJ, .int (nI 1), .int (nI nJ)])), (oJ, .inl (G.2.1, 10, .inl fJ))] s.heap [] := ⟨hP, va_S.rf, hD⟩
  have Z0 : bZ [] s := ⟨Z.1.narrow (fun q h => h.elim (fun h => nomatch h) Or.inr), Z.2.narrow (fun q h => h.elim (fun h => nomatch h) Or.inr)⟩
  have iX3 : ∀ w ∈ wsX30, w ∈ wsX3_load := by decide +kernel
  have iX4 : ∀ w ∈ wsX40, w ∈ wsX3_load := by decide +kernel
  have hl := lv_entry ([.ref h, .ref bO, .int (nI p0), .int d, .ref tA, .ref tJ]) (n := 9) (Nat.le_of_ble_eq_true rfl)
  rw [lg_entry_eq]
  generalize (lg_sl ([.ref h, .ref bO, .int (nI p0), .int d, .ref tA, .ref tJ]) ++ List.replicate (9 - (lg_sl ([.ref h, .ref bO, .int (nI p0), .int d, .ref tA, .ref tJ])).length) Slot.unset).toArray = ls at hl ⊢
  have hl : lv_has ls 9 [(0, .ref h), (1, .ref bO), (2, .int (nI p0)), (3, .int d), (4, .ref tA), (5, .ref tJ)] := hl
  refine lv_aload_n hx hb dX3_load_0 rfl (lv_at hl 0 rfl) ?_
  refine lv_aload_n hx hb dX3_load_1 rfl (lv_at hl 1 rfl) ?_
  refine lv_iload_n hx hb dX3_load_2 rfl (lv_at hl 2 rfl) ?_
  refine lv_iload_n hx hb dX3_load_3 rfl (lv_at hl 3 rfl) ?_
  have w := b_wide [qv] b_nil w
  refine b_callv w (va_runV (As := [.ref bO, .int (nI p0), .int d]) (rest := []) X (c_X3_loadFigures l hl0 G _ (h := h) (bO := bO) (p0 := p0) (d := d) (qv := qv) (qh := qh) (v := v) (ql := ql) (qe := qe) (qn := qn) (qt := qt) (qc := qc) (qd := qd) (qf := qf) (bn := bn) (bc := bc) (bd := bd) (bf := bf) (hbn := (by first | assumption | omega)) (hp := (by first | assumption | omega)) (hbc := (fun j hj => bOk_c hbk hnA hnJ hj)) (hbd := hbk.2.1)) (cwV 3 hts gX3_load_X3_loadFigures rfl rfl rfl (by decide +kernel) ⟨Nat.le_of_ble_eq_true rfl, Nat.le_of_ble_eq_true rfl⟩) ⟨b_blind, b_recv E w (ci := 3) (q0 := 0) rfl rfl, (fun U9 hU9 hW9 => ⟨rfl, b_pre E Z w [0, 1, 2, 3, 4, 5] (by decide) rfl (b_subA [0] rfl) U9 hU9 hW9⟩)⟩ rfl rfl hl.1 rfl (lv_room (Nat.le_of_ble_eq_true rfl)) dX3_load_4 ⟨Nat.le_of_ble_eq_true rfl, Nat.le_of_ble_eq_true rfl⟩) (b_subA [0] rfl) [1] (fun _ => rfl) rfl (fun u4_10 H locs hr4_10 w => ?_)
  have w : bSt G vwCl [qv] s [(h, .inr (3, [.ref qv, .ref qh])), (qv, .inl (G.2.1, 140, .inl u4_10)), (bO, .inr (1, [.ref ql, .ref qe, .ref qn, .ref qt, .ref qc, .ref qd, .ref qf, .int (nI bn)])), (qc, .inl (G.2.1, 300, .inl bc)), (qd, .inl (G.2.1, 300, .inl bd)), (qf, .inl (G.2.1, 300, .inl bf)), (tA, .inr (4, [.ref oA, .int (nI 10), .int (nI nA)])), (oA, .inl (G.2.1, 14, .inl fA)), (tJ, .inr (4, [.ref oJ, .int (nI 1), .int (nI nJ)])), (oJ, .inl (G.2.1, 10, .inl fJ))] _ _ := w
  have hu0 := hr4_10
  refine lv_aload hx hb dX3_load_7 (lv_at hl 4 rfl) ?_
  refine b_getN (host := "Figurehouse") X E w 6 rfl rfl 2 (by decide) iX4 (by decide +kernel) rfl rfl dX3_load_9 ?_
  refine lv_iconst (v := nI 1) hx hb dX3_load_12 (by decide) ?_
  refine lv_isub hx hb dX3_load_13 ?_
  refine lv_istore (lv' := [(6, .int ((nI nA) - (nI 1))), (0, .ref h), (1, .ref bO), (2, .int (nI p0)), (3, .int d), (4, .ref tA), (5, .ref tJ)]) hx hb dX3_load_14 hl (by decide) rfl (fun ls hl => ?_)
  refine b_loop (pc := 16) (st := []) (fun (fuel : Nat) (H : Heap) (locs : List Loc) (ls : Array Slot) => ∃ (A1 : Nat) (g : Nat → Int32), (A1 ≤ nA) ∧ (A1 + 1 ≤ fuel) ∧ (Pz (figs bc bd bf bn p0 d) fA nA fJ nJ A1 0 g) ∧ (∀ a i, a < A1 → i < nJ → g (10 * a + i) = (figs bc bd bf bn p0 d) a i) ∧ (vOut nA nJ g) ∧ bSt G vwCl [qv] s [(h, .inr (3, [.ref qv, .ref qh])), (qv, .inl (G.2.1, 140, .inl g)), (bO, .inr (1, [.ref ql, .ref qe, .ref qn, .ref qt, .ref qc, .ref qd, .ref qf, .int (nI bn)])), (qc, .inl (G.2.1, 300, .inl bc)), (qd, .inl (G.2.1, 300, .inl bd)), (qf, .inl (G.2.1, 300, .inl bf)), (tA, .inr (4, [.ref oA, .int (nI 10), .int (nI nA)])), (oA, .inl (G.2.1, 14, .inl fA)), (tJ, .inr (4, [.ref oJ, .int (nI 1), .int (nI nJ)])), (oJ, .inl (G.2.1, 10, .inl fJ))] H locs ∧ lv_has ls 9 [(0, .ref h), (1, .ref bO), (2, .int (nI p0)), (3, .int d), (4, .ref tA), (5, .ref tJ), (6, .int ((nI A1) - (nI 1)))]) (fun H locs ls h9 => ?_) (fun fuel H locs ls hI ih16 => ?_) (nA + 1) ⟨nA, u4_10, (by omega), (by omega), Pz_top, fun a i h1 h2 => hu0 _ (by omega), ld_out hbk hnA hnJ hp hu0, w, lv_sub hl [1, 2, 3, 4, 5, 6, 0] rfl⟩
  · obtain ⟨A1, g, hA1, hf, hz, hun, hout, w, hl⟩ := h9
    omega
  · obtain ⟨A1, g, hA1, hf, hz, hun, hout, w, hl⟩ := hI
    refine lv_iload hx hb dX3_load_16 (lv_at hl 6 rfl) ?_
    refine lv_if_lt (tgt := 114) hx hb dX3_load_18 (by decide) (fun c_18_11 => ?_) (fun c_18_11 => ?_)
    · have hm0 := pred_0 (by omega) c_18_11
      subst hm0
      exact W.vret hx hb hr (fun t9 ht9 hW9 => ⟨⟨g, rfl, ⟨hz, hout⟩, by show va_P G.1 vwCl _ t9.heap; rw [ht9]; exact b_cg (rfl) (w.1.sub (ws' := [(qv, .inl (G.2.1, 140, .inl g))]) [1] rfl)⟩, w.2.1.F ht9⟩) w.2.1.2.2 dX3_load_114
    · obtain ⟨a0, rfl⟩ := pred_s (by omega) c_18_11
      rw [pred_e] at hl
      have hl : lv_has ls 9 [(0, .ref h), (1, .ref bO), (2, .int (nI p0)), (3, .int d), (4, .ref tA), (5, .ref tJ), (6, .int (nI a0))] := hl
      refine lv_aload hx hb dX3_load_21 (lv_at hl 5 rfl) ?_
      refine b_getN (host := "Figurehouse") X E w 8 rfl rfl 2 (by decide) iX4 (by decide +kernel) rfl rfl dX3_load_23 ?_
      refine lv_iconst (v := nI 1) hx hb dX3_load_26 (by decide) ?_
      refine lv_isub hx hb dX3_load_27 ?_
      refine lv_istore (lv' := [(7, .int ((nI nJ) - (nI 1))), (0, .ref h), (1, .ref bO), (2, .int (nI p0)), (3, .int d), (4, .ref tA), (5, .ref tJ), (6, .int (nI a0))]) hx hb dX3_load_28 hl (by decide) rfl (fun ls hl => ?_)
      refine b_loop (pc := 30) (st := []) (fun (fuel : Nat) (H : Heap) (locs : List Loc) (ls : Array Slot) => ∃ (J1 : Nat) (g1 : Nat → Int32), (J1 ≤ nJ) ∧ (J1 + 1 ≤ fuel) ∧ (Pz (figs bc bd bf bn p0 d) fA nA fJ nJ a0 J1 g1) ∧ (∀ a i, a < nA → i < nJ → (a < a0 ∨ (a = a0 ∧ i < J1)) → g1 (10 * a + i) = (figs bc bd bf bn p0 d) a i) ∧ (vOut nA nJ g1) ∧ bSt G vwCl [qv] s [(h, .inr (3, [.ref qv, .ref qh])), (qv, .inl (G.2.1, 140, .inl g1)), (bO, .inr (1, [.ref ql, .ref qe, .ref qn, .ref qt, .ref qc, .ref qd, .ref qf, .int (nI bn)])), (qc, .inl (G.2.1, 300, .inl bc)), (qd, .inl (G.2.1, 300, .inl bd)), (qf, .inl (G.2.1, 300, .inl bf)), (tA, .inr (4, [.ref oA, .int (nI 10), .int (nI nA)])), (oA, .inl (G.2.1, 14, .inl fA)), (tJ, .inr (4, [.ref oJ, .int (nI 1), .int (nI nJ)])), (oJ, .inl (G.2.1, 10, .inl fJ))] H locs ∧ lv_has ls 9 [(0, .ref h), (1, .ref bO), (2, .int (nI p0)), (3, .int d), (4, .ref tA), (5, .ref tJ), (6, .int (nI a0)), (7, .int ((nI J1) - (nI 1)))]) (fun H locs ls h9 => ?_) (fun fuel H locs ls hI ih30 => ?_) (nJ + 1) ⟨nJ, g, (by omega), (by omega), Pz_row hz, fun a i h1 h2 h3 => hun a i (by omega) h2, hout, w, lv_sub hl [1, 2, 3, 4, 5, 6, 7, 0] rfl⟩
      · obtain ⟨J1, g1, hJ1, hfj, hz1, hun1, hout1, w, hl⟩ := h9
        omega
      · obtain ⟨J1, g1, hJ1, hfj, hz1, hun1, hout1, w, hl⟩ := hI
        refine lv_iload hx hb dX3_load_30 (lv_at hl 7 rfl) ?_
        refine lv_if_lt (tgt := 108) hx hb dX3_load_32 (by decide) (fun c_32_12 => ?_) (fun c_32_12 => ?_)
        · have hm1 := pred_0 (by omega) c_32_12
          subst hm1
          refine lv_iinc (v := (nI a0) - (nI 1)) (lv' := [(6, .int ((nI a0) - (nI 1))), (0, .ref h), (1, .ref bO), (2, .int (nI p0)), (3, .int d), (4, .ref tA), (5, .ref tJ), (7, .int ((nI (0)) - (nI 1)))]) hx hb dX3_load_108 hl (k := 6) rfl (dec_i a0) (by decide) rfl (fun ls hl => ?_)
          refine lv_goto (tgt := 16) hx hb dX3_load_111 (by decide) ?_
          exact ih16 _ _ _ ⟨a0, g1, (by omega), (by omega), hz1, fun a i h1 h2 => hun1 a i (by omega) h2 (Or.inl h1), hout1, w, lv_sub hl [1, 2, 3, 4, 5, 6, 0] rfl⟩
        · obtain ⟨i0, rfl⟩ := pred_s (by omega) c_32_12
          rw [pred_e] at hl
          have hx0 := hun1 a0 i0 (by omega) (by omega) (Or.inr ⟨rfl, by omega⟩)
          have hl : lv_has ls 9 [(0, .ref h), (1, .ref bO), (2, .int (nI p0)), (3, .int d), (4, .ref tA), (5, .ref tJ), (6, .int (nI a0)), (7, .int (nI i0))] := hl
          refine lv_iload hx hb dX3_load_35 (lv_at hl 6 rfl) ?_
          refine lv_iload hx hb dX3_load_37 (lv_at hl 7 rfl) ?_
          refine b_calli w (va_runSN (As := [.int (nI a0), .int (nI i0)]) (rest := []) X (c_X5_slotOf l hl0 G _ (a := a0) (i := i0) ) ⟨va_cnB 2 hts gX3_load_X5_slotOf_n30 rfl rfl rfl (E.2.1 (.methodLinkNest RX3 30 yX5_slotOf "Figurehouse") (by decide +kernel)).2 (hts (.initialized RX5) (by decide +kernel)) (by decide +kernel) ⟨Nat.le_of_ble_eq_true rfl, Nat.le_of_ble_eq_true rfl⟩, hts (.static yX5_slotOf) (by decide +kernel), trivial⟩ ⟨b_blind, (fun U9 hU9 hW9 => ⟨rfl, b_pre E Z w [] (by decide) rfl b_nil U9 hU9 hW9⟩)⟩ rfl rfl hl.1 rfl (lv_room (Nat.le_of_ble_eq_true rfl)) dX3_load_39 ⟨Nat.le_of_ble_eq_true rfl, Nat.le_of_ble_eq_true rfl⟩) b_nil [] (fun _ => rfl) rfl (fun r39_13 u39_13 H locs hr39_13 w => ?_)
          have w : bSt G vwCl [qv] s [(h, .inr (3, [.ref qv, .ref qh])), (qv, .inl (G.2.1, 140, .inl g1)), (bO, .inr (1, [.ref ql, .ref qe, .ref qn, .ref qt, .ref qc, .ref qd, .ref qf, .int (nI bn)])), (qc, .inl (G.2.1, 300, .inl bc)), (qd, .inl (G.2.1, 300, .inl bd)), (qf, .inl (G.2.1, 300, .inl bf)), (tA, .inr (4, [.ref oA, .int (nI 10), .int (nI nA)])), (oA, .inl (G.2.1, 14, .inl fA)), (tJ, .inr (4, [.ref oJ, .int (nI 1), .int (nI nJ)])), (oJ, .inl (G.2.1, 10, .inl fJ))] _ _ := w
          subst hr39_13
          refine lv_istore (lv' := [(8, .int (nI (10 * a0 + i0))), (0, .ref h), (1, .ref bO), (2, .int (nI p0)), (3, .int d), (4, .ref tA), (5, .ref tJ), (6, .int (nI a0)), (7, .int (nI i0))]) hx hb dX3_load_42 hl (by decide) rfl (fun ls hl => ?_)
          refine lv_aload_n hx hb dX3_load_44 rfl (lv_at hl 1 rfl) ?_
          refine b_get X E w 0 rfl rfl 0 (by decide) iX3 (by decide +kernel) rfl rfl dX3_load_45 ?_
          refine lv_iload hx hb dX3_load_48 (lv_at hl 0 rfl) ?_
          refine b_iald X E w 1 rfl (10 * a0 + i0) rfl (by omega) (by first | decide | omega) dX3_load_50 ?_
          refine lv_ldc (v := MIS) hx hb hown (hts (.constant RX3 19 (-2000000001)) (by decide +kernel)) dX3_load_51 ?_
          refine lv_icmp_ne (tgt := 73) hx hb dX3_load_53 (by decide) (fun c_53_14 => ?_) (fun c_53_14 => ?_)
          · have c53 := c_53_14
            refine lv_aload_n hx hb dX3_load_73 rfl (lv_at hl 1 rfl) ?_
            refine b_get X E w 0 rfl rfl 0 (by decide) iX3 (by decide +kernel) rfl rfl dX3_load_74 ?_
            refine lv_iload hx hb dX3_load_77 (lv_at hl 0 rfl) ?_
            refine b_iald X E w 1 rfl (10 * a0 + i0) rfl (by omega) (by first | decide | omega) dX3_load_79 ?_
            refine lv_ldc (v := MIS) hx hb hown (hts (.constant RX3 19 (-2000000001)) (by decide +kernel)) dX3_load_80 ?_
            refine lv_icmp_ne (tgt := 102) hx hb dX3_load_82 (by decide) (fun c_82_15 => ?_) (fun c_82_15 => ?_)
            · have hn := ld_next hTA hTJ hnA hnJ (by omega) (by omega) hz1 hun1 hout1 (fun t _ => rfl) (fx1 hx0 c53)
              refine lv_iinc (v := (nI i0) - (nI 1)) (lv' := [(7, .int ((nI i0) - (nI 1))), (8, .int (nI (10 * a0 + i0))), (0, .ref h), (1, .ref bO), (2, .int (nI p0)), (3, .int d), (4, .ref tA), (5, .ref tJ), (6, .int (nI a0))]) hx hb dX3_load_102 hl (k := 8) rfl (dec_i i0) (by decide) rfl (fun ls hl => ?_)
              refine lv_goto (tgt := 30) hx hb dX3_load_105 (by decide) ?_
              exact ih30 _ _ _ ⟨i0, g1, (by omega), (by omega), hn.1, hn.2.1, hn.2.2, w, lv_sub hl [2, 3, 4, 5, 6, 7, 8, 0] rfl⟩
            · exact absurd c_82_15 c53
          · have c53 := c_53_14
            refine lv_aload_n hx hb dX3_load_56 rfl (lv_at hl 1 rfl) ?_
            refine b_get X E w 0 rfl rfl 0 (by decide) iX3 (by decide +kernel) rfl rfl dX3_load_57 ?_
            refine lv_iload hx hb dX3_load_60 (lv_at hl 0 rfl) ?_
            refine lv_aload_n hx hb dX3_load_62 rfl (lv_at hl 1 rfl) ?_
            refine lv_aload hx hb dX3_load_63 (lv_at hl 5 rfl) ?_
            refine lv_iload hx hb dX3_load_65 (lv_at hl 7 rfl) ?_
            refine lv_iload hx hb dX3_load_67 (lv_at hl 0 rfl) ?_
            refine b_calli w (va_runV (As := [.ref tA, .int (nI a0), .int (nI (10 * a0 + i0))]) (rest := [.int (nI (10 * a0 + i0)), .ref qv]) X (c_X3_sumRightIn l hl0 G _ (h := h) (th := tA) (hd := a0) (hs := 10 * a0 + i0) (qv := qv) (qh := qh) (v := g1) (o := oA) (str := 10) (n := nA) (cap := 14) (f := fA) (hh := (by first | assumption | omega)) (hn := (by first | assumption | omega)) (hc := (by first | assumption | omega)) (hT := (by first | assumption | omega)) (hsl := (fun k h1 h2 => by omega))) (cwV 3 hts gX3_load_X3_sumRightIn rfl rfl rfl (by decide +kernel) ⟨Nat.le_of_ble_eq_true rfl, Nat.le_of_ble_eq_true rfl⟩) ⟨b_blind, b_recv E w (ci := 3) (q0 := 0) rfl rfl, (fun U9 hU9 hW9 => ⟨rfl, b_pre E Z w [0, 1, 6, 7] (by decide) rfl b_nil U9 hU9 hW9⟩)⟩ rfl rfl hl.1 rfl (lv_room (Nat.le_of_ble_eq_true rfl)) dX3_load_69 ⟨Nat.le_of_ble_eq_true rfl, Nat.le_of_ble_eq_true rfl⟩) b_nil [] (fun _ => rfl) rfl (fun r69_16 u69_16 H locs hr69_16 w => ?_)
            have w : bSt G vwCl [qv] s [(h, .inr (3, [.ref qv, .ref qh])), (qv, .inl (G.2.1, 140, .inl g1)), (bO, .inr (1, [.ref ql, .ref qe, .ref qn, .ref qt, .ref qc, .ref qd, .ref qf, .int (nI bn)])), (qc, .inl (G.2.1, 300, .inl bc)), (qd, .inl (G.2.1, 300, .inl bd)), (qf, .inl (G.2.1, 300, .inl bf)), (tA, .inr (4, [.ref oA, .int (nI 10), .int (nI nA)])), (oA, .inl (G.2.1, 14, .inl fA)), (tJ, .inr (4, [.ref oJ, .int (nI 1), .int (nI nJ)])), (oJ, .inl (G.2.1, 10, .inl fJ))] _ _ := w
            subst hr69_16
            refine b_tp (show rSum (fun k => decide (fA k = nI a0)) (fun k => g1 ((10 * a0 + i0) + 10 * (k - a0))) nA = sA fA nA g1 a0 i0 from sumA_eq hTA (by omega) (by omega)) ?_
            refine b_iast X E w (Or.inl (List.mem_of_getElem? (i := 0) rfl)) 1 rfl (10 * a0 + i0) rfl (by omega) (by first | decide | omega) dX3_load_72 (fun H locs w => ?_)
            have w : bSt G vwCl [qv] s [(h, .inr (3, [.ref qv, .ref qh])), (qv, .inl (G.2.1, 140, .inl (upd g1 (10 * a0 + i0) (sA fA nA g1 a0 i0)))), (bO, .inr (1, [.ref ql, .ref qe, .ref qn, .ref qt, .ref qc, .ref qd, .ref qf, .int (nI bn)])), (qc, .inl (G.2.1, 300, .inl bc)), (qd, .inl (G.2.1, 300, .inl bd)), (qf, .inl (G.2.1, 300, .inl bf)), (tA, .inr (4, [.ref oA, .int (nI 10), .int (nI nA)])), (oA, .inl (G.2.1, 14, .inl fA)), (tJ, .inr (4, [.ref oJ, .int (nI 1), .int (nI nJ)])), (oJ, .inl (G.2.1, 10, .inl fJ))] _ _ := w
            refine lv_aload_n hx hb dX3_load_73 rfl (lv_at hl 1 rfl) ?_
            refine b_get X E w 0 rfl rfl 0 (by decide) iX3 (by decide +kernel) rfl rfl dX3_load_74 ?_
            refine lv_iload hx hb dX3_load_77 (lv_at hl 0 rfl) ?_
            refine b_iald X E w 1 rfl (10 * a0 + i0) rfl (by omega) (by first | decide | omega) dX3_load_79 ?_
            refine b_tp (show (upd g1 (10 * a0 + i0) (sA fA nA g1 a0 i0)) (10 * a0 + i0) = sA fA nA g1 a0 i0 from pk_us) ?_
            refine lv_ldc (v := MIS) hx hb hown (hts (.constant RX3 19 (-2000000001)) (by decide +kernel)) dX3_load_80 ?_
            refine lv_icmp_ne (tgt := 102) hx hb dX3_load_82 (by decide) (fun c_82_17 => ?_) (fun c_82_17 => ?_)
            · have hn := ld_next hTA hTJ hnA hnJ (by omega) (by omega) hz1 hun1 hout1 up1 (pk_us.trans (fx2 hx0 c53 c_82_17))
              refine lv_iinc (v := (nI i0) - (nI 1)) (lv' := [(7, .int ((nI i0) - (nI 1))), (8, .int (nI (10 * a0 + i0))), (0, .ref h), (1, .ref bO), (2, .int (nI p0)), (3, .int d), (4, .ref tA), (5, .ref tJ), (6, .int (nI a0))]) hx hb dX3_load_102 hl (k := 8) rfl (dec_i i0) (by decide) rfl (fun ls hl => ?_)
              refine lv_goto (tgt := 30) hx hb dX3_load_105 (by decide) ?_
              exact ih30 _ _ _ ⟨i0, upd g1 (10 * a0 + i0) (sA fA nA g1 a0 i0), (by omega), (by omega), hn.1, hn.2.1, hn.2.2, w, lv_sub hl [2, 3, 4, 5, 6, 7, 8, 0] rfl⟩
            · have hn := ld_next (v' := upd (upd g1 (10 * a0 + i0) (sA fA nA g1 a0 i0)) (10 * a0 + i0) (sJ fJ nJ g1 a0 i0)) hTA hTJ hnA hnJ (by omega) (by omega) hz1 hun1 hout1 up2 (pk_us.trans (fx3 hx0 c53 c_82_17))
              refine lv_aload_n hx hb dX3_load_85 rfl (lv_at hl 1 rfl) ?_
              refine b_get X E w 0 rfl rfl 0 (by decide) iX3 (by decide +kernel) rfl rfl dX3_load_86 ?_
              refine lv_iload hx hb dX3_load_89 (lv_at hl 0 rfl) ?_
              refine lv_aload_n hx hb dX3_load_91 rfl (lv_at hl 1 rfl) ?_
              refine lv_aload hx hb dX3_load_92 (lv_at hl 6 rfl) ?_
              refine lv_iload hx hb dX3_load_94 (lv_at hl 8 rfl) ?_
              refine lv_iload hx hb dX3_load_96 (lv_at hl 0 rfl) ?_
              refine b_calli w (va_runV (As := [.ref tJ, .int (nI i0), .int (nI (10 * a0 + i0))]) (rest := [.int (nI (10 * a0 + i0)), .ref qv]) X (c_X3_sumRightIn l hl0 G _ (h := h) (th := tJ) (hd := i0) (hs := 10 * a0 + i0) (qv := qv) (qh := qh) (v := upd g1 (10 * a0 + i0) (sA fA nA g1 a0 i0)) (o := oJ) (str := 1) (n := nJ) (cap := 10) (f := fJ) (hh := (by first | assumption | omega)) (hn := (by first | assumption | omega)) (hc := (by first | assumption | omega)) (hT := (by first | assumption | omega)) (hsl := (fun k h1 h2 => by omega))) (cwV 3 hts gX3_load_X3_sumRightIn rfl rfl rfl (by decide +kernel) ⟨Nat.le_of_ble_eq_true rfl, Nat.le_of_ble_eq_true rfl⟩) ⟨b_blind, b_recv E w (ci := 3) (q0 := 0) rfl rfl, (fun U9 hU9 hW9 => ⟨rfl, b_pre E Z w [0, 1, 8, 9] (by decide) rfl b_nil U9 hU9 hW9⟩)⟩ rfl rfl hl.1 rfl (lv_room (Nat.le_of_ble_eq_true rfl)) dX3_load_98 ⟨Nat.le_of_ble_eq_true rfl, Nat.le_of_ble_eq_true rfl⟩) b_nil [] (fun _ => rfl) rfl (fun r98_18 u98_18 H locs hr98_18 w => ?_)
              have w : bSt G vwCl [qv] s [(h, .inr (3, [.ref qv, .ref qh])), (qv, .inl (G.2.1, 140, .inl (upd g1 (10 * a0 + i0) (sA fA nA g1 a0 i0)))), (bO, .inr (1, [.ref ql, .ref qe, .ref qn, .ref qt, .ref qc, .ref qd, .ref qf, .int (nI bn)])), (qc, .inl (G.2.1, 300, .inl bc)), (qd, .inl (G.2.1, 300, .inl bd)), (qf, .inl (G.2.1, 300, .inl bf)), (tA, .inr (4, [.ref oA, .int (nI 10), .int (nI nA)])), (oA, .inl (G.2.1, 14, .inl fA)), (tJ, .inr (4, [.ref oJ, .int (nI 1), .int (nI nJ)])), (oJ, .inl (G.2.1, 10, .inl fJ))] _ _ := w
              subst hr98_18
              refine b_tp (show rSum (fun k => decide (fJ k = nI i0)) (fun k => (upd g1 (10 * a0 + i0) (sA fA nA g1 a0 i0)) ((10 * a0 + i0) + 1 * (k - i0))) nJ = sJ fJ nJ g1 a0 i0 from (sumJ_eq hTJ (by omega) (by omega)).trans (sJ_upd hTJ (by omega) (by omega))) ?_
              refine b_iast X E w (Or.inl (List.mem_of_getElem? (i := 0) rfl)) 1 rfl (10 * a0 + i0) rfl (by omega) (by first | decide | omega) dX3_load_101 (fun H locs w => ?_)
              have w : bSt G vwCl [qv] s [(h, .inr (3, [.ref qv, .ref qh])), (qv, .inl (G.2.1, 140, .inl (upd (upd g1 (10 * a0 + i0) (sA fA nA g1 a0 i0)) (10 * a0 + i0) (sJ fJ nJ g1 a0 i0)))), (bO, .inr (1, [.ref ql, .ref qe, .ref qn, .ref qt, .ref qc, .ref qd, .ref qf, .int (nI bn)])), (qc, .inl (G.2.1, 300, .inl bc)), (qd, .inl (G.2.1, 300, .inl bd)), (qf, .inl (G.2.1, 300, .inl bf)), (tA, .inr (4, [.ref oA, .int (nI 10), .int (nI nA)])), (oA, .inl (G.2.1, 14, .inl fA)), (tJ, .inr (4, [.ref oJ, .int (nI 1), .int (nI nJ)])), (oJ, .inl (G.2.1, 10, .inl fJ))] _ _ := w
              refine lv_iinc (v := (nI i0) - (nI 1)) (lv' := [(7, .int ((nI i0) - (nI 1))), (8, .int (nI (10 * a0 + i0))), (0, .ref h), (1, .ref bO), (2, .int (nI p0)), (3, .int d), (4, .ref tA), (5, .ref tJ), (6, .int (nI a0))]) hx hb dX3_load_102 hl (k := 8) rfl (dec_i i0) (by decide) rfl (fun ls hl => ?_)
              refine lv_goto (tgt := 30) hx hb dX3_load_105 (by decide) ?_
              exact ih30 _ _ _ ⟨i0, upd (upd g1 (10 * a0 + i0) (sA fA nA g1 a0 i0)) (10 * a0 + i0) (sJ fJ nJ g1 a0 i0), (by omega), (by omega), hn.1, hn.2.1, hn.2.2, w, lv_sub hl [2, 3, 4, 5, 6, 7, 8, 0] rfl⟩
