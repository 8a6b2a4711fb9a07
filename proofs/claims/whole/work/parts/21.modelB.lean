set_option maxHeartbeats 4000000 in
set_option maxRecDepth 100000 in
theorem c_X6_judges (l : Launch) (hl0 : l.stackTraces = false) (G : bG) (sz : Nat) (M yA yJ yg yw yc yv yr yC yD yF yS yV yH td nA nJ dn snt jd bn : Nat) (th : Int32) (fA : Nat → Int32) (on : Nat → Bool) (dw : Nat → Int32) (dc : Nat → Int32) (dv : Nat → Int32) (bc : Nat → Int32) (bd : Nat → Int32) (bf : Nat → Int32) (sd k c0 : Nat) (hnA : nA ≤ 14) (hTA : TI fA nA) (hbn : bn ≤ 300) (hs : sd < 4) (hk : k < 16) (hdc : dc k = nI c0) (hc0 : c0 < 1680) (ha0 : c0 % 140 / 10 < nA) : Met l yX6_judges wsX6_judges ({ frames := 1, cells := 0, slots := 0, locals := 24 }) (va_Pc [.ref M, .int (nI sd), .int (nI k)] (bPre G vwCl bNW bSW sz [(M, .inr (6, [.int (nI td), .int (nI nA), .int (nI nJ), .ref yA, .ref yJ, .ref yg, .int (nI dn), .ref yw, .ref yc, .ref yv, .int (nI snt), .int (nI jd), .ref yr, .int (nI bn), .ref yC, .ref yD, .ref yF, .ref yS, .ref yV, .ref yH, .int th])), (yA, .inl (G.2.1, 14, .inl fA)), (yg, .inl (G.2.2.1, 56, .inl (zB on))), (yw, .inl (G.2.1, 16, .inl dw)), (yc, .inl (G.2.1, 16, .inl dc)), (yv, .inl (G.2.1, 16, .inl dv)), (yC, .inl (G.2.1, 300, .inl bc)), (yD, .inl (G.2.1, 300, .inl bd)), (yF, .inl (G.2.1, 300, .inl bf))] [])) (va_Qi (fun (r : Int32) (_ : Unit) => r = jR (wkB fA (fun k => on (14 * sd + k)) nA (nI (c0 % 140 / 10))) (dw k) (dv k) (fo bc bd bf (nI c0) (nI td) bn)) (fun (_ : Unit) (tS : State) => va_P G.1 vwCl [] tS.heap) (Aw [] sz)) 0 0 (Aw [] sz) := by
  refine Met.ofW (cc := cX6_judges) (maxL := 6) (ret := (some .int)) (by decide) rfl ?_
  intro p e s m args below meth c s₁ B hml hv
  obtain ⟨rfl, hsz, hP, hD, E, Z⟩ := hv
  have hts := atoms_spec (ws := wsX6_judges) B.pre
  have hown : s.vm.findClass RX6 = some m.cls := findClass_of_methodNamed B.named
  have X : CallFix p m c cX6_judges 6 s _ wsX6_judges RX6 := ⟨B.exec, B.bytes, hml, hown, hts⟩
  have hx := B.exec
  have hb := B.bytes
  have hr := B.returns
  have hlocks := B.notSynchronized
  subst hsz
  have w : bSt G vwCl [] s [(M, .inr (6, [.int (nI td), .int (nI nA), .int (nI nJ), .ref yA, .ref yJ, .ref yg, .int (nI dn), .ref yw, .ref yc, .ref yv, .int (nI snt), .int (nI jd), .ref yr, .int (nI bn), .ref yC, .ref yD, .ref yF, .ref yS, .ref yV, .ref yH, .int th])), (yA, .inl (G.2.1, 14, .inl fA)), (yg, .inl (G.2.2.1, 56, .inl (zB on))), (yw, .inl (G.2.1, 16, .inl dw)), (yc, .inl (G.2.1, 16, .inl dc)), (yv, .inl (G.2.1, 16, .inl dv)), (yC, .inl (G.2.1, 300, .inl bc)), (yD, .inl (G.2.1, 300, .inl bd)), (yF, .inl (G.2.1, 300, .inl bf))] s.heap [] := ⟨hP, va_S.rf, hD⟩
  have Z0 : bZ [] s := ⟨Z.1.narrow (fun q h => h.elim (fun h => nomatch h) Or.inr), Z.2.narrow (fun q h => h.elim (fun h => nomatch h) Or.inr)⟩
  have iX6 : ∀ w ∈ wsX60, w ∈ wsX6_judges := by decide +kernel
  have hl := lv_entry ([.ref M, .int (nI sd), .int (nI k)]) (n := 6) (Nat.le_of_ble_eq_true rfl)
  rw [lg_entry_eq]
  generalize (lg_sl ([.ref M, .int (nI sd), .int (nI k)]) ++ List.replicate (6 - (lg_sl ([.ref M, .int (nI sd), .int (nI k)])).length) Slot.unset).toArray = ls at hl ⊢
  have hl : lv_has ls 6 [(0, .ref M), (1, .int (nI sd)), (2, .int (nI k))] := hl
  refine lv_aload_n hx hb dX6_judges_0 rfl (lv_at hl 0 rfl) ?_
  refine b_get X E w 0 rfl rfl 8 (by decide) iX6 (by decide +kernel) rfl rfl dX6_judges_1 ?_
  refine lv_iload_n hx hb dX6_judges_4 rfl (lv_at hl 2 rfl) ?_
  refine b_iald X E w 4 rfl k rfl (by omega) (by first | decide | omega) dX6_judges_5 ?_
  refine b_tp (show dc k = nI c0 from hdc) ?_
  refine lv_istore_n (lv' := [(3, .int (nI c0)), (0, .ref M), (1, .int (nI sd)), (2, .int (nI k))]) hx hb dX6_judges_6 rfl hl (by decide) rfl (fun ls hl => ?_)
  refine lv_aload_n hx hb dX6_judges_7 rfl (lv_at hl 1 rfl) ?_
  refine b_get X E w 0 rfl rfl 7 (by decide) iX6 (by decide +kernel) rfl rfl dX6_judges_8 ?_
  refine lv_iload_n hx hb dX6_judges_11 rfl (lv_at hl 3 rfl) ?_
  refine b_iald X E w 3 rfl k rfl (by omega) (by first | decide | omega) dX6_judges_12 ?_
  refine lv_istore (lv' := [(4, .int (dw k)), (3, .int (nI c0)), (0, .ref M), (1, .int (nI sd)), (2, .int (nI k))]) hx hb dX6_judges_13 hl (by decide) rfl (fun ls hl => ?_)
  refine lv_aload_n hx hb dX6_judges_15 rfl (lv_at hl 2 rfl) ?_
  refine lv_iload_n hx hb dX6_judges_16 rfl (lv_at hl 1 rfl) ?_
  refine lv_aload_n hx hb dX6_judges_17 rfl (lv_at hl 2 rfl) ?_
  refine b_get X E w 0 rfl rfl 0 (by decide) iX6 (by decide +kernel) rfl rfl dX6_judges_18 ?_
  refine b_calli w (va_runV (As := [.int (nI c0), .int (nI td)]) (rest := []) X (c_X6_figureOn l hl0 G _ (M := M) (x := nI c0) (d := nI td) (td := td) (nA := nA) (nJ := nJ) (yA := yA) (yJ := yJ) (yg := yg) (dn := dn) (yw := yw) (yc := yc) (yv := yv) (snt := snt) (jd := jd) (yr := yr) (bn := bn) (yC := yC) (yD := yD) (yF := yF) (yS := yS) (yV := yV) (yH := yH) (th := th) (bc := bc) (bd := bd) (bf := bf) (hbn := (by first | assumption | omega))) (cwV 2 hts gX6_judges_X6_figureOn rfl rfl rfl (by decide +kernel) ⟨Nat.le_of_ble_eq_true rfl, Nat.le_of_ble_eq_true rfl⟩) ⟨b_blind, b_recv E w (ci := 6) (q0 := 0) rfl rfl, (fun U9 hU9 hW9 => ⟨rfl, b_pre E Z0 w [0, 6, 7, 8] (by decide) rfl b_nil U9 hU9 hW9⟩)⟩ rfl rfl hl.1 rfl (lv_room (Nat.le_of_ble_eq_true rfl)) dX6_judges_21 ⟨Nat.le_of_ble_eq_true rfl, Nat.le_of_ble_eq_true rfl⟩) b_nil [] (fun _ => rfl) rfl (fun r21_10 u21_10 H locs hr21_10 w => ?_)
  have w : bSt G vwCl [] s [(M, .inr (6, [.int (nI td), .int (nI nA), .int (nI nJ), .ref yA, .ref yJ, .ref yg, .int (nI dn), .ref yw, .ref yc, .ref yv, .int (nI snt), .int (nI jd), .ref yr, .int (nI bn), .ref yC, .ref yD, .ref yF, .ref yS, .ref yV, .ref yH, .int th])), (yA, .inl (G.2.1, 14, .inl fA)), (yg, .inl (G.2.2.1, 56, .inl (zB on))), (yw, .inl (G.2.1, 16, .inl dw)), (yc, .inl (G.2.1, 16, .inl dc)), (yv, .inl (G.2.1, 16, .inl dv)), (yC, .inl (G.2.1, 300, .inl bc)), (yD, .inl (G.2.1, 300, .inl bd)), (yF, .inl (G.2.1, 300, .inl bf))] _ _ := w
  subst hr21_10
  refine lv_istore (lv' := [(5, .int (fo bc bd bf (nI c0) (nI td) bn)), (4, .int (dw k)), (3, .int (nI c0)), (0, .ref M), (1, .int (nI sd)), (2, .int (nI k))]) hx hb dX6_judges_24 hl (by decide) rfl (fun ls hl => ?_)
  refine lv_aload_n hx hb dX6_judges_26 rfl (lv_at hl 3 rfl) ?_
  refine lv_iload_n hx hb dX6_judges_27 rfl (lv_at hl 4 rfl) ?_
  refine lv_iload_n hx hb dX6_judges_28 rfl (lv_at hl 2 rfl) ?_
  refine lv_sipush (v := nI 140) hx hb dX6_judges_29 (by decide) ?_
  refine lv_irem hx hb dX6_judges_32 (by decide) ?_
  refine b_tp (pk_rem (by omega) (by decide) (by decide)) ?_
  refine lv_bipush (v := nI 10) hx hb dX6_judges_33 (by decide) ?_
  refine lv_idiv hx hb dX6_judges_35 (by decide) ?_
  refine b_tp (show (nI (c0 % 140)) / (nI 10) = nI ((c0 % 140) / 10) from pk_div (by omega) (by decide) (by decide)) ?_
  refine b_calli w (va_runV (As := [.int (nI sd), .int (nI ((c0 % 140) / 10))]) (rest := []) X (c_X6_may l hl0 G _ (M := M) (sd := sd) (a := (c0 % 140) / 10) (td := td) (nA := nA) (nJ := nJ) (yA := yA) (yJ := yJ) (yg := yg) (dn := dn) (yw := yw) (yc := yc) (yv := yv) (snt := snt) (jd := jd) (yr := yr) (bn := bn) (yC := yC) (yD := yD) (yF := yF) (yS := yS) (yV := yV) (yH := yH) (th := th) (fA := fA) (on := on) (hnA := (by first | assumption | omega)) (hTA := (by first | assumption | omega)) (hs := (by first | assumption | omega)) (ha := (by first | assumption | omega))) (cwV 2 hts gX6_judges_X6_may rfl rfl rfl (by decide +kernel) ⟨Nat.le_of_ble_eq_true rfl, Nat.le_of_ble_eq_true rfl⟩) ⟨b_blind, b_recv E w (ci := 6) (q0 := 0) rfl rfl, (fun U9 hU9 hW9 => ⟨rfl, b_pre E Z0 w [0, 1, 2] (by decide) rfl b_nil U9 hU9 hW9⟩)⟩ rfl rfl hl.1 rfl (lv_room (Nat.le_of_ble_eq_true rfl)) dX6_judges_36 ⟨Nat.le_of_ble_eq_true rfl, Nat.le_of_ble_eq_true rfl⟩) b_nil [] (fun _ => rfl) rfl (fun r36_11 u36_11 H locs hr36_11 w => ?_)
  have w : bSt G vwCl [] s [(M, .inr (6, [.int (nI td), .int (nI nA), .int (nI nJ), .ref yA, .ref yJ, .ref yg, .int (nI dn), .ref yw, .ref yc, .ref yv, .int (nI snt), .int (nI jd), .ref yr, .int (nI bn), .ref yC, .ref yD, .ref yF, .ref yS, .ref yV, .ref yH, .int th])), (yA, .inl (G.2.1, 14, .inl fA)), (yg, .inl (G.2.2.1, 56, .inl (zB on))), (yw, .inl (G.2.1, 16, .inl dw)), (yc, .inl (G.2.1, 16, .inl dc)), (yv, .inl (G.2.1, 16, .inl dv)), (yC, .inl (G.2.1, 300, .inl bc)), (yD, .inl (G.2.1, 300, .inl bd)), (yF, .inl (G.2.1, 300, .inl bf))] _ _ := w
  subst hr36_11
  refine lv_if_ne (tgt := 44) hx hb dX6_judges_39 (by decide) (fun c_39_12 => ?_) (fun c_39_12 => ?_)
  · have q_39_13 : (wkB fA (fun k => on (14 * sd + k)) nA (nI ((c0 % 140) / 10))) = true := bI_n0.mp c_39_12
    refine lv_iload hx hb dX6_judges_44 (lv_at hl 1 rfl) ?_
    refine lv_if_ne (tgt := 62) hx hb dX6_judges_46 (by decide) (fun c_46_14 => ?_) (fun c_46_14 => ?_)
    · refine lv_iload hx hb dX6_judges_62 (lv_at hl 0 rfl) ?_
      refine lv_ldc (v := MIS) hx hb hown (hts (.constant RX6 86 (-2000000001)) (by decide +kernel)) dX6_judges_64 ?_
      refine lv_icmp_ne (tgt := 73) hx hb dX6_judges_66 (by decide) (fun c_66_15 => ?_) (fun c_66_15 => ?_)
      · have g66 := c_66_15
        refine lv_iload hx hb dX6_judges_73 (lv_at hl 1 rfl) ?_
        refine lv_iconst (v := nI 1) hx hb dX6_judges_75 (by decide) ?_
        refine lv_icmp_ne (tgt := 94) hx hb dX6_judges_76 (by decide) (fun c_76_16 => ?_) (fun c_76_16 => ?_)
        · refine lv_iconst (v := nI 0) hx hb dX6_judges_94 (by decide) ?_
          exact W.iret (v := nI 0) hx hb hr (fun t9 ht9 hW9 => ⟨⟨nI 0, (), rfl, by simp [jR, q_39_13, c_46_14, c_66_15, c_76_16, show ¬ nI 1 = 0 by decide], fun k q h => by cases k <;> cases h⟩, w.2.1.F ht9⟩) w.2.1.2.2 dX6_judges_95
        · refine lv_iload hx hb dX6_judges_79 (lv_at hl 0 rfl) ?_
          refine lv_aload_n hx hb dX6_judges_81 rfl (lv_at hl 3 rfl) ?_
          refine b_get X E w 0 rfl rfl 9 (by decide) iX6 (by decide +kernel) rfl rfl dX6_judges_82 ?_
          refine lv_iload_n hx hb dX6_judges_85 rfl (lv_at hl 5 rfl) ?_
          refine b_iald X E w 5 rfl k rfl (by omega) (by first | decide | omega) dX6_judges_86 ?_
          refine lv_icmp_ne (tgt := 94) hx hb dX6_judges_87 (by decide) (fun c_87_17 => ?_) (fun c_87_17 => ?_)
          · have g87 : ¬ dv k = fo bc bd bf (nI c0) (nI td) bn := fun h9 => c_87_17 h9.symm
            refine lv_iconst (v := nI 0) hx hb dX6_judges_94 (by decide) ?_
            exact W.iret (v := nI 0) hx hb hr (fun t9 ht9 hW9 => ⟨⟨nI 0, (), rfl, by simp [jR, q_39_13, c_46_14, c_66_15, c_76_16, c_87_17, g87, show ¬ nI 1 = 0 by decide], fun k q h => by cases k <;> cases h⟩, w.2.1.F ht9⟩) w.2.1.2.2 dX6_judges_95
          · have g87 : ¬ dv k = MIS := by rw [← c_87_17]; exact g66
            refine lv_iconst (v := nI 4) hx hb dX6_judges_90 (by decide) ?_
            refine lv_goto (tgt := 95) hx hb dX6_judges_91 (by decide) ?_
            exact W.iret (v := nI 4) hx hb hr (fun t9 ht9 hW9 => ⟨⟨nI 4, (), rfl, by simp [jR, q_39_13, c_46_14, c_66_15, c_76_16, c_87_17, g87, show ¬ nI 1 = 0 by decide], fun k q h => by cases k <;> cases h⟩, w.2.1.F ht9⟩) w.2.1.2.2 dX6_judges_95
      · have g66 := c_66_15
        refine lv_iconst (v := nI 3) hx hb dX6_judges_69 (by decide) ?_
        refine lv_goto (tgt := 95) hx hb dX6_judges_70 (by decide) ?_
        exact W.iret (v := nI 3) hx hb hr (fun t9 ht9 hW9 => ⟨⟨nI 3, (), rfl, by simp [jR, q_39_13, c_46_14, c_66_15, show ¬ nI 1 = 0 by decide], fun k q h => by cases k <;> cases h⟩, w.2.1.F ht9⟩) w.2.1.2.2 dX6_judges_95
    · refine lv_iload hx hb dX6_judges_49 (lv_at hl 0 rfl) ?_
      refine lv_ldc (v := MIS) hx hb hown (hts (.constant RX6 86 (-2000000001)) (by decide +kernel)) dX6_judges_51 ?_
      refine lv_icmp_eq (tgt := 60) hx hb dX6_judges_53 (by decide) (fun c_53_18 => ?_) (fun c_53_18 => ?_)
      · refine lv_iconst (v := nI 0) hx hb dX6_judges_60 (by decide) ?_
        exact W.iret (v := nI 0) hx hb hr (fun t9 ht9 hW9 => ⟨⟨nI 0, (), rfl, by simp [jR, q_39_13, c_46_14, c_53_18, show ¬ nI 1 = 0 by decide], fun k q h => by cases k <;> cases h⟩, w.2.1.F ht9⟩) w.2.1.2.2 dX6_judges_61
      · refine lv_iconst (v := nI 2) hx hb dX6_judges_56 (by decide) ?_
        refine lv_goto (tgt := 61) hx hb dX6_judges_57 (by decide) ?_
        exact W.iret (v := nI 2) hx hb hr (fun t9 ht9 hW9 => ⟨⟨nI 2, (), rfl, by simp [jR, q_39_13, c_46_14, c_53_18, show ¬ nI 1 = 0 by decide], fun k q h => by cases k <;> cases h⟩, w.2.1.F ht9⟩) w.2.1.2.2 dX6_judges_61
  · have q_39_13 : (wkB fA (fun k => on (14 * sd + k)) nA (nI ((c0 % 140) / 10))) = false := bI_0.mp c_39_12
    refine lv_iconst (v := nI 1) hx hb dX6_judges_42 (by decide) ?_
    exact W.iret (v := nI 1) hx hb hr (fun t9 ht9 hW9 => ⟨⟨nI 1, (), rfl, by simp [jR, q_39_13, show ¬ nI 1 = 0 by decide], fun k q h => by cases k <;> cases h⟩, w.2.1.F ht9⟩) w.2.1.2.2 dX6_judges_43
set_option maxHeartbeats 4000000 in
set_option maxRecDepth 100000 in
theorem c_X6_send (l : Launch) (hl0 : l.stackTraces = false) (G : bG) (sz : Nat) (M yA yJ yg yw yc yv yr yC yD yF yS yV yH td nA nJ dn snt jd bn : Nat) (th : Int32) (fA : Nat → Int32) (on : Nat → Bool) (dw : Nat → Int32) (dc : Nat → Int32) (dv : Nat → Int32) (bc : Nat → Int32) (bd : Nat → Int32) (bf : Nat → Int32) (rf : Nat → Int32) (x : Int32) (hnA : nA ≤ 14) (hTA : TI fA nA) (hdn : dn ≤ 16) (hbs : bn ≤ snt) (hst : snt ≤ 300) (hdc : ∀ k, k < dn → ∃ c, c < 1680 ∧ c % 140 / 10 < nA ∧ dc k = nI c) : Met l yX6_send wsX6_send ({ frames := 2, cells := 0, slots := 0, locals := 49 }) (va_Pc [.ref M, .int x] (bPre G vwCl bNW bSW sz [(M, .inr (6, [.int (nI td), .int (nI nA), .int (nI nJ), .ref yA, .ref yJ, .ref yg, .int (nI dn), .ref yw, .ref yc, .ref yv, .int (nI snt), .int (nI jd), .ref yr, .int (nI bn), .ref yC, .ref yD, .ref yF, .ref yS, .ref yV, .ref yH, .int th])), (yA, .inl (G.2.1, 14, .inl fA)), (yg, .inl (G.2.2.1, 56, .inl (zB on))), (yw, .inl (G.2.1, 16, .inl dw)), (yc, .inl (G.2.1, 16, .inl dc)), (yv, .inl (G.2.1, 16, .inl dv)), (yC, .inl (G.2.1, 300, .inl bc)), (yD, .inl (G.2.1, 300, .inl bd)), (yF, .inl (G.2.1, 300, .inl bf)), (yr, .inl (G.2.1, 16, .inl rf))] [M, yr, yC, yD, yF])) (va_Qi (fun (r : Int32) (_ : Unit) => r = gF (th2 (tHas 4 x) (decide (0 < dn ∧ snt + dn ≤ 300))) 0 (nI (mD (mRun (fun k => wkB fA (fun j => on (14 * cl x + j)) nA (nI (cl (dc k) % 140 / 10))) dw dv (fun k => cl (dc k)) (nI td) (0, rf, bn, bc, bd, bf) dn)))) (fun (_ : Unit) (tS : State) => va_P G.1 vwCl [(M, .inr (6, [.int (nI td), .int (nI nA), .int (nI nJ), .ref yA, .ref yJ, .ref yg, .int (nI (gN (th2 (tHas 4 x) (decide (0 < dn ∧ snt + dn ≤ 300))) dn 0)), .ref yw, .ref yc, .ref yv, .int (nI (gN (th2 (tHas 4 x) (decide (0 < dn ∧ snt + dn ≤ 300))) snt (snt + dn))), .int (nI (gN (th2 (tHas 4 x) (decide (0 < dn ∧ snt + dn ≤ 300))) jd dn)), .ref yr, .int (nI (gN (th2 (tHas 4 x) (decide (0 < dn ∧ snt + dn ≤ 300))) bn (mN (mRun (fun k => wkB fA (fun j => on (14 * cl x + j)) nA (nI (cl (dc k) % 140 / 10))) dw dv (fun k => cl (dc k)) (nI td) (0, rf, bn, bc, bd, bf) dn)))), .ref yC, .ref yD, .ref yF, .ref yS, .ref yV, .ref yH, .int (nI (th2 (tHas 4 x) (decide (0 < dn ∧ snt + dn ≤ 300))))])), (yr, .inl (G.2.1, 16, .inl (gF (th2 (tHas 4 x) (decide (0 < dn ∧ snt + dn ≤ 300))) rf (mR (mRun (fun k => wkB fA (fun j => on (14 * cl x + j)) nA (nI (cl (dc k) % 140 / 10))) dw dv (fun k => cl (dc k)) (nI td) (0, rf, bn, bc, bd, bf) dn))))), (yC, .inl (G.2.1, 300, .inl (gF (th2 (tHas 4 x) (decide (0 < dn ∧ snt + dn ≤ 300))) bc (mC (mRun (fun k => wkB fA (fun j => on (14 * cl x + j)) nA (nI (cl (dc k) % 140 / 10))) dw dv (fun k => cl (dc k)) (nI td) (0, rf, bn, bc, bd, bf) dn))))), (yD, .inl (G.2.1, 300, .inl (gF (th2 (tHas 4 x) (decide (0 < dn ∧ snt + dn ≤ 300))) bd (mY (mRun (fun k => wkB fA (fun j => on (14 * cl x + j)) nA (nI (cl (dc k) % 140 / 10))) dw dv (fun k => cl (dc k)) (nI td) (0, rf, bn, bc, bd, bf) dn))))), (yF, .inl (G.2.1, 300, .inl (gF (th2 (tHas 4 x) (decide (0 < dn ∧ snt + dn ≤ 300))) bf (mF (mRun (fun k => wkB fA (fun j => on (14 * cl x + j)) nA (nI (cl (dc k) % 140 / 10))) dw dv (fun k => cl (dc k)) (nI td) (0, rf, bn, bc, bd, bf) dn)))))] tS.heap) (Aw [M, yr, yC, yD, yF] sz)) 0 0 (Aw [M, yr, yC, yD, yF] sz) := by
  refine Met.ofW (cc := cX6_send) (maxL := 4) (ret := (some .int)) (by decide) rfl ?_
  intro p e s m args below meth c s₁ B hml hv
  obtain ⟨rfl, hsz, hP, hD, E, Z⟩ := hv
  have hts := atoms_spec (ws := wsX6_send) B.pre
  have hown : s.vm.findClass RX6 = some m.cls := findClass_of_methodNamed B.named
  have X : CallFix p m c cX6_send 4 s _ wsX6_send RX6 := ⟨B.exec, B.bytes, hml, hown, hts⟩
  have hx := B.exec
  have hb := B.bytes
  have hr := B.returns
  have hlocks := B.notSynchronized
  subst hsz
  have w : bSt G vwCl [] s [(M, .inr (6, [.int (nI td), .int (nI nA), .int (nI nJ), .ref yA, .ref yJ, .ref yg, .int (nI dn), .ref yw, .ref yc, .ref yv, .int (nI snt), .int (nI jd), .ref yr, .int (nI bn), .ref yC, .ref yD, .ref yF, .ref yS, .ref yV, .ref yH, .int th])), (yA, .inl (G.2.1, 14, .inl fA)), (yg, .inl (G.2.2.1, 56, .inl (zB on))), (yw, .inl (G.2.1, 16, .inl dw)), (yc, .inl (G.2.1, 16, .inl dc)), (yv, .inl (G.2.1, 16, .inl dv)), (yC, .inl (G.2.1, 300, .inl bc)), (yD, .inl (G.2.1, 300, .inl bd)), (yF, .inl (G.2.1, 300, .inl bf)), (yr, .inl (G.2.1, 16, .inl rf))] s.heap [] := ⟨hP, va_S.rf, hD⟩
  have Z0 : bZ [] s := ⟨Z.1.narrow (fun q h => h.elim (fun h => nomatch h) Or.inr), Z.2.narrow (fun q h => h.elim (fun h => nomatch h) Or.inr)⟩
  have iX6 : ∀ w ∈ wsX60, w ∈ wsX6_send := by decide +kernel
  have hl := lv_entry ([.ref M, .int x]) (n := 4) (Nat.le_of_ble_eq_true rfl)
  rw [lg_entry_eq]
  generalize (lg_sl ([.ref M, .int x]) ++ List.replicate (4 - (lg_sl ([.ref M, .int x])).length) Slot.unset).toArray = ls at hl ⊢
  have hl : lv_has ls 4 [(0, .ref M), (1, .int x)] := hl
  refine lv_aload_n hx hb dX6_send_0 rfl (lv_at hl 0 rfl) ?_
  refine lv_iload_n hx hb dX6_send_1 rfl (lv_at hl 1 rfl) ?_
  refine b_calli w (va_runS (As := [.int x]) (rest := [.ref M]) X (c_X6_isSender l hl0 G _ (x := x) ) (va_cwS 1 hts gX6_send_X6_isSender rfl rfl rfl (by decide +kernel) ⟨Nat.le_of_ble_eq_true rfl, Nat.le_of_ble_eq_true rfl⟩) ⟨b_blind, (fun U9 hU9 hW9 => ⟨rfl, b_pre E Z0 w [] (by decide) rfl b_nil U9 hU9 hW9⟩)⟩ rfl rfl hl.1 rfl (lv_room (Nat.le_of_ble_eq_true rfl)) dX6_send_2 ⟨Nat.le_of_ble_eq_true rfl, Nat.le_of_ble_eq_true rfl⟩) b_nil [] (fun _ => rfl) rfl (fun r2_17 u2_17 H locs hr2_17 w => ?_)
  have w : bSt G vwCl [] s [(M, .inr (6, [.int (nI td), .int (nI nA), .int (nI nJ), .ref yA, .ref yJ, .ref yg, .int (nI dn), .ref yw, .ref yc, .ref yv, .int (nI snt), .int (nI jd), .ref yr, .int (nI bn), .ref yC, .ref yD, .ref yF, .ref yS, .ref yV, .ref yH, .int th])), (yA, .inl (G.2.1, 14, .inl fA)), (yg, .inl (G.2.2.1, 56, .inl (zB on))), (yw, .inl (G.2.1, 16, .inl dw)), (yc, .inl (G.2.1, 16, .inl dc)), (yv, .inl (G.2.1, 16, .inl dv)), (yC, .inl (G.2.1, 300, .inl bc)), (yD, .inl (G.2.1, 300, .inl bd)), (yF, .inl (G.2.1, 300, .inl bf)), (yr, .inl (G.2.1, 16, .inl rf))] _ _ := w
  subst hr2_17
  refine lv_if_ne (tgt := 12) hx hb dX6_send_5 (by decide) (fun c_5_18 => ?_) (fun c_5_18 => ?_)
  · have q_5_19 : (tHas 4 x) = true := bI_n0.mp c_5_18
    have h5 := q_5_19
    obtain ⟨sd, hsd, rfl⟩ := (tHas_iff (by decide)).mp h5
    have e1 : cl (nI sd) = sd := cl_nI (by omega)
    refine lv_aload_n hx hb dX6_send_12 rfl (lv_at hl 0 rfl) ?_
    refine b_get X E w 0 rfl rfl 6 (by decide) iX6 (by decide +kernel) rfl rfl dX6_send_13 ?_
    refine lv_if_eq (tgt := 34) hx hb dX6_send_16 (by decide) (fun c_16_20 => ?_) (fun c_16_20 => ?_)
    · have q_16_21 : dn = 0 := (nI_z (by omega)).mp c_16_20
      have hT : th2 (tHas 4 (nI sd)) (decide (0 < dn ∧ snt + dn ≤ 300)) = 2 := by simp [th2, h5, q_16_21]
      refine lv_iconst (v := nI 2) hx hb dX6_send_34 (by decide) ?_
      refine lv_goto (tgt := 39) hx hb dX6_send_35 (by decide) ?_
      have w := b_wide [M, yr, yC, yD, yF] b_nil w
      refine b_put (ty := .int) X E w (Or.inl (List.mem_of_getElem? (i := 0) rfl)) 0 rfl rfl 20 (by decide) iX6 tyX6 tyX6_ok nmX6 (by decide +kernel) rfl rfl (by decide +kernel) rfl rfl (Nat.le_of_ble_eq_true rfl) dX6_send_39 (fun H locs w => ?_)
      have w : bSt G vwCl [M, yr, yC, yD, yF] s [(M, .inr (6, [.int (nI td), .int (nI nA), .int (nI nJ), .ref yA, .ref yJ, .ref yg, .int (nI dn), .ref yw, .ref yc, .ref yv, .int (nI snt), .int (nI jd), .ref yr, .int (nI bn), .ref yC, .ref yD, .ref yF, .ref yS, .ref yV, .ref yH, .int (nI 2)])), (yA, .inl (G.2.1, 14, .inl fA)), (yg, .inl (G.2.2.1, 56, .inl (zB on))), (yw, .inl (G.2.1, 16, .inl dw)), (yc, .inl (G.2.1, 16, .inl dc)), (yv, .inl (G.2.1, 16, .inl dv)), (yC, .inl (G.2.1, 300, .inl bc)), (yD, .inl (G.2.1, 300, .inl bd)), (yF, .inl (G.2.1, 300, .inl bf)), (yr, .inl (G.2.1, 16, .inl rf))] _ _ := w
      refine lv_aload_n hx hb dX6_send_42 rfl (lv_at hl 0 rfl) ?_
      refine b_get X E w 0 rfl rfl 20 (by decide) iX6 (by decide +kernel) rfl rfl dX6_send_43 ?_
      refine lv_if_le (tgt := 51) hx hb dX6_send_46 (by decide) (fun c_46_22 => ?_) (fun c_46_22 => ?_)
      · exact absurd c_46_22 (by decide)
      · refine lv_iconst (v := nI 0) hx hb dX6_send_49 (by decide) ?_
        exact W.iret (v := nI 0) hx hb hr (fun t9 ht9 hW9 => ⟨⟨nI 0, (), rfl, by rw [hT]; rfl, by show va_P G.1 vwCl _ t9.heap; rw [ht9]; exact b_cg (by rw [hT]; rfl) (w.1.sub (ws' := [(M, .inr (6, [.int (nI td), .int (nI nA), .int (nI nJ), .ref yA, .ref yJ, .ref yg, .int (nI dn), .ref yw, .ref yc, .ref yv, .int (nI snt), .int (nI jd), .ref yr, .int (nI bn), .ref yC, .ref yD, .ref yF, .ref yS, .ref yV, .ref yH, .int (nI 2)])), (yr, .inl (G.2.1, 16, .inl rf)), (yC, .inl (G.2.1, 300, .inl bc)), (yD, .inl (G.2.1, 300, .inl bd)), (yF, .inl (G.2.1, 300, .inl bf))]) [0, 9, 6, 7, 8] rfl)⟩, w.2.1.F ht9⟩) w.2.1.2.2 dX6_send_50
    · have q_16_21 : ¬ dn = 0 := fun h9 => c_16_20 ((nI_z (by omega)).mpr h9)
      have h16 := q_16_21
      refine lv_aload_n hx hb dX6_send_19 rfl (lv_at hl 0 rfl) ?_
      refine b_get X E w 0 rfl rfl 10 (by decide) iX6 (by decide +kernel) rfl rfl dX6_send_20 ?_
      refine lv_aload_n hx hb dX6_send_23 rfl (lv_at hl 0 rfl) ?_
      refine b_get X E w 0 rfl rfl 6 (by decide) iX6 (by decide +kernel) rfl rfl dX6_send_24 ?_
      refine lv_iadd hx hb dX6_send_27 ?_
      refine b_tp (show (nI snt) + (nI dn) = nI (snt + dn) from nI_add snt dn) ?_
      refine lv_sipush (v := nI 300) hx hb dX6_send_28 (by decide) ?_
      refine lv_icmp_le (tgt := 38) hx hb dX6_send_31 (by decide) (fun c_31_23 => ?_) (fun c_31_23 => ?_)
      · have q_31_24 : snt + dn ≤ 300 := q_le (by omega) (by omega) c_31_23
        have hT : th2 (tHas 4 (nI sd)) (decide (0 < dn ∧ snt + dn ≤ 300)) = 0 := by simp [th2, h5, q_31_24]; omega
        refine lv_iconst (v := nI 0) hx hb dX6_send_38 (by decide) ?_
        have w := b_wide [M, yr, yC, yD, yF] b_nil w
        refine b_put (ty := .int) X E w (Or.inl (List.mem_of_getElem? (i := 0) rfl)) 0 rfl rfl 20 (by decide) iX6 tyX6 tyX6_ok nmX6 (by decide +kernel) rfl rfl (by decide +kernel) rfl rfl (Nat.le_of_ble_eq_true rfl) dX6_send_39 (fun H locs w => ?_)
        have w : bSt G vwCl [M, yr, yC, yD, yF] s [(M, .inr (6, [.int (nI td), .int (nI nA), .int (nI nJ), .ref yA, .ref yJ, .ref yg, .int (nI dn), .ref yw, .ref yc, .ref yv, .int (nI snt), .int (nI jd), .ref yr, .int (nI bn), .ref yC, .ref yD, .ref yF, .ref yS, .ref yV, .ref yH, .int (nI 0)])), (yA, .inl (G.2.1, 14, .inl fA)), (yg, .inl (G.2.2.1, 56, .inl (zB on))), (yw, .inl (G.2.1, 16, .inl dw)), (yc, .inl (G.2.1, 16, .inl dc)), (yv, .inl (G.2.1, 16, .inl dv)), (yC, .inl (G.2.1, 300, .inl bc)), (yD, .inl (G.2.1, 300, .inl bd)), (yF, .inl (G.2.1, 300, .inl bf)), (yr, .inl (G.2.1, 16, .inl rf))] _ _ := w
        refine lv_aload_n hx hb dX6_send_42 rfl (lv_at hl 0 rfl) ?_
        refine b_get X E w 0 rfl rfl 20 (by decide) iX6 (by decide +kernel) rfl rfl dX6_send_43 ?_
        refine lv_if_le (tgt := 51) hx hb dX6_send_46 (by decide) (fun c_46_25 => ?_) (fun c_46_25 => ?_)
        · refine lv_iconst (v := nI 0) hx hb dX6_send_51 (by decide) ?_
          refine lv_istore_n (lv' := [(2, .int (nI 0)), (0, .ref M), (1, .int (nI sd))]) hx hb dX6_send_52 rfl hl (by decide) rfl (fun ls hl => ?_)
          refine lv_iconst (v := nI 0) hx hb dX6_send_53 (by decide) ?_
          refine lv_istore_n (lv' := [(3, .int (nI 0)), (2, .int (nI 0)), (0, .ref M), (1, .int (nI sd))]) hx hb dX6_send_54 rfl hl (by decide) rfl (fun ls hl => ?_)
          refine b_loop (pc := 55) (st := []) (fun (fuel : Nat) (H : Heap) (locs : List Loc) (ls : Array Slot) => ∃ (k : Nat) (z : mT), (k ≤ dn) ∧ (dn + 1 ≤ k + fuel) ∧ (z = (mRun (fun k => wkB fA (fun j => on (14 * sd + j)) nA (nI (cl (dc k) % 140 / 10))) dw dv (fun k => cl (dc k)) (nI td) (0, rf, bn, bc, bd, bf) k)) ∧ (mN z ≤ bn + k) ∧ (mD z ≤ k) ∧ bSt G vwCl [M, yr, yC, yD, yF] s [(M, .inr (6, [.int (nI td), .int (nI nA), .int (nI nJ), .ref yA, .ref yJ, .ref yg, .int (nI dn), .ref yw, .ref yc, .ref yv, .int (nI snt), .int (nI jd), .ref yr, .int (nI (mN z)), .ref yC, .ref yD, .ref yF, .ref yS, .ref yV, .ref yH, .int (nI 0)])), (yA, .inl (G.2.1, 14, .inl fA)), (yg, .inl (G.2.2.1, 56, .inl (zB on))), (yw, .inl (G.2.1, 16, .inl dw)), (yc, .inl (G.2.1, 16, .inl dc)), (yv, .inl (G.2.1, 16, .inl dv)), (yC, .inl (G.2.1, 300, .inl (mC z))), (yD, .inl (G.2.1, 300, .inl (mY z))), (yF, .inl (G.2.1, 300, .inl (mF z))), (yr, .inl (G.2.1, 16, .inl (mR z)))] H locs ∧ lv_has ls 4 [(0, .ref M), (1, .int (nI sd)), (2, .int (nI (mD z))), (3, .int (nI k))]) (fun H locs ls h9 => ?_) (fun fuel H locs ls hI ih55 => ?_) (dn + 1) ⟨0, (0, rf, bn, bc, bd, bf), (by omega), (by omega), rfl, Nat.le_refl _, Nat.le_refl _, w, lv_sub hl [2, 3, 1, 0] rfl⟩
          · obtain ⟨k, z, hk, hf, hz, hzn, hzd, w, hl⟩ := h9
            omega
          · obtain ⟨k, z, hk, hf, hz, hzn, hzd, w, hl⟩ := hI
            refine lv_iload_n hx hb dX6_send_55 rfl (lv_at hl 3 rfl) ?_
            refine lv_aload_n hx hb dX6_send_56 rfl (lv_at hl 0 rfl) ?_
            refine b_get X E w 0 rfl rfl 6 (by decide) iX6 (by decide +kernel) rfl rfl dX6_send_57 ?_
            refine lv_icmp_ge (tgt := 161) hx hb dX6_send_60 (by decide) (fun c_60_26 => ?_) (fun c_60_26 => ?_)
            · have q_60_27 : dn ≤ k := q_le (by omega) (by omega) c_60_26
              have ek : k = dn := by omega
              rw [ek] at hz
              refine lv_aload_n hx hb dX6_send_161 rfl (lv_at hl 0 rfl) ?_
              refine lv_aload_n hx hb dX6_send_162 rfl (lv_at hl 0 rfl) ?_
              refine b_get X E w 0 rfl rfl 6 (by decide) iX6 (by decide +kernel) rfl rfl dX6_send_163 ?_
              refine b_put (ty := .int) X E w (Or.inl (List.mem_of_getElem? (i := 0) rfl)) 0 rfl rfl 11 (by decide) iX6 tyX6 tyX6_ok nmX6 (by decide +kernel) rfl rfl (by decide +kernel) rfl rfl (Nat.le_of_ble_eq_true rfl) dX6_send_166 (fun H locs w => ?_)
              have w : bSt G vwCl [M, yr, yC, yD, yF] s [(M, .inr (6, [.int (nI td), .int (nI nA), .int (nI nJ), .ref yA, .ref yJ, .ref yg, .int (nI dn), .ref yw, .ref yc, .ref yv, .int (nI snt), .int (nI dn), .ref yr, .int (nI (mN z)), .ref yC, .ref yD, .ref yF, .ref yS, .ref yV, .ref yH, .int (nI 0)])), (yA, .inl (G.2.1, 14, .inl fA)), (yg, .inl (G.2.2.1, 56, .inl (zB on))), (yw, .inl (G.2.1, 16, .inl dw)), (yc, .inl (G.2.1, 16, .inl dc)), (yv, .inl (G.2.1, 16, .inl dv)), (yC, .inl (G.2.1, 300, .inl (mC z))), (yD, .inl (G.2.1, 300, .inl (mY z))), (yF, .inl (G.2.1, 300, .inl (mF z))), (yr, .inl (G.2.1, 16, .inl (mR z)))] _ _ := w
              refine lv_aload_n hx hb dX6_send_169 rfl (lv_at hl 0 rfl) ?_
              refine lv_dup hx hb dX6_send_170 rfl ?_
              refine b_get X E w 0 rfl rfl 10 (by decide) iX6 (by decide +kernel) rfl rfl dX6_send_171 ?_
              refine lv_aload_n hx hb dX6_send_174 rfl (lv_at hl 0 rfl) ?_
              refine b_get X E w 0 rfl rfl 6 (by decide) iX6 (by decide +kernel) rfl rfl dX6_send_175 ?_
              refine lv_iadd hx hb dX6_send_178 ?_
              refine b_tp (show (nI snt) + (nI dn) = nI (snt + dn) from nI_add snt dn) ?_
              refine b_put (ty := .int) X E w (Or.inl (List.mem_of_getElem? (i := 0) rfl)) 0 rfl rfl 10 (by decide) iX6 tyX6 tyX6_ok nmX6 (by decide +kernel) rfl rfl (by decide +kernel) rfl rfl (Nat.le_of_ble_eq_true rfl) dX6_send_179 (fun H locs w => ?_)
              have w : bSt G vwCl [M, yr, yC, yD, yF] s [(M, .inr (6, [.int (nI td), .int (nI nA), .int (nI nJ), .ref yA, .ref yJ, .ref yg, .int (nI dn), .ref yw, .ref yc, .ref yv, .int (nI (snt + dn)), .int (nI dn), .ref yr, .int (nI (mN z)), .ref yC, .ref yD, .ref yF, .ref yS, .ref yV, .ref yH, .int (nI 0)])), (yA, .inl (G.2.1, 14, .inl fA)), (yg, .inl (G.2.2.1, 56, .inl (zB on))), (yw, .inl (G.2.1, 16, .inl dw)), (yc, .inl (G.2.1, 16, .inl dc)), (yv, .inl (G.2.1, 16, .inl dv)), (yC, .inl (G.2.1, 300, .inl (mC z))), (yD, .inl (G.2.1, 300, .inl (mY z))), (yF, .inl (G.2.1, 300, .inl (mF z))), (yr, .inl (G.2.1, 16, .inl (mR z)))] _ _ := w
              refine lv_aload_n hx hb dX6_send_182 rfl (lv_at hl 0 rfl) ?_
              refine lv_iconst (v := nI 0) hx hb dX6_send_183 (by decide) ?_
              refine b_put (ty := .int) X E w (Or.inl (List.mem_of_getElem? (i := 0) rfl)) 0 rfl rfl 6 (by decide) iX6 tyX6 tyX6_ok nmX6 (by decide +kernel) rfl rfl (by decide +kernel) rfl rfl (Nat.le_of_ble_eq_true rfl) dX6_send_184 (fun H locs w => ?_)
              have w : bSt G vwCl [M, yr, yC, yD, yF] s [(M, .inr (6, [.int (nI td), .int (nI nA), .int (nI nJ), .ref yA, .ref yJ, .ref yg, .int (nI 0), .ref yw, .ref yc, .ref yv, .int (nI (snt + dn)), .int (nI dn), .ref yr, .int (nI (mN z)), .ref yC, .ref yD, .ref yF, .ref yS, .ref yV, .ref yH, .int (nI 0)])), (yA, .inl (G.2.1, 14, .inl fA)), (yg, .inl (G.2.2.1, 56, .inl (zB on))), (yw, .inl (G.2.1, 16, .inl dw)), (yc, .inl (G.2.1, 16, .inl dc)), (yv, .inl (G.2.1, 16, .inl dv)), (yC, .inl (G.2.1, 300, .inl (mC z))), (yD, .inl (G.2.1, 300, .inl (mY z))), (yF, .inl (G.2.1, 300, .inl (mF z))), (yr, .inl (G.2.1, 16, .inl (mR z)))] _ _ := w
              refine lv_iload_n hx hb dX6_send_187 rfl (lv_at hl 2 rfl) ?_
              exact W.iret (v := nI (mD z)) hx hb hr (fun t9 ht9 hW9 => ⟨⟨nI (mD z), (), rfl, by rw [hT, e1, ← hz]; rfl, by show va_P G.1 vwCl _ t9.heap; rw [ht9]; exact b_cg (by rw [hT, e1, ← hz]; rfl) (w.1.sub (ws' := [(M, .inr (6, [.int (nI td), .int (nI nA), .int (nI nJ), .ref yA, .ref yJ, .ref yg, .int (nI 0), .ref yw, .ref yc, .ref yv, .int (nI (snt + dn)), .int (nI dn), .ref yr, .int (nI (mN z)), .ref yC, .ref yD, .ref yF, .ref yS, .ref yV, .ref yH, .int (nI 0)])), (yr, .inl (G.2.1, 16, .inl (mR z))), (yC, .inl (G.2.1, 300, .inl (mC z))), (yD, .inl (G.2.1, 300, .inl (mY z))), (yF, .inl (G.2.1, 300, .inl (mF z)))]) [0, 9, 6, 7, 8] rfl)⟩, w.2.1.F ht9⟩) w.2.1.2.2 dX6_send_188
            · have q_60_27 : k < dn := q_nle (by omega) (by omega) c_60_26
              obtain ⟨c0, hc0, hca, hdc0⟩ := hdc k (by omega)
              have hcc : cl (dc k) = c0 := by rw [hdc0]; exact cl_nI (by omega)
              refine lv_aload_n hx hb dX6_send_63 rfl (lv_at hl 0 rfl) ?_
              refine b_get X E w 0 rfl rfl 12 (by decide) iX6 (by decide +kernel) rfl rfl dX6_send_64 ?_
              refine lv_iload_n hx hb dX6_send_67 rfl (lv_at hl 3 rfl) ?_
              refine lv_aload_n hx hb dX6_send_68 rfl (lv_at hl 0 rfl) ?_
              refine lv_iload_n hx hb dX6_send_69 rfl (lv_at hl 1 rfl) ?_
              refine lv_iload_n hx hb dX6_send_70 rfl (lv_at hl 3 rfl) ?_
              refine b_calli w (va_runV (As := [.int (nI sd), .int (nI k)]) (rest := [.int (nI k), .ref yr]) X (c_X6_judges l hl0 G _ (c0 := c0) (M := M) (sd := sd) (k := k) (td := td) (nA := nA) (nJ := nJ) (yA := yA) (yJ := yJ) (yg := yg) (dn := dn) (yw := yw) (yc := yc) (yv := yv) (snt := snt) (jd := jd) (yr := yr) (bn := mN z) (yC := yC) (yD := yD) (yF := yF) (yS := yS) (yV := yV) (yH := yH) (th := nI 0) (fA := fA) (on := on) (dw := dw) (dc := dc) (dv := dv) (bc := mC z) (bd := mY z) (bf := mF z) (hnA := (by first | assumption | omega)) (hTA := (by first | assumption | omega)) (hbn := (by first | assumption | omega)) (hs := (by first | assumption | omega)) (hk := (by first | assumption | omega)) (hdc := hdc0) (hc0 := (by first | assumption | omega)) (ha0 := (by first | assumption | omega))) (cwV 2 hts gX6_send_X6_judges rfl rfl rfl (by decide +kernel) ⟨Nat.le_of_ble_eq_true rfl, Nat.le_of_ble_eq_true rfl⟩) ⟨b_blind, b_recv E w (ci := 6) (q0 := 0) rfl rfl, (fun U9 hU9 hW9 => ⟨rfl, b_pre E Z w [0, 1, 2, 3, 4, 5, 6, 7, 8] (by decide) rfl b_nil U9 hU9 hW9⟩)⟩ rfl rfl hl.1 rfl (lv_room (Nat.le_of_ble_eq_true rfl)) dX6_send_71 ⟨Nat.le_of_ble_eq_true rfl, Nat.le_of_ble_eq_true rfl⟩) b_nil [] (fun _ => rfl) rfl (fun r71_28 u71_28 H locs hr71_28 w => ?_)
              have w : bSt G vwCl [M, yr, yC, yD, yF] s [(M, .inr (6, [.int (nI td), .int (nI nA), .int (nI nJ), .ref yA, .ref yJ, .ref yg, .int (nI dn), .ref yw, .ref yc, .ref yv, .int (nI snt), .int (nI jd), .ref yr, .int (nI (mN z)), .ref yC, .ref yD, .ref yF, .ref yS, .ref yV, .ref yH, .int (nI 0)])), (yA, .inl (G.2.1, 14, .inl fA)), (yg, .inl (G.2.2.1, 56, .inl (zB on))), (yw, .inl (G.2.1, 16, .inl dw)), (yc, .inl (G.2.1, 16, .inl dc)), (yv, .inl (G.2.1, 16, .inl dv)), (yC, .inl (G.2.1, 300, .inl (mC z))), (yD, .inl (G.2.1, 300, .inl (mY z))), (yF, .inl (G.2.1, 300, .inl (mF z))), (yr, .inl (G.2.1, 16, .inl (mR z)))] _ _ := w
              subst hr71_28
              have hjr : jR (wkB fA (fun j => on (14 * sd + j)) nA (nI (cl (dc k) % 140 / 10))) (dw k) (dv k) (fo (mC z) (mY z) (mF z) (nI c0) (nI td) (mN z)) = jR (wkB fA (fun j => on (14 * sd + j)) nA (nI (c0 % 140 / 10))) (dw k) (dv k) (fo (mC z) (mY z) (mF z) (nI c0) (nI td) (mN z)) := by rw [hcc]
              refine b_iast X E w (Or.inl (List.mem_of_getElem? (i := 1) rfl)) 9 rfl k rfl (by omega) (by first | decide | omega) dX6_send_74 (fun H locs w => ?_)
              have w : bSt G vwCl [M, yr, yC, yD, yF] s [(M, .inr (6, [.int (nI td), .int (nI nA), .int (nI nJ), .ref yA, .ref yJ, .ref yg, .int (nI dn), .ref yw, .ref yc, .ref yv, .int (nI snt), .int (nI jd), .ref yr, .int (nI (mN z)), .ref yC, .ref yD, .ref yF, .ref yS, .ref yV, .ref yH, .int (nI 0)])), (yA, .inl (G.2.1, 14, .inl fA)), (yg, .inl (G.2.2.1, 56, .inl (zB on))), (yw, .inl (G.2.1, 16, .inl dw)), (yc, .inl (G.2.1, 16, .inl dc)), (yv, .inl (G.2.1, 16, .inl dv)), (yC, .inl (G.2.1, 300, .inl (mC z))), (yD, .inl (G.2.1, 300, .inl (mY z))), (yF, .inl (G.2.1, 300, .inl (mF z))), (yr, .inl (G.2.1, 16, .inl (upd (mR z) k (jR (wkB fA (fun k => on (14 * sd + k)) nA (nI (c0 % 140 / 10))) (dw k) (dv k) (fo (mC z) (mY z) (mF z) (nI c0) (nI td) (mN z))))))] _ _ := w
              refine lv_aload_n hx hb dX6_send_75 rfl (lv_at hl 0 rfl) ?_
              refine b_get X E w 0 rfl rfl 12 (by decide) iX6 (by decide +kernel) rfl rfl dX6_send_76 ?_
              refine lv_iload_n hx hb dX6_send_79 rfl (lv_at hl 3 rfl) ?_
              refine b_iald X E w 9 rfl k rfl (by omega) (by first | decide | omega) dX6_send_80 ?_
              refine b_tp (show (upd (mR z) k (jR (wkB fA (fun k => on (14 * sd + k)) nA (nI (c0 % 140 / 10))) (dw k) (dv k) (fo (mC z) (mY z) (mF z) (nI c0) (nI td) (mN z)))) k = jR (wkB fA (fun k => on (14 * sd + k)) nA (nI (c0 % 140 / 10))) (dw k) (dv k) (fo (mC z) (mY z) (mF z) (nI c0) (nI td) (mN z)) from pk_us) ?_
              refine lv_if_ne (tgt := 155) hx hb dX6_send_81 (by decide) (fun c_81_29 => ?_) (fun c_81_29 => ?_)
              · have h81 := c_81_29
                refine lv_iinc (v := nI (k + 1)) (lv' := [(3, .int (nI (k + 1))), (0, .ref M), (1, .int (nI sd)), (2, .int (nI (mD z)))]) hx hb dX6_send_155 hl (k := 3) rfl (nI_add k 1) (by decide) rfl (fun ls hl => ?_)
                refine lv_goto (tgt := 55) hx hb dX6_send_158 (by decide) ?_
                exact ih55 _ _ _ ⟨k + 1, (mD z, upd (mR z) k (jR (wkB fA (fun k => on (14 * sd + k)) nA (nI (c0 % 140 / 10))) (dw k) (dv k) (fo (mC z) (mY z) (mF z) (nI c0) (nI td) (mN z))), mN z, mC z, mY z, mF z), (by omega), (by omega), mRun_n hz hcc hjr h81, (show mN _ ≤ _ by simp only [mN]; simp only [mN] at hzn; omega), (show mD _ ≤ _ by simp only [mD]; simp only [mD] at hzd; omega), w, lv_sub hl [1, 2, 3, 0] rfl⟩
              · have h81 := c_81_29
                refine lv_aload_n hx hb dX6_send_84 rfl (lv_at hl 0 rfl) ?_
                refine b_get X E w 0 rfl rfl 14 (by decide) iX6 (by decide +kernel) rfl rfl dX6_send_85 ?_
                refine lv_aload_n hx hb dX6_send_88 rfl (lv_at hl 0 rfl) ?_
                refine b_get X E w 0 rfl rfl 13 (by decide) iX6 (by decide +kernel) rfl rfl dX6_send_89 ?_
                refine lv_aload_n hx hb dX6_send_92 rfl (lv_at hl 0 rfl) ?_
                refine b_get X E w 0 rfl rfl 8 (by decide) iX6 (by decide +kernel) rfl rfl dX6_send_93 ?_
                refine lv_iload_n hx hb dX6_send_96 rfl (lv_at hl 3 rfl) ?_
                refine b_iald X E w 4 rfl k rfl (by omega) (by first | decide | omega) dX6_send_97 ?_
                refine b_tp (show dc k = nI c0 from hdc0) ?_
                refine b_iast X E w (Or.inl (List.mem_of_getElem? (i := 2) rfl)) 6 rfl (mN z) rfl (by omega) (by first | decide | omega) dX6_send_98 (fun H locs w => ?_)
                have w : bSt G vwCl [M, yr, yC, yD, yF] s [(M, .inr (6, [.int (nI td), .int (nI nA), .int (nI nJ), .ref yA, .ref yJ, .ref yg, .int (nI dn), .ref yw, .ref yc, .ref yv, .int (nI snt), .int (nI jd), .ref yr, .int (nI (mN z)), .ref yC, .ref yD, .ref yF, .ref yS, .ref yV, .ref yH, .int (nI 0)])), (yA, .inl (G.2.1, 14, .inl fA)), (yg, .inl (G.2.2.1, 56, .inl (zB on))), (yw, .inl (G.2.1, 16, .inl dw)), (yc, .inl (G.2.1, 16, .inl dc)), (yv, .inl (G.2.1, 16, .inl dv)), (yC, .inl (G.2.1, 300, .inl (upd (mC z) (mN z) (nI c0)))), (yD, .inl (G.2.1, 300, .inl (mY z))), (yF, .inl (G.2.1, 300, .inl (mF z))), (yr, .inl (G.2.1, 16, .inl (upd (mR z) k (jR (wkB fA (fun k => on (14 * sd + k)) nA (nI (c0 % 140 / 10))) (dw k) (dv k) (fo (mC z) (mY z) (mF z) (nI c0) (nI td) (mN z))))))] _ _ := w
                refine lv_aload_n hx hb dX6_send_99 rfl (lv_at hl 0 rfl) ?_
                refine b_get X E w 0 rfl rfl 15 (by decide) iX6 (by decide +kernel) rfl rfl dX6_send_100 ?_
                refine lv_aload_n hx hb dX6_send_103 rfl (lv_at hl 0 rfl) ?_
                refine b_get X E w 0 rfl rfl 13 (by decide) iX6 (by decide +kernel) rfl rfl dX6_send_104 ?_
                refine lv_aload_n hx hb dX6_send_107 rfl (lv_at hl 0 rfl) ?_
                refine b_get X E w 0 rfl rfl 0 (by decide) iX6 (by decide +kernel) rfl rfl dX6_send_108 ?_
                refine b_iast X E w (Or.inl (List.mem_of_getElem? (i := 3) rfl)) 7 rfl (mN z) rfl (by omega) (by first | decide | omega) dX6_send_111 (fun H locs w => ?_)
                have w : bSt G vwCl [M, yr, yC, yD, yF] s [(M, .inr (6, [.int (nI td), .int (nI nA), .int (nI nJ), .ref yA, .ref yJ, .ref yg, .int (nI dn), .ref yw, .ref yc, .ref yv, .int (nI snt), .int (nI jd), .ref yr, .int (nI (mN z)), .ref yC, .ref yD, .ref yF, .ref yS, .ref yV, .ref yH, .int (nI 0)])), (yA, .inl (G.2.1, 14, .inl fA)), (yg, .inl (G.2.2.1, 56, .inl (zB on))), (yw, .inl (G.2.1, 16, .inl dw)), (yc, .inl (G.2.1, 16, .inl dc)), (yv, .inl (G.2.1, 16, .inl dv)), (yC, .inl (G.2.1, 300, .inl (upd (mC z) (mN z) (nI c0)))), (yD, .inl (G.2.1, 300, .inl (upd (mY z) (mN z) (nI td)))), (yF, .inl (G.2.1, 300, .inl (mF z))), (yr, .inl (G.2.1, 16, .inl (upd (mR z) k (jR (wkB fA (fun k => on (14 * sd + k)) nA (nI (c0 % 140 / 10))) (dw k) (dv k) (fo (mC z) (mY z) (mF z) (nI c0) (nI td) (mN z))))))] _ _ := w
                refine lv_aload_n hx hb dX6_send_112 rfl (lv_at hl 0 rfl) ?_
                refine b_get X E w 0 rfl rfl 16 (by decide) iX6 (by decide +kernel) rfl rfl dX6_send_113 ?_
                refine lv_aload_n hx hb dX6_send_116 rfl (lv_at hl 0 rfl) ?_
                refine b_get X E w 0 rfl rfl 13 (by decide) iX6 (by decide +kernel) rfl rfl dX6_send_117 ?_
                refine lv_aload_n hx hb dX6_send_120 rfl (lv_at hl 0 rfl) ?_
                refine b_get X E w 0 rfl rfl 7 (by decide) iX6 (by decide +kernel) rfl rfl dX6_send_121 ?_
                refine lv_iload_n hx hb dX6_send_124 rfl (lv_at hl 3 rfl) ?_
                refine b_iald X E w 3 rfl k rfl (by omega) (by first | decide | omega) dX6_send_125 ?_
                refine lv_iconst (v := nI 2) hx hb dX6_send_126 (by decide) ?_
                refine lv_icmp_ne (tgt := 135) hx hb dX6_send_127 (by decide) (fun c_127_30 => ?_) (fun c_127_30 => ?_)
                · have hfg : fgB (dw k) (dv k) = dv k := if_neg c_127_30
                  refine lv_aload_n hx hb dX6_send_135 rfl (lv_at hl 0 rfl) ?_
                  refine b_get X E w 0 rfl rfl 9 (by decide) iX6 (by decide +kernel) rfl rfl dX6_send_136 ?_
                  refine lv_iload_n hx hb dX6_send_139 rfl (lv_at hl 3 rfl) ?_
                  refine b_iald X E w 5 rfl k rfl (by omega) (by first | decide | omega) dX6_send_140 ?_
                  refine b_tp (show dv k = fgB (dw k) (dv k) from hfg.symm) ?_
                  refine b_iast X E w (Or.inl (List.mem_of_getElem? (i := 4) rfl)) 8 rfl (mN z) rfl (by omega) (by first | decide | omega) dX6_send_141 (fun H locs w => ?_)
                  have w : bSt G vwCl [M, yr, yC, yD, yF] s [(M, .inr (6, [.int (nI td), .int (nI nA), .int (nI nJ), .ref yA, .ref yJ, .ref yg, .int (nI dn), .ref yw, .ref yc, .ref yv, .int (nI snt), .int (nI jd), .ref yr, .int (nI (mN z)), .ref yC, .ref yD, .ref yF, .ref yS, .ref yV, .ref yH, .int (nI 0)])), (yA, .inl (G.2.1, 14, .inl fA)), (yg, .inl (G.2.2.1, 56, .inl (zB on))), (yw, .inl (G.2.1, 16, .inl dw)), (yc, .inl (G.2.1, 16, .inl dc)), (yv, .inl (G.2.1, 16, .inl dv)), (yC, .inl (G.2.1, 300, .inl (upd (mC z) (mN z) (nI c0)))), (yD, .inl (G.2.1, 300, .inl (upd (mY z) (mN z) (nI td)))), (yF, .inl (G.2.1, 300, .inl (upd (mF z) (mN z) (fgB (dw k) (dv k))))), (yr, .inl (G.2.1, 16, .inl (upd (mR z) k (jR (wkB fA (fun k => on (14 * sd + k)) nA (nI (c0 % 140 / 10))) (dw k) (dv k) (fo (mC z) (mY z) (mF z) (nI c0) (nI td) (mN z))))))] _ _ := w
                  refine lv_aload_n hx hb dX6_send_142 rfl (lv_at hl 0 rfl) ?_
                  refine lv_dup hx hb dX6_send_143 rfl ?_
                  refine b_get X E w 0 rfl rfl 13 (by decide) iX6 (by decide +kernel) rfl rfl dX6_send_144 ?_
                  refine lv_iconst (v := nI 1) hx hb dX6_send_147 (by decide) ?_
                  refine lv_iadd hx hb dX6_send_148 ?_
                  refine b_tp (show (nI (mN z)) + (nI 1) = nI ((mN z) + 1) from nI_add (mN z) 1) ?_
                  refine b_put (ty := .int) X E w (Or.inl (List.mem_of_getElem? (i := 0) rfl)) 0 rfl rfl 13 (by decide) iX6 tyX6 tyX6_ok nmX6 (by decide +kernel) rfl rfl (by decide +kernel) rfl rfl (Nat.le_of_ble_eq_true rfl) dX6_send_149 (fun H locs w => ?_)
                  have w : bSt G vwCl [M, yr, yC, yD, yF] s [(M, .inr (6, [.int (nI td), .int (nI nA), .int (nI nJ), .ref yA, .ref yJ, .ref yg, .int (nI dn), .ref yw, .ref yc, .ref yv, .int (nI snt), .int (nI jd), .ref yr, .int (nI ((mN z) + 1)), .ref yC, .ref yD, .ref yF, .ref yS, .ref yV, .ref yH, .int (nI 0)])), (yA, .inl (G.2.1, 14, .inl fA)), (yg, .inl (G.2.2.1, 56, .inl (zB on))), (yw, .inl (G.2.1, 16, .inl dw)), (yc, .inl (G.2.1, 16, .inl dc)), (yv, .inl (G.2.1, 16, .inl dv)), (yC, .inl (G.2.1, 300, .inl (upd (mC z) (mN z) (nI c0)))), (yD, .inl (G.2.1, 300, .inl (upd (mY z) (mN z) (nI td)))), (yF, .inl (G.2.1, 300, .inl (upd (mF z) (mN z) (fgB (dw k) (dv k))))), (yr, .inl (G.2.1, 16, .inl (upd (mR z) k (jR (wkB fA (fun k => on (14 * sd + k)) nA (nI (c0 % 140 / 10))) (dw k) (dv k) (fo (mC z) (mY z) (mF z) (nI c0) (nI td) (mN z))))))] _ _ := w
                  refine lv_iinc (v := nI (mD z + 1)) (lv' := [(2, .int (nI (mD z + 1))), (0, .ref M), (1, .int (nI sd)), (3, .int (nI k))]) hx hb dX6_send_152 hl (k := 2) rfl (nI_add (mD z) 1) (by decide) rfl (fun ls hl => ?_)
                  refine lv_iinc (v := nI (k + 1)) (lv' := [(3, .int (nI (k + 1))), (2, .int (nI (mD z + 1))), (0, .ref M), (1, .int (nI sd))]) hx hb dX6_send_155 hl (k := 3) rfl (nI_add k 1) (by decide) rfl (fun ls hl => ?_)
                  refine lv_goto (tgt := 55) hx hb dX6_send_158 (by decide) ?_
                  exact ih55 _ _ _ ⟨k + 1, (mD z + 1, upd (mR z) k (jR (wkB fA (fun k => on (14 * sd + k)) nA (nI (c0 % 140 / 10))) (dw k) (dv k) (fo (mC z) (mY z) (mF z) (nI c0) (nI td) (mN z))), mN z + 1, upd (mC z) (mN z) (nI c0), upd (mY z) (mN z) (nI td), upd (mF z) (mN z) (fgB (dw k) (dv k))), (by omega), (by omega), mRun_y hz hcc hjr h81, (show mN _ ≤ _ by simp only [mN]; simp only [mN] at hzn; omega), (show mD _ ≤ _ by simp only [mD]; simp only [mD] at hzd; omega), w, lv_sub hl [2, 3, 1, 0] rfl⟩
                · have hfg : fgB (dw k) (dv k) = MIS := if_pos c_127_30
                  refine lv_ldc (v := MIS) hx hb hown (hts (.constant RX6 86 (-2000000001)) (by decide +kernel)) dX6_send_130 ?_
                  refine lv_goto (tgt := 141) hx hb dX6_send_132 (by decide) ?_
                  refine b_tp (show MIS = fgB (dw k) (dv k) from hfg.symm) ?_
                  refine b_iast X E w (Or.inl (List.mem_of_getElem? (i := 4) rfl)) 8 rfl (mN z) rfl (by omega) (by first | decide | omega) dX6_send_141 (fun H locs w => ?_)
                  have w : bSt G vwCl [M, yr, yC, yD, yF] s [(M, .inr (6, [.int (nI td), .int (nI nA), .int (nI nJ), .ref yA, .ref yJ, .ref yg, .int (nI dn), .ref yw, .ref yc, .ref yv, .int (nI snt), .int (nI jd), .ref yr, .int (nI (mN z)), .ref yC, .ref yD, .ref yF, .ref yS, .ref yV, .ref yH, .int (nI 0)])), (yA, .inl (G.2.1, 14, .inl fA)), (yg, .inl (G.2.2.1, 56, .inl (zB on))), (yw, .inl (G.2.1, 16, .inl dw)), (yc, .inl (G.2.1, 16, .inl dc)), (yv, .inl (G.2.1, 16, .inl dv)), (yC, .inl (G.2.1, 300, .inl (upd (mC z) (mN z) (nI c0)))), (yD, .inl (G.2.1, 300, .inl (upd (mY z) (mN z) (nI td)))), (yF, .inl (G.2.1, 300, .inl (upd (mF z) (mN z) (fgB (dw k) (dv k))))), (yr, .inl (G.2.1, 16, .inl (upd (mR z) k (jR (wkB fA (fun k => on (14 * sd + k)) nA (nI (c0 % 140 / 10))) (dw k) (dv k) (fo (mC z) (mY z) (mF z) (nI c0) (nI td) (mN z))))))] _ _ := w
                  refine lv_aload_n hx hb dX6_send_142 rfl (lv_at hl 0 rfl) ?_
                  refine lv_dup hx hb dX6_send_143 rfl ?_
                  refine b_get X E w 0 rfl rfl 13 (by decide) iX6 (by decide +kernel) rfl rfl dX6_send_144 ?_
                  refine lv_iconst (v := nI 1) hx hb dX6_send_147 (by decide) ?_
                  refine lv_iadd hx hb dX6_send_148 ?_
                  refine b_tp (show (nI (mN z)) + (nI 1) = nI ((mN z) + 1) from nI_add (mN z) 1) ?_
                  refine b_put (ty := .int) X E w (Or.inl (List.mem_of_getElem? (i := 0) rfl)) 0 rfl rfl 13 (by decide) iX6 tyX6 tyX6_ok nmX6 (by decide +kernel) rfl rfl (by decide +kernel) rfl rfl (Nat.le_of_ble_eq_true rfl) dX6_send_149 (fun H locs w => ?_)
                  have w : bSt G vwCl [M, yr, yC, yD, yF] s [(M, .inr (6, [.int (nI td), .int (nI nA), .int (nI nJ), .ref yA, .ref yJ, .ref yg, .int (nI dn), .ref yw, .ref yc, .ref yv, .int (nI snt), .int (nI jd), .ref yr, .int (nI ((mN z) + 1)), .ref yC, .ref yD, .ref yF, .ref yS, .ref yV, .ref yH, .int (nI 0)])), (yA, .inl (G.2.1, 14, .inl fA)), (yg, .inl (G.2.2.1, 56, .inl (zB on))), (yw, .inl (G.2.1, 16, .inl dw)), (yc, .inl (G.2.1, 16, .inl dc)), (yv, .inl (G.2.1, 16, .inl dv)), (yC, .inl (G.2.1, 300, .inl (upd (mC z) (mN z) (nI c0)))), (yD, .inl (G.2.1, 300, .inl (upd (mY z) (mN z) (nI td)))), (yF, .inl (G.2.1, 300, .inl (upd (mF z) (mN z) (fgB (dw k) (dv k))))), (yr, .inl (G.2.1, 16, .inl (upd (mR z) k (jR (wkB fA (fun k => on (14 * sd + k)) nA (nI (c0 % 140 / 10))) (dw k) (dv k) (fo (mC z) (mY z) (mF z) (nI c0) (nI td) (mN z))))))] _ _ := w
                  refine lv_iinc (v := nI (mD z + 1)) (lv' := [(2, .int (nI (mD z + 1))), (0, .ref M), (1, .int (nI sd)), (3, .int (nI k))]) hx hb dX6_send_152 hl (k := 2) rfl (nI_add (mD z) 1) (by decide) rfl (fun ls hl => ?_)
                  refine lv_iinc (v := nI (k + 1)) (lv' := [(3, .int (nI (k + 1))), (2, .int (nI (mD z + 1))), (0, .ref M), (1, .int (nI sd))]) hx hb dX6_send_155 hl (k := 3) rfl (nI_add k 1) (by decide) rfl (fun ls hl => ?_)
                  refine lv_goto (tgt := 55) hx hb dX6_send_158 (by decide) ?_
                  exact ih55 _ _ _ ⟨k + 1, (mD z + 1, upd (mR z) k (jR (wkB fA (fun k => on (14 * sd + k)) nA (nI (c0 % 140 / 10))) (dw k) (dv k) (fo (mC z) (mY z) (mF z) (nI c0) (nI td) (mN z))), mN z + 1, upd (mC z) (mN z) (nI c0), upd (mY z) (mN z) (nI td), upd (mF z) (mN z) (fgB (dw k) (dv k))), (by omega), (by omega), mRun_y hz hcc hjr h81, (show mN _ ≤ _ by simp only [mN]; simp only [mN] at hzn; omega), (show mD _ ≤ _ by simp only [mD]; simp only [mD] at hzd; omega), w, lv_sub hl [2, 3, 1, 0] rfl⟩
        · exact absurd (by decide) c_46_25
      · have q_31_24 : 300 < snt + dn := q_nle (by omega) (by omega) c_31_23
        have hT : th2 (tHas 4 (nI sd)) (decide (0 < dn ∧ snt + dn ≤ 300)) = 2 := by simp [th2, h5]; omega
        refine lv_iconst (v := nI 2) hx hb dX6_send_34 (by decide) ?_
        refine lv_goto (tgt := 39) hx hb dX6_send_35 (by decide) ?_
        have w := b_wide [M, yr, yC, yD, yF] b_nil w
        refine b_put (ty := .int) X E w (Or.inl (List.mem_of_getElem? (i := 0) rfl)) 0 rfl rfl 20 (by decide) iX6 tyX6 tyX6_ok nmX6 (by decide +kernel) rfl rfl (by decide +kernel) rfl rfl (Nat.le_of_ble_eq_true rfl) dX6_send_39 (fun H locs w => ?_)
        have w : bSt G vwCl [M, yr, yC, yD, yF] s [(M, .inr (6, [.int (nI td), .int (nI nA), .int (nI nJ), .ref yA, .ref yJ, .ref yg, .int (nI dn), .ref yw, .ref yc, .ref yv, .int (nI snt), .int (nI jd), .ref yr, .int (nI bn), .ref yC, .ref yD, .ref yF, .ref yS, .ref yV, .ref yH, .int (nI 2)])), (yA, .inl (G.2.1, 14, .inl fA)), (yg, .inl (G.2.2.1, 56, .inl (zB on))), (yw, .inl (G.2.1, 16, .inl dw)), (yc, .inl (G.2.1, 16, .inl dc)), (yv, .inl (G.2.1, 16, .inl dv)), (yC, .inl (G.2.1, 300, .inl bc)), (yD, .inl (G.2.1, 300, .inl bd)), (yF, .inl (G.2.1, 300, .inl bf)), (yr, .inl (G.2.1, 16, .inl rf))] _ _ := w
        refine lv_aload_n hx hb dX6_send_42 rfl (lv_at hl 0 rfl) ?_
        refine b_get X E w 0 rfl rfl 20 (by decide) iX6 (by decide +kernel) rfl rfl dX6_send_43 ?_
        refine lv_if_le (tgt := 51) hx hb dX6_send_46 (by decide) (fun c_46_31 => ?_) (fun c_46_31 => ?_)
        · exact absurd c_46_31 (by decide)
        · refine lv_iconst (v := nI 0) hx hb dX6_send_49 (by decide) ?_
          exact W.iret (v := nI 0) hx hb hr (fun t9 ht9 hW9 => ⟨⟨nI 0, (), rfl, by rw [hT]; rfl, by show va_P G.1 vwCl _ t9.heap; rw [ht9]; exact b_cg (by rw [hT]; rfl) (w.1.sub (ws' := [(M, .inr (6, [.int (nI td), .int (nI nA), .int (nI nJ), .ref yA, .ref yJ, .ref yg, .int (nI dn), .ref yw, .ref yc, .ref yv, .int (nI snt), .int (nI jd), .ref yr, .int (nI bn), .ref yC, .ref yD, .ref yF, .ref yS, .ref yV, .ref yH, .int (nI 2)])), (yr, .inl (G.2.1, 16, .inl rf)), (yC, .inl (G.2.1, 300, .inl bc)), (yD, .inl (G.2.1, 300, .inl bd)), (yF, .inl (G.2.1, 300, .inl bf))]) [0, 9, 6, 7, 8] rfl)⟩, w.2.1.F ht9⟩) w.2.1.2.2 dX6_send_50
  · have q_5_19 : (tHas 4 x) = false := bI_0.mp c_5_18
    have hT : th2 (tHas 4 x) (decide (0 < dn ∧ snt + dn ≤ 300)) = 1 := by simp [th2, q_5_19]
    refine lv_iconst (v := nI 1) hx hb dX6_send_8 (by decide) ?_
    refine lv_goto (tgt := 39) hx hb dX6_send_9 (by decide) ?_
    have w := b_wide [M, yr, yC, yD, yF] b_nil w
    refine b_put (ty := .int) X E w (Or.inl (List.mem_of_getElem? (i := 0) rfl)) 0 rfl rfl 20 (by decide) iX6 tyX6 tyX6_ok nmX6 (by decide +kernel) rfl rfl (by decide +kernel) rfl rfl (Nat.le_of_ble_eq_true rfl) dX6_send_39 (fun H locs w => ?_)
    have w : bSt G vwCl [M, yr, yC, yD, yF] s [(M, .inr (6, [.int (nI td), .int (nI nA), .int (nI nJ), .ref yA, .ref yJ, .ref yg, .int (nI dn), .ref yw, .ref yc, .ref yv, .int (nI snt), .int (nI jd), .ref yr, .int (nI bn), .ref yC, .ref yD, .ref yF, .ref yS, .ref yV, .ref yH, .int (nI 1)])), (yA, .inl (G.2.1, 14, .inl fA)), (yg, .inl (G.2.2.1, 56, .inl (zB on))), (yw, .inl (G.2.1, 16, .inl dw)), (yc, .inl (G.2.1, 16, .inl dc)), (yv, .inl (G.2.1, 16, .inl dv)), (yC, .inl (G.2.1, 300, .inl bc)), (yD, .inl (G.2.1, 300, .inl bd)), (yF, .inl (G.2.1, 300, .inl bf)), (yr, .inl (G.2.1, 16, .inl rf))] _ _ := w
    refine lv_aload_n hx hb dX6_send_42 rfl (lv_at hl 0 rfl) ?_
    refine b_get X E w 0 rfl rfl 20 (by decide) iX6 (by decide +kernel) rfl rfl dX6_send_43 ?_
    refine lv_if_le (tgt := 51) hx hb dX6_send_46 (by decide) (fun c_46_32 => ?_) (fun c_46_32 => ?_)
    · exact absurd c_46_32 (by decide)
    · refine lv_iconst (v := nI 0) hx hb dX6_send_49 (by decide) ?_
      exact W.iret (v := nI 0) hx hb hr (fun t9 ht9 hW9 => ⟨⟨nI 0, (), rfl, by rw [hT]; rfl, by show va_P G.1 vwCl _ t9.heap; rw [ht9]; exact b_cg (by rw [hT]; rfl) (w.1.sub (ws' := [(M, .inr (6, [.int (nI td), .int (nI nA), .int (nI nJ), .ref yA, .ref yJ, .ref yg, .int (nI dn), .ref yw, .ref yc, .ref yv, .int (nI snt), .int (nI jd), .ref yr, .int (nI bn), .ref yC, .ref yD, .ref yF, .ref yS, .ref yV, .ref yH, .int (nI 1)])), (yr, .inl (G.2.1, 16, .inl rf)), (yC, .inl (G.2.1, 300, .inl bc)), (yD, .inl (G.2.1, 300, .inl bd)), (yF, .inl (G.2.1, 300, .inl bf))]) [0, 9, 6, 7, 8] rfl)⟩, w.2.1.F ht9⟩) w.2.1.2.2 dX6_send_50
set_option maxHeartbeats 4000000 in
set_option maxRecDepth 100000 in
theorem c_X6_refusal (l : Launch) (hl0 : l.stackTraces = false) (G : bG) (sz : Nat) (M yA yJ yg yw yc yv yr yC yD yF yS yV yH td nA nJ dn snt jd bn : Nat) (th : Int32) (rf : Nat → Int32) (x : Int32) (hjd : jd ≤ 16) : Met l yX6_refusal wsX6_refusal ({ frames := 1, cells := 0, slots := 0, locals := 22 }) (va_Pc [.ref M, .int x] (bPre G vwCl bNW bSW sz [(M, .inr (6, [.int (nI td), .int (nI nA), .int (nI nJ), .ref yA, .ref yJ, .ref yg, .int (nI dn), .ref yw, .ref yc, .ref yv, .int (nI snt), .int (nI jd), .ref yr, .int (nI bn), .ref yC, .ref yD, .ref yF, .ref yS, .ref yV, .ref yH, .int th])), (yr, .inl (G.2.1, 16, .inl rf))] [M])) (va_Qi (fun (r : Int32) (_ : Unit) => r = gF (th1 (tHas jd x)) 0 (rf (cl x))) (fun (_ : Unit) (tS : State) => va_P G.1 vwCl [(M, .inr (6, [.int (nI td), .int (nI nA), .int (nI nJ), .ref yA, .ref yJ, .ref yg, .int (nI dn), .ref yw, .ref yc, .ref yv, .int (nI snt), .int (nI jd), .ref yr, .int (nI bn), .ref yC, .ref yD, .ref yF, .ref yS, .ref yV, .ref yH, .int (nI (th1 (tHas jd x)))]))] tS.heap) (Aw [M] sz)) 0 0 (Aw [M] sz) := by
  refine Met.ofW (cc := cX6_refusal) (maxL := 2) (ret := (some .int)) (by decide) rfl ?_
  intro p e s m args below meth c s₁ B hml hv
  obtain ⟨rfl, hsz, hP, hD, E, Z⟩ := hv
  have hts := atoms_spec (ws := wsX6_refusal) B.pre
  have hown : s.vm.findClass RX6 = some m.cls := findClass_of_methodNamed B.named
  have X : CallFix p m c cX6_refusal 2 s _ wsX6_refusal RX6 := ⟨B.exec, B.bytes, hml, hown, hts⟩
  have hx := B.exec
  have hb := B.bytes
  have hr := B.returns
  have hlocks := B.notSynchronized
  subst hsz
  have w : bSt G vwCl [] s [(M, .inr (6, [.int (nI td), .int (nI nA), .int (nI nJ), .ref yA, .ref yJ, .ref yg, .int (nI dn), .ref yw, .ref yc, .ref yv, .int (nI snt), .int (nI jd), .ref yr, .int (nI bn), .ref yC, .ref yD, .ref yF, .ref yS, .ref yV, .ref yH, .int th])), (yr, .inl (G.2.1, 16, .inl rf))] s.heap [] := ⟨hP, va_S.rf, hD⟩
  have Z0 : bZ [] s := ⟨Z.1.narrow (fun q h => h.elim (fun h => nomatch h) Or.inr), Z.2.narrow (fun q h => h.elim (fun h => nomatch h) Or.inr)⟩
  have iX6 : ∀ w ∈ wsX60, w ∈ wsX6_refusal := by decide +kernel
  have hl := lv_entry ([.ref M, .int x]) (n := 2) (Nat.le_of_ble_eq_true rfl)
  rw [lg_entry_eq]
  generalize (lg_sl ([.ref M, .int x]) ++ List.replicate (2 - (lg_sl ([.ref M, .int x])).length) Slot.unset).toArray = ls at hl ⊢
  have hl : lv_has ls 2 [(0, .ref M), (1, .int x)] := hl
  refine lv_aload_n hx hb dX6_refusal_0 rfl (lv_at hl 0 rfl) ?_
  refine lv_iload_n hx hb dX6_refusal_1 rfl (lv_at hl 1 rfl) ?_
  refine lv_iconst (v := nI 0) hx hb dX6_refusal_2 (by decide) ?_
  refine lv_aload_n hx hb dX6_refusal_3 rfl (lv_at hl 0 rfl) ?_
  refine b_get X E w 0 rfl rfl 11 (by decide) iX6 (by decide +kernel) rfl rfl dX6_refusal_4 ?_
  refine lv_iconst (v := nI 1) hx hb dX6_refusal_7 (by decide) ?_
  refine lv_isub hx hb dX6_refusal_8 ?_
  refine b_calli w (va_runS (As := [.int x, .int (nI 0), .int ((nI jd) - (nI 1))]) (rest := [.ref M]) X (c_X6_isIn l hl0 G _ (x := x) (lo := nI 0) (hi := (nI jd) - (nI 1)) ) (va_cwS 3 hts gX6_refusal_X6_isIn rfl rfl rfl (by decide +kernel) ⟨Nat.le_of_ble_eq_true rfl, Nat.le_of_ble_eq_true rfl⟩) ⟨b_blind, (fun U9 hU9 hW9 => ⟨rfl, b_pre E Z0 w [] (by decide) rfl b_nil U9 hU9 hW9⟩)⟩ rfl rfl hl.1 rfl (lv_room (Nat.le_of_ble_eq_true rfl)) dX6_refusal_9 ⟨Nat.le_of_ble_eq_true rfl, Nat.le_of_ble_eq_true rfl⟩) b_nil [] (fun _ => rfl) rfl (fun r9_6 u9_6 H locs hr9_6 w => ?_)
  have w : bSt G vwCl [] s [(M, .inr (6, [.int (nI td), .int (nI nA), .int (nI nJ), .ref yA, .ref yJ, .ref yg, .int (nI dn), .ref yw, .ref yc, .ref yv, .int (nI snt), .int (nI jd), .ref yr, .int (nI bn), .ref yC, .ref yD, .ref yF, .ref yS, .ref yV, .ref yH, .int th])), (yr, .inl (G.2.1, 16, .inl rf))] _ _ := w
  subst hr9_6
  refine b_tp (show bI (tIn x (nI 0) ((nI jd) - (nI 1))) = bI (tHas jd x) from congrArg bI (tIn_has (by omega))) ?_
  refine lv_if_eq (tgt := 19) hx hb dX6_refusal_12 (by decide) (fun c_12_7 => ?_) (fun c_12_7 => ?_)
  · have q_12_8 : (tHas jd x) = false := bI_0.mp c_12_7
    have hT : th1 (tHas jd x) = 1 := by simp [th1, q_12_8]
    refine lv_iconst (v := nI 1) hx hb dX6_refusal_19 (by decide) ?_
    have w := b_wide [M] b_nil w
    refine b_put (ty := .int) X E w (Or.inl (List.mem_of_getElem? (i := 0) rfl)) 0 rfl rfl 20 (by decide) iX6 tyX6 tyX6_ok nmX6 (by decide +kernel) rfl rfl (by decide +kernel) rfl rfl (Nat.le_of_ble_eq_true rfl) dX6_refusal_20 (fun H locs w => ?_)
    have w : bSt G vwCl [M] s [(M, .inr (6, [.int (nI td), .int (nI nA), .int (nI nJ), .ref yA, .ref yJ, .ref yg, .int (nI dn), .ref yw, .ref yc, .ref yv, .int (nI snt), .int (nI jd), .ref yr, .int (nI bn), .ref yC, .ref yD, .ref yF, .ref yS, .ref yV, .ref yH, .int (nI 1)])), (yr, .inl (G.2.1, 16, .inl rf))] _ _ := w
    refine lv_aload_n hx hb dX6_refusal_23 rfl (lv_at hl 0 rfl) ?_
    refine b_get X E w 0 rfl rfl 20 (by decide) iX6 (by decide +kernel) rfl rfl dX6_refusal_24 ?_
    refine lv_if_le (tgt := 34) hx hb dX6_refusal_27 (by decide) (fun c_27_9 => ?_) (fun c_27_9 => ?_)
    · exact absurd c_27_9 (by decide)
    · refine lv_iconst (v := nI 0) hx hb dX6_refusal_30 (by decide) ?_
      refine lv_goto (tgt := 40) hx hb dX6_refusal_31 (by decide) ?_
      exact W.iret (v := nI 0) hx hb hr (fun t9 ht9 hW9 => ⟨⟨nI 0, (), rfl, by rw [hT]; rfl, by show va_P G.1 vwCl _ t9.heap; rw [ht9]; exact b_cg (by rw [hT]) (w.1.sub (ws' := [(M, .inr (6, [.int (nI td), .int (nI nA), .int (nI nJ), .ref yA, .ref yJ, .ref yg, .int (nI dn), .ref yw, .ref yc, .ref yv, .int (nI snt), .int (nI jd), .ref yr, .int (nI bn), .ref yC, .ref yD, .ref yF, .ref yS, .ref yV, .ref yH, .int (nI 1)]))]) [0] rfl)⟩, w.2.1.F ht9⟩) w.2.1.2.2 dX6_refusal_40
  · have q_12_8 : (tHas jd x) = true := bI_n0.mp c_12_7
    have h12 := q_12_8
    have hT : th1 (tHas jd x) = 0 := by simp [th1, q_12_8]
    obtain ⟨k, hk, rfl⟩ := (tHas_iff (by omega)).mp h12
    have e1 : cl (nI k) = k := cl_nI (by omega)
    refine lv_iconst (v := nI 0) hx hb dX6_refusal_15 (by decide) ?_
    refine lv_goto (tgt := 20) hx hb dX6_refusal_16 (by decide) ?_
    have w := b_wide [M] b_nil w
    refine b_put (ty := .int) X E w (Or.inl (List.mem_of_getElem? (i := 0) rfl)) 0 rfl rfl 20 (by decide) iX6 tyX6 tyX6_ok nmX6 (by decide +kernel) rfl rfl (by decide +kernel) rfl rfl (Nat.le_of_ble_eq_true rfl) dX6_refusal_20 (fun H locs w => ?_)
    have w : bSt G vwCl [M] s [(M, .inr (6, [.int (nI td), .int (nI nA), .int (nI nJ), .ref yA, .ref yJ, .ref yg, .int (nI dn), .ref yw, .ref yc, .ref yv, .int (nI snt), .int (nI jd), .ref yr, .int (nI bn), .ref yC, .ref yD, .ref yF, .ref yS, .ref yV, .ref yH, .int (nI 0)])), (yr, .inl (G.2.1, 16, .inl rf))] _ _ := w
    refine lv_aload_n hx hb dX6_refusal_23 rfl (lv_at hl 0 rfl) ?_
    refine b_get X E w 0 rfl rfl 20 (by decide) iX6 (by decide +kernel) rfl rfl dX6_refusal_24 ?_
    refine lv_if_le (tgt := 34) hx hb dX6_refusal_27 (by decide) (fun c_27_10 => ?_) (fun c_27_10 => ?_)
    · refine lv_aload_n hx hb dX6_refusal_34 rfl (lv_at hl 0 rfl) ?_
      refine b_get X E w 0 rfl rfl 12 (by decide) iX6 (by decide +kernel) rfl rfl dX6_refusal_35 ?_
      refine lv_iload_n hx hb dX6_refusal_38 rfl (lv_at hl 1 rfl) ?_
      refine b_iald X E w 1 rfl k rfl (by omega) (by first | decide | omega) dX6_refusal_39 ?_
      exact W.iret (v := rf k) hx hb hr (fun t9 ht9 hW9 => ⟨⟨rf k, (), rfl, by rw [hT, e1]; rfl, by show va_P G.1 vwCl _ t9.heap; rw [ht9]; exact b_cg (by rw [hT]) (w.1.sub (ws' := [(M, .inr (6, [.int (nI td), .int (nI nA), .int (nI nJ), .ref yA, .ref yJ, .ref yg, .int (nI dn), .ref yw, .ref yc, .ref yv, .int (nI snt), .int (nI jd), .ref yr, .int (nI bn), .ref yC, .ref yD, .ref yF, .ref yS, .ref yV, .ref yH, .int (nI 0)]))]) [0] rfl)⟩, w.2.1.F ht9⟩) w.2.1.2.2 dX6_refusal_40
    · exact absurd (by decide) c_27_10
set_option maxHeartbeats 4000000 in
set_option maxRecDepth 100000 in
theorem c_X6_pass (l : Launch) (hl0 : l.stackTraces = false) (G : bG) (sz : Nat) (M yA yJ yg yw yc yv yr yC yD yF yS yV yH td nA nJ dn snt jd bn : Nat) (th : Int32) (x : Int32) (htd : td ≤ 1000) : Met l yX6_pass wsX6_pass ({ frames := 1, cells := 0, slots := 0, locals := 22 }) (va_Pc [.ref M, .int x] (bPre G vwCl bNW bSW sz [(M, .inr (6, [.int (nI td), .int (nI nA), .int (nI nJ), .ref yA, .ref yJ, .ref yg, .int (nI dn), .ref yw, .ref yc, .ref yv, .int (nI snt), .int (nI jd), .ref yr, .int (nI bn), .ref yC, .ref yD, .ref yF, .ref yS, .ref yV, .ref yH, .int th]))] [M])) (va_Qi (fun (r : Int32) (_ : Unit) => r = gF (th2 (pOk x) (decide (td + cl x ≤ 1000))) 0 (nI (td + cl x))) (fun (_ : Unit) (tS : State) => va_P G.1 vwCl [(M, .inr (6, [.int (nI (gN (th2 (pOk x) (decide (td + cl x ≤ 1000))) td (td + cl x))), .int (nI nA), .int (nI nJ), .ref yA, .ref yJ, .ref yg, .int (nI dn), .ref yw, .ref yc, .ref yv, .int (nI snt), .int (nI jd), .ref yr, .int (nI bn), .ref yC, .ref yD, .ref yF, .ref yS, .ref yV, .ref yH, .int (nI (th2 (pOk x) (decide (td + cl x ≤ 1000))))]))] tS.heap) (Aw [M] sz)) 0 0 (Aw [M] sz) := by
  refine Met.ofW (cc := cX6_pass) (maxL := 2) (ret := (some .int)) (by decide) rfl ?_
  intro p e s m args below meth c s₁ B hml hv
  obtain ⟨rfl, hsz, hP, hD, E, Z⟩ := hv
  have hts := atoms_spec (ws := wsX6_pass) B.pre
  have hown : s.vm.findClass RX6 = some m.cls := findClass_of_methodNamed B.named
  have X : CallFix p m c cX6_pass 2 s _ wsX6_pass RX6 := ⟨B.exec, B.bytes, hml, hown, hts⟩
  have hx := B.exec
  have hb := B.bytes
  have hr := B.returns
  have hlocks := B.notSynchronized
  subst hsz
  have w : bSt G vwCl [] s [(M, .inr (6, [.int (nI td), .int (nI nA), .int (nI nJ), .ref yA, .ref yJ, .ref yg, .int (nI dn), .ref yw, .ref yc, .ref yv, .int (nI snt), .int (nI jd), .ref yr, .int (nI bn), .ref yC, .ref yD, .ref yF, .ref yS, .ref yV, .ref yH, .int th]))] s.heap [] := ⟨hP, va_S.rf, hD⟩
  have Z0 : bZ [] s := ⟨Z.1.narrow (fun q h => h.elim (fun h => nomatch h) Or.inr), Z.2.narrow (fun q h => h.elim (fun h => nomatch h) Or.inr)⟩
  have iX6 : ∀ w ∈ wsX60, w ∈ wsX6_pass := by decide +kernel
  have hl := lv_entry ([.ref M, .int x]) (n := 2) (Nat.le_of_ble_eq_true rfl)
  rw [lg_entry_eq]
  generalize (lg_sl ([.ref M, .int x]) ++ List.replicate (2 - (lg_sl ([.ref M, .int x])).length) Slot.unset).toArray = ls at hl ⊢
  have hl : lv_has ls 2 [(0, .ref M), (1, .int x)] := hl
  refine lv_aload_n hx hb dX6_pass_0 rfl (lv_at hl 0 rfl) ?_
  refine lv_iload_n hx hb dX6_pass_1 rfl (lv_at hl 1 rfl) ?_
  refine lv_iconst (v := nI 1) hx hb dX6_pass_2 (by decide) ?_
  refine lv_bipush (v := nI 100) hx hb dX6_pass_3 (by decide) ?_
  refine b_calli w (va_runS (As := [.int x, .int (nI 1), .int (nI 100)]) (rest := [.ref M]) X (c_X6_isIn l hl0 G _ (x := x) (lo := nI 1) (hi := nI 100) ) (va_cwS 3 hts gX6_pass_X6_isIn rfl rfl rfl (by decide +kernel) ⟨Nat.le_of_ble_eq_true rfl, Nat.le_of_ble_eq_true rfl⟩) ⟨b_blind, (fun U9 hU9 hW9 => ⟨rfl, b_pre E Z0 w [] (by decide) rfl b_nil U9 hU9 hW9⟩)⟩ rfl rfl hl.1 rfl (lv_room (Nat.le_of_ble_eq_true rfl)) dX6_pass_5 ⟨Nat.le_of_ble_eq_true rfl, Nat.le_of_ble_eq_true rfl⟩) b_nil [] (fun _ => rfl) rfl (fun r5_12 u5_12 H locs hr5_12 w => ?_)
  have w : bSt G vwCl [] s [(M, .inr (6, [.int (nI td), .int (nI nA), .int (nI nJ), .ref yA, .ref yJ, .ref yg, .int (nI dn), .ref yw, .ref yc, .ref yv, .int (nI snt), .int (nI jd), .ref yr, .int (nI bn), .ref yC, .ref yD, .ref yF, .ref yS, .ref yV, .ref yH, .int th]))] _ _ := w
  subst hr5_12
  refine b_tp (show bI (tIn x (nI 1) (nI 100)) = bI (pOk x) from congrArg bI tIn_p) ?_
  refine lv_if_ne (tgt := 15) hx hb dX6_pass_8 (by decide) (fun c_8_13 => ?_) (fun c_8_13 => ?_)
  · have q_8_14 : (pOk x) = true := bI_n0.mp c_8_13
    have h8 := q_8_14
    have h9a : ¬ x < nI 1 ∧ x ≤ nI 100 := by simpa [pOk] using h8
    obtain ⟨k, hk1, hk2, rfl⟩ := pOk_yes h9a.1 h9a.2
    have e1 : cl (nI k) = k := cl_nI (by omega)
    refine lv_aload_n hx hb dX6_pass_15 rfl (lv_at hl 0 rfl) ?_
    refine b_get X E w 0 rfl rfl 0 (by decide) iX6 (by decide +kernel) rfl rfl dX6_pass_16 ?_
    refine lv_iload_n hx hb dX6_pass_19 rfl (lv_at hl 1 rfl) ?_
    refine lv_iadd hx hb dX6_pass_20 ?_
    refine b_tp (show (nI td) + (nI k) = nI (td + k) from nI_add td k) ?_
    refine lv_sipush (v := nI 1000) hx hb dX6_pass_21 (by decide) ?_
    refine lv_icmp_le (tgt := 31) hx hb dX6_pass_24 (by decide) (fun c_24_15 => ?_) (fun c_24_15 => ?_)
    · have q_24_16 : td + k ≤ 1000 := q_le (by omega) (by omega) c_24_15
      have hT : th2 (pOk (nI k)) (decide (td + cl (nI k) ≤ 1000)) = 0 := by rw [e1]; simp [th2, h8, q_24_16]
      refine lv_iconst (v := nI 0) hx hb dX6_pass_31 (by decide) ?_
      have w := b_wide [M] b_nil w
      refine b_put (ty := .int) X E w (Or.inl (List.mem_of_getElem? (i := 0) rfl)) 0 rfl rfl 20 (by decide) iX6 tyX6 tyX6_ok nmX6 (by decide +kernel) rfl rfl (by decide +kernel) rfl rfl (Nat.le_of_ble_eq_true rfl) dX6_pass_32 (fun H locs w => ?_)
      have w : bSt G vwCl [M] s [(M, .inr (6, [.int (nI td), .int (nI nA), .int (nI nJ), .ref yA, .ref yJ, .ref yg, .int (nI dn), .ref yw, .ref yc, .ref yv, .int (nI snt), .int (nI jd), .ref yr, .int (nI bn), .ref yC, .ref yD, .ref yF, .ref yS, .ref yV, .ref yH, .int (nI 0)]))] _ _ := w
      refine lv_aload_n hx hb dX6_pass_35 rfl (lv_at hl 0 rfl) ?_
      refine lv_dup hx hb dX6_pass_36 rfl ?_
      refine b_get X E w 0 rfl rfl 0 (by decide) iX6 (by decide +kernel) rfl rfl dX6_pass_37 ?_
      refine lv_aload_n hx hb dX6_pass_40 rfl (lv_at hl 0 rfl) ?_
      refine b_get X E w 0 rfl rfl 20 (by decide) iX6 (by decide +kernel) rfl rfl dX6_pass_41 ?_
      refine lv_if_ne (tgt := 51) hx hb dX6_pass_44 (by decide) (fun c_44_17 => ?_) (fun c_44_17 => ?_)
      · exact absurd rfl c_44_17
      · refine lv_iload_n hx hb dX6_pass_47 rfl (lv_at hl 1 rfl) ?_
        refine lv_goto (tgt := 52) hx hb dX6_pass_48 (by decide) ?_
        refine lv_iadd hx hb dX6_pass_52 ?_
        refine b_tp (show (nI td) + (nI k) = nI (td + k) from nI_add td k) ?_
        refine b_put (ty := .int) X E w (Or.inl (List.mem_of_getElem? (i := 0) rfl)) 0 rfl rfl 0 (by decide) iX6 tyX6 tyX6_ok nmX6 (by decide +kernel) rfl rfl (by decide +kernel) rfl rfl (Nat.le_of_ble_eq_true rfl) dX6_pass_53 (fun H locs w => ?_)
        have w : bSt G vwCl [M] s [(M, .inr (6, [.int (nI (td + k)), .int (nI nA), .int (nI nJ), .ref yA, .ref yJ, .ref yg, .int (nI dn), .ref yw, .ref yc, .ref yv, .int (nI snt), .int (nI jd), .ref yr, .int (nI bn), .ref yC, .ref yD, .ref yF, .ref yS, .ref yV, .ref yH, .int (nI 0)]))] _ _ := w
        refine lv_aload_n hx hb dX6_pass_56 rfl (lv_at hl 0 rfl) ?_
        refine b_get X E w 0 rfl rfl 20 (by decide) iX6 (by decide +kernel) rfl rfl dX6_pass_57 ?_
        refine lv_if_le (tgt := 67) hx hb dX6_pass_60 (by decide) (fun c_60_18 => ?_) (fun c_60_18 => ?_)
        · refine lv_aload_n hx hb dX6_pass_67 rfl (lv_at hl 0 rfl) ?_
          refine b_get X E w 0 rfl rfl 0 (by decide) iX6 (by decide +kernel) rfl rfl dX6_pass_68 ?_
          exact W.iret (v := nI (td + k)) hx hb hr (fun t9 ht9 hW9 => ⟨⟨nI (td + k), (), rfl, by rw [hT, e1]; rfl, by show va_P G.1 vwCl _ t9.heap; rw [ht9]; exact b_cg (by rw [hT, e1]; rfl) (w.1.sub (ws' := [(M, .inr (6, [.int (nI (td + k)), .int (nI nA), .int (nI nJ), .ref yA, .ref yJ, .ref yg, .int (nI dn), .ref yw, .ref yc, .ref yv, .int (nI snt), .int (nI jd), .ref yr, .int (nI bn), .ref yC, .ref yD, .ref yF, .ref yS, .ref yV, .ref yH, .int (nI 0)]))]) [0] rfl)⟩, w.2.1.F ht9⟩) w.2.1.2.2 dX6_pass_71
        · exact absurd (by decide) c_60_18
    · have q_24_16 : 1000 < td + k := q_nle (by omega) (by omega) c_24_15
      have hT : th2 (pOk (nI k)) (decide (td + cl (nI k) ≤ 1000)) = 2 := by rw [e1]; simp [th2, h8]; omega
      refine lv_iconst (v := nI 2) hx hb dX6_pass_27 (by decide) ?_
      refine lv_goto (tgt := 32) hx hb dX6_pass_28 (by decide) ?_
      have w := b_wide [M] b_nil w
      refine b_put (ty := .int) X E w (Or.inl (List.mem_of_getElem? (i := 0) rfl)) 0 rfl rfl 20 (by decide) iX6 tyX6 tyX6_ok nmX6 (by decide +kernel) rfl rfl (by decide +kernel) rfl rfl (Nat.le_of_ble_eq_true rfl) dX6_pass_32 (fun H locs w => ?_)
      have w : bSt G vwCl [M] s [(M, .inr (6, [.int (nI td), .int (nI nA), .int (nI nJ), .ref yA, .ref yJ, .ref yg, .int (nI dn), .ref yw, .ref yc, .ref yv, .int (nI snt), .int (nI jd), .ref yr, .int (nI bn), .ref yC, .ref yD, .ref yF, .ref yS, .ref yV, .ref yH, .int (nI 2)]))] _ _ := w
      refine lv_aload_n hx hb dX6_pass_35 rfl (lv_at hl 0 rfl) ?_
      refine lv_dup hx hb dX6_pass_36 rfl ?_
      refine b_get X E w 0 rfl rfl 0 (by decide) iX6 (by decide +kernel) rfl rfl dX6_pass_37 ?_
      refine lv_aload_n hx hb dX6_pass_40 rfl (lv_at hl 0 rfl) ?_
      refine b_get X E w 0 rfl rfl 20 (by decide) iX6 (by decide +kernel) rfl rfl dX6_pass_41 ?_
      refine lv_if_ne (tgt := 51) hx hb dX6_pass_44 (by decide) (fun c_44_19 => ?_) (fun c_44_19 => ?_)
      · refine lv_iconst (v := nI 0) hx hb dX6_pass_51 (by decide) ?_
        refine lv_iadd hx hb dX6_pass_52 ?_
        refine b_tp (show (nI td) + (nI 0) = nI (td + 0) from nI_add td 0) ?_
        refine b_put (ty := .int) X E w (Or.inl (List.mem_of_getElem? (i := 0) rfl)) 0 rfl rfl 0 (by decide) iX6 tyX6 tyX6_ok nmX6 (by decide +kernel) rfl rfl (by decide +kernel) rfl rfl (Nat.le_of_ble_eq_true rfl) dX6_pass_53 (fun H locs w => ?_)
        have w : bSt G vwCl [M] s [(M, .inr (6, [.int (nI (td + 0)), .int (nI nA), .int (nI nJ), .ref yA, .ref yJ, .ref yg, .int (nI dn), .ref yw, .ref yc, .ref yv, .int (nI snt), .int (nI jd), .ref yr, .int (nI bn), .ref yC, .ref yD, .ref yF, .ref yS, .ref yV, .ref yH, .int (nI 2)]))] _ _ := w
        refine lv_aload_n hx hb dX6_pass_56 rfl (lv_at hl 0 rfl) ?_
        refine b_get X E w 0 rfl rfl 20 (by decide) iX6 (by decide +kernel) rfl rfl dX6_pass_57 ?_
        refine lv_if_le (tgt := 67) hx hb dX6_pass_60 (by decide) (fun c_60_20 => ?_) (fun c_60_20 => ?_)
        · exact absurd c_60_20 (by decide)
        · refine lv_iconst (v := nI 0) hx hb dX6_pass_63 (by decide) ?_
          refine lv_goto (tgt := 71) hx hb dX6_pass_64 (by decide) ?_
          exact W.iret (v := nI 0) hx hb hr (fun t9 ht9 hW9 => ⟨⟨nI 0, (), rfl, by rw [hT]; rfl, by show va_P G.1 vwCl _ t9.heap; rw [ht9]; exact b_cg (by rw [hT]; rfl) (w.1.sub (ws' := [(M, .inr (6, [.int (nI (td + 0)), .int (nI nA), .int (nI nJ), .ref yA, .ref yJ, .ref yg, .int (nI dn), .ref yw, .ref yc, .ref yv, .int (nI snt), .int (nI jd), .ref yr, .int (nI bn), .ref yC, .ref yD, .ref yF, .ref yS, .ref yV, .ref yH, .int (nI 2)]))]) [0] rfl)⟩, w.2.1.F ht9⟩) w.2.1.2.2 dX6_pass_71
      · exact absurd c_44_19 (by decide)
  · have q_8_14 : (pOk x) = false := bI_0.mp c_8_13
    have hT : th2 (pOk x) (decide (td + cl x ≤ 1000)) = 1 := by simp [th2, q_8_14]
    refine lv_iconst (v := nI 1) hx hb dX6_pass_11 (by decide) ?_
    refine lv_goto (tgt := 32) hx hb dX6_pass_12 (by decide) ?_
    have w := b_wide [M] b_nil w
    refine b_put (ty := .int) X E w (Or.inl (List.mem_of_getElem? (i := 0) rfl)) 0 rfl rfl 20 (by decide) iX6 tyX6 tyX6_ok nmX6 (by decide +kernel) rfl rfl (by decide +kernel) rfl rfl (Nat.le_of_ble_eq_true rfl) dX6_pass_32 (fun H locs w => ?_)
    have w : bSt G vwCl [M] s [(M, .inr (6, [.int (nI td), .int (nI nA), .int (nI nJ), .ref yA, .ref yJ, .ref yg, .int (nI dn), .ref yw, .ref yc, .ref yv, .int (nI snt), .int (nI jd), .ref yr, .int (nI bn), .ref yC, .ref yD, .ref yF, .ref yS, .ref yV, .ref yH, .int (nI 1)]))] _ _ := w
    refine lv_aload_n hx hb dX6_pass_35 rfl (lv_at hl 0 rfl) ?_
    refine lv_dup hx hb dX6_pass_36 rfl ?_
    refine b_get X E w 0 rfl rfl 0 (by decide) iX6 (by decide +kernel) rfl rfl dX6_pass_37 ?_
    refine lv_aload_n hx hb dX6_pass_40 rfl (lv_at hl 0 rfl) ?_
    refine b_get X E w 0 rfl rfl 20 (by decide) iX6 (by decide +kernel) rfl rfl dX6_pass_41 ?_
    refine lv_if_ne (tgt := 51) hx hb dX6_pass_44 (by decide) (fun c_44_21 => ?_) (fun c_44_21 => ?_)
    · refine lv_iconst (v := nI 0) hx hb dX6_pass_51 (by decide) ?_
      refine lv_iadd hx hb dX6_pass_52 ?_
      refine b_tp (show (nI td) + (nI 0) = nI (td + 0) from nI_add td 0) ?_
      refine b_put (ty := .int) X E w (Or.inl (List.mem_of_getElem? (i := 0) rfl)) 0 rfl rfl 0 (by decide) iX6 tyX6 tyX6_ok nmX6 (by decide +kernel) rfl rfl (by decide +kernel) rfl rfl (Nat.le_of_ble_eq_true rfl) dX6_pass_53 (fun H locs w => ?_)
      have w : bSt G vwCl [M] s [(M, .inr (6, [.int (nI (td + 0)), .int (nI nA), .int (nI nJ), .ref yA, .ref yJ, .ref yg, .int (nI dn), .ref yw, .ref yc, .ref yv, .int (nI snt), .int (nI jd), .ref yr, .int (nI bn), .ref yC, .ref yD, .ref yF, .ref yS, .ref yV, .ref yH, .int (nI 1)]))] _ _ := w
      refine lv_aload_n hx hb dX6_pass_56 rfl (lv_at hl 0 rfl) ?_
      refine b_get X E w 0 rfl rfl 20 (by decide) iX6 (by decide +kernel) rfl rfl dX6_pass_57 ?_
      refine lv_if_le (tgt := 67) hx hb dX6_pass_60 (by decide) (fun c_60_22 => ?_) (fun c_60_22 => ?_)
      · exact absurd c_60_22 (by decide)
      · refine lv_iconst (v := nI 0) hx hb dX6_pass_63 (by decide) ?_
        refine lv_goto (tgt := 71) hx hb dX6_pass_64 (by decide) ?_
        exact W.iret (v := nI 0) hx hb hr (fun t9 ht9 hW9 => ⟨⟨nI 0, (), rfl, by rw [hT]; rfl, by show va_P G.1 vwCl _ t9.heap; rw [ht9]; exact b_cg (by rw [hT]; rfl) (w.1.sub (ws' := [(M, .inr (6, [.int (nI (td + 0)), .int (nI nA), .int (nI nJ), .ref yA, .ref yJ, .ref yg, .int (nI dn), .ref yw, .ref yc, .ref yv, .int (nI snt), .int (nI jd), .ref yr, .int (nI bn), .ref yC, .ref yD, .ref yF, .ref yS, .ref yV, .ref yH, .int (nI 1)]))]) [0] rfl)⟩, w.2.1.F ht9⟩) w.2.1.2.2 dX6_pass_71
    · exact absurd c_44_21 (by decide)
set_option maxHeartbeats 4000000 in
set_option maxRecDepth 100000 in
theorem c_X6_area (l : Launch) (hl0 : l.stackTraces = false) (G : bG) (sz : Nat) (M yA yJ yg yw yc yv yr yC yD yF yS yV yH td nA nJ dn snt jd bn : Nat) (th : Int32) (fA : Nat → Int32) (x : Int32) (hnA : nA ≤ 14) : Met l yX6_area wsX6_area ({ frames := 2, cells := 0, slots := 0, locals := 43 }) (va_Pc [.ref M, .int x] (bPre G vwCl bNW bSW sz [(M, .inr (6, [.int (nI td), .int (nI nA), .int (nI nJ), .ref yA, .ref yJ, .ref yg, .int (nI dn), .ref yw, .ref yc, .ref yv, .int (nI snt), .int (nI jd), .ref yr, .int (nI bn), .ref yC, .ref yD, .ref yF, .ref yS, .ref yV, .ref yH, .int th])), (yA, .inl (G.2.1, 14, .inl fA))] [M, yA])) (va_Qi (fun (r : Int32) (_ : Unit) => r = gF (th2 (tPat nA x) (decide (nA < 14))) 0 (nI nA)) (fun (_ : Unit) (tS : State) => va_P G.1 vwCl [(M, .inr (6, [.int (nI td), .int (nI (gN (th2 (tPat nA x) (decide (nA < 14))) nA (nA + 1))), .int (nI nJ), .ref yA, .ref yJ, .ref yg, .int (nI dn), .ref yw, .ref yc, .ref yv, .int (nI snt), .int (nI jd), .ref yr, .int (nI bn), .ref yC, .ref yD, .ref yF, .ref yS, .ref yV, .ref yH, .int (nI (th2 (tPat nA x) (decide (nA < 14))))])), (yA, .inl (G.2.1, 14, .inl (gF (th2 (tPat nA x) (decide (nA < 14))) fA (upd fA nA x))))] tS.heap) (Aw [M, yA] sz)) 0 0 (Aw [M, yA] sz) := by
  refine Met.ofW (cc := cX6_area) (maxL := 2) (ret := (some .int)) (by decide) rfl ?_
  intro p e s m args below meth c s₁ B hml hv
  obtain ⟨rfl, hsz, hP, hD, E, Z⟩ := hv
  have hts := atoms_spec (ws := wsX6_area) B.pre
  have hown : s.vm.findClass RX6 = some m.cls := findClass_of_methodNamed B.named
  have X : CallFix p m c cX6_area 2 s _ wsX6_area RX6 := ⟨B.exec, B.bytes, hml, hown, hts⟩
  have hx := B.exec
  have hb := B.bytes
  have hr := B.returns
  have hlocks := B.notSynchronized
  subst hsz
  have w : bSt G vwCl [] s [(M, .inr (6, [.int (nI td), .int (nI nA), .int (nI nJ), .ref yA, .ref yJ, .ref yg, .int (nI dn), .ref yw, .ref yc, .ref yv, .int (nI snt), .int (nI jd), .ref yr, .int (nI bn), .ref yC, .ref yD, .ref yF, .ref yS, .ref yV, .ref yH, .int th])), (yA, .inl (G.2.1, 14, .inl fA))] s.heap [] := ⟨hP, va_S.rf, hD⟩
  have Z0 : bZ [] s := ⟨Z.1.narrow (fun q h => h.elim (fun h => nomatch h) Or.inr), Z.2.narrow (fun q h => h.elim (fun h => nomatch h) Or.inr)⟩
  have iX6 : ∀ w ∈ wsX60, w ∈ wsX6_area := by decide +kernel
  have hl := lv_entry ([.ref M, .int x]) (n := 2) (Nat.le_of_ble_eq_true rfl)
  rw [lg_entry_eq]
  generalize (lg_sl ([.ref M, .int x]) ++ List.replicate (2 - (lg_sl ([.ref M, .int x])).length) Slot.unset).toArray = ls at hl ⊢
  have hl : lv_has ls 2 [(0, .ref M), (1, .int x)] := hl
  refine lv_aload_n hx hb dX6_area_0 rfl (lv_at hl 0 rfl) ?_
  refine lv_iload_n hx hb dX6_area_1 rfl (lv_at hl 1 rfl) ?_
  refine lv_iconst (v := -1) hx hb dX6_area_2 (by decide) ?_
  refine lv_icmp_eq (tgt := 18) hx hb dX6_area_3 (by decide) (fun c_3_14 => ?_) (fun c_3_14 => ?_)
  · have hP1 : tPat nA x = true := by simp [tPat, c_3_14]
    refine lv_aload_n hx hb dX6_area_18 rfl (lv_at hl 0 rfl) ?_
    refine b_get X E w 0 rfl rfl 1 (by decide) iX6 (by decide +kernel) rfl rfl dX6_area_19 ?_
    refine lv_bipush (v := nI 14) hx hb dX6_area_22 (by decide) ?_
    refine lv_icmp_ne (tgt := 31) hx hb dX6_area_24 (by decide) (fun c_24_15 => ?_) (fun c_24_15 => ?_)
    · have q_24_16 : ¬ nA = 14 := fun h9 => c_24_15 ((nI_eq (by omega) (by omega)).mpr h9)
      have h24 : nA < 14 := by omega
      have hT : th2 (tPat nA x) (decide (nA < 14)) = 0 := by simp [th2, hP1, h24]
      refine lv_iconst (v := nI 0) hx hb dX6_area_31 (by decide) ?_
      have w := b_wide [M, yA] b_nil w
      refine b_put (ty := .int) X E w (Or.inl (List.mem_of_getElem? (i := 0) rfl)) 0 rfl rfl 20 (by decide) iX6 tyX6 tyX6_ok nmX6 (by decide +kernel) rfl rfl (by decide +kernel) rfl rfl (Nat.le_of_ble_eq_true rfl) dX6_area_32 (fun H locs w => ?_)
      have w : bSt G vwCl [M, yA] s [(M, .inr (6, [.int (nI td), .int (nI nA), .int (nI nJ), .ref yA, .ref yJ, .ref yg, .int (nI dn), .ref yw, .ref yc, .ref yv, .int (nI snt), .int (nI jd), .ref yr, .int (nI bn), .ref yC, .ref yD, .ref yF, .ref yS, .ref yV, .ref yH, .int (nI 0)])), (yA, .inl (G.2.1, 14, .inl fA))] _ _ := w
      refine lv_aload_n hx hb dX6_area_35 rfl (lv_at hl 0 rfl) ?_
      refine b_get X E w 0 rfl rfl 20 (by decide) iX6 (by decide +kernel) rfl rfl dX6_area_36 ?_
      refine lv_if_le (tgt := 44) hx hb dX6_area_39 (by decide) (fun c_39_17 => ?_) (fun c_39_17 => ?_)
      · refine lv_aload_n hx hb dX6_area_44 rfl (lv_at hl 0 rfl) ?_
        refine b_get X E w 0 rfl rfl 3 (by decide) iX6 (by decide +kernel) rfl rfl dX6_area_45 ?_
        refine lv_aload_n hx hb dX6_area_48 rfl (lv_at hl 0 rfl) ?_
        refine b_get X E w 0 rfl rfl 1 (by decide) iX6 (by decide +kernel) rfl rfl dX6_area_49 ?_
        refine lv_iload_n hx hb dX6_area_52 rfl (lv_at hl 1 rfl) ?_
        refine b_iast X E w (Or.inl (List.mem_of_getElem? (i := 1) rfl)) 1 rfl nA rfl (by omega) (by first | decide | omega) dX6_area_53 (fun H locs w => ?_)
        have w : bSt G vwCl [M, yA] s [(M, .inr (6, [.int (nI td), .int (nI nA), .int (nI nJ), .ref yA, .ref yJ, .ref yg, .int (nI dn), .ref yw, .ref yc, .ref yv, .int (nI snt), .int (nI jd), .ref yr, .int (nI bn), .ref yC, .ref yD, .ref yF, .ref yS, .ref yV, .ref yH, .int (nI 0)])), (yA, .inl (G.2.1, 14, .inl (upd fA nA x)))] _ _ := w
        refine lv_aload_n hx hb dX6_area_54 rfl (lv_at hl 0 rfl) ?_
        refine lv_dup hx hb dX6_area_55 rfl ?_
        refine b_get X E w 0 rfl rfl 1 (by decide) iX6 (by decide +kernel) rfl rfl dX6_area_56 ?_
        refine lv_iconst (v := nI 1) hx hb dX6_area_59 (by decide) ?_
        refine lv_iadd hx hb dX6_area_60 ?_
        refine b_tp (show (nI nA) + (nI 1) = nI (nA + 1) from nI_add nA 1) ?_
        refine b_put (ty := .int) X E w (Or.inl (List.mem_of_getElem? (i := 0) rfl)) 0 rfl rfl 1 (by decide) iX6 tyX6 tyX6_ok nmX6 (by decide +kernel) rfl rfl (by decide +kernel) rfl rfl (Nat.le_of_ble_eq_true rfl) dX6_area_61 (fun H locs w => ?_)
        have w : bSt G vwCl [M, yA] s [(M, .inr (6, [.int (nI td), .int (nI (nA + 1)), .int (nI nJ), .ref yA, .ref yJ, .ref yg, .int (nI dn), .ref yw, .ref yc, .ref yv, .int (nI snt), .int (nI jd), .ref yr, .int (nI bn), .ref yC, .ref yD, .ref yF, .ref yS, .ref yV, .ref yH, .int (nI 0)])), (yA, .inl (G.2.1, 14, .inl (upd fA nA x)))] _ _ := w
        refine lv_aload_n hx hb dX6_area_64 rfl (lv_at hl 0 rfl) ?_
        refine b_get X E w 0 rfl rfl 1 (by decide) iX6 (by decide +kernel) rfl rfl dX6_area_65 ?_
        refine lv_iconst (v := nI 1) hx hb dX6_area_68 (by decide) ?_
        refine lv_isub hx hb dX6_area_69 ?_
        refine b_tp (show (nI (nA + 1)) - (nI 1) = nI nA from (pk_sub (by omega))) ?_
        exact W.iret (v := nI nA) hx hb hr (fun t9 ht9 hW9 => ⟨⟨nI nA, (), rfl, by rw [hT]; rfl, by show va_P G.1 vwCl _ t9.heap; rw [ht9]; exact b_cg (by rw [hT]; rfl) (w.1.sub (ws' := [(M, .inr (6, [.int (nI td), .int (nI (nA + 1)), .int (nI nJ), .ref yA, .ref yJ, .ref yg, .int (nI dn), .ref yw, .ref yc, .ref yv, .int (nI snt), .int (nI jd), .ref yr, .int (nI bn), .ref yC, .ref yD, .ref yF, .ref yS, .ref yV, .ref yH, .int (nI 0)])), (yA, .inl (G.2.1, 14, .inl (upd fA nA x)))]) [0, 1] rfl)⟩, w.2.1.F ht9⟩) w.2.1.2.2 dX6_area_70
      · exact absurd (by decide) c_39_17
    · have q_24_16 : nA = 14 := (nI_eq (by omega) (by omega)).mp c_24_15
      have h24 : ¬ nA < 14 := by omega
      have hT : th2 (tPat nA x) (decide (nA < 14)) = 2 := by simp [th2, hP1, h24]
      refine lv_iconst (v := nI 2) hx hb dX6_area_27 (by decide) ?_
      refine lv_goto (tgt := 32) hx hb dX6_area_28 (by decide) ?_
      have w := b_wide [M, yA] b_nil w
      refine b_put (ty := .int) X E w (Or.inl (List.mem_of_getElem? (i := 0) rfl)) 0 rfl rfl 20 (by decide) iX6 tyX6 tyX6_ok nmX6 (by decide +kernel) rfl rfl (by decide +kernel) rfl rfl (Nat.le_of_ble_eq_true rfl) dX6_area_32 (fun H locs w => ?_)
      have w : bSt G vwCl [M, yA] s [(M, .inr (6, [.int (nI td), .int (nI nA), .int (nI nJ), .ref yA, .ref yJ, .ref yg, .int (nI dn), .ref yw, .ref yc, .ref yv, .int (nI snt), .int (nI jd), .ref yr, .int (nI bn), .ref yC, .ref yD, .ref yF, .ref yS, .ref yV, .ref yH, .int (nI 2)])), (yA, .inl (G.2.1, 14, .inl fA))] _ _ := w
      refine lv_aload_n hx hb dX6_area_35 rfl (lv_at hl 0 rfl) ?_
      refine b_get X E w 0 rfl rfl 20 (by decide) iX6 (by decide +kernel) rfl rfl dX6_area_36 ?_
      refine lv_if_le (tgt := 44) hx hb dX6_area_39 (by decide) (fun c_39_18 => ?_) (fun c_39_18 => ?_)
      · exact absurd c_39_18 (by decide)
      · refine lv_iconst (v := nI 0) hx hb dX6_area_42 (by decide) ?_
        exact W.iret (v := nI 0) hx hb hr (fun t9 ht9 hW9 => ⟨⟨nI 0, (), rfl, by rw [hT]; rfl, by show va_P G.1 vwCl _ t9.heap; rw [ht9]; exact b_cg (by rw [hT]; rfl) (w.1.sub (ws' := [(M, .inr (6, [.int (nI td), .int (nI nA), .int (nI nJ), .ref yA, .ref yJ, .ref yg, .int (nI dn), .ref yw, .ref yc, .ref yv, .int (nI snt), .int (nI jd), .ref yr, .int (nI bn), .ref yC, .ref yD, .ref yF, .ref yS, .ref yV, .ref yH, .int (nI 2)])), (yA, .inl (G.2.1, 14, .inl fA))]) [0, 1] rfl)⟩, w.2.1.F ht9⟩) w.2.1.2.2 dX6_area_43
  · have c3 := c_3_14
    refine lv_aload_n hx hb dX6_area_6 rfl (lv_at hl 0 rfl) ?_
    refine lv_iload_n hx hb dX6_area_7 rfl (lv_at hl 1 rfl) ?_
    refine b_calli w (va_runV (As := [.int x]) (rest := [.ref M]) X (c_X6_isArea l hl0 G _ (M := M) (x := x) (td := td) (nA := nA) (nJ := nJ) (yA := yA) (yJ := yJ) (yg := yg) (dn := dn) (yw := yw) (yc := yc) (yv := yv) (snt := snt) (jd := jd) (yr := yr) (bn := bn) (yC := yC) (yD := yD) (yF := yF) (yS := yS) (yV := yV) (yH := yH) (th := th) (hnA := (by first | assumption | omega))) (cwV 1 hts gX6_area_X6_isArea rfl rfl rfl (by decide +kernel) ⟨Nat.le_of_ble_eq_true rfl, Nat.le_of_ble_eq_true rfl⟩) ⟨b_blind, b_recv E w (ci := 6) (q0 := 0) rfl rfl, (fun U9 hU9 hW9 => ⟨rfl, b_pre E Z0 w [0] (by decide) rfl b_nil U9 hU9 hW9⟩)⟩ rfl rfl hl.1 rfl (lv_room (Nat.le_of_ble_eq_true rfl)) dX6_area_8 ⟨Nat.le_of_ble_eq_true rfl, Nat.le_of_ble_eq_true rfl⟩) b_nil [] (fun _ => rfl) rfl (fun r8_19 u8_19 H locs hr8_19 w => ?_)
    have w : bSt G vwCl [] s [(M, .inr (6, [.int (nI td), .int (nI nA), .int (nI nJ), .ref yA, .ref yJ, .ref yg, .int (nI dn), .ref yw, .ref yc, .ref yv, .int (nI snt), .int (nI jd), .ref yr, .int (nI bn), .ref yC, .ref yD, .ref yF, .ref yS, .ref yV, .ref yH, .int th])), (yA, .inl (G.2.1, 14, .inl fA))] _ _ := w
    subst hr8_19
    refine lv_if_ne (tgt := 18) hx hb dX6_area_11 (by decide) (fun c_11_20 => ?_) (fun c_11_20 => ?_)
    · have q_11_21 : (tHas nA x) = true := bI_n0.mp c_11_20
      have hP1 : tPat nA x = true := by simp [tPat, q_11_21]
      refine lv_aload_n hx hb dX6_area_18 rfl (lv_at hl 0 rfl) ?_
      refine b_get X E w 0 rfl rfl 1 (by decide) iX6 (by decide +kernel) rfl rfl dX6_area_19 ?_
      refine lv_bipush (v := nI 14) hx hb dX6_area_22 (by decide) ?_
      refine lv_icmp_ne (tgt := 31) hx hb dX6_area_24 (by decide) (fun c_24_22 => ?_) (fun c_24_22 => ?_)
      · have q_24_23 : ¬ nA = 14 := fun h9 => c_24_22 ((nI_eq (by omega) (by omega)).mpr h9)
        have h24 : nA < 14 := by omega
        have hT : th2 (tPat nA x) (decide (nA < 14)) = 0 := by simp [th2, hP1, h24]
        refine lv_iconst (v := nI 0) hx hb dX6_area_31 (by decide) ?_
        have w := b_wide [M, yA] b_nil w
        refine b_put (ty := .int) X E w (Or.inl (List.mem_of_getElem? (i := 0) rfl)) 0 rfl rfl 20 (by decide) iX6 tyX6 tyX6_ok nmX6 (by decide +kernel) rfl rfl (by decide +kernel) rfl rfl (Nat.le_of_ble_eq_true rfl) dX6_area_32 (fun H locs w => ?_)
        have w : bSt G vwCl [M, yA] s [(M, .inr (6, [.int (nI td), .int (nI nA), .int (nI nJ), .ref yA, .ref yJ, .ref yg, .int (nI dn), .ref yw, .ref yc, .ref yv, .int (nI snt), .int (nI jd), .ref yr, .int (nI bn), .ref yC, .ref yD, .ref yF, .ref yS, .ref yV, .ref yH, .int (nI 0)])), (yA, .inl (G.2.1, 14, .inl fA))] _ _ := w
        refine lv_aload_n hx hb dX6_area_35 rfl (lv_at hl 0 rfl) ?_
        refine b_get X E w 0 rfl rfl 20 (by decide) iX6 (by decide +kernel) rfl rfl dX6_area_36 ?_
        refine lv_if_le (tgt := 44) hx hb dX6_area_39 (by decide) (fun c_39_24 => ?_) (fun c_39_24 => ?_)
        · refine lv_aload_n hx hb dX6_area_44 rfl (lv_at hl 0 rfl) ?_
          refine b_get X E w 0 rfl rfl 3 (by decide) iX6 (by decide +kernel) rfl rfl dX6_area_45 ?_
          refine lv_aload_n hx hb dX6_area_48 rfl (lv_at hl 0 rfl) ?_
          refine b_get X E w 0 rfl rfl 1 (by decide) iX6 (by decide +kernel) rfl rfl dX6_area_49 ?_
          refine lv_iload_n hx hb dX6_area_52 rfl (lv_at hl 1 rfl) ?_
          refine b_iast X E w (Or.inl (List.mem_of_getElem? (i := 1) rfl)) 1 rfl nA rfl (by omega) (by first | decide | omega) dX6_area_53 (fun H locs w => ?_)
          have w : bSt G vwCl [M, yA] s [(M, .inr (6, [.int (nI td), .int (nI nA), .int (nI nJ), .ref yA, .ref yJ, .ref yg, .int (nI dn), .ref yw, .ref yc, .ref yv, .int (nI snt), .int (nI jd), .ref yr, .int (nI bn), .ref yC, .ref yD, .ref yF, .ref yS, .ref yV, .ref yH, .int (nI 0)])), (yA, .inl (G.2.1, 14, .inl (upd fA nA x)))] _ _ := w
          refine lv_aload_n hx hb dX6_area_54 rfl (lv_at hl 0 rfl) ?_
          refine lv_dup hx hb dX6_area_55 rfl ?_
          refine b_get X E w 0 rfl rfl 1 (by decide) iX6 (by decide +kernel) rfl rfl dX6_area_56 ?_
          refine lv_iconst (v := nI 1) hx hb dX6_area_59 (by decide) ?_
          refine lv_iadd hx hb dX6_area_60 ?_
          refine b_tp (show (nI nA) + (nI 1) = nI (nA + 1) from nI_add nA 1) ?_
          refine b_put (ty := .int) X E w (Or.inl (List.mem_of_getElem? (i := 0) rfl)) 0 rfl rfl 1 (by decide) iX6 tyX6 tyX6_ok nmX6 (by decide +kernel) rfl rfl (by decide +kernel) rfl rfl (Nat.le_of_ble_eq_true rfl) dX6_area_61 (fun H locs w => ?_)
          have w : bSt G vwCl [M, yA] s [(M, .inr (6, [.int (nI td), .int (nI (nA + 1)), .int (nI nJ), .ref yA, .ref yJ, .ref yg, .int (nI dn), .ref yw, .ref yc, .ref yv, .int (nI snt), .int (nI jd), .ref yr, .int (nI bn), .ref yC, .ref yD, .ref yF, .ref yS, .ref yV, .ref yH, .int (nI 0)])), (yA, .inl (G.2.1, 14, .inl (upd fA nA x)))] _ _ := w
          refine lv_aload_n hx hb dX6_area_64 rfl (lv_at hl 0 rfl) ?_
          refine b_get X E w 0 rfl rfl 1 (by decide) iX6 (by decide +kernel) rfl rfl dX6_area_65 ?_
          refine lv_iconst (v := nI 1) hx hb dX6_area_68 (by decide) ?_
          refine lv_isub hx hb dX6_area_69 ?_
          refine b_tp (show (nI (nA + 1)) - (nI 1) = nI nA from (pk_sub (by omega))) ?_
          exact W.iret (v := nI nA) hx hb hr (fun t9 ht9 hW9 => ⟨⟨nI nA, (), rfl, by rw [hT]; rfl, by show va_P G.1 vwCl _ t9.heap; rw [ht9]; exact b_cg (by rw [hT]; rfl) (w.1.sub (ws' := [(M, .inr (6, [.int (nI td), .int (nI (nA + 1)), .int (nI nJ), .ref yA, .ref yJ, .ref yg, .int (nI dn), .ref yw, .ref yc, .ref yv, .int (nI snt), .int (nI jd), .ref yr, .int (nI bn), .ref yC, .ref yD, .ref yF, .ref yS, .ref yV, .ref yH, .int (nI 0)])), (yA, .inl (G.2.1, 14, .inl (upd fA nA x)))]) [0, 1] rfl)⟩, w.2.1.F ht9⟩) w.2.1.2.2 dX6_area_70
        · exact absurd (by decide) c_39_24
      · have q_24_23 : nA = 14 := (nI_eq (by omega) (by omega)).mp c_24_22
        have h24 : ¬ nA < 14 := by omega
        have hT : th2 (tPat nA x) (decide (nA < 14)) = 2 := by simp [th2, hP1, h24]
        refine lv_iconst (v := nI 2) hx hb dX6_area_27 (by decide) ?_
        refine lv_goto (tgt := 32) hx hb dX6_area_28 (by decide) ?_
        have w := b_wide [M, yA] b_nil w
        refine b_put (ty := .int) X E w (Or.inl (List.mem_of_getElem? (i := 0) rfl)) 0 rfl rfl 20 (by decide) iX6 tyX6 tyX6_ok nmX6 (by decide +kernel) rfl rfl (by decide +kernel) rfl rfl (Nat.le_of_ble_eq_true rfl) dX6_area_32 (fun H locs w => ?_)
        have w : bSt G vwCl [M, yA] s [(M, .inr (6, [.int (nI td), .int (nI nA), .int (nI nJ), .ref yA, .ref yJ, .ref yg, .int (nI dn), .ref yw, .ref yc, .ref yv, .int (nI snt), .int (nI jd), .ref yr, .int (nI bn), .ref yC, .ref yD, .ref yF, .ref yS, .ref yV, .ref yH, .int (nI 2)])), (yA, .inl (G.2.1, 14, .inl fA))] _ _ := w
        refine lv_aload_n hx hb dX6_area_35 rfl (lv_at hl 0 rfl) ?_
        refine b_get X E w 0 rfl rfl 20 (by decide) iX6 (by decide +kernel) rfl rfl dX6_area_36 ?_
        refine lv_if_le (tgt := 44) hx hb dX6_area_39 (by decide) (fun c_39_25 => ?_) (fun c_39_25 => ?_)
        · exact absurd c_39_25 (by decide)
        · refine lv_iconst (v := nI 0) hx hb dX6_area_42 (by decide) ?_
          exact W.iret (v := nI 0) hx hb hr (fun t9 ht9 hW9 => ⟨⟨nI 0, (), rfl, by rw [hT]; rfl, by show va_P G.1 vwCl _ t9.heap; rw [ht9]; exact b_cg (by rw [hT]; rfl) (w.1.sub (ws' := [(M, .inr (6, [.int (nI td), .int (nI nA), .int (nI nJ), .ref yA, .ref yJ, .ref yg, .int (nI dn), .ref yw, .ref yc, .ref yv, .int (nI snt), .int (nI jd), .ref yr, .int (nI bn), .ref yC, .ref yD, .ref yF, .ref yS, .ref yV, .ref yH, .int (nI 2)])), (yA, .inl (G.2.1, 14, .inl fA))]) [0, 1] rfl)⟩, w.2.1.F ht9⟩) w.2.1.2.2 dX6_area_43
    · have q_11_21 : (tHas nA x) = false := bI_0.mp c_11_20
      have hT : th2 (tPat nA x) (decide (nA < 14)) = 1 := by simp [th2, tPat, q_11_21, c3]
      refine lv_iconst (v := nI 1) hx hb dX6_area_14 (by decide) ?_
      refine lv_goto (tgt := 32) hx hb dX6_area_15 (by decide) ?_
      have w := b_wide [M, yA] b_nil w
      refine b_put (ty := .int) X E w (Or.inl (List.mem_of_getElem? (i := 0) rfl)) 0 rfl rfl 20 (by decide) iX6 tyX6 tyX6_ok nmX6 (by decide +kernel) rfl rfl (by decide +kernel) rfl rfl (Nat.le_of_ble_eq_true rfl) dX6_area_32 (fun H locs w => ?_)
      have w : bSt G vwCl [M, yA] s [(M, .inr (6, [.int (nI td), .int (nI nA), .int (nI nJ), .ref yA, .ref yJ, .ref yg, .int (nI dn), .ref yw, .ref yc, .ref yv, .int (nI snt), .int (nI jd), .ref yr, .int (nI bn), .ref yC, .ref yD, .ref yF, .ref yS, .ref yV, .ref yH, .int (nI 1)])), (yA, .inl (G.2.1, 14, .inl fA))] _ _ := w
      refine lv_aload_n hx hb dX6_area_35 rfl (lv_at hl 0 rfl) ?_
      refine b_get X E w 0 rfl rfl 20 (by decide) iX6 (by decide +kernel) rfl rfl dX6_area_36 ?_
      refine lv_if_le (tgt := 44) hx hb dX6_area_39 (by decide) (fun c_39_26 => ?_) (fun c_39_26 => ?_)
      · exact absurd c_39_26 (by decide)
      · refine lv_iconst (v := nI 0) hx hb dX6_area_42 (by decide) ?_
        exact W.iret (v := nI 0) hx hb hr (fun t9 ht9 hW9 => ⟨⟨nI 0, (), rfl, by rw [hT]; rfl, by show va_P G.1 vwCl _ t9.heap; rw [ht9]; exact b_cg (by rw [hT]; rfl) (w.1.sub (ws' := [(M, .inr (6, [.int (nI td), .int (nI nA), .int (nI nJ), .ref yA, .ref yJ, .ref yg, .int (nI dn), .ref yw, .ref yc, .ref yv, .int (nI snt), .int (nI jd), .ref yr, .int (nI bn), .ref yC, .ref yD, .ref yF, .ref yS, .ref yV, .ref yH, .int (nI 1)])), (yA, .inl (G.2.1, 14, .inl fA))]) [0, 1] rfl)⟩, w.2.1.F ht9⟩) w.2.1.2.2 dX6_area_43
set_option maxHeartbeats 4000000 in
set_option maxRecDepth 100000 in
theorem c_X6_item (l : Launch) (hl0 : l.stackTraces = false) (G : bG) (sz : Nat) (M yA yJ yg yw yc yv yr yC yD yF yS yV yH td nA nJ dn snt jd bn : Nat) (th : Int32) (fJ : Nat → Int32) (x : Int32) (hnJ : nJ ≤ 10) : Met l yX6_item wsX6_item ({ frames := 2, cells := 0, slots := 0, locals := 43 }) (va_Pc [.ref M, .int x] (bPre G vwCl bNW bSW sz [(M, .inr (6, [.int (nI td), .int (nI nA), .int (nI nJ), .ref yA, .ref yJ, .ref yg, .int (nI dn), .ref yw, .ref yc, .ref yv, .int (nI snt), .int (nI jd), .ref yr, .int (nI bn), .ref yC, .ref yD, .ref yF, .ref yS, .ref yV, .ref yH, .int th])), (yJ, .inl (G.2.1, 10, .inl fJ))] [M, yJ])) (va_Qi (fun (r : Int32) (_ : Unit) => r = gF (th2 (tPat nJ x) (decide (nJ < 10))) 0 (nI nJ)) (fun (_ : Unit) (tS : State) => va_P G.1 vwCl [(M, .inr (6, [.int (nI td), .int (nI nA), .int (nI (gN (th2 (tPat nJ x) (decide (nJ < 10))) nJ (nJ + 1))), .ref yA, .ref yJ, .ref yg, .int (nI dn), .ref yw, .ref yc, .ref yv, .int (nI snt), .int (nI jd), .ref yr, .int (nI bn), .ref yC, .ref yD, .ref yF, .ref yS, .ref yV, .ref yH, .int (nI (th2 (tPat nJ x) (decide (nJ < 10))))])), (yJ, .inl (G.2.1, 10, .inl (gF (th2 (tPat nJ x) (decide (nJ < 10))) fJ (upd fJ nJ x))))] tS.heap) (Aw [M, yJ] sz)) 0 0 (Aw [M, yJ] sz) := by
  refine Met.ofW (cc := cX6_item) (maxL := 2) (ret := (some .int)) (by decide) rfl ?_
  intro p e s m args below meth c s₁ B hml hv
  obtain ⟨rfl, hsz, hP, hD, E, Z⟩ := hv
  have hts := atoms_spec (ws := wsX6_item) B.pre
  have hown : s.vm.findClass RX6 = some m.cls := findClass_of_methodNamed B.named
  have X : CallFix p m c cX6_item 2 s _ wsX6_item RX6 := ⟨B.exec, B.bytes, hml, hown, hts⟩
  have hx := B.exec
  have hb := B.bytes
  have hr := B.returns
  have hlocks := B.notSynchronized
  subst hsz
  have w : bSt G vwCl [] s [(M, .inr (6, [.int (nI td), .int (nI nA), .int (nI nJ), .ref yA, .ref yJ, .ref yg, .int (nI dn), .ref yw, .ref yc, .ref yv, .int (nI snt), .int (nI jd), .ref yr, .int (nI bn), .ref yC, .ref yD, .ref yF, .ref yS, .ref yV, .ref yH, .int th])), (yJ, .inl (G.2.1, 10, .inl fJ))] s.heap [] := ⟨hP, va_S.rf, hD⟩
  have Z0 : bZ [] s := ⟨Z.1.narrow (fun q h => h.elim (fun h => nomatch h) Or.inr), Z.2.narrow (fun q h => h.elim (fun h => nomatch h) Or.inr)⟩
  have iX6 : ∀ w ∈ wsX60, w ∈ wsX6_item := by decide +kernel
  have hl := lv_entry ([.ref M, .int x]) (n := 2) (Nat.le_of_ble_eq_true rfl)
  rw [lg_entry_eq]
  generalize (lg_sl ([.ref M, .int x]) ++ List.replicate (2 - (lg_sl ([.ref M, .int x])).length) Slot.unset).toArray = ls at hl ⊢
  have hl : lv_has ls 2 [(0, .ref M), (1, .int x)] := hl
  refine lv_aload_n hx hb dX6_item_0 rfl (lv_at hl 0 rfl) ?_
  refine lv_iload_n hx hb dX6_item_1 rfl (lv_at hl 1 rfl) ?_
  refine lv_iconst (v := -1) hx hb dX6_item_2 (by decide) ?_
  refine lv_icmp_eq (tgt := 18) hx hb dX6_item_3 (by decide) (fun c_3_14 => ?_) (fun c_3_14 => ?_)
  · have hP1 : tPat nJ x = true := by simp [tPat, c_3_14]
    refine lv_aload_n hx hb dX6_item_18 rfl (lv_at hl 0 rfl) ?_
    refine b_get X E w 0 rfl rfl 2 (by decide) iX6 (by decide +kernel) rfl rfl dX6_item_19 ?_
    refine lv_bipush (v := nI 10) hx hb dX6_item_22 (by decide) ?_
    refine lv_icmp_ne (tgt := 31) hx hb dX6_item_24 (by decide) (fun c_24_15 => ?_) (fun c_24_15 => ?_)
    · have q_24_16 : ¬ nJ = 10 := fun h9 => c_24_15 ((nI_eq (by omega) (by omega)).mpr h9)
      have h24 : nJ < 10 := by omega
      have hT : th2 (tPat nJ x) (decide (nJ < 10)) = 0 := by simp [th2, hP1, h24]
      refine lv_iconst (v := nI 0) hx hb dX6_item_31 (by decide) ?_
      have w := b_wide [M, yJ] b_nil w
      refine b_put (ty := .int) X E w (Or.inl (List.mem_of_getElem? (i := 0) rfl)) 0 rfl rfl 20 (by decide) iX6 tyX6 tyX6_ok nmX6 (by decide +kernel) rfl rfl (by decide +kernel) rfl rfl (Nat.le_of_ble_eq_true rfl) dX6_item_32 (fun H locs w => ?_)
      have w : bSt G vwCl [M, yJ] s [(M, .inr (6, [.int (nI td), .int (nI nA), .int (nI nJ), .ref yA, .ref yJ, .ref yg, .int (nI dn), .ref yw, .ref yc, .ref yv, .int (nI snt), .int (nI jd), .ref yr, .int (nI bn), .ref yC, .ref yD, .ref yF, .ref yS, .ref yV, .ref yH, .int (nI 0)])), (yJ, .inl (G.2.1, 10, .inl fJ))] _ _ := w
      refine lv_aload_n hx hb dX6_item_35 rfl (lv_at hl 0 rfl) ?_
      refine b_get X E w 0 rfl rfl 20 (by decide) iX6 (by decide +kernel) rfl rfl dX6_item_36 ?_
      refine lv_if_le (tgt := 44) hx hb dX6_item_39 (by decide) (fun c_39_17 => ?_) (fun c_39_17 => ?_)
      · refine lv_aload_n hx hb dX6_item_44 rfl (lv_at hl 0 rfl) ?_
        refine b_get X E w 0 rfl rfl 4 (by decide) iX6 (by decide +kernel) rfl rfl dX6_item_45 ?_
        refine lv_aload_n hx hb dX6_item_48 rfl (lv_at hl 0 rfl) ?_
        refine b_get X E w 0 rfl rfl 2 (by decide) iX6 (by decide +kernel) rfl rfl dX6_item_49 ?_
        refine lv_iload_n hx hb dX6_item_52 rfl (lv_at hl 1 rfl) ?_
        refine b_iast X E w (Or.inl (List.mem_of_getElem? (i := 1) rfl)) 1 rfl nJ rfl (by omega) (by first | decide | omega) dX6_item_53 (fun H locs w => ?_)
        have w : bSt G vwCl [M, yJ] s [(M, .inr (6, [.int (nI td), .int (nI nA), .int (nI nJ), .ref yA, .ref yJ, .ref yg, .int (nI dn), .ref yw, .ref yc, .ref yv, .int (nI snt), .int (nI jd), .ref yr, .int (nI bn), .ref yC, .ref yD, .ref yF, .ref yS, .ref yV, .ref yH, .int (nI 0)])), (yJ, .inl (G.2.1, 10, .inl (upd fJ nJ x)))] _ _ := w
        refine lv_aload_n hx hb dX6_item_54 rfl (lv_at hl 0 rfl) ?_
        refine lv_dup hx hb dX6_item_55 rfl ?_
        refine b_get X E w 0 rfl rfl 2 (by decide) iX6 (by decide +kernel) rfl rfl dX6_item_56 ?_
        refine lv_iconst (v := nI 1) hx hb dX6_item_59 (by decide) ?_
        refine lv_iadd hx hb dX6_item_60 ?_
        refine b_tp (show (nI nJ) + (nI 1) = nI (nJ + 1) from nI_add nJ 1) ?_
        refine b_put (ty := .int) X E w (Or.inl (List.mem_of_getElem? (i := 0) rfl)) 0 rfl rfl 2 (by decide) iX6 tyX6 tyX6_ok nmX6 (by decide +kernel) rfl rfl (by decide +kernel) rfl rfl (Nat.le_of_ble_eq_true rfl) dX6_item_61 (fun H locs w => ?_)
        have w : bSt G vwCl [M, yJ] s [(M, .inr (6, [.int (nI td), .int (nI nA), .int (nI (nJ + 1)), .ref yA, .ref yJ, .ref yg, .int (nI dn), .ref yw, .ref yc, .ref yv, .int (nI snt), .int (nI jd), .ref yr, .int (nI bn), .ref yC, .ref yD, .ref yF, .ref yS, .ref yV, .ref yH, .int (nI 0)])), (yJ, .inl (G.2.1, 10, .inl (upd fJ nJ x)))] _ _ := w
        refine lv_aload_n hx hb dX6_item_64 rfl (lv_at hl 0 rfl) ?_
        refine b_get X E w 0 rfl rfl 2 (by decide) iX6 (by decide +kernel) rfl rfl dX6_item_65 ?_
        refine lv_iconst (v := nI 1) hx hb dX6_item_68 (by decide) ?_
        refine lv_isub hx hb dX6_item_69 ?_
        refine b_tp (show (nI (nJ + 1)) - (nI 1) = nI nJ from (pk_sub (by omega))) ?_
        exact W.iret (v := nI nJ) hx hb hr (fun t9 ht9 hW9 => ⟨⟨nI nJ, (), rfl, by rw [hT]; rfl, by show va_P G.1 vwCl _ t9.heap; rw [ht9]; exact b_cg (by rw [hT]; rfl) (w.1.sub (ws' := [(M, .inr (6, [.int (nI td), .int (nI nA), .int (nI (nJ + 1)), .ref yA, .ref yJ, .ref yg, .int (nI dn), .ref yw, .ref yc, .ref yv, .int (nI snt), .int (nI jd), .ref yr, .int (nI bn), .ref yC, .ref yD, .ref yF, .ref yS, .ref yV, .ref yH, .int (nI 0)])), (yJ, .inl (G.2.1, 10, .inl (upd fJ nJ x)))]) [0, 1] rfl)⟩, w.2.1.F ht9⟩) w.2.1.2.2 dX6_item_70
      · exact absurd (by decide) c_39_17
    · have q_24_16 : nJ = 10 := (nI_eq (by omega) (by omega)).mp c_24_15
      have h24 : ¬ nJ < 10 := by omega
      have hT : th2 (tPat nJ x) (decide (nJ < 10)) = 2 := by simp [th2, hP1, h24]
      refine lv_iconst (v := nI 2) hx hb dX6_item_27 (by decide) ?_
      refine lv_goto (tgt := 32) hx hb dX6_item_28 (by decide) ?_
      have w := b_wide [M, yJ] b_nil w
      refine b_put (ty := .int) X E w (Or.inl (List.mem_of_getElem? (i := 0) rfl)) 0 rfl rfl 20 (by decide) iX6 tyX6 tyX6_ok nmX6 (by decide +kernel) rfl rfl (by decide +kernel) rfl rfl (Nat.le_of_ble_eq_true rfl) dX6_item_32 (fun H locs w => ?_)
      have w : bSt G vwCl [M, yJ] s [(M, .inr (6, [.int (nI td), .int (nI nA), .int (nI nJ), .ref yA, .ref yJ, .ref yg, .int (nI dn), .ref yw, .ref yc, .ref yv, .int (nI snt), .int (nI jd), .ref yr, .int (nI bn), .ref yC, .ref yD, .ref yF, .ref yS, .ref yV, .ref yH, .int (nI 2)])), (yJ, .inl (G.2.1, 10, .inl fJ))] _ _ := w
      refine lv_aload_n hx hb dX6_item_35 rfl (lv_at hl 0 rfl) ?_
      refine b_get X E w 0 rfl rfl 20 (by decide) iX6 (by decide +kernel) rfl rfl dX6_item_36 ?_
      refine lv_if_le (tgt := 44) hx hb dX6_item_39 (by decide) (fun c_39_18 => ?_) (fun c_39_18 => ?_)
      · exact absurd c_39_18 (by decide)
      · refine lv_iconst (v := nI 0) hx hb dX6_item_42 (by decide) ?_
        exact W.iret (v := nI 0) hx hb hr (fun t9 ht9 hW9 => ⟨⟨nI 0, (), rfl, by rw [hT]; rfl, by show va_P G.1 vwCl _ t9.heap; rw [ht9]; exact b_cg (by rw [hT]; rfl) (w.1.sub (ws' := [(M, .inr (6, [.int (nI td), .int (nI nA), .int (nI nJ), .ref yA, .ref yJ, .ref yg, .int (nI dn), .ref yw, .ref yc, .ref yv, .int (nI snt), .int (nI jd), .ref yr, .int (nI bn), .ref yC, .ref yD, .ref yF, .ref yS, .ref yV, .ref yH, .int (nI 2)])), (yJ, .inl (G.2.1, 10, .inl fJ))]) [0, 1] rfl)⟩, w.2.1.F ht9⟩) w.2.1.2.2 dX6_item_43
  · have c3 := c_3_14
    refine lv_aload_n hx hb dX6_item_6 rfl (lv_at hl 0 rfl) ?_
    refine lv_iload_n hx hb dX6_item_7 rfl (lv_at hl 1 rfl) ?_
    refine b_calli w (va_runV (As := [.int x]) (rest := [.ref M]) X (c_X6_isItem l hl0 G _ (M := M) (x := x) (td := td) (nA := nA) (nJ := nJ) (yA := yA) (yJ := yJ) (yg := yg) (dn := dn) (yw := yw) (yc := yc) (yv := yv) (snt := snt) (jd := jd) (yr := yr) (bn := bn) (yC := yC) (yD := yD) (yF := yF) (yS := yS) (yV := yV) (yH := yH) (th := th) (hnJ := (by first | assumption | omega))) (cwV 1 hts gX6_item_X6_isItem rfl rfl rfl (by decide +kernel) ⟨Nat.le_of_ble_eq_true rfl, Nat.le_of_ble_eq_true rfl⟩) ⟨b_blind, b_recv E w (ci := 6) (q0 := 0) rfl rfl, (fun U9 hU9 hW9 => ⟨rfl, b_pre E Z0 w [0] (by decide) rfl b_nil U9 hU9 hW9⟩)⟩ rfl rfl hl.1 rfl (lv_room (Nat.le_of_ble_eq_true rfl)) dX6_item_8 ⟨Nat.le_of_ble_eq_true rfl, Nat.le_of_ble_eq_true rfl⟩) b_nil [] (fun _ => rfl) rfl (fun r8_19 u8_19 H locs hr8_19 w => ?_)
    have w : bSt G vwCl [] s [(M, .inr (6, [.int (nI td), .int (nI nA), .int (nI nJ), .ref yA, .ref yJ, .ref yg, .int (nI dn), .ref yw, .ref yc, .ref yv, .int (nI snt), .int (nI jd), .ref yr, .int (nI bn), .ref yC, .ref yD, .ref yF, .ref yS, .ref yV, .ref yH, .int th])), (yJ, .inl (G.2.1, 10, .inl fJ))] _ _ := w
    subst hr8_19
    refine lv_if_ne (tgt := 18) hx hb dX6_item_11 (by decide) (fun c_11_20 => ?_) (fun c_11_20 => ?_)
    · have q_11_21 : (tHas nJ x) = true := bI_n0.mp c_11_20
      have hP1 : tPat nJ x = true := by simp [tPat, q_11_21]
      refine lv_aload_n hx hb dX6_item_18 rfl (lv_at hl 0 rfl) ?_
      refine b_get X E w 0 rfl rfl 2 (by decide) iX6 (by decide +kernel) rfl rfl dX6_item_19 ?_
      refine lv_bipush (v := nI 10) hx hb dX6_item_22 (by decide) ?_
      refine lv_icmp_ne (tgt := 31) hx hb dX6_item_24 (by decide) (fun c_24_22 => ?_) (fun c_24_22 => ?_)
      · have q_24_23 : ¬ nJ = 10 := fun h9 => c_24_22 ((nI_eq (by omega) (by omega)).mpr h9)
        have h24 : nJ < 10 := by omega
        have hT : th2 (tPat nJ x) (decide (nJ < 10)) = 0 := by simp [th2, hP1, h24]
        refine lv_iconst (v := nI 0) hx hb dX6_item_31 (by decide) ?_
        have w := b_wide [M, yJ] b_nil w
        refine b_put (ty := .int) X E w (Or.inl (List.mem_of_getElem? (i := 0) rfl)) 0 rfl rfl 20 (by decide) iX6 tyX6 tyX6_ok nmX6 (by decide +kernel) rfl rfl (by decide +kernel) rfl rfl (Nat.le_of_ble_eq_true rfl) dX6_item_32 (fun H locs w => ?_)
        have w : bSt G vwCl [M, yJ] s [(M, .inr (6, [.int (nI td), .int (nI nA), .int (nI nJ), .ref yA, .ref yJ, .ref yg, .int (nI dn), .ref yw, .ref yc, .ref yv, .int (nI snt), .int (nI jd), .ref yr, .int (nI bn), .ref yC, .ref yD, .ref yF, .ref yS, .ref yV, .ref yH, .int (nI 0)])), (yJ, .inl (G.2.1, 10, .inl fJ))] _ _ := w
        refine lv_aload_n hx hb dX6_item_35 rfl (lv_at hl 0 rfl) ?_
        refine b_get X E w 0 rfl rfl 20 (by decide) iX6 (by decide +kernel) rfl rfl dX6_item_36 ?_
        refine lv_if_le (tgt := 44) hx hb dX6_item_39 (by decide) (fun c_39_24 => ?_) (fun c_39_24 => ?_)
        · refine lv_aload_n hx hb dX6_item_44 rfl (lv_at hl 0 rfl) ?_
          refine b_get X E w 0 rfl rfl 4 (by decide) iX6 (by decide +kernel) rfl rfl dX6_item_45 ?_
          refine lv_aload_n hx hb dX6_item_48 rfl (lv_at hl 0 rfl) ?_
          refine b_get X E w 0 rfl rfl 2 (by decide) iX6 (by decide +kernel) rfl rfl dX6_item_49 ?_
          refine lv_iload_n hx hb dX6_item_52 rfl (lv_at hl 1 rfl) ?_
          refine b_iast X E w (Or.inl (List.mem_of_getElem? (i := 1) rfl)) 1 rfl nJ rfl (by omega) (by first | decide | omega) dX6_item_53 (fun H locs w => ?_)
          have w : bSt G vwCl [M, yJ] s [(M, .inr (6, [.int (nI td), .int (nI nA), .int (nI nJ), .ref yA, .ref yJ, .ref yg, .int (nI dn), .ref yw, .ref yc, .ref yv, .int (nI snt), .int (nI jd), .ref yr, .int (nI bn), .ref yC, .ref yD, .ref yF, .ref yS, .ref yV, .ref yH, .int (nI 0)])), (yJ, .inl (G.2.1, 10, .inl (upd fJ nJ x)))] _ _ := w
          refine lv_aload_n hx hb dX6_item_54 rfl (lv_at hl 0 rfl) ?_
          refine lv_dup hx hb dX6_item_55 rfl ?_
          refine b_get X E w 0 rfl rfl 2 (by decide) iX6 (by decide +kernel) rfl rfl dX6_item_56 ?_
          refine lv_iconst (v := nI 1) hx hb dX6_item_59 (by decide) ?_
          refine lv_iadd hx hb dX6_item_60 ?_
          refine b_tp (show (nI nJ) + (nI 1) = nI (nJ + 1) from nI_add nJ 1) ?_
          refine b_put (ty := .int) X E w (Or.inl (List.mem_of_getElem? (i := 0) rfl)) 0 rfl rfl 2 (by decide) iX6 tyX6 tyX6_ok nmX6 (by decide +kernel) rfl rfl (by decide +kernel) rfl rfl (Nat.le_of_ble_eq_true rfl) dX6_item_61 (fun H locs w => ?_)
          have w : bSt G vwCl [M, yJ] s [(M, .inr (6, [.int (nI td), .int (nI nA), .int (nI (nJ + 1)), .ref yA, .ref yJ, .ref yg, .int (nI dn), .ref yw, .ref yc, .ref yv, .int (nI snt), .int (nI jd), .ref yr, .int (nI bn), .ref yC, .ref yD, .ref yF, .ref yS, .ref yV, .ref yH, .int (nI 0)])), (yJ, .inl (G.2.1, 10, .inl (upd fJ nJ x)))] _ _ := w
          refine lv_aload_n hx hb dX6_item_64 rfl (lv_at hl 0 rfl) ?_
          refine b_get X E w 0 rfl rfl 2 (by decide) iX6 (by decide +kernel) rfl rfl dX6_item_65 ?_
          refine lv_iconst (v := nI 1) hx hb dX6_item_68 (by decide) ?_
          refine lv_isub hx hb dX6_item_69 ?_
          refine b_tp (show (nI (nJ + 1)) - (nI 1) = nI nJ from (pk_sub (by omega))) ?_
          exact W.iret (v := nI nJ) hx hb hr (fun t9 ht9 hW9 => ⟨⟨nI nJ, (), rfl, by rw [hT]; rfl, by show va_P G.1 vwCl _ t9.heap; rw [ht9]; exact b_cg (by rw [hT]; rfl) (w.1.sub (ws' := [(M, .inr (6, [.int (nI td), .int (nI nA), .int (nI (nJ + 1)), .ref yA, .ref yJ, .ref yg, .int (nI dn), .ref yw, .ref yc, .ref yv, .int (nI snt), .int (nI jd), .ref yr, .int (nI bn), .ref yC, .ref yD, .ref yF, .ref yS, .ref yV, .ref yH, .int (nI 0)])), (yJ, .inl (G.2.1, 10, .inl (upd fJ nJ x)))]) [0, 1] rfl)⟩, w.2.1.F ht9⟩) w.2.1.2.2 dX6_item_70
        · exact absurd (by decide) c_39_24
      · have q_24_23 : nJ = 10 := (nI_eq (by omega) (by omega)).mp c_24_22
        have h24 : ¬ nJ < 10 := by omega
        have hT : th2 (tPat nJ x) (decide (nJ < 10)) = 2 := by simp [th2, hP1, h24]
        refine lv_iconst (v := nI 2) hx hb dX6_item_27 (by decide) ?_
        refine lv_goto (tgt := 32) hx hb dX6_item_28 (by decide) ?_
        have w := b_wide [M, yJ] b_nil w
        refine b_put (ty := .int) X E w (Or.inl (List.mem_of_getElem? (i := 0) rfl)) 0 rfl rfl 20 (by decide) iX6 tyX6 tyX6_ok nmX6 (by decide +kernel) rfl rfl (by decide +kernel) rfl rfl (Nat.le_of_ble_eq_true rfl) dX6_item_32 (fun H locs w => ?_)
        have w : bSt G vwCl [M, yJ] s [(M, .inr (6, [.int (nI td), .int (nI nA), .int (nI nJ), .ref yA, .ref yJ, .ref yg, .int (nI dn), .ref yw, .ref yc, .ref yv, .int (nI snt), .int (nI jd), .ref yr, .int (nI bn), .ref yC, .ref yD, .ref yF, .ref yS, .ref yV, .ref yH, .int (nI 2)])), (yJ, .inl (G.2.1, 10, .inl fJ))] _ _ := w
        refine lv_aload_n hx hb dX6_item_35 rfl (lv_at hl 0 rfl) ?_
        refine b_get X E w 0 rfl rfl 20 (by decide) iX6 (by decide +kernel) rfl rfl dX6_item_36 ?_
        refine lv_if_le (tgt := 44) hx hb dX6_item_39 (by decide) (fun c_39_25 => ?_) (fun c_39_25 => ?_)
        · exact absurd c_39_25 (by decide)
        · refine lv_iconst (v := nI 0) hx hb dX6_item_42 (by decide) ?_
          exact W.iret (v := nI 0) hx hb hr (fun t9 ht9 hW9 => ⟨⟨nI 0, (), rfl, by rw [hT]; rfl, by show va_P G.1 vwCl _ t9.heap; rw [ht9]; exact b_cg (by rw [hT]; rfl) (w.1.sub (ws' := [(M, .inr (6, [.int (nI td), .int (nI nA), .int (nI nJ), .ref yA, .ref yJ, .ref yg, .int (nI dn), .ref yw, .ref yc, .ref yv, .int (nI snt), .int (nI jd), .ref yr, .int (nI bn), .ref yC, .ref yD, .ref yF, .ref yS, .ref yV, .ref yH, .int (nI 2)])), (yJ, .inl (G.2.1, 10, .inl fJ))]) [0, 1] rfl)⟩, w.2.1.F ht9⟩) w.2.1.2.2 dX6_item_43
    · have q_11_21 : (tHas nJ x) = false := bI_0.mp c_11_20
      have hT : th2 (tPat nJ x) (decide (nJ < 10)) = 1 := by simp [th2, tPat, q_11_21, c3]
      refine lv_iconst (v := nI 1) hx hb dX6_item_14 (by decide) ?_
      refine lv_goto (tgt := 32) hx hb dX6_item_15 (by decide) ?_
      have w := b_wide [M, yJ] b_nil w
      refine b_put (ty := .int) X E w (Or.inl (List.mem_of_getElem? (i := 0) rfl)) 0 rfl rfl 20 (by decide) iX6 tyX6 tyX6_ok nmX6 (by decide +kernel) rfl rfl (by decide +kernel) rfl rfl (Nat.le_of_ble_eq_true rfl) dX6_item_32 (fun H locs w => ?_)
      have w : bSt G vwCl [M, yJ] s [(M, .inr (6, [.int (nI td), .int (nI nA), .int (nI nJ), .ref yA, .ref yJ, .ref yg, .int (nI dn), .ref yw, .ref yc, .ref yv, .int (nI snt), .int (nI jd), .ref yr, .int (nI bn), .ref yC, .ref yD, .ref yF, .ref yS, .ref yV, .ref yH, .int (nI 1)])), (yJ, .inl (G.2.1, 10, .inl fJ))] _ _ := w
      refine lv_aload_n hx hb dX6_item_35 rfl (lv_at hl 0 rfl) ?_
      refine b_get X E w 0 rfl rfl 20 (by decide) iX6 (by decide +kernel) rfl rfl dX6_item_36 ?_
      refine lv_if_le (tgt := 44) hx hb dX6_item_39 (by decide) (fun c_39_26 => ?_) (fun c_39_26 => ?_)
      · exact absurd c_39_26 (by decide)
      · refine lv_iconst (v := nI 0) hx hb dX6_item_42 (by decide) ?_
        exact W.iret (v := nI 0) hx hb hr (fun t9 ht9 hW9 => ⟨⟨nI 0, (), rfl, by rw [hT]; rfl, by show va_P G.1 vwCl _ t9.heap; rw [ht9]; exact b_cg (by rw [hT]; rfl) (w.1.sub (ws' := [(M, .inr (6, [.int (nI td), .int (nI nA), .int (nI nJ), .ref yA, .ref yJ, .ref yg, .int (nI dn), .ref yw, .ref yc, .ref yv, .int (nI snt), .int (nI jd), .ref yr, .int (nI bn), .ref yC, .ref yD, .ref yF, .ref yS, .ref yV, .ref yH, .int (nI 1)])), (yJ, .inl (G.2.1, 10, .inl fJ))]) [0, 1] rfl)⟩, w.2.1.F ht9⟩) w.2.1.2.2 dX6_item_43
set_option maxHeartbeats 4000000 in
set_option maxRecDepth 100000 in
theorem c_X6_agree (l : Launch) (hl0 : l.stackTraces = false) (G : bG) (sz : Nat) (M yA yJ yg yw yc yv yr yC yD yF yS yV yH td nA nJ dn snt jd bn : Nat) (th : Int32) (fA : Nat → Int32) (on : Nat → Bool) (x y : Int32) (b : Bool) (hnA : nA ≤ 14) : Met l yX6_agree wsX6_agree ({ frames := 2, cells := 0, slots := 0, locals := 43 }) (va_Pc [.ref M, .int x, .int y, .int (bI b)] (bPre G vwCl bNW bSW sz [(M, .inr (6, [.int (nI td), .int (nI nA), .int (nI nJ), .ref yA, .ref yJ, .ref yg, .int (nI dn), .ref yw, .ref yc, .ref yv, .int (nI snt), .int (nI jd), .ref yr, .int (nI bn), .ref yC, .ref yD, .ref yF, .ref yS, .ref yV, .ref yH, .int th])), (yA, .inl (G.2.1, 14, .inl fA)), (yg, .inl (G.2.2.1, 56, .inl (zB on)))] [M, yg])) (va_Qi (fun (r : Int32) (_ : Unit) => r = bI (gF (th1 (tHas 4 x && tHas nA y)) false (on (14 * cl x + cl y) != b))) (fun (_ : Unit) (tS : State) => va_P G.1 vwCl [(M, .inr (6, [.int (nI td), .int (nI nA), .int (nI nJ), .ref yA, .ref yJ, .ref yg, .int (nI dn), .ref yw, .ref yc, .ref yv, .int (nI snt), .int (nI jd), .ref yr, .int (nI bn), .ref yC, .ref yD, .ref yF, .ref yS, .ref yV, .ref yH, .int (nI (th1 (tHas 4 x && tHas nA y)))])), (yg, .inl (G.2.2.1, 56, .inl (zB (gF (th1 (tHas 4 x && tHas nA y)) on (uB on (14 * cl x + cl y) b)))))] tS.heap) (Aw [M, yg] sz)) 0 0 (Aw [M, yg] sz) := by
  refine Met.ofW (cc := cX6_agree) (maxL := 5) (ret := (some .boolean)) (by decide) rfl ?_
  intro p e s m args below meth c s₁ B hml hv
  obtain ⟨rfl, hsz, hP, hD, E, Z⟩ := hv
  have hts := atoms_spec (ws := wsX6_agree) B.pre
  have hown : s.vm.findClass RX6 = some m.cls := findClass_of_methodNamed B.named
  have X : CallFix p m c cX6_agree 5 s _ wsX6_agree RX6 := ⟨B.exec, B.bytes, hml, hown, hts⟩
  have hx := B.exec
  have hb := B.bytes
  have hr := B.returns
  have hlocks := B.notSynchronized
  subst hsz
  have w : bSt G vwCl [] s [(M, .inr (6, [.int (nI td), .int (nI nA), .int (nI nJ), .ref yA, .ref yJ, .ref yg, .int (nI dn), .ref yw, .ref yc, .ref yv, .int (nI snt), .int (nI jd), .ref yr, .int (nI bn), .ref yC, .ref yD, .ref yF, .ref yS, .ref yV, .ref yH, .int th])), (yA, .inl (G.2.1, 14, .inl fA)), (yg, .inl (G.2.2.1, 56, .inl (zB on)))] s.heap [] := ⟨hP, va_S.rf, hD⟩
  have Z0 : bZ [] s := ⟨Z.1.narrow (fun q h => h.elim (fun h => nomatch h) Or.inr), Z.2.narrow (fun q h => h.elim (fun h => nomatch h) Or.inr)⟩
  have iX6 : ∀ w ∈ wsX60, w ∈ wsX6_agree := by decide +kernel
  have hl := lv_entry ([.ref M, .int x, .int y, .int (bI b)]) (n := 5) (Nat.le_of_ble_eq_true rfl)
  rw [lg_entry_eq]
  generalize (lg_sl ([.ref M, .int x, .int y, .int (bI b)]) ++ List.replicate (5 - (lg_sl ([.ref M, .int x, .int y, .int (bI b)])).length) Slot.unset).toArray = ls at hl ⊢
  have hl : lv_has ls 5 [(0, .ref M), (1, .int x), (2, .int y), (3, .int (bI b))] := hl
  refine lv_aload_n hx hb dX6_agree_0 rfl (lv_at hl 0 rfl) ?_
  refine lv_iload_n hx hb dX6_agree_1 rfl (lv_at hl 1 rfl) ?_
  refine b_calli w (va_runS (As := [.int x]) (rest := [.ref M]) X (c_X6_isSender l hl0 G _ (x := x) ) (va_cwS 1 hts gX6_agree_X6_isSender rfl rfl rfl (by decide +kernel) ⟨Nat.le_of_ble_eq_true rfl, Nat.le_of_ble_eq_true rfl⟩) ⟨b_blind, (fun U9 hU9 hW9 => ⟨rfl, b_pre E Z0 w [] (by decide) rfl b_nil U9 hU9 hW9⟩)⟩ rfl rfl hl.1 rfl (lv_room (Nat.le_of_ble_eq_true rfl)) dX6_agree_2 ⟨Nat.le_of_ble_eq_true rfl, Nat.le_of_ble_eq_true rfl⟩) b_nil [] (fun _ => rfl) rfl (fun r2_12 u2_12 H locs hr2_12 w => ?_)
  have w : bSt G vwCl [] s [(M, .inr (6, [.int (nI td), .int (nI nA), .int (nI nJ), .ref yA, .ref yJ, .ref yg, .int (nI dn), .ref yw, .ref yc, .ref yv, .int (nI snt), .int (nI jd), .ref yr, .int (nI bn), .ref yC, .ref yD, .ref yF, .ref yS, .ref yV, .ref yH, .int th])), (yA, .inl (G.2.1, 14, .inl fA)), (yg, .inl (G.2.2.1, 56, .inl (zB on)))] _ _ := w
  subst hr2_12
  refine lv_if_eq (tgt := 20) hx hb dX6_agree_5 (by decide) (fun c_5_13 => ?_) (fun c_5_13 => ?_)
  · have q_5_14 : (tHas 4 x) = false := bI_0.mp c_5_13
    have hT : th1 (tHas 4 x && tHas nA y) = 1 := by simp [th1, q_5_14]
    refine lv_iconst (v := nI 1) hx hb dX6_agree_20 (by decide) ?_
    have w := b_wide [M, yg] b_nil w
    refine b_put (ty := .int) X E w (Or.inl (List.mem_of_getElem? (i := 0) rfl)) 0 rfl rfl 20 (by decide) iX6 tyX6 tyX6_ok nmX6 (by decide +kernel) rfl rfl (by decide +kernel) rfl rfl (Nat.le_of_ble_eq_true rfl) dX6_agree_21 (fun H locs w => ?_)
    have w : bSt G vwCl [M, yg] s [(M, .inr (6, [.int (nI td), .int (nI nA), .int (nI nJ), .ref yA, .ref yJ, .ref yg, .int (nI dn), .ref yw, .ref yc, .ref yv, .int (nI snt), .int (nI jd), .ref yr, .int (nI bn), .ref yC, .ref yD, .ref yF, .ref yS, .ref yV, .ref yH, .int (nI 1)])), (yA, .inl (G.2.1, 14, .inl fA)), (yg, .inl (G.2.2.1, 56, .inl (zB on)))] _ _ := w
    refine lv_aload_n hx hb dX6_agree_24 rfl (lv_at hl 0 rfl) ?_
    refine b_get X E w 0 rfl rfl 20 (by decide) iX6 (by decide +kernel) rfl rfl dX6_agree_25 ?_
    refine lv_if_le (tgt := 33) hx hb dX6_agree_28 (by decide) (fun c_28_15 => ?_) (fun c_28_15 => ?_)
    · exact absurd c_28_15 (by decide)
    · refine lv_iconst (v := nI 0) hx hb dX6_agree_31 (by decide) ?_
      exact W.zret (v := nI 0) hx hb hr rfl (fun t9 ht9 hW9 => ⟨⟨nI 0, (), rfl, bI_zero (by rw [hT]; rfl), by show va_P G.1 vwCl _ t9.heap; rw [ht9]; exact b_cg (by rw [hT]; rfl) (w.1.sub (ws' := [(M, .inr (6, [.int (nI td), .int (nI nA), .int (nI nJ), .ref yA, .ref yJ, .ref yg, .int (nI dn), .ref yw, .ref yc, .ref yv, .int (nI snt), .int (nI jd), .ref yr, .int (nI bn), .ref yC, .ref yD, .ref yF, .ref yS, .ref yV, .ref yH, .int (nI 1)])), (yg, .inl (G.2.2.1, 56, .inl (zB on)))]) [0, 2] rfl)⟩, w.2.1.F ht9⟩) w.2.1.2.2 dX6_agree_32
  · have q_5_14 : (tHas 4 x) = true := bI_n0.mp c_5_13
    have h5 := q_5_14
    refine lv_aload_n hx hb dX6_agree_8 rfl (lv_at hl 0 rfl) ?_
    refine lv_iload_n hx hb dX6_agree_9 rfl (lv_at hl 2 rfl) ?_
    refine b_calli w (va_runV (As := [.int y]) (rest := [.ref M]) X (c_X6_isArea l hl0 G _ (M := M) (x := y) (td := td) (nA := nA) (nJ := nJ) (yA := yA) (yJ := yJ) (yg := yg) (dn := dn) (yw := yw) (yc := yc) (yv := yv) (snt := snt) (jd := jd) (yr := yr) (bn := bn) (yC := yC) (yD := yD) (yF := yF) (yS := yS) (yV := yV) (yH := yH) (th := th) (hnA := (by first | assumption | omega))) (cwV 1 hts gX6_agree_X6_isArea rfl rfl rfl (by decide +kernel) ⟨Nat.le_of_ble_eq_true rfl, Nat.le_of_ble_eq_true rfl⟩) ⟨b_blind, b_recv E w (ci := 6) (q0 := 0) rfl rfl, (fun U9 hU9 hW9 => ⟨rfl, b_pre E Z0 w [0] (by decide) rfl b_nil U9 hU9 hW9⟩)⟩ rfl rfl hl.1 rfl (lv_room (Nat.le_of_ble_eq_true rfl)) dX6_agree_10 ⟨Nat.le_of_ble_eq_true rfl, Nat.le_of_ble_eq_true rfl⟩) b_nil [] (fun _ => rfl) rfl (fun r10_16 u10_16 H locs hr10_16 w => ?_)
    have w : bSt G vwCl [] s [(M, .inr (6, [.int (nI td), .int (nI nA), .int (nI nJ), .ref yA, .ref yJ, .ref yg, .int (nI dn), .ref yw, .ref yc, .ref yv, .int (nI snt), .int (nI jd), .ref yr, .int (nI bn), .ref yC, .ref yD, .ref yF, .ref yS, .ref yV, .ref yH, .int th])), (yA, .inl (G.2.1, 14, .inl fA)), (yg, .inl (G.2.2.1, 56, .inl (zB on)))] _ _ := w
    subst hr10_16
    refine lv_if_eq (tgt := 20) hx hb dX6_agree_13 (by decide) (fun c_13_17 => ?_) (fun c_13_17 => ?_)
    · have q_13_18 : (tHas nA y) = false := bI_0.mp c_13_17
      have hT : th1 (tHas 4 x && tHas nA y) = 1 := by simp [th1, q_13_18]
      refine lv_iconst (v := nI 1) hx hb dX6_agree_20 (by decide) ?_
      have w := b_wide [M, yg] b_nil w
      refine b_put (ty := .int) X E w (Or.inl (List.mem_of_getElem? (i := 0) rfl)) 0 rfl rfl 20 (by decide) iX6 tyX6 tyX6_ok nmX6 (by decide +kernel) rfl rfl (by decide +kernel) rfl rfl (Nat.le_of_ble_eq_true rfl) dX6_agree_21 (fun H locs w => ?_)
      have w : bSt G vwCl [M, yg] s [(M, .inr (6, [.int (nI td), .int (nI nA), .int (nI nJ), .ref yA, .ref yJ, .ref yg, .int (nI dn), .ref yw, .ref yc, .ref yv, .int (nI snt), .int (nI jd), .ref yr, .int (nI bn), .ref yC, .ref yD, .ref yF, .ref yS, .ref yV, .ref yH, .int (nI 1)])), (yA, .inl (G.2.1, 14, .inl fA)), (yg, .inl (G.2.2.1, 56, .inl (zB on)))] _ _ := w
      refine lv_aload_n hx hb dX6_agree_24 rfl (lv_at hl 0 rfl) ?_
      refine b_get X E w 0 rfl rfl 20 (by decide) iX6 (by decide +kernel) rfl rfl dX6_agree_25 ?_
      refine lv_if_le (tgt := 33) hx hb dX6_agree_28 (by decide) (fun c_28_19 => ?_) (fun c_28_19 => ?_)
      · exact absurd c_28_19 (by decide)
      · refine lv_iconst (v := nI 0) hx hb dX6_agree_31 (by decide) ?_
        exact W.zret (v := nI 0) hx hb hr rfl (fun t9 ht9 hW9 => ⟨⟨nI 0, (), rfl, bI_zero (by rw [hT]; rfl), by show va_P G.1 vwCl _ t9.heap; rw [ht9]; exact b_cg (by rw [hT]; rfl) (w.1.sub (ws' := [(M, .inr (6, [.int (nI td), .int (nI nA), .int (nI nJ), .ref yA, .ref yJ, .ref yg, .int (nI dn), .ref yw, .ref yc, .ref yv, .int (nI snt), .int (nI jd), .ref yr, .int (nI bn), .ref yC, .ref yD, .ref yF, .ref yS, .ref yV, .ref yH, .int (nI 1)])), (yg, .inl (G.2.2.1, 56, .inl (zB on)))]) [0, 2] rfl)⟩, w.2.1.F ht9⟩) w.2.1.2.2 dX6_agree_32
    · have q_13_18 : (tHas nA y) = true := bI_n0.mp c_13_17
      have h13 := q_13_18
      have hT : th1 (tHas 4 x && tHas nA y) = 0 := by simp [th1, h5, h13]
      obtain ⟨sn, hsn, rfl⟩ := (tHas_iff (by decide)).mp h5
      obtain ⟨a, ha, rfl⟩ := (tHas_iff (by omega)).mp h13
      have e1 : cl (nI sn) = sn := cl_nI (by omega)
      have e2 : cl (nI a) = a := cl_nI (by omega)
      refine lv_iconst (v := nI 0) hx hb dX6_agree_16 (by decide) ?_
      refine lv_goto (tgt := 21) hx hb dX6_agree_17 (by decide) ?_
      have w := b_wide [M, yg] b_nil w
      refine b_put (ty := .int) X E w (Or.inl (List.mem_of_getElem? (i := 0) rfl)) 0 rfl rfl 20 (by decide) iX6 tyX6 tyX6_ok nmX6 (by decide +kernel) rfl rfl (by decide +kernel) rfl rfl (Nat.le_of_ble_eq_true rfl) dX6_agree_21 (fun H locs w => ?_)
      have w : bSt G vwCl [M, yg] s [(M, .inr (6, [.int (nI td), .int (nI nA), .int (nI nJ), .ref yA, .ref yJ, .ref yg, .int (nI dn), .ref yw, .ref yc, .ref yv, .int (nI snt), .int (nI jd), .ref yr, .int (nI bn), .ref yC, .ref yD, .ref yF, .ref yS, .ref yV, .ref yH, .int (nI 0)])), (yA, .inl (G.2.1, 14, .inl fA)), (yg, .inl (G.2.2.1, 56, .inl (zB on)))] _ _ := w
      refine lv_aload_n hx hb dX6_agree_24 rfl (lv_at hl 0 rfl) ?_
      refine b_get X E w 0 rfl rfl 20 (by decide) iX6 (by decide +kernel) rfl rfl dX6_agree_25 ?_
      refine lv_if_le (tgt := 33) hx hb dX6_agree_28 (by decide) (fun c_28_20 => ?_) (fun c_28_20 => ?_)
      · refine lv_aload_n hx hb dX6_agree_33 rfl (lv_at hl 0 rfl) ?_
        refine b_get X E w 0 rfl rfl 5 (by decide) iX6 (by decide +kernel) rfl rfl dX6_agree_34 ?_
        refine lv_bipush (v := nI 14) hx hb dX6_agree_37 (by decide) ?_
        refine lv_iload_n hx hb dX6_agree_39 rfl (lv_at hl 1 rfl) ?_
        refine lv_imul hx hb dX6_agree_40 ?_
        refine b_tp (show (nI 14) * (nI sn) = nI (14 * sn) from pk_mul 14 sn) ?_
        refine lv_iload_n hx hb dX6_agree_41 rfl (lv_at hl 2 rfl) ?_
        refine lv_iadd hx hb dX6_agree_42 ?_
        refine b_tp (show (nI (14 * sn)) + (nI a) = nI ((14 * sn) + a) from nI_add (14 * sn) a) ?_
        refine b_zald X E w 2 rfl ((14 * sn) + a) rfl (by omega) (by first | decide | omega) dX6_agree_43 ?_
        refine b_tp (show zB on ((14 * sn) + a) = bI (on ((14 * sn) + a)) from rfl) ?_
        refine lv_istore (lv' := [(4, .int (bI (on ((14 * sn) + a)))), (0, .ref M), (1, .int (nI sn)), (2, .int (nI a)), (3, .int (bI b))]) hx hb dX6_agree_44 hl (by decide) rfl (fun ls hl => ?_)
        refine lv_aload_n hx hb dX6_agree_46 rfl (lv_at hl 1 rfl) ?_
        refine b_get X E w 0 rfl rfl 5 (by decide) iX6 (by decide +kernel) rfl rfl dX6_agree_47 ?_
        refine lv_bipush (v := nI 14) hx hb dX6_agree_50 (by decide) ?_
        refine lv_iload_n hx hb dX6_agree_52 rfl (lv_at hl 2 rfl) ?_
        refine lv_imul hx hb dX6_agree_53 ?_
        refine b_tp (show (nI 14) * (nI sn) = nI (14 * sn) from pk_mul 14 sn) ?_
        refine lv_iload_n hx hb dX6_agree_54 rfl (lv_at hl 3 rfl) ?_
        refine lv_iadd hx hb dX6_agree_55 ?_
        refine b_tp (show (nI (14 * sn)) + (nI a) = nI ((14 * sn) + a) from nI_add (14 * sn) a) ?_
        refine lv_iload_n hx hb dX6_agree_56 rfl (lv_at hl 4 rfl) ?_
        refine b_zast X E w (Or.inl (List.mem_of_getElem? (i := 1) rfl)) 2 rfl ((14 * sn) + a) rfl (by omega) (by first | decide | omega) (bI_01 _) dX6_agree_57 (fun H locs w => ?_)
        rw [zB_upd] at w
        have w : bSt G vwCl [M, yg] s [(M, .inr (6, [.int (nI td), .int (nI nA), .int (nI nJ), .ref yA, .ref yJ, .ref yg, .int (nI dn), .ref yw, .ref yc, .ref yv, .int (nI snt), .int (nI jd), .ref yr, .int (nI bn), .ref yC, .ref yD, .ref yF, .ref yS, .ref yV, .ref yH, .int (nI 0)])), (yA, .inl (G.2.1, 14, .inl fA)), (yg, .inl (G.2.2.1, 56, .inl (zB (uB on ((14 * sn) + a) b))))] _ _ := w
        refine lv_iload hx hb dX6_agree_58 (lv_at hl 0 rfl) ?_
        refine lv_iload_n hx hb dX6_agree_60 rfl (lv_at hl 4 rfl) ?_
        refine lv_icmp_eq (tgt := 68) hx hb dX6_agree_61 (by decide) (fun c_61_21 => ?_) (fun c_61_21 => ?_)
        · have q_61_22 : (on ((14 * sn) + a)) = b := bI_inj.mp c_61_21
          refine lv_iconst (v := nI 0) hx hb dX6_agree_68 (by decide) ?_
          exact W.zret (v := nI 0) hx hb hr rfl (fun t9 ht9 hW9 => ⟨⟨nI 0, (), rfl, bI_zero (by rw [hT, e1, e2, gF_0]; simp [q_5_14, q_13_18, c_28_20, q_61_22]), by show va_P G.1 vwCl _ t9.heap; rw [ht9]; exact b_cg (by rw [hT, e1, e2]; rfl) (w.1.sub (ws' := [(M, .inr (6, [.int (nI td), .int (nI nA), .int (nI nJ), .ref yA, .ref yJ, .ref yg, .int (nI dn), .ref yw, .ref yc, .ref yv, .int (nI snt), .int (nI jd), .ref yr, .int (nI bn), .ref yC, .ref yD, .ref yF, .ref yS, .ref yV, .ref yH, .int (nI 0)])), (yg, .inl (G.2.2.1, 56, .inl (zB (uB on ((14 * sn) + a) b))))]) [0, 2] rfl)⟩, w.2.1.F ht9⟩) w.2.1.2.2 dX6_agree_69
        · have q_61_22 : ¬ (on ((14 * sn) + a)) = b := fun h9 => c_61_21 (bI_inj.mpr h9)
          refine lv_iconst (v := nI 1) hx hb dX6_agree_64 (by decide) ?_
          refine lv_goto (tgt := 69) hx hb dX6_agree_65 (by decide) ?_
          exact W.zret (v := nI 1) hx hb hr rfl (fun t9 ht9 hW9 => ⟨⟨nI 1, (), rfl, bI_one (by rw [hT, e1, e2, gF_0]; simp [q_5_14, q_13_18, c_28_20, q_61_22]), by show va_P G.1 vwCl _ t9.heap; rw [ht9]; exact b_cg (by rw [hT, e1, e2]; rfl) (w.1.sub (ws' := [(M, .inr (6, [.int (nI td), .int (nI nA), .int (nI nJ), .ref yA, .ref yJ, .ref yg, .int (nI dn), .ref yw, .ref yc, .ref yv, .int (nI snt), .int (nI jd), .ref yr, .int (nI bn), .ref yC, .ref yD, .ref yF, .ref yS, .ref yV, .ref yH, .int (nI 0)])), (yg, .inl (G.2.2.1, 56, .inl (zB (uB on ((14 * sn) + a) b))))]) [0, 2] rfl)⟩, w.2.1.F ht9⟩) w.2.1.2.2 dX6_agree_69
      · exact absurd (by decide) c_28_20
set_option maxHeartbeats 4000000 in
set_option maxRecDepth 100000 in
theorem c_X6_mayTell (l : Launch) (hl0 : l.stackTraces = false) (G : bG) (sz : Nat) (M yA yJ yg yw yc yv yr yC yD yF yS yV yH td nA nJ dn snt jd bn : Nat) (th : Int32) (fA : Nat → Int32) (on : Nat → Bool) (x y : Int32) (hnA : nA ≤ 14) (hTA : TI fA nA) : Met l yX6_mayTell wsX6_mayTell ({ frames := 2, cells := 0, slots := 0, locals := 43 }) (va_Pc [.ref M, .int x, .int y] (bPre G vwCl bNW bSW sz [(M, .inr (6, [.int (nI td), .int (nI nA), .int (nI nJ), .ref yA, .ref yJ, .ref yg, .int (nI dn), .ref yw, .ref yc, .ref yv, .int (nI snt), .int (nI jd), .ref yr, .int (nI bn), .ref yC, .ref yD, .ref yF, .ref yS, .ref yV, .ref yH, .int th])), (yA, .inl (G.2.1, 14, .inl fA)), (yg, .inl (G.2.2.1, 56, .inl (zB on)))] [M])) (va_Qi (fun (r : Int32) (_ : Unit) => r = bI (gF (th1 (tHas 4 x && tHas nA y)) false (wkB fA (fun k => on (14 * cl x + k)) nA y))) (fun (_ : Unit) (tS : State) => va_P G.1 vwCl [(M, .inr (6, [.int (nI td), .int (nI nA), .int (nI nJ), .ref yA, .ref yJ, .ref yg, .int (nI dn), .ref yw, .ref yc, .ref yv, .int (nI snt), .int (nI jd), .ref yr, .int (nI bn), .ref yC, .ref yD, .ref yF, .ref yS, .ref yV, .ref yH, .int (nI (th1 (tHas 4 x && tHas nA y)))]))] tS.heap) (Aw [M] sz)) 0 0 (Aw [M] sz) := by
  refine Met.ofW (cc := cX6_mayTell) (maxL := 3) (ret := (some .boolean)) (by decide) rfl ?_
  intro p e s m args below meth c s₁ B hml hv
  obtain ⟨rfl, hsz, hP, hD, E, Z⟩ := hv
  have hts := atoms_spec (ws := wsX6_mayTell) B.pre
  have hown : s.vm.findClass RX6 = some m.cls := findClass_of_methodNamed B.named
  have X : CallFix p m c cX6_mayTell 3 s _ wsX6_mayTell RX6 := ⟨B.exec, B.bytes, hml, hown, hts⟩
  have hx := B.exec
  have hb := B.bytes
  have hr := B.returns
  have hlocks := B.notSynchronized
  subst hsz
  have w : bSt G vwCl [] s [(M, .inr (6, [.int (nI td), .int (nI nA), .int (nI nJ), .ref yA, .ref yJ, .ref yg, .int (nI dn), .ref yw, .ref yc, .ref yv, .int (nI snt), .int (nI jd), .ref yr, .int (nI bn), .ref yC, .ref yD, .ref yF, .ref yS, .ref yV, .ref yH, .int th])), (yA, .inl (G.2.1, 14, .inl fA)), (yg, .inl (G.2.2.1, 56, .inl (zB on)))] s.heap [] := ⟨hP, va_S.rf, hD⟩
  have Z0 : bZ [] s := ⟨Z.1.narrow (fun q h => h.elim (fun h => nomatch h) Or.inr), Z.2.narrow (fun q h => h.elim (fun h => nomatch h) Or.inr)⟩
  have iX6 : ∀ w ∈ wsX60, w ∈ wsX6_mayTell := by decide +kernel
  have hl := lv_entry ([.ref M, .int x, .int y]) (n := 3) (Nat.le_of_ble_eq_true rfl)
  rw [lg_entry_eq]
  generalize (lg_sl ([.ref M, .int x, .int y]) ++ List.replicate (3 - (lg_sl ([.ref M, .int x, .int y])).length) Slot.unset).toArray = ls at hl ⊢
  have hl : lv_has ls 3 [(0, .ref M), (1, .int x), (2, .int y)] := hl
  refine lv_aload_n hx hb dX6_mayTell_0 rfl (lv_at hl 0 rfl) ?_
  refine lv_iload_n hx hb dX6_mayTell_1 rfl (lv_at hl 1 rfl) ?_
  refine b_calli w (va_runS (As := [.int x]) (rest := [.ref M]) X (c_X6_isSender l hl0 G _ (x := x) ) (va_cwS 1 hts gX6_mayTell_X6_isSender rfl rfl rfl (by decide +kernel) ⟨Nat.le_of_ble_eq_true rfl, Nat.le_of_ble_eq_true rfl⟩) ⟨b_blind, (fun U9 hU9 hW9 => ⟨rfl, b_pre E Z0 w [] (by decide) rfl b_nil U9 hU9 hW9⟩)⟩ rfl rfl hl.1 rfl (lv_room (Nat.le_of_ble_eq_true rfl)) dX6_mayTell_2 ⟨Nat.le_of_ble_eq_true rfl, Nat.le_of_ble_eq_true rfl⟩) b_nil [] (fun _ => rfl) rfl (fun r2_13 u2_13 H locs hr2_13 w => ?_)
  have w : bSt G vwCl [] s [(M, .inr (6, [.int (nI td), .int (nI nA), .int (nI nJ), .ref yA, .ref yJ, .ref yg, .int (nI dn), .ref yw, .ref yc, .ref yv, .int (nI snt), .int (nI jd), .ref yr, .int (nI bn), .ref yC, .ref yD, .ref yF, .ref yS, .ref yV, .ref yH, .int th])), (yA, .inl (G.2.1, 14, .inl fA)), (yg, .inl (G.2.2.1, 56, .inl (zB on)))] _ _ := w
  subst hr2_13
  refine lv_if_eq (tgt := 20) hx hb dX6_mayTell_5 (by decide) (fun c_5_14 => ?_) (fun c_5_14 => ?_)
  · have q_5_15 : (tHas 4 x) = false := bI_0.mp c_5_14
    have hT : th1 (tHas 4 x && tHas nA y) = 1 := by simp [th1, q_5_15]
    refine lv_iconst (v := nI 1) hx hb dX6_mayTell_20 (by decide) ?_
    have w := b_wide [M] b_nil w
    refine b_put (ty := .int) X E w (Or.inl (List.mem_of_getElem? (i := 0) rfl)) 0 rfl rfl 20 (by decide) iX6 tyX6 tyX6_ok nmX6 (by decide +kernel) rfl rfl (by decide +kernel) rfl rfl (Nat.le_of_ble_eq_true rfl) dX6_mayTell_21 (fun H locs w => ?_)
    have w : bSt G vwCl [M] s [(M, .inr (6, [.int (nI td), .int (nI nA), .int (nI nJ), .ref yA, .ref yJ, .ref yg, .int (nI dn), .ref yw, .ref yc, .ref yv, .int (nI snt), .int (nI jd), .ref yr, .int (nI bn), .ref yC, .ref yD, .ref yF, .ref yS, .ref yV, .ref yH, .int (nI 1)])), (yA, .inl (G.2.1, 14, .inl fA)), (yg, .inl (G.2.2.1, 56, .inl (zB on)))] _ _ := w
    refine lv_aload_n hx hb dX6_mayTell_24 rfl (lv_at hl 0 rfl) ?_
    refine b_get X E w 0 rfl rfl 20 (by decide) iX6 (by decide +kernel) rfl rfl dX6_mayTell_25 ?_
    refine lv_if_ne (tgt := 44) hx hb dX6_mayTell_28 (by decide) (fun c_28_16 => ?_) (fun c_28_16 => ?_)
    · refine lv_iconst (v := nI 0) hx hb dX6_mayTell_44 (by decide) ?_
      exact W.zret (v := nI 0) hx hb hr rfl (fun t9 ht9 hW9 => ⟨⟨nI 0, (), rfl, bI_zero (by rw [hT]; rfl), by show va_P G.1 vwCl _ t9.heap; rw [ht9]; exact b_cg (by rw [hT]) (w.1.sub (ws' := [(M, .inr (6, [.int (nI td), .int (nI nA), .int (nI nJ), .ref yA, .ref yJ, .ref yg, .int (nI dn), .ref yw, .ref yc, .ref yv, .int (nI snt), .int (nI jd), .ref yr, .int (nI bn), .ref yC, .ref yD, .ref yF, .ref yS, .ref yV, .ref yH, .int (nI 1)]))]) [0] rfl)⟩, w.2.1.F ht9⟩) w.2.1.2.2 dX6_mayTell_45
    · exact absurd c_28_16 (by decide)
  · have q_5_15 : (tHas 4 x) = true := bI_n0.mp c_5_14
    have h5 := q_5_15
    refine lv_aload_n hx hb dX6_mayTell_8 rfl (lv_at hl 0 rfl) ?_
    refine lv_iload_n hx hb dX6_mayTell_9 rfl (lv_at hl 2 rfl) ?_
    refine b_calli w (va_runV (As := [.int y]) (rest := [.ref M]) X (c_X6_isArea l hl0 G _ (M := M) (x := y) (td := td) (nA := nA) (nJ := nJ) (yA := yA) (yJ := yJ) (yg := yg) (dn := dn) (yw := yw) (yc := yc) (yv := yv) (snt := snt) (jd := jd) (yr := yr) (bn := bn) (yC := yC) (yD := yD) (yF := yF) (yS := yS) (yV := yV) (yH := yH) (th := th) (hnA := (by first | assumption | omega))) (cwV 1 hts gX6_mayTell_X6_isArea rfl rfl rfl (by decide +kernel) ⟨Nat.le_of_ble_eq_true rfl, Nat.le_of_ble_eq_true rfl⟩) ⟨b_blind, b_recv E w (ci := 6) (q0 := 0) rfl rfl, (fun U9 hU9 hW9 => ⟨rfl, b_pre E Z0 w [0] (by decide) rfl b_nil U9 hU9 hW9⟩)⟩ rfl rfl hl.1 rfl (lv_room (Nat.le_of_ble_eq_true rfl)) dX6_mayTell_10 ⟨Nat.le_of_ble_eq_true rfl, Nat.le_of_ble_eq_true rfl⟩) b_nil [] (fun _ => rfl) rfl (fun r10_17 u10_17 H locs hr10_17 w => ?_)
    have w : bSt G vwCl [] s [(M, .inr (6, [.int (nI td), .int (nI nA), .int (nI nJ), .ref yA, .ref yJ, .ref yg, .int (nI dn), .ref yw, .ref yc, .ref yv, .int (nI snt), .int (nI jd), .ref yr, .int (nI bn), .ref yC, .ref yD, .ref yF, .ref yS, .ref yV, .ref yH, .int th])), (yA, .inl (G.2.1, 14, .inl fA)), (yg, .inl (G.2.2.1, 56, .inl (zB on)))] _ _ := w
    subst hr10_17
    refine lv_if_eq (tgt := 20) hx hb dX6_mayTell_13 (by decide) (fun c_13_18 => ?_) (fun c_13_18 => ?_)
    · have q_13_19 : (tHas nA y) = false := bI_0.mp c_13_18
      have hT : th1 (tHas 4 x && tHas nA y) = 1 := by simp [th1, q_13_19]
      refine lv_iconst (v := nI 1) hx hb dX6_mayTell_20 (by decide) ?_
      have w := b_wide [M] b_nil w
      refine b_put (ty := .int) X E w (Or.inl (List.mem_of_getElem? (i := 0) rfl)) 0 rfl rfl 20 (by decide) iX6 tyX6 tyX6_ok nmX6 (by decide +kernel) rfl rfl (by decide +kernel) rfl rfl (Nat.le_of_ble_eq_true rfl) dX6_mayTell_21 (fun H locs w => ?_)
      have w : bSt G vwCl [M] s [(M, .inr (6, [.int (nI td), .int (nI nA), .int (nI nJ), .ref yA, .ref yJ, .ref yg, .int (nI dn), .ref yw, .ref yc, .ref yv, .int (nI snt), .int (nI jd), .ref yr, .int (nI bn), .ref yC, .ref yD, .ref yF, .ref yS, .ref yV, .ref yH, .int (nI 1)])), (yA, .inl (G.2.1, 14, .inl fA)), (yg, .inl (G.2.2.1, 56, .inl (zB on)))] _ _ := w
      refine lv_aload_n hx hb dX6_mayTell_24 rfl (lv_at hl 0 rfl) ?_
      refine b_get X E w 0 rfl rfl 20 (by decide) iX6 (by decide +kernel) rfl rfl dX6_mayTell_25 ?_
      refine lv_if_ne (tgt := 44) hx hb dX6_mayTell_28 (by decide) (fun c_28_20 => ?_) (fun c_28_20 => ?_)
      · refine lv_iconst (v := nI 0) hx hb dX6_mayTell_44 (by decide) ?_
        exact W.zret (v := nI 0) hx hb hr rfl (fun t9 ht9 hW9 => ⟨⟨nI 0, (), rfl, bI_zero (by rw [hT]; rfl), by show va_P G.1 vwCl _ t9.heap; rw [ht9]; exact b_cg (by rw [hT]) (w.1.sub (ws' := [(M, .inr (6, [.int (nI td), .int (nI nA), .int (nI nJ), .ref yA, .ref yJ, .ref yg, .int (nI dn), .ref yw, .ref yc, .ref yv, .int (nI snt), .int (nI jd), .ref yr, .int (nI bn), .ref yC, .ref yD, .ref yF, .ref yS, .ref yV, .ref yH, .int (nI 1)]))]) [0] rfl)⟩, w.2.1.F ht9⟩) w.2.1.2.2 dX6_mayTell_45
      · exact absurd c_28_20 (by decide)
    · have q_13_19 : (tHas nA y) = true := bI_n0.mp c_13_18
      have h13 := q_13_19
      have hT : th1 (tHas 4 x && tHas nA y) = 0 := by simp [th1, h5, h13]
      obtain ⟨sn, hsn, rfl⟩ := (tHas_iff (by decide)).mp h5
      obtain ⟨a, ha, rfl⟩ := (tHas_iff (by omega)).mp h13
      have e1 : cl (nI sn) = sn := cl_nI (by omega)
      have e2 : cl (nI a) = a := cl_nI (by omega)
      refine lv_iconst (v := nI 0) hx hb dX6_mayTell_16 (by decide) ?_
      refine lv_goto (tgt := 21) hx hb dX6_mayTell_17 (by decide) ?_
      have w := b_wide [M] b_nil w
      refine b_put (ty := .int) X E w (Or.inl (List.mem_of_getElem? (i := 0) rfl)) 0 rfl rfl 20 (by decide) iX6 tyX6 tyX6_ok nmX6 (by decide +kernel) rfl rfl (by decide +kernel) rfl rfl (Nat.le_of_ble_eq_true rfl) dX6_mayTell_21 (fun H locs w => ?_)
      have w : bSt G vwCl [M] s [(M, .inr (6, [.int (nI td), .int (nI nA), .int (nI nJ), .ref yA, .ref yJ, .ref yg, .int (nI dn), .ref yw, .ref yc, .ref yv, .int (nI snt), .int (nI jd), .ref yr, .int (nI bn), .ref yC, .ref yD, .ref yF, .ref yS, .ref yV, .ref yH, .int (nI 0)])), (yA, .inl (G.2.1, 14, .inl fA)), (yg, .inl (G.2.2.1, 56, .inl (zB on)))] _ _ := w
      refine lv_aload_n hx hb dX6_mayTell_24 rfl (lv_at hl 0 rfl) ?_
      refine b_get X E w 0 rfl rfl 20 (by decide) iX6 (by decide +kernel) rfl rfl dX6_mayTell_25 ?_
      refine lv_if_ne (tgt := 44) hx hb dX6_mayTell_28 (by decide) (fun c_28_21 => ?_) (fun c_28_21 => ?_)
      · exact absurd rfl c_28_21
      · refine lv_aload_n hx hb dX6_mayTell_31 rfl (lv_at hl 0 rfl) ?_
        refine lv_iload_n hx hb dX6_mayTell_32 rfl (lv_at hl 1 rfl) ?_
        refine lv_iload_n hx hb dX6_mayTell_33 rfl (lv_at hl 2 rfl) ?_
        refine b_calli w (va_runV (As := [.int (nI sn), .int (nI a)]) (rest := []) X (c_X6_may l hl0 G _ (M := M) (sd := sn) (a := a) (td := td) (nA := nA) (nJ := nJ) (yA := yA) (yJ := yJ) (yg := yg) (dn := dn) (yw := yw) (yc := yc) (yv := yv) (snt := snt) (jd := jd) (yr := yr) (bn := bn) (yC := yC) (yD := yD) (yF := yF) (yS := yS) (yV := yV) (yH := yH) (th := nI 0) (fA := fA) (on := on) (hnA := (by first | assumption | omega)) (hTA := (by first | assumption | omega)) (hs := (by first | assumption | omega)) (ha := (by first | assumption | omega))) (cwV 2 hts gX6_mayTell_X6_may rfl rfl rfl (by decide +kernel) ⟨Nat.le_of_ble_eq_true rfl, Nat.le_of_ble_eq_true rfl⟩) ⟨b_blind, b_recv E w (ci := 6) (q0 := 0) rfl rfl, (fun U9 hU9 hW9 => ⟨rfl, b_pre E Z w [0, 1, 2] (by decide) rfl b_nil U9 hU9 hW9⟩)⟩ rfl rfl hl.1 rfl (lv_room (Nat.le_of_ble_eq_true rfl)) dX6_mayTell_34 ⟨Nat.le_of_ble_eq_true rfl, Nat.le_of_ble_eq_true rfl⟩) b_nil [] (fun _ => rfl) rfl (fun r34_22 u34_22 H locs hr34_22 w => ?_)
        have w : bSt G vwCl [M] s [(M, .inr (6, [.int (nI td), .int (nI nA), .int (nI nJ), .ref yA, .ref yJ, .ref yg, .int (nI dn), .ref yw, .ref yc, .ref yv, .int (nI snt), .int (nI jd), .ref yr, .int (nI bn), .ref yC, .ref yD, .ref yF, .ref yS, .ref yV, .ref yH, .int (nI 0)])), (yA, .inl (G.2.1, 14, .inl fA)), (yg, .inl (G.2.2.1, 56, .inl (zB on)))] _ _ := w
        subst hr34_22
        refine lv_if_eq (tgt := 44) hx hb dX6_mayTell_37 (by decide) (fun c_37_23 => ?_) (fun c_37_23 => ?_)
        · have q_37_24 : (wkB fA (fun k => on (14 * sn + k)) nA (nI a)) = false := bI_0.mp c_37_23
          have h37 := q_37_24
          refine lv_iconst (v := nI 0) hx hb dX6_mayTell_44 (by decide) ?_
          exact W.zret (v := nI 0) hx hb hr rfl (fun t9 ht9 hW9 => ⟨⟨nI 0, (), rfl, bI_zero (by rw [hT, e1, gF_0]; exact h37), by show va_P G.1 vwCl _ t9.heap; rw [ht9]; exact b_cg (by rw [hT]) (w.1.sub (ws' := [(M, .inr (6, [.int (nI td), .int (nI nA), .int (nI nJ), .ref yA, .ref yJ, .ref yg, .int (nI dn), .ref yw, .ref yc, .ref yv, .int (nI snt), .int (nI jd), .ref yr, .int (nI bn), .ref yC, .ref yD, .ref yF, .ref yS, .ref yV, .ref yH, .int (nI 0)]))]) [0] rfl)⟩, w.2.1.F ht9⟩) w.2.1.2.2 dX6_mayTell_45
        · have q_37_24 : (wkB fA (fun k => on (14 * sn + k)) nA (nI a)) = true := bI_n0.mp c_37_23
          have h37 := q_37_24
          refine lv_iconst (v := nI 1) hx hb dX6_mayTell_40 (by decide) ?_
          refine lv_goto (tgt := 45) hx hb dX6_mayTell_41 (by decide) ?_
          exact W.zret (v := nI 1) hx hb hr rfl (fun t9 ht9 hW9 => ⟨⟨nI 1, (), rfl, bI_one (by rw [hT, e1, gF_0]; exact h37), by show va_P G.1 vwCl _ t9.heap; rw [ht9]; exact b_cg (by rw [hT]) (w.1.sub (ws' := [(M, .inr (6, [.int (nI td), .int (nI nA), .int (nI nJ), .ref yA, .ref yJ, .ref yg, .int (nI dn), .ref yw, .ref yc, .ref yv, .int (nI snt), .int (nI jd), .ref yr, .int (nI bn), .ref yC, .ref yD, .ref yF, .ref yS, .ref yV, .ref yH, .int (nI 0)]))]) [0] rfl)⟩, w.2.1.F ht9⟩) w.2.1.2.2 dX6_mayTell_45
set_option maxHeartbeats 4000000 in
set_option maxRecDepth 100000 in
theorem c_X6_put (l : Launch) (hl0 : l.stackTraces = false) (G : bG) (sz : Nat) (M yA yJ yg yw yc yv yr yC yD yF yS yV yH td nA nJ dn snt jd bn : Nat) (th : Int32) (dw : Nat → Int32) (dc : Nat → Int32) (dv : Nat → Int32) (wh x y z t0 : Int32) (hnA : nA ≤ 14) (hnJ : nJ ≤ 10) (hdn : dn ≤ 16) : Met l yX6_put wsX6_put ({ frames := 3, cells := 0, slots := 0, locals := 66 }) (va_Pc [.ref M, .int wh, .int x, .int y, .int z, .int t0] (bPre G vwCl bNW bSW sz [(M, .inr (6, [.int (nI td), .int (nI nA), .int (nI nJ), .ref yA, .ref yJ, .ref yg, .int (nI dn), .ref yw, .ref yc, .ref yv, .int (nI snt), .int (nI jd), .ref yr, .int (nI bn), .ref yC, .ref yD, .ref yF, .ref yS, .ref yV, .ref yH, .int th])), (yw, .inl (G.2.1, 16, .inl dw)), (yc, .inl (G.2.1, 16, .inl dc)), (yv, .inl (G.2.1, 16, .inl dv))] [M, yw, yc, yv])) (va_Qi (fun (r : Int32) (_ : Unit) => r = gF (th3 (okC nA nJ x y z) (wOk wh && vOk t0) (decide (dn < 16))) 0 (nI (dn + 1))) (fun (_ : Unit) (tS : State) => va_P G.1 vwCl [(M, .inr (6, [.int (nI td), .int (nI nA), .int (nI nJ), .ref yA, .ref yJ, .ref yg, .int (nI (gN (th3 (okC nA nJ x y z) (wOk wh && vOk t0) (decide (dn < 16))) dn (dn + 1))), .ref yw, .ref yc, .ref yv, .int (nI snt), .int (nI jd), .ref yr, .int (nI bn), .ref yC, .ref yD, .ref yF, .ref yS, .ref yV, .ref yH, .int (nI (th3 (okC nA nJ x y z) (wOk wh && vOk t0) (decide (dn < 16))))])), (yw, .inl (G.2.1, 16, .inl (gF (th3 (okC nA nJ x y z) (wOk wh && vOk t0) (decide (dn < 16))) dw (upd dw dn wh)))), (yc, .inl (G.2.1, 16, .inl (gF (th3 (okC nA nJ x y z) (wOk wh && vOk t0) (decide (dn < 16))) dc (upd dc dn (cellI x y z))))), (yv, .inl (G.2.1, 16, .inl (gF (th3 (okC nA nJ x y z) (wOk wh && vOk t0) (decide (dn < 16))) dv (upd dv dn t0))))] tS.heap) (Aw [M, yw, yc, yv] sz)) 0 0 (Aw [M, yw, yc, yv] sz) := by
  refine Met.ofW (cc := cX6_put) (maxL := 6) (ret := (some .int)) (by decide) rfl ?_
  intro p e s m args below meth c s₁ B hml hv
  obtain ⟨rfl, hsz, hP, hD, E, Z⟩ := hv
  have hts := atoms_spec (ws := wsX6_put) B.pre
  have hown : s.vm.findClass RX6 = some m.cls := findClass_of_methodNamed B.named
  have X : CallFix p m c cX6_put 6 s _ wsX6_put RX6 := ⟨B.exec, B.bytes, hml, hown, hts⟩
  have hx := B.exec
  have hb := B.bytes
  have hr := B.returns
  have hlocks := B.notSynchronized
  subst hsz
  have w : bSt G vwCl [] s [(M, .inr (6, [.int (nI td), .int (nI nA), .int (nI nJ), .ref yA, .ref yJ, .ref yg, .int (nI dn), .ref yw, .ref yc, .ref yv, .int (nI snt), .int (nI jd), .ref yr, .int (nI bn), .ref yC, .ref yD, .ref yF, .ref yS, .ref yV, .ref yH, .int th])), (yw, .inl (G.2.1, 16, .inl dw)), (yc, .inl (G.2.1, 16, .inl dc)), (yv, .inl (G.2.1, 16, .inl dv))] s.heap [] := ⟨hP, va_S.rf, hD⟩
  have Z0 : bZ [] s := ⟨Z.1.narrow (fun q h => h.elim (fun h => nomatch h) Or.inr), Z.2.narrow (fun q h => h.elim (fun h => nomatch h) Or.inr)⟩
  have iX6 : ∀ w ∈ wsX60, w ∈ wsX6_put := by decide +kernel
  have hl := lv_entry ([.ref M, .int wh, .int x, .int y, .int z, .int t0]) (n := 6) (Nat.le_of_ble_eq_true rfl)
  rw [lg_entry_eq]
  generalize (lg_sl ([.ref M, .int wh, .int x, .int y, .int z, .int t0]) ++ List.replicate (6 - (lg_sl ([.ref M, .int wh, .int x, .int y, .int z, .int t0])).length) Slot.unset).toArray = ls at hl ⊢
  have hl : lv_has ls 6 [(0, .ref M), (1, .int wh), (2, .int x), (3, .int y), (4, .int z), (5, .int t0)] := hl
  refine lv_aload_n hx hb dX6_put_0 rfl (lv_at hl 0 rfl) ?_
  refine lv_aload_n hx hb dX6_put_1 rfl (lv_at hl 0 rfl) ?_
  refine lv_iload_n hx hb dX6_put_2 rfl (lv_at hl 2 rfl) ?_
  refine lv_iload_n hx hb dX6_put_3 rfl (lv_at hl 3 rfl) ?_
  refine lv_iload hx hb dX6_put_4 (lv_at hl 4 rfl) ?_
  refine b_calli w (va_runV (As := [.int x, .int y, .int z]) (rest := [.ref M]) X (c_X6_isCell l hl0 G _ (M := M) (x := x) (y := y) (z := z) (td := td) (nA := nA) (nJ := nJ) (yA := yA) (yJ := yJ) (yg := yg) (dn := dn) (yw := yw) (yc := yc) (yv := yv) (snt := snt) (jd := jd) (yr := yr) (bn := bn) (yC := yC) (yD := yD) (yF := yF) (yS := yS) (yV := yV) (yH := yH) (th := th) (hnA := (by first | assumption | omega)) (hnJ := (by first | assumption | omega))) (cwV 3 hts gX6_put_X6_isCell rfl rfl rfl (by decide +kernel) ⟨Nat.le_of_ble_eq_true rfl, Nat.le_of_ble_eq_true rfl⟩) ⟨b_blind, b_recv E w (ci := 6) (q0 := 0) rfl rfl, (fun U9 hU9 hW9 => ⟨rfl, b_pre E Z0 w [0] (by decide) rfl b_nil U9 hU9 hW9⟩)⟩ rfl rfl hl.1 rfl (lv_room (Nat.le_of_ble_eq_true rfl)) dX6_put_6 ⟨Nat.le_of_ble_eq_true rfl, Nat.le_of_ble_eq_true rfl⟩) b_nil [] (fun _ => rfl) rfl (fun r6_18 u6_18 H locs hr6_18 w => ?_)
  have w : bSt G vwCl [] s [(M, .inr (6, [.int (nI td), .int (nI nA), .int (nI nJ), .ref yA, .ref yJ, .ref yg, .int (nI dn), .ref yw, .ref yc, .ref yv, .int (nI snt), .int (nI jd), .ref yr, .int (nI bn), .ref yC, .ref yD, .ref yF, .ref yS, .ref yV, .ref yH, .int th])), (yw, .inl (G.2.1, 16, .inl dw)), (yc, .inl (G.2.1, 16, .inl dc)), (yv, .inl (G.2.1, 16, .inl dv))] _ _ := w
  subst hr6_18
  refine lv_if_ne (tgt := 16) hx hb dX6_put_9 (by decide) (fun c_9_19 => ?_) (fun c_9_19 => ?_)
  · have q_9_20 : (okC nA nJ x y z) = true := bI_n0.mp c_9_19
    have h9a := q_9_20
    obtain ⟨a, ha, i, hi, p0, hp, rfl, rfl, rfl⟩ := okC_yes (by omega) (by omega) h9a
    have eN := cN_nI ha hi hp hnA hnJ
    have ea : cl (nI a) = a := cl_nI (by omega)
    have ei : cl (nI i) = i := cl_nI (by omega)
    have ep : cl (nI p0) = p0 := cl_nI (by omega)
    refine lv_iload_n hx hb dX6_put_16 rfl (lv_at hl 1 rfl) ?_
    refine lv_iconst (v := nI 0) hx hb dX6_put_17 (by decide) ?_
    refine lv_iconst (v := nI 2) hx hb dX6_put_18 (by decide) ?_
    refine b_calli w (va_runS (As := [.int wh, .int (nI 0), .int (nI 2)]) (rest := [.ref M]) X (c_X6_isIn l hl0 G _ (x := wh) (lo := nI 0) (hi := nI 2) ) (va_cwS 3 hts gX6_put_X6_isIn rfl rfl rfl (by decide +kernel) ⟨Nat.le_of_ble_eq_true rfl, Nat.le_of_ble_eq_true rfl⟩) ⟨b_blind, (fun U9 hU9 hW9 => ⟨rfl, b_pre E Z0 w [] (by decide) rfl b_nil U9 hU9 hW9⟩)⟩ rfl rfl hl.1 rfl (lv_room (Nat.le_of_ble_eq_true rfl)) dX6_put_19 ⟨Nat.le_of_ble_eq_true rfl, Nat.le_of_ble_eq_true rfl⟩) b_nil [] (fun _ => rfl) rfl (fun r19_21 u19_21 H locs hr19_21 w => ?_)
    have w : bSt G vwCl [] s [(M, .inr (6, [.int (nI td), .int (nI nA), .int (nI nJ), .ref yA, .ref yJ, .ref yg, .int (nI dn), .ref yw, .ref yc, .ref yv, .int (nI snt), .int (nI jd), .ref yr, .int (nI bn), .ref yC, .ref yD, .ref yF, .ref yS, .ref yV, .ref yH, .int th])), (yw, .inl (G.2.1, 16, .inl dw)), (yc, .inl (G.2.1, 16, .inl dc)), (yv, .inl (G.2.1, 16, .inl dv))] _ _ := w
    subst hr19_21
    refine b_tp (show bI (tIn wh (nI 0) (nI 2)) = bI (wOk wh) from congrArg bI tIn_w) ?_
    refine lv_if_eq (tgt := 37) hx hb dX6_put_22 (by decide) (fun c_22_22 => ?_) (fun c_22_22 => ?_)
    · have q_22_23 : (wOk wh) = false := bI_0.mp c_22_22
      have hT : th3 (okC nA nJ (nI a) (nI i) (nI p0)) (wOk wh && vOk t0) (decide (dn < 16)) = 2 := by simp [th3, h9a, q_22_23]
      refine lv_iconst (v := nI 2) hx hb dX6_put_37 (by decide) ?_
      refine lv_goto (tgt := 55) hx hb dX6_put_38 (by decide) ?_
      have w := b_wide [M, yw, yc, yv] b_nil w
      refine b_put (ty := .int) X E w (Or.inl (List.mem_of_getElem? (i := 0) rfl)) 0 rfl rfl 20 (by decide) iX6 tyX6 tyX6_ok nmX6 (by decide +kernel) rfl rfl (by decide +kernel) rfl rfl (Nat.le_of_ble_eq_true rfl) dX6_put_55 (fun H locs w => ?_)
      have w : bSt G vwCl [M, yw, yc, yv] s [(M, .inr (6, [.int (nI td), .int (nI nA), .int (nI nJ), .ref yA, .ref yJ, .ref yg, .int (nI dn), .ref yw, .ref yc, .ref yv, .int (nI snt), .int (nI jd), .ref yr, .int (nI bn), .ref yC, .ref yD, .ref yF, .ref yS, .ref yV, .ref yH, .int (nI 2)])), (yw, .inl (G.2.1, 16, .inl dw)), (yc, .inl (G.2.1, 16, .inl dc)), (yv, .inl (G.2.1, 16, .inl dv))] _ _ := w
      refine lv_aload_n hx hb dX6_put_58 rfl (lv_at hl 0 rfl) ?_
      refine b_get X E w 0 rfl rfl 20 (by decide) iX6 (by decide +kernel) rfl rfl dX6_put_59 ?_
      refine lv_if_le (tgt := 67) hx hb dX6_put_62 (by decide) (fun c_62_24 => ?_) (fun c_62_24 => ?_)
      · exact absurd c_62_24 (by decide)
      · refine lv_iconst (v := nI 0) hx hb dX6_put_65 (by decide) ?_
        exact W.iret (v := nI 0) hx hb hr (fun t9 ht9 hW9 => ⟨⟨nI 0, (), rfl, by rw [hT]; rfl, by show va_P G.1 vwCl _ t9.heap; rw [ht9]; exact b_cg (by rw [hT]; rfl) (w.1.sub (ws' := [(M, .inr (6, [.int (nI td), .int (nI nA), .int (nI nJ), .ref yA, .ref yJ, .ref yg, .int (nI dn), .ref yw, .ref yc, .ref yv, .int (nI snt), .int (nI jd), .ref yr, .int (nI bn), .ref yC, .ref yD, .ref yF, .ref yS, .ref yV, .ref yH, .int (nI 2)])), (yw, .inl (G.2.1, 16, .inl dw)), (yc, .inl (G.2.1, 16, .inl dc)), (yv, .inl (G.2.1, 16, .inl dv))]) [0, 1, 2, 3] rfl)⟩, w.2.1.F ht9⟩) w.2.1.2.2 dX6_put_66
    · have q_22_23 : (wOk wh) = true := bI_n0.mp c_22_22
      have h22 := q_22_23
      refine lv_iload hx hb dX6_put_25 (lv_at hl 5 rfl) ?_
      refine lv_ldc (v := -1000000) hx hb hown (hts (.constant RX6 77 (-1000000)) (by decide +kernel)) dX6_put_27 ?_
      refine lv_ldc (v := 1000000) hx hb hown (hts (.constant RX6 78 1000000) (by decide +kernel)) dX6_put_29 ?_
      refine b_calli w (va_runS (As := [.int t0, .int (-1000000), .int 1000000]) (rest := [.ref M]) X (c_X6_isIn l hl0 G _ (x := t0) (lo := -1000000) (hi := 1000000) ) (va_cwS 3 hts gX6_put_X6_isIn rfl rfl rfl (by decide +kernel) ⟨Nat.le_of_ble_eq_true rfl, Nat.le_of_ble_eq_true rfl⟩) ⟨b_blind, (fun U9 hU9 hW9 => ⟨rfl, b_pre E Z0 w [] (by decide) rfl b_nil U9 hU9 hW9⟩)⟩ rfl rfl hl.1 rfl (lv_room (Nat.le_of_ble_eq_true rfl)) dX6_put_31 ⟨Nat.le_of_ble_eq_true rfl, Nat.le_of_ble_eq_true rfl⟩) b_nil [] (fun _ => rfl) rfl (fun r31_25 u31_25 H locs hr31_25 w => ?_)
      have w : bSt G vwCl [] s [(M, .inr (6, [.int (nI td), .int (nI nA), .int (nI nJ), .ref yA, .ref yJ, .ref yg, .int (nI dn), .ref yw, .ref yc, .ref yv, .int (nI snt), .int (nI jd), .ref yr, .int (nI bn), .ref yC, .ref yD, .ref yF, .ref yS, .ref yV, .ref yH, .int th])), (yw, .inl (G.2.1, 16, .inl dw)), (yc, .inl (G.2.1, 16, .inl dc)), (yv, .inl (G.2.1, 16, .inl dv))] _ _ := w
      subst hr31_25
      refine b_tp (show bI (tIn t0 (-1000000) 1000000) = bI (vOk t0) from congrArg bI tIn_v) ?_
      refine lv_if_ne (tgt := 41) hx hb dX6_put_34 (by decide) (fun c_34_26 => ?_) (fun c_34_26 => ?_)
      · have q_34_27 : (vOk t0) = true := bI_n0.mp c_34_26
        have h34 := q_34_27
        refine lv_aload_n hx hb dX6_put_41 rfl (lv_at hl 0 rfl) ?_
        refine b_get X E w 0 rfl rfl 6 (by decide) iX6 (by decide +kernel) rfl rfl dX6_put_42 ?_
        refine lv_bipush (v := nI 16) hx hb dX6_put_45 (by decide) ?_
        refine lv_icmp_ne (tgt := 54) hx hb dX6_put_47 (by decide) (fun c_47_28 => ?_) (fun c_47_28 => ?_)
        · have q_47_29 : ¬ dn = 16 := fun h9 => c_47_28 ((nI_eq (by omega) (by omega)).mpr h9)
          have h47 : dn < 16 := by omega
          have hT : th3 (okC nA nJ (nI a) (nI i) (nI p0)) (wOk wh && vOk t0) (decide (dn < 16)) = 0 := by simp [th3, h9a, h22, h34, h47]
          refine lv_iconst (v := nI 0) hx hb dX6_put_54 (by decide) ?_
          have w := b_wide [M, yw, yc, yv] b_nil w
          refine b_put (ty := .int) X E w (Or.inl (List.mem_of_getElem? (i := 0) rfl)) 0 rfl rfl 20 (by decide) iX6 tyX6 tyX6_ok nmX6 (by decide +kernel) rfl rfl (by decide +kernel) rfl rfl (Nat.le_of_ble_eq_true rfl) dX6_put_55 (fun H locs w => ?_)
          have w : bSt G vwCl [M, yw, yc, yv] s [(M, .inr (6, [.int (nI td), .int (nI nA), .int (nI nJ), .ref yA, .ref yJ, .ref yg, .int (nI dn), .ref yw, .ref yc, .ref yv, .int (nI snt), .int (nI jd), .ref yr, .int (nI bn), .ref yC, .ref yD, .ref yF, .ref yS, .ref yV, .ref yH, .int (nI 0)])), (yw, .inl (G.2.1, 16, .inl dw)), (yc, .inl (G.2.1, 16, .inl dc)), (yv, .inl (G.2.1, 16, .inl dv))] _ _ := w
          refine lv_aload_n hx hb dX6_put_58 rfl (lv_at hl 0 rfl) ?_
          refine b_get X E w 0 rfl rfl 20 (by decide) iX6 (by decide +kernel) rfl rfl dX6_put_59 ?_
          refine lv_if_le (tgt := 67) hx hb dX6_put_62 (by decide) (fun c_62_30 => ?_) (fun c_62_30 => ?_)
          · refine lv_aload_n hx hb dX6_put_67 rfl (lv_at hl 0 rfl) ?_
            refine b_get X E w 0 rfl rfl 7 (by decide) iX6 (by decide +kernel) rfl rfl dX6_put_68 ?_
            refine lv_aload_n hx hb dX6_put_71 rfl (lv_at hl 0 rfl) ?_
            refine b_get X E w 0 rfl rfl 6 (by decide) iX6 (by decide +kernel) rfl rfl dX6_put_72 ?_
            refine lv_iload_n hx hb dX6_put_75 rfl (lv_at hl 1 rfl) ?_
            refine b_iast X E w (Or.inl (List.mem_of_getElem? (i := 1) rfl)) 1 rfl dn rfl (by omega) (by first | decide | omega) dX6_put_76 (fun H locs w => ?_)
            have w : bSt G vwCl [M, yw, yc, yv] s [(M, .inr (6, [.int (nI td), .int (nI nA), .int (nI nJ), .ref yA, .ref yJ, .ref yg, .int (nI dn), .ref yw, .ref yc, .ref yv, .int (nI snt), .int (nI jd), .ref yr, .int (nI bn), .ref yC, .ref yD, .ref yF, .ref yS, .ref yV, .ref yH, .int (nI 0)])), (yw, .inl (G.2.1, 16, .inl (upd dw dn wh))), (yc, .inl (G.2.1, 16, .inl dc)), (yv, .inl (G.2.1, 16, .inl dv))] _ _ := w
            refine lv_aload_n hx hb dX6_put_77 rfl (lv_at hl 0 rfl) ?_
            refine b_get X E w 0 rfl rfl 8 (by decide) iX6 (by decide +kernel) rfl rfl dX6_put_78 ?_
            refine lv_aload_n hx hb dX6_put_81 rfl (lv_at hl 0 rfl) ?_
            refine b_get X E w 0 rfl rfl 6 (by decide) iX6 (by decide +kernel) rfl rfl dX6_put_82 ?_
            refine lv_iload_n hx hb dX6_put_85 rfl (lv_at hl 2 rfl) ?_
            refine lv_iload_n hx hb dX6_put_86 rfl (lv_at hl 3 rfl) ?_
            refine lv_iload hx hb dX6_put_87 (lv_at hl 4 rfl) ?_
            refine b_calli w (va_runS (As := [.int (nI a), .int (nI i), .int (nI p0)]) (rest := [.int (nI dn), .ref yc]) X (c_X6_cellOf l hl0 G _ (a := a) (i := i) (p0 := p0) ) (va_cwS 3 hts gX6_put_X6_cellOf rfl rfl rfl (by decide +kernel) ⟨Nat.le_of_ble_eq_true rfl, Nat.le_of_ble_eq_true rfl⟩) ⟨b_blind, (fun U9 hU9 hW9 => ⟨rfl, b_pre E Z w [] (by decide) rfl b_nil U9 hU9 hW9⟩)⟩ rfl rfl hl.1 rfl (lv_room (Nat.le_of_ble_eq_true rfl)) dX6_put_89 ⟨Nat.le_of_ble_eq_true rfl, Nat.le_of_ble_eq_true rfl⟩) b_nil [] (fun _ => rfl) rfl (fun r89_31 u89_31 H locs hr89_31 w => ?_)
            have w : bSt G vwCl [M, yw, yc, yv] s [(M, .inr (6, [.int (nI td), .int (nI nA), .int (nI nJ), .ref yA, .ref yJ, .ref yg, .int (nI dn), .ref yw, .ref yc, .ref yv, .int (nI snt), .int (nI jd), .ref yr, .int (nI bn), .ref yC, .ref yD, .ref yF, .ref yS, .ref yV, .ref yH, .int (nI 0)])), (yw, .inl (G.2.1, 16, .inl (upd dw dn wh))), (yc, .inl (G.2.1, 16, .inl dc)), (yv, .inl (G.2.1, 16, .inl dv))] _ _ := w
            subst hr89_31
            refine b_iast X E w (Or.inl (List.mem_of_getElem? (i := 2) rfl)) 2 rfl dn rfl (by omega) (by first | decide | omega) dX6_put_92 (fun H locs w => ?_)
            have w : bSt G vwCl [M, yw, yc, yv] s [(M, .inr (6, [.int (nI td), .int (nI nA), .int (nI nJ), .ref yA, .ref yJ, .ref yg, .int (nI dn), .ref yw, .ref yc, .ref yv, .int (nI snt), .int (nI jd), .ref yr, .int (nI bn), .ref yC, .ref yD, .ref yF, .ref yS, .ref yV, .ref yH, .int (nI 0)])), (yw, .inl (G.2.1, 16, .inl (upd dw dn wh))), (yc, .inl (G.2.1, 16, .inl (upd dc dn (nI (140 * p0 + (10 * a + i)))))), (yv, .inl (G.2.1, 16, .inl dv))] _ _ := w
            refine lv_aload_n hx hb dX6_put_93 rfl (lv_at hl 0 rfl) ?_
            refine b_get X E w 0 rfl rfl 9 (by decide) iX6 (by decide +kernel) rfl rfl dX6_put_94 ?_
            refine lv_aload_n hx hb dX6_put_97 rfl (lv_at hl 0 rfl) ?_
            refine b_get X E w 0 rfl rfl 6 (by decide) iX6 (by decide +kernel) rfl rfl dX6_put_98 ?_
            refine lv_iload hx hb dX6_put_101 (lv_at hl 5 rfl) ?_
            refine b_iast X E w (Or.inl (List.mem_of_getElem? (i := 3) rfl)) 3 rfl dn rfl (by omega) (by first | decide | omega) dX6_put_103 (fun H locs w => ?_)
            have w : bSt G vwCl [M, yw, yc, yv] s [(M, .inr (6, [.int (nI td), .int (nI nA), .int (nI nJ), .ref yA, .ref yJ, .ref yg, .int (nI dn), .ref yw, .ref yc, .ref yv, .int (nI snt), .int (nI jd), .ref yr, .int (nI bn), .ref yC, .ref yD, .ref yF, .ref yS, .ref yV, .ref yH, .int (nI 0)])), (yw, .inl (G.2.1, 16, .inl (upd dw dn wh))), (yc, .inl (G.2.1, 16, .inl (upd dc dn (nI (140 * p0 + (10 * a + i)))))), (yv, .inl (G.2.1, 16, .inl (upd dv dn t0)))] _ _ := w
            refine lv_aload_n hx hb dX6_put_104 rfl (lv_at hl 0 rfl) ?_
            refine lv_dup hx hb dX6_put_105 rfl ?_
            refine b_get X E w 0 rfl rfl 6 (by decide) iX6 (by decide +kernel) rfl rfl dX6_put_106 ?_
            refine lv_iconst (v := nI 1) hx hb dX6_put_109 (by decide) ?_
            refine lv_iadd hx hb dX6_put_110 ?_
            refine b_tp (show (nI dn) + (nI 1) = nI (dn + 1) from nI_add dn 1) ?_
            refine b_put (ty := .int) X E w (Or.inl (List.mem_of_getElem? (i := 0) rfl)) 0 rfl rfl 6 (by decide) iX6 tyX6 tyX6_ok nmX6 (by decide +kernel) rfl rfl (by decide +kernel) rfl rfl (Nat.le_of_ble_eq_true rfl) dX6_put_111 (fun H locs w => ?_)
            have w : bSt G vwCl [M, yw, yc, yv] s [(M, .inr (6, [.int (nI td), .int (nI nA), .int (nI nJ), .ref yA, .ref yJ, .ref yg, .int (nI (dn + 1)), .ref yw, .ref yc, .ref yv, .int (nI snt), .int (nI jd), .ref yr, .int (nI bn), .ref yC, .ref yD, .ref yF, .ref yS, .ref yV, .ref yH, .int (nI 0)])), (yw, .inl (G.2.1, 16, .inl (upd dw dn wh))), (yc, .inl (G.2.1, 16, .inl (upd dc dn (nI (140 * p0 + (10 * a + i)))))), (yv, .inl (G.2.1, 16, .inl (upd dv dn t0)))] _ _ := w
            refine lv_aload_n hx hb dX6_put_114 rfl (lv_at hl 0 rfl) ?_
            refine b_get X E w 0 rfl rfl 6 (by decide) iX6 (by decide +kernel) rfl rfl dX6_put_115 ?_
            exact W.iret (v := nI (dn + 1)) hx hb hr (fun t9 ht9 hW9 => ⟨⟨nI (dn + 1), (), rfl, by rw [hT]; rfl, by show va_P G.1 vwCl _ t9.heap; rw [ht9]; exact b_cg (by rw [hT, cellI_nI]; rfl) (w.1.sub (ws' := [(M, .inr (6, [.int (nI td), .int (nI nA), .int (nI nJ), .ref yA, .ref yJ, .ref yg, .int (nI (dn + 1)), .ref yw, .ref yc, .ref yv, .int (nI snt), .int (nI jd), .ref yr, .int (nI bn), .ref yC, .ref yD, .ref yF, .ref yS, .ref yV, .ref yH, .int (nI 0)])), (yw, .inl (G.2.1, 16, .inl (upd dw dn wh))), (yc, .inl (G.2.1, 16, .inl (upd dc dn (nI (140 * p0 + (10 * a + i)))))), (yv, .inl (G.2.1, 16, .inl (upd dv dn t0)))]) [0, 1, 2, 3] rfl)⟩, w.2.1.F ht9⟩) w.2.1.2.2 dX6_put_118
          · exact absurd (by decide) c_62_30
        · have q_47_29 : dn = 16 := (nI_eq (by omega) (by omega)).mp c_47_28
          have h47 : ¬ dn < 16 := by omega
          have hT : th3 (okC nA nJ (nI a) (nI i) (nI p0)) (wOk wh && vOk t0) (decide (dn < 16)) = 3 := by simp [th3, h9a, h22, h34, h47]
          refine lv_iconst (v := nI 3) hx hb dX6_put_50 (by decide) ?_
          refine lv_goto (tgt := 55) hx hb dX6_put_51 (by decide) ?_
          have w := b_wide [M, yw, yc, yv] b_nil w
          refine b_put (ty := .int) X E w (Or.inl (List.mem_of_getElem? (i := 0) rfl)) 0 rfl rfl 20 (by decide) iX6 tyX6 tyX6_ok nmX6 (by decide +kernel) rfl rfl (by decide +kernel) rfl rfl (Nat.le_of_ble_eq_true rfl) dX6_put_55 (fun H locs w => ?_)
          have w : bSt G vwCl [M, yw, yc, yv] s [(M, .inr (6, [.int (nI td), .int (nI nA), .int (nI nJ), .ref yA, .ref yJ, .ref yg, .int (nI dn), .ref yw, .ref yc, .ref yv, .int (nI snt), .int (nI jd), .ref yr, .int (nI bn), .ref yC, .ref yD, .ref yF, .ref yS, .ref yV, .ref yH, .int (nI 3)])), (yw, .inl (G.2.1, 16, .inl dw)), (yc, .inl (G.2.1, 16, .inl dc)), (yv, .inl (G.2.1, 16, .inl dv))] _ _ := w
          refine lv_aload_n hx hb dX6_put_58 rfl (lv_at hl 0 rfl) ?_
          refine b_get X E w 0 rfl rfl 20 (by decide) iX6 (by decide +kernel) rfl rfl dX6_put_59 ?_
          refine lv_if_le (tgt := 67) hx hb dX6_put_62 (by decide) (fun c_62_32 => ?_) (fun c_62_32 => ?_)
          · exact absurd c_62_32 (by decide)
          · refine lv_iconst (v := nI 0) hx hb dX6_put_65 (by decide) ?_
            exact W.iret (v := nI 0) hx hb hr (fun t9 ht9 hW9 => ⟨⟨nI 0, (), rfl, by rw [hT]; rfl, by show va_P G.1 vwCl _ t9.heap; rw [ht9]; exact b_cg (by rw [hT]; rfl) (w.1.sub (ws' := [(M, .inr (6, [.int (nI td), .int (nI nA), .int (nI nJ), .ref yA, .ref yJ, .ref yg, .int (nI dn), .ref yw, .ref yc, .ref yv, .int (nI snt), .int (nI jd), .ref yr, .int (nI bn), .ref yC, .ref yD, .ref yF, .ref yS, .ref yV, .ref yH, .int (nI 3)])), (yw, .inl (G.2.1, 16, .inl dw)), (yc, .inl (G.2.1, 16, .inl dc)), (yv, .inl (G.2.1, 16, .inl dv))]) [0, 1, 2, 3] rfl)⟩, w.2.1.F ht9⟩) w.2.1.2.2 dX6_put_66
      · have q_34_27 : (vOk t0) = false := bI_0.mp c_34_26
        have hT : th3 (okC nA nJ (nI a) (nI i) (nI p0)) (wOk wh && vOk t0) (decide (dn < 16)) = 2 := by simp [th3, h9a, h22, q_34_27]
        refine lv_iconst (v := nI 2) hx hb dX6_put_37 (by decide) ?_
        refine lv_goto (tgt := 55) hx hb dX6_put_38 (by decide) ?_
        have w := b_wide [M, yw, yc, yv] b_nil w
        refine b_put (ty := .int) X E w (Or.inl (List.mem_of_getElem? (i := 0) rfl)) 0 rfl rfl 20 (by decide) iX6 tyX6 tyX6_ok nmX6 (by decide +kernel) rfl rfl (by decide +kernel) rfl rfl (Nat.le_of_ble_eq_true rfl) dX6_put_55 (fun H locs w => ?_)
        have w : bSt G vwCl [M, yw, yc, yv] s [(M, .inr (6, [.int (nI td), .int (nI nA), .int (nI nJ), .ref yA, .ref yJ, .ref yg, .int (nI dn), .ref yw, .ref yc, .ref yv, .int (nI snt), .int (nI jd), .ref yr, .int (nI bn), .ref yC, .ref yD, .ref yF, .ref yS, .ref yV, .ref yH, .int (nI 2)])), (yw, .inl (G.2.1, 16, .inl dw)), (yc, .inl (G.2.1, 16, .inl dc)), (yv, .inl (G.2.1, 16, .inl dv))] _ _ := w
        refine lv_aload_n hx hb dX6_put_58 rfl (lv_at hl 0 rfl) ?_
        refine b_get X E w 0 rfl rfl 20 (by decide) iX6 (by decide +kernel) rfl rfl dX6_put_59 ?_
        refine lv_if_le (tgt := 67) hx hb dX6_put_62 (by decide) (fun c_62_33 => ?_) (fun c_62_33 => ?_)
        · exact absurd c_62_33 (by decide)
        · refine lv_iconst (v := nI 0) hx hb dX6_put_65 (by decide) ?_
          exact W.iret (v := nI 0) hx hb hr (fun t9 ht9 hW9 => ⟨⟨nI 0, (), rfl, by rw [hT]; rfl, by show va_P G.1 vwCl _ t9.heap; rw [ht9]; exact b_cg (by rw [hT]; rfl) (w.1.sub (ws' := [(M, .inr (6, [.int (nI td), .int (nI nA), .int (nI nJ), .ref yA, .ref yJ, .ref yg, .int (nI dn), .ref yw, .ref yc, .ref yv, .int (nI snt), .int (nI jd), .ref yr, .int (nI bn), .ref yC, .ref yD, .ref yF, .ref yS, .ref yV, .ref yH, .int (nI 2)])), (yw, .inl (G.2.1, 16, .inl dw)), (yc, .inl (G.2.1, 16, .inl dc)), (yv, .inl (G.2.1, 16, .inl dv))]) [0, 1, 2, 3] rfl)⟩, w.2.1.F ht9⟩) w.2.1.2.2 dX6_put_66
  · have q_9_20 : (okC nA nJ x y z) = false := bI_0.mp c_9_19
    have hT : th3 (okC nA nJ x y z) (wOk wh && vOk t0) (decide (dn < 16)) = 1 := by simp [th3, q_9_20]
    refine lv_iconst (v := nI 1) hx hb dX6_put_12 (by decide) ?_
    refine lv_goto (tgt := 55) hx hb dX6_put_13 (by decide) ?_
    have w := b_wide [M, yw, yc, yv] b_nil w
    refine b_put (ty := .int) X E w (Or.inl (List.mem_of_getElem? (i := 0) rfl)) 0 rfl rfl 20 (by decide) iX6 tyX6 tyX6_ok nmX6 (by decide +kernel) rfl rfl (by decide +kernel) rfl rfl (Nat.le_of_ble_eq_true rfl) dX6_put_55 (fun H locs w => ?_)
    have w : bSt G vwCl [M, yw, yc, yv] s [(M, .inr (6, [.int (nI td), .int (nI nA), .int (nI nJ), .ref yA, .ref yJ, .ref yg, .int (nI dn), .ref yw, .ref yc, .ref yv, .int (nI snt), .int (nI jd), .ref yr, .int (nI bn), .ref yC, .ref yD, .ref yF, .ref yS, .ref yV, .ref yH, .int (nI 1)])), (yw, .inl (G.2.1, 16, .inl dw)), (yc, .inl (G.2.1, 16, .inl dc)), (yv, .inl (G.2.1, 16, .inl dv))] _ _ := w
    refine lv_aload_n hx hb dX6_put_58 rfl (lv_at hl 0 rfl) ?_
    refine b_get X E w 0 rfl rfl 20 (by decide) iX6 (by decide +kernel) rfl rfl dX6_put_59 ?_
    refine lv_if_le (tgt := 67) hx hb dX6_put_62 (by decide) (fun c_62_34 => ?_) (fun c_62_34 => ?_)
    · exact absurd c_62_34 (by decide)
    · refine lv_iconst (v := nI 0) hx hb dX6_put_65 (by decide) ?_
      exact W.iret (v := nI 0) hx hb hr (fun t9 ht9 hW9 => ⟨⟨nI 0, (), rfl, by rw [hT]; rfl, by show va_P G.1 vwCl _ t9.heap; rw [ht9]; exact b_cg (by rw [hT]; rfl) (w.1.sub (ws' := [(M, .inr (6, [.int (nI td), .int (nI nA), .int (nI nJ), .ref yA, .ref yJ, .ref yg, .int (nI dn), .ref yw, .ref yc, .ref yv, .int (nI snt), .int (nI jd), .ref yr, .int (nI bn), .ref yC, .ref yD, .ref yF, .ref yS, .ref yV, .ref yH, .int (nI 1)])), (yw, .inl (G.2.1, 16, .inl dw)), (yc, .inl (G.2.1, 16, .inl dc)), (yv, .inl (G.2.1, 16, .inl dv))]) [0, 1, 2, 3] rfl)⟩, w.2.1.F ht9⟩) w.2.1.2.2 dX6_put_66
set_option maxHeartbeats 4000000 in
set_option maxRecDepth 100000 in
theorem c_X6_wipe (l : Launch) (hl0 : l.stackTraces = false) (G : bG) (sz : Nat) (M yA yJ yg yw yc yv yr yC yD yF yS yV yH td nA nJ dn snt jd bn : Nat) (th : Int32) : Met l yX6_wipe wsX6_wipe ({ frames := 0, cells := 0, slots := 0, locals := 0 }) (va_Pc [.ref M] (bPre G vwCl bNW bSW sz [(M, .inr (6, [.int (nI td), .int (nI nA), .int (nI nJ), .ref yA, .ref yJ, .ref yg, .int (nI dn), .ref yw, .ref yc, .ref yv, .int (nI snt), .int (nI jd), .ref yr, .int (nI bn), .ref yC, .ref yD, .ref yF, .ref yS, .ref yV, .ref yH, .int th]))] [M])) (va_Qi (fun (r : Int32) (_ : Unit) => r = nI dn) (fun (_ : Unit) (tS : State) => va_P G.1 vwCl [(M, .inr (6, [.int (nI td), .int (nI nA), .int (nI nJ), .ref yA, .ref yJ, .ref yg, .int (nI 0), .ref yw, .ref yc, .ref yv, .int (nI snt), .int (nI jd), .ref yr, .int (nI bn), .ref yC, .ref yD, .ref yF, .ref yS, .ref yV, .ref yH, .int (nI 0)]))] tS.heap) (Aw [M] sz)) 0 0 (Aw [M] sz) := by
  refine Met.ofW (cc := cX6_wipe) (maxL := 2) (ret := (some .int)) (by decide) rfl ?_
  intro p e s m args below meth c s₁ B hml hv
  obtain ⟨rfl, hsz, hP, hD, E, Z⟩ := hv
  have hts := atoms_spec (ws := wsX6_wipe) B.pre
  have hown : s.vm.findClass RX6 = some m.cls := findClass_of_methodNamed B.named
  have X : CallFix p m c cX6_wipe 2 s _ wsX6_wipe RX6 := ⟨B.exec, B.bytes, hml, hown, hts⟩
  have hx := B.exec
  have hb := B.bytes
  have hr := B.returns
  have hlocks := B.notSynchronized
  subst hsz
  have w : bSt G vwCl [] s [(M, .inr (6, [.int (nI td), .int (nI nA), .int (nI nJ), .ref yA, .ref yJ, .ref yg, .int (nI dn), .ref yw, .ref yc, .ref yv, .int (nI snt), .int (nI jd), .ref yr, .int (nI bn), .ref yC, .ref yD, .ref yF, .ref yS, .ref yV, .ref yH, .int th]))] s.heap [] := ⟨hP, va_S.rf, hD⟩
  have Z0 : bZ [] s := ⟨Z.1.narrow (fun q h => h.elim (fun h => nomatch h) Or.inr), Z.2.narrow (fun q h => h.elim (fun h => nomatch h) Or.inr)⟩
  have iX6 : ∀ w ∈ wsX60, w ∈ wsX6_wipe := by decide +kernel
  have hl := lv_entry ([.ref M]) (n := 2) (Nat.le_of_ble_eq_true rfl)
  rw [lg_entry_eq]
  generalize (lg_sl ([.ref M]) ++ List.replicate (2 - (lg_sl ([.ref M])).length) Slot.unset).toArray = ls at hl ⊢
  have hl : lv_has ls 2 [(0, .ref M)] := hl
  refine lv_aload_n hx hb dX6_wipe_0 rfl (lv_at hl 0 rfl) ?_
  refine lv_iconst (v := nI 0) hx hb dX6_wipe_1 (by decide) ?_
  have w := b_wide [M] b_nil w
  refine b_put (ty := .int) X E w (Or.inl (List.mem_of_getElem? (i := 0) rfl)) 0 rfl rfl 20 (by decide) iX6 tyX6 tyX6_ok nmX6 (by decide +kernel) rfl rfl (by decide +kernel) rfl rfl (Nat.le_of_ble_eq_true rfl) dX6_wipe_2 (fun H locs w => ?_)
  have w : bSt G vwCl [M] s [(M, .inr (6, [.int (nI td), .int (nI nA), .int (nI nJ), .ref yA, .ref yJ, .ref yg, .int (nI dn), .ref yw, .ref yc, .ref yv, .int (nI snt), .int (nI jd), .ref yr, .int (nI bn), .ref yC, .ref yD, .ref yF, .ref yS, .ref yV, .ref yH, .int (nI 0)]))] _ _ := w
  refine lv_aload_n hx hb dX6_wipe_5 rfl (lv_at hl 0 rfl) ?_
  refine b_get X E w 0 rfl rfl 6 (by decide) iX6 (by decide +kernel) rfl rfl dX6_wipe_6 ?_
  refine lv_istore_n (lv' := [(1, .int (nI dn)), (0, .ref M)]) hx hb dX6_wipe_9 rfl hl (by decide) rfl (fun ls hl => ?_)
  refine lv_aload_n hx hb dX6_wipe_10 rfl (lv_at hl 1 rfl) ?_
  refine lv_iconst (v := nI 0) hx hb dX6_wipe_11 (by decide) ?_
  refine b_put (ty := .int) X E w (Or.inl (List.mem_of_getElem? (i := 0) rfl)) 0 rfl rfl 6 (by decide) iX6 tyX6 tyX6_ok nmX6 (by decide +kernel) rfl rfl (by decide +kernel) rfl rfl (Nat.le_of_ble_eq_true rfl) dX6_wipe_12 (fun H locs w => ?_)
  have w : bSt G vwCl [M] s [(M, .inr (6, [.int (nI td), .int (nI nA), .int (nI nJ), .ref yA, .ref yJ, .ref yg, .int (nI 0), .ref yw, .ref yc, .ref yv, .int (nI snt), .int (nI jd), .ref yr, .int (nI bn), .ref yC, .ref yD, .ref yF, .ref yS, .ref yV, .ref yH, .int (nI 0)]))] _ _ := w
  refine lv_iload_n hx hb dX6_wipe_15 rfl (lv_at hl 0 rfl) ?_
  exact W.iret (v := nI dn) hx hb hr (fun t9 ht9 hW9 => ⟨⟨nI dn, (), rfl, rfl, by show va_P G.1 vwCl _ t9.heap; rw [ht9]; exact b_cg (rfl) (w.1.sub (ws' := [(M, .inr (6, [.int (nI td), .int (nI nA), .int (nI nJ), .ref yA, .ref yJ, .ref yg, .int (nI 0), .ref yw, .ref yc, .ref yv, .int (nI snt), .int (nI jd), .ref yr, .int (nI bn), .ref yC, .ref yD, .ref yF, .ref yS, .ref yV, .ref yH, .int (nI 0)]))]) [0] rfl)⟩, w.2.1.F ht9⟩) w.2.1.2.2 dX6_wipe_16
set_option maxHeartbeats 4000000 in
set_option maxRecDepth 100000 in
theorem c_X6_figure (l : Launch) (hl0 : l.stackTraces = false) (G : bG) (sz : Nat) (M yA yJ yg yw yc yv yr yC yD yF yS yV yH td nA nJ dn snt jd bn : Nat) (th : Int32) (bc : Nat → Int32) (bd : Nat → Int32) (bf : Nat → Int32) (x y z d : Int32) (hnA : nA ≤ 14) (hnJ : nJ ≤ 10) (hbn : bn ≤ 300) : Met l yX6_figure wsX6_figure ({ frames := 3, cells := 0, slots := 0, locals := 66 }) (va_Pc [.ref M, .int x, .int y, .int z, .int d] (bPre G vwCl bNW bSW sz [(M, .inr (6, [.int (nI td), .int (nI nA), .int (nI nJ), .ref yA, .ref yJ, .ref yg, .int (nI dn), .ref yw, .ref yc, .ref yv, .int (nI snt), .int (nI jd), .ref yr, .int (nI bn), .ref yC, .ref yD, .ref yF, .ref yS, .ref yV, .ref yH, .int th])), (yC, .inl (G.2.1, 300, .inl bc)), (yD, .inl (G.2.1, 300, .inl bd)), (yF, .inl (G.2.1, 300, .inl bf))] [M])) (va_Qi (fun (r : Int32) (_ : Unit) => r = gF (th2 (okC nA nJ x y z) (dOk td d)) 0 (fo bc bd bf (nI (cN x y z)) d bn)) (fun (_ : Unit) (tS : State) => va_P G.1 vwCl [(M, .inr (6, [.int (nI td), .int (nI nA), .int (nI nJ), .ref yA, .ref yJ, .ref yg, .int (nI dn), .ref yw, .ref yc, .ref yv, .int (nI snt), .int (nI jd), .ref yr, .int (nI bn), .ref yC, .ref yD, .ref yF, .ref yS, .ref yV, .ref yH, .int (nI (th2 (okC nA nJ x y z) (dOk td d)))]))] tS.heap) (Aw [M] sz)) 0 0 (Aw [M] sz) := by
  refine Met.ofW (cc := cX6_figure) (maxL := 5) (ret := (some .int)) (by decide) rfl ?_
  intro p e s m args below meth c s₁ B hml hv
  obtain ⟨rfl, hsz, hP, hD, E, Z⟩ := hv
  have hts := atoms_spec (ws := wsX6_figure) B.pre
  have hown : s.vm.findClass RX6 = some m.cls := findClass_of_methodNamed B.named
  have X : CallFix p m c cX6_figure 5 s _ wsX6_figure RX6 := ⟨B.exec, B.bytes, hml, hown, hts⟩
  have hx := B.exec
  have hb := B.bytes
  have hr := B.returns
  have hlocks := B.notSynchronized
  subst hsz
  have w : bSt G vwCl [] s [(M, .inr (6, [.int (nI td), .int (nI nA), .int (nI nJ), .ref yA, .ref yJ, .ref yg, .int (nI dn), .ref yw, .ref yc, .ref yv, .int (nI snt), .int (nI jd), .ref yr, .int (nI bn), .ref yC, .ref yD, .ref yF, .ref yS, .ref yV, .ref yH, .int th])), (yC, .inl (G.2.1, 300, .inl bc)), (yD, .inl (G.2.1, 300, .inl bd)), (yF, .inl (G.2.1, 300, .inl bf))] s.heap [] := ⟨hP, va_S.rf, hD⟩
  have Z0 : bZ [] s := ⟨Z.1.narrow (fun q h => h.elim (fun h => nomatch h) Or.inr), Z.2.narrow (fun q h => h.elim (fun h => nomatch h) Or.inr)⟩
  have iX6 : ∀ w ∈ wsX60, w ∈ wsX6_figure := by decide +kernel
  have hl := lv_entry ([.ref M, .int x, .int y, .int z, .int d]) (n := 5) (Nat.le_of_ble_eq_true rfl)
  rw [lg_entry_eq]
  generalize (lg_sl ([.ref M, .int x, .int y, .int z, .int d]) ++ List.replicate (5 - (lg_sl ([.ref M, .int x, .int y, .int z, .int d])).length) Slot.unset).toArray = ls at hl ⊢
  have hl : lv_has ls 5 [(0, .ref M), (1, .int x), (2, .int y), (3, .int z), (4, .int d)] := hl
  refine lv_aload_n hx hb dX6_figure_0 rfl (lv_at hl 0 rfl) ?_
  refine lv_aload_n hx hb dX6_figure_1 rfl (lv_at hl 0 rfl) ?_
  refine lv_iload_n hx hb dX6_figure_2 rfl (lv_at hl 1 rfl) ?_
  refine lv_iload_n hx hb dX6_figure_3 rfl (lv_at hl 2 rfl) ?_
  refine lv_iload_n hx hb dX6_figure_4 rfl (lv_at hl 3 rfl) ?_
  refine b_calli w (va_runV (As := [.int x, .int y, .int z]) (rest := [.ref M]) X (c_X6_isCell l hl0 G _ (M := M) (x := x) (y := y) (z := z) (td := td) (nA := nA) (nJ := nJ) (yA := yA) (yJ := yJ) (yg := yg) (dn := dn) (yw := yw) (yc := yc) (yv := yv) (snt := snt) (jd := jd) (yr := yr) (bn := bn) (yC := yC) (yD := yD) (yF := yF) (yS := yS) (yV := yV) (yH := yH) (th := th) (hnA := (by first | assumption | omega)) (hnJ := (by first | assumption | omega))) (cwV 3 hts gX6_figure_X6_isCell rfl rfl rfl (by decide +kernel) ⟨Nat.le_of_ble_eq_true rfl, Nat.le_of_ble_eq_true rfl⟩) ⟨b_blind, b_recv E w (ci := 6) (q0 := 0) rfl rfl, (fun U9 hU9 hW9 => ⟨rfl, b_pre E Z0 w [0] (by decide) rfl b_nil U9 hU9 hW9⟩)⟩ rfl rfl hl.1 rfl (lv_room (Nat.le_of_ble_eq_true rfl)) dX6_figure_5 ⟨Nat.le_of_ble_eq_true rfl, Nat.le_of_ble_eq_true rfl⟩) b_nil [] (fun _ => rfl) rfl (fun r5_12 u5_12 H locs hr5_12 w => ?_)
  have w : bSt G vwCl [] s [(M, .inr (6, [.int (nI td), .int (nI nA), .int (nI nJ), .ref yA, .ref yJ, .ref yg, .int (nI dn), .ref yw, .ref yc, .ref yv, .int (nI snt), .int (nI jd), .ref yr, .int (nI bn), .ref yC, .ref yD, .ref yF, .ref yS, .ref yV, .ref yH, .int th])), (yC, .inl (G.2.1, 300, .inl bc)), (yD, .inl (G.2.1, 300, .inl bd)), (yF, .inl (G.2.1, 300, .inl bf))] _ _ := w
  subst hr5_12
  refine lv_if_ne (tgt := 15) hx hb dX6_figure_8 (by decide) (fun c_8_13 => ?_) (fun c_8_13 => ?_)
  · have q_8_14 : (okC nA nJ x y z) = true := bI_n0.mp c_8_13
    have h9a := q_8_14
    obtain ⟨a, ha, i, hi, p0, hp, rfl, rfl, rfl⟩ := okC_yes (by omega) (by omega) h9a
    have eN := cN_nI ha hi hp hnA hnJ
    have ea : cl (nI a) = a := cl_nI (by omega)
    have ei : cl (nI i) = i := cl_nI (by omega)
    have ep : cl (nI p0) = p0 := cl_nI (by omega)
    refine lv_iload hx hb dX6_figure_15 (lv_at hl 4 rfl) ?_
    refine lv_iconst (v := nI 0) hx hb dX6_figure_17 (by decide) ?_
    refine lv_aload_n hx hb dX6_figure_18 rfl (lv_at hl 0 rfl) ?_
    refine b_get X E w 0 rfl rfl 0 (by decide) iX6 (by decide +kernel) rfl rfl dX6_figure_19 ?_
    refine b_calli w (va_runS (As := [.int d, .int (nI 0), .int (nI td)]) (rest := [.ref M]) X (c_X6_isIn l hl0 G _ (x := d) (lo := nI 0) (hi := nI td) ) (va_cwS 3 hts gX6_figure_X6_isIn rfl rfl rfl (by decide +kernel) ⟨Nat.le_of_ble_eq_true rfl, Nat.le_of_ble_eq_true rfl⟩) ⟨b_blind, (fun U9 hU9 hW9 => ⟨rfl, b_pre E Z0 w [] (by decide) rfl b_nil U9 hU9 hW9⟩)⟩ rfl rfl hl.1 rfl (lv_room (Nat.le_of_ble_eq_true rfl)) dX6_figure_22 ⟨Nat.le_of_ble_eq_true rfl, Nat.le_of_ble_eq_true rfl⟩) b_nil [] (fun _ => rfl) rfl (fun r22_15 u22_15 H locs hr22_15 w => ?_)
    have w : bSt G vwCl [] s [(M, .inr (6, [.int (nI td), .int (nI nA), .int (nI nJ), .ref yA, .ref yJ, .ref yg, .int (nI dn), .ref yw, .ref yc, .ref yv, .int (nI snt), .int (nI jd), .ref yr, .int (nI bn), .ref yC, .ref yD, .ref yF, .ref yS, .ref yV, .ref yH, .int th])), (yC, .inl (G.2.1, 300, .inl bc)), (yD, .inl (G.2.1, 300, .inl bd)), (yF, .inl (G.2.1, 300, .inl bf))] _ _ := w
    subst hr22_15
    refine b_tp (show bI (tIn d (nI 0) (nI td)) = bI (dOk td d) from congrArg bI tIn_dOk) ?_
    refine lv_if_ne (tgt := 32) hx hb dX6_figure_25 (by decide) (fun c_25_16 => ?_) (fun c_25_16 => ?_)
    · have q_25_17 : (dOk td d) = true := bI_n0.mp c_25_16
      have hT : th2 (okC nA nJ (nI a) (nI i) (nI p0)) (dOk td d) = 0 := by simp [th2, h9a, q_25_17]
      refine lv_iconst (v := nI 0) hx hb dX6_figure_32 (by decide) ?_
      have w := b_wide [M] b_nil w
      refine b_put (ty := .int) X E w (Or.inl (List.mem_of_getElem? (i := 0) rfl)) 0 rfl rfl 20 (by decide) iX6 tyX6 tyX6_ok nmX6 (by decide +kernel) rfl rfl (by decide +kernel) rfl rfl (Nat.le_of_ble_eq_true rfl) dX6_figure_33 (fun H locs w => ?_)
      have w : bSt G vwCl [M] s [(M, .inr (6, [.int (nI td), .int (nI nA), .int (nI nJ), .ref yA, .ref yJ, .ref yg, .int (nI dn), .ref yw, .ref yc, .ref yv, .int (nI snt), .int (nI jd), .ref yr, .int (nI bn), .ref yC, .ref yD, .ref yF, .ref yS, .ref yV, .ref yH, .int (nI 0)])), (yC, .inl (G.2.1, 300, .inl bc)), (yD, .inl (G.2.1, 300, .inl bd)), (yF, .inl (G.2.1, 300, .inl bf))] _ _ := w
      refine lv_aload_n hx hb dX6_figure_36 rfl (lv_at hl 0 rfl) ?_
      refine b_get X E w 0 rfl rfl 20 (by decide) iX6 (by decide +kernel) rfl rfl dX6_figure_37 ?_
      refine lv_if_le (tgt := 47) hx hb dX6_figure_40 (by decide) (fun c_40_18 => ?_) (fun c_40_18 => ?_)
      · refine lv_aload_n hx hb dX6_figure_47 rfl (lv_at hl 0 rfl) ?_
        refine lv_iload_n hx hb dX6_figure_48 rfl (lv_at hl 1 rfl) ?_
        refine lv_iload_n hx hb dX6_figure_49 rfl (lv_at hl 2 rfl) ?_
        refine lv_iload_n hx hb dX6_figure_50 rfl (lv_at hl 3 rfl) ?_
        refine b_calli w (va_runS (As := [.int (nI a), .int (nI i), .int (nI p0)]) (rest := [.ref M]) X (c_X6_cellOf l hl0 G _ (a := a) (i := i) (p0 := p0) ) (va_cwS 3 hts gX6_figure_X6_cellOf rfl rfl rfl (by decide +kernel) ⟨Nat.le_of_ble_eq_true rfl, Nat.le_of_ble_eq_true rfl⟩) ⟨b_blind, (fun U9 hU9 hW9 => ⟨rfl, b_pre E Z w [] (by decide) rfl b_nil U9 hU9 hW9⟩)⟩ rfl rfl hl.1 rfl (lv_room (Nat.le_of_ble_eq_true rfl)) dX6_figure_51 ⟨Nat.le_of_ble_eq_true rfl, Nat.le_of_ble_eq_true rfl⟩) b_nil [] (fun _ => rfl) rfl (fun r51_19 u51_19 H locs hr51_19 w => ?_)
        have w : bSt G vwCl [M] s [(M, .inr (6, [.int (nI td), .int (nI nA), .int (nI nJ), .ref yA, .ref yJ, .ref yg, .int (nI dn), .ref yw, .ref yc, .ref yv, .int (nI snt), .int (nI jd), .ref yr, .int (nI bn), .ref yC, .ref yD, .ref yF, .ref yS, .ref yV, .ref yH, .int (nI 0)])), (yC, .inl (G.2.1, 300, .inl bc)), (yD, .inl (G.2.1, 300, .inl bd)), (yF, .inl (G.2.1, 300, .inl bf))] _ _ := w
        subst hr51_19
        refine lv_iload hx hb dX6_figure_54 (lv_at hl 4 rfl) ?_
        refine b_calli w (va_runV (As := [.int (nI (140 * p0 + (10 * a + i))), .int d]) (rest := []) X (c_X6_figureOn l hl0 G _ (M := M) (x := nI (140 * p0 + (10 * a + i))) (d := d) (td := td) (nA := nA) (nJ := nJ) (yA := yA) (yJ := yJ) (yg := yg) (dn := dn) (yw := yw) (yc := yc) (yv := yv) (snt := snt) (jd := jd) (yr := yr) (bn := bn) (yC := yC) (yD := yD) (yF := yF) (yS := yS) (yV := yV) (yH := yH) (th := nI 0) (bc := bc) (bd := bd) (bf := bf) (hbn := (by first | assumption | omega))) (cwV 2 hts gX6_figure_X6_figureOn rfl rfl rfl (by decide +kernel) ⟨Nat.le_of_ble_eq_true rfl, Nat.le_of_ble_eq_true rfl⟩) ⟨b_blind, b_recv E w (ci := 6) (q0 := 0) rfl rfl, (fun U9 hU9 hW9 => ⟨rfl, b_pre E Z w [0, 1, 2, 3] (by decide) rfl b_nil U9 hU9 hW9⟩)⟩ rfl rfl hl.1 rfl (lv_room (Nat.le_of_ble_eq_true rfl)) dX6_figure_56 ⟨Nat.le_of_ble_eq_true rfl, Nat.le_of_ble_eq_true rfl⟩) b_nil [] (fun _ => rfl) rfl (fun r56_20 u56_20 H locs hr56_20 w => ?_)
        have w : bSt G vwCl [M] s [(M, .inr (6, [.int (nI td), .int (nI nA), .int (nI nJ), .ref yA, .ref yJ, .ref yg, .int (nI dn), .ref yw, .ref yc, .ref yv, .int (nI snt), .int (nI jd), .ref yr, .int (nI bn), .ref yC, .ref yD, .ref yF, .ref yS, .ref yV, .ref yH, .int (nI 0)])), (yC, .inl (G.2.1, 300, .inl bc)), (yD, .inl (G.2.1, 300, .inl bd)), (yF, .inl (G.2.1, 300, .inl bf))] _ _ := w
        subst hr56_20
        exact W.iret (v := fo bc bd bf (nI (140 * p0 + (10 * a + i))) d bn) hx hb hr (fun t9 ht9 hW9 => ⟨⟨fo bc bd bf (nI (140 * p0 + (10 * a + i))) d bn, (), rfl, by rw [hT, eN]; rfl, by show va_P G.1 vwCl _ t9.heap; rw [ht9]; exact b_cg (by rw [hT]) (w.1.sub (ws' := [(M, .inr (6, [.int (nI td), .int (nI nA), .int (nI nJ), .ref yA, .ref yJ, .ref yg, .int (nI dn), .ref yw, .ref yc, .ref yv, .int (nI snt), .int (nI jd), .ref yr, .int (nI bn), .ref yC, .ref yD, .ref yF, .ref yS, .ref yV, .ref yH, .int (nI 0)]))]) [0] rfl)⟩, w.2.1.F ht9⟩) w.2.1.2.2 dX6_figure_59
      · exact absurd (by decide) c_40_18
    · have q_25_17 : (dOk td d) = false := bI_0.mp c_25_16
      have hT : th2 (okC nA nJ (nI a) (nI i) (nI p0)) (dOk td d) = 2 := by simp [th2, h9a, q_25_17]
      refine lv_iconst (v := nI 2) hx hb dX6_figure_28 (by decide) ?_
      refine lv_goto (tgt := 33) hx hb dX6_figure_29 (by decide) ?_
      have w := b_wide [M] b_nil w
      refine b_put (ty := .int) X E w (Or.inl (List.mem_of_getElem? (i := 0) rfl)) 0 rfl rfl 20 (by decide) iX6 tyX6 tyX6_ok nmX6 (by decide +kernel) rfl rfl (by decide +kernel) rfl rfl (Nat.le_of_ble_eq_true rfl) dX6_figure_33 (fun H locs w => ?_)
      have w : bSt G vwCl [M] s [(M, .inr (6, [.int (nI td), .int (nI nA), .int (nI nJ), .ref yA, .ref yJ, .ref yg, .int (nI dn), .ref yw, .ref yc, .ref yv, .int (nI snt), .int (nI jd), .ref yr, .int (nI bn), .ref yC, .ref yD, .ref yF, .ref yS, .ref yV, .ref yH, .int (nI 2)])), (yC, .inl (G.2.1, 300, .inl bc)), (yD, .inl (G.2.1, 300, .inl bd)), (yF, .inl (G.2.1, 300, .inl bf))] _ _ := w
      refine lv_aload_n hx hb dX6_figure_36 rfl (lv_at hl 0 rfl) ?_
      refine b_get X E w 0 rfl rfl 20 (by decide) iX6 (by decide +kernel) rfl rfl dX6_figure_37 ?_
      refine lv_if_le (tgt := 47) hx hb dX6_figure_40 (by decide) (fun c_40_21 => ?_) (fun c_40_21 => ?_)
      · exact absurd c_40_21 (by decide)
      · refine lv_iconst (v := nI 0) hx hb dX6_figure_43 (by decide) ?_
        refine lv_goto (tgt := 59) hx hb dX6_figure_44 (by decide) ?_
        exact W.iret (v := nI 0) hx hb hr (fun t9 ht9 hW9 => ⟨⟨nI 0, (), rfl, by rw [hT]; rfl, by show va_P G.1 vwCl _ t9.heap; rw [ht9]; exact b_cg (by rw [hT]) (w.1.sub (ws' := [(M, .inr (6, [.int (nI td), .int (nI nA), .int (nI nJ), .ref yA, .ref yJ, .ref yg, .int (nI dn), .ref yw, .ref yc, .ref yv, .int (nI snt), .int (nI jd), .ref yr, .int (nI bn), .ref yC, .ref yD, .ref yF, .ref yS, .ref yV, .ref yH, .int (nI 2)]))]) [0] rfl)⟩, w.2.1.F ht9⟩) w.2.1.2.2 dX6_figure_59
  · have q_8_14 : (okC nA nJ x y z) = false := bI_0.mp c_8_13
    have hT : th2 (okC nA nJ x y z) (dOk td d) = 1 := by simp [th2, q_8_14]
    refine lv_iconst (v := nI 1) hx hb dX6_figure_11 (by decide) ?_
    refine lv_goto (tgt := 33) hx hb dX6_figure_12 (by decide) ?_
    have w := b_wide [M] b_nil w
    refine b_put (ty := .int) X E w (Or.inl (List.mem_of_getElem? (i := 0) rfl)) 0 rfl rfl 20 (by decide) iX6 tyX6 tyX6_ok nmX6 (by decide +kernel) rfl rfl (by decide +kernel) rfl rfl (Nat.le_of_ble_eq_true rfl) dX6_figure_33 (fun H locs w => ?_)
    have w : bSt G vwCl [M] s [(M, .inr (6, [.int (nI td), .int (nI nA), .int (nI nJ), .ref yA, .ref yJ, .ref yg, .int (nI dn), .ref yw, .ref yc, .ref yv, .int (nI snt), .int (nI jd), .ref yr, .int (nI bn), .ref yC, .ref yD, .ref yF, .ref yS, .ref yV, .ref yH, .int (nI 1)])), (yC, .inl (G.2.1, 300, .inl bc)), (yD, .inl (G.2.1, 300, .inl bd)), (yF, .inl (G.2.1, 300, .inl bf))] _ _ := w
    refine lv_aload_n hx hb dX6_figure_36 rfl (lv_at hl 0 rfl) ?_
    refine b_get X E w 0 rfl rfl 20 (by decide) iX6 (by decide +kernel) rfl rfl dX6_figure_37 ?_
    refine lv_if_le (tgt := 47) hx hb dX6_figure_40 (by decide) (fun c_40_22 => ?_) (fun c_40_22 => ?_)
    · exact absurd c_40_22 (by decide)
    · refine lv_iconst (v := nI 0) hx hb dX6_figure_43 (by decide) ?_
      refine lv_goto (tgt := 59) hx hb dX6_figure_44 (by decide) ?_
      exact W.iret (v := nI 0) hx hb hr (fun t9 ht9 hW9 => ⟨⟨nI 0, (), rfl, by rw [hT]; rfl, by show va_P G.1 vwCl _ t9.heap; rw [ht9]; exact b_cg (by rw [hT]) (w.1.sub (ws' := [(M, .inr (6, [.int (nI td), .int (nI nA), .int (nI nJ), .ref yA, .ref yJ, .ref yg, .int (nI dn), .ref yw, .ref yc, .ref yv, .int (nI snt), .int (nI jd), .ref yr, .int (nI bn), .ref yC, .ref yD, .ref yF, .ref yS, .ref yV, .ref yH, .int (nI 1)]))]) [0] rfl)⟩, w.2.1.F ht9⟩) w.2.1.2.2 dX6_figure_59
set_option maxHeartbeats 4000000 in
set_option maxRecDepth 100000 in
theorem c_X6_value (l : Launch) (hl0 : l.stackTraces = false) (G : bG) (sz : Nat) (M yA yJ yg yw yc yv yr yC yD yF yS yV yH td nA nJ dn snt jd bn : Nat) (th : Int32) (fA : Nat → Int32) (fJ : Nat → Int32) (bc : Nat → Int32) (bd : Nat → Int32) (bf : Nat → Int32) (v : Nat → Int32) (x y z d : Int32) (hnA : nA ≤ 14) (hnJ : nJ ≤ 10) (hTA : TI fA nA) (hTJ : TI fJ nJ) (hbn : bn ≤ 300) : Met l yX6_value wsX6_value ({ frames := 3, cells := 0, slots := 0, locals := 66 }) (va_Pc [.ref M, .int x, .int y, .int z, .int d] (bPre G vwCl bNW bSW sz [(M, .inr (6, [.int (nI td), .int (nI nA), .int (nI nJ), .ref yA, .ref yJ, .ref yg, .int (nI dn), .ref yw, .ref yc, .ref yv, .int (nI snt), .int (nI jd), .ref yr, .int (nI bn), .ref yC, .ref yD, .ref yF, .ref yS, .ref yV, .ref yH, .int th])), (yA, .inl (G.2.1, 14, .inl fA)), (yJ, .inl (G.2.1, 10, .inl fJ)), (yC, .inl (G.2.1, 300, .inl bc)), (yD, .inl (G.2.1, 300, .inl bd)), (yF, .inl (G.2.1, 300, .inl bf)), (yV, .inl (G.2.1, 140, .inl v))] [M, yV])) (va_Qi (fun (r : Int32) (u : Nat → Int32) => th2 (okC nA nJ x y z) (dOk td d) = 0 → r = u (10 * cl x + cl y) ∧ Fx (figs bc bd bf bn (cl z) d) fA nA fJ nJ u) (fun (u : Nat → Int32) (tS : State) => va_P G.1 vwCl [(M, .inr (6, [.int (nI td), .int (nI nA), .int (nI nJ), .ref yA, .ref yJ, .ref yg, .int (nI dn), .ref yw, .ref yc, .ref yv, .int (nI snt), .int (nI jd), .ref yr, .int (nI bn), .ref yC, .ref yD, .ref yF, .ref yS, .ref yV, .ref yH, .int (nI (th2 (okC nA nJ x y z) (dOk td d)))])), (yV, .inl (G.2.1, 140, .inl u))] tS.heap) (Aw [M, yV] sz)) 0 0 (Aw [M, yV] sz) := by
  refine Met.ofW (cc := cX6_value) (maxL := 5) (ret := (some .int)) (by decide) rfl ?_
  intro p e s m args below meth c s₁ B hml hv
  obtain ⟨rfl, hsz, hP, hD, E, Z⟩ := hv
  have hts := atoms_spec (ws := wsX6_value) B.pre
  have hown : s.vm.findClass RX6 = some m.cls := findClass_of_methodNamed B.named
  have X : CallFix p m c cX6_value 5 s _ wsX6_value RX6 := ⟨B.exec, B.bytes, hml, hown, hts⟩
  have hx := B.exec
  have hb := B.bytes
  have hr := B.returns
  have hlocks := B.notSynchronized
  subst hsz
  have w : bSt G vwCl [] s [(M, .inr (6, [.int (nI td), .int (nI nA), .int (nI nJ), .ref yA, .ref yJ, .ref yg, .int (nI dn), .ref yw, .ref yc, .ref yv, .int (nI snt), .int (nI jd), .ref yr, .int (nI bn), .ref yC, .ref yD, .ref yF, .ref yS, .ref yV, .ref yH, .int th])), (yA, .inl (G.2.1, 14, .inl fA)), (yJ, .inl (G.2.1, 10, .inl fJ)), (yC, .inl (G.2.1, 300, .inl bc)), (yD, .inl (G.2.1, 300, .inl bd)), (yF, .inl (G.2.1, 300, .inl bf)), (yV, .inl (G.2.1, 140, .inl v))] s.heap [] := ⟨hP, va_S.rf, hD⟩
  have Z0 : bZ [] s := ⟨Z.1.narrow (fun q h => h.elim (fun h => nomatch h) Or.inr), Z.2.narrow (fun q h => h.elim (fun h => nomatch h) Or.inr)⟩
  have iX6 : ∀ w ∈ wsX60, w ∈ wsX6_value := by decide +kernel
  have hl := lv_entry ([.ref M, .int x, .int y, .int z, .int d]) (n := 5) (Nat.le_of_ble_eq_true rfl)
  rw [lg_entry_eq]
  generalize (lg_sl ([.ref M, .int x, .int y, .int z, .int d]) ++ List.replicate (5 - (lg_sl ([.ref M, .int x, .int y, .int z, .int d])).length) Slot.unset).toArray = ls at hl ⊢
  have hl : lv_has ls 5 [(0, .ref M), (1, .int x), (2, .int y), (3, .int z), (4, .int d)] := hl
  refine lv_aload_n hx hb dX6_value_0 rfl (lv_at hl 0 rfl) ?_
  refine lv_aload_n hx hb dX6_value_1 rfl (lv_at hl 0 rfl) ?_
  refine lv_iload_n hx hb dX6_value_2 rfl (lv_at hl 1 rfl) ?_
  refine lv_iload_n hx hb dX6_value_3 rfl (lv_at hl 2 rfl) ?_
  refine lv_iload_n hx hb dX6_value_4 rfl (lv_at hl 3 rfl) ?_
  refine b_calli w (va_runV (As := [.int x, .int y, .int z]) (rest := [.ref M]) X (c_X6_isCell l hl0 G _ (M := M) (x := x) (y := y) (z := z) (td := td) (nA := nA) (nJ := nJ) (yA := yA) (yJ := yJ) (yg := yg) (dn := dn) (yw := yw) (yc := yc) (yv := yv) (snt := snt) (jd := jd) (yr := yr) (bn := bn) (yC := yC) (yD := yD) (yF := yF) (yS := yS) (yV := yV) (yH := yH) (th := th) (hnA := (by first | assumption | omega)) (hnJ := (by first | assumption | omega))) (cwV 3 hts gX6_value_X6_isCell rfl rfl rfl (by decide +kernel) ⟨Nat.le_of_ble_eq_true rfl, Nat.le_of_ble_eq_true rfl⟩) ⟨b_blind, b_recv E w (ci := 6) (q0 := 0) rfl rfl, (fun U9 hU9 hW9 => ⟨rfl, b_pre E Z0 w [0] (by decide) rfl b_nil U9 hU9 hW9⟩)⟩ rfl rfl hl.1 rfl (lv_room (Nat.le_of_ble_eq_true rfl)) dX6_value_5 ⟨Nat.le_of_ble_eq_true rfl, Nat.le_of_ble_eq_true rfl⟩) b_nil [] (fun _ => rfl) rfl (fun r5_11 u5_11 H locs hr5_11 w => ?_)
  have w : bSt G vwCl [] s [(M, .inr (6, [.int (nI td), .int (nI nA), .int (nI nJ), .ref yA, .ref yJ, .ref yg, .int (nI dn), .ref yw, .ref yc, .ref yv, .int (nI snt), .int (nI jd), .ref yr, .int (nI bn), .ref yC, .ref yD, .ref yF, .ref yS, .ref yV, .ref yH, .int th])), (yA, .inl (G.2.1, 14, .inl fA)), (yJ, .inl (G.2.1, 10, .inl fJ)), (yC, .inl (G.2.1, 300, .inl bc)), (yD, .inl (G.2.1, 300, .inl bd)), (yF, .inl (G.2.1, 300, .inl bf)), (yV, .inl (G.2.1, 140, .inl v))] _ _ := w
  subst hr5_11
  refine lv_if_ne (tgt := 15) hx hb dX6_value_8 (by decide) (fun c_8_12 => ?_) (fun c_8_12 => ?_)
  · have q_8_13 : (okC nA nJ x y z) = true := bI_n0.mp c_8_12
    have h9a := q_8_13
    obtain ⟨a, ha, i, hi, p0, hp, rfl, rfl, rfl⟩ := okC_yes (by omega) (by omega) h9a
    have eN := cN_nI ha hi hp hnA hnJ
    have ea : cl (nI a) = a := cl_nI (by omega)
    have ei : cl (nI i) = i := cl_nI (by omega)
    have ep : cl (nI p0) = p0 := cl_nI (by omega)
    refine lv_iload hx hb dX6_value_15 (lv_at hl 4 rfl) ?_
    refine lv_iconst (v := nI 0) hx hb dX6_value_17 (by decide) ?_
    refine lv_aload_n hx hb dX6_value_18 rfl (lv_at hl 0 rfl) ?_
    refine b_get X E w 0 rfl rfl 0 (by decide) iX6 (by decide +kernel) rfl rfl dX6_value_19 ?_
    refine b_calli w (va_runS (As := [.int d, .int (nI 0), .int (nI td)]) (rest := [.ref M]) X (c_X6_isIn l hl0 G _ (x := d) (lo := nI 0) (hi := nI td) ) (va_cwS 3 hts gX6_value_X6_isIn rfl rfl rfl (by decide +kernel) ⟨Nat.le_of_ble_eq_true rfl, Nat.le_of_ble_eq_true rfl⟩) ⟨b_blind, (fun U9 hU9 hW9 => ⟨rfl, b_pre E Z0 w [] (by decide) rfl b_nil U9 hU9 hW9⟩)⟩ rfl rfl hl.1 rfl (lv_room (Nat.le_of_ble_eq_true rfl)) dX6_value_22 ⟨Nat.le_of_ble_eq_true rfl, Nat.le_of_ble_eq_true rfl⟩) b_nil [] (fun _ => rfl) rfl (fun r22_14 u22_14 H locs hr22_14 w => ?_)
    have w : bSt G vwCl [] s [(M, .inr (6, [.int (nI td), .int (nI nA), .int (nI nJ), .ref yA, .ref yJ, .ref yg, .int (nI dn), .ref yw, .ref yc, .ref yv, .int (nI snt), .int (nI jd), .ref yr, .int (nI bn), .ref yC, .ref yD, .ref yF, .ref yS, .ref yV, .ref yH, .int th])), (yA, .inl (G.2.1, 14, .inl fA)), (yJ, .inl (G.2.1, 10, .inl fJ)), (yC, .inl (G.2.1, 300, .inl bc)), (yD, .inl (G.2.1, 300, .inl bd)), (yF, .inl (G.2.1, 300, .inl bf)), (yV, .inl (G.2.1, 140, .inl v))] _ _ := w
    subst hr22_14
    refine b_tp (show bI (tIn d (nI 0) (nI td)) = bI (dOk td d) from congrArg bI tIn_dOk) ?_
    refine lv_if_ne (tgt := 32) hx hb dX6_value_25 (by decide) (fun c_25_15 => ?_) (fun c_25_15 => ?_)
    · have q_25_16 : (dOk td d) = true := bI_n0.mp c_25_15
      have hT : th2 (okC nA nJ (nI a) (nI i) (nI p0)) (dOk td d) = 0 := by simp [th2, h9a, q_25_16]
      refine lv_iconst (v := nI 0) hx hb dX6_value_32 (by decide) ?_
      have w := b_wide [M, yV] b_nil w
      refine b_put (ty := .int) X E w (Or.inl (List.mem_of_getElem? (i := 0) rfl)) 0 rfl rfl 20 (by decide) iX6 tyX6 tyX6_ok nmX6 (by decide +kernel) rfl rfl (by decide +kernel) rfl rfl (Nat.le_of_ble_eq_true rfl) dX6_value_33 (fun H locs w => ?_)
      have w : bSt G vwCl [M, yV] s [(M, .inr (6, [.int (nI td), .int (nI nA), .int (nI nJ), .ref yA, .ref yJ, .ref yg, .int (nI dn), .ref yw, .ref yc, .ref yv, .int (nI snt), .int (nI jd), .ref yr, .int (nI bn), .ref yC, .ref yD, .ref yF, .ref yS, .ref yV, .ref yH, .int (nI 0)])), (yA, .inl (G.2.1, 14, .inl fA)), (yJ, .inl (G.2.1, 10, .inl fJ)), (yC, .inl (G.2.1, 300, .inl bc)), (yD, .inl (G.2.1, 300, .inl bd)), (yF, .inl (G.2.1, 300, .inl bf)), (yV, .inl (G.2.1, 140, .inl v))] _ _ := w
      refine lv_aload_n hx hb dX6_value_36 rfl (lv_at hl 0 rfl) ?_
      refine b_get X E w 0 rfl rfl 20 (by decide) iX6 (by decide +kernel) rfl rfl dX6_value_37 ?_
      refine lv_if_le (tgt := 45) hx hb dX6_value_40 (by decide) (fun c_40_17 => ?_) (fun c_40_17 => ?_)
      · refine lv_aload_n hx hb dX6_value_45 rfl (lv_at hl 0 rfl) ?_
        refine lv_iload_n hx hb dX6_value_46 rfl (lv_at hl 3 rfl) ?_
        refine lv_iload hx hb dX6_value_47 (lv_at hl 4 rfl) ?_
        refine b_callv w (va_runV (As := [.int (nI p0), .int d]) (rest := []) X (c_X6_finds l hl0 G _ (M := M) (p0 := p0) (d := d) (td := td) (nA := nA) (nJ := nJ) (yA := yA) (yJ := yJ) (yg := yg) (dn := dn) (yw := yw) (yc := yc) (yv := yv) (snt := snt) (jd := jd) (yr := yr) (bn := bn) (yC := yC) (yD := yD) (yF := yF) (yS := yS) (yV := yV) (yH := yH) (th := nI 0) (fA := fA) (fJ := fJ) (bc := bc) (bd := bd) (bf := bf) (v := v) (hnA := (by first | assumption | omega)) (hnJ := (by first | assumption | omega)) (hTA := (by first | assumption | omega)) (hTJ := (by first | assumption | omega)) (hbn := (by first | assumption | omega)) (hp := (by first | assumption | omega))) (cwV 2 hts gX6_value_X6_finds rfl rfl rfl (by decide +kernel) ⟨Nat.le_of_ble_eq_true rfl, Nat.le_of_ble_eq_true rfl⟩) ⟨b_blind, b_recv E w (ci := 6) (q0 := 0) rfl rfl, (fun U9 hU9 hW9 => ⟨rfl, b_pre E Z w [0, 1, 2, 3, 4, 5, 6] (by decide) rfl (b_subA [1] rfl) U9 hU9 hW9⟩)⟩ rfl rfl hl.1 rfl (lv_room (Nat.le_of_ble_eq_true rfl)) dX6_value_49 ⟨Nat.le_of_ble_eq_true rfl, Nat.le_of_ble_eq_true rfl⟩) (b_subA [1] rfl) [6] (fun _ => rfl) rfl (fun u49_18 H locs hr49_18 w => ?_)
        have w : bSt G vwCl [M, yV] s [(M, .inr (6, [.int (nI td), .int (nI nA), .int (nI nJ), .ref yA, .ref yJ, .ref yg, .int (nI dn), .ref yw, .ref yc, .ref yv, .int (nI snt), .int (nI jd), .ref yr, .int (nI bn), .ref yC, .ref yD, .ref yF, .ref yS, .ref yV, .ref yH, .int (nI 0)])), (yA, .inl (G.2.1, 14, .inl fA)), (yJ, .inl (G.2.1, 10, .inl fJ)), (yC, .inl (G.2.1, 300, .inl bc)), (yD, .inl (G.2.1, 300, .inl bd)), (yF, .inl (G.2.1, 300, .inl bf)), (yV, .inl (G.2.1, 140, .inl u49_18))] _ _ := w
        have hu0 := hr49_18
        refine lv_aload_n hx hb dX6_value_52 rfl (lv_at hl 0 rfl) ?_
        refine b_get X E w 0 rfl rfl 18 (by decide) iX6 (by decide +kernel) rfl rfl dX6_value_53 ?_
        refine lv_bipush (v := nI 10) hx hb dX6_value_56 (by decide) ?_
        refine lv_iload_n hx hb dX6_value_58 rfl (lv_at hl 1 rfl) ?_
        refine lv_imul hx hb dX6_value_59 ?_
        refine b_tp (show (nI 10) * (nI a) = nI (10 * a) from pk_mul 10 a) ?_
        refine lv_iload_n hx hb dX6_value_60 rfl (lv_at hl 2 rfl) ?_
        refine lv_iadd hx hb dX6_value_61 ?_
        refine b_tp (show (nI (10 * a)) + (nI i) = nI ((10 * a) + i) from nI_add (10 * a) i) ?_
        refine b_iald X E w 6 rfl ((10 * a) + i) rfl (by omega) (by first | decide | omega) dX6_value_62 ?_
        exact W.iret (v := u49_18 ((10 * a) + i)) hx hb hr (fun t9 ht9 hW9 => ⟨⟨u49_18 ((10 * a) + i), u49_18, rfl, fun _ => ⟨by rw [ea, ei], by rw [ep]; exact hu0⟩, by show va_P G.1 vwCl _ t9.heap; rw [ht9]; exact b_cg (by rw [hT]) (w.1.sub (ws' := [(M, .inr (6, [.int (nI td), .int (nI nA), .int (nI nJ), .ref yA, .ref yJ, .ref yg, .int (nI dn), .ref yw, .ref yc, .ref yv, .int (nI snt), .int (nI jd), .ref yr, .int (nI bn), .ref yC, .ref yD, .ref yF, .ref yS, .ref yV, .ref yH, .int (nI 0)])), (yV, .inl (G.2.1, 140, .inl u49_18))]) [0, 6] rfl)⟩, w.2.1.F ht9⟩) w.2.1.2.2 dX6_value_63
      · exact absurd (by decide) c_40_17
    · have q_25_16 : (dOk td d) = false := bI_0.mp c_25_15
      have hT : th2 (okC nA nJ (nI a) (nI i) (nI p0)) (dOk td d) = 2 := by simp [th2, h9a, q_25_16]
      refine lv_iconst (v := nI 2) hx hb dX6_value_28 (by decide) ?_
      refine lv_goto (tgt := 33) hx hb dX6_value_29 (by decide) ?_
      have w := b_wide [M, yV] b_nil w
      refine b_put (ty := .int) X E w (Or.inl (List.mem_of_getElem? (i := 0) rfl)) 0 rfl rfl 20 (by decide) iX6 tyX6 tyX6_ok nmX6 (by decide +kernel) rfl rfl (by decide +kernel) rfl rfl (Nat.le_of_ble_eq_true rfl) dX6_value_33 (fun H locs w => ?_)
      have w : bSt G vwCl [M, yV] s [(M, .inr (6, [.int (nI td), .int (nI nA), .int (nI nJ), .ref yA, .ref yJ, .ref yg, .int (nI dn), .ref yw, .ref yc, .ref yv, .int (nI snt), .int (nI jd), .ref yr, .int (nI bn), .ref yC, .ref yD, .ref yF, .ref yS, .ref yV, .ref yH, .int (nI 2)])), (yA, .inl (G.2.1, 14, .inl fA)), (yJ, .inl (G.2.1, 10, .inl fJ)), (yC, .inl (G.2.1, 300, .inl bc)), (yD, .inl (G.2.1, 300, .inl bd)), (yF, .inl (G.2.1, 300, .inl bf)), (yV, .inl (G.2.1, 140, .inl v))] _ _ := w
      refine lv_aload_n hx hb dX6_value_36 rfl (lv_at hl 0 rfl) ?_
      refine b_get X E w 0 rfl rfl 20 (by decide) iX6 (by decide +kernel) rfl rfl dX6_value_37 ?_
      refine lv_if_le (tgt := 45) hx hb dX6_value_40 (by decide) (fun c_40_19 => ?_) (fun c_40_19 => ?_)
      · exact absurd c_40_19 (by decide)
      · refine lv_iconst (v := nI 0) hx hb dX6_value_43 (by decide) ?_
        exact W.iret (v := nI 0) hx hb hr (fun t9 ht9 hW9 => ⟨⟨nI 0, v, rfl, fun h0 => absurd (hT.symm.trans h0) (by decide), by show va_P G.1 vwCl _ t9.heap; rw [ht9]; exact b_cg (by rw [hT]) (w.1.sub (ws' := [(M, .inr (6, [.int (nI td), .int (nI nA), .int (nI nJ), .ref yA, .ref yJ, .ref yg, .int (nI dn), .ref yw, .ref yc, .ref yv, .int (nI snt), .int (nI jd), .ref yr, .int (nI bn), .ref yC, .ref yD, .ref yF, .ref yS, .ref yV, .ref yH, .int (nI 2)])), (yV, .inl (G.2.1, 140, .inl v))]) [0, 6] rfl)⟩, w.2.1.F ht9⟩) w.2.1.2.2 dX6_value_44
  · have q_8_13 : (okC nA nJ x y z) = false := bI_0.mp c_8_12
    have hT : th2 (okC nA nJ x y z) (dOk td d) = 1 := by simp [th2, q_8_13]
    refine lv_iconst (v := nI 1) hx hb dX6_value_11 (by decide) ?_
    refine lv_goto (tgt := 33) hx hb dX6_value_12 (by decide) ?_
    have w := b_wide [M, yV] b_nil w
    refine b_put (ty := .int) X E w (Or.inl (List.mem_of_getElem? (i := 0) rfl)) 0 rfl rfl 20 (by decide) iX6 tyX6 tyX6_ok nmX6 (by decide +kernel) rfl rfl (by decide +kernel) rfl rfl (Nat.le_of_ble_eq_true rfl) dX6_value_33 (fun H locs w => ?_)
    have w : bSt G vwCl [M, yV] s [(M, .inr (6, [.int (nI td), .int (nI nA), .int (nI nJ), .ref yA, .ref yJ, .ref yg, .int (nI dn), .ref yw, .ref yc, .ref yv, .int (nI snt), .int (nI jd), .ref yr, .int (nI bn), .ref yC, .ref yD, .ref yF, .ref yS, .ref yV, .ref yH, .int (nI 1)])), (yA, .inl (G.2.1, 14, .inl fA)), (yJ, .inl (G.2.1, 10, .inl fJ)), (yC, .inl (G.2.1, 300, .inl bc)), (yD, .inl (G.2.1, 300, .inl bd)), (yF, .inl (G.2.1, 300, .inl bf)), (yV, .inl (G.2.1, 140, .inl v))] _ _ := w
    refine lv_aload_n hx hb dX6_value_36 rfl (lv_at hl 0 rfl) ?_
    refine b_get X E w 0 rfl rfl 20 (by decide) iX6 (by decide +kernel) rfl rfl dX6_value_37 ?_
    refine lv_if_le (tgt := 45) hx hb dX6_value_40 (by decide) (fun c_40_20 => ?_) (fun c_40_20 => ?_)
    · exact absurd c_40_20 (by decide)
    · refine lv_iconst (v := nI 0) hx hb dX6_value_43 (by decide) ?_
      exact W.iret (v := nI 0) hx hb hr (fun t9 ht9 hW9 => ⟨⟨nI 0, v, rfl, fun h0 => absurd (hT.symm.trans h0) (by decide), by show va_P G.1 vwCl _ t9.heap; rw [ht9]; exact b_cg (by rw [hT]) (w.1.sub (ws' := [(M, .inr (6, [.int (nI td), .int (nI nA), .int (nI nJ), .ref yA, .ref yJ, .ref yg, .int (nI dn), .ref yw, .ref yc, .ref yv, .int (nI snt), .int (nI jd), .ref yr, .int (nI bn), .ref yC, .ref yD, .ref yF, .ref yS, .ref yV, .ref yH, .int (nI 1)])), (yV, .inl (G.2.1, 140, .inl v))]) [0, 6] rfl)⟩, w.2.1.F ht9⟩) w.2.1.2.2 dX6_value_44
set_option maxHeartbeats 4000000 in
set_option maxRecDepth 100000 in
theorem c_X6_first (l : Launch) (hl0 : l.stackTraces = false) (G : bG) (sz : Nat) (M yA yJ yg yw yc yv yr yC yD yF yS yV yH td nA nJ dn snt jd bn : Nat) (th : Int32) (bc : Nat → Int32) (bf : Nat → Int32) (x y z : Int32) (hnA : nA ≤ 14) (hnJ : nJ ≤ 10) (hbn : bn ≤ 300) : Met l yX6_first wsX6_first ({ frames := 3, cells := 0, slots := 0, locals := 66 }) (va_Pc [.ref M, .int x, .int y, .int z] (bPre G vwCl bNW bSW sz [(M, .inr (6, [.int (nI td), .int (nI nA), .int (nI nJ), .ref yA, .ref yJ, .ref yg, .int (nI dn), .ref yw, .ref yc, .ref yv, .int (nI snt), .int (nI jd), .ref yr, .int (nI bn), .ref yC, .ref yD, .ref yF, .ref yS, .ref yV, .ref yH, .int th])), (yC, .inl (G.2.1, 300, .inl bc)), (yF, .inl (G.2.1, 300, .inl bf))] [M])) (va_Qi (fun (r : Int32) (_ : Unit) => r = gF (th1 (okC nA nJ x y z)) 0 (fst9 bc bf (nI (cN x y z)) bn)) (fun (_ : Unit) (tS : State) => va_P G.1 vwCl [(M, .inr (6, [.int (nI td), .int (nI nA), .int (nI nJ), .ref yA, .ref yJ, .ref yg, .int (nI dn), .ref yw, .ref yc, .ref yv, .int (nI snt), .int (nI jd), .ref yr, .int (nI bn), .ref yC, .ref yD, .ref yF, .ref yS, .ref yV, .ref yH, .int (nI (th1 (okC nA nJ x y z)))]))] tS.heap) (Aw [M] sz)) 0 0 (Aw [M] sz) := by
  refine Met.ofW (cc := cX6_first) (maxL := 5) (ret := (some .int)) (by decide) rfl ?_
  intro p e s m args below meth c s₁ B hml hv
  obtain ⟨rfl, hsz, hP, hD, E, Z⟩ := hv
  have hts := atoms_spec (ws := wsX6_first) B.pre
  have hown : s.vm.findClass RX6 = some m.cls := findClass_of_methodNamed B.named
  have X : CallFix p m c cX6_first 5 s _ wsX6_first RX6 := ⟨B.exec, B.bytes, hml, hown, hts⟩
  have hx := B.exec
  have hb := B.bytes
  have hr := B.returns
  have hlocks := B.notSynchronized
  subst hsz
  have w : bSt G vwCl [] s [(M, .inr (6, [.int (nI td), .int (nI nA), .int (nI nJ), .ref yA, .ref yJ, .ref yg, .int (nI dn), .ref yw, .ref yc, .ref yv, .int (nI snt), .int (nI jd), .ref yr, .int (nI bn), .ref yC, .ref yD, .ref yF, .ref yS, .ref yV, .ref yH, .int th])), (yC, .inl (G.2.1, 300, .inl bc)), (yF, .inl (G.2.1, 300, .inl bf))] s.heap [] := ⟨hP, va_S.rf, hD⟩
  have Z0 : bZ [] s := ⟨Z.1.narrow (fun q h => h.elim (fun h => nomatch h) Or.inr), Z.2.narrow (fun q h => h.elim (fun h => nomatch h) Or.inr)⟩
  have iX6 : ∀ w ∈ wsX60, w ∈ wsX6_first := by decide +kernel
  have hl := lv_entry ([.ref M, .int x, .int y, .int z]) (n := 5) (Nat.le_of_ble_eq_true rfl)
  rw [lg_entry_eq]
  generalize (lg_sl ([.ref M, .int x, .int y, .int z]) ++ List.replicate (5 - (lg_sl ([.ref M, .int x, .int y, .int z])).length) Slot.unset).toArray = ls at hl ⊢
  have hl : lv_has ls 5 [(0, .ref M), (1, .int x), (2, .int y), (3, .int z)] := hl
  refine lv_aload_n hx hb dX6_first_0 rfl (lv_at hl 0 rfl) ?_
  refine lv_aload_n hx hb dX6_first_1 rfl (lv_at hl 0 rfl) ?_
  refine lv_iload_n hx hb dX6_first_2 rfl (lv_at hl 1 rfl) ?_
  refine lv_iload_n hx hb dX6_first_3 rfl (lv_at hl 2 rfl) ?_
  refine lv_iload_n hx hb dX6_first_4 rfl (lv_at hl 3 rfl) ?_
  refine b_calli w (va_runV (As := [.int x, .int y, .int z]) (rest := [.ref M]) X (c_X6_isCell l hl0 G _ (M := M) (x := x) (y := y) (z := z) (td := td) (nA := nA) (nJ := nJ) (yA := yA) (yJ := yJ) (yg := yg) (dn := dn) (yw := yw) (yc := yc) (yv := yv) (snt := snt) (jd := jd) (yr := yr) (bn := bn) (yC := yC) (yD := yD) (yF := yF) (yS := yS) (yV := yV) (yH := yH) (th := th) (hnA := (by first | assumption | omega)) (hnJ := (by first | assumption | omega))) (cwV 3 hts gX6_first_X6_isCell rfl rfl rfl (by decide +kernel) ⟨Nat.le_of_ble_eq_true rfl, Nat.le_of_ble_eq_true rfl⟩) ⟨b_blind, b_recv E w (ci := 6) (q0 := 0) rfl rfl, (fun U9 hU9 hW9 => ⟨rfl, b_pre E Z0 w [0] (by decide) rfl b_nil U9 hU9 hW9⟩)⟩ rfl rfl hl.1 rfl (lv_room (Nat.le_of_ble_eq_true rfl)) dX6_first_5 ⟨Nat.le_of_ble_eq_true rfl, Nat.le_of_ble_eq_true rfl⟩) b_nil [] (fun _ => rfl) rfl (fun r5_10 u5_10 H locs hr5_10 w => ?_)
  have w : bSt G vwCl [] s [(M, .inr (6, [.int (nI td), .int (nI nA), .int (nI nJ), .ref yA, .ref yJ, .ref yg, .int (nI dn), .ref yw, .ref yc, .ref yv, .int (nI snt), .int (nI jd), .ref yr, .int (nI bn), .ref yC, .ref yD, .ref yF, .ref yS, .ref yV, .ref yH, .int th])), (yC, .inl (G.2.1, 300, .inl bc)), (yF, .inl (G.2.1, 300, .inl bf))] _ _ := w
  subst hr5_10
  refine lv_if_eq (tgt := 15) hx hb dX6_first_8 (by decide) (fun c_8_11 => ?_) (fun c_8_11 => ?_)
  · have q_8_12 : (okC nA nJ x y z) = false := bI_0.mp c_8_11
    have hT : th1 (okC nA nJ x y z) = 1 := by simp [th1, q_8_12]
    refine lv_iconst (v := nI 1) hx hb dX6_first_15 (by decide) ?_
    have w := b_wide [M] b_nil w
    refine b_put (ty := .int) X E w (Or.inl (List.mem_of_getElem? (i := 0) rfl)) 0 rfl rfl 20 (by decide) iX6 tyX6 tyX6_ok nmX6 (by decide +kernel) rfl rfl (by decide +kernel) rfl rfl (Nat.le_of_ble_eq_true rfl) dX6_first_16 (fun H locs w => ?_)
    have w : bSt G vwCl [M] s [(M, .inr (6, [.int (nI td), .int (nI nA), .int (nI nJ), .ref yA, .ref yJ, .ref yg, .int (nI dn), .ref yw, .ref yc, .ref yv, .int (nI snt), .int (nI jd), .ref yr, .int (nI bn), .ref yC, .ref yD, .ref yF, .ref yS, .ref yV, .ref yH, .int (nI 1)])), (yC, .inl (G.2.1, 300, .inl bc)), (yF, .inl (G.2.1, 300, .inl bf))] _ _ := w
    refine lv_aload_n hx hb dX6_first_19 rfl (lv_at hl 0 rfl) ?_
    refine b_get X E w 0 rfl rfl 20 (by decide) iX6 (by decide +kernel) rfl rfl dX6_first_20 ?_
    refine lv_if_le (tgt := 28) hx hb dX6_first_23 (by decide) (fun c_23_13 => ?_) (fun c_23_13 => ?_)
    · exact absurd c_23_13 (by decide)
    · refine lv_iconst (v := nI 0) hx hb dX6_first_26 (by decide) ?_
      exact W.iret (v := nI 0) hx hb hr (fun t9 ht9 hW9 => ⟨⟨nI 0, (), rfl, by rw [hT]; rfl, by show va_P G.1 vwCl _ t9.heap; rw [ht9]; exact b_cg (by rw [hT]) (w.1.sub (ws' := [(M, .inr (6, [.int (nI td), .int (nI nA), .int (nI nJ), .ref yA, .ref yJ, .ref yg, .int (nI dn), .ref yw, .ref yc, .ref yv, .int (nI snt), .int (nI jd), .ref yr, .int (nI bn), .ref yC, .ref yD, .ref yF, .ref yS, .ref yV, .ref yH, .int (nI 1)]))]) [0] rfl)⟩, w.2.1.F ht9⟩) w.2.1.2.2 dX6_first_27
  · have q_8_12 : (okC nA nJ x y z) = true := bI_n0.mp c_8_11
    have h9a := q_8_12
    have hT : th1 (okC nA nJ x y z) = 0 := by simp [th1, h9a]
    obtain ⟨a, ha, i, hi, p0, hp, rfl, rfl, rfl⟩ := okC_yes (by omega) (by omega) h9a
    have eN := cN_nI ha hi hp hnA hnJ
    have ea : cl (nI a) = a := cl_nI (by omega)
    have ei : cl (nI i) = i := cl_nI (by omega)
    have ep : cl (nI p0) = p0 := cl_nI (by omega)
    refine lv_iconst (v := nI 0) hx hb dX6_first_11 (by decide) ?_
    refine lv_goto (tgt := 16) hx hb dX6_first_12 (by decide) ?_
    have w := b_wide [M] b_nil w
    refine b_put (ty := .int) X E w (Or.inl (List.mem_of_getElem? (i := 0) rfl)) 0 rfl rfl 20 (by decide) iX6 tyX6 tyX6_ok nmX6 (by decide +kernel) rfl rfl (by decide +kernel) rfl rfl (Nat.le_of_ble_eq_true rfl) dX6_first_16 (fun H locs w => ?_)
    have w : bSt G vwCl [M] s [(M, .inr (6, [.int (nI td), .int (nI nA), .int (nI nJ), .ref yA, .ref yJ, .ref yg, .int (nI dn), .ref yw, .ref yc, .ref yv, .int (nI snt), .int (nI jd), .ref yr, .int (nI bn), .ref yC, .ref yD, .ref yF, .ref yS, .ref yV, .ref yH, .int (nI 0)])), (yC, .inl (G.2.1, 300, .inl bc)), (yF, .inl (G.2.1, 300, .inl bf))] _ _ := w
    refine lv_aload_n hx hb dX6_first_19 rfl (lv_at hl 0 rfl) ?_
    refine b_get X E w 0 rfl rfl 20 (by decide) iX6 (by decide +kernel) rfl rfl dX6_first_20 ?_
    refine lv_if_le (tgt := 28) hx hb dX6_first_23 (by decide) (fun c_23_14 => ?_) (fun c_23_14 => ?_)
    · refine lv_iconst (v := nI 0) hx hb dX6_first_28 (by decide) ?_
      refine lv_istore (lv' := [(4, .int (nI 0)), (0, .ref M), (1, .int (nI a)), (2, .int (nI i)), (3, .int (nI p0))]) hx hb dX6_first_29 hl (by decide) rfl (fun ls hl => ?_)
      refine b_loop (pc := 31) (st := []) (fun (fuel : Nat) (H : Heap) (locs : List Loc) (ls : Array Slot) => ∃ (k : Nat), (k ≤ bn) ∧ (bn + 1 ≤ k + fuel) ∧ (∀ j, j < k → decide (bc j = (nI (140 * p0 + (10 * a + i)))) = false) ∧ bSt G vwCl [M] s [(M, .inr (6, [.int (nI td), .int (nI nA), .int (nI nJ), .ref yA, .ref yJ, .ref yg, .int (nI dn), .ref yw, .ref yc, .ref yv, .int (nI snt), .int (nI jd), .ref yr, .int (nI bn), .ref yC, .ref yD, .ref yF, .ref yS, .ref yV, .ref yH, .int (nI 0)])), (yC, .inl (G.2.1, 300, .inl bc)), (yF, .inl (G.2.1, 300, .inl bf))] H locs ∧ lv_has ls 5 [(0, .ref M), (1, .int (nI a)), (2, .int (nI i)), (3, .int (nI p0)), (4, .int (nI k))]) (fun H locs ls h9 => ?_) (fun fuel H locs ls hI ih31 => ?_) (bn + 1) ⟨0, (by omega), (by omega), fun j hj => absurd hj (Nat.not_lt_zero j), w, lv_sub hl [1, 2, 3, 4, 0] rfl⟩
      · obtain ⟨k, hk, hf, hno, w, hl⟩ := h9
        omega
      · obtain ⟨k, hk, hf, hno, w, hl⟩ := hI
        refine lv_iload hx hb dX6_first_31 (lv_at hl 4 rfl) ?_
        refine lv_aload_n hx hb dX6_first_33 rfl (lv_at hl 0 rfl) ?_
        refine b_get X E w 0 rfl rfl 13 (by decide) iX6 (by decide +kernel) rfl rfl dX6_first_34 ?_
        refine lv_icmp_ge (tgt := 70) hx hb dX6_first_37 (by decide) (fun c_37_15 => ?_) (fun c_37_15 => ?_)
        · have q_37_16 : bn ≤ k := q_le (by omega) (by omega) c_37_15
          refine lv_ldc (v := MIS) hx hb hown (hts (.constant RX6 86 (-2000000001)) (by decide +kernel)) dX6_first_70 ?_
          exact W.iret (v := MIS) hx hb hr (fun t9 ht9 hW9 => ⟨⟨MIS, (), rfl, by rw [hT, eN]; exact (fst9_none (fun j hj => hno j (by omega))).symm, by show va_P G.1 vwCl _ t9.heap; rw [ht9]; exact b_cg (by rw [hT]) (w.1.sub (ws' := [(M, .inr (6, [.int (nI td), .int (nI nA), .int (nI nJ), .ref yA, .ref yJ, .ref yg, .int (nI dn), .ref yw, .ref yc, .ref yv, .int (nI snt), .int (nI jd), .ref yr, .int (nI bn), .ref yC, .ref yD, .ref yF, .ref yS, .ref yV, .ref yH, .int (nI 0)]))]) [0] rfl)⟩, w.2.1.F ht9⟩) w.2.1.2.2 dX6_first_72
        · have q_37_16 : k < bn := q_nle (by omega) (by omega) c_37_15
          refine lv_aload_n hx hb dX6_first_40 rfl (lv_at hl 0 rfl) ?_
          refine b_get X E w 0 rfl rfl 14 (by decide) iX6 (by decide +kernel) rfl rfl dX6_first_41 ?_
          refine lv_iload hx hb dX6_first_44 (lv_at hl 4 rfl) ?_
          refine b_iald X E w 1 rfl k rfl (by omega) (by first | decide | omega) dX6_first_46 ?_
          refine lv_iload_n hx hb dX6_first_47 rfl (lv_at hl 1 rfl) ?_
          refine lv_iload_n hx hb dX6_first_48 rfl (lv_at hl 2 rfl) ?_
          refine lv_iload_n hx hb dX6_first_49 rfl (lv_at hl 3 rfl) ?_
          refine b_calli w (va_runS (As := [.int (nI a), .int (nI i), .int (nI p0)]) (rest := [.int (bc k)]) X (c_X6_cellOf l hl0 G _ (a := a) (i := i) (p0 := p0) ) (va_cwS 3 hts gX6_first_X6_cellOf rfl rfl rfl (by decide +kernel) ⟨Nat.le_of_ble_eq_true rfl, Nat.le_of_ble_eq_true rfl⟩) ⟨b_blind, (fun U9 hU9 hW9 => ⟨rfl, b_pre E Z w [] (by decide) rfl b_nil U9 hU9 hW9⟩)⟩ rfl rfl hl.1 rfl (lv_room (Nat.le_of_ble_eq_true rfl)) dX6_first_50 ⟨Nat.le_of_ble_eq_true rfl, Nat.le_of_ble_eq_true rfl⟩) b_nil [] (fun _ => rfl) rfl (fun r50_17 u50_17 H locs hr50_17 w => ?_)
          have w : bSt G vwCl [M] s [(M, .inr (6, [.int (nI td), .int (nI nA), .int (nI nJ), .ref yA, .ref yJ, .ref yg, .int (nI dn), .ref yw, .ref yc, .ref yv, .int (nI snt), .int (nI jd), .ref yr, .int (nI bn), .ref yC, .ref yD, .ref yF, .ref yS, .ref yV, .ref yH, .int (nI 0)])), (yC, .inl (G.2.1, 300, .inl bc)), (yF, .inl (G.2.1, 300, .inl bf))] _ _ := w
          subst hr50_17
          refine lv_icmp_ne (tgt := 64) hx hb dX6_first_53 (by decide) (fun c_53_18 => ?_) (fun c_53_18 => ?_)
          · have c53 := c_53_18
            refine lv_iinc (v := nI (k + 1)) (lv' := [(4, .int (nI (k + 1))), (0, .ref M), (1, .int (nI a)), (2, .int (nI i)), (3, .int (nI p0))]) hx hb dX6_first_64 hl (k := 4) rfl (nI_add k 1) (by decide) rfl (fun ls hl => ?_)
            refine lv_goto (tgt := 31) hx hb dX6_first_67 (by decide) ?_
            exact ih31 _ _ _ ⟨k + 1, (by omega), (by omega), allN_s (p := fun j => decide (bc j = (nI (140 * p0 + (10 * a + i))))) hno (decide_eq_false c53), w, lv_sub hl [1, 2, 3, 4, 0] rfl⟩
          · have c53 := c_53_18
            refine lv_aload_n hx hb dX6_first_56 rfl (lv_at hl 0 rfl) ?_
            refine b_get X E w 0 rfl rfl 16 (by decide) iX6 (by decide +kernel) rfl rfl dX6_first_57 ?_
            refine lv_iload hx hb dX6_first_60 (lv_at hl 4 rfl) ?_
            refine b_iald X E w 2 rfl k rfl (by omega) (by first | decide | omega) dX6_first_62 ?_
            exact W.iret (v := bf k) hx hb hr (fun t9 ht9 hW9 => ⟨⟨bf k, (), rfl, by rw [hT, eN]; exact (fst9_hit c53 hno (by omega)).symm, by show va_P G.1 vwCl _ t9.heap; rw [ht9]; exact b_cg (by rw [hT]) (w.1.sub (ws' := [(M, .inr (6, [.int (nI td), .int (nI nA), .int (nI nJ), .ref yA, .ref yJ, .ref yg, .int (nI dn), .ref yw, .ref yc, .ref yv, .int (nI snt), .int (nI jd), .ref yr, .int (nI bn), .ref yC, .ref yD, .ref yF, .ref yS, .ref yV, .ref yH, .int (nI 0)]))]) [0] rfl)⟩, w.2.1.F ht9⟩) w.2.1.2.2 dX6_first_63
    · exact absurd (by decide) c_23_14
set_option maxHeartbeats 4000000 in
set_option maxRecDepth 100000 in
theorem c_X6_revisions (l : Launch) (hl0 : l.stackTraces = false) (G : bG) (sz : Nat) (M yA yJ yg yw yc yv yr yC yD yF yS yV yH td nA nJ dn snt jd bn : Nat) (th : Int32) (bc : Nat → Int32) (x y z : Int32) (hnA : nA ≤ 14) (hnJ : nJ ≤ 10) (hbn : bn ≤ 300) : Met l yX6_revisions wsX6_revisions ({ frames := 3, cells := 0, slots := 0, locals := 66 }) (va_Pc [.ref M, .int x, .int y, .int z] (bPre G vwCl bNW bSW sz [(M, .inr (6, [.int (nI td), .int (nI nA), .int (nI nJ), .ref yA, .ref yJ, .ref yg, .int (nI dn), .ref yw, .ref yc, .ref yv, .int (nI snt), .int (nI jd), .ref yr, .int (nI bn), .ref yC, .ref yD, .ref yF, .ref yS, .ref yV, .ref yH, .int th])), (yC, .inl (G.2.1, 300, .inl bc))] [M])) (va_Qi (fun (r : Int32) (_ : Unit) => r = gF (th1 (okC nA nJ x y z)) 0 (nI (cnt9 bc (nI (cN x y z)) bn))) (fun (_ : Unit) (tS : State) => va_P G.1 vwCl [(M, .inr (6, [.int (nI td), .int (nI nA), .int (nI nJ), .ref yA, .ref yJ, .ref yg, .int (nI dn), .ref yw, .ref yc, .ref yv, .int (nI snt), .int (nI jd), .ref yr, .int (nI bn), .ref yC, .ref yD, .ref yF, .ref yS, .ref yV, .ref yH, .int (nI (th1 (okC nA nJ x y z)))]))] tS.heap) (Aw [M] sz)) 0 0 (Aw [M] sz) := by
  refine Met.ofW (cc := cX6_revisions) (maxL := 6) (ret := (some .int)) (by decide) rfl ?_
  intro p e s m args below meth c s₁ B hml hv
  obtain ⟨rfl, hsz, hP, hD, E, Z⟩ := hv
  have hts := atoms_spec (ws := wsX6_revisions) B.pre
  have hown : s.vm.findClass RX6 = some m.cls := findClass_of_methodNamed B.named
  have X : CallFix p m c cX6_revisions 6 s _ wsX6_revisions RX6 := ⟨B.exec, B.bytes, hml, hown, hts⟩
  have hx := B.exec
  have hb := B.bytes
  have hr := B.returns
  have hlocks := B.notSynchronized
  subst hsz
  have w : bSt G vwCl [] s [(M, .inr (6, [.int (nI td), .int (nI nA), .int (nI nJ), .ref yA, .ref yJ, .ref yg, .int (nI dn), .ref yw, .ref yc, .ref yv, .int (nI snt), .int (nI jd), .ref yr, .int (nI bn), .ref yC, .ref yD, .ref yF, .ref yS, .ref yV, .ref yH, .int th])), (yC, .inl (G.2.1, 300, .inl bc))] s.heap [] := ⟨hP, va_S.rf, hD⟩
  have Z0 : bZ [] s := ⟨Z.1.narrow (fun q h => h.elim (fun h => nomatch h) Or.inr), Z.2.narrow (fun q h => h.elim (fun h => nomatch h) Or.inr)⟩
  have iX6 : ∀ w ∈ wsX60, w ∈ wsX6_revisions := by decide +kernel
  have hl := lv_entry ([.ref M, .int x, .int y, .int z]) (n := 6) (Nat.le_of_ble_eq_true rfl)
  rw [lg_entry_eq]
  generalize (lg_sl ([.ref M, .int x, .int y, .int z]) ++ List.replicate (6 - (lg_sl ([.ref M, .int x, .int y, .int z])).length) Slot.unset).toArray = ls at hl ⊢
  have hl : lv_has ls 6 [(0, .ref M), (1, .int x), (2, .int y), (3, .int z)] := hl
  refine lv_aload_n hx hb dX6_revisions_0 rfl (lv_at hl 0 rfl) ?_
  refine lv_aload_n hx hb dX6_revisions_1 rfl (lv_at hl 0 rfl) ?_
  refine lv_iload_n hx hb dX6_revisions_2 rfl (lv_at hl 1 rfl) ?_
  refine lv_iload_n hx hb dX6_revisions_3 rfl (lv_at hl 2 rfl) ?_
  refine lv_iload_n hx hb dX6_revisions_4 rfl (lv_at hl 3 rfl) ?_
  refine b_calli w (va_runV (As := [.int x, .int y, .int z]) (rest := [.ref M]) X (c_X6_isCell l hl0 G _ (M := M) (x := x) (y := y) (z := z) (td := td) (nA := nA) (nJ := nJ) (yA := yA) (yJ := yJ) (yg := yg) (dn := dn) (yw := yw) (yc := yc) (yv := yv) (snt := snt) (jd := jd) (yr := yr) (bn := bn) (yC := yC) (yD := yD) (yF := yF) (yS := yS) (yV := yV) (yH := yH) (th := th) (hnA := (by first | assumption | omega)) (hnJ := (by first | assumption | omega))) (cwV 3 hts gX6_revisions_X6_isCell rfl rfl rfl (by decide +kernel) ⟨Nat.le_of_ble_eq_true rfl, Nat.le_of_ble_eq_true rfl⟩) ⟨b_blind, b_recv E w (ci := 6) (q0 := 0) rfl rfl, (fun U9 hU9 hW9 => ⟨rfl, b_pre E Z0 w [0] (by decide) rfl b_nil U9 hU9 hW9⟩)⟩ rfl rfl hl.1 rfl (lv_room (Nat.le_of_ble_eq_true rfl)) dX6_revisions_5 ⟨Nat.le_of_ble_eq_true rfl, Nat.le_of_ble_eq_true rfl⟩) b_nil [] (fun _ => rfl) rfl (fun r5_12 u5_12 H locs hr5_12 w => ?_)
  have w : bSt G vwCl [] s [(M, .inr (6, [.int (nI td), .int (nI nA), .int (nI nJ), .ref yA, .ref yJ, .ref yg, .int (nI dn), .ref yw, .ref yc, .ref yv, .int (nI snt), .int (nI jd), .ref yr, .int (nI bn), .ref yC, .ref yD, .ref yF, .ref yS, .ref yV, .ref yH, .int th])), (yC, .inl (G.2.1, 300, .inl bc))] _ _ := w
  subst hr5_12
  refine lv_if_eq (tgt := 15) hx hb dX6_revisions_8 (by decide) (fun c_8_13 => ?_) (fun c_8_13 => ?_)
  · have q_8_14 : (okC nA nJ x y z) = false := bI_0.mp c_8_13
    have hT : th1 (okC nA nJ x y z) = 1 := by simp [th1, q_8_14]
    refine lv_iconst (v := nI 1) hx hb dX6_revisions_15 (by decide) ?_
    have w := b_wide [M] b_nil w
    refine b_put (ty := .int) X E w (Or.inl (List.mem_of_getElem? (i := 0) rfl)) 0 rfl rfl 20 (by decide) iX6 tyX6 tyX6_ok nmX6 (by decide +kernel) rfl rfl (by decide +kernel) rfl rfl (Nat.le_of_ble_eq_true rfl) dX6_revisions_16 (fun H locs w => ?_)
    have w : bSt G vwCl [M] s [(M, .inr (6, [.int (nI td), .int (nI nA), .int (nI nJ), .ref yA, .ref yJ, .ref yg, .int (nI dn), .ref yw, .ref yc, .ref yv, .int (nI snt), .int (nI jd), .ref yr, .int (nI bn), .ref yC, .ref yD, .ref yF, .ref yS, .ref yV, .ref yH, .int (nI 1)])), (yC, .inl (G.2.1, 300, .inl bc))] _ _ := w
    refine lv_iconst (v := nI 0) hx hb dX6_revisions_19 (by decide) ?_
    refine lv_istore (lv' := [(4, .int (nI 0)), (0, .ref M), (1, .int x), (2, .int y), (3, .int z)]) hx hb dX6_revisions_20 hl (by decide) rfl (fun ls hl => ?_)
    refine lv_iconst (v := nI 0) hx hb dX6_revisions_22 (by decide) ?_
    refine lv_istore (lv' := [(5, .int (nI 0)), (4, .int (nI 0)), (0, .ref M), (1, .int x), (2, .int y), (3, .int z)]) hx hb dX6_revisions_23 hl (by decide) rfl (fun ls hl => ?_)
    refine lv_iload hx hb dX6_revisions_25 (lv_at hl 0 rfl) ?_
    refine lv_aload_n hx hb dX6_revisions_27 rfl (lv_at hl 2 rfl) ?_
    refine b_get X E w 0 rfl rfl 13 (by decide) iX6 (by decide +kernel) rfl rfl dX6_revisions_28 ?_
    refine lv_icmp_ge (tgt := 73) hx hb dX6_revisions_31 (by decide) (fun c_31_15 => ?_) (fun c_31_15 => ?_)
    · have q_31_16 : bn ≤ 0 := q_le (by omega) (by omega) c_31_15
      refine lv_iload hx hb dX6_revisions_73 (lv_at hl 1 rfl) ?_
      exact W.iret (v := nI 0) hx hb hr (fun t9 ht9 hW9 => ⟨⟨nI 0, (), rfl, by rw [hT]; rfl, by show va_P G.1 vwCl _ t9.heap; rw [ht9]; exact b_cg (by rw [hT]) (w.1.sub (ws' := [(M, .inr (6, [.int (nI td), .int (nI nA), .int (nI nJ), .ref yA, .ref yJ, .ref yg, .int (nI dn), .ref yw, .ref yc, .ref yv, .int (nI snt), .int (nI jd), .ref yr, .int (nI bn), .ref yC, .ref yD, .ref yF, .ref yS, .ref yV, .ref yH, .int (nI 1)]))]) [0] rfl)⟩, w.2.1.F ht9⟩) w.2.1.2.2 dX6_revisions_75
    · have q_31_16 : 0 < bn := q_nle (by omega) (by omega) c_31_15
      refine lv_aload_n hx hb dX6_revisions_34 rfl (lv_at hl 2 rfl) ?_
      refine b_get X E w 0 rfl rfl 20 (by decide) iX6 (by decide +kernel) rfl rfl dX6_revisions_35 ?_
      refine lv_if_ne (tgt := 73) hx hb dX6_revisions_38 (by decide) (fun c_38_17 => ?_) (fun c_38_17 => ?_)
      · refine lv_iload hx hb dX6_revisions_73 (lv_at hl 1 rfl) ?_
        exact W.iret (v := nI 0) hx hb hr (fun t9 ht9 hW9 => ⟨⟨nI 0, (), rfl, by rw [hT]; rfl, by show va_P G.1 vwCl _ t9.heap; rw [ht9]; exact b_cg (by rw [hT]) (w.1.sub (ws' := [(M, .inr (6, [.int (nI td), .int (nI nA), .int (nI nJ), .ref yA, .ref yJ, .ref yg, .int (nI dn), .ref yw, .ref yc, .ref yv, .int (nI snt), .int (nI jd), .ref yr, .int (nI bn), .ref yC, .ref yD, .ref yF, .ref yS, .ref yV, .ref yH, .int (nI 1)]))]) [0] rfl)⟩, w.2.1.F ht9⟩) w.2.1.2.2 dX6_revisions_75
      · exact absurd c_38_17 (by decide)
  · have q_8_14 : (okC nA nJ x y z) = true := bI_n0.mp c_8_13
    have h9a := q_8_14
    have hT : th1 (okC nA nJ x y z) = 0 := by simp [th1, h9a]
    obtain ⟨a, ha, i, hi, p0, hp, rfl, rfl, rfl⟩ := okC_yes (by omega) (by omega) h9a
    have eN := cN_nI ha hi hp hnA hnJ
    have ea : cl (nI a) = a := cl_nI (by omega)
    have ei : cl (nI i) = i := cl_nI (by omega)
    have ep : cl (nI p0) = p0 := cl_nI (by omega)
    refine lv_iconst (v := nI 0) hx hb dX6_revisions_11 (by decide) ?_
    refine lv_goto (tgt := 16) hx hb dX6_revisions_12 (by decide) ?_
    have w := b_wide [M] b_nil w
    refine b_put (ty := .int) X E w (Or.inl (List.mem_of_getElem? (i := 0) rfl)) 0 rfl rfl 20 (by decide) iX6 tyX6 tyX6_ok nmX6 (by decide +kernel) rfl rfl (by decide +kernel) rfl rfl (Nat.le_of_ble_eq_true rfl) dX6_revisions_16 (fun H locs w => ?_)
    have w : bSt G vwCl [M] s [(M, .inr (6, [.int (nI td), .int (nI nA), .int (nI nJ), .ref yA, .ref yJ, .ref yg, .int (nI dn), .ref yw, .ref yc, .ref yv, .int (nI snt), .int (nI jd), .ref yr, .int (nI bn), .ref yC, .ref yD, .ref yF, .ref yS, .ref yV, .ref yH, .int (nI 0)])), (yC, .inl (G.2.1, 300, .inl bc))] _ _ := w
    refine lv_iconst (v := nI 0) hx hb dX6_revisions_19 (by decide) ?_
    refine lv_istore (lv' := [(4, .int (nI 0)), (0, .ref M), (1, .int (nI a)), (2, .int (nI i)), (3, .int (nI p0))]) hx hb dX6_revisions_20 hl (by decide) rfl (fun ls hl => ?_)
    refine lv_iconst (v := nI 0) hx hb dX6_revisions_22 (by decide) ?_
    refine lv_istore (lv' := [(5, .int (nI 0)), (4, .int (nI 0)), (0, .ref M), (1, .int (nI a)), (2, .int (nI i)), (3, .int (nI p0))]) hx hb dX6_revisions_23 hl (by decide) rfl (fun ls hl => ?_)
    refine b_loop (pc := 25) (st := []) (fun (fuel : Nat) (H : Heap) (locs : List Loc) (ls : Array Slot) => ∃ (k : Nat) (ct : Nat), (k ≤ bn) ∧ (bn + 1 ≤ k + fuel) ∧ (ct ≤ k) ∧ (ct = cH (fun _ => true) (fun j => decide (bc j = (nI (140 * p0 + (10 * a + i))))) k) ∧ bSt G vwCl [M] s [(M, .inr (6, [.int (nI td), .int (nI nA), .int (nI nJ), .ref yA, .ref yJ, .ref yg, .int (nI dn), .ref yw, .ref yc, .ref yv, .int (nI snt), .int (nI jd), .ref yr, .int (nI bn), .ref yC, .ref yD, .ref yF, .ref yS, .ref yV, .ref yH, .int (nI 0)])), (yC, .inl (G.2.1, 300, .inl bc))] H locs ∧ lv_has ls 6 [(0, .ref M), (1, .int (nI a)), (2, .int (nI i)), (3, .int (nI p0)), (4, .int (nI ct)), (5, .int (nI k))]) (fun H locs ls h9 => ?_) (fun fuel H locs ls hI ih25 => ?_) (bn + 1) ⟨0, 0, (by omega), (by omega), (by omega), rfl, w, lv_sub hl [2, 3, 4, 5, 1, 0] rfl⟩
    · obtain ⟨k, ct, hk, hf, hck, hct, w, hl⟩ := h9
      omega
    · obtain ⟨k, ct, hk, hf, hck, hct, w, hl⟩ := hI
      refine lv_iload hx hb dX6_revisions_25 (lv_at hl 5 rfl) ?_
      refine lv_aload_n hx hb dX6_revisions_27 rfl (lv_at hl 0 rfl) ?_
      refine b_get X E w 0 rfl rfl 13 (by decide) iX6 (by decide +kernel) rfl rfl dX6_revisions_28 ?_
      refine lv_icmp_ge (tgt := 73) hx hb dX6_revisions_31 (by decide) (fun c_31_18 => ?_) (fun c_31_18 => ?_)
      · have q_31_19 : bn ≤ k := q_le (by omega) (by omega) c_31_18
        have ek : k = bn := by omega
        rw [ek] at hct
        refine lv_iload hx hb dX6_revisions_73 (lv_at hl 4 rfl) ?_
        exact W.iret (v := nI ct) hx hb hr (fun t9 ht9 hW9 => ⟨⟨nI ct, (), rfl, by rw [hT, eN]; exact congrArg nI hct, by show va_P G.1 vwCl _ t9.heap; rw [ht9]; exact b_cg (by rw [hT]) (w.1.sub (ws' := [(M, .inr (6, [.int (nI td), .int (nI nA), .int (nI nJ), .ref yA, .ref yJ, .ref yg, .int (nI dn), .ref yw, .ref yc, .ref yv, .int (nI snt), .int (nI jd), .ref yr, .int (nI bn), .ref yC, .ref yD, .ref yF, .ref yS, .ref yV, .ref yH, .int (nI 0)]))]) [0] rfl)⟩, w.2.1.F ht9⟩) w.2.1.2.2 dX6_revisions_75
      · have q_31_19 : k < bn := q_nle (by omega) (by omega) c_31_18
        refine lv_aload_n hx hb dX6_revisions_34 rfl (lv_at hl 0 rfl) ?_
        refine b_get X E w 0 rfl rfl 20 (by decide) iX6 (by decide +kernel) rfl rfl dX6_revisions_35 ?_
        refine lv_if_ne (tgt := 73) hx hb dX6_revisions_38 (by decide) (fun c_38_20 => ?_) (fun c_38_20 => ?_)
        · exact absurd rfl c_38_20
        · refine lv_iload hx hb dX6_revisions_41 (lv_at hl 4 rfl) ?_
          refine lv_aload_n hx hb dX6_revisions_43 rfl (lv_at hl 0 rfl) ?_
          refine b_get X E w 0 rfl rfl 14 (by decide) iX6 (by decide +kernel) rfl rfl dX6_revisions_44 ?_
          refine lv_iload hx hb dX6_revisions_47 (lv_at hl 5 rfl) ?_
          refine b_iald X E w 1 rfl k rfl (by omega) (by first | decide | omega) dX6_revisions_49 ?_
          refine lv_iload_n hx hb dX6_revisions_50 rfl (lv_at hl 1 rfl) ?_
          refine lv_iload_n hx hb dX6_revisions_51 rfl (lv_at hl 2 rfl) ?_
          refine lv_iload_n hx hb dX6_revisions_52 rfl (lv_at hl 3 rfl) ?_
          refine b_calli w (va_runS (As := [.int (nI a), .int (nI i), .int (nI p0)]) (rest := [.int (bc k), .int (nI ct)]) X (c_X6_cellOf l hl0 G _ (a := a) (i := i) (p0 := p0) ) (va_cwS 3 hts gX6_revisions_X6_cellOf rfl rfl rfl (by decide +kernel) ⟨Nat.le_of_ble_eq_true rfl, Nat.le_of_ble_eq_true rfl⟩) ⟨b_blind, (fun U9 hU9 hW9 => ⟨rfl, b_pre E Z w [] (by decide) rfl b_nil U9 hU9 hW9⟩)⟩ rfl rfl hl.1 rfl (lv_room (Nat.le_of_ble_eq_true rfl)) dX6_revisions_53 ⟨Nat.le_of_ble_eq_true rfl, Nat.le_of_ble_eq_true rfl⟩) b_nil [] (fun _ => rfl) rfl (fun r53_21 u53_21 H locs hr53_21 w => ?_)
          have w : bSt G vwCl [M] s [(M, .inr (6, [.int (nI td), .int (nI nA), .int (nI nJ), .ref yA, .ref yJ, .ref yg, .int (nI dn), .ref yw, .ref yc, .ref yv, .int (nI snt), .int (nI jd), .ref yr, .int (nI bn), .ref yC, .ref yD, .ref yF, .ref yS, .ref yV, .ref yH, .int (nI 0)])), (yC, .inl (G.2.1, 300, .inl bc))] _ _ := w
          subst hr53_21
          refine lv_icmp_ne (tgt := 63) hx hb dX6_revisions_56 (by decide) (fun c_56_22 => ?_) (fun c_56_22 => ?_)
          · have g1 := cH_noB (p := fun _ => true) (b := fun j => decide (bc j = (nI (140 * p0 + (10 * a + i))))) (k := k) rfl (decide_eq_false c_56_22)
            refine lv_iconst (v := nI 0) hx hb dX6_revisions_63 (by decide) ?_
            refine lv_iadd hx hb dX6_revisions_64 ?_
            refine b_tp (show (nI ct) + (nI 0) = nI (ct + 0) from nI_add ct 0) ?_
            refine lv_istore (lv' := [(4, .int (nI (ct + 0))), (0, .ref M), (1, .int (nI a)), (2, .int (nI i)), (3, .int (nI p0)), (5, .int (nI k))]) hx hb dX6_revisions_65 hl (by decide) rfl (fun ls hl => ?_)
            refine lv_iinc (v := nI (k + 1)) (lv' := [(5, .int (nI (k + 1))), (4, .int (nI (ct + 0))), (0, .ref M), (1, .int (nI a)), (2, .int (nI i)), (3, .int (nI p0))]) hx hb dX6_revisions_67 hl (k := 5) rfl (nI_add k 1) (by decide) rfl (fun ls hl => ?_)
            refine lv_goto (tgt := 25) hx hb dX6_revisions_70 (by decide) ?_
            exact ih25 _ _ _ ⟨k + 1, ct + 0, (by omega), (by omega), (by omega), by rw [g1]; omega, w, lv_sub hl [2, 3, 4, 5, 1, 0] rfl⟩
          · have g1 := cH_yes2 (p := fun _ => true) (b := fun j => decide (bc j = (nI (140 * p0 + (10 * a + i))))) (k := k) rfl (decide_eq_true c_56_22)
            refine lv_iconst (v := nI 1) hx hb dX6_revisions_59 (by decide) ?_
            refine lv_goto (tgt := 64) hx hb dX6_revisions_60 (by decide) ?_
            refine lv_iadd hx hb dX6_revisions_64 ?_
            refine b_tp (show (nI ct) + (nI 1) = nI (ct + 1) from nI_add ct 1) ?_
            refine lv_istore (lv' := [(4, .int (nI (ct + 1))), (0, .ref M), (1, .int (nI a)), (2, .int (nI i)), (3, .int (nI p0)), (5, .int (nI k))]) hx hb dX6_revisions_65 hl (by decide) rfl (fun ls hl => ?_)
            refine lv_iinc (v := nI (k + 1)) (lv' := [(5, .int (nI (k + 1))), (4, .int (nI (ct + 1))), (0, .ref M), (1, .int (nI a)), (2, .int (nI i)), (3, .int (nI p0))]) hx hb dX6_revisions_67 hl (k := 5) rfl (nI_add k 1) (by decide) rfl (fun ls hl => ?_)
            refine lv_goto (tgt := 25) hx hb dX6_revisions_70 (by decide) ?_
            exact ih25 _ _ _ ⟨k + 1, ct + 1, (by omega), (by omega), (by omega), by rw [g1]; omega, w, lv_sub hl [2, 3, 4, 5, 1, 0] rfl⟩
