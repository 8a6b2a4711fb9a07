set_option maxHeartbeats 4000000 in
set_option maxRecDepth 100000 in
theorem c_X6_looks_A (l : Launch) (hl0 : l.stackTraces = false) (G : bG) (sz : Nat) (M yA yJ yg yw yc yv yr yC yD yF yS yV yH td nA nJ dn snt jd bn : Nat) (th : Int32) (fA : Nat → Int32) (v : Nat → Int32) (hid : Nat → Bool) (a i : Nat) (hnA : nA ≤ 14) (hnJ : nJ ≤ 10) (ha : a < nA) (hi : i < nJ) (hvs : v (10 * a + i) = MIS → sA fA nA v a i = MIS) : Met l yX6_looks wsX6_looks ({ frames := 1, cells := 0, slots := 0, locals := 28 }) (va_Pc [.ref M, .int (nI a), .int (nI i), .int (nI 0)] (bPre G vwCl bNW bSW sz [(M, .inr (6, [.int (nI td), .int (nI nA), .int (nI nJ), .ref yA, .ref yJ, .ref yg, .int (nI dn), .ref yw, .ref yc, .ref yv, .int (nI snt), .int (nI jd), .ref yr, .int (nI bn), .ref yC, .ref yD, .ref yF, .ref yS, .ref yV, .ref yH, .int th])), (yA, .inl (G.2.1, 14, .inl fA)), (yV, .inl (G.2.1, 140, .inl v)), (yH, .inl (G.2.2.1, 140, .inl (zB hid)))] [yH])) (va_Qi (fun (r : Int32) (_ : Unit) => r = bI ((pR (fun k => decide (fA k = nI a)) (fun k => hid (10 * k + i)) (fun k => v (10 * k + i)) nA (10 * a + i) (hid (10 * a + i)) (fun k => 10 * k + i)).isSome)) (fun (_ : Unit) (tS : State) => va_P G.1 vwCl [(yH, .inl (G.2.2.1, 140, .inl (zB (uO hid (pR (fun k => decide (fA k = nI a)) (fun k => hid (10 * k + i)) (fun k => v (10 * k + i)) nA (10 * a + i) (hid (10 * a + i)) (fun k => 10 * k + i))))))] tS.heap) (Aw [yH] sz)) 0 0 (Aw [yH] sz) := by
  refine Met.ofW (cc := cX6_looks) (maxL := 9) (ret := (some .boolean)) (by decide) rfl ?_
  intro p e s m args below meth c s₁ B hml hv
  obtain ⟨rfl, hsz, hP, hD, E, Z⟩ := hv
  have hts := atoms_spec (ws := wsX6_looks) B.pre
  have hown : s.vm.findClass RX6 = some m.cls := findClass_of_methodNamed B.named
  have X : CallFix p m c cX6_looks 9 s _ wsX6_looks RX6 := ⟨B.exec, B.bytes, hml, hown, hts⟩
  have hx := B.exec
  have hb := B.bytes
  have hr := B.returns
  have hlocks := B.notSynchronized
  subst hsz
  have w : bSt G vwCl [] s [(M, .inr (6, [.int (nI td), .int (nI nA), .int (nI nJ), .ref yA, .ref yJ, .ref yg, .int (nI dn), .ref yw, .ref yc, .ref yv, .int (nI snt), .int (nI jd), .ref yr, .int (nI bn), .ref yC, .ref yD, .ref yF, .ref yS, .ref yV, .ref yH, .int th])), (yA, .inl (G.2.1, 14, .inl fA)), (yV, .inl (G.2.1, 140, .inl v)), (yH, .inl (G.2.2.1, 140, .inl (zB hid)))] s.heap [] := ⟨hP, va_S.rf, hD⟩
  have Z0 : bZ [] s := ⟨Z.1.narrow (fun q h => h.elim (fun h => nomatch h) Or.inr), Z.2.narrow (fun q h => h.elim (fun h => nomatch h) Or.inr)⟩
  have iX6 : ∀ w ∈ wsX60, w ∈ wsX6_looks := by decide +kernel
  have hl := lv_entry ([.ref M, .int (nI a), .int (nI i), .int (nI 0)]) (n := 9) (Nat.le_of_ble_eq_true rfl)
  rw [lg_entry_eq]
  generalize (lg_sl ([.ref M, .int (nI a), .int (nI i), .int (nI 0)]) ++ List.replicate (9 - (lg_sl ([.ref M, .int (nI a), .int (nI i), .int (nI 0)])).length) Slot.unset).toArray = ls at hl ⊢
  have hl : lv_has ls 9 [(0, .ref M), (1, .int (nI a)), (2, .int (nI i)), (3, .int (nI 0))] := hl
  have hcl := cH_le (p := (fun k => decide (fA k = nI a))) (b := (fun k => hid (10 * k + i))) nA
  have hb1 := b1_le (hid (10 * a + i))
  refine lv_aload_n hx hb dX6_looks_0 rfl (lv_at hl 0 rfl) ?_
  refine lv_iload_n hx hb dX6_looks_1 rfl (lv_at hl 1 rfl) ?_
  refine lv_iload_n hx hb dX6_looks_2 rfl (lv_at hl 2 rfl) ?_
  refine lv_iload_n hx hb dX6_looks_3 rfl (lv_at hl 3 rfl) ?_
  refine b_calli w (va_runV (As := [.int (nI a), .int (nI i), .int (nI 0)]) (rest := []) X (c_X6_sumOf_A l hl0 G _ (M := M) (a := a) (i := i) (td := td) (nA := nA) (nJ := nJ) (yA := yA) (yJ := yJ) (yg := yg) (dn := dn) (yw := yw) (yc := yc) (yv := yv) (snt := snt) (jd := jd) (yr := yr) (bn := bn) (yC := yC) (yD := yD) (yF := yF) (yS := yS) (yV := yV) (yH := yH) (th := th) (fA := fA) (v := v) (hnA := (by first | assumption | omega)) (hnJ := (by first | assumption | omega)) (ha := (by first | assumption | omega)) (hi := (by first | assumption | omega))) (cwV 3 hts gX6_looks_X6_sumOf rfl rfl rfl (by decide +kernel) ⟨Nat.le_of_ble_eq_true rfl, Nat.le_of_ble_eq_true rfl⟩) ⟨b_blind, b_recv E w (ci := 6) (q0 := 0) rfl rfl, (fun U9 hU9 hW9 => ⟨rfl, b_pre E Z0 w [0, 1, 2] (by decide) rfl b_nil U9 hU9 hW9⟩)⟩ rfl rfl hl.1 rfl (lv_room (Nat.le_of_ble_eq_true rfl)) dX6_looks_4 ⟨Nat.le_of_ble_eq_true rfl, Nat.le_of_ble_eq_true rfl⟩) b_nil [] (fun _ => rfl) rfl (fun r4_26 u4_26 H locs hr4_26 w => ?_)
  have w : bSt G vwCl [] s [(M, .inr (6, [.int (nI td), .int (nI nA), .int (nI nJ), .ref yA, .ref yJ, .ref yg, .int (nI dn), .ref yw, .ref yc, .ref yv, .int (nI snt), .int (nI jd), .ref yr, .int (nI bn), .ref yC, .ref yD, .ref yF, .ref yS, .ref yV, .ref yH, .int th])), (yA, .inl (G.2.1, 14, .inl fA)), (yV, .inl (G.2.1, 140, .inl v)), (yH, .inl (G.2.2.1, 140, .inl (zB hid)))] _ _ := w
  subst hr4_26
  refine lv_ldc (v := MIS) hx hb hown (hts (.constant RX6 86 (-2000000001)) (by decide +kernel)) dX6_looks_7 ?_
  refine lv_icmp_eq (tgt := 32) hx hb dX6_looks_9 (by decide) (fun c_9_27 => ?_) (fun c_9_27 => ?_)
  · have hE : pR (fun k => decide (fA k = nI a)) (fun k => hid (10 * k + i)) (fun k => v (10 * k + i)) nA (10 * a + i) (hid (10 * a + i)) (fun k => 10 * k + i) = none := pR_n2 c_9_27
    refine lv_iconst (v := nI 0) hx hb dX6_looks_32 (by decide) ?_
    refine lv_istore (lv' := [(4, .int (nI 0)), (0, .ref M), (1, .int (nI a)), (2, .int (nI i)), (3, .int (nI 0))]) hx hb dX6_looks_33 hl (by decide) rfl (fun ls hl => ?_)
    refine lv_iload hx hb dX6_looks_35 (lv_at hl 0 rfl) ?_
    refine lv_if_eq (tgt := 51) hx hb dX6_looks_37 (by decide) (fun c_37_28 => ?_) (fun c_37_28 => ?_)
    · refine lv_iconst (v := nI 0) hx hb dX6_looks_51 (by decide) ?_
      have w := b_wide [yH] b_nil w
      exact W.zret (v := nI 0) hx hb hr rfl (fun t9 ht9 hW9 => ⟨⟨nI 0, (), rfl, bI_zero (by rw [hE]; rfl), by show va_P G.1 vwCl _ t9.heap; rw [ht9]; exact b_cg (by rw [hE]; rfl) (w.1.sub (ws' := [(yH, .inl (G.2.2.1, 140, .inl (zB hid)))]) [3] rfl)⟩, w.2.1.F ht9⟩) w.2.1.2.2 dX6_looks_52
    · exact absurd (by decide) c_37_28
  · have c9 := c_9_27
    refine lv_aload_n hx hb dX6_looks_12 rfl (lv_at hl 0 rfl) ?_
    refine b_get X E w 0 rfl rfl 18 (by decide) iX6 (by decide +kernel) rfl rfl dX6_looks_13 ?_
    refine lv_bipush (v := nI 10) hx hb dX6_looks_16 (by decide) ?_
    refine lv_iload_n hx hb dX6_looks_18 rfl (lv_at hl 1 rfl) ?_
    refine lv_imul hx hb dX6_looks_19 ?_
    refine b_tp (show (nI 10) * (nI a) = nI (10 * a) from pk_mul 10 a) ?_
    refine lv_iload_n hx hb dX6_looks_20 rfl (lv_at hl 2 rfl) ?_
    refine lv_iadd hx hb dX6_looks_21 ?_
    refine b_tp (show (nI (10 * a)) + (nI i) = nI ((10 * a) + i) from nI_add (10 * a) i) ?_
    refine b_iald X E w 2 rfl ((10 * a) + i) rfl (by omega) (by first | decide | omega) dX6_looks_22 ?_
    refine lv_ldc (v := MIS) hx hb hown (hts (.constant RX6 86 (-2000000001)) (by decide +kernel)) dX6_looks_23 ?_
    refine lv_icmp_eq (tgt := 32) hx hb dX6_looks_25 (by decide) (fun c_25_29 => ?_) (fun c_25_29 => ?_)
    · exact absurd (hvs c_25_29) c9
    · refine lv_iconst (v := nI 1) hx hb dX6_looks_28 (by decide) ?_
      refine lv_goto (tgt := 33) hx hb dX6_looks_29 (by decide) ?_
      refine lv_istore (lv' := [(4, .int (nI 1)), (0, .ref M), (1, .int (nI a)), (2, .int (nI i)), (3, .int (nI 0))]) hx hb dX6_looks_33 hl (by decide) rfl (fun ls hl => ?_)
      refine lv_iload hx hb dX6_looks_35 (lv_at hl 0 rfl) ?_
      refine lv_if_eq (tgt := 51) hx hb dX6_looks_37 (by decide) (fun c_37_30 => ?_) (fun c_37_30 => ?_)
      · exact absurd c_37_30 (by decide)
      · refine lv_aload_n hx hb dX6_looks_40 rfl (lv_at hl 1 rfl) ?_
        refine lv_iload_n hx hb dX6_looks_41 rfl (lv_at hl 2 rfl) ?_
        refine lv_iload_n hx hb dX6_looks_42 rfl (lv_at hl 3 rfl) ?_
        refine lv_iload_n hx hb dX6_looks_43 rfl (lv_at hl 4 rfl) ?_
        refine b_calli w (va_runV (As := [.int (nI a), .int (nI i), .int (nI 0)]) (rest := []) X (c_X6_hides_A l hl0 G _ (M := M) (a := a) (i := i) (td := td) (nA := nA) (nJ := nJ) (yA := yA) (yJ := yJ) (yg := yg) (dn := dn) (yw := yw) (yc := yc) (yv := yv) (snt := snt) (jd := jd) (yr := yr) (bn := bn) (yC := yC) (yD := yD) (yF := yF) (yS := yS) (yV := yV) (yH := yH) (th := th) (fA := fA) (hid := hid) (hnA := (by first | assumption | omega)) (hnJ := (by first | assumption | omega)) (ha := (by first | assumption | omega)) (hi := (by first | assumption | omega))) (cwV 3 hts gX6_looks_X6_hides rfl rfl rfl (by decide +kernel) ⟨Nat.le_of_ble_eq_true rfl, Nat.le_of_ble_eq_true rfl⟩) ⟨b_blind, b_recv E w (ci := 6) (q0 := 0) rfl rfl, (fun U9 hU9 hW9 => ⟨rfl, b_pre E Z0 w [0, 1, 3] (by decide) rfl b_nil U9 hU9 hW9⟩)⟩ rfl rfl hl.1 rfl (lv_room (Nat.le_of_ble_eq_true rfl)) dX6_looks_44 ⟨Nat.le_of_ble_eq_true rfl, Nat.le_of_ble_eq_true rfl⟩) b_nil [] (fun _ => rfl) rfl (fun r44_31 u44_31 H locs hr44_31 w => ?_)
        have w : bSt G vwCl [] s [(M, .inr (6, [.int (nI td), .int (nI nA), .int (nI nJ), .ref yA, .ref yJ, .ref yg, .int (nI dn), .ref yw, .ref yc, .ref yv, .int (nI snt), .int (nI jd), .ref yr, .int (nI bn), .ref yC, .ref yD, .ref yF, .ref yS, .ref yV, .ref yH, .int th])), (yA, .inl (G.2.1, 14, .inl fA)), (yV, .inl (G.2.1, 140, .inl v)), (yH, .inl (G.2.2.1, 140, .inl (zB hid)))] _ _ := w
        subst hr44_31
        refine lv_iconst (v := nI 1) hx hb dX6_looks_47 (by decide) ?_
        refine lv_icmp_eq (tgt := 53) hx hb dX6_looks_48 (by decide) (fun c_48_32 => ?_) (fun c_48_32 => ?_)
        · have q_48_33 : b1 (hid (10 * a + i)) + cH (fun k => decide (fA k = nI a)) (fun k => hid (10 * k + i)) nA = 1 := (nI_eq (by omega) (by omega)).mp c_48_32
          have c48 := q_48_33
          refine lv_iconst (v := -1) hx hb dX6_looks_53 (by decide) ?_
          refine lv_istore (lv' := [(5, .int (-1)), (4, .int (nI 1)), (0, .ref M), (1, .int (nI a)), (2, .int (nI i)), (3, .int (nI 0))]) hx hb dX6_looks_54 hl (by decide) rfl (fun ls hl => ?_)
          refine lv_iconst (v := nI 0) hx hb dX6_looks_56 (by decide) ?_
          refine lv_istore (lv' := [(6, .int (nI 0)), (5, .int (-1)), (4, .int (nI 1)), (0, .ref M), (1, .int (nI a)), (2, .int (nI i)), (3, .int (nI 0))]) hx hb dX6_looks_57 hl (by decide) rfl (fun ls hl => ?_)
          refine b_loop (pc := 59) (st := []) (fun (fuel : Nat) (H : Heap) (locs : List Loc) (ls : Array Slot) => ∃ (k : Nat) (o1 : Option Nat), (k ≤ nA) ∧ (nA + 1 ≤ k + fuel) ∧ (o1 = nr (fun k => decide (fA k = nI a)) (fun k => hid (10 * k + i)) (fun k => v (10 * k + i)) k) ∧ bSt G vwCl [] s [(M, .inr (6, [.int (nI td), .int (nI nA), .int (nI nJ), .ref yA, .ref yJ, .ref yg, .int (nI dn), .ref yw, .ref yc, .ref yv, .int (nI snt), .int (nI jd), .ref yr, .int (nI bn), .ref yC, .ref yD, .ref yF, .ref yS, .ref yV, .ref yH, .int th])), (yA, .inl (G.2.1, 14, .inl fA)), (yV, .inl (G.2.1, 140, .inl v)), (yH, .inl (G.2.2.1, 140, .inl (zB hid)))] H locs ∧ lv_has ls 9 [(0, .ref M), (1, .int (nI a)), (2, .int (nI i)), (3, .int (nI 0)), (5, .int (oS (fun k => 10 * k + i) o1)), (6, .int (nI k))]) (fun H locs ls h9 => ?_) (fun fuel H locs ls hI ih59 => ?_) (nA + 1) ⟨0, none, (by omega), (by omega), rfl, w, lv_sub hl [3, 4, 5, 6, 1, 0] rfl⟩
          · obtain ⟨k, o1, hk, hf, ho, w, hl⟩ := h9
            omega
          · obtain ⟨k, o1, hk, hf, ho, w, hl⟩ := hI
            have hsm : ∀ j, o1 = some j → (10 * j) + i < 140 := fun j hj => by
              obtain ⟨j1, j2, -⟩ := nr_some (ho.symm.trans hj)
              omega
            refine lv_iload hx hb dX6_looks_59 (lv_at hl 5 rfl) ?_
            refine lv_iload_n hx hb dX6_looks_61 rfl (lv_at hl 3 rfl) ?_
            refine lv_if_eq (tgt := 72) hx hb dX6_looks_62 (by decide) (fun c_62_34 => ?_) (fun c_62_34 => ?_)
            · refine lv_aload_n hx hb dX6_looks_72 rfl (lv_at hl 0 rfl) ?_
              refine b_get X E w 0 rfl rfl 1 (by decide) iX6 (by decide +kernel) rfl rfl dX6_looks_73 ?_
              refine lv_icmp_ge (tgt := 201) hx hb dX6_looks_76 (by decide) (fun c_76_35 => ?_) (fun c_76_35 => ?_)
              · have q_76_36 : nA ≤ k := q_le (by omega) (by omega) c_76_35
                have ek : k = nA := by omega
                rw [ek] at ho
                have hE : pR (fun k => decide (fA k = nI a)) (fun k => hid (10 * k + i)) (fun k => v (10 * k + i)) nA (10 * a + i) (hid (10 * a + i)) (fun k => 10 * k + i) = some (oN (fun k => 10 * k + i) (10 * a + i) (nr (fun k => decide (fA k = nI a)) (fun k => hid (10 * k + i)) (fun k => v (10 * k + i)) nA)) := pR_y c48 c9
                refine lv_aload_n hx hb dX6_looks_201 rfl (lv_at hl 0 rfl) ?_
                refine b_get X E w 0 rfl rfl 19 (by decide) iX6 (by decide +kernel) rfl rfl dX6_looks_202 ?_
                refine lv_iload hx hb dX6_looks_205 (lv_at hl 4 rfl) ?_
                refine lv_iconst (v := -1) hx hb dX6_looks_207 (by decide) ?_
                refine lv_icmp_ne (tgt := 220) hx hb dX6_looks_208 (by decide) (fun c_208_37 => ?_) (fun c_208_37 => ?_)
                · obtain ⟨j, rfl⟩ := oS_some c_208_37
                  have hsl2 : (10 * j) + i < 140 := by
                    obtain ⟨j1, j2, -⟩ := nr_some ho.symm
                    omega
                  rw [← ho] at hE
                  have hl : lv_has ls 9 [(0, .ref M), (1, .int (nI a)), (2, .int (nI i)), (3, .int (nI 0)), (5, .int (nI ((10 * j) + i))), (6, .int (nI k))] := hl
                  refine lv_iload hx hb dX6_looks_220 (lv_at hl 4 rfl) ?_
                  refine lv_iconst (v := nI 1) hx hb dX6_looks_222 (by decide) ?_
                  refine b_tp (show nI 1 = bI true from rfl) ?_
                  have w := b_wide [yH] b_nil w
                  refine b_zast X E w (Or.inl (List.mem_of_getElem? (i := 0) rfl)) 3 rfl ((10 * j) + i) rfl (by omega) (by first | decide | omega) (bI_01 _) dX6_looks_223 (fun H locs w => ?_)
                  rw [zB_upd] at w
                  have w : bSt G vwCl [yH] s [(M, .inr (6, [.int (nI td), .int (nI nA), .int (nI nJ), .ref yA, .ref yJ, .ref yg, .int (nI dn), .ref yw, .ref yc, .ref yv, .int (nI snt), .int (nI jd), .ref yr, .int (nI bn), .ref yC, .ref yD, .ref yF, .ref yS, .ref yV, .ref yH, .int th])), (yA, .inl (G.2.1, 14, .inl fA)), (yV, .inl (G.2.1, 140, .inl v)), (yH, .inl (G.2.2.1, 140, .inl (zB (uB hid ((10 * j) + i) true))))] _ _ := w
                  refine lv_iconst (v := nI 1) hx hb dX6_looks_224 (by decide) ?_
                  exact W.zret (v := nI 1) hx hb hr rfl (fun t9 ht9 hW9 => ⟨⟨nI 1, (), rfl, bI_one (by rw [hE]; rfl), by show va_P G.1 vwCl _ t9.heap; rw [ht9]; exact b_cg (by rw [hE]; rfl) (w.1.sub (ws' := [(yH, .inl (G.2.2.1, 140, .inl (zB (uB hid ((10 * j) + i) true))))]) [3] rfl)⟩, w.2.1.F ht9⟩) w.2.1.2.2 dX6_looks_225
                · have on : o1 = none := oS_none c_208_37 (fun j hj => by
                    obtain ⟨j1, j2, -⟩ := nr_some (ho.symm.trans hj)
                    show (10 * j) + i < 2 ^ 31
                    omega)
                  rw [← ho, on] at hE
                  refine lv_bipush (v := nI 10) hx hb dX6_looks_211 (by decide) ?_
                  refine lv_iload_n hx hb dX6_looks_213 rfl (lv_at hl 1 rfl) ?_
                  refine lv_imul hx hb dX6_looks_214 ?_
                  refine b_tp (show (nI 10) * (nI a) = nI (10 * a) from pk_mul 10 a) ?_
                  refine lv_iload_n hx hb dX6_looks_215 rfl (lv_at hl 2 rfl) ?_
                  refine lv_iadd hx hb dX6_looks_216 ?_
                  refine b_tp (show (nI (10 * a)) + (nI i) = nI ((10 * a) + i) from nI_add (10 * a) i) ?_
                  refine lv_goto (tgt := 222) hx hb dX6_looks_217 (by decide) ?_
                  refine lv_iconst (v := nI 1) hx hb dX6_looks_222 (by decide) ?_
                  refine b_tp (show nI 1 = bI true from rfl) ?_
                  have w := b_wide [yH] b_nil w
                  refine b_zast X E w (Or.inl (List.mem_of_getElem? (i := 0) rfl)) 3 rfl ((10 * a) + i) rfl (by omega) (by first | decide | omega) (bI_01 _) dX6_looks_223 (fun H locs w => ?_)
                  rw [zB_upd] at w
                  have w : bSt G vwCl [yH] s [(M, .inr (6, [.int (nI td), .int (nI nA), .int (nI nJ), .ref yA, .ref yJ, .ref yg, .int (nI dn), .ref yw, .ref yc, .ref yv, .int (nI snt), .int (nI jd), .ref yr, .int (nI bn), .ref yC, .ref yD, .ref yF, .ref yS, .ref yV, .ref yH, .int th])), (yA, .inl (G.2.1, 14, .inl fA)), (yV, .inl (G.2.1, 140, .inl v)), (yH, .inl (G.2.2.1, 140, .inl (zB (uB hid ((10 * a) + i) true))))] _ _ := w
                  refine lv_iconst (v := nI 1) hx hb dX6_looks_224 (by decide) ?_
                  exact W.zret (v := nI 1) hx hb hr rfl (fun t9 ht9 hW9 => ⟨⟨nI 1, (), rfl, bI_one (by rw [hE]; rfl), by show va_P G.1 vwCl _ t9.heap; rw [ht9]; exact b_cg (by rw [hE]; rfl) (w.1.sub (ws' := [(yH, .inl (G.2.2.1, 140, .inl (zB (uB hid ((10 * a) + i) true))))]) [3] rfl)⟩, w.2.1.F ht9⟩) w.2.1.2.2 dX6_looks_225
              · have q_76_36 : k < nA := q_nle (by omega) (by omega) c_76_35
                refine lv_iload_n hx hb dX6_looks_79 rfl (lv_at hl 3 rfl) ?_
                refine lv_if_eq (tgt := 93) hx hb dX6_looks_80 (by decide) (fun c_80_38 => ?_) (fun c_80_38 => ?_)
                · refine lv_bipush (v := nI 10) hx hb dX6_looks_93 (by decide) ?_
                  refine lv_iload hx hb dX6_looks_95 (lv_at hl 5 rfl) ?_
                  refine lv_imul hx hb dX6_looks_97 ?_
                  refine b_tp (show (nI 10) * (nI k) = nI (10 * k) from pk_mul 10 k) ?_
                  refine lv_iload_n hx hb dX6_looks_98 rfl (lv_at hl 2 rfl) ?_
                  refine lv_iadd hx hb dX6_looks_99 ?_
                  refine b_tp (show (nI (10 * k)) + (nI i) = nI ((10 * k) + i) from nI_add (10 * k) i) ?_
                  refine lv_istore (lv' := [(7, .int (nI ((10 * k) + i))), (0, .ref M), (1, .int (nI a)), (2, .int (nI i)), (3, .int (nI 0)), (5, .int (oS (fun k => 10 * k + i) o1)), (6, .int (nI k))]) hx hb dX6_looks_100 hl (by decide) rfl (fun ls hl => ?_)
                  refine lv_iload_n hx hb dX6_looks_102 rfl (lv_at hl 4 rfl) ?_
                  refine lv_if_eq (tgt := 116) hx hb dX6_looks_103 (by decide) (fun c_103_39 => ?_) (fun c_103_39 => ?_)
                  · refine lv_aload_n hx hb dX6_looks_116 rfl (lv_at hl 1 rfl) ?_
                    refine b_get X E w 0 rfl rfl 3 (by decide) iX6 (by decide +kernel) rfl rfl dX6_looks_117 ?_
                    refine lv_iload hx hb dX6_looks_120 (lv_at hl 6 rfl) ?_
                    refine b_iald X E w 1 rfl k rfl (by omega) (by first | decide | omega) dX6_looks_122 ?_
                    refine lv_iload_n hx hb dX6_looks_123 rfl (lv_at hl 4 rfl) ?_
                    refine lv_if_eq (tgt := 131) hx hb dX6_looks_124 (by decide) (fun c_124_40 => ?_) (fun c_124_40 => ?_)
                    · refine lv_iload_n hx hb dX6_looks_131 rfl (lv_at hl 2 rfl) ?_
                      refine lv_icmp_ne (tgt := 149) hx hb dX6_looks_132 (by decide) (fun c_132_41 => ?_) (fun c_132_41 => ?_)
                      · have g1 := nr_noP (p := (fun k => decide (fA k = nI a))) (b := (fun k => hid (10 * k + i))) (v := (fun k => v (10 * k + i))) (k := k) (decide_eq_false c_132_41)
                        refine lv_iconst (v := nI 0) hx hb dX6_looks_149 (by decide) ?_
                        refine lv_istore (lv' := [(8, .int (nI 0)), (7, .int (nI ((10 * k) + i))), (0, .ref M), (1, .int (nI a)), (2, .int (nI i)), (3, .int (nI 0)), (5, .int (oS (fun k => 10 * k + i) o1)), (6, .int (nI k))]) hx hb dX6_looks_150 hl (by decide) rfl (fun ls hl => ?_)
                        refine lv_iload hx hb dX6_looks_152 (lv_at hl 0 rfl) ?_
                        refine lv_if_eq (tgt := 191) hx hb dX6_looks_154 (by decide) (fun c_154_42 => ?_) (fun c_154_42 => ?_)
                        · refine lv_iload hx hb dX6_looks_191 (lv_at hl 6 rfl) ?_
                          refine lv_istore (lv' := [(5, .int (oS (fun k => 10 * k + i) o1)), (8, .int (nI 0)), (7, .int (nI ((10 * k) + i))), (0, .ref M), (1, .int (nI a)), (2, .int (nI i)), (3, .int (nI 0)), (6, .int (nI k))]) hx hb dX6_looks_193 hl (by decide) rfl (fun ls hl => ?_)
                          refine lv_iinc (v := nI (k + 1)) (lv' := [(6, .int (nI (k + 1))), (5, .int (oS (fun k => 10 * k + i) o1)), (8, .int (nI 0)), (7, .int (nI ((10 * k) + i))), (0, .ref M), (1, .int (nI a)), (2, .int (nI i)), (3, .int (nI 0))]) hx hb dX6_looks_195 hl (k := 7) rfl (nI_add k 1) (by decide) rfl (fun ls hl => ?_)
                          refine lv_goto (tgt := 59) hx hb dX6_looks_198 (by decide) ?_
                          exact ih59 _ _ _ ⟨k + 1, o1, (by omega), (by omega), ho.trans g1.symm, w, lv_sub hl [4, 5, 6, 7, 1, 0] rfl⟩
                        · exact absurd (by decide) c_154_42
                      · have hp := decide_eq_true c_132_41
                        refine lv_aload_n hx hb dX6_looks_135 rfl (lv_at hl 1 rfl) ?_
                        refine b_get X E w 0 rfl rfl 19 (by decide) iX6 (by decide +kernel) rfl rfl dX6_looks_136 ?_
                        refine lv_iload hx hb dX6_looks_139 (lv_at hl 0 rfl) ?_
                        refine b_zald X E w 3 rfl ((10 * k) + i) rfl (by omega) (by first | decide | omega) dX6_looks_141 ?_
                        refine b_tp (show zB hid ((10 * k) + i) = bI (hid ((10 * k) + i)) from rfl) ?_
                        refine lv_if_ne (tgt := 149) hx hb dX6_looks_142 (by decide) (fun c_142_43 => ?_) (fun c_142_43 => ?_)
                        · have q_142_44 : (hid ((10 * k) + i)) = true := bI_n0.mp c_142_43
                          have g1 := nr_noB (p := (fun k => decide (fA k = nI a))) (v := (fun k => v (10 * k + i))) (b := (fun k => hid (10 * k + i))) (k := k) q_142_44
                          refine lv_iconst (v := nI 0) hx hb dX6_looks_149 (by decide) ?_
                          refine lv_istore (lv' := [(8, .int (nI 0)), (7, .int (nI ((10 * k) + i))), (0, .ref M), (1, .int (nI a)), (2, .int (nI i)), (3, .int (nI 0)), (5, .int (oS (fun k => 10 * k + i) o1)), (6, .int (nI k))]) hx hb dX6_looks_150 hl (by decide) rfl (fun ls hl => ?_)
                          refine lv_iload hx hb dX6_looks_152 (lv_at hl 0 rfl) ?_
                          refine lv_if_eq (tgt := 191) hx hb dX6_looks_154 (by decide) (fun c_154_45 => ?_) (fun c_154_45 => ?_)
                          · refine lv_iload hx hb dX6_looks_191 (lv_at hl 6 rfl) ?_
                            refine lv_istore (lv' := [(5, .int (oS (fun k => 10 * k + i) o1)), (8, .int (nI 0)), (7, .int (nI ((10 * k) + i))), (0, .ref M), (1, .int (nI a)), (2, .int (nI i)), (3, .int (nI 0)), (6, .int (nI k))]) hx hb dX6_looks_193 hl (by decide) rfl (fun ls hl => ?_)
                            refine lv_iinc (v := nI (k + 1)) (lv' := [(6, .int (nI (k + 1))), (5, .int (oS (fun k => 10 * k + i) o1)), (8, .int (nI 0)), (7, .int (nI ((10 * k) + i))), (0, .ref M), (1, .int (nI a)), (2, .int (nI i)), (3, .int (nI 0))]) hx hb dX6_looks_195 hl (k := 7) rfl (nI_add k 1) (by decide) rfl (fun ls hl => ?_)
                            refine lv_goto (tgt := 59) hx hb dX6_looks_198 (by decide) ?_
                            exact ih59 _ _ _ ⟨k + 1, o1, (by omega), (by omega), ho.trans g1.symm, w, lv_sub hl [4, 5, 6, 7, 1, 0] rfl⟩
                          · exact absurd (by decide) c_154_45
                        · have q_142_44 : (hid ((10 * k) + i)) = false := bI_0.mp c_142_43
                          have hq := q_142_44
                          refine lv_iconst (v := nI 1) hx hb dX6_looks_145 (by decide) ?_
                          refine lv_goto (tgt := 150) hx hb dX6_looks_146 (by decide) ?_
                          refine lv_istore (lv' := [(8, .int (nI 1)), (7, .int (nI ((10 * k) + i))), (0, .ref M), (1, .int (nI a)), (2, .int (nI i)), (3, .int (nI 0)), (5, .int (oS (fun k => 10 * k + i) o1)), (6, .int (nI k))]) hx hb dX6_looks_150 hl (by decide) rfl (fun ls hl => ?_)
                          refine lv_iload hx hb dX6_looks_152 (lv_at hl 0 rfl) ?_
                          refine lv_if_eq (tgt := 191) hx hb dX6_looks_154 (by decide) (fun c_154_46 => ?_) (fun c_154_46 => ?_)
                          · exact absurd c_154_46 (by decide)
                          · refine lv_iload hx hb dX6_looks_157 (lv_at hl 6 rfl) ?_
                            refine lv_iconst (v := -1) hx hb dX6_looks_159 (by decide) ?_
                            refine lv_icmp_eq (tgt := 186) hx hb dX6_looks_160 (by decide) (fun c_160_47 => ?_) (fun c_160_47 => ?_)
                            · have on : o1 = none := oS_none c_160_47 (fun j hj => Nat.lt_trans (hsm j hj) (by decide))
                              have g1 := nr_first2 (p := (fun k => decide (fA k = nI a))) (b := (fun k => hid (10 * k + i))) (v := (fun k => v (10 * k + i))) hp hq (ho.symm.trans on)
                              refine lv_iload hx hb dX6_looks_186 (lv_at hl 1 rfl) ?_
                              refine lv_goto (tgt := 193) hx hb dX6_looks_188 (by decide) ?_
                              refine lv_istore (lv' := [(5, .int (nI ((10 * k) + i))), (8, .int (nI 1)), (7, .int (nI ((10 * k) + i))), (0, .ref M), (1, .int (nI a)), (2, .int (nI i)), (3, .int (nI 0)), (6, .int (nI k))]) hx hb dX6_looks_193 hl (by decide) rfl (fun ls hl => ?_)
                              refine lv_iinc (v := nI (k + 1)) (lv' := [(6, .int (nI (k + 1))), (5, .int (nI ((10 * k) + i))), (8, .int (nI 1)), (7, .int (nI ((10 * k) + i))), (0, .ref M), (1, .int (nI a)), (2, .int (nI i)), (3, .int (nI 0))]) hx hb dX6_looks_195 hl (k := 7) rfl (nI_add k 1) (by decide) rfl (fun ls hl => ?_)
                              refine lv_goto (tgt := 59) hx hb dX6_looks_198 (by decide) ?_
                              exact ih59 _ _ _ ⟨k + 1, some k, (by omega), (by omega), g1.symm, w, lv_sub hl [4, 5, 6, 7, 1, 0] rfl⟩
                            · obtain ⟨j, rfl⟩ := oS_some c_160_47
                              have hsl2 := hsm j rfl
                              have hl : lv_has ls 9 [(8, .int (nI 1)), (7, .int (nI ((10 * k) + i))), (0, .ref M), (1, .int (nI a)), (2, .int (nI i)), (3, .int (nI 0)), (5, .int (nI ((10 * j) + i))), (6, .int (nI k))] := hl
                              refine lv_aload_n hx hb dX6_looks_163 rfl (lv_at hl 2 rfl) ?_
                              refine b_get X E w 0 rfl rfl 18 (by decide) iX6 (by decide +kernel) rfl rfl dX6_looks_164 ?_
                              refine lv_iload hx hb dX6_looks_167 (lv_at hl 1 rfl) ?_
                              refine b_iald X E w 2 rfl ((10 * k) + i) rfl (by omega) (by first | decide | omega) dX6_looks_169 ?_
                              refine b_calli w (va_runS (As := [.int (v ((10 * k) + i))]) (rest := []) X (c_X6_size l hl0 G _ (x := v ((10 * k) + i)) ) (va_cwS 1 hts gX6_looks_X6_size rfl rfl rfl (by decide +kernel) ⟨Nat.le_of_ble_eq_true rfl, Nat.le_of_ble_eq_true rfl⟩) ⟨b_blind, (fun U9 hU9 hW9 => ⟨rfl, b_pre E Z0 w [] (by decide) rfl b_nil U9 hU9 hW9⟩)⟩ rfl rfl hl.1 rfl (lv_room (Nat.le_of_ble_eq_true rfl)) dX6_looks_170 ⟨Nat.le_of_ble_eq_true rfl, Nat.le_of_ble_eq_true rfl⟩) b_nil [] (fun _ => rfl) rfl (fun r170_48 u170_48 H locs hr170_48 w => ?_)
                              have w : bSt G vwCl [] s [(M, .inr (6, [.int (nI td), .int (nI nA), .int (nI nJ), .ref yA, .ref yJ, .ref yg, .int (nI dn), .ref yw, .ref yc, .ref yv, .int (nI snt), .int (nI jd), .ref yr, .int (nI bn), .ref yC, .ref yD, .ref yF, .ref yS, .ref yV, .ref yH, .int th])), (yA, .inl (G.2.1, 14, .inl fA)), (yV, .inl (G.2.1, 140, .inl v)), (yH, .inl (G.2.2.1, 140, .inl (zB hid)))] _ _ := w
                              subst hr170_48
                              refine lv_aload_n hx hb dX6_looks_173 rfl (lv_at hl 2 rfl) ?_
                              refine b_get X E w 0 rfl rfl 18 (by decide) iX6 (by decide +kernel) rfl rfl dX6_looks_174 ?_
                              refine lv_iload hx hb dX6_looks_177 (lv_at hl 6 rfl) ?_
                              refine b_iald X E w 2 rfl ((10 * j) + i) rfl (by omega) (by first | decide | omega) dX6_looks_179 ?_
                              refine b_calli w (va_runS (As := [.int (v ((10 * j) + i))]) (rest := [.int (b_abs (v ((10 * k) + i)))]) X (c_X6_size l hl0 G _ (x := v ((10 * j) + i)) ) (va_cwS 1 hts gX6_looks_X6_size rfl rfl rfl (by decide +kernel) ⟨Nat.le_of_ble_eq_true rfl, Nat.le_of_ble_eq_true rfl⟩) ⟨b_blind, (fun U9 hU9 hW9 => ⟨rfl, b_pre E Z0 w [] (by decide) rfl b_nil U9 hU9 hW9⟩)⟩ rfl rfl hl.1 rfl (lv_room (Nat.le_of_ble_eq_true rfl)) dX6_looks_180 ⟨Nat.le_of_ble_eq_true rfl, Nat.le_of_ble_eq_true rfl⟩) b_nil [] (fun _ => rfl) rfl (fun r180_49 u180_49 H locs hr180_49 w => ?_)
                              have w : bSt G vwCl [] s [(M, .inr (6, [.int (nI td), .int (nI nA), .int (nI nJ), .ref yA, .ref yJ, .ref yg, .int (nI dn), .ref yw, .ref yc, .ref yv, .int (nI snt), .int (nI jd), .ref yr, .int (nI bn), .ref yC, .ref yD, .ref yF, .ref yS, .ref yV, .ref yH, .int th])), (yA, .inl (G.2.1, 14, .inl fA)), (yV, .inl (G.2.1, 140, .inl v)), (yH, .inl (G.2.2.1, 140, .inl (zB hid)))] _ _ := w
                              subst hr180_49
                              refine lv_icmp_ge (tgt := 191) hx hb dX6_looks_183 (by decide) (fun c_183_50 => ?_) (fun c_183_50 => ?_)
                              · have g1 := nr_not2 (p := (fun k => decide (fA k = nI a))) (b := (fun k => hid (10 * k + i))) (v := (fun k => v (10 * k + i))) ho.symm c_183_50
                                refine lv_iload hx hb dX6_looks_191 (lv_at hl 6 rfl) ?_
                                refine lv_istore (lv' := [(5, .int (nI ((10 * j) + i))), (8, .int (nI 1)), (7, .int (nI ((10 * k) + i))), (0, .ref M), (1, .int (nI a)), (2, .int (nI i)), (3, .int (nI 0)), (6, .int (nI k))]) hx hb dX6_looks_193 hl (by decide) rfl (fun ls hl => ?_)
                                refine lv_iinc (v := nI (k + 1)) (lv' := [(6, .int (nI (k + 1))), (5, .int (nI ((10 * j) + i))), (8, .int (nI 1)), (7, .int (nI ((10 * k) + i))), (0, .ref M), (1, .int (nI a)), (2, .int (nI i)), (3, .int (nI 0))]) hx hb dX6_looks_195 hl (k := 7) rfl (nI_add k 1) (by decide) rfl (fun ls hl => ?_)
                                refine lv_goto (tgt := 59) hx hb dX6_looks_198 (by decide) ?_
                                exact ih59 _ _ _ ⟨k + 1, some j, (by omega), (by omega), ho.trans g1.symm, w, lv_sub hl [4, 5, 6, 7, 1, 0] rfl⟩
                              · have g1 := nr_less2 (p := (fun k => decide (fA k = nI a))) (b := (fun k => hid (10 * k + i))) (v := (fun k => v (10 * k + i))) hp hq ho.symm c_183_50
                                refine lv_iload hx hb dX6_looks_186 (lv_at hl 1 rfl) ?_
                                refine lv_goto (tgt := 193) hx hb dX6_looks_188 (by decide) ?_
                                refine lv_istore (lv' := [(5, .int (nI ((10 * k) + i))), (8, .int (nI 1)), (7, .int (nI ((10 * k) + i))), (0, .ref M), (1, .int (nI a)), (2, .int (nI i)), (3, .int (nI 0)), (6, .int (nI k))]) hx hb dX6_looks_193 hl (by decide) rfl (fun ls hl => ?_)
                                refine lv_iinc (v := nI (k + 1)) (lv' := [(6, .int (nI (k + 1))), (5, .int (nI ((10 * k) + i))), (8, .int (nI 1)), (7, .int (nI ((10 * k) + i))), (0, .ref M), (1, .int (nI a)), (2, .int (nI i)), (3, .int (nI 0))]) hx hb dX6_looks_195 hl (k := 7) rfl (nI_add k 1) (by decide) rfl (fun ls hl => ?_)
                                refine lv_goto (tgt := 59) hx hb dX6_looks_198 (by decide) ?_
                                exact ih59 _ _ _ ⟨k + 1, some k, (by omega), (by omega), g1.symm, w, lv_sub hl [4, 5, 6, 7, 1, 0] rfl⟩
                    · exact absurd (by decide) c_124_40
                  · exact absurd (by decide) c_103_39
                · exact absurd (by decide) c_80_38
            · exact absurd (by decide) c_62_34
        · have q_48_33 : ¬ b1 (hid (10 * a + i)) + cH (fun k => decide (fA k = nI a)) (fun k => hid (10 * k + i)) nA = 1 := fun h9 => c_48_32 ((nI_eq (by omega) (by omega)).mpr h9)
          have hE : pR (fun k => decide (fA k = nI a)) (fun k => hid (10 * k + i)) (fun k => v (10 * k + i)) nA (10 * a + i) (hid (10 * a + i)) (fun k => 10 * k + i) = none := pR_n1 q_48_33
          refine lv_iconst (v := nI 0) hx hb dX6_looks_51 (by decide) ?_
          have w := b_wide [yH] b_nil w
          exact W.zret (v := nI 0) hx hb hr rfl (fun t9 ht9 hW9 => ⟨⟨nI 0, (), rfl, bI_zero (by rw [hE]; rfl), by show va_P G.1 vwCl _ t9.heap; rw [ht9]; exact b_cg (by rw [hE]; rfl) (w.1.sub (ws' := [(yH, .inl (G.2.2.1, 140, .inl (zB hid)))]) [3] rfl)⟩, w.2.1.F ht9⟩) w.2.1.2.2 dX6_looks_52
set_option maxHeartbeats 4000000 in
set_option maxRecDepth 100000 in
theorem c_X6_looks_J (l : Launch) (hl0 : l.stackTraces = false) (G : bG) (sz : Nat) (M yA yJ yg yw yc yv yr yC yD yF yS yV yH td nA nJ dn snt jd bn : Nat) (th : Int32) (fJ : Nat → Int32) (v : Nat → Int32) (hid : Nat → Bool) (a i : Nat) (hnA : nA ≤ 14) (hnJ : nJ ≤ 10) (ha : a < nA) (hi : i < nJ) (hvs : v (10 * a + i) = MIS → sJ fJ nJ v a i = MIS) : Met l yX6_looks wsX6_looks ({ frames := 1, cells := 0, slots := 0, locals := 28 }) (va_Pc [.ref M, .int (nI a), .int (nI i), .int (nI 1)] (bPre G vwCl bNW bSW sz [(M, .inr (6, [.int (nI td), .int (nI nA), .int (nI nJ), .ref yA, .ref yJ, .ref yg, .int (nI dn), .ref yw, .ref yc, .ref yv, .int (nI snt), .int (nI jd), .ref yr, .int (nI bn), .ref yC, .ref yD, .ref yF, .ref yS, .ref yV, .ref yH, .int th])), (yJ, .inl (G.2.1, 10, .inl fJ)), (yV, .inl (G.2.1, 140, .inl v)), (yH, .inl (G.2.2.1, 140, .inl (zB hid)))] [yH])) (va_Qi (fun (r : Int32) (_ : Unit) => r = bI ((pR (fun k => decide (fJ k = nI i)) (fun k => hid (10 * a + k)) (fun k => v (10 * a + k)) nJ (10 * a + i) (hid (10 * a + i)) (fun k => 10 * a + k)).isSome)) (fun (_ : Unit) (tS : State) => va_P G.1 vwCl [(yH, .inl (G.2.2.1, 140, .inl (zB (uO hid (pR (fun k => decide (fJ k = nI i)) (fun k => hid (10 * a + k)) (fun k => v (10 * a + k)) nJ (10 * a + i) (hid (10 * a + i)) (fun k => 10 * a + k))))))] tS.heap) (Aw [yH] sz)) 0 0 (Aw [yH] sz) := by
  refine Met.ofW (cc := cX6_looks) (maxL := 9) (ret := (some .boolean)) (by decide) rfl ?_
  intro p e s m args below meth c s₁ B hml hv
  obtain ⟨rfl, hsz, hP, hD, E, Z⟩ := hv
  have hts := atoms_spec (ws := wsX6_looks) B.pre
  have hown : s.vm.findClass RX6 = some m.cls := findClass_of_methodNamed B.named
  have X : CallFix p m c cX6_looks 9 s _ wsX6_looks RX6 := ⟨B.exec, B.bytes, hml, hown, hts⟩
  have hx := B.exec
  have hb := B.bytes
  have hr := B.returns
  have hlocks := B.notSynchronized
  subst hsz
  have w : bSt G vwCl [] s [(M, .inr (6, [.int (nI td), .int (nI nA), .int (nI nJ), .ref yA, .ref yJ, .ref yg, .int (nI dn), .ref yw, .ref yc, .ref yv, .int (nI snt), .int (nI jd), .ref yr, .int (nI bn), .ref yC, .ref yD, .ref yF, .ref yS, .ref yV, .ref yH, .int th])), (yJ, .inl (G.2.1, 10, .inl fJ)), (yV, .inl (G.2.1, 140, .inl v)), (yH, .inl (G.2.2.1, 140, .inl (zB hid)))] s.heap [] := ⟨hP, va_S.rf, hD⟩
  have Z0 : bZ [] s := ⟨Z.1.narrow (fun q h => h.elim (fun h => nomatch h) Or.inr), Z.2.narrow (fun q h => h.elim (fun h => nomatch h) Or.inr)⟩
  have iX6 : ∀ w ∈ wsX60, w ∈ wsX6_looks := by decide +kernel
  have hl := lv_entry ([.ref M, .int (nI a), .int (nI i), .int (nI 1)]) (n := 9) (Nat.le_of_ble_eq_true rfl)
  rw [lg_entry_eq]
  generalize (lg_sl ([.ref M, .int (nI a), .int (nI i), .int (nI 1)]) ++ List.replicate (9 - (lg_sl ([.ref M, .int (nI a), .int (nI i), .int (nI 1)])).length) Slot.unset).toArray = ls at hl ⊢
  have hl : lv_has ls 9 [(0, .ref M), (1, .int (nI a)), (2, .int (nI i)), (3, .int (nI 1))] := hl
  have hcl := cH_le (p := (fun k => decide (fJ k = nI i))) (b := (fun k => hid (10 * a + k))) nJ
  have hb1 := b1_le (hid (10 * a + i))
  refine lv_aload_n hx hb dX6_looks_0 rfl (lv_at hl 0 rfl) ?_
  refine lv_iload_n hx hb dX6_looks_1 rfl (lv_at hl 1 rfl) ?_
  refine lv_iload_n hx hb dX6_looks_2 rfl (lv_at hl 2 rfl) ?_
  refine lv_iload_n hx hb dX6_looks_3 rfl (lv_at hl 3 rfl) ?_
  refine b_calli w (va_runV (As := [.int (nI a), .int (nI i), .int (nI 1)]) (rest := []) X (c_X6_sumOf_J l hl0 G _ (M := M) (a := a) (i := i) (td := td) (nA := nA) (nJ := nJ) (yA := yA) (yJ := yJ) (yg := yg) (dn := dn) (yw := yw) (yc := yc) (yv := yv) (snt := snt) (jd := jd) (yr := yr) (bn := bn) (yC := yC) (yD := yD) (yF := yF) (yS := yS) (yV := yV) (yH := yH) (th := th) (fJ := fJ) (v := v) (hnA := (by first | assumption | omega)) (hnJ := (by first | assumption | omega)) (ha := (by first | assumption | omega)) (hi := (by first | assumption | omega))) (cwV 3 hts gX6_looks_X6_sumOf rfl rfl rfl (by decide +kernel) ⟨Nat.le_of_ble_eq_true rfl, Nat.le_of_ble_eq_true rfl⟩) ⟨b_blind, b_recv E w (ci := 6) (q0 := 0) rfl rfl, (fun U9 hU9 hW9 => ⟨rfl, b_pre E Z0 w [0, 1, 2] (by decide) rfl b_nil U9 hU9 hW9⟩)⟩ rfl rfl hl.1 rfl (lv_room (Nat.le_of_ble_eq_true rfl)) dX6_looks_4 ⟨Nat.le_of_ble_eq_true rfl, Nat.le_of_ble_eq_true rfl⟩) b_nil [] (fun _ => rfl) rfl (fun r4_26 u4_26 H locs hr4_26 w => ?_)
  have w : bSt G vwCl [] s [(M, .inr (6, [.int (nI td), .int (nI nA), .int (nI nJ), .ref yA, .ref yJ, .ref yg, .int (nI dn), .ref yw, .ref yc, .ref yv, .int (nI snt), .int (nI jd), .ref yr, .int (nI bn), .ref yC, .ref yD, .ref yF, .ref yS, .ref yV, .ref yH, .int th])), (yJ, .inl (G.2.1, 10, .inl fJ)), (yV, .inl (G.2.1, 140, .inl v)), (yH, .inl (G.2.2.1, 140, .inl (zB hid)))] _ _ := w
  subst hr4_26
  refine lv_ldc (v := MIS) hx hb hown (hts (.constant RX6 86 (-2000000001)) (by decide +kernel)) dX6_looks_7 ?_
  refine lv_icmp_eq (tgt := 32) hx hb dX6_looks_9 (by decide) (fun c_9_27 => ?_) (fun c_9_27 => ?_)
  · have hE : pR (fun k => decide (fJ k = nI i)) (fun k => hid (10 * a + k)) (fun k => v (10 * a + k)) nJ (10 * a + i) (hid (10 * a + i)) (fun k => 10 * a + k) = none := pR_n2 c_9_27
    refine lv_iconst (v := nI 0) hx hb dX6_looks_32 (by decide) ?_
    refine lv_istore (lv' := [(4, .int (nI 0)), (0, .ref M), (1, .int (nI a)), (2, .int (nI i)), (3, .int (nI 1))]) hx hb dX6_looks_33 hl (by decide) rfl (fun ls hl => ?_)
    refine lv_iload hx hb dX6_looks_35 (lv_at hl 0 rfl) ?_
    refine lv_if_eq (tgt := 51) hx hb dX6_looks_37 (by decide) (fun c_37_28 => ?_) (fun c_37_28 => ?_)
    · refine lv_iconst (v := nI 0) hx hb dX6_looks_51 (by decide) ?_
      have w := b_wide [yH] b_nil w
      exact W.zret (v := nI 0) hx hb hr rfl (fun t9 ht9 hW9 => ⟨⟨nI 0, (), rfl, bI_zero (by rw [hE]; rfl), by show va_P G.1 vwCl _ t9.heap; rw [ht9]; exact b_cg (by rw [hE]; rfl) (w.1.sub (ws' := [(yH, .inl (G.2.2.1, 140, .inl (zB hid)))]) [3] rfl)⟩, w.2.1.F ht9⟩) w.2.1.2.2 dX6_looks_52
    · exact absurd (by decide) c_37_28
  · have c9 := c_9_27
    refine lv_aload_n hx hb dX6_looks_12 rfl (lv_at hl 0 rfl) ?_
    refine b_get X E w 0 rfl rfl 18 (by decide) iX6 (by decide +kernel) rfl rfl dX6_looks_13 ?_
    refine lv_bipush (v := nI 10) hx hb dX6_looks_16 (by decide) ?_
    refine lv_iload_n hx hb dX6_looks_18 rfl (lv_at hl 1 rfl) ?_
    refine lv_imul hx hb dX6_looks_19 ?_
    refine b_tp (show (nI 10) * (nI a) = nI (10 * a) from pk_mul 10 a) ?_
    refine lv_iload_n hx hb dX6_looks_20 rfl (lv_at hl 2 rfl) ?_
    refine lv_iadd hx hb dX6_looks_21 ?_
    refine b_tp (show (nI (10 * a)) + (nI i) = nI ((10 * a) + i) from nI_add (10 * a) i) ?_
    refine b_iald X E w 2 rfl ((10 * a) + i) rfl (by omega) (by first | decide | omega) dX6_looks_22 ?_
    refine lv_ldc (v := MIS) hx hb hown (hts (.constant RX6 86 (-2000000001)) (by decide +kernel)) dX6_looks_23 ?_
    refine lv_icmp_eq (tgt := 32) hx hb dX6_looks_25 (by decide) (fun c_25_29 => ?_) (fun c_25_29 => ?_)
    · exact absurd (hvs c_25_29) c9
    · refine lv_iconst (v := nI 1) hx hb dX6_looks_28 (by decide) ?_
      refine lv_goto (tgt := 33) hx hb dX6_looks_29 (by decide) ?_
      refine lv_istore (lv' := [(4, .int (nI 1)), (0, .ref M), (1, .int (nI a)), (2, .int (nI i)), (3, .int (nI 1))]) hx hb dX6_looks_33 hl (by decide) rfl (fun ls hl => ?_)
      refine lv_iload hx hb dX6_looks_35 (lv_at hl 0 rfl) ?_
      refine lv_if_eq (tgt := 51) hx hb dX6_looks_37 (by decide) (fun c_37_30 => ?_) (fun c_37_30 => ?_)
      · exact absurd c_37_30 (by decide)
      · refine lv_aload_n hx hb dX6_looks_40 rfl (lv_at hl 1 rfl) ?_
        refine lv_iload_n hx hb dX6_looks_41 rfl (lv_at hl 2 rfl) ?_
        refine lv_iload_n hx hb dX6_looks_42 rfl (lv_at hl 3 rfl) ?_
        refine lv_iload_n hx hb dX6_looks_43 rfl (lv_at hl 4 rfl) ?_
        refine b_calli w (va_runV (As := [.int (nI a), .int (nI i), .int (nI 1)]) (rest := []) X (c_X6_hides_J l hl0 G _ (M := M) (a := a) (i := i) (td := td) (nA := nA) (nJ := nJ) (yA := yA) (yJ := yJ) (yg := yg) (dn := dn) (yw := yw) (yc := yc) (yv := yv) (snt := snt) (jd := jd) (yr := yr) (bn := bn) (yC := yC) (yD := yD) (yF := yF) (yS := yS) (yV := yV) (yH := yH) (th := th) (fJ := fJ) (hid := hid) (hnA := (by first | assumption | omega)) (hnJ := (by first | assumption | omega)) (ha := (by first | assumption | omega)) (hi := (by first | assumption | omega))) (cwV 3 hts gX6_looks_X6_hides rfl rfl rfl (by decide +kernel) ⟨Nat.le_of_ble_eq_true rfl, Nat.le_of_ble_eq_true rfl⟩) ⟨b_blind, b_recv E w (ci := 6) (q0 := 0) rfl rfl, (fun U9 hU9 hW9 => ⟨rfl, b_pre E Z0 w [0, 1, 3] (by decide) rfl b_nil U9 hU9 hW9⟩)⟩ rfl rfl hl.1 rfl (lv_room (Nat.le_of_ble_eq_true rfl)) dX6_looks_44 ⟨Nat.le_of_ble_eq_true rfl, Nat.le_of_ble_eq_true rfl⟩) b_nil [] (fun _ => rfl) rfl (fun r44_31 u44_31 H locs hr44_31 w => ?_)
        have w : bSt G vwCl [] s [(M, .inr (6, [.int (nI td), .int (nI nA), .int (nI nJ), .ref yA, .ref yJ, .ref yg, .int (nI dn), .ref yw, .ref yc, .ref yv, .int (nI snt), .int (nI jd), .ref yr, .int (nI bn), .ref yC, .ref yD, .ref yF, .ref yS, .ref yV, .ref yH, .int th])), (yJ, .inl (G.2.1, 10, .inl fJ)), (yV, .inl (G.2.1, 140, .inl v)), (yH, .inl (G.2.2.1, 140, .inl (zB hid)))] _ _ := w
        subst hr44_31
        refine lv_iconst (v := nI 1) hx hb dX6_looks_47 (by decide) ?_
        refine lv_icmp_eq (tgt := 53) hx hb dX6_looks_48 (by decide) (fun c_48_32 => ?_) (fun c_48_32 => ?_)
        · have q_48_33 : b1 (hid (10 * a + i)) + cH (fun k => decide (fJ k = nI i)) (fun k => hid (10 * a + k)) nJ = 1 := (nI_eq (by omega) (by omega)).mp c_48_32
          have c48 := q_48_33
          refine lv_iconst (v := -1) hx hb dX6_looks_53 (by decide) ?_
          refine lv_istore (lv' := [(5, .int (-1)), (4, .int (nI 1)), (0, .ref M), (1, .int (nI a)), (2, .int (nI i)), (3, .int (nI 1))]) hx hb dX6_looks_54 hl (by decide) rfl (fun ls hl => ?_)
          refine lv_iconst (v := nI 0) hx hb dX6_looks_56 (by decide) ?_
          refine lv_istore (lv' := [(6, .int (nI 0)), (5, .int (-1)), (4, .int (nI 1)), (0, .ref M), (1, .int (nI a)), (2, .int (nI i)), (3, .int (nI 1))]) hx hb dX6_looks_57 hl (by decide) rfl (fun ls hl => ?_)
          refine b_loop (pc := 59) (st := []) (fun (fuel : Nat) (H : Heap) (locs : List Loc) (ls : Array Slot) => ∃ (k : Nat) (o1 : Option Nat), (k ≤ nJ) ∧ (nJ + 1 ≤ k + fuel) ∧ (o1 = nr (fun k => decide (fJ k = nI i)) (fun k => hid (10 * a + k)) (fun k => v (10 * a + k)) k) ∧ bSt G vwCl [] s [(M, .inr (6, [.int (nI td), .int (nI nA), .int (nI nJ), .ref yA, .ref yJ, .ref yg, .int (nI dn), .ref yw, .ref yc, .ref yv, .int (nI snt), .int (nI jd), .ref yr, .int (nI bn), .ref yC, .ref yD, .ref yF, .ref yS, .ref yV, .ref yH, .int th])), (yJ, .inl (G.2.1, 10, .inl fJ)), (yV, .inl (G.2.1, 140, .inl v)), (yH, .inl (G.2.2.1, 140, .inl (zB hid)))] H locs ∧ lv_has ls 9 [(0, .ref M), (1, .int (nI a)), (2, .int (nI i)), (3, .int (nI 1)), (5, .int (oS (fun k => 10 * a + k) o1)), (6, .int (nI k))]) (fun H locs ls h9 => ?_) (fun fuel H locs ls hI ih59 => ?_) (nJ + 1) ⟨0, none, (by omega), (by omega), rfl, w, lv_sub hl [3, 4, 5, 6, 1, 0] rfl⟩
          · obtain ⟨k, o1, hk, hf, ho, w, hl⟩ := h9
            omega
          · obtain ⟨k, o1, hk, hf, ho, w, hl⟩ := hI
            have hsm : ∀ j, o1 = some j → (10 * a) + j < 140 := fun j hj => by
              obtain ⟨j1, j2, -⟩ := nr_some (ho.symm.trans hj)
              omega
            refine lv_iload hx hb dX6_looks_59 (lv_at hl 5 rfl) ?_
            refine lv_iload_n hx hb dX6_looks_61 rfl (lv_at hl 3 rfl) ?_
            refine lv_if_eq (tgt := 72) hx hb dX6_looks_62 (by decide) (fun c_62_34 => ?_) (fun c_62_34 => ?_)
            · exact absurd c_62_34 (by decide)
            · refine lv_aload_n hx hb dX6_looks_65 rfl (lv_at hl 0 rfl) ?_
              refine b_get X E w 0 rfl rfl 2 (by decide) iX6 (by decide +kernel) rfl rfl dX6_looks_66 ?_
              refine lv_goto (tgt := 76) hx hb dX6_looks_69 (by decide) ?_
              refine lv_icmp_ge (tgt := 201) hx hb dX6_looks_76 (by decide) (fun c_76_35 => ?_) (fun c_76_35 => ?_)
              · have q_76_36 : nJ ≤ k := q_le (by omega) (by omega) c_76_35
                have ek : k = nJ := by omega
                rw [ek] at ho
                have hE : pR (fun k => decide (fJ k = nI i)) (fun k => hid (10 * a + k)) (fun k => v (10 * a + k)) nJ (10 * a + i) (hid (10 * a + i)) (fun k => 10 * a + k) = some (oN (fun k => 10 * a + k) (10 * a + i) (nr (fun k => decide (fJ k = nI i)) (fun k => hid (10 * a + k)) (fun k => v (10 * a + k)) nJ)) := pR_y c48 c9
                refine lv_aload_n hx hb dX6_looks_201 rfl (lv_at hl 0 rfl) ?_
                refine b_get X E w 0 rfl rfl 19 (by decide) iX6 (by decide +kernel) rfl rfl dX6_looks_202 ?_
                refine lv_iload hx hb dX6_looks_205 (lv_at hl 4 rfl) ?_
                refine lv_iconst (v := -1) hx hb dX6_looks_207 (by decide) ?_
                refine lv_icmp_ne (tgt := 220) hx hb dX6_looks_208 (by decide) (fun c_208_37 => ?_) (fun c_208_37 => ?_)
                · obtain ⟨j, rfl⟩ := oS_some c_208_37
                  have hsl2 : (10 * a) + j < 140 := by
                    obtain ⟨j1, j2, -⟩ := nr_some ho.symm
                    omega
                  rw [← ho] at hE
                  have hl : lv_has ls 9 [(0, .ref M), (1, .int (nI a)), (2, .int (nI i)), (3, .int (nI 1)), (5, .int (nI ((10 * a) + j))), (6, .int (nI k))] := hl
                  refine lv_iload hx hb dX6_looks_220 (lv_at hl 4 rfl) ?_
                  refine lv_iconst (v := nI 1) hx hb dX6_looks_222 (by decide) ?_
                  refine b_tp (show nI 1 = bI true from rfl) ?_
                  have w := b_wide [yH] b_nil w
                  refine b_zast X E w (Or.inl (List.mem_of_getElem? (i := 0) rfl)) 3 rfl ((10 * a) + j) rfl (by omega) (by first | decide | omega) (bI_01 _) dX6_looks_223 (fun H locs w => ?_)
                  rw [zB_upd] at w
                  have w : bSt G vwCl [yH] s [(M, .inr (6, [.int (nI td), .int (nI nA), .int (nI nJ), .ref yA, .ref yJ, .ref yg, .int (nI dn), .ref yw, .ref yc, .ref yv, .int (nI snt), .int (nI jd), .ref yr, .int (nI bn), .ref yC, .ref yD, .ref yF, .ref yS, .ref yV, .ref yH, .int th])), (yJ, .inl (G.2.1, 10, .inl fJ)), (yV, .inl (G.2.1, 140, .inl v)), (yH, .inl (G.2.2.1, 140, .inl (zB (uB hid ((10 * a) + j) true))))] _ _ := w
                  refine lv_iconst (v := nI 1) hx hb dX6_looks_224 (by decide) ?_
                  exact W.zret (v := nI 1) hx hb hr rfl (fun t9 ht9 hW9 => ⟨⟨nI 1, (), rfl, bI_one (by rw [hE]; rfl), by show va_P G.1 vwCl _ t9.heap; rw [ht9]; exact b_cg (by rw [hE]; rfl) (w.1.sub (ws' := [(yH, .inl (G.2.2.1, 140, .inl (zB (uB hid ((10 * a) + j) true))))]) [3] rfl)⟩, w.2.1.F ht9⟩) w.2.1.2.2 dX6_looks_225
                · have on : o1 = none := oS_none c_208_37 (fun j hj => by
                    obtain ⟨j1, j2, -⟩ := nr_some (ho.symm.trans hj)
                    show (10 * a) + j < 2 ^ 31
                    omega)
                  rw [← ho, on] at hE
                  refine lv_bipush (v := nI 10) hx hb dX6_looks_211 (by decide) ?_
                  refine lv_iload_n hx hb dX6_looks_213 rfl (lv_at hl 1 rfl) ?_
                  refine lv_imul hx hb dX6_looks_214 ?_
                  refine b_tp (show (nI 10) * (nI a) = nI (10 * a) from pk_mul 10 a) ?_
                  refine lv_iload_n hx hb dX6_looks_215 rfl (lv_at hl 2 rfl) ?_
                  refine lv_iadd hx hb dX6_looks_216 ?_
                  refine b_tp (show (nI (10 * a)) + (nI i) = nI ((10 * a) + i) from nI_add (10 * a) i) ?_
                  refine lv_goto (tgt := 222) hx hb dX6_looks_217 (by decide) ?_
                  refine lv_iconst (v := nI 1) hx hb dX6_looks_222 (by decide) ?_
                  refine b_tp (show nI 1 = bI true from rfl) ?_
                  have w := b_wide [yH] b_nil w
                  refine b_zast X E w (Or.inl (List.mem_of_getElem? (i := 0) rfl)) 3 rfl ((10 * a) + i) rfl (by omega) (by first | decide | omega) (bI_01 _) dX6_looks_223 (fun H locs w => ?_)
                  rw [zB_upd] at w
                  have w : bSt G vwCl [yH] s [(M, .inr (6, [.int (nI td), .int (nI nA), .int (nI nJ), .ref yA, .ref yJ, .ref yg, .int (nI dn), .ref yw, .ref yc, .ref yv, .int (nI snt), .int (nI jd), .ref yr, .int (nI bn), .ref yC, .ref yD, .ref yF, .ref yS, .ref yV, .ref yH, .int th])), (yJ, .inl (G.2.1, 10, .inl fJ)), (yV, .inl (G.2.1, 140, .inl v)), (yH, .inl (G.2.2.1, 140, .inl (zB (uB hid ((10 * a) + i) true))))] _ _ := w
                  refine lv_iconst (v := nI 1) hx hb dX6_looks_224 (by decide) ?_
                  exact W.zret (v := nI 1) hx hb hr rfl (fun t9 ht9 hW9 => ⟨⟨nI 1, (), rfl, bI_one (by rw [hE]; rfl), by show va_P G.1 vwCl _ t9.heap; rw [ht9]; exact b_cg (by rw [hE]; rfl) (w.1.sub (ws' := [(yH, .inl (G.2.2.1, 140, .inl (zB (uB hid ((10 * a) + i) true))))]) [3] rfl)⟩, w.2.1.F ht9⟩) w.2.1.2.2 dX6_looks_225
              · have q_76_36 : k < nJ := q_nle (by omega) (by omega) c_76_35
                refine lv_iload_n hx hb dX6_looks_79 rfl (lv_at hl 3 rfl) ?_
                refine lv_if_eq (tgt := 93) hx hb dX6_looks_80 (by decide) (fun c_80_38 => ?_) (fun c_80_38 => ?_)
                · exact absurd c_80_38 (by decide)
                · refine lv_bipush (v := nI 10) hx hb dX6_looks_83 (by decide) ?_
                  refine lv_iload_n hx hb dX6_looks_85 rfl (lv_at hl 1 rfl) ?_
                  refine lv_imul hx hb dX6_looks_86 ?_
                  refine b_tp (show (nI 10) * (nI a) = nI (10 * a) from pk_mul 10 a) ?_
                  refine lv_iload hx hb dX6_looks_87 (lv_at hl 5 rfl) ?_
                  refine lv_iadd hx hb dX6_looks_89 ?_
                  refine b_tp (show (nI (10 * a)) + (nI k) = nI ((10 * a) + k) from nI_add (10 * a) k) ?_
                  refine lv_goto (tgt := 100) hx hb dX6_looks_90 (by decide) ?_
                  refine lv_istore (lv' := [(7, .int (nI ((10 * a) + k))), (0, .ref M), (1, .int (nI a)), (2, .int (nI i)), (3, .int (nI 1)), (5, .int (oS (fun k => 10 * a + k) o1)), (6, .int (nI k))]) hx hb dX6_looks_100 hl (by decide) rfl (fun ls hl => ?_)
                  refine lv_iload_n hx hb dX6_looks_102 rfl (lv_at hl 4 rfl) ?_
                  refine lv_if_eq (tgt := 116) hx hb dX6_looks_103 (by decide) (fun c_103_39 => ?_) (fun c_103_39 => ?_)
                  · exact absurd c_103_39 (by decide)
                  · refine lv_aload_n hx hb dX6_looks_106 rfl (lv_at hl 1 rfl) ?_
                    refine b_get X E w 0 rfl rfl 4 (by decide) iX6 (by decide +kernel) rfl rfl dX6_looks_107 ?_
                    refine lv_iload hx hb dX6_looks_110 (lv_at hl 6 rfl) ?_
                    refine b_iald X E w 1 rfl k rfl (by omega) (by first | decide | omega) dX6_looks_112 ?_
                    refine lv_goto (tgt := 123) hx hb dX6_looks_113 (by decide) ?_
                    refine lv_iload_n hx hb dX6_looks_123 rfl (lv_at hl 4 rfl) ?_
                    refine lv_if_eq (tgt := 131) hx hb dX6_looks_124 (by decide) (fun c_124_40 => ?_) (fun c_124_40 => ?_)
                    · exact absurd c_124_40 (by decide)
                    · refine lv_iload_n hx hb dX6_looks_127 rfl (lv_at hl 3 rfl) ?_
                      refine lv_goto (tgt := 132) hx hb dX6_looks_128 (by decide) ?_
                      refine lv_icmp_ne (tgt := 149) hx hb dX6_looks_132 (by decide) (fun c_132_41 => ?_) (fun c_132_41 => ?_)
                      · have g1 := nr_noP (p := (fun k => decide (fJ k = nI i))) (b := (fun k => hid (10 * a + k))) (v := (fun k => v (10 * a + k))) (k := k) (decide_eq_false c_132_41)
                        refine lv_iconst (v := nI 0) hx hb dX6_looks_149 (by decide) ?_
                        refine lv_istore (lv' := [(8, .int (nI 0)), (7, .int (nI ((10 * a) + k))), (0, .ref M), (1, .int (nI a)), (2, .int (nI i)), (3, .int (nI 1)), (5, .int (oS (fun k => 10 * a + k) o1)), (6, .int (nI k))]) hx hb dX6_looks_150 hl (by decide) rfl (fun ls hl => ?_)
                        refine lv_iload hx hb dX6_looks_152 (lv_at hl 0 rfl) ?_
                        refine lv_if_eq (tgt := 191) hx hb dX6_looks_154 (by decide) (fun c_154_42 => ?_) (fun c_154_42 => ?_)
                        · refine lv_iload hx hb dX6_looks_191 (lv_at hl 6 rfl) ?_
                          refine lv_istore (lv' := [(5, .int (oS (fun k => 10 * a + k) o1)), (8, .int (nI 0)), (7, .int (nI ((10 * a) + k))), (0, .ref M), (1, .int (nI a)), (2, .int (nI i)), (3, .int (nI 1)), (6, .int (nI k))]) hx hb dX6_looks_193 hl (by decide) rfl (fun ls hl => ?_)
                          refine lv_iinc (v := nI (k + 1)) (lv' := [(6, .int (nI (k + 1))), (5, .int (oS (fun k => 10 * a + k) o1)), (8, .int (nI 0)), (7, .int (nI ((10 * a) + k))), (0, .ref M), (1, .int (nI a)), (2, .int (nI i)), (3, .int (nI 1))]) hx hb dX6_looks_195 hl (k := 7) rfl (nI_add k 1) (by decide) rfl (fun ls hl => ?_)
                          refine lv_goto (tgt := 59) hx hb dX6_looks_198 (by decide) ?_
                          exact ih59 _ _ _ ⟨k + 1, o1, (by omega), (by omega), ho.trans g1.symm, w, lv_sub hl [4, 5, 6, 7, 1, 0] rfl⟩
                        · exact absurd (by decide) c_154_42
                      · have hp := decide_eq_true c_132_41
                        refine lv_aload_n hx hb dX6_looks_135 rfl (lv_at hl 1 rfl) ?_
                        refine b_get X E w 0 rfl rfl 19 (by decide) iX6 (by decide +kernel) rfl rfl dX6_looks_136 ?_
                        refine lv_iload hx hb dX6_looks_139 (lv_at hl 0 rfl) ?_
                        refine b_zald X E w 3 rfl ((10 * a) + k) rfl (by omega) (by first | decide | omega) dX6_looks_141 ?_
                        refine b_tp (show zB hid ((10 * a) + k) = bI (hid ((10 * a) + k)) from rfl) ?_
                        refine lv_if_ne (tgt := 149) hx hb dX6_looks_142 (by decide) (fun c_142_43 => ?_) (fun c_142_43 => ?_)
                        · have q_142_44 : (hid ((10 * a) + k)) = true := bI_n0.mp c_142_43
                          have g1 := nr_noB (p := (fun k => decide (fJ k = nI i))) (v := (fun k => v (10 * a + k))) (b := (fun k => hid (10 * a + k))) (k := k) q_142_44
                          refine lv_iconst (v := nI 0) hx hb dX6_looks_149 (by decide) ?_
                          refine lv_istore (lv' := [(8, .int (nI 0)), (7, .int (nI ((10 * a) + k))), (0, .ref M), (1, .int (nI a)), (2, .int (nI i)), (3, .int (nI 1)), (5, .int (oS (fun k => 10 * a + k) o1)), (6, .int (nI k))]) hx hb dX6_looks_150 hl (by decide) rfl (fun ls hl => ?_)
                          refine lv_iload hx hb dX6_looks_152 (lv_at hl 0 rfl) ?_
                          refine lv_if_eq (tgt := 191) hx hb dX6_looks_154 (by decide) (fun c_154_45 => ?_) (fun c_154_45 => ?_)
                          · refine lv_iload hx hb dX6_looks_191 (lv_at hl 6 rfl) ?_
                            refine lv_istore (lv' := [(5, .int (oS (fun k => 10 * a + k) o1)), (8, .int (nI 0)), (7, .int (nI ((10 * a) + k))), (0, .ref M), (1, .int (nI a)), (2, .int (nI i)), (3, .int (nI 1)), (6, .int (nI k))]) hx hb dX6_looks_193 hl (by decide) rfl (fun ls hl => ?_)
                            refine lv_iinc (v := nI (k + 1)) (lv' := [(6, .int (nI (k + 1))), (5, .int (oS (fun k => 10 * a + k) o1)), (8, .int (nI 0)), (7, .int (nI ((10 * a) + k))), (0, .ref M), (1, .int (nI a)), (2, .int (nI i)), (3, .int (nI 1))]) hx hb dX6_looks_195 hl (k := 7) rfl (nI_add k 1) (by decide) rfl (fun ls hl => ?_)
                            refine lv_goto (tgt := 59) hx hb dX6_looks_198 (by decide) ?_
                            exact ih59 _ _ _ ⟨k + 1, o1, (by omega), (by omega), ho.trans g1.symm, w, lv_sub hl [4, 5, 6, 7, 1, 0] rfl⟩
                          · exact absurd (by decide) c_154_45
                        · have q_142_44 : (hid ((10 * a) + k)) = false := bI_0.mp c_142_43
                          have hq := q_142_44
                          refine lv_iconst (v := nI 1) hx hb dX6_looks_145 (by decide) ?_
                          refine lv_goto (tgt := 150) hx hb dX6_looks_146 (by decide) ?_
                          refine lv_istore (lv' := [(8, .int (nI 1)), (7, .int (nI ((10 * a) + k))), (0, .ref M), (1, .int (nI a)), (2, .int (nI i)), (3, .int (nI 1)), (5, .int (oS (fun k => 10 * a + k) o1)), (6, .int (nI k))]) hx hb dX6_looks_150 hl (by decide) rfl (fun ls hl => ?_)
                          refine lv_iload hx hb dX6_looks_152 (lv_at hl 0 rfl) ?_
                          refine lv_if_eq (tgt := 191) hx hb dX6_looks_154 (by decide) (fun c_154_46 => ?_) (fun c_154_46 => ?_)
                          · exact absurd c_154_46 (by decide)
                          · refine lv_iload hx hb dX6_looks_157 (lv_at hl 6 rfl) ?_
                            refine lv_iconst (v := -1) hx hb dX6_looks_159 (by decide) ?_
                            refine lv_icmp_eq (tgt := 186) hx hb dX6_looks_160 (by decide) (fun c_160_47 => ?_) (fun c_160_47 => ?_)
                            · have on : o1 = none := oS_none c_160_47 (fun j hj => Nat.lt_trans (hsm j hj) (by decide))
                              have g1 := nr_first2 (p := (fun k => decide (fJ k = nI i))) (b := (fun k => hid (10 * a + k))) (v := (fun k => v (10 * a + k))) hp hq (ho.symm.trans on)
                              refine lv_iload hx hb dX6_looks_186 (lv_at hl 1 rfl) ?_
                              refine lv_goto (tgt := 193) hx hb dX6_looks_188 (by decide) ?_
                              refine lv_istore (lv' := [(5, .int (nI ((10 * a) + k))), (8, .int (nI 1)), (7, .int (nI ((10 * a) + k))), (0, .ref M), (1, .int (nI a)), (2, .int (nI i)), (3, .int (nI 1)), (6, .int (nI k))]) hx hb dX6_looks_193 hl (by decide) rfl (fun ls hl => ?_)
                              refine lv_iinc (v := nI (k + 1)) (lv' := [(6, .int (nI (k + 1))), (5, .int (nI ((10 * a) + k))), (8, .int (nI 1)), (7, .int (nI ((10 * a) + k))), (0, .ref M), (1, .int (nI a)), (2, .int (nI i)), (3, .int (nI 1))]) hx hb dX6_looks_195 hl (k := 7) rfl (nI_add k 1) (by decide) rfl (fun ls hl => ?_)
                              refine lv_goto (tgt := 59) hx hb dX6_looks_198 (by decide) ?_
                              exact ih59 _ _ _ ⟨k + 1, some k, (by omega), (by omega), g1.symm, w, lv_sub hl [4, 5, 6, 7, 1, 0] rfl⟩
                            · obtain ⟨j, rfl⟩ := oS_some c_160_47
                              have hsl2 := hsm j rfl
                              have hl : lv_has ls 9 [(8, .int (nI 1)), (7, .int (nI ((10 * a) + k))), (0, .ref M), (1, .int (nI a)), (2, .int (nI i)), (3, .int (nI 1)), (5, .int (nI ((10 * a) + j))), (6, .int (nI k))] := hl
                              refine lv_aload_n hx hb dX6_looks_163 rfl (lv_at hl 2 rfl) ?_
                              refine b_get X E w 0 rfl rfl 18 (by decide) iX6 (by decide +kernel) rfl rfl dX6_looks_164 ?_
                              refine lv_iload hx hb dX6_looks_167 (lv_at hl 1 rfl) ?_
                              refine b_iald X E w 2 rfl ((10 * a) + k) rfl (by omega) (by first | decide | omega) dX6_looks_169 ?_
                              refine b_calli w (va_runS (As := [.int (v ((10 * a) + k))]) (rest := []) X (c_X6_size l hl0 G _ (x := v ((10 * a) + k)) ) (va_cwS 1 hts gX6_looks_X6_size rfl rfl rfl (by decide +kernel) ⟨Nat.le_of_ble_eq_true rfl, Nat.le_of_ble_eq_true rfl⟩) ⟨b_blind, (fun U9 hU9 hW9 => ⟨rfl, b_pre E Z0 w [] (by decide) rfl b_nil U9 hU9 hW9⟩)⟩ rfl rfl hl.1 rfl (lv_room (Nat.le_of_ble_eq_true rfl)) dX6_looks_170 ⟨Nat.le_of_ble_eq_true rfl, Nat.le_of_ble_eq_true rfl⟩) b_nil [] (fun _ => rfl) rfl (fun r170_48 u170_48 H locs hr170_48 w => ?_)
                              have w : bSt G vwCl [] s [(M, .inr (6, [.int (nI td), .int (nI nA), .int (nI nJ), .ref yA, .ref yJ, .ref yg, .int (nI dn), .ref yw, .ref yc, .ref yv, .int (nI snt), .int (nI jd), .ref yr, .int (nI bn), .ref yC, .ref yD, .ref yF, .ref yS, .ref yV, .ref yH, .int th])), (yJ, .inl (G.2.1, 10, .inl fJ)), (yV, .inl (G.2.1, 140, .inl v)), (yH, .inl (G.2.2.1, 140, .inl (zB hid)))] _ _ := w
                              subst hr170_48
                              refine lv_aload_n hx hb dX6_looks_173 rfl (lv_at hl 2 rfl) ?_
                              refine b_get X E w 0 rfl rfl 18 (by decide) iX6 (by decide +kernel) rfl rfl dX6_looks_174 ?_
                              refine lv_iload hx hb dX6_looks_177 (lv_at hl 6 rfl) ?_
                              refine b_iald X E w 2 rfl ((10 * a) + j) rfl (by omega) (by first | decide | omega) dX6_looks_179 ?_
                              refine b_calli w (va_runS (As := [.int (v ((10 * a) + j))]) (rest := [.int (b_abs (v ((10 * a) + k)))]) X (c_X6_size l hl0 G _ (x := v ((10 * a) + j)) ) (va_cwS 1 hts gX6_looks_X6_size rfl rfl rfl (by decide +kernel) ⟨Nat.le_of_ble_eq_true rfl, Nat.le_of_ble_eq_true rfl⟩) ⟨b_blind, (fun U9 hU9 hW9 => ⟨rfl, b_pre E Z0 w [] (by decide) rfl b_nil U9 hU9 hW9⟩)⟩ rfl rfl hl.1 rfl (lv_room (Nat.le_of_ble_eq_true rfl)) dX6_looks_180 ⟨Nat.le_of_ble_eq_true rfl, Nat.le_of_ble_eq_true rfl⟩) b_nil [] (fun _ => rfl) rfl (fun r180_49 u180_49 H locs hr180_49 w => ?_)
                              have w : bSt G vwCl [] s [(M, .inr (6, [.int (nI td), .int (nI nA), .int (nI nJ), .ref yA, .ref yJ, .ref yg, .int (nI dn), .ref yw, .ref yc, .ref yv, .int (nI snt), .int (nI jd), .ref yr, .int (nI bn), .ref yC, .ref yD, .ref yF, .ref yS, .ref yV, .ref yH, .int th])), (yJ, .inl (G.2.1, 10, .inl fJ)), (yV, .inl (G.2.1, 140, .inl v)), (yH, .inl (G.2.2.1, 140, .inl (zB hid)))] _ _ := w
                              subst hr180_49
                              refine lv_icmp_ge (tgt := 191) hx hb dX6_looks_183 (by decide) (fun c_183_50 => ?_) (fun c_183_50 => ?_)
                              · have g1 := nr_not2 (p := (fun k => decide (fJ k = nI i))) (b := (fun k => hid (10 * a + k))) (v := (fun k => v (10 * a + k))) ho.symm c_183_50
                                refine lv_iload hx hb dX6_looks_191 (lv_at hl 6 rfl) ?_
                                refine lv_istore (lv' := [(5, .int (nI ((10 * a) + j))), (8, .int (nI 1)), (7, .int (nI ((10 * a) + k))), (0, .ref M), (1, .int (nI a)), (2, .int (nI i)), (3, .int (nI 1)), (6, .int (nI k))]) hx hb dX6_looks_193 hl (by decide) rfl (fun ls hl => ?_)
                                refine lv_iinc (v := nI (k + 1)) (lv' := [(6, .int (nI (k + 1))), (5, .int (nI ((10 * a) + j))), (8, .int (nI 1)), (7, .int (nI ((10 * a) + k))), (0, .ref M), (1, .int (nI a)), (2, .int (nI i)), (3, .int (nI 1))]) hx hb dX6_looks_195 hl (k := 7) rfl (nI_add k 1) (by decide) rfl (fun ls hl => ?_)
                                refine lv_goto (tgt := 59) hx hb dX6_looks_198 (by decide) ?_
                                exact ih59 _ _ _ ⟨k + 1, some j, (by omega), (by omega), ho.trans g1.symm, w, lv_sub hl [4, 5, 6, 7, 1, 0] rfl⟩
                              · have g1 := nr_less2 (p := (fun k => decide (fJ k = nI i))) (b := (fun k => hid (10 * a + k))) (v := (fun k => v (10 * a + k))) hp hq ho.symm c_183_50
                                refine lv_iload hx hb dX6_looks_186 (lv_at hl 1 rfl) ?_
                                refine lv_goto (tgt := 193) hx hb dX6_looks_188 (by decide) ?_
                                refine lv_istore (lv' := [(5, .int (nI ((10 * a) + k))), (8, .int (nI 1)), (7, .int (nI ((10 * a) + k))), (0, .ref M), (1, .int (nI a)), (2, .int (nI i)), (3, .int (nI 1)), (6, .int (nI k))]) hx hb dX6_looks_193 hl (by decide) rfl (fun ls hl => ?_)
                                refine lv_iinc (v := nI (k + 1)) (lv' := [(6, .int (nI (k + 1))), (5, .int (nI ((10 * a) + k))), (8, .int (nI 1)), (7, .int (nI ((10 * a) + k))), (0, .ref M), (1, .int (nI a)), (2, .int (nI i)), (3, .int (nI 1))]) hx hb dX6_looks_195 hl (k := 7) rfl (nI_add k 1) (by decide) rfl (fun ls hl => ?_)
                                refine lv_goto (tgt := 59) hx hb dX6_looks_198 (by decide) ?_
                                exact ih59 _ _ _ ⟨k + 1, some k, (by omega), (by omega), g1.symm, w, lv_sub hl [4, 5, 6, 7, 1, 0] rfl⟩
        · have q_48_33 : ¬ b1 (hid (10 * a + i)) + cH (fun k => decide (fJ k = nI i)) (fun k => hid (10 * a + k)) nJ = 1 := fun h9 => c_48_32 ((nI_eq (by omega) (by omega)).mpr h9)
          have hE : pR (fun k => decide (fJ k = nI i)) (fun k => hid (10 * a + k)) (fun k => v (10 * a + k)) nJ (10 * a + i) (hid (10 * a + i)) (fun k => 10 * a + k) = none := pR_n1 q_48_33
          refine lv_iconst (v := nI 0) hx hb dX6_looks_51 (by decide) ?_
          have w := b_wide [yH] b_nil w
          exact W.zret (v := nI 0) hx hb hr rfl (fun t9 ht9 hW9 => ⟨⟨nI 0, (), rfl, bI_zero (by rw [hE]; rfl), by show va_P G.1 vwCl _ t9.heap; rw [ht9]; exact b_cg (by rw [hE]; rfl) (w.1.sub (ws' := [(yH, .inl (G.2.2.1, 140, .inl (zB hid)))]) [3] rfl)⟩, w.2.1.F ht9⟩) w.2.1.2.2 dX6_looks_52
set_option maxHeartbeats 4000000 in
set_option maxRecDepth 100000 in
theorem c_X6_covers (l : Launch) (hl0 : l.stackTraces = false) (G : bG) (sz : Nat) (M yA yJ yg yw yc yv yr yC yD yF yS yV yH td nA nJ dn snt jd bn : Nat) (th : Int32) (fA : Nat → Int32) (fJ : Nat → Int32) (bc : Nat → Int32) (bd : Nat → Int32) (bf : Nat → Int32) (v : Nat → Int32) (hid : Nat → Bool) (sc : Nat → Bool) (p0 : Nat) (hnA : nA ≤ 14) (hnJ : nJ ≤ 10) (hTA : TI fA nA) (hTJ : TI fJ nJ) (hbn : bn ≤ 300) (hp : p0 < 12) : Met l yX6_covers wsX6_covers ({ frames := 2, cells := 0, slots := 0, locals := 56 }) (va_Pc [.ref M, .int (nI p0)] (bPre G vwCl bNW bSW sz [(M, .inr (6, [.int (nI td), .int (nI nA), .int (nI nJ), .ref yA, .ref yJ, .ref yg, .int (nI dn), .ref yw, .ref yc, .ref yv, .int (nI snt), .int (nI jd), .ref yr, .int (nI bn), .ref yC, .ref yD, .ref yF, .ref yS, .ref yV, .ref yH, .int th])), (yA, .inl (G.2.1, 14, .inl fA)), (yJ, .inl (G.2.1, 10, .inl fJ)), (yC, .inl (G.2.1, 300, .inl bc)), (yD, .inl (G.2.1, 300, .inl bd)), (yF, .inl (G.2.1, 300, .inl bf)), (yV, .inl (G.2.1, 140, .inl v)), (yH, .inl (G.2.2.1, 140, .inl (zB hid))), (yS, .inl (G.2.2.1, 1680, .inl (zB sc)))] [yV, yH])) (va_Qi (fun (r : Int32) (u : Nat → Int32) => r = nI (cH (fun _ => true) (hdM fA nA fJ nJ sc p0 u hid) 140) ∧ (Fx (figs bc bd bf bn p0 (nI td)) fA nA fJ nJ u)) (fun (u : Nat → Int32) (tS : State) => va_P G.1 vwCl [(yV, .inl (G.2.1, 140, .inl u)), (yH, .inl (G.2.2.1, 140, .inl (zB (hdM fA nA fJ nJ sc p0 u hid))))] tS.heap) (Aw [yV, yH] sz)) 0 0 (Aw [yV, yH] sz) := by
  refine Met.ofW (cc := cX6_covers) (maxL := 7) (ret := (some .int)) (by decide) rfl ?_
  intro p e s m args below meth c s₁ B hml hv
  obtain ⟨rfl, hsz, hP, hD, E, Z⟩ := hv
  have hts := atoms_spec (ws := wsX6_covers) B.pre
  have hown : s.vm.findClass RX6 = some m.cls := findClass_of_methodNamed B.named
  have X : CallFix p m c cX6_covers 7 s _ wsX6_covers RX6 := ⟨B.exec, B.bytes, hml, hown, hts⟩
  have hx := B.exec
  have hb := B.bytes
  have hr := B.returns
  have hlocks := B.notSynchronized
  subst hsz
  have w : bSt G vwCl [] s [(M, .inr (6, [.int (nI td), .int (nI nA), .int (nI nJ), .ref yA, .ref yJ, .ref yg, .int (nI dn), .ref yw, .ref yc, .ref yv, .int (nI snt), .int (nI jd), .ref yr, .int (nI bn), .ref yC, .ref yD, .ref yF, .ref yS, .ref yV, .ref yH, .int th])), (yA, .inl (G.2.1, 14, .inl fA)), (yJ, .inl (G.2.1, 10, .inl fJ)), (yC, .inl (G.2.1, 300, .inl bc)), (yD, .inl (G.2.1, 300, .inl bd)), (yF, .inl (G.2.1, 300, .inl bf)), (yV, .inl (G.2.1, 140, .inl v)), (yH, .inl (G.2.2.1, 140, .inl (zB hid))), (yS, .inl (G.2.2.1, 1680, .inl (zB sc)))] s.heap [] := ⟨hP, va_S.rf, hD⟩
  have Z0 : bZ [] s := ⟨Z.1.narrow (fun q h => h.elim (fun h => nomatch h) Or.inr), Z.2.narrow (fun q h => h.elim (fun h => nomatch h) Or.inr)⟩
  have iX6 : ∀ w ∈ wsX60, w ∈ wsX6_covers := by decide +kernel
  have hl := lv_entry ([.ref M, .int (nI p0)]) (n := 7) (Nat.le_of_ble_eq_true rfl)
  rw [lg_entry_eq]
  generalize (lg_sl ([.ref M, .int (nI p0)]) ++ List.replicate (7 - (lg_sl ([.ref M, .int (nI p0)])).length) Slot.unset).toArray = ls at hl ⊢
  have hl : lv_has ls 7 [(0, .ref M), (1, .int (nI p0))] := hl
  refine lv_aload_n hx hb dX6_covers_0 rfl (lv_at hl 0 rfl) ?_
  refine lv_iload_n hx hb dX6_covers_1 rfl (lv_at hl 1 rfl) ?_
  refine lv_aload_n hx hb dX6_covers_2 rfl (lv_at hl 0 rfl) ?_
  refine b_get X E w 0 rfl rfl 0 (by decide) iX6 (by decide +kernel) rfl rfl dX6_covers_3 ?_
  have w := b_wide [yV, yH] b_nil w
  refine b_callv w (va_runV (As := [.int (nI p0), .int (nI td)]) (rest := []) X (c_X6_finds l hl0 G _ (M := M) (p0 := p0) (d := nI td) (td := td) (nA := nA) (nJ := nJ) (yA := yA) (yJ := yJ) (yg := yg) (dn := dn) (yw := yw) (yc := yc) (yv := yv) (snt := snt) (jd := jd) (yr := yr) (bn := bn) (yC := yC) (yD := yD) (yF := yF) (yS := yS) (yV := yV) (yH := yH) (th := th) (fA := fA) (fJ := fJ) (bc := bc) (bd := bd) (bf := bf) (v := v) (hnA := (by first | assumption | omega)) (hnJ := (by first | assumption | omega)) (hTA := (by first | assumption | omega)) (hTJ := (by first | assumption | omega)) (hbn := (by first | assumption | omega)) (hp := (by first | assumption | omega))) (cwV 2 hts gX6_covers_X6_finds rfl rfl rfl (by decide +kernel) ⟨Nat.le_of_ble_eq_true rfl, Nat.le_of_ble_eq_true rfl⟩) ⟨b_blind, b_recv E w (ci := 6) (q0 := 0) rfl rfl, (fun U9 hU9 hW9 => ⟨rfl, b_pre E Z w [0, 1, 2, 3, 4, 5, 6] (by decide) rfl (b_subA [0] rfl) U9 hU9 hW9⟩)⟩ rfl rfl hl.1 rfl (lv_room (Nat.le_of_ble_eq_true rfl)) dX6_covers_6 ⟨Nat.le_of_ble_eq_true rfl, Nat.le_of_ble_eq_true rfl⟩) (b_subA [0] rfl) [6] (fun _ => rfl) rfl (fun u0 H locs hr6_36 w => ?_)
  have w : bSt G vwCl [yV, yH] s [(M, .inr (6, [.int (nI td), .int (nI nA), .int (nI nJ), .ref yA, .ref yJ, .ref yg, .int (nI dn), .ref yw, .ref yc, .ref yv, .int (nI snt), .int (nI jd), .ref yr, .int (nI bn), .ref yC, .ref yD, .ref yF, .ref yS, .ref yV, .ref yH, .int th])), (yA, .inl (G.2.1, 14, .inl fA)), (yJ, .inl (G.2.1, 10, .inl fJ)), (yC, .inl (G.2.1, 300, .inl bc)), (yD, .inl (G.2.1, 300, .inl bd)), (yF, .inl (G.2.1, 300, .inl bf)), (yV, .inl (G.2.1, 140, .inl u0)), (yH, .inl (G.2.2.1, 140, .inl (zB hid))), (yS, .inl (G.2.2.1, 1680, .inl (zB sc)))] _ _ := w
  have hu0 := hr6_36
  refine lv_iconst (v := nI 0) hx hb dX6_covers_9 (by decide) ?_
  refine lv_istore_n (lv' := [(2, .int (nI 0)), (0, .ref M), (1, .int (nI p0))]) hx hb dX6_covers_10 rfl hl (by decide) rfl (fun ls hl => ?_)
  refine lv_iconst (v := nI 0) hx hb dX6_covers_11 (by decide) ?_
  refine lv_istore_n (lv' := [(3, .int (nI 0)), (2, .int (nI 0)), (0, .ref M), (1, .int (nI p0))]) hx hb dX6_covers_12 rfl hl (by decide) rfl (fun ls hl => ?_)
  refine b_loop (pc := 13) (st := []) (fun (fuel : Nat) (H : Heap) (locs : List Loc) (ls : Array Slot) => ∃ (k : Nat) (n : Nat), (k ≤ 140) ∧ (141 ≤ k + fuel) ∧ (n ≤ k) ∧ (n = cH (fun _ => true) (h0M nA nJ p0 sc u0) k) ∧ bSt G vwCl [yV, yH] s [(M, .inr (6, [.int (nI td), .int (nI nA), .int (nI nJ), .ref yA, .ref yJ, .ref yg, .int (nI dn), .ref yw, .ref yc, .ref yv, .int (nI snt), .int (nI jd), .ref yr, .int (nI bn), .ref yC, .ref yD, .ref yF, .ref yS, .ref yV, .ref yH, .int th])), (yA, .inl (G.2.1, 14, .inl fA)), (yJ, .inl (G.2.1, 10, .inl fJ)), (yC, .inl (G.2.1, 300, .inl bc)), (yD, .inl (G.2.1, 300, .inl bd)), (yF, .inl (G.2.1, 300, .inl bf)), (yV, .inl (G.2.1, 140, .inl u0)), (yH, .inl (G.2.2.1, 140, .inl (zB (hF hid (h0M nA nJ p0 sc u0) k)))), (yS, .inl (G.2.2.1, 1680, .inl (zB sc)))] H locs ∧ lv_has ls 7 [(0, .ref M), (1, .int (nI p0)), (2, .int (nI n)), (3, .int (nI k))]) (fun H locs ls h9 => ?_) (fun fuel H locs ls hI ih13 => ?_) (141) ⟨0, 0, (by omega), (by omega), (by omega), rfl, (by rw [hF_0]; exact w), lv_sub hl [2, 3, 1, 0] rfl⟩
  · obtain ⟨k, n, hk, hf, hnk, hn, w, hl⟩ := h9
    omega
  · obtain ⟨k, n, hk, hf, hnk, hn, w, hl⟩ := hI
    refine lv_iload_n hx hb dX6_covers_13 rfl (lv_at hl 3 rfl) ?_
    refine lv_sipush (v := nI 140) hx hb dX6_covers_14 (by decide) ?_
    refine lv_icmp_ge (tgt := 102) hx hb dX6_covers_17 (by decide) (fun c_17_37 => ?_) (fun c_17_37 => ?_)
    · have q_17_38 : 140 ≤ k := q_le (by omega) (by omega) c_17_37
      have ek : k = 140 := by omega
      rw [ek] at w hn
      have w : bSt G vwCl [yV, yH] s [(M, .inr (6, [.int (nI td), .int (nI nA), .int (nI nJ), .ref yA, .ref yJ, .ref yg, .int (nI dn), .ref yw, .ref yc, .ref yv, .int (nI snt), .int (nI jd), .ref yr, .int (nI bn), .ref yC, .ref yD, .ref yF, .ref yS, .ref yV, .ref yH, .int th])), (yA, .inl (G.2.1, 14, .inl fA)), (yJ, .inl (G.2.1, 10, .inl fJ)), (yC, .inl (G.2.1, 300, .inl bc)), (yD, .inl (G.2.1, 300, .inl bd)), (yF, .inl (G.2.1, 300, .inl bf)), (yV, .inl (G.2.1, 140, .inl u0)), (yH, .inl (G.2.2.1, 140, .inl (zB (hF hid (h0M nA nJ p0 sc u0) 140)))), (yS, .inl (G.2.2.1, 1680, .inl (zB sc)))] _ _ := w
      refine lv_iconst (v := -1) hx hb dX6_covers_102 (by decide) ?_
      refine lv_istore_n (lv' := [(3, .int (-1)), (0, .ref M), (1, .int (nI p0)), (2, .int (nI n))]) hx hb dX6_covers_103 rfl hl (by decide) rfl (fun ls hl => ?_)
      refine b_loop (pc := 104) (st := []) (fun (fuel : Nat) (H : Heap) (locs : List Loc) (ls : Array Slot) => ∃ (r : Nat) (n : Nat) (b : Nat → Bool) (more : Bool) (bx : Int32), (143 ≤ r + fuel) ∧ (itR (stp fA nA fJ nJ u0) 141 (hF hid (h0M nA nJ p0 sc u0) 140) = if more = true then itR (stp fA nA fJ nJ u0) (141 - r) b else b) ∧ (n = cH (fun _ => true) b 140) ∧ (more = !decide (bx = nI n)) ∧ (more = true → r ≤ n) ∧ (r ≤ 141) ∧ bSt G vwCl [yV, yH] s [(M, .inr (6, [.int (nI td), .int (nI nA), .int (nI nJ), .ref yA, .ref yJ, .ref yg, .int (nI dn), .ref yw, .ref yc, .ref yv, .int (nI snt), .int (nI jd), .ref yr, .int (nI bn), .ref yC, .ref yD, .ref yF, .ref yS, .ref yV, .ref yH, .int th])), (yA, .inl (G.2.1, 14, .inl fA)), (yJ, .inl (G.2.1, 10, .inl fJ)), (yC, .inl (G.2.1, 300, .inl bc)), (yD, .inl (G.2.1, 300, .inl bd)), (yF, .inl (G.2.1, 300, .inl bf)), (yV, .inl (G.2.1, 140, .inl u0)), (yH, .inl (G.2.2.1, 140, .inl (zB b))), (yS, .inl (G.2.2.1, 1680, .inl (zB sc)))] H locs ∧ lv_has ls 7 [(0, .ref M), (1, .int (nI p0)), (2, .int (nI n)), (3, .int bx)]) (fun H locs ls h9 => ?_) (fun fuel H locs ls hI ih104 => ?_) (143) ⟨0, n, (hF hid (h0M nA nJ p0 sc u0) 140), true, -1, (by omega), (if_pos rfl).symm, hn.trans cF_140.symm, by have := b_m1 (a := n) (by omega); simp [Ne.symm this], fun _ => Nat.zero_le _, (by omega), w, lv_sub hl [1, 2, 3, 0] rfl⟩
      · obtain ⟨r, n, b, more, bx, hf0, hIt, hn, hm, hrn, hr2, w, hl⟩ := h9
        omega
      · obtain ⟨r, n, b, more, bx, hf0, hIt, hn, hm, hrn, hr2, w, hl⟩ := hI
        have hn140 : n ≤ 140 := by rw [hn]; exact cH_le 140
        refine lv_iload_n hx hb dX6_covers_104 rfl (lv_at hl 3 rfl) ?_
        refine lv_iload_n hx hb dX6_covers_105 rfl (lv_at hl 2 rfl) ?_
        refine lv_icmp_eq (tgt := 195) hx hb dX6_covers_106 (by decide) (fun c_106_39 => ?_) (fun c_106_39 => ?_)
        · have hmt : more = false := by rw [hm, c_106_39]; simp
          have hE : hdM fA nA fJ nJ sc p0 u0 hid = b := hIt.trans (by rw [hmt]; simp)
          refine lv_iload_n hx hb dX6_covers_195 rfl (lv_at hl 2 rfl) ?_
          exact W.iret (v := nI n) hx hb hr (fun t9 ht9 hW9 => ⟨⟨nI n, u0, rfl, ⟨by rw [hE]; exact congrArg nI hn, hu0⟩, by show va_P G.1 vwCl _ t9.heap; rw [ht9]; exact b_cg (by rw [hE]) (w.1.sub (ws' := [(yV, .inl (G.2.1, 140, .inl u0)), (yH, .inl (G.2.2.1, 140, .inl (zB b)))]) [6, 7] rfl)⟩, w.2.1.F ht9⟩) w.2.1.2.2 dX6_covers_196
        · have hmt : more = true := by rw [hm]; simp [c_106_39]
          refine lv_iload_n hx hb dX6_covers_109 rfl (lv_at hl 2 rfl) ?_
          refine lv_istore_n (lv' := [(3, .int (nI n)), (0, .ref M), (1, .int (nI p0)), (2, .int (nI n))]) hx hb dX6_covers_110 rfl hl (by decide) rfl (fun ls hl => ?_)
          refine lv_iconst (v := nI 0) hx hb dX6_covers_111 (by decide) ?_
          refine lv_istore (lv' := [(4, .int (nI 0)), (3, .int (nI n)), (0, .ref M), (1, .int (nI p0)), (2, .int (nI n))]) hx hb dX6_covers_112 hl (by decide) rfl (fun ls hl => ?_)
          refine lv_iload hx hb dX6_covers_114 (lv_at hl 0 rfl) ?_
          refine lv_iconst (v := nI 2) hx hb dX6_covers_116 (by decide) ?_
          refine lv_icmp_ge (tgt := 192) hx hb dX6_covers_117 (by decide) (fun c_117_40 => ?_) (fun c_117_40 => ?_)
          · exact absurd c_117_40 (by decide)
          · refine lv_iconst (v := nI 0) hx hb dX6_covers_120 (by decide) ?_
            refine lv_istore (lv' := [(5, .int (nI 0)), (4, .int (nI 0)), (3, .int (nI n)), (0, .ref M), (1, .int (nI p0)), (2, .int (nI n))]) hx hb dX6_covers_121 hl (by decide) rfl (fun ls hl => ?_)
            refine b_loop (pc := 123) (st := []) (fun (fuel : Nat) (H : Heap) (locs : List Loc) (ls : Array Slot) => ∃ (a : Nat) (S0 : (Nat → Bool) × Bool) (n1 : Nat), (a ≤ nA) ∧ (nA + 1 ≤ a + fuel) ∧ (S0 = gA fA nA fJ nJ u0 true (b, false) a) ∧ (n1 = cH (fun _ => true) S0.1 140) ∧ (n ≤ n1) ∧ (S0.2 = decide (n < n1)) ∧ bSt G vwCl [yV, yH] s [(M, .inr (6, [.int (nI td), .int (nI nA), .int (nI nJ), .ref yA, .ref yJ, .ref yg, .int (nI dn), .ref yw, .ref yc, .ref yv, .int (nI snt), .int (nI jd), .ref yr, .int (nI bn), .ref yC, .ref yD, .ref yF, .ref yS, .ref yV, .ref yH, .int th])), (yA, .inl (G.2.1, 14, .inl fA)), (yJ, .inl (G.2.1, 10, .inl fJ)), (yC, .inl (G.2.1, 300, .inl bc)), (yD, .inl (G.2.1, 300, .inl bd)), (yF, .inl (G.2.1, 300, .inl bf)), (yV, .inl (G.2.1, 140, .inl u0)), (yH, .inl (G.2.2.1, 140, .inl (zB S0.1))), (yS, .inl (G.2.2.1, 1680, .inl (zB sc)))] H locs ∧ lv_has ls 7 [(0, .ref M), (1, .int (nI p0)), (2, .int (nI n1)), (3, .int (nI n)), (4, .int (nI 0)), (5, .int (nI a))]) (fun H locs ls h9 => ?_) (fun fuel H locs ls hI ih123 => ?_) (nA + 1) ⟨0, (b, false), n, (by omega), (by omega), rfl, hn, Nat.le_refl _, by simp, w, lv_sub hl [3, 4, 5, 2, 1, 0] rfl⟩
            · obtain ⟨a, S0, n1, ha, hf1, hS0, hc1, hl1, hd1, w, hl⟩ := h9
              omega
            · obtain ⟨a, S0, n1, ha, hf1, hS0, hc1, hl1, hd1, w, hl⟩ := hI
              refine lv_iload hx hb dX6_covers_123 (lv_at hl 5 rfl) ?_
              refine lv_aload_n hx hb dX6_covers_125 rfl (lv_at hl 0 rfl) ?_
              refine b_get X E w 0 rfl rfl 1 (by decide) iX6 (by decide +kernel) rfl rfl dX6_covers_126 ?_
              refine lv_icmp_ge (tgt := 186) hx hb dX6_covers_129 (by decide) (fun c_129_41 => ?_) (fun c_129_41 => ?_)
              · have q_129_42 : nA ≤ a := q_le (by omega) (by omega) c_129_41
                have ea : a = nA := by omega
                rw [ea] at hS0
                have hS0A := hS0
                have hd1A := hd1
                have hlA := hl1
                have hcA : n1 = cH (fun _ => true) ((gA fA nA fJ nJ u0 true (b, false) nA).1) 140 := by rw [← hS0]; exact hc1
                rw [hS0] at w
                have w : bSt G vwCl [yV, yH] s [(M, .inr (6, [.int (nI td), .int (nI nA), .int (nI nJ), .ref yA, .ref yJ, .ref yg, .int (nI dn), .ref yw, .ref yc, .ref yv, .int (nI snt), .int (nI jd), .ref yr, .int (nI bn), .ref yC, .ref yD, .ref yF, .ref yS, .ref yV, .ref yH, .int th])), (yA, .inl (G.2.1, 14, .inl fA)), (yJ, .inl (G.2.1, 10, .inl fJ)), (yC, .inl (G.2.1, 300, .inl bc)), (yD, .inl (G.2.1, 300, .inl bd)), (yF, .inl (G.2.1, 300, .inl bf)), (yV, .inl (G.2.1, 140, .inl u0)), (yH, .inl (G.2.2.1, 140, .inl (zB ((gA fA nA fJ nJ u0 true (b, false) nA).1)))), (yS, .inl (G.2.2.1, 1680, .inl (zB sc)))] _ _ := w
                refine lv_iinc (v := nI 1) (lv' := [(4, .int (nI 1)), (0, .ref M), (1, .int (nI p0)), (2, .int (nI n1)), (3, .int (nI n)), (5, .int (nI a))]) hx hb dX6_covers_186 hl (k := 4) rfl (by decide) (by decide) rfl (fun ls hl => ?_)
                refine lv_goto (tgt := 114) hx hb dX6_covers_189 (by decide) ?_
                refine lv_iload hx hb dX6_covers_114 (lv_at hl 0 rfl) ?_
                refine lv_iconst (v := nI 2) hx hb dX6_covers_116 (by decide) ?_
                refine lv_icmp_ge (tgt := 192) hx hb dX6_covers_117 (by decide) (fun c_117_43 => ?_) (fun c_117_43 => ?_)
                · exact absurd c_117_43 (by decide)
                · refine lv_iconst (v := nI 0) hx hb dX6_covers_120 (by decide) ?_
                  refine lv_istore (lv' := [(5, .int (nI 0)), (4, .int (nI 1)), (0, .ref M), (1, .int (nI p0)), (2, .int (nI n1)), (3, .int (nI n))]) hx hb dX6_covers_121 hl (by decide) rfl (fun ls hl => ?_)
                  refine b_loop (pc := 123) (st := []) (fun (fuel : Nat) (H : Heap) (locs : List Loc) (ls : Array Slot) => ∃ (a : Nat) (S0 : (Nat → Bool) × Bool) (n2 : Nat), (a ≤ nA) ∧ (nA + 1 ≤ a + fuel) ∧ (S0 = gA fA nA fJ nJ u0 false ((gA fA nA fJ nJ u0 true (b, false) nA).1, false) a) ∧ (n2 = cH (fun _ => true) S0.1 140) ∧ (n1 ≤ n2) ∧ (S0.2 = decide (n1 < n2)) ∧ bSt G vwCl [yV, yH] s [(M, .inr (6, [.int (nI td), .int (nI nA), .int (nI nJ), .ref yA, .ref yJ, .ref yg, .int (nI dn), .ref yw, .ref yc, .ref yv, .int (nI snt), .int (nI jd), .ref yr, .int (nI bn), .ref yC, .ref yD, .ref yF, .ref yS, .ref yV, .ref yH, .int th])), (yA, .inl (G.2.1, 14, .inl fA)), (yJ, .inl (G.2.1, 10, .inl fJ)), (yC, .inl (G.2.1, 300, .inl bc)), (yD, .inl (G.2.1, 300, .inl bd)), (yF, .inl (G.2.1, 300, .inl bf)), (yV, .inl (G.2.1, 140, .inl u0)), (yH, .inl (G.2.2.1, 140, .inl (zB S0.1))), (yS, .inl (G.2.2.1, 1680, .inl (zB sc)))] H locs ∧ lv_has ls 7 [(0, .ref M), (1, .int (nI p0)), (2, .int (nI n2)), (3, .int (nI n)), (4, .int (nI 1)), (5, .int (nI a))]) (fun H locs ls h9 => ?_) (fun fuel H locs ls hI ih123 => ?_) (nA + 1) ⟨0, ((gA fA nA fJ nJ u0 true (b, false) nA).1, false), n1, (by omega), (by omega), rfl, hcA, Nat.le_refl _, by simp, w, lv_sub hl [2, 3, 4, 5, 1, 0] rfl⟩
                  · obtain ⟨a, S0, n2, ha, hf1, hS0, hc1, hl1, hd1, w, hl⟩ := h9
                    omega
                  · obtain ⟨a, S0, n2, ha, hf1, hS0, hc1, hl1, hd1, w, hl⟩ := hI
                    refine lv_iload hx hb dX6_covers_123 (lv_at hl 5 rfl) ?_
                    refine lv_aload_n hx hb dX6_covers_125 rfl (lv_at hl 0 rfl) ?_
                    refine b_get X E w 0 rfl rfl 1 (by decide) iX6 (by decide +kernel) rfl rfl dX6_covers_126 ?_
                    refine lv_icmp_ge (tgt := 186) hx hb dX6_covers_129 (by decide) (fun c_129_44 => ?_) (fun c_129_44 => ?_)
                    · have q_129_45 : nA ≤ a := q_le (by omega) (by omega) c_129_44
                      have ea : a = nA := by omega
                      rw [ea] at hS0
                      refine lv_iinc (v := nI 2) (lv' := [(4, .int (nI 2)), (0, .ref M), (1, .int (nI p0)), (2, .int (nI n2)), (3, .int (nI n)), (5, .int (nI a))]) hx hb dX6_covers_186 hl (k := 4) rfl (by decide) (by decide) rfl (fun ls hl => ?_)
                      refine lv_goto (tgt := 114) hx hb dX6_covers_189 (by decide) ?_
                      refine lv_iload hx hb dX6_covers_114 (lv_at hl 0 rfl) ?_
                      refine lv_iconst (v := nI 2) hx hb dX6_covers_116 (by decide) ?_
                      refine lv_icmp_ge (tgt := 192) hx hb dX6_covers_117 (by decide) (fun c_117_46 => ?_) (fun c_117_46 => ?_)
                      · refine lv_goto (tgt := 104) hx hb dX6_covers_192 (by decide) ?_
                        have hS9 : stp fA nA fJ nJ u0 b = (S0.1, decide (n < n2)) := stp_mk hS0A hd1A hS0 hd1 hlA hl1
                        obtain ⟨k1, k2, k3⟩ := mW_next hIt hmt (hrn hmt) hn140 (by rw [hc1]; exact cH_le 140) hS9 (by omega)
                        exact ih104 _ _ _ ⟨r + 1, n2, S0.1, decide (n < n2), nI n, (by omega), k1, hc1, k2, k3, (by have := hrn hmt; omega), w, lv_sub hl [1, 2, 3, 4] rfl⟩
                      · exact absurd (by decide) c_117_46
                    · have q_129_45 : a < nA := q_nle (by omega) (by omega) c_129_44
                      have ha1 := q_129_45
                      refine lv_iconst (v := nI 0) hx hb dX6_covers_132 (by decide) ?_
                      refine lv_istore (lv' := [(6, .int (nI 0)), (0, .ref M), (1, .int (nI p0)), (2, .int (nI n2)), (3, .int (nI n)), (4, .int (nI 1)), (5, .int (nI a))]) hx hb dX6_covers_133 hl (by decide) rfl (fun ls hl => ?_)
                      refine b_loop (pc := 135) (st := []) (fun (fuel : Nat) (H : Heap) (locs : List Loc) (ls : Array Slot) => ∃ (i : Nat) (S1 : (Nat → Bool) × Bool) (m1 : Nat), (i ≤ nJ) ∧ (nJ + 1 ≤ i + fuel) ∧ (S1 = gI fA nA fJ nJ u0 false S0 a i) ∧ (m1 = cH (fun _ => true) S1.1 140) ∧ (n1 ≤ m1) ∧ (S1.2 = decide (n1 < m1)) ∧ bSt G vwCl [yV, yH] s [(M, .inr (6, [.int (nI td), .int (nI nA), .int (nI nJ), .ref yA, .ref yJ, .ref yg, .int (nI dn), .ref yw, .ref yc, .ref yv, .int (nI snt), .int (nI jd), .ref yr, .int (nI bn), .ref yC, .ref yD, .ref yF, .ref yS, .ref yV, .ref yH, .int th])), (yA, .inl (G.2.1, 14, .inl fA)), (yJ, .inl (G.2.1, 10, .inl fJ)), (yC, .inl (G.2.1, 300, .inl bc)), (yD, .inl (G.2.1, 300, .inl bd)), (yF, .inl (G.2.1, 300, .inl bf)), (yV, .inl (G.2.1, 140, .inl u0)), (yH, .inl (G.2.2.1, 140, .inl (zB S1.1))), (yS, .inl (G.2.2.1, 1680, .inl (zB sc)))] H locs ∧ lv_has ls 7 [(0, .ref M), (1, .int (nI p0)), (2, .int (nI m1)), (3, .int (nI n)), (4, .int (nI 1)), (5, .int (nI a)), (6, .int (nI i))]) (fun H locs ls h9 => ?_) (fun fuel H locs ls hI ih135 => ?_) (nJ + 1) ⟨0, S0, n2, (by omega), (by omega), rfl, hc1, hl1, hd1, w, lv_sub hl [1, 2, 3, 4, 5, 6, 0] rfl⟩
                      · obtain ⟨i, S1, m1, hi, hf2, hS1, hc2, hl2, hd2, w, hl⟩ := h9
                        omega
                      · obtain ⟨i, S1, m1, hi, hf2, hS1, hc2, hl2, hd2, w, hl⟩ := hI
                        refine lv_iload hx hb dX6_covers_135 (lv_at hl 6 rfl) ?_
                        refine lv_aload_n hx hb dX6_covers_137 rfl (lv_at hl 0 rfl) ?_
                        refine b_get X E w 0 rfl rfl 2 (by decide) iX6 (by decide +kernel) rfl rfl dX6_covers_138 ?_
                        refine lv_icmp_ge (tgt := 180) hx hb dX6_covers_141 (by decide) (fun c_141_47 => ?_) (fun c_141_47 => ?_)
                        · have q_141_48 : nJ ≤ i := q_le (by omega) (by omega) c_141_47
                          have ei : i = nJ := by omega
                          refine lv_iinc (v := nI (a + 1)) (lv' := [(5, .int (nI (a + 1))), (0, .ref M), (1, .int (nI p0)), (2, .int (nI m1)), (3, .int (nI n)), (4, .int (nI 1)), (6, .int (nI i))]) hx hb dX6_covers_180 hl (k := 5) rfl (nI_add a 1) (by decide) rfl (fun ls hl => ?_)
                          refine lv_goto (tgt := 123) hx hb dX6_covers_183 (by decide) ?_
                          exact ih123 _ _ _ ⟨a + 1, S1, m1, (by omega), (by omega), by rw [hS1, ei, hS0]; rfl, hc2, hl2, hd2, w, lv_sub hl [1, 2, 3, 4, 5, 0] rfl⟩
                        · have q_141_48 : i < nJ := q_nle (by omega) (by omega) c_141_47
                          have hi1 := q_141_48
                          refine lv_iload_n hx hb dX6_covers_144 rfl (lv_at hl 2 rfl) ?_
                          refine lv_aload_n hx hb dX6_covers_145 rfl (lv_at hl 0 rfl) ?_
                          refine lv_iload hx hb dX6_covers_146 (lv_at hl 5 rfl) ?_
                          refine lv_iload hx hb dX6_covers_148 (lv_at hl 6 rfl) ?_
                          refine lv_iload hx hb dX6_covers_150 (lv_at hl 4 rfl) ?_
                          refine lv_iconst (v := nI 1) hx hb dX6_covers_152 (by decide) ?_
                          refine lv_icmp_ne (tgt := 160) hx hb dX6_covers_153 (by decide) (fun c_153_49 => ?_) (fun c_153_49 => ?_)
                          · exact absurd rfl c_153_49
                          · refine lv_iconst (v := nI 1) hx hb dX6_covers_156 (by decide) ?_
                            refine lv_goto (tgt := 161) hx hb dX6_covers_157 (by decide) ?_
                            refine b_calli w (va_runV (As := [.int (nI a), .int (nI i), .int (nI 1)]) (rest := [.int (nI m1)]) X (c_X6_looks_J l hl0 G _ (M := M) (a := a) (i := i) (td := td) (nA := nA) (nJ := nJ) (yA := yA) (yJ := yJ) (yg := yg) (dn := dn) (yw := yw) (yc := yc) (yv := yv) (snt := snt) (jd := jd) (yr := yr) (bn := bn) (yC := yC) (yD := yD) (yF := yF) (yS := yS) (yV := yV) (yH := yH) (th := th) (fJ := fJ) (v := u0) (hid := S1.1) (hnA := (by first | assumption | omega)) (hnJ := (by first | assumption | omega)) (ha := (by first | assumption | omega)) (hi := (by first | assumption | omega)) (hvs := (fun h9 => (Fx_head hu0 ha1 hi1 h9).2.2))) (cwV 3 hts gX6_covers_X6_looks rfl rfl rfl (by decide +kernel) ⟨Nat.le_of_ble_eq_true rfl, Nat.le_of_ble_eq_true rfl⟩) ⟨b_blind, b_recv E w (ci := 6) (q0 := 0) rfl rfl, (fun U9 hU9 hW9 => ⟨rfl, b_pre E Z w [0, 2, 6, 7] (by decide) rfl (b_subA [1] rfl) U9 hU9 hW9⟩)⟩ rfl rfl hl.1 rfl (lv_room (Nat.le_of_ble_eq_true rfl)) dX6_covers_161 ⟨Nat.le_of_ble_eq_true rfl, Nat.le_of_ble_eq_true rfl⟩) (b_subA [1] rfl) [7] (fun _ => rfl) rfl (fun r161_50 u161_50 H locs hr161_50 w => ?_)
                            have w : bSt G vwCl [yV, yH] s [(M, .inr (6, [.int (nI td), .int (nI nA), .int (nI nJ), .ref yA, .ref yJ, .ref yg, .int (nI dn), .ref yw, .ref yc, .ref yv, .int (nI snt), .int (nI jd), .ref yr, .int (nI bn), .ref yC, .ref yD, .ref yF, .ref yS, .ref yV, .ref yH, .int th])), (yA, .inl (G.2.1, 14, .inl fA)), (yJ, .inl (G.2.1, 10, .inl fJ)), (yC, .inl (G.2.1, 300, .inl bc)), (yD, .inl (G.2.1, 300, .inl bd)), (yF, .inl (G.2.1, 300, .inl bf)), (yV, .inl (G.2.1, 140, .inl u0)), (yH, .inl (G.2.2.1, 140, .inl (zB (uO S1.1 (pR (fun k => decide (fJ k = nI i)) (fun k => S1.1 (10 * a + k)) (fun k => u0 (10 * a + k)) nJ (10 * a + i) (S1.1 (10 * a + i)) (fun k => 10 * a + k)))))), (yS, .inl (G.2.2.1, 1680, .inl (zB sc)))] _ _ := w
                            subst hr161_50
                            have hrow : pR (fun k => decide (fJ k = nI i)) (fun k => S1.1 (10 * a + k)) (fun k => u0 (10 * a + k)) nJ (10 * a + i) (S1.1 (10 * a + i)) (fun k => 10 * a + k) = gRow fA nA fJ nJ u0 false S1.1 a i := rfl
                            refine lv_if_eq (tgt := 171) hx hb dX6_covers_164 (by decide) (fun c_164_51 => ?_) (fun c_164_51 => ?_)
                            · have q_164_52 : ((pR (fun k => decide (fJ k = nI i)) (fun k => S1.1 (10 * a + k)) (fun k => u0 (10 * a + k)) nJ (10 * a + i) (S1.1 (10 * a + i)) (fun k => 10 * a + k)).isSome) = false := bI_0.mp c_164_51
                              have q164 := q_164_52
                              refine lv_iconst (v := nI 0) hx hb dX6_covers_171 (by decide) ?_
                              refine lv_iadd hx hb dX6_covers_172 ?_
                              refine b_tp (show (nI m1) + (nI 0) = nI (m1 + 0) from nI_add m1 0) ?_
                              refine lv_istore_n (lv' := [(2, .int (nI (m1 + 0))), (0, .ref M), (1, .int (nI p0)), (3, .int (nI n)), (4, .int (nI 1)), (5, .int (nI a)), (6, .int (nI i))]) hx hb dX6_covers_173 rfl hl (by decide) rfl (fun ls hl => ?_)
                              refine lv_iinc (v := nI (i + 1)) (lv' := [(6, .int (nI (i + 1))), (2, .int (nI (m1 + 0))), (0, .ref M), (1, .int (nI p0)), (3, .int (nI n)), (4, .int (nI 1)), (5, .int (nI a))]) hx hb dX6_covers_174 hl (k := 6) rfl (nI_add i 1) (by decide) rfl (fun ls hl => ?_)
                              refine lv_goto (tgt := 135) hx hb dX6_covers_177 (by decide) ?_
                              obtain ⟨S2, g1, g2, g3, g4, g5⟩ := gI_cnt hnA hnJ (by omega) (by omega) hS1 hc2 hl2 hd2 hrow q164
                              rw [← g2] at w
                              exact ih135 _ _ _ ⟨i + 1, S2, m1 + b1 false, (by omega), (by omega), g1, g3, g4, g5, w, lv_sub hl [2, 3, 1, 4, 5, 6, 0] rfl⟩
                            · have q_164_52 : ((pR (fun k => decide (fJ k = nI i)) (fun k => S1.1 (10 * a + k)) (fun k => u0 (10 * a + k)) nJ (10 * a + i) (S1.1 (10 * a + i)) (fun k => 10 * a + k)).isSome) = true := bI_n0.mp c_164_51
                              have q164 := q_164_52
                              refine lv_iconst (v := nI 1) hx hb dX6_covers_167 (by decide) ?_
                              refine lv_goto (tgt := 172) hx hb dX6_covers_168 (by decide) ?_
                              refine lv_iadd hx hb dX6_covers_172 ?_
                              refine b_tp (show (nI m1) + (nI 1) = nI (m1 + 1) from nI_add m1 1) ?_
                              refine lv_istore_n (lv' := [(2, .int (nI (m1 + 1))), (0, .ref M), (1, .int (nI p0)), (3, .int (nI n)), (4, .int (nI 1)), (5, .int (nI a)), (6, .int (nI i))]) hx hb dX6_covers_173 rfl hl (by decide) rfl (fun ls hl => ?_)
                              refine lv_iinc (v := nI (i + 1)) (lv' := [(6, .int (nI (i + 1))), (2, .int (nI (m1 + 1))), (0, .ref M), (1, .int (nI p0)), (3, .int (nI n)), (4, .int (nI 1)), (5, .int (nI a))]) hx hb dX6_covers_174 hl (k := 6) rfl (nI_add i 1) (by decide) rfl (fun ls hl => ?_)
                              refine lv_goto (tgt := 135) hx hb dX6_covers_177 (by decide) ?_
                              obtain ⟨S2, g1, g2, g3, g4, g5⟩ := gI_cnt hnA hnJ (by omega) (by omega) hS1 hc2 hl2 hd2 hrow q164
                              rw [← g2] at w
                              exact ih135 _ _ _ ⟨i + 1, S2, m1 + b1 true, (by omega), (by omega), g1, g3, g4, g5, w, lv_sub hl [2, 3, 1, 4, 5, 6, 0] rfl⟩
              · have q_129_42 : a < nA := q_nle (by omega) (by omega) c_129_41
                have ha1 := q_129_42
                refine lv_iconst (v := nI 0) hx hb dX6_covers_132 (by decide) ?_
                refine lv_istore (lv' := [(6, .int (nI 0)), (0, .ref M), (1, .int (nI p0)), (2, .int (nI n1)), (3, .int (nI n)), (4, .int (nI 0)), (5, .int (nI a))]) hx hb dX6_covers_133 hl (by decide) rfl (fun ls hl => ?_)
                refine b_loop (pc := 135) (st := []) (fun (fuel : Nat) (H : Heap) (locs : List Loc) (ls : Array Slot) => ∃ (i : Nat) (S1 : (Nat → Bool) × Bool) (m1 : Nat), (i ≤ nJ) ∧ (nJ + 1 ≤ i + fuel) ∧ (S1 = gI fA nA fJ nJ u0 true S0 a i) ∧ (m1 = cH (fun _ => true) S1.1 140) ∧ (n ≤ m1) ∧ (S1.2 = decide (n < m1)) ∧ bSt G vwCl [yV, yH] s [(M, .inr (6, [.int (nI td), .int (nI nA), .int (nI nJ), .ref yA, .ref yJ, .ref yg, .int (nI dn), .ref yw, .ref yc, .ref yv, .int (nI snt), .int (nI jd), .ref yr, .int (nI bn), .ref yC, .ref yD, .ref yF, .ref yS, .ref yV, .ref yH, .int th])), (yA, .inl (G.2.1, 14, .inl fA)), (yJ, .inl (G.2.1, 10, .inl fJ)), (yC, .inl (G.2.1, 300, .inl bc)), (yD, .inl (G.2.1, 300, .inl bd)), (yF, .inl (G.2.1, 300, .inl bf)), (yV, .inl (G.2.1, 140, .inl u0)), (yH, .inl (G.2.2.1, 140, .inl (zB S1.1))), (yS, .inl (G.2.2.1, 1680, .inl (zB sc)))] H locs ∧ lv_has ls 7 [(0, .ref M), (1, .int (nI p0)), (2, .int (nI m1)), (3, .int (nI n)), (4, .int (nI 0)), (5, .int (nI a)), (6, .int (nI i))]) (fun H locs ls h9 => ?_) (fun fuel H locs ls hI ih135 => ?_) (nJ + 1) ⟨0, S0, n1, (by omega), (by omega), rfl, hc1, hl1, hd1, w, lv_sub hl [1, 2, 3, 4, 5, 6, 0] rfl⟩
                · obtain ⟨i, S1, m1, hi, hf2, hS1, hc2, hl2, hd2, w, hl⟩ := h9
                  omega
                · obtain ⟨i, S1, m1, hi, hf2, hS1, hc2, hl2, hd2, w, hl⟩ := hI
                  refine lv_iload hx hb dX6_covers_135 (lv_at hl 6 rfl) ?_
                  refine lv_aload_n hx hb dX6_covers_137 rfl (lv_at hl 0 rfl) ?_
                  refine b_get X E w 0 rfl rfl 2 (by decide) iX6 (by decide +kernel) rfl rfl dX6_covers_138 ?_
                  refine lv_icmp_ge (tgt := 180) hx hb dX6_covers_141 (by decide) (fun c_141_53 => ?_) (fun c_141_53 => ?_)
                  · have q_141_54 : nJ ≤ i := q_le (by omega) (by omega) c_141_53
                    have ei : i = nJ := by omega
                    refine lv_iinc (v := nI (a + 1)) (lv' := [(5, .int (nI (a + 1))), (0, .ref M), (1, .int (nI p0)), (2, .int (nI m1)), (3, .int (nI n)), (4, .int (nI 0)), (6, .int (nI i))]) hx hb dX6_covers_180 hl (k := 5) rfl (nI_add a 1) (by decide) rfl (fun ls hl => ?_)
                    refine lv_goto (tgt := 123) hx hb dX6_covers_183 (by decide) ?_
                    exact ih123 _ _ _ ⟨a + 1, S1, m1, (by omega), (by omega), by rw [hS1, ei, hS0]; rfl, hc2, hl2, hd2, w, lv_sub hl [1, 2, 3, 4, 5, 0] rfl⟩
                  · have q_141_54 : i < nJ := q_nle (by omega) (by omega) c_141_53
                    have hi1 := q_141_54
                    refine lv_iload_n hx hb dX6_covers_144 rfl (lv_at hl 2 rfl) ?_
                    refine lv_aload_n hx hb dX6_covers_145 rfl (lv_at hl 0 rfl) ?_
                    refine lv_iload hx hb dX6_covers_146 (lv_at hl 5 rfl) ?_
                    refine lv_iload hx hb dX6_covers_148 (lv_at hl 6 rfl) ?_
                    refine lv_iload hx hb dX6_covers_150 (lv_at hl 4 rfl) ?_
                    refine lv_iconst (v := nI 1) hx hb dX6_covers_152 (by decide) ?_
                    refine lv_icmp_ne (tgt := 160) hx hb dX6_covers_153 (by decide) (fun c_153_55 => ?_) (fun c_153_55 => ?_)
                    · refine lv_iconst (v := nI 0) hx hb dX6_covers_160 (by decide) ?_
                      refine b_calli w (va_runV (As := [.int (nI a), .int (nI i), .int (nI 0)]) (rest := [.int (nI m1)]) X (c_X6_looks_A l hl0 G _ (M := M) (a := a) (i := i) (td := td) (nA := nA) (nJ := nJ) (yA := yA) (yJ := yJ) (yg := yg) (dn := dn) (yw := yw) (yc := yc) (yv := yv) (snt := snt) (jd := jd) (yr := yr) (bn := bn) (yC := yC) (yD := yD) (yF := yF) (yS := yS) (yV := yV) (yH := yH) (th := th) (fA := fA) (v := u0) (hid := S1.1) (hnA := (by first | assumption | omega)) (hnJ := (by first | assumption | omega)) (ha := (by first | assumption | omega)) (hi := (by first | assumption | omega)) (hvs := (fun h9 => (Fx_head hu0 ha1 hi1 h9).2.1))) (cwV 3 hts gX6_covers_X6_looks rfl rfl rfl (by decide +kernel) ⟨Nat.le_of_ble_eq_true rfl, Nat.le_of_ble_eq_true rfl⟩) ⟨b_blind, b_recv E w (ci := 6) (q0 := 0) rfl rfl, (fun U9 hU9 hW9 => ⟨rfl, b_pre E Z w [0, 1, 6, 7] (by decide) rfl (b_subA [1] rfl) U9 hU9 hW9⟩)⟩ rfl rfl hl.1 rfl (lv_room (Nat.le_of_ble_eq_true rfl)) dX6_covers_161 ⟨Nat.le_of_ble_eq_true rfl, Nat.le_of_ble_eq_true rfl⟩) (b_subA [1] rfl) [7] (fun _ => rfl) rfl (fun r161_56 u161_56 H locs hr161_56 w => ?_)
                      have w : bSt G vwCl [yV, yH] s [(M, .inr (6, [.int (nI td), .int (nI nA), .int (nI nJ), .ref yA, .ref yJ, .ref yg, .int (nI dn), .ref yw, .ref yc, .ref yv, .int (nI snt), .int (nI jd), .ref yr, .int (nI bn), .ref yC, .ref yD, .ref yF, .ref yS, .ref yV, .ref yH, .int th])), (yA, .inl (G.2.1, 14, .inl fA)), (yJ, .inl (G.2.1, 10, .inl fJ)), (yC, .inl (G.2.1, 300, .inl bc)), (yD, .inl (G.2.1, 300, .inl bd)), (yF, .inl (G.2.1, 300, .inl bf)), (yV, .inl (G.2.1, 140, .inl u0)), (yH, .inl (G.2.2.1, 140, .inl (zB (uO S1.1 (pR (fun k => decide (fA k = nI a)) (fun k => S1.1 (10 * k + i)) (fun k => u0 (10 * k + i)) nA (10 * a + i) (S1.1 (10 * a + i)) (fun k => 10 * k + i)))))), (yS, .inl (G.2.2.1, 1680, .inl (zB sc)))] _ _ := w
                      subst hr161_56
                      have hrow : pR (fun k => decide (fA k = nI a)) (fun k => S1.1 (10 * k + i)) (fun k => u0 (10 * k + i)) nA (10 * a + i) (S1.1 (10 * a + i)) (fun k => 10 * k + i) = gRow fA nA fJ nJ u0 true S1.1 a i := rfl
                      refine lv_if_eq (tgt := 171) hx hb dX6_covers_164 (by decide) (fun c_164_57 => ?_) (fun c_164_57 => ?_)
                      · have q_164_58 : ((pR (fun k => decide (fA k = nI a)) (fun k => S1.1 (10 * k + i)) (fun k => u0 (10 * k + i)) nA (10 * a + i) (S1.1 (10 * a + i)) (fun k => 10 * k + i)).isSome) = false := bI_0.mp c_164_57
                        have q164 := q_164_58
                        refine lv_iconst (v := nI 0) hx hb dX6_covers_171 (by decide) ?_
                        refine lv_iadd hx hb dX6_covers_172 ?_
                        refine b_tp (show (nI m1) + (nI 0) = nI (m1 + 0) from nI_add m1 0) ?_
                        refine lv_istore_n (lv' := [(2, .int (nI (m1 + 0))), (0, .ref M), (1, .int (nI p0)), (3, .int (nI n)), (4, .int (nI 0)), (5, .int (nI a)), (6, .int (nI i))]) hx hb dX6_covers_173 rfl hl (by decide) rfl (fun ls hl => ?_)
                        refine lv_iinc (v := nI (i + 1)) (lv' := [(6, .int (nI (i + 1))), (2, .int (nI (m1 + 0))), (0, .ref M), (1, .int (nI p0)), (3, .int (nI n)), (4, .int (nI 0)), (5, .int (nI a))]) hx hb dX6_covers_174 hl (k := 6) rfl (nI_add i 1) (by decide) rfl (fun ls hl => ?_)
                        refine lv_goto (tgt := 135) hx hb dX6_covers_177 (by decide) ?_
                        obtain ⟨S2, g1, g2, g3, g4, g5⟩ := gI_cnt hnA hnJ (by omega) (by omega) hS1 hc2 hl2 hd2 hrow q164
                        rw [← g2] at w
                        exact ih135 _ _ _ ⟨i + 1, S2, m1 + b1 false, (by omega), (by omega), g1, g3, g4, g5, w, lv_sub hl [2, 3, 1, 4, 5, 6, 0] rfl⟩
                      · have q_164_58 : ((pR (fun k => decide (fA k = nI a)) (fun k => S1.1 (10 * k + i)) (fun k => u0 (10 * k + i)) nA (10 * a + i) (S1.1 (10 * a + i)) (fun k => 10 * k + i)).isSome) = true := bI_n0.mp c_164_57
                        have q164 := q_164_58
                        refine lv_iconst (v := nI 1) hx hb dX6_covers_167 (by decide) ?_
                        refine lv_goto (tgt := 172) hx hb dX6_covers_168 (by decide) ?_
                        refine lv_iadd hx hb dX6_covers_172 ?_
                        refine b_tp (show (nI m1) + (nI 1) = nI (m1 + 1) from nI_add m1 1) ?_
                        refine lv_istore_n (lv' := [(2, .int (nI (m1 + 1))), (0, .ref M), (1, .int (nI p0)), (3, .int (nI n)), (4, .int (nI 0)), (5, .int (nI a)), (6, .int (nI i))]) hx hb dX6_covers_173 rfl hl (by decide) rfl (fun ls hl => ?_)
                        refine lv_iinc (v := nI (i + 1)) (lv' := [(6, .int (nI (i + 1))), (2, .int (nI (m1 + 1))), (0, .ref M), (1, .int (nI p0)), (3, .int (nI n)), (4, .int (nI 0)), (5, .int (nI a))]) hx hb dX6_covers_174 hl (k := 6) rfl (nI_add i 1) (by decide) rfl (fun ls hl => ?_)
                        refine lv_goto (tgt := 135) hx hb dX6_covers_177 (by decide) ?_
                        obtain ⟨S2, g1, g2, g3, g4, g5⟩ := gI_cnt hnA hnJ (by omega) (by omega) hS1 hc2 hl2 hd2 hrow q164
                        rw [← g2] at w
                        exact ih135 _ _ _ ⟨i + 1, S2, m1 + b1 true, (by omega), (by omega), g1, g3, g4, g5, w, lv_sub hl [2, 3, 1, 4, 5, 6, 0] rfl⟩
                    · exact absurd c_153_55 (by decide)
    · have q_17_38 : k < 140 := q_nle (by omega) (by omega) c_17_37
      refine lv_aload_n hx hb dX6_covers_20 rfl (lv_at hl 0 rfl) ?_
      refine b_get X E w 0 rfl rfl 19 (by decide) iX6 (by decide +kernel) rfl rfl dX6_covers_21 ?_
      refine lv_iload_n hx hb dX6_covers_24 rfl (lv_at hl 3 rfl) ?_
      refine lv_iload_n hx hb dX6_covers_25 rfl (lv_at hl 3 rfl) ?_
      refine lv_bipush (v := nI 10) hx hb dX6_covers_26 (by decide) ?_
      refine lv_idiv hx hb dX6_covers_28 (by decide) ?_
      refine b_tp (show (nI k) / (nI 10) = nI (k / 10) from pk_div (by omega) (by decide) (by decide)) ?_
      refine lv_aload_n hx hb dX6_covers_29 rfl (lv_at hl 0 rfl) ?_
      refine b_get X E w 0 rfl rfl 1 (by decide) iX6 (by decide +kernel) rfl rfl dX6_covers_30 ?_
      refine lv_icmp_ge (tgt := 77) hx hb dX6_covers_33 (by decide) (fun c_33_59 => ?_) (fun c_33_59 => ?_)
      · have q_33_60 : nA ≤ k / 10 := q_le (by omega) (by omega) c_33_59
        have g33 : ¬ k / 10 < nA := by omega
        refine lv_iconst (v := nI 0) hx hb dX6_covers_77 (by decide) ?_
        refine b_tp (show nI 0 = bI false from rfl) ?_
        refine b_zast X E w (Or.inl (List.mem_of_getElem? (i := 1) rfl)) 7 rfl k rfl (by omega) (by first | decide | omega) (bI_01 _) dX6_covers_78 (fun H locs w => ?_)
        rw [zB_upd] at w
        have w : bSt G vwCl [yV, yH] s [(M, .inr (6, [.int (nI td), .int (nI nA), .int (nI nJ), .ref yA, .ref yJ, .ref yg, .int (nI dn), .ref yw, .ref yc, .ref yv, .int (nI snt), .int (nI jd), .ref yr, .int (nI bn), .ref yC, .ref yD, .ref yF, .ref yS, .ref yV, .ref yH, .int th])), (yA, .inl (G.2.1, 14, .inl fA)), (yJ, .inl (G.2.1, 10, .inl fJ)), (yC, .inl (G.2.1, 300, .inl bc)), (yD, .inl (G.2.1, 300, .inl bd)), (yF, .inl (G.2.1, 300, .inl bf)), (yV, .inl (G.2.1, 140, .inl u0)), (yH, .inl (G.2.2.1, 140, .inl (zB (uB (hF hid (h0M nA nJ p0 sc u0) k) k false)))), (yS, .inl (G.2.2.1, 1680, .inl (zB sc)))] _ _ := w
        refine lv_iload_n hx hb dX6_covers_79 rfl (lv_at hl 2 rfl) ?_
        refine lv_aload_n hx hb dX6_covers_80 rfl (lv_at hl 0 rfl) ?_
        refine b_get X E w 0 rfl rfl 19 (by decide) iX6 (by decide +kernel) rfl rfl dX6_covers_81 ?_
        refine lv_iload_n hx hb dX6_covers_84 rfl (lv_at hl 3 rfl) ?_
        refine b_zald X E w 7 rfl k rfl (by omega) (by first | decide | omega) dX6_covers_85 ?_
        refine b_tp (show zB (uB (hF hid (h0M nA nJ p0 sc u0) k) k false) k = bI ((uB (hF hid (h0M nA nJ p0 sc u0) k) k false) k) from rfl) ?_
        refine b_tp (congrArg bI (show (uB (hF hid (h0M nA nJ p0 sc u0) k) k false) k = false from uB_same)) ?_
        refine lv_if_eq (tgt := 93) hx hb dX6_covers_86 (by decide) (fun c_86_61 => ?_) (fun c_86_61 => ?_)
        · refine lv_iconst (v := nI 0) hx hb dX6_covers_93 (by decide) ?_
          refine lv_iadd hx hb dX6_covers_94 ?_
          refine b_tp (show (nI n) + (nI 0) = nI (n + 0) from nI_add n 0) ?_
          refine lv_istore_n (lv' := [(2, .int (nI (n + 0))), (0, .ref M), (1, .int (nI p0)), (3, .int (nI k))]) hx hb dX6_covers_95 rfl hl (by decide) rfl (fun ls hl => ?_)
          refine lv_iinc (v := nI (k + 1)) (lv' := [(3, .int (nI (k + 1))), (2, .int (nI (n + 0))), (0, .ref M), (1, .int (nI p0))]) hx hb dX6_covers_96 hl (k := 3) rfl (nI_add k 1) (by decide) rfl (fun ls hl => ?_)
          refine lv_goto (tgt := 13) hx hb dX6_covers_99 (by decide) ?_
          rw [hF_s hid (h0M nA nJ p0 sc u0) k (show _ = h0M nA nJ p0 sc u0 k by simp [h0M, q_17_38, q_33_60, g33, c_86_61])] at w
          have g1 := cH_noB (p := (fun _ => true)) (b := h0M nA nJ p0 sc u0) (k := k) rfl (by simp [h0M, q_17_38, q_33_60, g33, c_86_61])
          exact ih13 _ _ _ ⟨k + 1, n + 0, (by omega), (by omega), (by omega), by rw [g1]; omega, w, lv_sub hl [2, 3, 1, 0] rfl⟩
        · exact absurd (by decide) c_86_61
      · have q_33_60 : k / 10 < nA := q_nle (by omega) (by omega) c_33_59
        refine lv_iload_n hx hb dX6_covers_36 rfl (lv_at hl 3 rfl) ?_
        refine lv_bipush (v := nI 10) hx hb dX6_covers_37 (by decide) ?_
        refine lv_irem hx hb dX6_covers_39 (by decide) ?_
        refine b_tp (pk_rem (by omega) (by decide) (by decide)) ?_
        refine lv_aload_n hx hb dX6_covers_40 rfl (lv_at hl 0 rfl) ?_
        refine b_get X E w 0 rfl rfl 2 (by decide) iX6 (by decide +kernel) rfl rfl dX6_covers_41 ?_
        refine lv_icmp_ge (tgt := 77) hx hb dX6_covers_44 (by decide) (fun c_44_62 => ?_) (fun c_44_62 => ?_)
        · have q_44_63 : nJ ≤ k % 10 := q_le (by omega) (by omega) c_44_62
          have g44 : ¬ k % 10 < nJ := by omega
          refine lv_iconst (v := nI 0) hx hb dX6_covers_77 (by decide) ?_
          refine b_tp (show nI 0 = bI false from rfl) ?_
          refine b_zast X E w (Or.inl (List.mem_of_getElem? (i := 1) rfl)) 7 rfl k rfl (by omega) (by first | decide | omega) (bI_01 _) dX6_covers_78 (fun H locs w => ?_)
          rw [zB_upd] at w
          have w : bSt G vwCl [yV, yH] s [(M, .inr (6, [.int (nI td), .int (nI nA), .int (nI nJ), .ref yA, .ref yJ, .ref yg, .int (nI dn), .ref yw, .ref yc, .ref yv, .int (nI snt), .int (nI jd), .ref yr, .int (nI bn), .ref yC, .ref yD, .ref yF, .ref yS, .ref yV, .ref yH, .int th])), (yA, .inl (G.2.1, 14, .inl fA)), (yJ, .inl (G.2.1, 10, .inl fJ)), (yC, .inl (G.2.1, 300, .inl bc)), (yD, .inl (G.2.1, 300, .inl bd)), (yF, .inl (G.2.1, 300, .inl bf)), (yV, .inl (G.2.1, 140, .inl u0)), (yH, .inl (G.2.2.1, 140, .inl (zB (uB (hF hid (h0M nA nJ p0 sc u0) k) k false)))), (yS, .inl (G.2.2.1, 1680, .inl (zB sc)))] _ _ := w
          refine lv_iload_n hx hb dX6_covers_79 rfl (lv_at hl 2 rfl) ?_
          refine lv_aload_n hx hb dX6_covers_80 rfl (lv_at hl 0 rfl) ?_
          refine b_get X E w 0 rfl rfl 19 (by decide) iX6 (by decide +kernel) rfl rfl dX6_covers_81 ?_
          refine lv_iload_n hx hb dX6_covers_84 rfl (lv_at hl 3 rfl) ?_
          refine b_zald X E w 7 rfl k rfl (by omega) (by first | decide | omega) dX6_covers_85 ?_
          refine b_tp (show zB (uB (hF hid (h0M nA nJ p0 sc u0) k) k false) k = bI ((uB (hF hid (h0M nA nJ p0 sc u0) k) k false) k) from rfl) ?_
          refine b_tp (congrArg bI (show (uB (hF hid (h0M nA nJ p0 sc u0) k) k false) k = false from uB_same)) ?_
          refine lv_if_eq (tgt := 93) hx hb dX6_covers_86 (by decide) (fun c_86_64 => ?_) (fun c_86_64 => ?_)
          · refine lv_iconst (v := nI 0) hx hb dX6_covers_93 (by decide) ?_
            refine lv_iadd hx hb dX6_covers_94 ?_
            refine b_tp (show (nI n) + (nI 0) = nI (n + 0) from nI_add n 0) ?_
            refine lv_istore_n (lv' := [(2, .int (nI (n + 0))), (0, .ref M), (1, .int (nI p0)), (3, .int (nI k))]) hx hb dX6_covers_95 rfl hl (by decide) rfl (fun ls hl => ?_)
            refine lv_iinc (v := nI (k + 1)) (lv' := [(3, .int (nI (k + 1))), (2, .int (nI (n + 0))), (0, .ref M), (1, .int (nI p0))]) hx hb dX6_covers_96 hl (k := 3) rfl (nI_add k 1) (by decide) rfl (fun ls hl => ?_)
            refine lv_goto (tgt := 13) hx hb dX6_covers_99 (by decide) ?_
            rw [hF_s hid (h0M nA nJ p0 sc u0) k (show _ = h0M nA nJ p0 sc u0 k by simp [h0M, q_17_38, q_33_60, q_44_63, g44, c_86_64])] at w
            have g1 := cH_noB (p := (fun _ => true)) (b := h0M nA nJ p0 sc u0) (k := k) rfl (by simp [h0M, q_17_38, q_33_60, q_44_63, g44, c_86_64])
            exact ih13 _ _ _ ⟨k + 1, n + 0, (by omega), (by omega), (by omega), by rw [g1]; omega, w, lv_sub hl [2, 3, 1, 0] rfl⟩
          · exact absurd (by decide) c_86_64
        · have q_44_63 : k % 10 < nJ := q_nle (by omega) (by omega) c_44_62
          refine lv_aload_n hx hb dX6_covers_47 rfl (lv_at hl 0 rfl) ?_
          refine b_get X E w 0 rfl rfl 17 (by decide) iX6 (by decide +kernel) rfl rfl dX6_covers_48 ?_
          refine lv_sipush (v := nI 140) hx hb dX6_covers_51 (by decide) ?_
          refine lv_iload_n hx hb dX6_covers_54 rfl (lv_at hl 1 rfl) ?_
          refine lv_imul hx hb dX6_covers_55 ?_
          refine b_tp (show (nI 140) * (nI p0) = nI (140 * p0) from pk_mul 140 p0) ?_
          refine lv_iload_n hx hb dX6_covers_56 rfl (lv_at hl 3 rfl) ?_
          refine lv_iadd hx hb dX6_covers_57 ?_
          refine b_tp (show (nI (140 * p0)) + (nI k) = nI ((140 * p0) + k) from nI_add (140 * p0) k) ?_
          refine b_zald X E w 8 rfl ((140 * p0) + k) rfl (by omega) (by first | decide | omega) dX6_covers_58 ?_
          refine b_tp (show zB sc ((140 * p0) + k) = bI (sc ((140 * p0) + k)) from rfl) ?_
          refine lv_if_eq (tgt := 77) hx hb dX6_covers_59 (by decide) (fun c_59_65 => ?_) (fun c_59_65 => ?_)
          · have q_59_66 : (sc ((140 * p0) + k)) = false := bI_0.mp c_59_65
            refine lv_iconst (v := nI 0) hx hb dX6_covers_77 (by decide) ?_
            refine b_tp (show nI 0 = bI false from rfl) ?_
            refine b_zast X E w (Or.inl (List.mem_of_getElem? (i := 1) rfl)) 7 rfl k rfl (by omega) (by first | decide | omega) (bI_01 _) dX6_covers_78 (fun H locs w => ?_)
            rw [zB_upd] at w
            have w : bSt G vwCl [yV, yH] s [(M, .inr (6, [.int (nI td), .int (nI nA), .int (nI nJ), .ref yA, .ref yJ, .ref yg, .int (nI dn), .ref yw, .ref yc, .ref yv, .int (nI snt), .int (nI jd), .ref yr, .int (nI bn), .ref yC, .ref yD, .ref yF, .ref yS, .ref yV, .ref yH, .int th])), (yA, .inl (G.2.1, 14, .inl fA)), (yJ, .inl (G.2.1, 10, .inl fJ)), (yC, .inl (G.2.1, 300, .inl bc)), (yD, .inl (G.2.1, 300, .inl bd)), (yF, .inl (G.2.1, 300, .inl bf)), (yV, .inl (G.2.1, 140, .inl u0)), (yH, .inl (G.2.2.1, 140, .inl (zB (uB (hF hid (h0M nA nJ p0 sc u0) k) k false)))), (yS, .inl (G.2.2.1, 1680, .inl (zB sc)))] _ _ := w
            refine lv_iload_n hx hb dX6_covers_79 rfl (lv_at hl 2 rfl) ?_
            refine lv_aload_n hx hb dX6_covers_80 rfl (lv_at hl 0 rfl) ?_
            refine b_get X E w 0 rfl rfl 19 (by decide) iX6 (by decide +kernel) rfl rfl dX6_covers_81 ?_
            refine lv_iload_n hx hb dX6_covers_84 rfl (lv_at hl 3 rfl) ?_
            refine b_zald X E w 7 rfl k rfl (by omega) (by first | decide | omega) dX6_covers_85 ?_
            refine b_tp (show zB (uB (hF hid (h0M nA nJ p0 sc u0) k) k false) k = bI ((uB (hF hid (h0M nA nJ p0 sc u0) k) k false) k) from rfl) ?_
            refine b_tp (congrArg bI (show (uB (hF hid (h0M nA nJ p0 sc u0) k) k false) k = false from uB_same)) ?_
            refine lv_if_eq (tgt := 93) hx hb dX6_covers_86 (by decide) (fun c_86_67 => ?_) (fun c_86_67 => ?_)
            · refine lv_iconst (v := nI 0) hx hb dX6_covers_93 (by decide) ?_
              refine lv_iadd hx hb dX6_covers_94 ?_
              refine b_tp (show (nI n) + (nI 0) = nI (n + 0) from nI_add n 0) ?_
              refine lv_istore_n (lv' := [(2, .int (nI (n + 0))), (0, .ref M), (1, .int (nI p0)), (3, .int (nI k))]) hx hb dX6_covers_95 rfl hl (by decide) rfl (fun ls hl => ?_)
              refine lv_iinc (v := nI (k + 1)) (lv' := [(3, .int (nI (k + 1))), (2, .int (nI (n + 0))), (0, .ref M), (1, .int (nI p0))]) hx hb dX6_covers_96 hl (k := 3) rfl (nI_add k 1) (by decide) rfl (fun ls hl => ?_)
              refine lv_goto (tgt := 13) hx hb dX6_covers_99 (by decide) ?_
              rw [hF_s hid (h0M nA nJ p0 sc u0) k (show _ = h0M nA nJ p0 sc u0 k by simp [h0M, q_17_38, q_33_60, q_44_63, q_59_66, c_86_67])] at w
              have g1 := cH_noB (p := (fun _ => true)) (b := h0M nA nJ p0 sc u0) (k := k) rfl (by simp [h0M, q_17_38, q_33_60, q_44_63, q_59_66, c_86_67])
              exact ih13 _ _ _ ⟨k + 1, n + 0, (by omega), (by omega), (by omega), by rw [g1]; omega, w, lv_sub hl [2, 3, 1, 0] rfl⟩
            · exact absurd (by decide) c_86_67
          · have q_59_66 : (sc ((140 * p0) + k)) = true := bI_n0.mp c_59_65
            refine lv_aload_n hx hb dX6_covers_62 rfl (lv_at hl 0 rfl) ?_
            refine b_get X E w 0 rfl rfl 18 (by decide) iX6 (by decide +kernel) rfl rfl dX6_covers_63 ?_
            refine lv_iload_n hx hb dX6_covers_66 rfl (lv_at hl 3 rfl) ?_
            refine b_iald X E w 6 rfl k rfl (by omega) (by first | decide | omega) dX6_covers_67 ?_
            refine lv_ldc (v := MIS) hx hb hown (hts (.constant RX6 86 (-2000000001)) (by decide +kernel)) dX6_covers_68 ?_
            refine lv_icmp_eq (tgt := 77) hx hb dX6_covers_70 (by decide) (fun c_70_68 => ?_) (fun c_70_68 => ?_)
            · refine lv_iconst (v := nI 0) hx hb dX6_covers_77 (by decide) ?_
              refine b_tp (show nI 0 = bI false from rfl) ?_
              refine b_zast X E w (Or.inl (List.mem_of_getElem? (i := 1) rfl)) 7 rfl k rfl (by omega) (by first | decide | omega) (bI_01 _) dX6_covers_78 (fun H locs w => ?_)
              rw [zB_upd] at w
              have w : bSt G vwCl [yV, yH] s [(M, .inr (6, [.int (nI td), .int (nI nA), .int (nI nJ), .ref yA, .ref yJ, .ref yg, .int (nI dn), .ref yw, .ref yc, .ref yv, .int (nI snt), .int (nI jd), .ref yr, .int (nI bn), .ref yC, .ref yD, .ref yF, .ref yS, .ref yV, .ref yH, .int th])), (yA, .inl (G.2.1, 14, .inl fA)), (yJ, .inl (G.2.1, 10, .inl fJ)), (yC, .inl (G.2.1, 300, .inl bc)), (yD, .inl (G.2.1, 300, .inl bd)), (yF, .inl (G.2.1, 300, .inl bf)), (yV, .inl (G.2.1, 140, .inl u0)), (yH, .inl (G.2.2.1, 140, .inl (zB (uB (hF hid (h0M nA nJ p0 sc u0) k) k false)))), (yS, .inl (G.2.2.1, 1680, .inl (zB sc)))] _ _ := w
              refine lv_iload_n hx hb dX6_covers_79 rfl (lv_at hl 2 rfl) ?_
              refine lv_aload_n hx hb dX6_covers_80 rfl (lv_at hl 0 rfl) ?_
              refine b_get X E w 0 rfl rfl 19 (by decide) iX6 (by decide +kernel) rfl rfl dX6_covers_81 ?_
              refine lv_iload_n hx hb dX6_covers_84 rfl (lv_at hl 3 rfl) ?_
              refine b_zald X E w 7 rfl k rfl (by omega) (by first | decide | omega) dX6_covers_85 ?_
              refine b_tp (show zB (uB (hF hid (h0M nA nJ p0 sc u0) k) k false) k = bI ((uB (hF hid (h0M nA nJ p0 sc u0) k) k false) k) from rfl) ?_
              refine b_tp (congrArg bI (show (uB (hF hid (h0M nA nJ p0 sc u0) k) k false) k = false from uB_same)) ?_
              refine lv_if_eq (tgt := 93) hx hb dX6_covers_86 (by decide) (fun c_86_69 => ?_) (fun c_86_69 => ?_)
              · refine lv_iconst (v := nI 0) hx hb dX6_covers_93 (by decide) ?_
                refine lv_iadd hx hb dX6_covers_94 ?_
                refine b_tp (show (nI n) + (nI 0) = nI (n + 0) from nI_add n 0) ?_
                refine lv_istore_n (lv' := [(2, .int (nI (n + 0))), (0, .ref M), (1, .int (nI p0)), (3, .int (nI k))]) hx hb dX6_covers_95 rfl hl (by decide) rfl (fun ls hl => ?_)
                refine lv_iinc (v := nI (k + 1)) (lv' := [(3, .int (nI (k + 1))), (2, .int (nI (n + 0))), (0, .ref M), (1, .int (nI p0))]) hx hb dX6_covers_96 hl (k := 3) rfl (nI_add k 1) (by decide) rfl (fun ls hl => ?_)
                refine lv_goto (tgt := 13) hx hb dX6_covers_99 (by decide) ?_
                rw [hF_s hid (h0M nA nJ p0 sc u0) k (show _ = h0M nA nJ p0 sc u0 k by simp [h0M, q_17_38, q_33_60, q_44_63, q_59_66, c_70_68, c_86_69])] at w
                have g1 := cH_noB (p := (fun _ => true)) (b := h0M nA nJ p0 sc u0) (k := k) rfl (by simp [h0M, q_17_38, q_33_60, q_44_63, q_59_66, c_70_68, c_86_69])
                exact ih13 _ _ _ ⟨k + 1, n + 0, (by omega), (by omega), (by omega), by rw [g1]; omega, w, lv_sub hl [2, 3, 1, 0] rfl⟩
              · exact absurd (by decide) c_86_69
            · refine lv_iconst (v := nI 1) hx hb dX6_covers_73 (by decide) ?_
              refine lv_goto (tgt := 78) hx hb dX6_covers_74 (by decide) ?_
              refine b_tp (show nI 1 = bI true from rfl) ?_
              refine b_zast X E w (Or.inl (List.mem_of_getElem? (i := 1) rfl)) 7 rfl k rfl (by omega) (by first | decide | omega) (bI_01 _) dX6_covers_78 (fun H locs w => ?_)
              rw [zB_upd] at w
              have w : bSt G vwCl [yV, yH] s [(M, .inr (6, [.int (nI td), .int (nI nA), .int (nI nJ), .ref yA, .ref yJ, .ref yg, .int (nI dn), .ref yw, .ref yc, .ref yv, .int (nI snt), .int (nI jd), .ref yr, .int (nI bn), .ref yC, .ref yD, .ref yF, .ref yS, .ref yV, .ref yH, .int th])), (yA, .inl (G.2.1, 14, .inl fA)), (yJ, .inl (G.2.1, 10, .inl fJ)), (yC, .inl (G.2.1, 300, .inl bc)), (yD, .inl (G.2.1, 300, .inl bd)), (yF, .inl (G.2.1, 300, .inl bf)), (yV, .inl (G.2.1, 140, .inl u0)), (yH, .inl (G.2.2.1, 140, .inl (zB (uB (hF hid (h0M nA nJ p0 sc u0) k) k true)))), (yS, .inl (G.2.2.1, 1680, .inl (zB sc)))] _ _ := w
              refine lv_iload_n hx hb dX6_covers_79 rfl (lv_at hl 2 rfl) ?_
              refine lv_aload_n hx hb dX6_covers_80 rfl (lv_at hl 0 rfl) ?_
              refine b_get X E w 0 rfl rfl 19 (by decide) iX6 (by decide +kernel) rfl rfl dX6_covers_81 ?_
              refine lv_iload_n hx hb dX6_covers_84 rfl (lv_at hl 3 rfl) ?_
              refine b_zald X E w 7 rfl k rfl (by omega) (by first | decide | omega) dX6_covers_85 ?_
              refine b_tp (show zB (uB (hF hid (h0M nA nJ p0 sc u0) k) k true) k = bI ((uB (hF hid (h0M nA nJ p0 sc u0) k) k true) k) from rfl) ?_
              refine b_tp (congrArg bI (show (uB (hF hid (h0M nA nJ p0 sc u0) k) k true) k = true from uB_same)) ?_
              refine lv_if_eq (tgt := 93) hx hb dX6_covers_86 (by decide) (fun c_86_70 => ?_) (fun c_86_70 => ?_)
              · exact absurd c_86_70 (by decide)
              · refine lv_iconst (v := nI 1) hx hb dX6_covers_89 (by decide) ?_
                refine lv_goto (tgt := 94) hx hb dX6_covers_90 (by decide) ?_
                refine lv_iadd hx hb dX6_covers_94 ?_
                refine b_tp (show (nI n) + (nI 1) = nI (n + 1) from nI_add n 1) ?_
                refine lv_istore_n (lv' := [(2, .int (nI (n + 1))), (0, .ref M), (1, .int (nI p0)), (3, .int (nI k))]) hx hb dX6_covers_95 rfl hl (by decide) rfl (fun ls hl => ?_)
                refine lv_iinc (v := nI (k + 1)) (lv' := [(3, .int (nI (k + 1))), (2, .int (nI (n + 1))), (0, .ref M), (1, .int (nI p0))]) hx hb dX6_covers_96 hl (k := 3) rfl (nI_add k 1) (by decide) rfl (fun ls hl => ?_)
                refine lv_goto (tgt := 13) hx hb dX6_covers_99 (by decide) ?_
                rw [hF_s hid (h0M nA nJ p0 sc u0) k (show _ = h0M nA nJ p0 sc u0 k by simp [h0M, q_17_38, q_33_60, q_44_63, q_59_66, c_70_68, c_86_70])] at w
                have g1 := cH_yes2 (p := (fun _ => true)) (b := h0M nA nJ p0 sc u0) (k := k) rfl (by simp [h0M, q_17_38, q_33_60, q_44_63, q_59_66, c_70_68, c_86_70])
                exact ih13 _ _ _ ⟨k + 1, n + 1, (by omega), (by omega), (by omega), by rw [g1]; omega, w, lv_sub hl [2, 3, 1, 0] rfl⟩
set_option maxHeartbeats 4000000 in
set_option maxRecDepth 100000 in
theorem c_X6_hasFault (l : Launch) (hl0 : l.stackTraces = false) (G : bG) (sz : Nat) (M yA yJ yg yw yc yv yr yC yD yF yS yV yH td nA nJ dn snt jd bn : Nat) (th : Int32) (fA : Nat → Int32) (fJ : Nat → Int32) (bc : Nat → Int32) (bd : Nat → Int32) (bf : Nat → Int32) (v : Nat → Int32) (x y z : Int32) (hnA : nA ≤ 14) (hnJ : nJ ≤ 10) (hTA : TI fA nA) (hTJ : TI fJ nJ) (hbn : bn ≤ 300) : Met l yX6_hasFault wsX6_hasFault ({ frames := 3, cells := 0, slots := 0, locals := 66 }) (va_Pc [.ref M, .int x, .int y, .int z] (bPre G vwCl bNW bSW sz [(M, .inr (6, [.int (nI td), .int (nI nA), .int (nI nJ), .ref yA, .ref yJ, .ref yg, .int (nI dn), .ref yw, .ref yc, .ref yv, .int (nI snt), .int (nI jd), .ref yr, .int (nI bn), .ref yC, .ref yD, .ref yF, .ref yS, .ref yV, .ref yH, .int th])), (yA, .inl (G.2.1, 14, .inl fA)), (yJ, .inl (G.2.1, 10, .inl fJ)), (yC, .inl (G.2.1, 300, .inl bc)), (yD, .inl (G.2.1, 300, .inl bd)), (yF, .inl (G.2.1, 300, .inl bf)), (yV, .inl (G.2.1, 140, .inl v))] [M, yV])) (va_Qi (fun (r : Int32) (u : Nat → Int32) => th1 (okC nA nJ x y z) = 0 → Fx (figs bc bd bf bn (cl z) (nI td)) fA nA fJ nJ u ∧ r = bI (!decide ((fo bc bd bf (nI (cN x y z)) (nI td) bn) = MIS) && (iOS (sA fA nA u (cl x) (cl y)) (fo bc bd bf (nI (cN x y z)) (nI td) bn) || iOS (sJ fJ nJ u (cl x) (cl y)) (fo bc bd bf (nI (cN x y z)) (nI td) bn)))) (fun (u : Nat → Int32) (tS : State) => va_P G.1 vwCl [(M, .inr (6, [.int (nI td), .int (nI nA), .int (nI nJ), .ref yA, .ref yJ, .ref yg, .int (nI dn), .ref yw, .ref yc, .ref yv, .int (nI snt), .int (nI jd), .ref yr, .int (nI bn), .ref yC, .ref yD, .ref yF, .ref yS, .ref yV, .ref yH, .int (nI (th1 (okC nA nJ x y z)))])), (yV, .inl (G.2.1, 140, .inl u))] tS.heap) (Aw [M, yV] sz)) 0 0 (Aw [M, yV] sz) := by
  refine Met.ofW (cc := cX6_hasFault) (maxL := 7) (ret := (some .boolean)) (by decide) rfl ?_
  intro p e s m args below meth c s₁ B hml hv
  obtain ⟨rfl, hsz, hP, hD, E, Z⟩ := hv
  have hts := atoms_spec (ws := wsX6_hasFault) B.pre
  have hown : s.vm.findClass RX6 = some m.cls := findClass_of_methodNamed B.named
  have X : CallFix p m c cX6_hasFault 7 s _ wsX6_hasFault RX6 := ⟨B.exec, B.bytes, hml, hown, hts⟩
  have hx := B.exec
  have hb := B.bytes
  have hr := B.returns
  have hlocks := B.notSynchronized
  subst hsz
  have w : bSt G vwCl [] s [(M, .inr (6, [.int (nI td), .int (nI nA), .int (nI nJ), .ref yA, .ref yJ, .ref yg, .int (nI dn), .ref yw, .ref yc, .ref yv, .int (nI snt), .int (nI jd), .ref yr, .int (nI bn), .ref yC, .ref yD, .ref yF, .ref yS, .ref yV, .ref yH, .int th])), (yA, .inl (G.2.1, 14, .inl fA)), (yJ, .inl (G.2.1, 10, .inl fJ)), (yC, .inl (G.2.1, 300, .inl bc)), (yD, .inl (G.2.1, 300, .inl bd)), (yF, .inl (G.2.1, 300, .inl bf)), (yV, .inl (G.2.1, 140, .inl v))] s.heap [] := ⟨hP, va_S.rf, hD⟩
  have Z0 : bZ [] s := ⟨Z.1.narrow (fun q h => h.elim (fun h => nomatch h) Or.inr), Z.2.narrow (fun q h => h.elim (fun h => nomatch h) Or.inr)⟩
  have iX6 : ∀ w ∈ wsX60, w ∈ wsX6_hasFault := by decide +kernel
  have hl := lv_entry ([.ref M, .int x, .int y, .int z]) (n := 7) (Nat.le_of_ble_eq_true rfl)
  rw [lg_entry_eq]
  generalize (lg_sl ([.ref M, .int x, .int y, .int z]) ++ List.replicate (7 - (lg_sl ([.ref M, .int x, .int y, .int z])).length) Slot.unset).toArray = ls at hl ⊢
  have hl : lv_has ls 7 [(0, .ref M), (1, .int x), (2, .int y), (3, .int z)] := hl
  refine lv_aload_n hx hb dX6_hasFault_0 rfl (lv_at hl 0 rfl) ?_
  refine lv_aload_n hx hb dX6_hasFault_1 rfl (lv_at hl 0 rfl) ?_
  refine lv_iload_n hx hb dX6_hasFault_2 rfl (lv_at hl 1 rfl) ?_
  refine lv_iload_n hx hb dX6_hasFault_3 rfl (lv_at hl 2 rfl) ?_
  refine lv_iload_n hx hb dX6_hasFault_4 rfl (lv_at hl 3 rfl) ?_
  refine b_calli w (va_runV (As := [.int x, .int y, .int z]) (rest := [.ref M]) X (c_X6_isCell l hl0 G _ (M := M) (x := x) (y := y) (z := z) (td := td) (nA := nA) (nJ := nJ) (yA := yA) (yJ := yJ) (yg := yg) (dn := dn) (yw := yw) (yc := yc) (yv := yv) (snt := snt) (jd := jd) (yr := yr) (bn := bn) (yC := yC) (yD := yD) (yF := yF) (yS := yS) (yV := yV) (yH := yH) (th := th) (hnA := (by first | assumption | omega)) (hnJ := (by first | assumption | omega))) (cwV 3 hts gX6_hasFault_X6_isCell rfl rfl rfl (by decide +kernel) ⟨Nat.le_of_ble_eq_true rfl, Nat.le_of_ble_eq_true rfl⟩) ⟨b_blind, b_recv E w (ci := 6) (q0 := 0) rfl rfl, (fun U9 hU9 hW9 => ⟨rfl, b_pre E Z0 w [0] (by decide) rfl b_nil U9 hU9 hW9⟩)⟩ rfl rfl hl.1 rfl (lv_room (Nat.le_of_ble_eq_true rfl)) dX6_hasFault_5 ⟨Nat.le_of_ble_eq_true rfl, Nat.le_of_ble_eq_true rfl⟩) b_nil [] (fun _ => rfl) rfl (fun r5_18 u5_18 H locs hr5_18 w => ?_)
  have w : bSt G vwCl [] s [(M, .inr (6, [.int (nI td), .int (nI nA), .int (nI nJ), .ref yA, .ref yJ, .ref yg, .int (nI dn), .ref yw, .ref yc, .ref yv, .int (nI snt), .int (nI jd), .ref yr, .int (nI bn), .ref yC, .ref yD, .ref yF, .ref yS, .ref yV, .ref yH, .int th])), (yA, .inl (G.2.1, 14, .inl fA)), (yJ, .inl (G.2.1, 10, .inl fJ)), (yC, .inl (G.2.1, 300, .inl bc)), (yD, .inl (G.2.1, 300, .inl bd)), (yF, .inl (G.2.1, 300, .inl bf)), (yV, .inl (G.2.1, 140, .inl v))] _ _ := w
  subst hr5_18
  refine lv_if_eq (tgt := 15) hx hb dX6_hasFault_8 (by decide) (fun c_8_19 => ?_) (fun c_8_19 => ?_)
  · have q_8_20 : (okC nA nJ x y z) = false := bI_0.mp c_8_19
    have hT : th1 (okC nA nJ x y z) = 1 := by simp [th1, q_8_20]
    refine lv_iconst (v := nI 1) hx hb dX6_hasFault_15 (by decide) ?_
    have w := b_wide [M, yV] b_nil w
    refine b_put (ty := .int) X E w (Or.inl (List.mem_of_getElem? (i := 0) rfl)) 0 rfl rfl 20 (by decide) iX6 tyX6 tyX6_ok nmX6 (by decide +kernel) rfl rfl (by decide +kernel) rfl rfl (Nat.le_of_ble_eq_true rfl) dX6_hasFault_16 (fun H locs w => ?_)
    have w : bSt G vwCl [M, yV] s [(M, .inr (6, [.int (nI td), .int (nI nA), .int (nI nJ), .ref yA, .ref yJ, .ref yg, .int (nI dn), .ref yw, .ref yc, .ref yv, .int (nI snt), .int (nI jd), .ref yr, .int (nI bn), .ref yC, .ref yD, .ref yF, .ref yS, .ref yV, .ref yH, .int (nI 1)])), (yA, .inl (G.2.1, 14, .inl fA)), (yJ, .inl (G.2.1, 10, .inl fJ)), (yC, .inl (G.2.1, 300, .inl bc)), (yD, .inl (G.2.1, 300, .inl bd)), (yF, .inl (G.2.1, 300, .inl bf)), (yV, .inl (G.2.1, 140, .inl v))] _ _ := w
    refine lv_aload_n hx hb dX6_hasFault_19 rfl (lv_at hl 0 rfl) ?_
    refine b_get X E w 0 rfl rfl 20 (by decide) iX6 (by decide +kernel) rfl rfl dX6_hasFault_20 ?_
    refine lv_if_le (tgt := 28) hx hb dX6_hasFault_23 (by decide) (fun c_23_21 => ?_) (fun c_23_21 => ?_)
    · exact absurd c_23_21 (by decide)
    · refine lv_iconst (v := nI 0) hx hb dX6_hasFault_26 (by decide) ?_
      exact W.zret (v := nI 0) hx hb hr rfl (fun t9 ht9 hW9 => ⟨⟨nI 0, v, rfl, fun h0 => absurd (hT.symm.trans h0) (by decide), by show va_P G.1 vwCl _ t9.heap; rw [ht9]; exact b_cg (by rw [hT]) (w.1.sub (ws' := [(M, .inr (6, [.int (nI td), .int (nI nA), .int (nI nJ), .ref yA, .ref yJ, .ref yg, .int (nI dn), .ref yw, .ref yc, .ref yv, .int (nI snt), .int (nI jd), .ref yr, .int (nI bn), .ref yC, .ref yD, .ref yF, .ref yS, .ref yV, .ref yH, .int (nI 1)])), (yV, .inl (G.2.1, 140, .inl v))]) [0, 6] rfl)⟩, w.2.1.F ht9⟩) w.2.1.2.2 dX6_hasFault_27
  · have q_8_20 : (okC nA nJ x y z) = true := bI_n0.mp c_8_19
    have h9a := q_8_20
    have hT : th1 (okC nA nJ x y z) = 0 := by simp [th1, h9a]
    obtain ⟨a, ha, i, hi, p0, hp, rfl, rfl, rfl⟩ := okC_yes (by omega) (by omega) h9a
    have eN := cN_nI ha hi hp hnA hnJ
    have ea : cl (nI a) = a := cl_nI (by omega)
    have ei : cl (nI i) = i := cl_nI (by omega)
    have ep : cl (nI p0) = p0 := cl_nI (by omega)
    refine lv_iconst (v := nI 0) hx hb dX6_hasFault_11 (by decide) ?_
    refine lv_goto (tgt := 16) hx hb dX6_hasFault_12 (by decide) ?_
    have w := b_wide [M, yV] b_nil w
    refine b_put (ty := .int) X E w (Or.inl (List.mem_of_getElem? (i := 0) rfl)) 0 rfl rfl 20 (by decide) iX6 tyX6 tyX6_ok nmX6 (by decide +kernel) rfl rfl (by decide +kernel) rfl rfl (Nat.le_of_ble_eq_true rfl) dX6_hasFault_16 (fun H locs w => ?_)
    have w : bSt G vwCl [M, yV] s [(M, .inr (6, [.int (nI td), .int (nI nA), .int (nI nJ), .ref yA, .ref yJ, .ref yg, .int (nI dn), .ref yw, .ref yc, .ref yv, .int (nI snt), .int (nI jd), .ref yr, .int (nI bn), .ref yC, .ref yD, .ref yF, .ref yS, .ref yV, .ref yH, .int (nI 0)])), (yA, .inl (G.2.1, 14, .inl fA)), (yJ, .inl (G.2.1, 10, .inl fJ)), (yC, .inl (G.2.1, 300, .inl bc)), (yD, .inl (G.2.1, 300, .inl bd)), (yF, .inl (G.2.1, 300, .inl bf)), (yV, .inl (G.2.1, 140, .inl v))] _ _ := w
    refine lv_aload_n hx hb dX6_hasFault_19 rfl (lv_at hl 0 rfl) ?_
    refine b_get X E w 0 rfl rfl 20 (by decide) iX6 (by decide +kernel) rfl rfl dX6_hasFault_20 ?_
    refine lv_if_le (tgt := 28) hx hb dX6_hasFault_23 (by decide) (fun c_23_22 => ?_) (fun c_23_22 => ?_)
    · refine lv_aload_n hx hb dX6_hasFault_28 rfl (lv_at hl 0 rfl) ?_
      refine lv_iload_n hx hb dX6_hasFault_29 rfl (lv_at hl 3 rfl) ?_
      refine lv_aload_n hx hb dX6_hasFault_30 rfl (lv_at hl 0 rfl) ?_
      refine b_get X E w 0 rfl rfl 0 (by decide) iX6 (by decide +kernel) rfl rfl dX6_hasFault_31 ?_
      refine b_callv w (va_runV (As := [.int (nI p0), .int (nI td)]) (rest := []) X (c_X6_finds l hl0 G _ (M := M) (p0 := p0) (d := nI td) (td := td) (nA := nA) (nJ := nJ) (yA := yA) (yJ := yJ) (yg := yg) (dn := dn) (yw := yw) (yc := yc) (yv := yv) (snt := snt) (jd := jd) (yr := yr) (bn := bn) (yC := yC) (yD := yD) (yF := yF) (yS := yS) (yV := yV) (yH := yH) (th := nI 0) (fA := fA) (fJ := fJ) (bc := bc) (bd := bd) (bf := bf) (v := v) (hnA := (by first | assumption | omega)) (hnJ := (by first | assumption | omega)) (hTA := (by first | assumption | omega)) (hTJ := (by first | assumption | omega)) (hbn := (by first | assumption | omega)) (hp := (by first | assumption | omega))) (cwV 2 hts gX6_hasFault_X6_finds rfl rfl rfl (by decide +kernel) ⟨Nat.le_of_ble_eq_true rfl, Nat.le_of_ble_eq_true rfl⟩) ⟨b_blind, b_recv E w (ci := 6) (q0 := 0) rfl rfl, (fun U9 hU9 hW9 => ⟨rfl, b_pre E Z w [0, 1, 2, 3, 4, 5, 6] (by decide) rfl (b_subA [1] rfl) U9 hU9 hW9⟩)⟩ rfl rfl hl.1 rfl (lv_room (Nat.le_of_ble_eq_true rfl)) dX6_hasFault_34 ⟨Nat.le_of_ble_eq_true rfl, Nat.le_of_ble_eq_true rfl⟩) (b_subA [1] rfl) [6] (fun _ => rfl) rfl (fun u0 H locs hr34_23 w => ?_)
      have w : bSt G vwCl [M, yV] s [(M, .inr (6, [.int (nI td), .int (nI nA), .int (nI nJ), .ref yA, .ref yJ, .ref yg, .int (nI dn), .ref yw, .ref yc, .ref yv, .int (nI snt), .int (nI jd), .ref yr, .int (nI bn), .ref yC, .ref yD, .ref yF, .ref yS, .ref yV, .ref yH, .int (nI 0)])), (yA, .inl (G.2.1, 14, .inl fA)), (yJ, .inl (G.2.1, 10, .inl fJ)), (yC, .inl (G.2.1, 300, .inl bc)), (yD, .inl (G.2.1, 300, .inl bd)), (yF, .inl (G.2.1, 300, .inl bf)), (yV, .inl (G.2.1, 140, .inl u0))] _ _ := w
      have hu0 := hr34_23
      refine lv_aload_n hx hb dX6_hasFault_37 rfl (lv_at hl 0 rfl) ?_
      refine lv_iload_n hx hb dX6_hasFault_38 rfl (lv_at hl 1 rfl) ?_
      refine lv_iload_n hx hb dX6_hasFault_39 rfl (lv_at hl 2 rfl) ?_
      refine lv_iload_n hx hb dX6_hasFault_40 rfl (lv_at hl 3 rfl) ?_
      refine b_calli w (va_runS (As := [.int (nI a), .int (nI i), .int (nI p0)]) (rest := [.ref M]) X (c_X6_cellOf l hl0 G _ (a := a) (i := i) (p0 := p0) ) (va_cwS 3 hts gX6_hasFault_X6_cellOf rfl rfl rfl (by decide +kernel) ⟨Nat.le_of_ble_eq_true rfl, Nat.le_of_ble_eq_true rfl⟩) ⟨b_blind, (fun U9 hU9 hW9 => ⟨rfl, b_pre E Z w [] (by decide) rfl b_nil U9 hU9 hW9⟩)⟩ rfl rfl hl.1 rfl (lv_room (Nat.le_of_ble_eq_true rfl)) dX6_hasFault_41 ⟨Nat.le_of_ble_eq_true rfl, Nat.le_of_ble_eq_true rfl⟩) b_nil [] (fun _ => rfl) rfl (fun r41_24 u41_24 H locs hr41_24 w => ?_)
      have w : bSt G vwCl [M, yV] s [(M, .inr (6, [.int (nI td), .int (nI nA), .int (nI nJ), .ref yA, .ref yJ, .ref yg, .int (nI dn), .ref yw, .ref yc, .ref yv, .int (nI snt), .int (nI jd), .ref yr, .int (nI bn), .ref yC, .ref yD, .ref yF, .ref yS, .ref yV, .ref yH, .int (nI 0)])), (yA, .inl (G.2.1, 14, .inl fA)), (yJ, .inl (G.2.1, 10, .inl fJ)), (yC, .inl (G.2.1, 300, .inl bc)), (yD, .inl (G.2.1, 300, .inl bd)), (yF, .inl (G.2.1, 300, .inl bf)), (yV, .inl (G.2.1, 140, .inl u0))] _ _ := w
      subst hr41_24
      refine lv_aload_n hx hb dX6_hasFault_44 rfl (lv_at hl 0 rfl) ?_
      refine b_get X E w 0 rfl rfl 0 (by decide) iX6 (by decide +kernel) rfl rfl dX6_hasFault_45 ?_
      refine b_calli w (va_runV (As := [.int (nI (140 * p0 + (10 * a + i))), .int (nI td)]) (rest := []) X (c_X6_figureOn l hl0 G _ (M := M) (x := nI (140 * p0 + (10 * a + i))) (d := nI td) (td := td) (nA := nA) (nJ := nJ) (yA := yA) (yJ := yJ) (yg := yg) (dn := dn) (yw := yw) (yc := yc) (yv := yv) (snt := snt) (jd := jd) (yr := yr) (bn := bn) (yC := yC) (yD := yD) (yF := yF) (yS := yS) (yV := yV) (yH := yH) (th := nI 0) (bc := bc) (bd := bd) (bf := bf) (hbn := (by first | assumption | omega))) (cwV 2 hts gX6_hasFault_X6_figureOn rfl rfl rfl (by decide +kernel) ⟨Nat.le_of_ble_eq_true rfl, Nat.le_of_ble_eq_true rfl⟩) ⟨b_blind, b_recv E w (ci := 6) (q0 := 0) rfl rfl, (fun U9 hU9 hW9 => ⟨rfl, b_pre E Z w [0, 3, 4, 5] (by decide) rfl b_nil U9 hU9 hW9⟩)⟩ rfl rfl hl.1 rfl (lv_room (Nat.le_of_ble_eq_true rfl)) dX6_hasFault_48 ⟨Nat.le_of_ble_eq_true rfl, Nat.le_of_ble_eq_true rfl⟩) b_nil [] (fun _ => rfl) rfl (fun r48_25 u48_25 H locs hr48_25 w => ?_)
      have w : bSt G vwCl [M, yV] s [(M, .inr (6, [.int (nI td), .int (nI nA), .int (nI nJ), .ref yA, .ref yJ, .ref yg, .int (nI dn), .ref yw, .ref yc, .ref yv, .int (nI snt), .int (nI jd), .ref yr, .int (nI bn), .ref yC, .ref yD, .ref yF, .ref yS, .ref yV, .ref yH, .int (nI 0)])), (yA, .inl (G.2.1, 14, .inl fA)), (yJ, .inl (G.2.1, 10, .inl fJ)), (yC, .inl (G.2.1, 300, .inl bc)), (yD, .inl (G.2.1, 300, .inl bd)), (yF, .inl (G.2.1, 300, .inl bf)), (yV, .inl (G.2.1, 140, .inl u0))] _ _ := w
      subst hr48_25
      refine lv_istore (lv' := [(4, .int (fo bc bd bf (nI (140 * p0 + (10 * a + i))) (nI td) bn)), (0, .ref M), (1, .int (nI a)), (2, .int (nI i)), (3, .int (nI p0))]) hx hb dX6_hasFault_51 hl (by decide) rfl (fun ls hl => ?_)
      refine lv_aload_n hx hb dX6_hasFault_53 rfl (lv_at hl 1 rfl) ?_
      refine lv_iload_n hx hb dX6_hasFault_54 rfl (lv_at hl 2 rfl) ?_
      refine lv_iload_n hx hb dX6_hasFault_55 rfl (lv_at hl 3 rfl) ?_
      refine lv_iconst (v := nI 0) hx hb dX6_hasFault_56 (by decide) ?_
      refine b_calli w (va_runV (As := [.int (nI a), .int (nI i), .int (nI 0)]) (rest := []) X (c_X6_sumOf_A l hl0 G _ (M := M) (a := a) (i := i) (td := td) (nA := nA) (nJ := nJ) (yA := yA) (yJ := yJ) (yg := yg) (dn := dn) (yw := yw) (yc := yc) (yv := yv) (snt := snt) (jd := jd) (yr := yr) (bn := bn) (yC := yC) (yD := yD) (yF := yF) (yS := yS) (yV := yV) (yH := yH) (th := nI 0) (fA := fA) (v := u0) (hnA := (by first | assumption | omega)) (hnJ := (by first | assumption | omega)) (ha := (by first | assumption | omega)) (hi := (by first | assumption | omega))) (cwV 3 hts gX6_hasFault_X6_sumOf rfl rfl rfl (by decide +kernel) ⟨Nat.le_of_ble_eq_true rfl, Nat.le_of_ble_eq_true rfl⟩) ⟨b_blind, b_recv E w (ci := 6) (q0 := 0) rfl rfl, (fun U9 hU9 hW9 => ⟨rfl, b_pre E Z w [0, 1, 6] (by decide) rfl b_nil U9 hU9 hW9⟩)⟩ rfl rfl hl.1 rfl (lv_room (Nat.le_of_ble_eq_true rfl)) dX6_hasFault_57 ⟨Nat.le_of_ble_eq_true rfl, Nat.le_of_ble_eq_true rfl⟩) b_nil [] (fun _ => rfl) rfl (fun r57_26 u57_26 H locs hr57_26 w => ?_)
      have w : bSt G vwCl [M, yV] s [(M, .inr (6, [.int (nI td), .int (nI nA), .int (nI nJ), .ref yA, .ref yJ, .ref yg, .int (nI dn), .ref yw, .ref yc, .ref yv, .int (nI snt), .int (nI jd), .ref yr, .int (nI bn), .ref yC, .ref yD, .ref yF, .ref yS, .ref yV, .ref yH, .int (nI 0)])), (yA, .inl (G.2.1, 14, .inl fA)), (yJ, .inl (G.2.1, 10, .inl fJ)), (yC, .inl (G.2.1, 300, .inl bc)), (yD, .inl (G.2.1, 300, .inl bd)), (yF, .inl (G.2.1, 300, .inl bf)), (yV, .inl (G.2.1, 140, .inl u0))] _ _ := w
      subst hr57_26
      refine lv_istore (lv' := [(5, .int (sA fA nA u0 a i)), (4, .int (fo bc bd bf (nI (140 * p0 + (10 * a + i))) (nI td) bn)), (0, .ref M), (1, .int (nI a)), (2, .int (nI i)), (3, .int (nI p0))]) hx hb dX6_hasFault_60 hl (by decide) rfl (fun ls hl => ?_)
      refine lv_aload_n hx hb dX6_hasFault_62 rfl (lv_at hl 2 rfl) ?_
      refine lv_iload_n hx hb dX6_hasFault_63 rfl (lv_at hl 3 rfl) ?_
      refine lv_iload_n hx hb dX6_hasFault_64 rfl (lv_at hl 4 rfl) ?_
      refine lv_iconst (v := nI 1) hx hb dX6_hasFault_65 (by decide) ?_
      refine b_calli w (va_runV (As := [.int (nI a), .int (nI i), .int (nI 1)]) (rest := []) X (c_X6_sumOf_J l hl0 G _ (M := M) (a := a) (i := i) (td := td) (nA := nA) (nJ := nJ) (yA := yA) (yJ := yJ) (yg := yg) (dn := dn) (yw := yw) (yc := yc) (yv := yv) (snt := snt) (jd := jd) (yr := yr) (bn := bn) (yC := yC) (yD := yD) (yF := yF) (yS := yS) (yV := yV) (yH := yH) (th := nI 0) (fJ := fJ) (v := u0) (hnA := (by first | assumption | omega)) (hnJ := (by first | assumption | omega)) (ha := (by first | assumption | omega)) (hi := (by first | assumption | omega))) (cwV 3 hts gX6_hasFault_X6_sumOf rfl rfl rfl (by decide +kernel) ⟨Nat.le_of_ble_eq_true rfl, Nat.le_of_ble_eq_true rfl⟩) ⟨b_blind, b_recv E w (ci := 6) (q0 := 0) rfl rfl, (fun U9 hU9 hW9 => ⟨rfl, b_pre E Z w [0, 2, 6] (by decide) rfl b_nil U9 hU9 hW9⟩)⟩ rfl rfl hl.1 rfl (lv_room (Nat.le_of_ble_eq_true rfl)) dX6_hasFault_66 ⟨Nat.le_of_ble_eq_true rfl, Nat.le_of_ble_eq_true rfl⟩) b_nil [] (fun _ => rfl) rfl (fun r66_27 u66_27 H locs hr66_27 w => ?_)
      have w : bSt G vwCl [M, yV] s [(M, .inr (6, [.int (nI td), .int (nI nA), .int (nI nJ), .ref yA, .ref yJ, .ref yg, .int (nI dn), .ref yw, .ref yc, .ref yv, .int (nI snt), .int (nI jd), .ref yr, .int (nI bn), .ref yC, .ref yD, .ref yF, .ref yS, .ref yV, .ref yH, .int (nI 0)])), (yA, .inl (G.2.1, 14, .inl fA)), (yJ, .inl (G.2.1, 10, .inl fJ)), (yC, .inl (G.2.1, 300, .inl bc)), (yD, .inl (G.2.1, 300, .inl bd)), (yF, .inl (G.2.1, 300, .inl bf)), (yV, .inl (G.2.1, 140, .inl u0))] _ _ := w
      subst hr66_27
      refine lv_istore (lv' := [(6, .int (sJ fJ nJ u0 a i)), (5, .int (sA fA nA u0 a i)), (4, .int (fo bc bd bf (nI (140 * p0 + (10 * a + i))) (nI td) bn)), (0, .ref M), (1, .int (nI a)), (2, .int (nI i)), (3, .int (nI p0))]) hx hb dX6_hasFault_69 hl (by decide) rfl (fun ls hl => ?_)
      refine lv_iload hx hb dX6_hasFault_71 (lv_at hl 2 rfl) ?_
      refine lv_ldc (v := MIS) hx hb hown (hts (.constant RX6 86 (-2000000001)) (by decide +kernel)) dX6_hasFault_73 ?_
      refine lv_icmp_eq (tgt := 110) hx hb dX6_hasFault_75 (by decide) (fun c_75_28 => ?_) (fun c_75_28 => ?_)
      · refine lv_iconst (v := nI 0) hx hb dX6_hasFault_110 (by decide) ?_
        exact W.zret (v := nI 0) hx hb hr rfl (fun t9 ht9 hW9 => ⟨⟨nI 0, u0, rfl, fun _ => ⟨by rw [ep]; exact hu0, bI_zero (by rw [eN, ea, ei]; simp [iOS, q_8_20, c_23_22, c_75_28])⟩, by show va_P G.1 vwCl _ t9.heap; rw [ht9]; exact b_cg (by rw [hT]) (w.1.sub (ws' := [(M, .inr (6, [.int (nI td), .int (nI nA), .int (nI nJ), .ref yA, .ref yJ, .ref yg, .int (nI dn), .ref yw, .ref yc, .ref yv, .int (nI snt), .int (nI jd), .ref yr, .int (nI bn), .ref yC, .ref yD, .ref yF, .ref yS, .ref yV, .ref yH, .int (nI 0)])), (yV, .inl (G.2.1, 140, .inl u0))]) [0, 6] rfl)⟩, w.2.1.F ht9⟩) w.2.1.2.2 dX6_hasFault_111
      · refine lv_iload hx hb dX6_hasFault_78 (lv_at hl 1 rfl) ?_
        refine lv_ldc (v := MIS) hx hb hown (hts (.constant RX6 86 (-2000000001)) (by decide +kernel)) dX6_hasFault_80 ?_
        refine lv_icmp_eq (tgt := 92) hx hb dX6_hasFault_82 (by decide) (fun c_82_29 => ?_) (fun c_82_29 => ?_)
        · refine lv_iload hx hb dX6_hasFault_92 (lv_at hl 0 rfl) ?_
          refine lv_ldc (v := MIS) hx hb hown (hts (.constant RX6 86 (-2000000001)) (by decide +kernel)) dX6_hasFault_94 ?_
          refine lv_icmp_eq (tgt := 110) hx hb dX6_hasFault_96 (by decide) (fun c_96_30 => ?_) (fun c_96_30 => ?_)
          · refine lv_iconst (v := nI 0) hx hb dX6_hasFault_110 (by decide) ?_
            exact W.zret (v := nI 0) hx hb hr rfl (fun t9 ht9 hW9 => ⟨⟨nI 0, u0, rfl, fun _ => ⟨by rw [ep]; exact hu0, bI_zero (by rw [eN, ea, ei]; simp [iOS, q_8_20, c_23_22, c_75_28, c_82_29, c_96_30])⟩, by show va_P G.1 vwCl _ t9.heap; rw [ht9]; exact b_cg (by rw [hT]) (w.1.sub (ws' := [(M, .inr (6, [.int (nI td), .int (nI nA), .int (nI nJ), .ref yA, .ref yJ, .ref yg, .int (nI dn), .ref yw, .ref yc, .ref yv, .int (nI snt), .int (nI jd), .ref yr, .int (nI bn), .ref yC, .ref yD, .ref yF, .ref yS, .ref yV, .ref yH, .int (nI 0)])), (yV, .inl (G.2.1, 140, .inl u0))]) [0, 6] rfl)⟩, w.2.1.F ht9⟩) w.2.1.2.2 dX6_hasFault_111
          · refine lv_iload hx hb dX6_hasFault_99 (lv_at hl 0 rfl) ?_
            refine lv_iload hx hb dX6_hasFault_101 (lv_at hl 2 rfl) ?_
            refine lv_icmp_eq (tgt := 110) hx hb dX6_hasFault_103 (by decide) (fun c_103_31 => ?_) (fun c_103_31 => ?_)
            · refine lv_iconst (v := nI 0) hx hb dX6_hasFault_110 (by decide) ?_
              exact W.zret (v := nI 0) hx hb hr rfl (fun t9 ht9 hW9 => ⟨⟨nI 0, u0, rfl, fun _ => ⟨by rw [ep]; exact hu0, bI_zero (by rw [eN, ea, ei]; simp [iOS, q_8_20, c_23_22, c_75_28, c_82_29, c_96_30, c_103_31])⟩, by show va_P G.1 vwCl _ t9.heap; rw [ht9]; exact b_cg (by rw [hT]) (w.1.sub (ws' := [(M, .inr (6, [.int (nI td), .int (nI nA), .int (nI nJ), .ref yA, .ref yJ, .ref yg, .int (nI dn), .ref yw, .ref yc, .ref yv, .int (nI snt), .int (nI jd), .ref yr, .int (nI bn), .ref yC, .ref yD, .ref yF, .ref yS, .ref yV, .ref yH, .int (nI 0)])), (yV, .inl (G.2.1, 140, .inl u0))]) [0, 6] rfl)⟩, w.2.1.F ht9⟩) w.2.1.2.2 dX6_hasFault_111
            · refine lv_iconst (v := nI 1) hx hb dX6_hasFault_106 (by decide) ?_
              refine lv_goto (tgt := 111) hx hb dX6_hasFault_107 (by decide) ?_
              exact W.zret (v := nI 1) hx hb hr rfl (fun t9 ht9 hW9 => ⟨⟨nI 1, u0, rfl, fun _ => ⟨by rw [ep]; exact hu0, bI_one (by rw [eN, ea, ei]; simp [iOS, q_8_20, c_23_22, c_75_28, c_82_29, c_96_30, c_103_31])⟩, by show va_P G.1 vwCl _ t9.heap; rw [ht9]; exact b_cg (by rw [hT]) (w.1.sub (ws' := [(M, .inr (6, [.int (nI td), .int (nI nA), .int (nI nJ), .ref yA, .ref yJ, .ref yg, .int (nI dn), .ref yw, .ref yc, .ref yv, .int (nI snt), .int (nI jd), .ref yr, .int (nI bn), .ref yC, .ref yD, .ref yF, .ref yS, .ref yV, .ref yH, .int (nI 0)])), (yV, .inl (G.2.1, 140, .inl u0))]) [0, 6] rfl)⟩, w.2.1.F ht9⟩) w.2.1.2.2 dX6_hasFault_111
        · refine lv_iload hx hb dX6_hasFault_85 (lv_at hl 1 rfl) ?_
          refine lv_iload hx hb dX6_hasFault_87 (lv_at hl 2 rfl) ?_
          refine lv_icmp_ne (tgt := 106) hx hb dX6_hasFault_89 (by decide) (fun c_89_32 => ?_) (fun c_89_32 => ?_)
          · refine lv_iconst (v := nI 1) hx hb dX6_hasFault_106 (by decide) ?_
            refine lv_goto (tgt := 111) hx hb dX6_hasFault_107 (by decide) ?_
            exact W.zret (v := nI 1) hx hb hr rfl (fun t9 ht9 hW9 => ⟨⟨nI 1, u0, rfl, fun _ => ⟨by rw [ep]; exact hu0, bI_one (by rw [eN, ea, ei]; simp [iOS, q_8_20, c_23_22, c_75_28, c_82_29, c_89_32])⟩, by show va_P G.1 vwCl _ t9.heap; rw [ht9]; exact b_cg (by rw [hT]) (w.1.sub (ws' := [(M, .inr (6, [.int (nI td), .int (nI nA), .int (nI nJ), .ref yA, .ref yJ, .ref yg, .int (nI dn), .ref yw, .ref yc, .ref yv, .int (nI snt), .int (nI jd), .ref yr, .int (nI bn), .ref yC, .ref yD, .ref yF, .ref yS, .ref yV, .ref yH, .int (nI 0)])), (yV, .inl (G.2.1, 140, .inl u0))]) [0, 6] rfl)⟩, w.2.1.F ht9⟩) w.2.1.2.2 dX6_hasFault_111
          · refine lv_iload hx hb dX6_hasFault_92 (lv_at hl 0 rfl) ?_
            refine lv_ldc (v := MIS) hx hb hown (hts (.constant RX6 86 (-2000000001)) (by decide +kernel)) dX6_hasFault_94 ?_
            refine lv_icmp_eq (tgt := 110) hx hb dX6_hasFault_96 (by decide) (fun c_96_33 => ?_) (fun c_96_33 => ?_)
            · refine lv_iconst (v := nI 0) hx hb dX6_hasFault_110 (by decide) ?_
              exact W.zret (v := nI 0) hx hb hr rfl (fun t9 ht9 hW9 => ⟨⟨nI 0, u0, rfl, fun _ => ⟨by rw [ep]; exact hu0, bI_zero (by rw [eN, ea, ei]; simp [iOS, q_8_20, c_23_22, c_75_28, c_82_29, c_89_32, c_96_33])⟩, by show va_P G.1 vwCl _ t9.heap; rw [ht9]; exact b_cg (by rw [hT]) (w.1.sub (ws' := [(M, .inr (6, [.int (nI td), .int (nI nA), .int (nI nJ), .ref yA, .ref yJ, .ref yg, .int (nI dn), .ref yw, .ref yc, .ref yv, .int (nI snt), .int (nI jd), .ref yr, .int (nI bn), .ref yC, .ref yD, .ref yF, .ref yS, .ref yV, .ref yH, .int (nI 0)])), (yV, .inl (G.2.1, 140, .inl u0))]) [0, 6] rfl)⟩, w.2.1.F ht9⟩) w.2.1.2.2 dX6_hasFault_111
            · refine lv_iload hx hb dX6_hasFault_99 (lv_at hl 0 rfl) ?_
              refine lv_iload hx hb dX6_hasFault_101 (lv_at hl 2 rfl) ?_
              refine lv_icmp_eq (tgt := 110) hx hb dX6_hasFault_103 (by decide) (fun c_103_34 => ?_) (fun c_103_34 => ?_)
              · refine lv_iconst (v := nI 0) hx hb dX6_hasFault_110 (by decide) ?_
                exact W.zret (v := nI 0) hx hb hr rfl (fun t9 ht9 hW9 => ⟨⟨nI 0, u0, rfl, fun _ => ⟨by rw [ep]; exact hu0, bI_zero (by rw [eN, ea, ei]; simp [iOS, q_8_20, c_23_22, c_75_28, c_82_29, c_89_32, c_96_33, c_103_34])⟩, by show va_P G.1 vwCl _ t9.heap; rw [ht9]; exact b_cg (by rw [hT]) (w.1.sub (ws' := [(M, .inr (6, [.int (nI td), .int (nI nA), .int (nI nJ), .ref yA, .ref yJ, .ref yg, .int (nI dn), .ref yw, .ref yc, .ref yv, .int (nI snt), .int (nI jd), .ref yr, .int (nI bn), .ref yC, .ref yD, .ref yF, .ref yS, .ref yV, .ref yH, .int (nI 0)])), (yV, .inl (G.2.1, 140, .inl u0))]) [0, 6] rfl)⟩, w.2.1.F ht9⟩) w.2.1.2.2 dX6_hasFault_111
              · refine lv_iconst (v := nI 1) hx hb dX6_hasFault_106 (by decide) ?_
                refine lv_goto (tgt := 111) hx hb dX6_hasFault_107 (by decide) ?_
                exact W.zret (v := nI 1) hx hb hr rfl (fun t9 ht9 hW9 => ⟨⟨nI 1, u0, rfl, fun _ => ⟨by rw [ep]; exact hu0, bI_one (by rw [eN, ea, ei]; simp [iOS, q_8_20, c_23_22, c_75_28, c_82_29, c_89_32, c_96_33, c_103_34])⟩, by show va_P G.1 vwCl _ t9.heap; rw [ht9]; exact b_cg (by rw [hT]) (w.1.sub (ws' := [(M, .inr (6, [.int (nI td), .int (nI nA), .int (nI nJ), .ref yA, .ref yJ, .ref yg, .int (nI dn), .ref yw, .ref yc, .ref yv, .int (nI snt), .int (nI jd), .ref yr, .int (nI bn), .ref yC, .ref yD, .ref yF, .ref yS, .ref yV, .ref yH, .int (nI 0)])), (yV, .inl (G.2.1, 140, .inl u0))]) [0, 6] rfl)⟩, w.2.1.F ht9⟩) w.2.1.2.2 dX6_hasFault_111
    · exact absurd (by decide) c_23_22
set_option maxHeartbeats 4000000 in
set_option maxRecDepth 100000 in
theorem c_X6_shown (l : Launch) (hl0 : l.stackTraces = false) (G : bG) (sz : Nat) (M yA yJ yg yw yc yv yr yC yD yF yS yV yH td nA nJ dn snt jd bn : Nat) (th : Int32) (fA : Nat → Int32) (fJ : Nat → Int32) (bc : Nat → Int32) (bd : Nat → Int32) (bf : Nat → Int32) (v : Nat → Int32) (hid : Nat → Bool) (sc : Nat → Bool) (x y z : Int32) (hnA : nA ≤ 14) (hnJ : nJ ≤ 10) (hTA : TI fA nA) (hTJ : TI fJ nJ) (hbn : bn ≤ 300) : Met l yX6_shown wsX6_shown ({ frames := 3, cells := 0, slots := 0, locals := 82 }) (va_Pc [.ref M, .int x, .int y, .int z] (bPre G vwCl bNW bSW sz [(M, .inr (6, [.int (nI td), .int (nI nA), .int (nI nJ), .ref yA, .ref yJ, .ref yg, .int (nI dn), .ref yw, .ref yc, .ref yv, .int (nI snt), .int (nI jd), .ref yr, .int (nI bn), .ref yC, .ref yD, .ref yF, .ref yS, .ref yV, .ref yH, .int th])), (yA, .inl (G.2.1, 14, .inl fA)), (yJ, .inl (G.2.1, 10, .inl fJ)), (yC, .inl (G.2.1, 300, .inl bc)), (yD, .inl (G.2.1, 300, .inl bd)), (yF, .inl (G.2.1, 300, .inl bf)), (yV, .inl (G.2.1, 140, .inl v)), (yH, .inl (G.2.2.1, 140, .inl (zB hid))), (yS, .inl (G.2.2.1, 1680, .inl (zB sc)))] [M, yV, yH])) (va_Qi (fun (r : Int32) (u : Nat → Int32) => th1 (okC nA nJ x y z) = 0 → Fx (figs bc bd bf bn (cl z) (nI td)) fA nA fJ nJ u ∧ r = if hdM fA nA fJ nJ sc (cl z) u hid (10 * cl x + cl y) = true then HID else u (10 * cl x + cl y)) (fun (u : Nat → Int32) (tS : State) => va_P G.1 vwCl [(M, .inr (6, [.int (nI td), .int (nI nA), .int (nI nJ), .ref yA, .ref yJ, .ref yg, .int (nI dn), .ref yw, .ref yc, .ref yv, .int (nI snt), .int (nI jd), .ref yr, .int (nI bn), .ref yC, .ref yD, .ref yF, .ref yS, .ref yV, .ref yH, .int (nI (th1 (okC nA nJ x y z)))])), (yV, .inl (G.2.1, 140, .inl u)), (yH, .inl (G.2.2.1, 140, .inl (zB (gF (th1 (okC nA nJ x y z)) hid (hdM fA nA fJ nJ sc (cl z) u hid)))))] tS.heap) (Aw [M, yV, yH] sz)) 0 0 (Aw [M, yV, yH] sz) := by
  refine Met.ofW (cc := cX6_shown) (maxL := 5) (ret := (some .int)) (by decide) rfl ?_
  intro p e s m args below meth c s₁ B hml hv
  obtain ⟨rfl, hsz, hP, hD, E, Z⟩ := hv
  have hts := atoms_spec (ws := wsX6_shown) B.pre
  have hown : s.vm.findClass RX6 = some m.cls := findClass_of_methodNamed B.named
  have X : CallFix p m c cX6_shown 5 s _ wsX6_shown RX6 := ⟨B.exec, B.bytes, hml, hown, hts⟩
  have hx := B.exec
  have hb := B.bytes
  have hr := B.returns
  have hlocks := B.notSynchronized
  subst hsz
  have w : bSt G vwCl [] s [(M, .inr (6, [.int (nI td), .int (nI nA), .int (nI nJ), .ref yA, .ref yJ, .ref yg, .int (nI dn), .ref yw, .ref yc, .ref yv, .int (nI snt), .int (nI jd), .ref yr, .int (nI bn), .ref yC, .ref yD, .ref yF, .ref yS, .ref yV, .ref yH, .int th])), (yA, .inl (G.2.1, 14, .inl fA)), (yJ, .inl (G.2.1, 10, .inl fJ)), (yC, .inl (G.2.1, 300, .inl bc)), (yD, .inl (G.2.1, 300, .inl bd)), (yF, .inl (G.2.1, 300, .inl bf)), (yV, .inl (G.2.1, 140, .inl v)), (yH, .inl (G.2.2.1, 140, .inl (zB hid))), (yS, .inl (G.2.2.1, 1680, .inl (zB sc)))] s.heap [] := ⟨hP, va_S.rf, hD⟩
  have Z0 : bZ [] s := ⟨Z.1.narrow (fun q h => h.elim (fun h => nomatch h) Or.inr), Z.2.narrow (fun q h => h.elim (fun h => nomatch h) Or.inr)⟩
  have iX6 : ∀ w ∈ wsX60, w ∈ wsX6_shown := by decide +kernel
  have hl := lv_entry ([.ref M, .int x, .int y, .int z]) (n := 5) (Nat.le_of_ble_eq_true rfl)
  rw [lg_entry_eq]
  generalize (lg_sl ([.ref M, .int x, .int y, .int z]) ++ List.replicate (5 - (lg_sl ([.ref M, .int x, .int y, .int z])).length) Slot.unset).toArray = ls at hl ⊢
  have hl : lv_has ls 5 [(0, .ref M), (1, .int x), (2, .int y), (3, .int z)] := hl
  refine lv_aload_n hx hb dX6_shown_0 rfl (lv_at hl 0 rfl) ?_
  refine lv_aload_n hx hb dX6_shown_1 rfl (lv_at hl 0 rfl) ?_
  refine lv_iload_n hx hb dX6_shown_2 rfl (lv_at hl 1 rfl) ?_
  refine lv_iload_n hx hb dX6_shown_3 rfl (lv_at hl 2 rfl) ?_
  refine lv_iload_n hx hb dX6_shown_4 rfl (lv_at hl 3 rfl) ?_
  refine b_calli w (va_runV (As := [.int x, .int y, .int z]) (rest := [.ref M]) X (c_X6_isCell l hl0 G _ (M := M) (x := x) (y := y) (z := z) (td := td) (nA := nA) (nJ := nJ) (yA := yA) (yJ := yJ) (yg := yg) (dn := dn) (yw := yw) (yc := yc) (yv := yv) (snt := snt) (jd := jd) (yr := yr) (bn := bn) (yC := yC) (yD := yD) (yF := yF) (yS := yS) (yV := yV) (yH := yH) (th := th) (hnA := (by first | assumption | omega)) (hnJ := (by first | assumption | omega))) (cwV 3 hts gX6_shown_X6_isCell rfl rfl rfl (by decide +kernel) ⟨Nat.le_of_ble_eq_true rfl, Nat.le_of_ble_eq_true rfl⟩) ⟨b_blind, b_recv E w (ci := 6) (q0 := 0) rfl rfl, (fun U9 hU9 hW9 => ⟨rfl, b_pre E Z0 w [0] (by decide) rfl b_nil U9 hU9 hW9⟩)⟩ rfl rfl hl.1 rfl (lv_room (Nat.le_of_ble_eq_true rfl)) dX6_shown_5 ⟨Nat.le_of_ble_eq_true rfl, Nat.le_of_ble_eq_true rfl⟩) b_nil [] (fun _ => rfl) rfl (fun r5_11 u5_11 H locs hr5_11 w => ?_)
  have w : bSt G vwCl [] s [(M, .inr (6, [.int (nI td), .int (nI nA), .int (nI nJ), .ref yA, .ref yJ, .ref yg, .int (nI dn), .ref yw, .ref yc, .ref yv, .int (nI snt), .int (nI jd), .ref yr, .int (nI bn), .ref yC, .ref yD, .ref yF, .ref yS, .ref yV, .ref yH, .int th])), (yA, .inl (G.2.1, 14, .inl fA)), (yJ, .inl (G.2.1, 10, .inl fJ)), (yC, .inl (G.2.1, 300, .inl bc)), (yD, .inl (G.2.1, 300, .inl bd)), (yF, .inl (G.2.1, 300, .inl bf)), (yV, .inl (G.2.1, 140, .inl v)), (yH, .inl (G.2.2.1, 140, .inl (zB hid))), (yS, .inl (G.2.2.1, 1680, .inl (zB sc)))] _ _ := w
  subst hr5_11
  refine lv_if_eq (tgt := 15) hx hb dX6_shown_8 (by decide) (fun c_8_12 => ?_) (fun c_8_12 => ?_)
  · have q_8_13 : (okC nA nJ x y z) = false := bI_0.mp c_8_12
    have hT : th1 (okC nA nJ x y z) = 1 := by simp [th1, q_8_13]
    refine lv_iconst (v := nI 1) hx hb dX6_shown_15 (by decide) ?_
    have w := b_wide [M, yV, yH] b_nil w
    refine b_put (ty := .int) X E w (Or.inl (List.mem_of_getElem? (i := 0) rfl)) 0 rfl rfl 20 (by decide) iX6 tyX6 tyX6_ok nmX6 (by decide +kernel) rfl rfl (by decide +kernel) rfl rfl (Nat.le_of_ble_eq_true rfl) dX6_shown_16 (fun H locs w => ?_)
    have w : bSt G vwCl [M, yV, yH] s [(M, .inr (6, [.int (nI td), .int (nI nA), .int (nI nJ), .ref yA, .ref yJ, .ref yg, .int (nI dn), .ref yw, .ref yc, .ref yv, .int (nI snt), .int (nI jd), .ref yr, .int (nI bn), .ref yC, .ref yD, .ref yF, .ref yS, .ref yV, .ref yH, .int (nI 1)])), (yA, .inl (G.2.1, 14, .inl fA)), (yJ, .inl (G.2.1, 10, .inl fJ)), (yC, .inl (G.2.1, 300, .inl bc)), (yD, .inl (G.2.1, 300, .inl bd)), (yF, .inl (G.2.1, 300, .inl bf)), (yV, .inl (G.2.1, 140, .inl v)), (yH, .inl (G.2.2.1, 140, .inl (zB hid))), (yS, .inl (G.2.2.1, 1680, .inl (zB sc)))] _ _ := w
    refine lv_aload_n hx hb dX6_shown_19 rfl (lv_at hl 0 rfl) ?_
    refine b_get X E w 0 rfl rfl 20 (by decide) iX6 (by decide +kernel) rfl rfl dX6_shown_20 ?_
    refine lv_if_le (tgt := 28) hx hb dX6_shown_23 (by decide) (fun c_23_14 => ?_) (fun c_23_14 => ?_)
    · exact absurd c_23_14 (by decide)
    · refine lv_iconst (v := nI 0) hx hb dX6_shown_26 (by decide) ?_
      exact W.iret (v := nI 0) hx hb hr (fun t9 ht9 hW9 => ⟨⟨nI 0, v, rfl, fun h0 => absurd (hT.symm.trans h0) (by decide), by show va_P G.1 vwCl _ t9.heap; rw [ht9]; exact b_cg (by rw [hT]; rfl) (w.1.sub (ws' := [(M, .inr (6, [.int (nI td), .int (nI nA), .int (nI nJ), .ref yA, .ref yJ, .ref yg, .int (nI dn), .ref yw, .ref yc, .ref yv, .int (nI snt), .int (nI jd), .ref yr, .int (nI bn), .ref yC, .ref yD, .ref yF, .ref yS, .ref yV, .ref yH, .int (nI 1)])), (yV, .inl (G.2.1, 140, .inl v)), (yH, .inl (G.2.2.1, 140, .inl (zB hid)))]) [0, 6, 7] rfl)⟩, w.2.1.F ht9⟩) w.2.1.2.2 dX6_shown_27
  · have q_8_13 : (okC nA nJ x y z) = true := bI_n0.mp c_8_12
    have h9a := q_8_13
    have hT : th1 (okC nA nJ x y z) = 0 := by simp [th1, h9a]
    obtain ⟨a, ha, i, hi, p0, hp, rfl, rfl, rfl⟩ := okC_yes (by omega) (by omega) h9a
    have eN := cN_nI ha hi hp hnA hnJ
    have ea : cl (nI a) = a := cl_nI (by omega)
    have ei : cl (nI i) = i := cl_nI (by omega)
    have ep : cl (nI p0) = p0 := cl_nI (by omega)
    refine lv_iconst (v := nI 0) hx hb dX6_shown_11 (by decide) ?_
    refine lv_goto (tgt := 16) hx hb dX6_shown_12 (by decide) ?_
    have w := b_wide [M, yV, yH] b_nil w
    refine b_put (ty := .int) X E w (Or.inl (List.mem_of_getElem? (i := 0) rfl)) 0 rfl rfl 20 (by decide) iX6 tyX6 tyX6_ok nmX6 (by decide +kernel) rfl rfl (by decide +kernel) rfl rfl (Nat.le_of_ble_eq_true rfl) dX6_shown_16 (fun H locs w => ?_)
    have w : bSt G vwCl [M, yV, yH] s [(M, .inr (6, [.int (nI td), .int (nI nA), .int (nI nJ), .ref yA, .ref yJ, .ref yg, .int (nI dn), .ref yw, .ref yc, .ref yv, .int (nI snt), .int (nI jd), .ref yr, .int (nI bn), .ref yC, .ref yD, .ref yF, .ref yS, .ref yV, .ref yH, .int (nI 0)])), (yA, .inl (G.2.1, 14, .inl fA)), (yJ, .inl (G.2.1, 10, .inl fJ)), (yC, .inl (G.2.1, 300, .inl bc)), (yD, .inl (G.2.1, 300, .inl bd)), (yF, .inl (G.2.1, 300, .inl bf)), (yV, .inl (G.2.1, 140, .inl v)), (yH, .inl (G.2.2.1, 140, .inl (zB hid))), (yS, .inl (G.2.2.1, 1680, .inl (zB sc)))] _ _ := w
    refine lv_aload_n hx hb dX6_shown_19 rfl (lv_at hl 0 rfl) ?_
    refine b_get X E w 0 rfl rfl 20 (by decide) iX6 (by decide +kernel) rfl rfl dX6_shown_20 ?_
    refine lv_if_le (tgt := 28) hx hb dX6_shown_23 (by decide) (fun c_23_15 => ?_) (fun c_23_15 => ?_)
    · refine lv_aload_n hx hb dX6_shown_28 rfl (lv_at hl 0 rfl) ?_
      refine lv_iload_n hx hb dX6_shown_29 rfl (lv_at hl 3 rfl) ?_
      refine b_calli w (va_runV (As := [.int (nI p0)]) (rest := []) X (c_X6_covers l hl0 G _ (M := M) (p0 := p0) (td := td) (nA := nA) (nJ := nJ) (yA := yA) (yJ := yJ) (yg := yg) (dn := dn) (yw := yw) (yc := yc) (yv := yv) (snt := snt) (jd := jd) (yr := yr) (bn := bn) (yC := yC) (yD := yD) (yF := yF) (yS := yS) (yV := yV) (yH := yH) (th := nI 0) (fA := fA) (fJ := fJ) (bc := bc) (bd := bd) (bf := bf) (v := v) (hid := hid) (sc := sc) (hnA := (by first | assumption | omega)) (hnJ := (by first | assumption | omega)) (hTA := (by first | assumption | omega)) (hTJ := (by first | assumption | omega)) (hbn := (by first | assumption | omega)) (hp := (by first | assumption | omega))) (cwV 1 hts gX6_shown_X6_covers rfl rfl rfl (by decide +kernel) ⟨Nat.le_of_ble_eq_true rfl, Nat.le_of_ble_eq_true rfl⟩) ⟨b_blind, b_recv E w (ci := 6) (q0 := 0) rfl rfl, (fun U9 hU9 hW9 => ⟨rfl, b_pre E Z w [0, 1, 2, 3, 4, 5, 6, 7, 8] (by decide) rfl (b_subA [1, 2] rfl) U9 hU9 hW9⟩)⟩ rfl rfl hl.1 rfl (lv_room (Nat.le_of_ble_eq_true rfl)) dX6_shown_30 ⟨Nat.le_of_ble_eq_true rfl, Nat.le_of_ble_eq_true rfl⟩) (b_subA [1, 2] rfl) [6, 7] (fun _ => rfl) rfl (fun r30_16 u0 H locs hr30_16 w => ?_)
      have w : bSt G vwCl [M, yV, yH] s [(M, .inr (6, [.int (nI td), .int (nI nA), .int (nI nJ), .ref yA, .ref yJ, .ref yg, .int (nI dn), .ref yw, .ref yc, .ref yv, .int (nI snt), .int (nI jd), .ref yr, .int (nI bn), .ref yC, .ref yD, .ref yF, .ref yS, .ref yV, .ref yH, .int (nI 0)])), (yA, .inl (G.2.1, 14, .inl fA)), (yJ, .inl (G.2.1, 10, .inl fJ)), (yC, .inl (G.2.1, 300, .inl bc)), (yD, .inl (G.2.1, 300, .inl bd)), (yF, .inl (G.2.1, 300, .inl bf)), (yV, .inl (G.2.1, 140, .inl u0)), (yH, .inl (G.2.2.1, 140, .inl (zB (hdM fA nA fJ nJ sc p0 u0 hid)))), (yS, .inl (G.2.2.1, 1680, .inl (zB sc)))] _ _ := w
      obtain ⟨ehr30_16, hr30_16⟩ := hr30_16
      subst ehr30_16
      have hu0 := hr30_16
      have hc9 := cH_le (p := (fun _ => true)) (b := hdM fA nA fJ nJ sc p0 u0 hid) 140
      refine lv_istore (lv' := [(4, .int (nI (cH (fun _ => true) (hdM fA nA fJ nJ sc p0 u0 hid) 140))), (0, .ref M), (1, .int (nI a)), (2, .int (nI i)), (3, .int (nI p0))]) hx hb dX6_shown_33 hl (by decide) rfl (fun ls hl => ?_)
      refine lv_iload hx hb dX6_shown_35 (lv_at hl 0 rfl) ?_
      refine lv_if_le (tgt := 59) hx hb dX6_shown_37 (by decide) (fun c_37_17 => ?_) (fun c_37_17 => ?_)
      · have q_37_18 : (cH (fun _ => true) (hdM fA nA fJ nJ sc p0 u0 hid) 140) = 0 := Nat.le_zero.mp (q_le (b := 0) (by decide) (by omega) c_37_17)
        have h37 : hdM fA nA fJ nJ sc p0 u0 hid (10 * a + i) = false := cT_zero q_37_18 _ (by omega)
        refine lv_aload_n hx hb dX6_shown_59 rfl (lv_at hl 1 rfl) ?_
        refine b_get X E w 0 rfl rfl 18 (by decide) iX6 (by decide +kernel) rfl rfl dX6_shown_60 ?_
        refine lv_bipush (v := nI 10) hx hb dX6_shown_63 (by decide) ?_
        refine lv_iload_n hx hb dX6_shown_65 rfl (lv_at hl 2 rfl) ?_
        refine lv_imul hx hb dX6_shown_66 ?_
        refine b_tp (show (nI 10) * (nI a) = nI (10 * a) from pk_mul 10 a) ?_
        refine lv_iload_n hx hb dX6_shown_67 rfl (lv_at hl 3 rfl) ?_
        refine lv_iadd hx hb dX6_shown_68 ?_
        refine b_tp (show (nI (10 * a)) + (nI i) = nI ((10 * a) + i) from nI_add (10 * a) i) ?_
        refine b_iald X E w 6 rfl ((10 * a) + i) rfl (by omega) (by first | decide | omega) dX6_shown_69 ?_
        exact W.iret (v := u0 ((10 * a) + i)) hx hb hr (fun t9 ht9 hW9 => ⟨⟨u0 ((10 * a) + i), u0, rfl, fun _ => ⟨by rw [ep]; exact hu0, by rw [ea, ei, ep, h37]; simp⟩, by show va_P G.1 vwCl _ t9.heap; rw [ht9]; exact b_cg (by rw [hT, ep]; rfl) (w.1.sub (ws' := [(M, .inr (6, [.int (nI td), .int (nI nA), .int (nI nJ), .ref yA, .ref yJ, .ref yg, .int (nI dn), .ref yw, .ref yc, .ref yv, .int (nI snt), .int (nI jd), .ref yr, .int (nI bn), .ref yC, .ref yD, .ref yF, .ref yS, .ref yV, .ref yH, .int (nI 0)])), (yV, .inl (G.2.1, 140, .inl u0)), (yH, .inl (G.2.2.1, 140, .inl (zB (hdM fA nA fJ nJ sc p0 u0 hid))))]) [0, 6, 7] rfl)⟩, w.2.1.F ht9⟩) w.2.1.2.2 dX6_shown_70
      · have q_37_18 : 0 < (cH (fun _ => true) (hdM fA nA fJ nJ sc p0 u0 hid) 140) := q_nle (b := 0) (by decide) (by omega) c_37_17
        refine lv_aload_n hx hb dX6_shown_40 rfl (lv_at hl 1 rfl) ?_
        refine b_get X E w 0 rfl rfl 19 (by decide) iX6 (by decide +kernel) rfl rfl dX6_shown_41 ?_
        refine lv_bipush (v := nI 10) hx hb dX6_shown_44 (by decide) ?_
        refine lv_iload_n hx hb dX6_shown_46 rfl (lv_at hl 2 rfl) ?_
        refine lv_imul hx hb dX6_shown_47 ?_
        refine b_tp (show (nI 10) * (nI a) = nI (10 * a) from pk_mul 10 a) ?_
        refine lv_iload_n hx hb dX6_shown_48 rfl (lv_at hl 3 rfl) ?_
        refine lv_iadd hx hb dX6_shown_49 ?_
        refine b_tp (show (nI (10 * a)) + (nI i) = nI ((10 * a) + i) from nI_add (10 * a) i) ?_
        refine b_zald X E w 7 rfl ((10 * a) + i) rfl (by omega) (by first | decide | omega) dX6_shown_50 ?_
        refine b_tp (show zB (hdM fA nA fJ nJ sc p0 u0 hid) ((10 * a) + i) = bI ((hdM fA nA fJ nJ sc p0 u0 hid) ((10 * a) + i)) from rfl) ?_
        refine lv_if_eq (tgt := 59) hx hb dX6_shown_51 (by decide) (fun c_51_19 => ?_) (fun c_51_19 => ?_)
        · have q_51_20 : ((hdM fA nA fJ nJ sc p0 u0 hid) ((10 * a) + i)) = false := bI_0.mp c_51_19
          have h37 := q_51_20
          refine lv_aload_n hx hb dX6_shown_59 rfl (lv_at hl 1 rfl) ?_
          refine b_get X E w 0 rfl rfl 18 (by decide) iX6 (by decide +kernel) rfl rfl dX6_shown_60 ?_
          refine lv_bipush (v := nI 10) hx hb dX6_shown_63 (by decide) ?_
          refine lv_iload_n hx hb dX6_shown_65 rfl (lv_at hl 2 rfl) ?_
          refine lv_imul hx hb dX6_shown_66 ?_
          refine b_tp (show (nI 10) * (nI a) = nI (10 * a) from pk_mul 10 a) ?_
          refine lv_iload_n hx hb dX6_shown_67 rfl (lv_at hl 3 rfl) ?_
          refine lv_iadd hx hb dX6_shown_68 ?_
          refine b_tp (show (nI (10 * a)) + (nI i) = nI ((10 * a) + i) from nI_add (10 * a) i) ?_
          refine b_iald X E w 6 rfl ((10 * a) + i) rfl (by omega) (by first | decide | omega) dX6_shown_69 ?_
          exact W.iret (v := u0 ((10 * a) + i)) hx hb hr (fun t9 ht9 hW9 => ⟨⟨u0 ((10 * a) + i), u0, rfl, fun _ => ⟨by rw [ep]; exact hu0, by rw [ea, ei, ep, h37]; simp⟩, by show va_P G.1 vwCl _ t9.heap; rw [ht9]; exact b_cg (by rw [hT, ep]; rfl) (w.1.sub (ws' := [(M, .inr (6, [.int (nI td), .int (nI nA), .int (nI nJ), .ref yA, .ref yJ, .ref yg, .int (nI dn), .ref yw, .ref yc, .ref yv, .int (nI snt), .int (nI jd), .ref yr, .int (nI bn), .ref yC, .ref yD, .ref yF, .ref yS, .ref yV, .ref yH, .int (nI 0)])), (yV, .inl (G.2.1, 140, .inl u0)), (yH, .inl (G.2.2.1, 140, .inl (zB (hdM fA nA fJ nJ sc p0 u0 hid))))]) [0, 6, 7] rfl)⟩, w.2.1.F ht9⟩) w.2.1.2.2 dX6_shown_70
        · have q_51_20 : ((hdM fA nA fJ nJ sc p0 u0 hid) ((10 * a) + i)) = true := bI_n0.mp c_51_19
          have h37 := q_51_20
          refine lv_ldc (v := HID) hx hb hown (hts (.constant RX6 132 (-2000000002)) (by decide +kernel)) dX6_shown_54 ?_
          refine lv_goto (tgt := 70) hx hb dX6_shown_56 (by decide) ?_
          exact W.iret (v := HID) hx hb hr (fun t9 ht9 hW9 => ⟨⟨HID, u0, rfl, fun _ => ⟨by rw [ep]; exact hu0, by rw [ea, ei, ep, h37]; simp⟩, by show va_P G.1 vwCl _ t9.heap; rw [ht9]; exact b_cg (by rw [hT, ep]; rfl) (w.1.sub (ws' := [(M, .inr (6, [.int (nI td), .int (nI nA), .int (nI nJ), .ref yA, .ref yJ, .ref yg, .int (nI dn), .ref yw, .ref yc, .ref yv, .int (nI snt), .int (nI jd), .ref yr, .int (nI bn), .ref yC, .ref yD, .ref yF, .ref yS, .ref yV, .ref yH, .int (nI 0)])), (yV, .inl (G.2.1, 140, .inl u0)), (yH, .inl (G.2.2.1, 140, .inl (zB (hdM fA nA fJ nJ sc p0 u0 hid))))]) [0, 6, 7] rfl)⟩, w.2.1.F ht9⟩) w.2.1.2.2 dX6_shown_70
    · exact absurd (by decide) c_23_15
set_option maxHeartbeats 4000000 in
set_option maxRecDepth 100000 in
theorem c_X6_hidden (l : Launch) (hl0 : l.stackTraces = false) (G : bG) (sz : Nat) (M yA yJ yg yw yc yv yr yC yD yF yS yV yH td nA nJ dn snt jd bn : Nat) (th : Int32) (fA : Nat → Int32) (fJ : Nat → Int32) (bc : Nat → Int32) (bd : Nat → Int32) (bf : Nat → Int32) (v : Nat → Int32) (hid : Nat → Bool) (sc : Nat → Bool) (x : Int32) (hnA : nA ≤ 14) (hnJ : nJ ≤ 10) (hTA : TI fA nA) (hTJ : TI fJ nJ) (hbn : bn ≤ 300) : Met l yX6_hidden wsX6_hidden ({ frames := 3, cells := 0, slots := 0, locals := 82 }) (va_Pc [.ref M, .int x] (bPre G vwCl bNW bSW sz [(M, .inr (6, [.int (nI td), .int (nI nA), .int (nI nJ), .ref yA, .ref yJ, .ref yg, .int (nI dn), .ref yw, .ref yc, .ref yv, .int (nI snt), .int (nI jd), .ref yr, .int (nI bn), .ref yC, .ref yD, .ref yF, .ref yS, .ref yV, .ref yH, .int th])), (yA, .inl (G.2.1, 14, .inl fA)), (yJ, .inl (G.2.1, 10, .inl fJ)), (yC, .inl (G.2.1, 300, .inl bc)), (yD, .inl (G.2.1, 300, .inl bd)), (yF, .inl (G.2.1, 300, .inl bf)), (yV, .inl (G.2.1, 140, .inl v)), (yH, .inl (G.2.2.1, 140, .inl (zB hid))), (yS, .inl (G.2.2.1, 1680, .inl (zB sc)))] [M, yV, yH])) (va_Qi (fun (r : Int32) (u : Nat → Int32) => th1 (tHas 12 x) = 0 → Fx (figs bc bd bf bn (cl x) (nI td)) fA nA fJ nJ u ∧ r = nI (cH (fun _ => true) (hdM fA nA fJ nJ sc (cl x) u hid) 140)) (fun (u : Nat → Int32) (tS : State) => va_P G.1 vwCl [(M, .inr (6, [.int (nI td), .int (nI nA), .int (nI nJ), .ref yA, .ref yJ, .ref yg, .int (nI dn), .ref yw, .ref yc, .ref yv, .int (nI snt), .int (nI jd), .ref yr, .int (nI bn), .ref yC, .ref yD, .ref yF, .ref yS, .ref yV, .ref yH, .int (nI (th1 (tHas 12 x)))])), (yV, .inl (G.2.1, 140, .inl u)), (yH, .inl (G.2.2.1, 140, .inl (zB (gF (th1 (tHas 12 x)) hid (hdM fA nA fJ nJ sc (cl x) u hid)))))] tS.heap) (Aw [M, yV, yH] sz)) 0 0 (Aw [M, yV, yH] sz) := by
  refine Met.ofW (cc := cX6_hidden) (maxL := 2) (ret := (some .int)) (by decide) rfl ?_
  intro p e s m args below meth c s₁ B hml hv
  obtain ⟨rfl, hsz, hP, hD, E, Z⟩ := hv
  have hts := atoms_spec (ws := wsX6_hidden) B.pre
  have hown : s.vm.findClass RX6 = some m.cls := findClass_of_methodNamed B.named
  have X : CallFix p m c cX6_hidden 2 s _ wsX6_hidden RX6 := ⟨B.exec, B.bytes, hml, hown, hts⟩
  have hx := B.exec
  have hb := B.bytes
  have hr := B.returns
  have hlocks := B.notSynchronized
  subst hsz
  have w : bSt G vwCl [] s [(M, .inr (6, [.int (nI td), .int (nI nA), .int (nI nJ), .ref yA, .ref yJ, .ref yg, .int (nI dn), .ref yw, .ref yc, .ref yv, .int (nI snt), .int (nI jd), .ref yr, .int (nI bn), .ref yC, .ref yD, .ref yF, .ref yS, .ref yV, .ref yH, .int th])), (yA, .inl (G.2.1, 14, .inl fA)), (yJ, .inl (G.2.1, 10, .inl fJ)), (yC, .inl (G.2.1, 300, .inl bc)), (yD, .inl (G.2.1, 300, .inl bd)), (yF, .inl (G.2.1, 300, .inl bf)), (yV, .inl (G.2.1, 140, .inl v)), (yH, .inl (G.2.2.1, 140, .inl (zB hid))), (yS, .inl (G.2.2.1, 1680, .inl (zB sc)))] s.heap [] := ⟨hP, va_S.rf, hD⟩
  have Z0 : bZ [] s := ⟨Z.1.narrow (fun q h => h.elim (fun h => nomatch h) Or.inr), Z.2.narrow (fun q h => h.elim (fun h => nomatch h) Or.inr)⟩
  have iX6 : ∀ w ∈ wsX60, w ∈ wsX6_hidden := by decide +kernel
  have hl := lv_entry ([.ref M, .int x]) (n := 2) (Nat.le_of_ble_eq_true rfl)
  rw [lg_entry_eq]
  generalize (lg_sl ([.ref M, .int x]) ++ List.replicate (2 - (lg_sl ([.ref M, .int x])).length) Slot.unset).toArray = ls at hl ⊢
  have hl : lv_has ls 2 [(0, .ref M), (1, .int x)] := hl
  refine lv_aload_n hx hb dX6_hidden_0 rfl (lv_at hl 0 rfl) ?_
  refine lv_iload_n hx hb dX6_hidden_1 rfl (lv_at hl 1 rfl) ?_
  refine lv_iconst (v := nI 0) hx hb dX6_hidden_2 (by decide) ?_
  refine lv_bipush (v := nI 11) hx hb dX6_hidden_3 (by decide) ?_
  refine b_calli w (va_runS (As := [.int x, .int (nI 0), .int (nI 11)]) (rest := [.ref M]) X (c_X6_isIn l hl0 G _ (x := x) (lo := nI 0) (hi := nI 11) ) (va_cwS 3 hts gX6_hidden_X6_isIn rfl rfl rfl (by decide +kernel) ⟨Nat.le_of_ble_eq_true rfl, Nat.le_of_ble_eq_true rfl⟩) ⟨b_blind, (fun U9 hU9 hW9 => ⟨rfl, b_pre E Z0 w [] (by decide) rfl b_nil U9 hU9 hW9⟩)⟩ rfl rfl hl.1 rfl (lv_room (Nat.le_of_ble_eq_true rfl)) dX6_hidden_5 ⟨Nat.le_of_ble_eq_true rfl, Nat.le_of_ble_eq_true rfl⟩) b_nil [] (fun _ => rfl) rfl (fun r5_7 u5_7 H locs hr5_7 w => ?_)
  have w : bSt G vwCl [] s [(M, .inr (6, [.int (nI td), .int (nI nA), .int (nI nJ), .ref yA, .ref yJ, .ref yg, .int (nI dn), .ref yw, .ref yc, .ref yv, .int (nI snt), .int (nI jd), .ref yr, .int (nI bn), .ref yC, .ref yD, .ref yF, .ref yS, .ref yV, .ref yH, .int th])), (yA, .inl (G.2.1, 14, .inl fA)), (yJ, .inl (G.2.1, 10, .inl fJ)), (yC, .inl (G.2.1, 300, .inl bc)), (yD, .inl (G.2.1, 300, .inl bd)), (yF, .inl (G.2.1, 300, .inl bf)), (yV, .inl (G.2.1, 140, .inl v)), (yH, .inl (G.2.2.1, 140, .inl (zB hid))), (yS, .inl (G.2.2.1, 1680, .inl (zB sc)))] _ _ := w
  subst hr5_7
  refine b_tp (show bI (tIn x (nI 0) (nI 11)) = bI (tHas 12 x) from congrArg bI (tIn_lit (n := 11) (by decide))) ?_
  refine lv_if_eq (tgt := 15) hx hb dX6_hidden_8 (by decide) (fun c_8_8 => ?_) (fun c_8_8 => ?_)
  · have q_8_9 : (tHas 12 x) = false := bI_0.mp c_8_8
    have hT : th1 (tHas 12 x) = 1 := by simp [th1, q_8_9]
    refine lv_iconst (v := nI 1) hx hb dX6_hidden_15 (by decide) ?_
    have w := b_wide [M, yV, yH] b_nil w
    refine b_put (ty := .int) X E w (Or.inl (List.mem_of_getElem? (i := 0) rfl)) 0 rfl rfl 20 (by decide) iX6 tyX6 tyX6_ok nmX6 (by decide +kernel) rfl rfl (by decide +kernel) rfl rfl (Nat.le_of_ble_eq_true rfl) dX6_hidden_16 (fun H locs w => ?_)
    have w : bSt G vwCl [M, yV, yH] s [(M, .inr (6, [.int (nI td), .int (nI nA), .int (nI nJ), .ref yA, .ref yJ, .ref yg, .int (nI dn), .ref yw, .ref yc, .ref yv, .int (nI snt), .int (nI jd), .ref yr, .int (nI bn), .ref yC, .ref yD, .ref yF, .ref yS, .ref yV, .ref yH, .int (nI 1)])), (yA, .inl (G.2.1, 14, .inl fA)), (yJ, .inl (G.2.1, 10, .inl fJ)), (yC, .inl (G.2.1, 300, .inl bc)), (yD, .inl (G.2.1, 300, .inl bd)), (yF, .inl (G.2.1, 300, .inl bf)), (yV, .inl (G.2.1, 140, .inl v)), (yH, .inl (G.2.2.1, 140, .inl (zB hid))), (yS, .inl (G.2.2.1, 1680, .inl (zB sc)))] _ _ := w
    refine lv_aload_n hx hb dX6_hidden_19 rfl (lv_at hl 0 rfl) ?_
    refine b_get X E w 0 rfl rfl 20 (by decide) iX6 (by decide +kernel) rfl rfl dX6_hidden_20 ?_
    refine lv_if_le (tgt := 30) hx hb dX6_hidden_23 (by decide) (fun c_23_10 => ?_) (fun c_23_10 => ?_)
    · exact absurd c_23_10 (by decide)
    · refine lv_iconst (v := nI 0) hx hb dX6_hidden_26 (by decide) ?_
      refine lv_goto (tgt := 35) hx hb dX6_hidden_27 (by decide) ?_
      exact W.iret (v := nI 0) hx hb hr (fun t9 ht9 hW9 => ⟨⟨nI 0, v, rfl, fun h0 => absurd (hT.symm.trans h0) (by decide), by show va_P G.1 vwCl _ t9.heap; rw [ht9]; exact b_cg (by rw [hT]; rfl) (w.1.sub (ws' := [(M, .inr (6, [.int (nI td), .int (nI nA), .int (nI nJ), .ref yA, .ref yJ, .ref yg, .int (nI dn), .ref yw, .ref yc, .ref yv, .int (nI snt), .int (nI jd), .ref yr, .int (nI bn), .ref yC, .ref yD, .ref yF, .ref yS, .ref yV, .ref yH, .int (nI 1)])), (yV, .inl (G.2.1, 140, .inl v)), (yH, .inl (G.2.2.1, 140, .inl (zB hid)))]) [0, 6, 7] rfl)⟩, w.2.1.F ht9⟩) w.2.1.2.2 dX6_hidden_35
  · have q_8_9 : (tHas 12 x) = true := bI_n0.mp c_8_8
    have h8 := q_8_9
    have hT : th1 (tHas 12 x) = 0 := by simp [th1, h8]
    obtain ⟨p0, hp, rfl⟩ := (tHas_iff (by decide)).mp h8
    have ep : cl (nI p0) = p0 := cl_nI (by omega)
    refine lv_iconst (v := nI 0) hx hb dX6_hidden_11 (by decide) ?_
    refine lv_goto (tgt := 16) hx hb dX6_hidden_12 (by decide) ?_
    have w := b_wide [M, yV, yH] b_nil w
    refine b_put (ty := .int) X E w (Or.inl (List.mem_of_getElem? (i := 0) rfl)) 0 rfl rfl 20 (by decide) iX6 tyX6 tyX6_ok nmX6 (by decide +kernel) rfl rfl (by decide +kernel) rfl rfl (Nat.le_of_ble_eq_true rfl) dX6_hidden_16 (fun H locs w => ?_)
    have w : bSt G vwCl [M, yV, yH] s [(M, .inr (6, [.int (nI td), .int (nI nA), .int (nI nJ), .ref yA, .ref yJ, .ref yg, .int (nI dn), .ref yw, .ref yc, .ref yv, .int (nI snt), .int (nI jd), .ref yr, .int (nI bn), .ref yC, .ref yD, .ref yF, .ref yS, .ref yV, .ref yH, .int (nI 0)])), (yA, .inl (G.2.1, 14, .inl fA)), (yJ, .inl (G.2.1, 10, .inl fJ)), (yC, .inl (G.2.1, 300, .inl bc)), (yD, .inl (G.2.1, 300, .inl bd)), (yF, .inl (G.2.1, 300, .inl bf)), (yV, .inl (G.2.1, 140, .inl v)), (yH, .inl (G.2.2.1, 140, .inl (zB hid))), (yS, .inl (G.2.2.1, 1680, .inl (zB sc)))] _ _ := w
    refine lv_aload_n hx hb dX6_hidden_19 rfl (lv_at hl 0 rfl) ?_
    refine b_get X E w 0 rfl rfl 20 (by decide) iX6 (by decide +kernel) rfl rfl dX6_hidden_20 ?_
    refine lv_if_le (tgt := 30) hx hb dX6_hidden_23 (by decide) (fun c_23_11 => ?_) (fun c_23_11 => ?_)
    · refine lv_aload_n hx hb dX6_hidden_30 rfl (lv_at hl 0 rfl) ?_
      refine lv_iload_n hx hb dX6_hidden_31 rfl (lv_at hl 1 rfl) ?_
      refine b_calli w (va_runV (As := [.int (nI p0)]) (rest := []) X (c_X6_covers l hl0 G _ (M := M) (p0 := p0) (td := td) (nA := nA) (nJ := nJ) (yA := yA) (yJ := yJ) (yg := yg) (dn := dn) (yw := yw) (yc := yc) (yv := yv) (snt := snt) (jd := jd) (yr := yr) (bn := bn) (yC := yC) (yD := yD) (yF := yF) (yS := yS) (yV := yV) (yH := yH) (th := nI 0) (fA := fA) (fJ := fJ) (bc := bc) (bd := bd) (bf := bf) (v := v) (hid := hid) (sc := sc) (hnA := (by first | assumption | omega)) (hnJ := (by first | assumption | omega)) (hTA := (by first | assumption | omega)) (hTJ := (by first | assumption | omega)) (hbn := (by first | assumption | omega)) (hp := (by first | assumption | omega))) (cwV 1 hts gX6_hidden_X6_covers rfl rfl rfl (by decide +kernel) ⟨Nat.le_of_ble_eq_true rfl, Nat.le_of_ble_eq_true rfl⟩) ⟨b_blind, b_recv E w (ci := 6) (q0 := 0) rfl rfl, (fun U9 hU9 hW9 => ⟨rfl, b_pre E Z w [0, 1, 2, 3, 4, 5, 6, 7, 8] (by decide) rfl (b_subA [1, 2] rfl) U9 hU9 hW9⟩)⟩ rfl rfl hl.1 rfl (lv_room (Nat.le_of_ble_eq_true rfl)) dX6_hidden_32 ⟨Nat.le_of_ble_eq_true rfl, Nat.le_of_ble_eq_true rfl⟩) (b_subA [1, 2] rfl) [6, 7] (fun _ => rfl) rfl (fun r32_12 u0 H locs hr32_12 w => ?_)
      have w : bSt G vwCl [M, yV, yH] s [(M, .inr (6, [.int (nI td), .int (nI nA), .int (nI nJ), .ref yA, .ref yJ, .ref yg, .int (nI dn), .ref yw, .ref yc, .ref yv, .int (nI snt), .int (nI jd), .ref yr, .int (nI bn), .ref yC, .ref yD, .ref yF, .ref yS, .ref yV, .ref yH, .int (nI 0)])), (yA, .inl (G.2.1, 14, .inl fA)), (yJ, .inl (G.2.1, 10, .inl fJ)), (yC, .inl (G.2.1, 300, .inl bc)), (yD, .inl (G.2.1, 300, .inl bd)), (yF, .inl (G.2.1, 300, .inl bf)), (yV, .inl (G.2.1, 140, .inl u0)), (yH, .inl (G.2.2.1, 140, .inl (zB (hdM fA nA fJ nJ sc p0 u0 hid)))), (yS, .inl (G.2.2.1, 1680, .inl (zB sc)))] _ _ := w
      obtain ⟨ehr32_12, hr32_12⟩ := hr32_12
      subst ehr32_12
      have hu0 := hr32_12
      have hc9 := cH_le (p := (fun _ => true)) (b := hdM fA nA fJ nJ sc p0 u0 hid) 140
      exact W.iret (v := nI (cH (fun _ => true) (hdM fA nA fJ nJ sc p0 u0 hid) 140)) hx hb hr (fun t9 ht9 hW9 => ⟨⟨nI (cH (fun _ => true) (hdM fA nA fJ nJ sc p0 u0 hid) 140), u0, rfl, fun _ => ⟨by rw [ep]; exact hu0, by rw [ep]⟩, by show va_P G.1 vwCl _ t9.heap; rw [ht9]; exact b_cg (by rw [hT, ep]; rfl) (w.1.sub (ws' := [(M, .inr (6, [.int (nI td), .int (nI nA), .int (nI nJ), .ref yA, .ref yJ, .ref yg, .int (nI dn), .ref yw, .ref yc, .ref yv, .int (nI snt), .int (nI jd), .ref yr, .int (nI bn), .ref yC, .ref yD, .ref yF, .ref yS, .ref yV, .ref yH, .int (nI 0)])), (yV, .inl (G.2.1, 140, .inl u0)), (yH, .inl (G.2.2.1, 140, .inl (zB (hdM fA nA fJ nJ sc p0 u0 hid))))]) [0, 6, 7] rfl)⟩, w.2.1.F ht9⟩) w.2.1.2.2 dX6_hidden_35
    · exact absurd (by decide) c_23_11
set_option maxHeartbeats 4000000 in
set_option maxRecDepth 100000 in
theorem c_X6_secret (l : Launch) (hl0 : l.stackTraces = false) (G : bG) (sz : Nat) (M yA yJ yg yw yc yv yr yC yD yF yS yV yH td nA nJ dn snt jd bn : Nat) (th : Int32) (fA : Nat → Int32) (fJ : Nat → Int32) (bc : Nat → Int32) (bd : Nat → Int32) (bf : Nat → Int32) (v : Nat → Int32) (hid : Nat → Bool) (sc : Nat → Bool) (x y z : Int32) (b : Bool) (hnA : nA ≤ 14) (hnJ : nJ ≤ 10) (hTA : TI fA nA) (hTJ : TI fJ nJ) (hbn : bn ≤ 300) : Met l yX6_secret wsX6_secret ({ frames := 3, cells := 0, slots := 0, locals := 82 }) (va_Pc [.ref M, .int x, .int y, .int z, .int (bI b)] (bPre G vwCl bNW bSW sz [(M, .inr (6, [.int (nI td), .int (nI nA), .int (nI nJ), .ref yA, .ref yJ, .ref yg, .int (nI dn), .ref yw, .ref yc, .ref yv, .int (nI snt), .int (nI jd), .ref yr, .int (nI bn), .ref yC, .ref yD, .ref yF, .ref yS, .ref yV, .ref yH, .int th])), (yA, .inl (G.2.1, 14, .inl fA)), (yJ, .inl (G.2.1, 10, .inl fJ)), (yC, .inl (G.2.1, 300, .inl bc)), (yD, .inl (G.2.1, 300, .inl bd)), (yF, .inl (G.2.1, 300, .inl bf)), (yV, .inl (G.2.1, 140, .inl v)), (yH, .inl (G.2.2.1, 140, .inl (zB hid))), (yS, .inl (G.2.2.1, 1680, .inl (zB sc)))] [M, yS, yV, yH])) (va_Qi (fun (r : Int32) (u : Nat → Int32) => th1 (okC nA nJ x y z) = 0 → Fx (figs bc bd bf bn (cl z) (nI td)) fA nA fJ nJ u ∧ r = nI (cH (fun _ => true) (hdM fA nA fJ nJ (uB sc (cN x y z) b) (cl z) u hid) 140)) (fun (u : Nat → Int32) (tS : State) => va_P G.1 vwCl [(M, .inr (6, [.int (nI td), .int (nI nA), .int (nI nJ), .ref yA, .ref yJ, .ref yg, .int (nI dn), .ref yw, .ref yc, .ref yv, .int (nI snt), .int (nI jd), .ref yr, .int (nI bn), .ref yC, .ref yD, .ref yF, .ref yS, .ref yV, .ref yH, .int (nI (th1 (okC nA nJ x y z)))])), (yS, .inl (G.2.2.1, 1680, .inl (zB (gF (th1 (okC nA nJ x y z)) sc (uB sc (cN x y z) b))))), (yV, .inl (G.2.1, 140, .inl u)), (yH, .inl (G.2.2.1, 140, .inl (zB (gF (th1 (okC nA nJ x y z)) hid (hdM fA nA fJ nJ (uB sc (cN x y z) b) (cl z) u hid)))))] tS.heap) (Aw [M, yS, yV, yH] sz)) 0 0 (Aw [M, yS, yV, yH] sz) := by
  refine Met.ofW (cc := cX6_secret) (maxL := 5) (ret := (some .int)) (by decide) rfl ?_
  intro p e s m args below meth c s₁ B hml hv
  obtain ⟨rfl, hsz, hP, hD, E, Z⟩ := hv
  have hts := atoms_spec (ws := wsX6_secret) B.pre
  have hown : s.vm.findClass RX6 = some m.cls := findClass_of_methodNamed B.named
  have X : CallFix p m c cX6_secret 5 s _ wsX6_secret RX6 := ⟨B.exec, B.bytes, hml, hown, hts⟩
  have hx := B.exec
  have hb := B.bytes
  have hr := B.returns
  have hlocks := B.notSynchronized
  subst hsz
  have w : bSt G vwCl [] s [(M, .inr (6, [.int (nI td), .int (nI nA), .int (nI nJ), .ref yA, .ref yJ, .ref yg, .int (nI dn), .ref yw, .ref yc, .ref yv, .int (nI snt), .int (nI jd), .ref yr, .int (nI bn), .ref yC, .ref yD, .ref yF, .ref yS, .ref yV, .ref yH, .int th])), (yA, .inl (G.2.1, 14, .inl fA)), (yJ, .inl (G.2.1, 10, .inl fJ)), (yC, .inl (G.2.1, 300, .inl bc)), (yD, .inl (G.2.1, 300, .inl bd)), (yF, .inl (G.2.1, 300, .inl bf)), (yV, .inl (G.2.1, 140, .inl v)), (yH, .inl (G.2.2.1, 140, .inl (zB hid))), (yS, .inl (G.2.2.1, 1680, .inl (zB sc)))] s.heap [] := ⟨hP, va_S.rf, hD⟩
  have Z0 : bZ [] s := ⟨Z.1.narrow (fun q h => h.elim (fun h => nomatch h) Or.inr), Z.2.narrow (fun q h => h.elim (fun h => nomatch h) Or.inr)⟩
  have iX6 : ∀ w ∈ wsX60, w ∈ wsX6_secret := by decide +kernel
  have hl := lv_entry ([.ref M, .int x, .int y, .int z, .int (bI b)]) (n := 5) (Nat.le_of_ble_eq_true rfl)
  rw [lg_entry_eq]
  generalize (lg_sl ([.ref M, .int x, .int y, .int z, .int (bI b)]) ++ List.replicate (5 - (lg_sl ([.ref M, .int x, .int y, .int z, .int (bI b)])).length) Slot.unset).toArray = ls at hl ⊢
  have hl : lv_has ls 5 [(0, .ref M), (1, .int x), (2, .int y), (3, .int z), (4, .int (bI b))] := hl
  refine lv_aload_n hx hb dX6_secret_0 rfl (lv_at hl 0 rfl) ?_
  refine lv_aload_n hx hb dX6_secret_1 rfl (lv_at hl 0 rfl) ?_
  refine lv_iload_n hx hb dX6_secret_2 rfl (lv_at hl 1 rfl) ?_
  refine lv_iload_n hx hb dX6_secret_3 rfl (lv_at hl 2 rfl) ?_
  refine lv_iload_n hx hb dX6_secret_4 rfl (lv_at hl 3 rfl) ?_
  refine b_calli w (va_runV (As := [.int x, .int y, .int z]) (rest := [.ref M]) X (c_X6_isCell l hl0 G _ (M := M) (x := x) (y := y) (z := z) (td := td) (nA := nA) (nJ := nJ) (yA := yA) (yJ := yJ) (yg := yg) (dn := dn) (yw := yw) (yc := yc) (yv := yv) (snt := snt) (jd := jd) (yr := yr) (bn := bn) (yC := yC) (yD := yD) (yF := yF) (yS := yS) (yV := yV) (yH := yH) (th := th) (hnA := (by first | assumption | omega)) (hnJ := (by first | assumption | omega))) (cwV 3 hts gX6_secret_X6_isCell rfl rfl rfl (by decide +kernel) ⟨Nat.le_of_ble_eq_true rfl, Nat.le_of_ble_eq_true rfl⟩) ⟨b_blind, b_recv E w (ci := 6) (q0 := 0) rfl rfl, (fun U9 hU9 hW9 => ⟨rfl, b_pre E Z0 w [0] (by decide) rfl b_nil U9 hU9 hW9⟩)⟩ rfl rfl hl.1 rfl (lv_room (Nat.le_of_ble_eq_true rfl)) dX6_secret_5 ⟨Nat.le_of_ble_eq_true rfl, Nat.le_of_ble_eq_true rfl⟩) b_nil [] (fun _ => rfl) rfl (fun r5_8 u5_8 H locs hr5_8 w => ?_)
  have w : bSt G vwCl [] s [(M, .inr (6, [.int (nI td), .int (nI nA), .int (nI nJ), .ref yA, .ref yJ, .ref yg, .int (nI dn), .ref yw, .ref yc, .ref yv, .int (nI snt), .int (nI jd), .ref yr, .int (nI bn), .ref yC, .ref yD, .ref yF, .ref yS, .ref yV, .ref yH, .int th])), (yA, .inl (G.2.1, 14, .inl fA)), (yJ, .inl (G.2.1, 10, .inl fJ)), (yC, .inl (G.2.1, 300, .inl bc)), (yD, .inl (G.2.1, 300, .inl bd)), (yF, .inl (G.2.1, 300, .inl bf)), (yV, .inl (G.2.1, 140, .inl v)), (yH, .inl (G.2.2.1, 140, .inl (zB hid))), (yS, .inl (G.2.2.1, 1680, .inl (zB sc)))] _ _ := w
  subst hr5_8
  refine lv_if_eq (tgt := 15) hx hb dX6_secret_8 (by decide) (fun c_8_9 => ?_) (fun c_8_9 => ?_)
  · have q_8_10 : (okC nA nJ x y z) = false := bI_0.mp c_8_9
    have hT : th1 (okC nA nJ x y z) = 1 := by simp [th1, q_8_10]
    refine lv_iconst (v := nI 1) hx hb dX6_secret_15 (by decide) ?_
    have w := b_wide [M, yS, yV, yH] b_nil w
    refine b_put (ty := .int) X E w (Or.inl (List.mem_of_getElem? (i := 0) rfl)) 0 rfl rfl 20 (by decide) iX6 tyX6 tyX6_ok nmX6 (by decide +kernel) rfl rfl (by decide +kernel) rfl rfl (Nat.le_of_ble_eq_true rfl) dX6_secret_16 (fun H locs w => ?_)
    have w : bSt G vwCl [M, yS, yV, yH] s [(M, .inr (6, [.int (nI td), .int (nI nA), .int (nI nJ), .ref yA, .ref yJ, .ref yg, .int (nI dn), .ref yw, .ref yc, .ref yv, .int (nI snt), .int (nI jd), .ref yr, .int (nI bn), .ref yC, .ref yD, .ref yF, .ref yS, .ref yV, .ref yH, .int (nI 1)])), (yA, .inl (G.2.1, 14, .inl fA)), (yJ, .inl (G.2.1, 10, .inl fJ)), (yC, .inl (G.2.1, 300, .inl bc)), (yD, .inl (G.2.1, 300, .inl bd)), (yF, .inl (G.2.1, 300, .inl bf)), (yV, .inl (G.2.1, 140, .inl v)), (yH, .inl (G.2.2.1, 140, .inl (zB hid))), (yS, .inl (G.2.2.1, 1680, .inl (zB sc)))] _ _ := w
    refine lv_aload_n hx hb dX6_secret_19 rfl (lv_at hl 0 rfl) ?_
    refine b_get X E w 0 rfl rfl 20 (by decide) iX6 (by decide +kernel) rfl rfl dX6_secret_20 ?_
    refine lv_if_le (tgt := 28) hx hb dX6_secret_23 (by decide) (fun c_23_11 => ?_) (fun c_23_11 => ?_)
    · exact absurd c_23_11 (by decide)
    · refine lv_iconst (v := nI 0) hx hb dX6_secret_26 (by decide) ?_
      exact W.iret (v := nI 0) hx hb hr (fun t9 ht9 hW9 => ⟨⟨nI 0, v, rfl, fun h0 => absurd (hT.symm.trans h0) (by decide), by show va_P G.1 vwCl _ t9.heap; rw [ht9]; exact b_cg (by rw [hT]; rfl) (w.1.sub (ws' := [(M, .inr (6, [.int (nI td), .int (nI nA), .int (nI nJ), .ref yA, .ref yJ, .ref yg, .int (nI dn), .ref yw, .ref yc, .ref yv, .int (nI snt), .int (nI jd), .ref yr, .int (nI bn), .ref yC, .ref yD, .ref yF, .ref yS, .ref yV, .ref yH, .int (nI 1)])), (yS, .inl (G.2.2.1, 1680, .inl (zB sc))), (yV, .inl (G.2.1, 140, .inl v)), (yH, .inl (G.2.2.1, 140, .inl (zB hid)))]) [0, 8, 6, 7] rfl)⟩, w.2.1.F ht9⟩) w.2.1.2.2 dX6_secret_27
  · have q_8_10 : (okC nA nJ x y z) = true := bI_n0.mp c_8_9
    have h9a := q_8_10
    have hT : th1 (okC nA nJ x y z) = 0 := by simp [th1, h9a]
    obtain ⟨a, ha, i, hi, p0, hp, rfl, rfl, rfl⟩ := okC_yes (by omega) (by omega) h9a
    have eN := cN_nI ha hi hp hnA hnJ
    have ea : cl (nI a) = a := cl_nI (by omega)
    have ei : cl (nI i) = i := cl_nI (by omega)
    have ep : cl (nI p0) = p0 := cl_nI (by omega)
    refine lv_iconst (v := nI 0) hx hb dX6_secret_11 (by decide) ?_
    refine lv_goto (tgt := 16) hx hb dX6_secret_12 (by decide) ?_
    have w := b_wide [M, yS, yV, yH] b_nil w
    refine b_put (ty := .int) X E w (Or.inl (List.mem_of_getElem? (i := 0) rfl)) 0 rfl rfl 20 (by decide) iX6 tyX6 tyX6_ok nmX6 (by decide +kernel) rfl rfl (by decide +kernel) rfl rfl (Nat.le_of_ble_eq_true rfl) dX6_secret_16 (fun H locs w => ?_)
    have w : bSt G vwCl [M, yS, yV, yH] s [(M, .inr (6, [.int (nI td), .int (nI nA), .int (nI nJ), .ref yA, .ref yJ, .ref yg, .int (nI dn), .ref yw, .ref yc, .ref yv, .int (nI snt), .int (nI jd), .ref yr, .int (nI bn), .ref yC, .ref yD, .ref yF, .ref yS, .ref yV, .ref yH, .int (nI 0)])), (yA, .inl (G.2.1, 14, .inl fA)), (yJ, .inl (G.2.1, 10, .inl fJ)), (yC, .inl (G.2.1, 300, .inl bc)), (yD, .inl (G.2.1, 300, .inl bd)), (yF, .inl (G.2.1, 300, .inl bf)), (yV, .inl (G.2.1, 140, .inl v)), (yH, .inl (G.2.2.1, 140, .inl (zB hid))), (yS, .inl (G.2.2.1, 1680, .inl (zB sc)))] _ _ := w
    refine lv_aload_n hx hb dX6_secret_19 rfl (lv_at hl 0 rfl) ?_
    refine b_get X E w 0 rfl rfl 20 (by decide) iX6 (by decide +kernel) rfl rfl dX6_secret_20 ?_
    refine lv_if_le (tgt := 28) hx hb dX6_secret_23 (by decide) (fun c_23_12 => ?_) (fun c_23_12 => ?_)
    · refine lv_aload_n hx hb dX6_secret_28 rfl (lv_at hl 0 rfl) ?_
      refine b_get X E w 0 rfl rfl 17 (by decide) iX6 (by decide +kernel) rfl rfl dX6_secret_29 ?_
      refine lv_iload_n hx hb dX6_secret_32 rfl (lv_at hl 1 rfl) ?_
      refine lv_iload_n hx hb dX6_secret_33 rfl (lv_at hl 2 rfl) ?_
      refine lv_iload_n hx hb dX6_secret_34 rfl (lv_at hl 3 rfl) ?_
      refine b_calli w (va_runS (As := [.int (nI a), .int (nI i), .int (nI p0)]) (rest := [.ref yS]) X (c_X6_cellOf l hl0 G _ (a := a) (i := i) (p0 := p0) ) (va_cwS 3 hts gX6_secret_X6_cellOf rfl rfl rfl (by decide +kernel) ⟨Nat.le_of_ble_eq_true rfl, Nat.le_of_ble_eq_true rfl⟩) ⟨b_blind, (fun U9 hU9 hW9 => ⟨rfl, b_pre E Z w [] (by decide) rfl b_nil U9 hU9 hW9⟩)⟩ rfl rfl hl.1 rfl (lv_room (Nat.le_of_ble_eq_true rfl)) dX6_secret_35 ⟨Nat.le_of_ble_eq_true rfl, Nat.le_of_ble_eq_true rfl⟩) b_nil [] (fun _ => rfl) rfl (fun r35_13 u35_13 H locs hr35_13 w => ?_)
      have w : bSt G vwCl [M, yS, yV, yH] s [(M, .inr (6, [.int (nI td), .int (nI nA), .int (nI nJ), .ref yA, .ref yJ, .ref yg, .int (nI dn), .ref yw, .ref yc, .ref yv, .int (nI snt), .int (nI jd), .ref yr, .int (nI bn), .ref yC, .ref yD, .ref yF, .ref yS, .ref yV, .ref yH, .int (nI 0)])), (yA, .inl (G.2.1, 14, .inl fA)), (yJ, .inl (G.2.1, 10, .inl fJ)), (yC, .inl (G.2.1, 300, .inl bc)), (yD, .inl (G.2.1, 300, .inl bd)), (yF, .inl (G.2.1, 300, .inl bf)), (yV, .inl (G.2.1, 140, .inl v)), (yH, .inl (G.2.2.1, 140, .inl (zB hid))), (yS, .inl (G.2.2.1, 1680, .inl (zB sc)))] _ _ := w
      subst hr35_13
      refine lv_iload hx hb dX6_secret_38 (lv_at hl 4 rfl) ?_
      refine b_zast X E w (Or.inl (List.mem_of_getElem? (i := 1) rfl)) 8 rfl (140 * p0 + (10 * a + i)) rfl (by omega) (by first | decide | omega) (bI_01 _) dX6_secret_40 (fun H locs w => ?_)
      rw [zB_upd] at w
      have w : bSt G vwCl [M, yS, yV, yH] s [(M, .inr (6, [.int (nI td), .int (nI nA), .int (nI nJ), .ref yA, .ref yJ, .ref yg, .int (nI dn), .ref yw, .ref yc, .ref yv, .int (nI snt), .int (nI jd), .ref yr, .int (nI bn), .ref yC, .ref yD, .ref yF, .ref yS, .ref yV, .ref yH, .int (nI 0)])), (yA, .inl (G.2.1, 14, .inl fA)), (yJ, .inl (G.2.1, 10, .inl fJ)), (yC, .inl (G.2.1, 300, .inl bc)), (yD, .inl (G.2.1, 300, .inl bd)), (yF, .inl (G.2.1, 300, .inl bf)), (yV, .inl (G.2.1, 140, .inl v)), (yH, .inl (G.2.2.1, 140, .inl (zB hid))), (yS, .inl (G.2.2.1, 1680, .inl (zB (uB sc (140 * p0 + (10 * a + i)) b))))] _ _ := w
      refine lv_aload_n hx hb dX6_secret_41 rfl (lv_at hl 0 rfl) ?_
      refine lv_iload_n hx hb dX6_secret_42 rfl (lv_at hl 3 rfl) ?_
      refine b_calli w (va_runV (As := [.int (nI p0)]) (rest := []) X (c_X6_covers l hl0 G _ (M := M) (p0 := p0) (td := td) (nA := nA) (nJ := nJ) (yA := yA) (yJ := yJ) (yg := yg) (dn := dn) (yw := yw) (yc := yc) (yv := yv) (snt := snt) (jd := jd) (yr := yr) (bn := bn) (yC := yC) (yD := yD) (yF := yF) (yS := yS) (yV := yV) (yH := yH) (th := nI 0) (fA := fA) (fJ := fJ) (bc := bc) (bd := bd) (bf := bf) (v := v) (hid := hid) (sc := uB sc (140 * p0 + (10 * a + i)) b) (hnA := (by first | assumption | omega)) (hnJ := (by first | assumption | omega)) (hTA := (by first | assumption | omega)) (hTJ := (by first | assumption | omega)) (hbn := (by first | assumption | omega)) (hp := (by first | assumption | omega))) (cwV 1 hts gX6_secret_X6_covers rfl rfl rfl (by decide +kernel) ⟨Nat.le_of_ble_eq_true rfl, Nat.le_of_ble_eq_true rfl⟩) ⟨b_blind, b_recv E w (ci := 6) (q0 := 0) rfl rfl, (fun U9 hU9 hW9 => ⟨rfl, b_pre E Z w [0, 1, 2, 3, 4, 5, 6, 7, 8] (by decide) rfl (b_subA [2, 3] rfl) U9 hU9 hW9⟩)⟩ rfl rfl hl.1 rfl (lv_room (Nat.le_of_ble_eq_true rfl)) dX6_secret_43 ⟨Nat.le_of_ble_eq_true rfl, Nat.le_of_ble_eq_true rfl⟩) (b_subA [2, 3] rfl) [6, 7] (fun _ => rfl) rfl (fun r43_14 u0 H locs hr43_14 w => ?_)
      have w : bSt G vwCl [M, yS, yV, yH] s [(M, .inr (6, [.int (nI td), .int (nI nA), .int (nI nJ), .ref yA, .ref yJ, .ref yg, .int (nI dn), .ref yw, .ref yc, .ref yv, .int (nI snt), .int (nI jd), .ref yr, .int (nI bn), .ref yC, .ref yD, .ref yF, .ref yS, .ref yV, .ref yH, .int (nI 0)])), (yA, .inl (G.2.1, 14, .inl fA)), (yJ, .inl (G.2.1, 10, .inl fJ)), (yC, .inl (G.2.1, 300, .inl bc)), (yD, .inl (G.2.1, 300, .inl bd)), (yF, .inl (G.2.1, 300, .inl bf)), (yV, .inl (G.2.1, 140, .inl u0)), (yH, .inl (G.2.2.1, 140, .inl (zB (hdM fA nA fJ nJ (uB sc (140 * p0 + (10 * a + i)) b) p0 u0 hid)))), (yS, .inl (G.2.2.1, 1680, .inl (zB (uB sc (140 * p0 + (10 * a + i)) b))))] _ _ := w
      obtain ⟨ehr43_14, hr43_14⟩ := hr43_14
      subst ehr43_14
      have hu0 := hr43_14
      have hc9 := cH_le (p := (fun _ => true)) (b := hdM fA nA fJ nJ (uB sc (140 * p0 + (10 * a + i)) b) p0 u0 hid) 140
      exact W.iret (v := nI (cH (fun _ => true) (hdM fA nA fJ nJ (uB sc (140 * p0 + (10 * a + i)) b) p0 u0 hid) 140)) hx hb hr (fun t9 ht9 hW9 => ⟨⟨nI (cH (fun _ => true) (hdM fA nA fJ nJ (uB sc (140 * p0 + (10 * a + i)) b) p0 u0 hid) 140), u0, rfl, fun _ => ⟨by rw [ep]; exact hu0, by rw [ep, eN]⟩, by show va_P G.1 vwCl _ t9.heap; rw [ht9]; exact b_cg (by rw [hT, ep, eN]; rfl) (w.1.sub (ws' := [(M, .inr (6, [.int (nI td), .int (nI nA), .int (nI nJ), .ref yA, .ref yJ, .ref yg, .int (nI dn), .ref yw, .ref yc, .ref yv, .int (nI snt), .int (nI jd), .ref yr, .int (nI bn), .ref yC, .ref yD, .ref yF, .ref yS, .ref yV, .ref yH, .int (nI 0)])), (yS, .inl (G.2.2.1, 1680, .inl (zB (uB sc (140 * p0 + (10 * a + i)) b)))), (yV, .inl (G.2.1, 140, .inl u0)), (yH, .inl (G.2.2.1, 140, .inl (zB (hdM fA nA fJ nJ (uB sc (140 * p0 + (10 * a + i)) b) p0 u0 hid))))]) [0, 8, 6, 7] rfl)⟩, w.2.1.F ht9⟩) w.2.1.2.2 dX6_secret_46
    · exact absurd (by decide) c_23_12
set_option maxHeartbeats 4000000 in
set_option maxRecDepth 100000 in
theorem c_X6_find (l : Launch) (hl0 : l.stackTraces = false) (G : bG) (sz : Nat) (M yA yJ yg yw yc yv yr yC yD yF yS yV yH td nA nJ dn snt jd bn : Nat) (th : Int32) (fA : Nat → Int32) (fJ : Nat → Int32) (bc : Nat → Int32) (bd : Nat → Int32) (bf : Nat → Int32) (x y f t0 sn pl : Int32) (hnA : nA ≤ 14) (hnJ : nJ ≤ 10) (hTA : TI fA nA) (hTJ : TI fJ nJ) (hbn : bn ≤ 300) : Met l yX6_find wsX6_find ({ frames := 2, cells := 0, slots := 0, locals := 43 }) (va_Pc [.ref M, .int x, .int y, .int f, .int t0, .int sn, .int pl] (bPre G vwCl bNW bSW sz [(M, .inr (6, [.int (nI td), .int (nI nA), .int (nI nJ), .ref yA, .ref yJ, .ref yg, .int (nI dn), .ref yw, .ref yc, .ref yv, .int (nI snt), .int (nI jd), .ref yr, .int (nI bn), .ref yC, .ref yD, .ref yF, .ref yS, .ref yV, .ref yH, .int th])), (yA, .inl (G.2.1, 14, .inl fA)), (yJ, .inl (G.2.1, 10, .inl fJ)), (yC, .inl (G.2.1, 300, .inl bc)), (yD, .inl (G.2.1, 300, .inl bd)), (yF, .inl (G.2.1, 300, .inl bf))] [M])) (va_Qi (fun (r : Int32) (_ : Unit) => r = gF (th2 (tPat nA x && tPat nJ y && !decide (pl < 0)) (tHas 12 f && tHas 12 t0 && !decide (t0 < f) && sOk sn)) 0 (srR (srT (mMm fA nA fJ nJ bc bd bf bn td x y sn) nA nJ (cl f) (cl t0) (cl pl)))) (fun (_ : Unit) (tS : State) => va_P G.1 vwCl [(M, .inr (6, [.int (nI td), .int (nI nA), .int (nI nJ), .ref yA, .ref yJ, .ref yg, .int (nI dn), .ref yw, .ref yc, .ref yv, .int (nI snt), .int (nI jd), .ref yr, .int (nI bn), .ref yC, .ref yD, .ref yF, .ref yS, .ref yV, .ref yH, .int (nI (th2 (tPat nA x && tPat nJ y && !decide (pl < 0)) (tHas 12 f && tHas 12 t0 && !decide (t0 < f) && sOk sn)))]))] tS.heap) (Aw [M] sz)) 0 0 (Aw [M] sz) := by
  refine Met.ofW (cc := cX6_find) (maxL := 13) (ret := (some .int)) (by decide) rfl ?_
  intro p e s m args below meth c s₁ B hml hv
  obtain ⟨rfl, hsz, hP, hD, E, Z⟩ := hv
  have hts := atoms_spec (ws := wsX6_find) B.pre
  have hown : s.vm.findClass RX6 = some m.cls := findClass_of_methodNamed B.named
  have X : CallFix p m c cX6_find 13 s _ wsX6_find RX6 := ⟨B.exec, B.bytes, hml, hown, hts⟩
  have hx := B.exec
  have hb := B.bytes
  have hr := B.returns
  have hlocks := B.notSynchronized
  subst hsz
  have w : bSt G vwCl [] s [(M, .inr (6, [.int (nI td), .int (nI nA), .int (nI nJ), .ref yA, .ref yJ, .ref yg, .int (nI dn), .ref yw, .ref yc, .ref yv, .int (nI snt), .int (nI jd), .ref yr, .int (nI bn), .ref yC, .ref yD, .ref yF, .ref yS, .ref yV, .ref yH, .int th])), (yA, .inl (G.2.1, 14, .inl fA)), (yJ, .inl (G.2.1, 10, .inl fJ)), (yC, .inl (G.2.1, 300, .inl bc)), (yD, .inl (G.2.1, 300, .inl bd)), (yF, .inl (G.2.1, 300, .inl bf))] s.heap [] := ⟨hP, va_S.rf, hD⟩
  have Z0 : bZ [] s := ⟨Z.1.narrow (fun q h => h.elim (fun h => nomatch h) Or.inr), Z.2.narrow (fun q h => h.elim (fun h => nomatch h) Or.inr)⟩
  have iX6 : ∀ w ∈ wsX60, w ∈ wsX6_find := by decide +kernel
  have hl := lv_entry ([.ref M, .int x, .int y, .int f, .int t0, .int sn, .int pl]) (n := 13) (Nat.le_of_ble_eq_true rfl)
  rw [lg_entry_eq]
  generalize (lg_sl ([.ref M, .int x, .int y, .int f, .int t0, .int sn, .int pl]) ++ List.replicate (13 - (lg_sl ([.ref M, .int x, .int y, .int f, .int t0, .int sn, .int pl])).length) Slot.unset).toArray = ls at hl ⊢
  have hl : lv_has ls 13 [(0, .ref M), (1, .int x), (2, .int y), (3, .int f), (4, .int t0), (5, .int sn), (6, .int pl)] := hl
  refine lv_aload_n hx hb dX6_find_0 rfl (lv_at hl 0 rfl) ?_
  refine lv_iload_n hx hb dX6_find_1 rfl (lv_at hl 1 rfl) ?_
  refine lv_iconst (v := -1) hx hb dX6_find_2 (by decide) ?_
  refine lv_icmp_eq (tgt := 14) hx hb dX6_find_3 (by decide) (fun c_3_196 => ?_) (fun c_3_196 => ?_)
  · have h1 : tPat nA x = true := by simp [tPat, c_3_196]
    refine lv_iload_n hx hb dX6_find_14 rfl (lv_at hl 2 rfl) ?_
    refine lv_iconst (v := -1) hx hb dX6_find_15 (by decide) ?_
    refine lv_icmp_eq (tgt := 27) hx hb dX6_find_16 (by decide) (fun c_16_197 => ?_) (fun c_16_197 => ?_)
    · have h2 : tPat nJ y = true := by simp [tPat, c_16_197]
      refine lv_iload hx hb dX6_find_27 (lv_at hl 6 rfl) ?_
      refine lv_if_ge (tgt := 36) hx hb dX6_find_29 (by decide) (fun c_29_198 => ?_) (fun c_29_198 => ?_)
      · have c29 : ¬ pl < 0 := fun h9 => absurd c_29_198 (i_le_of_lt h9)
        have h3 : (tPat nA x && tPat nJ y && !decide (pl < 0)) = true := by simp [h1, h2, c29]
        refine lv_iconst (v := nI 0) hx hb dX6_find_36 (by decide) ?_
        have w := b_wide [M] b_nil w
        refine b_put (ty := .int) X E w (Or.inl (List.mem_of_getElem? (i := 0) rfl)) 0 rfl rfl 20 (by decide) iX6 tyX6 tyX6_ok nmX6 (by decide +kernel) rfl rfl (by decide +kernel) rfl rfl (Nat.le_of_ble_eq_true rfl) dX6_find_37 (fun H locs w => ?_)
        have w : bSt G vwCl [M] s [(M, .inr (6, [.int (nI td), .int (nI nA), .int (nI nJ), .ref yA, .ref yJ, .ref yg, .int (nI dn), .ref yw, .ref yc, .ref yv, .int (nI snt), .int (nI jd), .ref yr, .int (nI bn), .ref yC, .ref yD, .ref yF, .ref yS, .ref yV, .ref yH, .int (nI 0)])), (yA, .inl (G.2.1, 14, .inl fA)), (yJ, .inl (G.2.1, 10, .inl fJ)), (yC, .inl (G.2.1, 300, .inl bc)), (yD, .inl (G.2.1, 300, .inl bd)), (yF, .inl (G.2.1, 300, .inl bf))] _ _ := w
        refine lv_aload_n hx hb dX6_find_40 rfl (lv_at hl 0 rfl) ?_
        refine b_get X E w 0 rfl rfl 20 (by decide) iX6 (by decide +kernel) rfl rfl dX6_find_41 ?_
        refine lv_if_le (tgt := 49) hx hb dX6_find_44 (by decide) (fun c_44_199 => ?_) (fun c_44_199 => ?_)
        · refine lv_aload_n hx hb dX6_find_49 rfl (lv_at hl 0 rfl) ?_
          refine lv_iload_n hx hb dX6_find_50 rfl (lv_at hl 3 rfl) ?_
          refine lv_iconst (v := nI 0) hx hb dX6_find_51 (by decide) ?_
          refine lv_bipush (v := nI 11) hx hb dX6_find_52 (by decide) ?_
          refine b_calli w (va_runS (As := [.int f, .int (nI 0), .int (nI 11)]) (rest := [.ref M]) X (c_X6_isIn l hl0 G _ (x := f) (lo := nI 0) (hi := nI 11) ) (va_cwS 3 hts gX6_find_X6_isIn rfl rfl rfl (by decide +kernel) ⟨Nat.le_of_ble_eq_true rfl, Nat.le_of_ble_eq_true rfl⟩) ⟨b_blind, (fun U9 hU9 hW9 => ⟨rfl, b_pre E Z w [] (by decide) rfl b_nil U9 hU9 hW9⟩)⟩ rfl rfl hl.1 rfl (lv_room (Nat.le_of_ble_eq_true rfl)) dX6_find_54 ⟨Nat.le_of_ble_eq_true rfl, Nat.le_of_ble_eq_true rfl⟩) b_nil [] (fun _ => rfl) rfl (fun r54_200 u54_200 H locs hr54_200 w => ?_)
          have w : bSt G vwCl [M] s [(M, .inr (6, [.int (nI td), .int (nI nA), .int (nI nJ), .ref yA, .ref yJ, .ref yg, .int (nI dn), .ref yw, .ref yc, .ref yv, .int (nI snt), .int (nI jd), .ref yr, .int (nI bn), .ref yC, .ref yD, .ref yF, .ref yS, .ref yV, .ref yH, .int (nI 0)])), (yA, .inl (G.2.1, 14, .inl fA)), (yJ, .inl (G.2.1, 10, .inl fJ)), (yC, .inl (G.2.1, 300, .inl bc)), (yD, .inl (G.2.1, 300, .inl bd)), (yF, .inl (G.2.1, 300, .inl bf))] _ _ := w
          subst hr54_200
          refine b_tp (show bI (tIn f (nI 0) (nI 11)) = bI (tHas 12 f) from congrArg bI (tIn_lit (n := 11) (by decide))) ?_
          refine lv_if_eq (tgt := 83) hx hb dX6_find_57 (by decide) (fun c_57_201 => ?_) (fun c_57_201 => ?_)
          · have q_57_202 : (tHas 12 f) = false := bI_0.mp c_57_201
            have hT : th2 (tPat nA x && tPat nJ y && !decide (pl < 0)) (tHas 12 f && tHas 12 t0 && !decide (t0 < f) && sOk sn) = 2 := by simp [th2, h3, q_57_202]
            refine lv_iconst (v := nI 2) hx hb dX6_find_83 (by decide) ?_
            refine lv_goto (tgt := 88) hx hb dX6_find_84 (by decide) ?_
            refine b_put (ty := .int) X E w (Or.inl (List.mem_of_getElem? (i := 0) rfl)) 0 rfl rfl 20 (by decide) iX6 tyX6 tyX6_ok nmX6 (by decide +kernel) rfl rfl (by decide +kernel) rfl rfl (Nat.le_of_ble_eq_true rfl) dX6_find_88 (fun H locs w => ?_)
            have w : bSt G vwCl [M] s [(M, .inr (6, [.int (nI td), .int (nI nA), .int (nI nJ), .ref yA, .ref yJ, .ref yg, .int (nI dn), .ref yw, .ref yc, .ref yv, .int (nI snt), .int (nI jd), .ref yr, .int (nI bn), .ref yC, .ref yD, .ref yF, .ref yS, .ref yV, .ref yH, .int (nI 2)])), (yA, .inl (G.2.1, 14, .inl fA)), (yJ, .inl (G.2.1, 10, .inl fJ)), (yC, .inl (G.2.1, 300, .inl bc)), (yD, .inl (G.2.1, 300, .inl bd)), (yF, .inl (G.2.1, 300, .inl bf))] _ _ := w
            refine lv_aload_n hx hb dX6_find_91 rfl (lv_at hl 0 rfl) ?_
            refine b_get X E w 0 rfl rfl 20 (by decide) iX6 (by decide +kernel) rfl rfl dX6_find_92 ?_
            refine lv_if_le (tgt := 100) hx hb dX6_find_95 (by decide) (fun c_95_203 => ?_) (fun c_95_203 => ?_)
            · exact absurd c_95_203 (by decide)
            · refine lv_iconst (v := nI 0) hx hb dX6_find_98 (by decide) ?_
              exact W.iret (v := nI 0) hx hb hr (fun t9 ht9 hW9 => ⟨⟨nI 0, (), rfl, by rw [hT]; rfl, by show va_P G.1 vwCl _ t9.heap; rw [ht9]; exact b_cg (by rw [hT]) (w.1.sub (ws' := [(M, .inr (6, [.int (nI td), .int (nI nA), .int (nI nJ), .ref yA, .ref yJ, .ref yg, .int (nI dn), .ref yw, .ref yc, .ref yv, .int (nI snt), .int (nI jd), .ref yr, .int (nI bn), .ref yC, .ref yD, .ref yF, .ref yS, .ref yV, .ref yH, .int (nI 2)]))]) [0] rfl)⟩, w.2.1.F ht9⟩) w.2.1.2.2 dX6_find_99
          · have q_57_202 : (tHas 12 f) = true := bI_n0.mp c_57_201
            have h4 := q_57_202
            refine lv_iload hx hb dX6_find_60 (lv_at hl 4 rfl) ?_
            refine lv_iload_n hx hb dX6_find_62 rfl (lv_at hl 3 rfl) ?_
            refine lv_bipush (v := nI 11) hx hb dX6_find_63 (by decide) ?_
            refine b_calli w (va_runS (As := [.int t0, .int f, .int (nI 11)]) (rest := [.ref M]) X (c_X6_isIn l hl0 G _ (x := t0) (lo := f) (hi := nI 11) ) (va_cwS 3 hts gX6_find_X6_isIn rfl rfl rfl (by decide +kernel) ⟨Nat.le_of_ble_eq_true rfl, Nat.le_of_ble_eq_true rfl⟩) ⟨b_blind, (fun U9 hU9 hW9 => ⟨rfl, b_pre E Z w [] (by decide) rfl b_nil U9 hU9 hW9⟩)⟩ rfl rfl hl.1 rfl (lv_room (Nat.le_of_ble_eq_true rfl)) dX6_find_65 ⟨Nat.le_of_ble_eq_true rfl, Nat.le_of_ble_eq_true rfl⟩) b_nil [] (fun _ => rfl) rfl (fun r65_204 u65_204 H locs hr65_204 w => ?_)
            have w : bSt G vwCl [M] s [(M, .inr (6, [.int (nI td), .int (nI nA), .int (nI nJ), .ref yA, .ref yJ, .ref yg, .int (nI dn), .ref yw, .ref yc, .ref yv, .int (nI snt), .int (nI jd), .ref yr, .int (nI bn), .ref yC, .ref yD, .ref yF, .ref yS, .ref yV, .ref yH, .int (nI 0)])), (yA, .inl (G.2.1, 14, .inl fA)), (yJ, .inl (G.2.1, 10, .inl fJ)), (yC, .inl (G.2.1, 300, .inl bc)), (yD, .inl (G.2.1, 300, .inl bd)), (yF, .inl (G.2.1, 300, .inl bf))] _ _ := w
            subst hr65_204
            refine b_tp (show bI (tIn t0 f (nI 11)) = bI (tHas 12 t0 && !decide (t0 < f)) from congrArg bI (tIn_to h4)) ?_
            refine lv_if_eq (tgt := 83) hx hb dX6_find_68 (by decide) (fun c_68_205 => ?_) (fun c_68_205 => ?_)
            · have q_68_206 : (tHas 12 t0 && !decide (t0 < f)) = false := bI_0.mp c_68_205
              have hT : th2 (tPat nA x && tPat nJ y && !decide (pl < 0)) (tHas 12 f && tHas 12 t0 && !decide (t0 < f) && sOk sn) = 2 := by rw [th2, if_pos h3, if_neg]; rw [Bool.and_assoc (tHas 12 f), q_68_206]; simp
              refine lv_iconst (v := nI 2) hx hb dX6_find_83 (by decide) ?_
              refine lv_goto (tgt := 88) hx hb dX6_find_84 (by decide) ?_
              refine b_put (ty := .int) X E w (Or.inl (List.mem_of_getElem? (i := 0) rfl)) 0 rfl rfl 20 (by decide) iX6 tyX6 tyX6_ok nmX6 (by decide +kernel) rfl rfl (by decide +kernel) rfl rfl (Nat.le_of_ble_eq_true rfl) dX6_find_88 (fun H locs w => ?_)
              have w : bSt G vwCl [M] s [(M, .inr (6, [.int (nI td), .int (nI nA), .int (nI nJ), .ref yA, .ref yJ, .ref yg, .int (nI dn), .ref yw, .ref yc, .ref yv, .int (nI snt), .int (nI jd), .ref yr, .int (nI bn), .ref yC, .ref yD, .ref yF, .ref yS, .ref yV, .ref yH, .int (nI 2)])), (yA, .inl (G.2.1, 14, .inl fA)), (yJ, .inl (G.2.1, 10, .inl fJ)), (yC, .inl (G.2.1, 300, .inl bc)), (yD, .inl (G.2.1, 300, .inl bd)), (yF, .inl (G.2.1, 300, .inl bf))] _ _ := w
              refine lv_aload_n hx hb dX6_find_91 rfl (lv_at hl 0 rfl) ?_
              refine b_get X E w 0 rfl rfl 20 (by decide) iX6 (by decide +kernel) rfl rfl dX6_find_92 ?_
              refine lv_if_le (tgt := 100) hx hb dX6_find_95 (by decide) (fun c_95_207 => ?_) (fun c_95_207 => ?_)
              · exact absurd c_95_207 (by decide)
              · refine lv_iconst (v := nI 0) hx hb dX6_find_98 (by decide) ?_
                exact W.iret (v := nI 0) hx hb hr (fun t9 ht9 hW9 => ⟨⟨nI 0, (), rfl, by rw [hT]; rfl, by show va_P G.1 vwCl _ t9.heap; rw [ht9]; exact b_cg (by rw [hT]) (w.1.sub (ws' := [(M, .inr (6, [.int (nI td), .int (nI nA), .int (nI nJ), .ref yA, .ref yJ, .ref yg, .int (nI dn), .ref yw, .ref yc, .ref yv, .int (nI snt), .int (nI jd), .ref yr, .int (nI bn), .ref yC, .ref yD, .ref yF, .ref yS, .ref yV, .ref yH, .int (nI 2)]))]) [0] rfl)⟩, w.2.1.F ht9⟩) w.2.1.2.2 dX6_find_99
            · have q_68_206 : (tHas 12 t0 && !decide (t0 < f)) = true := bI_n0.mp c_68_205
              have h5 := q_68_206
              refine lv_iload hx hb dX6_find_71 (lv_at hl 5 rfl) ?_
              refine lv_iconst (v := nI 0) hx hb dX6_find_73 (by decide) ?_
              refine lv_sipush (v := nI 1000) hx hb dX6_find_74 (by decide) ?_
              refine b_calli w (va_runS (As := [.int sn, .int (nI 0), .int (nI 1000)]) (rest := [.ref M]) X (c_X6_isIn l hl0 G _ (x := sn) (lo := nI 0) (hi := nI 1000) ) (va_cwS 3 hts gX6_find_X6_isIn rfl rfl rfl (by decide +kernel) ⟨Nat.le_of_ble_eq_true rfl, Nat.le_of_ble_eq_true rfl⟩) ⟨b_blind, (fun U9 hU9 hW9 => ⟨rfl, b_pre E Z w [] (by decide) rfl b_nil U9 hU9 hW9⟩)⟩ rfl rfl hl.1 rfl (lv_room (Nat.le_of_ble_eq_true rfl)) dX6_find_77 ⟨Nat.le_of_ble_eq_true rfl, Nat.le_of_ble_eq_true rfl⟩) b_nil [] (fun _ => rfl) rfl (fun r77_208 u77_208 H locs hr77_208 w => ?_)
              have w : bSt G vwCl [M] s [(M, .inr (6, [.int (nI td), .int (nI nA), .int (nI nJ), .ref yA, .ref yJ, .ref yg, .int (nI dn), .ref yw, .ref yc, .ref yv, .int (nI snt), .int (nI jd), .ref yr, .int (nI bn), .ref yC, .ref yD, .ref yF, .ref yS, .ref yV, .ref yH, .int (nI 0)])), (yA, .inl (G.2.1, 14, .inl fA)), (yJ, .inl (G.2.1, 10, .inl fJ)), (yC, .inl (G.2.1, 300, .inl bc)), (yD, .inl (G.2.1, 300, .inl bd)), (yF, .inl (G.2.1, 300, .inl bf))] _ _ := w
              subst hr77_208
              refine b_tp (show bI (tIn sn (nI 0) (nI 1000)) = bI (sOk sn) from congrArg bI tIn_s) ?_
              refine lv_if_ne (tgt := 87) hx hb dX6_find_80 (by decide) (fun c_80_209 => ?_) (fun c_80_209 => ?_)
              · have q_80_210 : (sOk sn) = true := bI_n0.mp c_80_209
                have hT : th2 (tPat nA x && tPat nJ y && !decide (pl < 0)) (tHas 12 f && tHas 12 t0 && !decide (t0 < f) && sOk sn) = 0 := by rw [th2, if_pos h3, if_pos]; rw [Bool.and_assoc (tHas 12 f), h4, h5, q_80_210]; rfl
                have h5a : tHas 12 t0 = true ∧ ¬ t0 < f := by simpa using h5
                obtain ⟨f0, hf0, rfl⟩ := (tHas_iff (by decide)).mp h4
                obtain ⟨t1, ht1, rfl⟩ := (tHas_iff (by decide)).mp h5a.1
                obtain ⟨pl0, hpl0, rfl⟩ := nI_of c29
                have hft := q_nlt (by omega) (by omega) h5a.2
                have ef : cl (nI f0) = f0 := cl_nI (by omega)
                have et : cl (nI t1) = t1 := cl_nI (by omega)
                have epl : cl (nI pl0) = pl0 := cl_nI hpl0
                refine lv_iconst (v := nI 0) hx hb dX6_find_87 (by decide) ?_
                refine b_put (ty := .int) X E w (Or.inl (List.mem_of_getElem? (i := 0) rfl)) 0 rfl rfl 20 (by decide) iX6 tyX6 tyX6_ok nmX6 (by decide +kernel) rfl rfl (by decide +kernel) rfl rfl (Nat.le_of_ble_eq_true rfl) dX6_find_88 (fun H locs w => ?_)
                have w : bSt G vwCl [M] s [(M, .inr (6, [.int (nI td), .int (nI nA), .int (nI nJ), .ref yA, .ref yJ, .ref yg, .int (nI dn), .ref yw, .ref yc, .ref yv, .int (nI snt), .int (nI jd), .ref yr, .int (nI bn), .ref yC, .ref yD, .ref yF, .ref yS, .ref yV, .ref yH, .int (nI 0)])), (yA, .inl (G.2.1, 14, .inl fA)), (yJ, .inl (G.2.1, 10, .inl fJ)), (yC, .inl (G.2.1, 300, .inl bc)), (yD, .inl (G.2.1, 300, .inl bd)), (yF, .inl (G.2.1, 300, .inl bf))] _ _ := w
                refine lv_aload_n hx hb dX6_find_91 rfl (lv_at hl 0 rfl) ?_
                refine b_get X E w 0 rfl rfl 20 (by decide) iX6 (by decide +kernel) rfl rfl dX6_find_92 ?_
                refine lv_if_le (tgt := 100) hx hb dX6_find_95 (by decide) (fun c_95_211 => ?_) (fun c_95_211 => ?_)
                · refine lv_iload hx hb dX6_find_100 (lv_at hl 6 rfl) ?_
                  refine lv_istore (lv' := [(7, .int (nI pl0)), (0, .ref M), (1, .int x), (2, .int y), (3, .int (nI f0)), (4, .int (nI t1)), (5, .int sn), (6, .int (nI pl0))]) hx hb dX6_find_102 hl (by decide) rfl (fun ls hl => ?_)
                  refine lv_iload_n hx hb dX6_find_104 rfl (lv_at hl 4 rfl) ?_
                  refine lv_istore (lv' := [(8, .int (nI f0)), (7, .int (nI pl0)), (0, .ref M), (1, .int x), (2, .int y), (3, .int (nI f0)), (4, .int (nI t1)), (5, .int sn), (6, .int (nI pl0))]) hx hb dX6_find_105 hl (by decide) rfl (fun ls hl => ?_)
                  refine b_loop (pc := 107) (st := []) (fun (fuel : Nat) (H : Heap) (locs : List Loc) (ls : Array Slot) => ∃ (q : Nat) (l1 : Nat), (q ≤ t1 + 1) ∧ (t1 + 2 ≤ q + fuel) ∧ (l1 ≤ pl0) ∧ (srT (mMm fA nA fJ nJ bc bd bf bn td x y sn) nA nJ f0 t1 pl0 = srA (fun q l => srA (fun a l => srI (mMm fA nA fJ nJ bc bd bf bn td x y sn q a) (codeN q a) nJ nJ l) nA nA l) (t1 + 1) (t1 + 1 - q) l1) ∧ bSt G vwCl [M] s [(M, .inr (6, [.int (nI td), .int (nI nA), .int (nI nJ), .ref yA, .ref yJ, .ref yg, .int (nI dn), .ref yw, .ref yc, .ref yv, .int (nI snt), .int (nI jd), .ref yr, .int (nI bn), .ref yC, .ref yD, .ref yF, .ref yS, .ref yV, .ref yH, .int (nI 0)])), (yA, .inl (G.2.1, 14, .inl fA)), (yJ, .inl (G.2.1, 10, .inl fJ)), (yC, .inl (G.2.1, 300, .inl bc)), (yD, .inl (G.2.1, 300, .inl bd)), (yF, .inl (G.2.1, 300, .inl bf))] H locs ∧ lv_has ls 13 [(0, .ref M), (1, .int x), (2, .int y), (4, .int (nI t1)), (5, .int sn), (7, .int (nI l1)), (8, .int (nI q))]) (fun H locs ls h9 => ?_) (fun fuel H locs ls hI ih107 => ?_) (t1 + 2) ⟨f0, pl0, (by omega), (by omega), Nat.le_refl _, rfl, w, lv_sub hl [2, 3, 4, 6, 7, 1, 0] rfl⟩
                  · obtain ⟨q, l1, hpp, hfp, hl1, hP1, w, hl⟩ := h9
                    omega
                  · obtain ⟨q, l1, hpp, hfp, hl1, hP1, w, hl⟩ := hI
                    refine lv_iload hx hb dX6_find_107 (lv_at hl 6 rfl) ?_
                    refine lv_iload hx hb dX6_find_109 (lv_at hl 3 rfl) ?_
                    refine lv_icmp_gt (tgt := 263) hx hb dX6_find_111 (by decide) (fun c_111_212 => ?_) (fun c_111_212 => ?_)
                    · have q_111_213 : t1 < q := q_lt (by omega) (by omega) c_111_212
                      have ep1 : q = t1 + 1 := by omega
                      refine lv_iconst (v := -1) hx hb dX6_find_263 (by decide) ?_
                      exact W.iret (v := -1) hx hb hr (fun t9 ht9 hW9 => ⟨⟨-1, (), rfl, by rw [hT, ef, et, epl]; exact (congrArg srR (hP1.trans (srA_end ep1))).symm, by show va_P G.1 vwCl _ t9.heap; rw [ht9]; exact b_cg (by rw [hT]) (w.1.sub (ws' := [(M, .inr (6, [.int (nI td), .int (nI nA), .int (nI nJ), .ref yA, .ref yJ, .ref yg, .int (nI dn), .ref yw, .ref yc, .ref yv, .int (nI snt), .int (nI jd), .ref yr, .int (nI bn), .ref yC, .ref yD, .ref yF, .ref yS, .ref yV, .ref yH, .int (nI 0)]))]) [0] rfl)⟩, w.2.1.F ht9⟩) w.2.1.2.2 dX6_find_264
                    · have q_111_213 : q ≤ t1 := q_nlt (by omega) (by omega) c_111_212
                      have hp1 := q_111_213
                      refine lv_iconst (v := nI 0) hx hb dX6_find_114 (by decide) ?_
                      refine lv_istore (lv' := [(9, .int (nI 0)), (0, .ref M), (1, .int x), (2, .int y), (4, .int (nI t1)), (5, .int sn), (7, .int (nI l1)), (8, .int (nI q))]) hx hb dX6_find_115 hl (by decide) rfl (fun ls hl => ?_)
                      refine b_loop (pc := 117) (st := []) (fun (fuel : Nat) (H : Heap) (locs : List Loc) (ls : Array Slot) => ∃ (a : Nat) (l2 : Nat), (a ≤ nA) ∧ (nA + 1 ≤ a + fuel) ∧ (l2 ≤ pl0) ∧ (srA (fun a l => srI (mMm fA nA fJ nJ bc bd bf bn td x y sn q a) (codeN q a) nJ nJ l) nA nA l1 = srA (fun a l => srI (mMm fA nA fJ nJ bc bd bf bn td x y sn q a) (codeN q a) nJ nJ l) nA (nA - a) l2) ∧ bSt G vwCl [M] s [(M, .inr (6, [.int (nI td), .int (nI nA), .int (nI nJ), .ref yA, .ref yJ, .ref yg, .int (nI dn), .ref yw, .ref yc, .ref yv, .int (nI snt), .int (nI jd), .ref yr, .int (nI bn), .ref yC, .ref yD, .ref yF, .ref yS, .ref yV, .ref yH, .int (nI 0)])), (yA, .inl (G.2.1, 14, .inl fA)), (yJ, .inl (G.2.1, 10, .inl fJ)), (yC, .inl (G.2.1, 300, .inl bc)), (yD, .inl (G.2.1, 300, .inl bd)), (yF, .inl (G.2.1, 300, .inl bf))] H locs ∧ lv_has ls 13 [(0, .ref M), (1, .int x), (2, .int y), (4, .int (nI t1)), (5, .int sn), (7, .int (nI l2)), (8, .int (nI q)), (9, .int (nI a))]) (fun H locs ls h9 => ?_) (fun fuel H locs ls hI ih117 => ?_) (nA + 1) ⟨0, l1, (by omega), (by omega), hl1, rfl, w, lv_sub hl [1, 2, 3, 4, 5, 6, 7, 0] rfl⟩
                      · obtain ⟨a, l2, ha, hfa, hl2, hA1, w, hl⟩ := h9
                        omega
                      · obtain ⟨a, l2, ha, hfa, hl2, hA1, w, hl⟩ := hI
                        refine lv_iload hx hb dX6_find_117 (lv_at hl 7 rfl) ?_
                        refine lv_aload_n hx hb dX6_find_119 rfl (lv_at hl 0 rfl) ?_
                        refine b_get X E w 0 rfl rfl 1 (by decide) iX6 (by decide +kernel) rfl rfl dX6_find_120 ?_
                        refine lv_icmp_ge (tgt := 257) hx hb dX6_find_123 (by decide) (fun c_123_214 => ?_) (fun c_123_214 => ?_)
                        · have q_123_215 : nA ≤ a := q_le (by omega) (by omega) c_123_214
                          have ea : a = nA := by omega
                          refine lv_iinc (v := nI (q + 1)) (lv' := [(8, .int (nI (q + 1))), (0, .ref M), (1, .int x), (2, .int y), (4, .int (nI t1)), (5, .int sn), (7, .int (nI l2)), (9, .int (nI a))]) hx hb dX6_find_257 hl (k := 6) rfl (nI_add q 1) (by decide) rfl (fun ls hl => ?_)
                          refine lv_goto (tgt := 107) hx hb dX6_find_260 (by decide) ?_
                          exact ih107 _ _ _ ⟨q + 1, l2, (by omega), (by omega), (by omega), hP1.trans (srA_l (by omega) (hA1.trans (srA_end ea))), w, lv_sub hl [1, 2, 3, 4, 5, 6, 0] rfl⟩
                        · have q_123_215 : a < nA := q_nle (by omega) (by omega) c_123_214
                          have ha1 := q_123_215
                          refine lv_iconst (v := nI 0) hx hb dX6_find_126 (by decide) ?_
                          refine lv_istore (lv' := [(10, .int (nI 0)), (0, .ref M), (1, .int x), (2, .int y), (4, .int (nI t1)), (5, .int sn), (7, .int (nI l2)), (8, .int (nI q)), (9, .int (nI a))]) hx hb dX6_find_127 hl (by decide) rfl (fun ls hl => ?_)
                          refine b_loop (pc := 129) (st := []) (fun (fuel : Nat) (H : Heap) (locs : List Loc) (ls : Array Slot) => ∃ (i : Nat) (l3 : Nat), (i ≤ nJ) ∧ (nJ + 1 ≤ i + fuel) ∧ (l3 ≤ pl0) ∧ (srI (mMm fA nA fJ nJ bc bd bf bn td x y sn q a) (codeN q a) nJ nJ l2 = srI (mMm fA nA fJ nJ bc bd bf bn td x y sn q a) (codeN q a) nJ (nJ - i) l3) ∧ bSt G vwCl [M] s [(M, .inr (6, [.int (nI td), .int (nI nA), .int (nI nJ), .ref yA, .ref yJ, .ref yg, .int (nI dn), .ref yw, .ref yc, .ref yv, .int (nI snt), .int (nI jd), .ref yr, .int (nI bn), .ref yC, .ref yD, .ref yF, .ref yS, .ref yV, .ref yH, .int (nI 0)])), (yA, .inl (G.2.1, 14, .inl fA)), (yJ, .inl (G.2.1, 10, .inl fJ)), (yC, .inl (G.2.1, 300, .inl bc)), (yD, .inl (G.2.1, 300, .inl bd)), (yF, .inl (G.2.1, 300, .inl bf))] H locs ∧ lv_has ls 13 [(0, .ref M), (1, .int x), (2, .int y), (4, .int (nI t1)), (5, .int sn), (7, .int (nI l3)), (8, .int (nI q)), (9, .int (nI a)), (10, .int (nI i))]) (fun H locs ls h9 => ?_) (fun fuel H locs ls hI ih129 => ?_) (nJ + 1) ⟨0, l2, (by omega), (by omega), hl2, rfl, w, lv_sub hl [1, 2, 3, 4, 5, 6, 7, 8, 0] rfl⟩
                          · obtain ⟨i, l3, hi, hfi, hl3, hI1, w, hl⟩ := h9
                            omega
                          · obtain ⟨i, l3, hi, hfi, hl3, hI1, w, hl⟩ := hI
                            refine lv_iload hx hb dX6_find_129 (lv_at hl 8 rfl) ?_
                            refine lv_aload_n hx hb dX6_find_131 rfl (lv_at hl 0 rfl) ?_
                            refine b_get X E w 0 rfl rfl 2 (by decide) iX6 (by decide +kernel) rfl rfl dX6_find_132 ?_
                            refine lv_icmp_ge (tgt := 251) hx hb dX6_find_135 (by decide) (fun c_135_216 => ?_) (fun c_135_216 => ?_)
                            · have q_135_217 : nJ ≤ i := q_le (by omega) (by omega) c_135_216
                              have ei : i = nJ := by omega
                              refine lv_iinc (v := nI (a + 1)) (lv' := [(9, .int (nI (a + 1))), (0, .ref M), (1, .int x), (2, .int y), (4, .int (nI t1)), (5, .int sn), (7, .int (nI l3)), (8, .int (nI q)), (10, .int (nI i))]) hx hb dX6_find_251 hl (k := 7) rfl (nI_add a 1) (by decide) rfl (fun ls hl => ?_)
                              refine lv_goto (tgt := 117) hx hb dX6_find_254 (by decide) ?_
                              exact ih117 _ _ _ ⟨a + 1, l3, (by omega), (by omega), (by omega), hA1.trans (srA_l (by omega) (hI1.trans (srI_end ei))), w, lv_sub hl [1, 2, 3, 4, 5, 6, 7, 0] rfl⟩
                            · have q_135_217 : i < nJ := q_nle (by omega) (by omega) c_135_216
                              have hi1 := q_135_217
                              refine lv_iload hx hb dX6_find_138 (lv_at hl 7 rfl) ?_
                              refine lv_iload hx hb dX6_find_140 (lv_at hl 8 rfl) ?_
                              refine lv_iload hx hb dX6_find_142 (lv_at hl 6 rfl) ?_
                              refine b_calli w (va_runS (As := [.int (nI a), .int (nI i), .int (nI q)]) (rest := []) X (c_X6_cellOf l hl0 G _ (a := a) (i := i) (p0 := q) ) (va_cwS 3 hts gX6_find_X6_cellOf rfl rfl rfl (by decide +kernel) ⟨Nat.le_of_ble_eq_true rfl, Nat.le_of_ble_eq_true rfl⟩) ⟨b_blind, (fun U9 hU9 hW9 => ⟨rfl, b_pre E Z w [] (by decide) rfl b_nil U9 hU9 hW9⟩)⟩ rfl rfl hl.1 rfl (lv_room (Nat.le_of_ble_eq_true rfl)) dX6_find_144 ⟨Nat.le_of_ble_eq_true rfl, Nat.le_of_ble_eq_true rfl⟩) b_nil [] (fun _ => rfl) rfl (fun r144_218 u144_218 H locs hr144_218 w => ?_)
                              have w : bSt G vwCl [M] s [(M, .inr (6, [.int (nI td), .int (nI nA), .int (nI nJ), .ref yA, .ref yJ, .ref yg, .int (nI dn), .ref yw, .ref yc, .ref yv, .int (nI snt), .int (nI jd), .ref yr, .int (nI bn), .ref yC, .ref yD, .ref yF, .ref yS, .ref yV, .ref yH, .int (nI 0)])), (yA, .inl (G.2.1, 14, .inl fA)), (yJ, .inl (G.2.1, 10, .inl fJ)), (yC, .inl (G.2.1, 300, .inl bc)), (yD, .inl (G.2.1, 300, .inl bd)), (yF, .inl (G.2.1, 300, .inl bf))] _ _ := w
                              subst hr144_218
                              refine lv_istore (lv' := [(11, .int (nI (140 * q + (10 * a + i)))), (0, .ref M), (1, .int x), (2, .int y), (4, .int (nI t1)), (5, .int sn), (7, .int (nI l3)), (8, .int (nI q)), (9, .int (nI a)), (10, .int (nI i))]) hx hb dX6_find_147 hl (by decide) rfl (fun ls hl => ?_)
                              refine lv_aload_n hx hb dX6_find_149 rfl (lv_at hl 1 rfl) ?_
                              refine lv_iload hx hb dX6_find_150 (lv_at hl 8 rfl) ?_
                              refine lv_iload_n hx hb dX6_find_152 rfl (lv_at hl 2 rfl) ?_
                              refine lv_iconst (v := nI 0) hx hb dX6_find_153 (by decide) ?_
                              refine b_calli w (va_runV (As := [.int (nI a), .int x, .int (nI 0)]) (rest := []) X (c_X6_isWithin_A l hl0 G _ (M := M) (k := a) (x := x) (td := td) (nA := nA) (nJ := nJ) (yA := yA) (yJ := yJ) (yg := yg) (dn := dn) (yw := yw) (yc := yc) (yv := yv) (snt := snt) (jd := jd) (yr := yr) (bn := bn) (yC := yC) (yD := yD) (yF := yF) (yS := yS) (yV := yV) (yH := yH) (th := nI 0) (fA := fA) (hnA := (by first | assumption | omega)) (hTA := (by first | assumption | omega)) (hk := (by first | assumption | omega))) (cwV 3 hts gX6_find_X6_isWithin rfl rfl rfl (by decide +kernel) ⟨Nat.le_of_ble_eq_true rfl, Nat.le_of_ble_eq_true rfl⟩) ⟨b_blind, b_recv E w (ci := 6) (q0 := 0) rfl rfl, (fun U9 hU9 hW9 => ⟨rfl, b_pre E Z w [0, 1] (by decide) rfl b_nil U9 hU9 hW9⟩)⟩ rfl rfl hl.1 rfl (lv_room (Nat.le_of_ble_eq_true rfl)) dX6_find_154 ⟨Nat.le_of_ble_eq_true rfl, Nat.le_of_ble_eq_true rfl⟩) b_nil [] (fun _ => rfl) rfl (fun r154_219 u154_219 H locs hr154_219 w => ?_)
                              have w : bSt G vwCl [M] s [(M, .inr (6, [.int (nI td), .int (nI nA), .int (nI nJ), .ref yA, .ref yJ, .ref yg, .int (nI dn), .ref yw, .ref yc, .ref yv, .int (nI snt), .int (nI jd), .ref yr, .int (nI bn), .ref yC, .ref yD, .ref yF, .ref yS, .ref yV, .ref yH, .int (nI 0)])), (yA, .inl (G.2.1, 14, .inl fA)), (yJ, .inl (G.2.1, 10, .inl fJ)), (yC, .inl (G.2.1, 300, .inl bc)), (yD, .inl (G.2.1, 300, .inl bd)), (yF, .inl (G.2.1, 300, .inl bf))] _ _ := w
                              subst hr154_219
                              refine lv_if_eq (tgt := 201) hx hb dX6_find_157 (by decide) (fun c_157_220 => ?_) (fun c_157_220 => ?_)
                              · have q_157_221 : (decide (x = -1) || wkB fA (fun j => decide (nI j = x)) nA (nI a)) = false := bI_0.mp c_157_220
                                have hM : mMm fA nA fJ nJ bc bd bf bn td x y sn q a i = false := by simp [mMm, q_157_221]
                                refine lv_iconst (v := nI 0) hx hb dX6_find_201 (by decide) ?_
                                refine lv_istore (lv' := [(12, .int (nI 0)), (11, .int (nI (140 * q + (10 * a + i)))), (0, .ref M), (1, .int x), (2, .int y), (4, .int (nI t1)), (5, .int sn), (7, .int (nI l3)), (8, .int (nI q)), (9, .int (nI a)), (10, .int (nI i))]) hx hb dX6_find_202 hl (by decide) rfl (fun ls hl => ?_)
                                refine lv_iload hx hb dX6_find_204 (lv_at hl 0 rfl) ?_
                                refine lv_if_eq (tgt := 230) hx hb dX6_find_206 (by decide) (fun c_206_222 => ?_) (fun c_206_222 => ?_)
                                · have hgn := srI_no (code := codeN q a) (l := l3) (show i < nJ by omega) hM
                                  refine lv_iload hx hb dX6_find_230 (lv_at hl 7 rfl) ?_
                                  refine lv_iload hx hb dX6_find_232 (lv_at hl 0 rfl) ?_
                                  refine lv_if_eq (tgt := 241) hx hb dX6_find_234 (by decide) (fun c_234_223 => ?_) (fun c_234_223 => ?_)
                                  · refine lv_iconst (v := nI 0) hx hb dX6_find_241 (by decide) ?_
                                    refine lv_isub hx hb dX6_find_242 ?_
                                    refine b_tp (show (nI l3) - (nI 0) = nI l3 from pk_sub (b := 0) (Nat.zero_le _)) ?_
                                    refine lv_istore (lv' := [(7, .int (nI l3)), (12, .int (nI 0)), (11, .int (nI (140 * q + (10 * a + i)))), (0, .ref M), (1, .int x), (2, .int y), (4, .int (nI t1)), (5, .int sn), (8, .int (nI q)), (9, .int (nI a)), (10, .int (nI i))]) hx hb dX6_find_243 hl (by decide) rfl (fun ls hl => ?_)
                                    refine lv_iinc (v := nI (i + 1)) (lv' := [(10, .int (nI (i + 1))), (7, .int (nI l3)), (12, .int (nI 0)), (11, .int (nI (140 * q + (10 * a + i)))), (0, .ref M), (1, .int x), (2, .int y), (4, .int (nI t1)), (5, .int sn), (8, .int (nI q)), (9, .int (nI a))]) hx hb dX6_find_245 hl (k := 10) rfl (nI_add i 1) (by decide) rfl (fun ls hl => ?_)
                                    refine lv_goto (tgt := 129) hx hb dX6_find_248 (by decide) ?_
                                    exact ih129 _ _ _ ⟨i + 1, l3, (by omega), (by omega), (by omega), hI1.trans hgn, w, lv_sub hl [4, 5, 6, 7, 8, 1, 9, 10, 0] rfl⟩
                                  · exact absurd (by decide) c_234_223
                                · exact absurd (by decide) c_206_222
                              · have q_157_221 : (decide (x = -1) || wkB fA (fun j => decide (nI j = x)) nA (nI a)) = true := bI_n0.mp c_157_220
                                have m1 := q_157_221
                                refine lv_aload_n hx hb dX6_find_160 rfl (lv_at hl 1 rfl) ?_
                                refine lv_iload hx hb dX6_find_161 (lv_at hl 9 rfl) ?_
                                refine lv_iload_n hx hb dX6_find_163 rfl (lv_at hl 3 rfl) ?_
                                refine lv_iconst (v := nI 1) hx hb dX6_find_164 (by decide) ?_
                                refine b_calli w (va_runV (As := [.int (nI i), .int y, .int (nI 1)]) (rest := []) X (c_X6_isWithin_J l hl0 G _ (M := M) (k := i) (x := y) (td := td) (nA := nA) (nJ := nJ) (yA := yA) (yJ := yJ) (yg := yg) (dn := dn) (yw := yw) (yc := yc) (yv := yv) (snt := snt) (jd := jd) (yr := yr) (bn := bn) (yC := yC) (yD := yD) (yF := yF) (yS := yS) (yV := yV) (yH := yH) (th := nI 0) (fJ := fJ) (hnJ := (by first | assumption | omega)) (hTJ := (by first | assumption | omega)) (hk := (by first | assumption | omega))) (cwV 3 hts gX6_find_X6_isWithin rfl rfl rfl (by decide +kernel) ⟨Nat.le_of_ble_eq_true rfl, Nat.le_of_ble_eq_true rfl⟩) ⟨b_blind, b_recv E w (ci := 6) (q0 := 0) rfl rfl, (fun U9 hU9 hW9 => ⟨rfl, b_pre E Z w [0, 2] (by decide) rfl b_nil U9 hU9 hW9⟩)⟩ rfl rfl hl.1 rfl (lv_room (Nat.le_of_ble_eq_true rfl)) dX6_find_165 ⟨Nat.le_of_ble_eq_true rfl, Nat.le_of_ble_eq_true rfl⟩) b_nil [] (fun _ => rfl) rfl (fun r165_224 u165_224 H locs hr165_224 w => ?_)
                                have w : bSt G vwCl [M] s [(M, .inr (6, [.int (nI td), .int (nI nA), .int (nI nJ), .ref yA, .ref yJ, .ref yg, .int (nI dn), .ref yw, .ref yc, .ref yv, .int (nI snt), .int (nI jd), .ref yr, .int (nI bn), .ref yC, .ref yD, .ref yF, .ref yS, .ref yV, .ref yH, .int (nI 0)])), (yA, .inl (G.2.1, 14, .inl fA)), (yJ, .inl (G.2.1, 10, .inl fJ)), (yC, .inl (G.2.1, 300, .inl bc)), (yD, .inl (G.2.1, 300, .inl bd)), (yF, .inl (G.2.1, 300, .inl bf))] _ _ := w
                                subst hr165_224
                                refine lv_if_eq (tgt := 201) hx hb dX6_find_168 (by decide) (fun c_168_225 => ?_) (fun c_168_225 => ?_)
                                · have q_168_226 : (decide (y = -1) || wkB fJ (fun j => decide (nI j = y)) nJ (nI i)) = false := bI_0.mp c_168_225
                                  have hM : mMm fA nA fJ nJ bc bd bf bn td x y sn q a i = false := by simp [mMm, q_168_226]
                                  refine lv_iconst (v := nI 0) hx hb dX6_find_201 (by decide) ?_
                                  refine lv_istore (lv' := [(12, .int (nI 0)), (11, .int (nI (140 * q + (10 * a + i)))), (0, .ref M), (1, .int x), (2, .int y), (4, .int (nI t1)), (5, .int sn), (7, .int (nI l3)), (8, .int (nI q)), (9, .int (nI a)), (10, .int (nI i))]) hx hb dX6_find_202 hl (by decide) rfl (fun ls hl => ?_)
                                  refine lv_iload hx hb dX6_find_204 (lv_at hl 0 rfl) ?_
                                  refine lv_if_eq (tgt := 230) hx hb dX6_find_206 (by decide) (fun c_206_227 => ?_) (fun c_206_227 => ?_)
                                  · have hgn := srI_no (code := codeN q a) (l := l3) (show i < nJ by omega) hM
                                    refine lv_iload hx hb dX6_find_230 (lv_at hl 7 rfl) ?_
                                    refine lv_iload hx hb dX6_find_232 (lv_at hl 0 rfl) ?_
                                    refine lv_if_eq (tgt := 241) hx hb dX6_find_234 (by decide) (fun c_234_228 => ?_) (fun c_234_228 => ?_)
                                    · refine lv_iconst (v := nI 0) hx hb dX6_find_241 (by decide) ?_
                                      refine lv_isub hx hb dX6_find_242 ?_
                                      refine b_tp (show (nI l3) - (nI 0) = nI l3 from pk_sub (b := 0) (Nat.zero_le _)) ?_
                                      refine lv_istore (lv' := [(7, .int (nI l3)), (12, .int (nI 0)), (11, .int (nI (140 * q + (10 * a + i)))), (0, .ref M), (1, .int x), (2, .int y), (4, .int (nI t1)), (5, .int sn), (8, .int (nI q)), (9, .int (nI a)), (10, .int (nI i))]) hx hb dX6_find_243 hl (by decide) rfl (fun ls hl => ?_)
                                      refine lv_iinc (v := nI (i + 1)) (lv' := [(10, .int (nI (i + 1))), (7, .int (nI l3)), (12, .int (nI 0)), (11, .int (nI (140 * q + (10 * a + i)))), (0, .ref M), (1, .int x), (2, .int y), (4, .int (nI t1)), (5, .int sn), (8, .int (nI q)), (9, .int (nI a))]) hx hb dX6_find_245 hl (k := 10) rfl (nI_add i 1) (by decide) rfl (fun ls hl => ?_)
                                      refine lv_goto (tgt := 129) hx hb dX6_find_248 (by decide) ?_
                                      exact ih129 _ _ _ ⟨i + 1, l3, (by omega), (by omega), (by omega), hI1.trans hgn, w, lv_sub hl [4, 5, 6, 7, 8, 1, 9, 10, 0] rfl⟩
                                    · exact absurd (by decide) c_234_228
                                  · exact absurd (by decide) c_206_227
                                · have q_168_226 : (decide (y = -1) || wkB fJ (fun j => decide (nI j = y)) nJ (nI i)) = true := bI_n0.mp c_168_225
                                  have m2 := q_168_226
                                  refine lv_aload_n hx hb dX6_find_171 rfl (lv_at hl 1 rfl) ?_
                                  refine lv_iload hx hb dX6_find_172 (lv_at hl 0 rfl) ?_
                                  refine lv_aload_n hx hb dX6_find_174 rfl (lv_at hl 1 rfl) ?_
                                  refine b_get X E w 0 rfl rfl 0 (by decide) iX6 (by decide +kernel) rfl rfl dX6_find_175 ?_
                                  refine b_calli w (va_runV (As := [.int (nI (140 * q + (10 * a + i))), .int (nI td)]) (rest := []) X (c_X6_figureOn l hl0 G _ (M := M) (x := nI (140 * q + (10 * a + i))) (d := nI td) (td := td) (nA := nA) (nJ := nJ) (yA := yA) (yJ := yJ) (yg := yg) (dn := dn) (yw := yw) (yc := yc) (yv := yv) (snt := snt) (jd := jd) (yr := yr) (bn := bn) (yC := yC) (yD := yD) (yF := yF) (yS := yS) (yV := yV) (yH := yH) (th := nI 0) (bc := bc) (bd := bd) (bf := bf) (hbn := (by first | assumption | omega))) (cwV 2 hts gX6_find_X6_figureOn rfl rfl rfl (by decide +kernel) ⟨Nat.le_of_ble_eq_true rfl, Nat.le_of_ble_eq_true rfl⟩) ⟨b_blind, b_recv E w (ci := 6) (q0 := 0) rfl rfl, (fun U9 hU9 hW9 => ⟨rfl, b_pre E Z w [0, 3, 4, 5] (by decide) rfl b_nil U9 hU9 hW9⟩)⟩ rfl rfl hl.1 rfl (lv_room (Nat.le_of_ble_eq_true rfl)) dX6_find_178 ⟨Nat.le_of_ble_eq_true rfl, Nat.le_of_ble_eq_true rfl⟩) b_nil [] (fun _ => rfl) rfl (fun r178_229 u178_229 H locs hr178_229 w => ?_)
                                  have w : bSt G vwCl [M] s [(M, .inr (6, [.int (nI td), .int (nI nA), .int (nI nJ), .ref yA, .ref yJ, .ref yg, .int (nI dn), .ref yw, .ref yc, .ref yv, .int (nI snt), .int (nI jd), .ref yr, .int (nI bn), .ref yC, .ref yD, .ref yF, .ref yS, .ref yV, .ref yH, .int (nI 0)])), (yA, .inl (G.2.1, 14, .inl fA)), (yJ, .inl (G.2.1, 10, .inl fJ)), (yC, .inl (G.2.1, 300, .inl bc)), (yD, .inl (G.2.1, 300, .inl bd)), (yF, .inl (G.2.1, 300, .inl bf))] _ _ := w
                                  subst hr178_229
                                  refine lv_ldc (v := MIS) hx hb hown (hts (.constant RX6 86 (-2000000001)) (by decide +kernel)) dX6_find_181 ?_
                                  refine lv_icmp_eq (tgt := 201) hx hb dX6_find_183 (by decide) (fun c_183_230 => ?_) (fun c_183_230 => ?_)
                                  · have hM : mMm fA nA fJ nJ bc bd bf bn td x y sn q a i = false := by simp [mMm, c_183_230]
                                    refine lv_iconst (v := nI 0) hx hb dX6_find_201 (by decide) ?_
                                    refine lv_istore (lv' := [(12, .int (nI 0)), (11, .int (nI (140 * q + (10 * a + i)))), (0, .ref M), (1, .int x), (2, .int y), (4, .int (nI t1)), (5, .int sn), (7, .int (nI l3)), (8, .int (nI q)), (9, .int (nI a)), (10, .int (nI i))]) hx hb dX6_find_202 hl (by decide) rfl (fun ls hl => ?_)
                                    refine lv_iload hx hb dX6_find_204 (lv_at hl 0 rfl) ?_
                                    refine lv_if_eq (tgt := 230) hx hb dX6_find_206 (by decide) (fun c_206_231 => ?_) (fun c_206_231 => ?_)
                                    · have hgn := srI_no (code := codeN q a) (l := l3) (show i < nJ by omega) hM
                                      refine lv_iload hx hb dX6_find_230 (lv_at hl 7 rfl) ?_
                                      refine lv_iload hx hb dX6_find_232 (lv_at hl 0 rfl) ?_
                                      refine lv_if_eq (tgt := 241) hx hb dX6_find_234 (by decide) (fun c_234_232 => ?_) (fun c_234_232 => ?_)
                                      · refine lv_iconst (v := nI 0) hx hb dX6_find_241 (by decide) ?_
                                        refine lv_isub hx hb dX6_find_242 ?_
                                        refine b_tp (show (nI l3) - (nI 0) = nI l3 from pk_sub (b := 0) (Nat.zero_le _)) ?_
                                        refine lv_istore (lv' := [(7, .int (nI l3)), (12, .int (nI 0)), (11, .int (nI (140 * q + (10 * a + i)))), (0, .ref M), (1, .int x), (2, .int y), (4, .int (nI t1)), (5, .int sn), (8, .int (nI q)), (9, .int (nI a)), (10, .int (nI i))]) hx hb dX6_find_243 hl (by decide) rfl (fun ls hl => ?_)
                                        refine lv_iinc (v := nI (i + 1)) (lv' := [(10, .int (nI (i + 1))), (7, .int (nI l3)), (12, .int (nI 0)), (11, .int (nI (140 * q + (10 * a + i)))), (0, .ref M), (1, .int x), (2, .int y), (4, .int (nI t1)), (5, .int sn), (8, .int (nI q)), (9, .int (nI a))]) hx hb dX6_find_245 hl (k := 10) rfl (nI_add i 1) (by decide) rfl (fun ls hl => ?_)
                                        refine lv_goto (tgt := 129) hx hb dX6_find_248 (by decide) ?_
                                        exact ih129 _ _ _ ⟨i + 1, l3, (by omega), (by omega), (by omega), hI1.trans hgn, w, lv_sub hl [4, 5, 6, 7, 8, 1, 9, 10, 0] rfl⟩
                                      · exact absurd (by decide) c_234_232
                                    · exact absurd (by decide) c_206_231
                                  · have m3 := c_183_230
                                    refine lv_aload_n hx hb dX6_find_186 rfl (lv_at hl 1 rfl) ?_
                                    refine lv_iload hx hb dX6_find_187 (lv_at hl 0 rfl) ?_
                                    refine b_calli w (va_runV (As := [.int (nI (140 * q + (10 * a + i)))]) (rest := []) X (c_X6_toldOn l hl0 G _ (M := M) (x := nI (140 * q + (10 * a + i))) (td := td) (nA := nA) (nJ := nJ) (yA := yA) (yJ := yJ) (yg := yg) (dn := dn) (yw := yw) (yc := yc) (yv := yv) (snt := snt) (jd := jd) (yr := yr) (bn := bn) (yC := yC) (yD := yD) (yF := yF) (yS := yS) (yV := yV) (yH := yH) (th := nI 0) (bc := bc) (bd := bd) (hbn := (by first | assumption | omega))) (cwV 1 hts gX6_find_X6_toldOn rfl rfl rfl (by decide +kernel) ⟨Nat.le_of_ble_eq_true rfl, Nat.le_of_ble_eq_true rfl⟩) ⟨b_blind, b_recv E w (ci := 6) (q0 := 0) rfl rfl, (fun U9 hU9 hW9 => ⟨rfl, b_pre E Z w [0, 3, 4] (by decide) rfl b_nil U9 hU9 hW9⟩)⟩ rfl rfl hl.1 rfl (lv_room (Nat.le_of_ble_eq_true rfl)) dX6_find_189 ⟨Nat.le_of_ble_eq_true rfl, Nat.le_of_ble_eq_true rfl⟩) b_nil [] (fun _ => rfl) rfl (fun r189_233 u189_233 H locs hr189_233 w => ?_)
                                    have w : bSt G vwCl [M] s [(M, .inr (6, [.int (nI td), .int (nI nA), .int (nI nJ), .ref yA, .ref yJ, .ref yg, .int (nI dn), .ref yw, .ref yc, .ref yv, .int (nI snt), .int (nI jd), .ref yr, .int (nI bn), .ref yC, .ref yD, .ref yF, .ref yS, .ref yV, .ref yH, .int (nI 0)])), (yA, .inl (G.2.1, 14, .inl fA)), (yJ, .inl (G.2.1, 10, .inl fJ)), (yC, .inl (G.2.1, 300, .inl bc)), (yD, .inl (G.2.1, 300, .inl bd)), (yF, .inl (G.2.1, 300, .inl bf))] _ _ := w
                                    subst hr189_233
                                    refine lv_iload hx hb dX6_find_192 (lv_at hl 5 rfl) ?_
                                    refine lv_icmp_lt (tgt := 201) hx hb dX6_find_194 (by decide) (fun c_194_234 => ?_) (fun c_194_234 => ?_)
                                    · have hM : mMm fA nA fJ nJ bc bd bf bn td x y sn q a i = false := by simp [mMm, c_194_234]
                                      refine lv_iconst (v := nI 0) hx hb dX6_find_201 (by decide) ?_
                                      refine lv_istore (lv' := [(12, .int (nI 0)), (11, .int (nI (140 * q + (10 * a + i)))), (0, .ref M), (1, .int x), (2, .int y), (4, .int (nI t1)), (5, .int sn), (7, .int (nI l3)), (8, .int (nI q)), (9, .int (nI a)), (10, .int (nI i))]) hx hb dX6_find_202 hl (by decide) rfl (fun ls hl => ?_)
                                      refine lv_iload hx hb dX6_find_204 (lv_at hl 0 rfl) ?_
                                      refine lv_if_eq (tgt := 230) hx hb dX6_find_206 (by decide) (fun c_206_235 => ?_) (fun c_206_235 => ?_)
                                      · have hgn := srI_no (code := codeN q a) (l := l3) (show i < nJ by omega) hM
                                        refine lv_iload hx hb dX6_find_230 (lv_at hl 7 rfl) ?_
                                        refine lv_iload hx hb dX6_find_232 (lv_at hl 0 rfl) ?_
                                        refine lv_if_eq (tgt := 241) hx hb dX6_find_234 (by decide) (fun c_234_236 => ?_) (fun c_234_236 => ?_)
                                        · refine lv_iconst (v := nI 0) hx hb dX6_find_241 (by decide) ?_
                                          refine lv_isub hx hb dX6_find_242 ?_
                                          refine b_tp (show (nI l3) - (nI 0) = nI l3 from pk_sub (b := 0) (Nat.zero_le _)) ?_
                                          refine lv_istore (lv' := [(7, .int (nI l3)), (12, .int (nI 0)), (11, .int (nI (140 * q + (10 * a + i)))), (0, .ref M), (1, .int x), (2, .int y), (4, .int (nI t1)), (5, .int sn), (8, .int (nI q)), (9, .int (nI a)), (10, .int (nI i))]) hx hb dX6_find_243 hl (by decide) rfl (fun ls hl => ?_)
                                          refine lv_iinc (v := nI (i + 1)) (lv' := [(10, .int (nI (i + 1))), (7, .int (nI l3)), (12, .int (nI 0)), (11, .int (nI (140 * q + (10 * a + i)))), (0, .ref M), (1, .int x), (2, .int y), (4, .int (nI t1)), (5, .int sn), (8, .int (nI q)), (9, .int (nI a))]) hx hb dX6_find_245 hl (k := 10) rfl (nI_add i 1) (by decide) rfl (fun ls hl => ?_)
                                          refine lv_goto (tgt := 129) hx hb dX6_find_248 (by decide) ?_
                                          exact ih129 _ _ _ ⟨i + 1, l3, (by omega), (by omega), (by omega), hI1.trans hgn, w, lv_sub hl [4, 5, 6, 7, 8, 1, 9, 10, 0] rfl⟩
                                        · exact absurd (by decide) c_234_236
                                      · exact absurd (by decide) c_206_235
                                    · have hM : mMm fA nA fJ nJ bc bd bf bn td x y sn q a i = true := by simp only [mMm, m1, m2]; simp [m3, c_194_234]
                                      refine lv_iconst (v := nI 1) hx hb dX6_find_197 (by decide) ?_
                                      refine lv_goto (tgt := 202) hx hb dX6_find_198 (by decide) ?_
                                      refine lv_istore (lv' := [(12, .int (nI 1)), (11, .int (nI (140 * q + (10 * a + i)))), (0, .ref M), (1, .int x), (2, .int y), (4, .int (nI t1)), (5, .int sn), (7, .int (nI l3)), (8, .int (nI q)), (9, .int (nI a)), (10, .int (nI i))]) hx hb dX6_find_202 hl (by decide) rfl (fun ls hl => ?_)
                                      refine lv_iload hx hb dX6_find_204 (lv_at hl 0 rfl) ?_
                                      refine lv_if_eq (tgt := 230) hx hb dX6_find_206 (by decide) (fun c_206_237 => ?_) (fun c_206_237 => ?_)
                                      · exact absurd c_206_237 (by decide)
                                      · refine lv_iload hx hb dX6_find_209 (lv_at hl 7 rfl) ?_
                                        refine lv_if_ne (tgt := 230) hx hb dX6_find_211 (by decide) (fun c_211_238 => ?_) (fun c_211_238 => ?_)
                                        · have q_211_239 : ¬ l3 = 0 := fun h9 => c_211_238 ((nI_z (by omega)).mpr h9)
                                          have hgn := srI_pass (code := codeN q a) (show i < nJ by omega) hM q_211_239
                                          have q211 := q_211_239
                                          refine lv_iload hx hb dX6_find_230 (lv_at hl 7 rfl) ?_
                                          refine lv_iload hx hb dX6_find_232 (lv_at hl 0 rfl) ?_
                                          refine lv_if_eq (tgt := 241) hx hb dX6_find_234 (by decide) (fun c_234_240 => ?_) (fun c_234_240 => ?_)
                                          · exact absurd c_234_240 (by decide)
                                          · refine lv_iconst (v := nI 1) hx hb dX6_find_237 (by decide) ?_
                                            refine lv_goto (tgt := 242) hx hb dX6_find_238 (by decide) ?_
                                            refine lv_isub hx hb dX6_find_242 ?_
                                            refine b_tp (show (nI l3) - (nI 1) = nI (l3 - 1) from pk_sub (by omega)) ?_
                                            refine lv_istore (lv' := [(7, .int (nI (l3 - 1))), (12, .int (nI 1)), (11, .int (nI (140 * q + (10 * a + i)))), (0, .ref M), (1, .int x), (2, .int y), (4, .int (nI t1)), (5, .int sn), (8, .int (nI q)), (9, .int (nI a)), (10, .int (nI i))]) hx hb dX6_find_243 hl (by decide) rfl (fun ls hl => ?_)
                                            refine lv_iinc (v := nI (i + 1)) (lv' := [(10, .int (nI (i + 1))), (7, .int (nI (l3 - 1))), (12, .int (nI 1)), (11, .int (nI (140 * q + (10 * a + i)))), (0, .ref M), (1, .int x), (2, .int y), (4, .int (nI t1)), (5, .int sn), (8, .int (nI q)), (9, .int (nI a))]) hx hb dX6_find_245 hl (k := 10) rfl (nI_add i 1) (by decide) rfl (fun ls hl => ?_)
                                            refine lv_goto (tgt := 129) hx hb dX6_find_248 (by decide) ?_
                                            exact ih129 _ _ _ ⟨i + 1, l3 - 1, (by omega), (by omega), (by omega), hI1.trans hgn, w, lv_sub hl [4, 5, 6, 7, 8, 1, 9, 10, 0] rfl⟩
                                        · have q_211_239 : l3 = 0 := (nI_z (by omega)).mp c_211_238
                                          have hh := srI_hit (code := codeN q a) (show i < nJ by omega) hM q_211_239
                                          refine lv_sipush (v := nI 1000) hx hb dX6_find_214 (by decide) ?_
                                          refine lv_iload hx hb dX6_find_217 (lv_at hl 8 rfl) ?_
                                          refine lv_imul hx hb dX6_find_219 ?_
                                          refine b_tp (show (nI 1000) * (nI q) = nI (1000 * q) from pk_mul 1000 q) ?_
                                          refine lv_bipush (v := nI 20) hx hb dX6_find_220 (by decide) ?_
                                          refine lv_iload hx hb dX6_find_222 (lv_at hl 9 rfl) ?_
                                          refine lv_imul hx hb dX6_find_224 ?_
                                          refine b_tp (show (nI 20) * (nI a) = nI (20 * a) from pk_mul 20 a) ?_
                                          refine lv_iadd hx hb dX6_find_225 ?_
                                          refine b_tp (show (nI (1000 * q)) + (nI (20 * a)) = nI ((1000 * q) + 20 * a) from nI_add (1000 * q) (20 * a)) ?_
                                          refine lv_iload hx hb dX6_find_226 (lv_at hl 10 rfl) ?_
                                          refine lv_iadd hx hb dX6_find_228 ?_
                                          refine b_tp (show (nI ((1000 * q) + 20 * a)) + (nI i) = nI ((1000 * q) + 20 * a + i) from nI_add ((1000 * q) + 20 * a) i) ?_
                                          exact W.iret (v := nI ((1000 * q) + 20 * a + i)) hx hb hr (fun t9 ht9 hW9 => ⟨⟨nI ((1000 * q) + 20 * a + i), (), rfl, by rw [hT, ef, et, epl]; exact (congrArg srR (hP1.trans (srA_r (by omega) (hA1.trans (srA_r (by omega) (hI1.trans hh)))))).symm, by show va_P G.1 vwCl _ t9.heap; rw [ht9]; exact b_cg (by rw [hT]) (w.1.sub (ws' := [(M, .inr (6, [.int (nI td), .int (nI nA), .int (nI nJ), .ref yA, .ref yJ, .ref yg, .int (nI dn), .ref yw, .ref yc, .ref yv, .int (nI snt), .int (nI jd), .ref yr, .int (nI bn), .ref yC, .ref yD, .ref yF, .ref yS, .ref yV, .ref yH, .int (nI 0)]))]) [0] rfl)⟩, w.2.1.F ht9⟩) w.2.1.2.2 dX6_find_229
                · exact absurd (by decide) c_95_211
              · have q_80_210 : (sOk sn) = false := bI_0.mp c_80_209
                have hT : th2 (tPat nA x && tPat nJ y && !decide (pl < 0)) (tHas 12 f && tHas 12 t0 && !decide (t0 < f) && sOk sn) = 2 := by simp [th2, h3, q_80_210]
                refine lv_iconst (v := nI 2) hx hb dX6_find_83 (by decide) ?_
                refine lv_goto (tgt := 88) hx hb dX6_find_84 (by decide) ?_
                refine b_put (ty := .int) X E w (Or.inl (List.mem_of_getElem? (i := 0) rfl)) 0 rfl rfl 20 (by decide) iX6 tyX6 tyX6_ok nmX6 (by decide +kernel) rfl rfl (by decide +kernel) rfl rfl (Nat.le_of_ble_eq_true rfl) dX6_find_88 (fun H locs w => ?_)
                have w : bSt G vwCl [M] s [(M, .inr (6, [.int (nI td), .int (nI nA), .int (nI nJ), .ref yA, .ref yJ, .ref yg, .int (nI dn), .ref yw, .ref yc, .ref yv, .int (nI snt), .int (nI jd), .ref yr, .int (nI bn), .ref yC, .ref yD, .ref yF, .ref yS, .ref yV, .ref yH, .int (nI 2)])), (yA, .inl (G.2.1, 14, .inl fA)), (yJ, .inl (G.2.1, 10, .inl fJ)), (yC, .inl (G.2.1, 300, .inl bc)), (yD, .inl (G.2.1, 300, .inl bd)), (yF, .inl (G.2.1, 300, .inl bf))] _ _ := w
                refine lv_aload_n hx hb dX6_find_91 rfl (lv_at hl 0 rfl) ?_
                refine b_get X E w 0 rfl rfl 20 (by decide) iX6 (by decide +kernel) rfl rfl dX6_find_92 ?_
                refine lv_if_le (tgt := 100) hx hb dX6_find_95 (by decide) (fun c_95_241 => ?_) (fun c_95_241 => ?_)
                · exact absurd c_95_241 (by decide)
                · refine lv_iconst (v := nI 0) hx hb dX6_find_98 (by decide) ?_
                  exact W.iret (v := nI 0) hx hb hr (fun t9 ht9 hW9 => ⟨⟨nI 0, (), rfl, by rw [hT]; rfl, by show va_P G.1 vwCl _ t9.heap; rw [ht9]; exact b_cg (by rw [hT]) (w.1.sub (ws' := [(M, .inr (6, [.int (nI td), .int (nI nA), .int (nI nJ), .ref yA, .ref yJ, .ref yg, .int (nI dn), .ref yw, .ref yc, .ref yv, .int (nI snt), .int (nI jd), .ref yr, .int (nI bn), .ref yC, .ref yD, .ref yF, .ref yS, .ref yV, .ref yH, .int (nI 2)]))]) [0] rfl)⟩, w.2.1.F ht9⟩) w.2.1.2.2 dX6_find_99
        · exact absurd (by decide) c_44_199
      · have hT : th2 (tPat nA x && tPat nJ y && !decide (pl < 0)) (tHas 12 f && tHas 12 t0 && !decide (t0 < f) && sOk sn) = 1 := by simp [th2, i_lt_of_nle c_29_198]
        refine lv_iconst (v := nI 1) hx hb dX6_find_32 (by decide) ?_
        refine lv_goto (tgt := 37) hx hb dX6_find_33 (by decide) ?_
        have w := b_wide [M] b_nil w
        refine b_put (ty := .int) X E w (Or.inl (List.mem_of_getElem? (i := 0) rfl)) 0 rfl rfl 20 (by decide) iX6 tyX6 tyX6_ok nmX6 (by decide +kernel) rfl rfl (by decide +kernel) rfl rfl (Nat.le_of_ble_eq_true rfl) dX6_find_37 (fun H locs w => ?_)
        have w : bSt G vwCl [M] s [(M, .inr (6, [.int (nI td), .int (nI nA), .int (nI nJ), .ref yA, .ref yJ, .ref yg, .int (nI dn), .ref yw, .ref yc, .ref yv, .int (nI snt), .int (nI jd), .ref yr, .int (nI bn), .ref yC, .ref yD, .ref yF, .ref yS, .ref yV, .ref yH, .int (nI 1)])), (yA, .inl (G.2.1, 14, .inl fA)), (yJ, .inl (G.2.1, 10, .inl fJ)), (yC, .inl (G.2.1, 300, .inl bc)), (yD, .inl (G.2.1, 300, .inl bd)), (yF, .inl (G.2.1, 300, .inl bf))] _ _ := w
        refine lv_aload_n hx hb dX6_find_40 rfl (lv_at hl 0 rfl) ?_
        refine b_get X E w 0 rfl rfl 20 (by decide) iX6 (by decide +kernel) rfl rfl dX6_find_41 ?_
        refine lv_if_le (tgt := 49) hx hb dX6_find_44 (by decide) (fun c_44_242 => ?_) (fun c_44_242 => ?_)
        · exact absurd c_44_242 (by decide)
        · refine lv_iconst (v := nI 0) hx hb dX6_find_47 (by decide) ?_
          exact W.iret (v := nI 0) hx hb hr (fun t9 ht9 hW9 => ⟨⟨nI 0, (), rfl, by rw [hT]; rfl, by show va_P G.1 vwCl _ t9.heap; rw [ht9]; exact b_cg (by rw [hT]) (w.1.sub (ws' := [(M, .inr (6, [.int (nI td), .int (nI nA), .int (nI nJ), .ref yA, .ref yJ, .ref yg, .int (nI dn), .ref yw, .ref yc, .ref yv, .int (nI snt), .int (nI jd), .ref yr, .int (nI bn), .ref yC, .ref yD, .ref yF, .ref yS, .ref yV, .ref yH, .int (nI 1)]))]) [0] rfl)⟩, w.2.1.F ht9⟩) w.2.1.2.2 dX6_find_48
    · have c16 := c_16_197
      refine lv_aload_n hx hb dX6_find_19 rfl (lv_at hl 0 rfl) ?_
      refine lv_iload_n hx hb dX6_find_20 rfl (lv_at hl 2 rfl) ?_
      refine b_calli w (va_runV (As := [.int y]) (rest := [.ref M]) X (c_X6_isItem l hl0 G _ (M := M) (x := y) (td := td) (nA := nA) (nJ := nJ) (yA := yA) (yJ := yJ) (yg := yg) (dn := dn) (yw := yw) (yc := yc) (yv := yv) (snt := snt) (jd := jd) (yr := yr) (bn := bn) (yC := yC) (yD := yD) (yF := yF) (yS := yS) (yV := yV) (yH := yH) (th := th) (hnJ := (by first | assumption | omega))) (cwV 1 hts gX6_find_X6_isItem rfl rfl rfl (by decide +kernel) ⟨Nat.le_of_ble_eq_true rfl, Nat.le_of_ble_eq_true rfl⟩) ⟨b_blind, b_recv E w (ci := 6) (q0 := 0) rfl rfl, (fun U9 hU9 hW9 => ⟨rfl, b_pre E Z0 w [0] (by decide) rfl b_nil U9 hU9 hW9⟩)⟩ rfl rfl hl.1 rfl (lv_room (Nat.le_of_ble_eq_true rfl)) dX6_find_21 ⟨Nat.le_of_ble_eq_true rfl, Nat.le_of_ble_eq_true rfl⟩) b_nil [] (fun _ => rfl) rfl (fun r21_243 u21_243 H locs hr21_243 w => ?_)
      have w : bSt G vwCl [] s [(M, .inr (6, [.int (nI td), .int (nI nA), .int (nI nJ), .ref yA, .ref yJ, .ref yg, .int (nI dn), .ref yw, .ref yc, .ref yv, .int (nI snt), .int (nI jd), .ref yr, .int (nI bn), .ref yC, .ref yD, .ref yF, .ref yS, .ref yV, .ref yH, .int th])), (yA, .inl (G.2.1, 14, .inl fA)), (yJ, .inl (G.2.1, 10, .inl fJ)), (yC, .inl (G.2.1, 300, .inl bc)), (yD, .inl (G.2.1, 300, .inl bd)), (yF, .inl (G.2.1, 300, .inl bf))] _ _ := w
      subst hr21_243
      refine lv_if_eq (tgt := 32) hx hb dX6_find_24 (by decide) (fun c_24_244 => ?_) (fun c_24_244 => ?_)
      · have q_24_245 : (tHas nJ y) = false := bI_0.mp c_24_244
        have hT : th2 (tPat nA x && tPat nJ y && !decide (pl < 0)) (tHas 12 f && tHas 12 t0 && !decide (t0 < f) && sOk sn) = 1 := by simp [th2, tPat, c16, q_24_245]
        refine lv_iconst (v := nI 1) hx hb dX6_find_32 (by decide) ?_
        refine lv_goto (tgt := 37) hx hb dX6_find_33 (by decide) ?_
        have w := b_wide [M] b_nil w
        refine b_put (ty := .int) X E w (Or.inl (List.mem_of_getElem? (i := 0) rfl)) 0 rfl rfl 20 (by decide) iX6 tyX6 tyX6_ok nmX6 (by decide +kernel) rfl rfl (by decide +kernel) rfl rfl (Nat.le_of_ble_eq_true rfl) dX6_find_37 (fun H locs w => ?_)
        have w : bSt G vwCl [M] s [(M, .inr (6, [.int (nI td), .int (nI nA), .int (nI nJ), .ref yA, .ref yJ, .ref yg, .int (nI dn), .ref yw, .ref yc, .ref yv, .int (nI snt), .int (nI jd), .ref yr, .int (nI bn), .ref yC, .ref yD, .ref yF, .ref yS, .ref yV, .ref yH, .int (nI 1)])), (yA, .inl (G.2.1, 14, .inl fA)), (yJ, .inl (G.2.1, 10, .inl fJ)), (yC, .inl (G.2.1, 300, .inl bc)), (yD, .inl (G.2.1, 300, .inl bd)), (yF, .inl (G.2.1, 300, .inl bf))] _ _ := w
        refine lv_aload_n hx hb dX6_find_40 rfl (lv_at hl 0 rfl) ?_
        refine b_get X E w 0 rfl rfl 20 (by decide) iX6 (by decide +kernel) rfl rfl dX6_find_41 ?_
        refine lv_if_le (tgt := 49) hx hb dX6_find_44 (by decide) (fun c_44_246 => ?_) (fun c_44_246 => ?_)
        · exact absurd c_44_246 (by decide)
        · refine lv_iconst (v := nI 0) hx hb dX6_find_47 (by decide) ?_
          exact W.iret (v := nI 0) hx hb hr (fun t9 ht9 hW9 => ⟨⟨nI 0, (), rfl, by rw [hT]; rfl, by show va_P G.1 vwCl _ t9.heap; rw [ht9]; exact b_cg (by rw [hT]) (w.1.sub (ws' := [(M, .inr (6, [.int (nI td), .int (nI nA), .int (nI nJ), .ref yA, .ref yJ, .ref yg, .int (nI dn), .ref yw, .ref yc, .ref yv, .int (nI snt), .int (nI jd), .ref yr, .int (nI bn), .ref yC, .ref yD, .ref yF, .ref yS, .ref yV, .ref yH, .int (nI 1)]))]) [0] rfl)⟩, w.2.1.F ht9⟩) w.2.1.2.2 dX6_find_48
      · have q_24_245 : (tHas nJ y) = true := bI_n0.mp c_24_244
        have h2 : tPat nJ y = true := by simp [tPat, q_24_245]
        refine lv_iload hx hb dX6_find_27 (lv_at hl 6 rfl) ?_
        refine lv_if_ge (tgt := 36) hx hb dX6_find_29 (by decide) (fun c_29_247 => ?_) (fun c_29_247 => ?_)
        · have c29 : ¬ pl < 0 := fun h9 => absurd c_29_247 (i_le_of_lt h9)
          have h3 : (tPat nA x && tPat nJ y && !decide (pl < 0)) = true := by simp [h1, h2, c29]
          refine lv_iconst (v := nI 0) hx hb dX6_find_36 (by decide) ?_
          have w := b_wide [M] b_nil w
          refine b_put (ty := .int) X E w (Or.inl (List.mem_of_getElem? (i := 0) rfl)) 0 rfl rfl 20 (by decide) iX6 tyX6 tyX6_ok nmX6 (by decide +kernel) rfl rfl (by decide +kernel) rfl rfl (Nat.le_of_ble_eq_true rfl) dX6_find_37 (fun H locs w => ?_)
          have w : bSt G vwCl [M] s [(M, .inr (6, [.int (nI td), .int (nI nA), .int (nI nJ), .ref yA, .ref yJ, .ref yg, .int (nI dn), .ref yw, .ref yc, .ref yv, .int (nI snt), .int (nI jd), .ref yr, .int (nI bn), .ref yC, .ref yD, .ref yF, .ref yS, .ref yV, .ref yH, .int (nI 0)])), (yA, .inl (G.2.1, 14, .inl fA)), (yJ, .inl (G.2.1, 10, .inl fJ)), (yC, .inl (G.2.1, 300, .inl bc)), (yD, .inl (G.2.1, 300, .inl bd)), (yF, .inl (G.2.1, 300, .inl bf))] _ _ := w
          refine lv_aload_n hx hb dX6_find_40 rfl (lv_at hl 0 rfl) ?_
          refine b_get X E w 0 rfl rfl 20 (by decide) iX6 (by decide +kernel) rfl rfl dX6_find_41 ?_
          refine lv_if_le (tgt := 49) hx hb dX6_find_44 (by decide) (fun c_44_248 => ?_) (fun c_44_248 => ?_)
          · refine lv_aload_n hx hb dX6_find_49 rfl (lv_at hl 0 rfl) ?_
            refine lv_iload_n hx hb dX6_find_50 rfl (lv_at hl 3 rfl) ?_
            refine lv_iconst (v := nI 0) hx hb dX6_find_51 (by decide) ?_
            refine lv_bipush (v := nI 11) hx hb dX6_find_52 (by decide) ?_
            refine b_calli w (va_runS (As := [.int f, .int (nI 0), .int (nI 11)]) (rest := [.ref M]) X (c_X6_isIn l hl0 G _ (x := f) (lo := nI 0) (hi := nI 11) ) (va_cwS 3 hts gX6_find_X6_isIn rfl rfl rfl (by decide +kernel) ⟨Nat.le_of_ble_eq_true rfl, Nat.le_of_ble_eq_true rfl⟩) ⟨b_blind, (fun U9 hU9 hW9 => ⟨rfl, b_pre E Z w [] (by decide) rfl b_nil U9 hU9 hW9⟩)⟩ rfl rfl hl.1 rfl (lv_room (Nat.le_of_ble_eq_true rfl)) dX6_find_54 ⟨Nat.le_of_ble_eq_true rfl, Nat.le_of_ble_eq_true rfl⟩) b_nil [] (fun _ => rfl) rfl (fun r54_249 u54_249 H locs hr54_249 w => ?_)
            have w : bSt G vwCl [M] s [(M, .inr (6, [.int (nI td), .int (nI nA), .int (nI nJ), .ref yA, .ref yJ, .ref yg, .int (nI dn), .ref yw, .ref yc, .ref yv, .int (nI snt), .int (nI jd), .ref yr, .int (nI bn), .ref yC, .ref yD, .ref yF, .ref yS, .ref yV, .ref yH, .int (nI 0)])), (yA, .inl (G.2.1, 14, .inl fA)), (yJ, .inl (G.2.1, 10, .inl fJ)), (yC, .inl (G.2.1, 300, .inl bc)), (yD, .inl (G.2.1, 300, .inl bd)), (yF, .inl (G.2.1, 300, .inl bf))] _ _ := w
            subst hr54_249
            refine b_tp (show bI (tIn f (nI 0) (nI 11)) = bI (tHas 12 f) from congrArg bI (tIn_lit (n := 11) (by decide))) ?_
            refine lv_if_eq (tgt := 83) hx hb dX6_find_57 (by decide) (fun c_57_250 => ?_) (fun c_57_250 => ?_)
            · have q_57_251 : (tHas 12 f) = false := bI_0.mp c_57_250
              have hT : th2 (tPat nA x && tPat nJ y && !decide (pl < 0)) (tHas 12 f && tHas 12 t0 && !decide (t0 < f) && sOk sn) = 2 := by simp [th2, h3, q_57_251]
              refine lv_iconst (v := nI 2) hx hb dX6_find_83 (by decide) ?_
              refine lv_goto (tgt := 88) hx hb dX6_find_84 (by decide) ?_
              refine b_put (ty := .int) X E w (Or.inl (List.mem_of_getElem? (i := 0) rfl)) 0 rfl rfl 20 (by decide) iX6 tyX6 tyX6_ok nmX6 (by decide +kernel) rfl rfl (by decide +kernel) rfl rfl (Nat.le_of_ble_eq_true rfl) dX6_find_88 (fun H locs w => ?_)
              have w : bSt G vwCl [M] s [(M, .inr (6, [.int (nI td), .int (nI nA), .int (nI nJ), .ref yA, .ref yJ, .ref yg, .int (nI dn), .ref yw, .ref yc, .ref yv, .int (nI snt), .int (nI jd), .ref yr, .int (nI bn), .ref yC, .ref yD, .ref yF, .ref yS, .ref yV, .ref yH, .int (nI 2)])), (yA, .inl (G.2.1, 14, .inl fA)), (yJ, .inl (G.2.1, 10, .inl fJ)), (yC, .inl (G.2.1, 300, .inl bc)), (yD, .inl (G.2.1, 300, .inl bd)), (yF, .inl (G.2.1, 300, .inl bf))] _ _ := w
              refine lv_aload_n hx hb dX6_find_91 rfl (lv_at hl 0 rfl) ?_
              refine b_get X E w 0 rfl rfl 20 (by decide) iX6 (by decide +kernel) rfl rfl dX6_find_92 ?_
              refine lv_if_le (tgt := 100) hx hb dX6_find_95 (by decide) (fun c_95_252 => ?_) (fun c_95_252 => ?_)
              · exact absurd c_95_252 (by decide)
              · refine lv_iconst (v := nI 0) hx hb dX6_find_98 (by decide) ?_
                exact W.iret (v := nI 0) hx hb hr (fun t9 ht9 hW9 => ⟨⟨nI 0, (), rfl, by rw [hT]; rfl, by show va_P G.1 vwCl _ t9.heap; rw [ht9]; exact b_cg (by rw [hT]) (w.1.sub (ws' := [(M, .inr (6, [.int (nI td), .int (nI nA), .int (nI nJ), .ref yA, .ref yJ, .ref yg, .int (nI dn), .ref yw, .ref yc, .ref yv, .int (nI snt), .int (nI jd), .ref yr, .int (nI bn), .ref yC, .ref yD, .ref yF, .ref yS, .ref yV, .ref yH, .int (nI 2)]))]) [0] rfl)⟩, w.2.1.F ht9⟩) w.2.1.2.2 dX6_find_99
            · have q_57_251 : (tHas 12 f) = true := bI_n0.mp c_57_250
              have h4 := q_57_251
              refine lv_iload hx hb dX6_find_60 (lv_at hl 4 rfl) ?_
              refine lv_iload_n hx hb dX6_find_62 rfl (lv_at hl 3 rfl) ?_
              refine lv_bipush (v := nI 11) hx hb dX6_find_63 (by decide) ?_
              refine b_calli w (va_runS (As := [.int t0, .int f, .int (nI 11)]) (rest := [.ref M]) X (c_X6_isIn l hl0 G _ (x := t0) (lo := f) (hi := nI 11) ) (va_cwS 3 hts gX6_find_X6_isIn rfl rfl rfl (by decide +kernel) ⟨Nat.le_of_ble_eq_true rfl, Nat.le_of_ble_eq_true rfl⟩) ⟨b_blind, (fun U9 hU9 hW9 => ⟨rfl, b_pre E Z w [] (by decide) rfl b_nil U9 hU9 hW9⟩)⟩ rfl rfl hl.1 rfl (lv_room (Nat.le_of_ble_eq_true rfl)) dX6_find_65 ⟨Nat.le_of_ble_eq_true rfl, Nat.le_of_ble_eq_true rfl⟩) b_nil [] (fun _ => rfl) rfl (fun r65_253 u65_253 H locs hr65_253 w => ?_)
              have w : bSt G vwCl [M] s [(M, .inr (6, [.int (nI td), .int (nI nA), .int (nI nJ), .ref yA, .ref yJ, .ref yg, .int (nI dn), .ref yw, .ref yc, .ref yv, .int (nI snt), .int (nI jd), .ref yr, .int (nI bn), .ref yC, .ref yD, .ref yF, .ref yS, .ref yV, .ref yH, .int (nI 0)])), (yA, .inl (G.2.1, 14, .inl fA)), (yJ, .inl (G.2.1, 10, .inl fJ)), (yC, .inl (G.2.1, 300, .inl bc)), (yD, .inl (G.2.1, 300, .inl bd)), (yF, .inl (G.2.1, 300, .inl bf))] _ _ := w
              subst hr65_253
              refine b_tp (show bI (tIn t0 f (nI 11)) = bI (tHas 12 t0 && !decide (t0 < f)) from congrArg bI (tIn_to h4)) ?_
              refine lv_if_eq (tgt := 83) hx hb dX6_find_68 (by decide) (fun c_68_254 => ?_) (fun c_68_254 => ?_)
              · have q_68_255 : (tHas 12 t0 && !decide (t0 < f)) = false := bI_0.mp c_68_254
                have hT : th2 (tPat nA x && tPat nJ y && !decide (pl < 0)) (tHas 12 f && tHas 12 t0 && !decide (t0 < f) && sOk sn) = 2 := by rw [th2, if_pos h3, if_neg]; rw [Bool.and_assoc (tHas 12 f), q_68_255]; simp
                refine lv_iconst (v := nI 2) hx hb dX6_find_83 (by decide) ?_
                refine lv_goto (tgt := 88) hx hb dX6_find_84 (by decide) ?_
                refine b_put (ty := .int) X E w (Or.inl (List.mem_of_getElem? (i := 0) rfl)) 0 rfl rfl 20 (by decide) iX6 tyX6 tyX6_ok nmX6 (by decide +kernel) rfl rfl (by decide +kernel) rfl rfl (Nat.le_of_ble_eq_true rfl) dX6_find_88 (fun H locs w => ?_)
                have w : bSt G vwCl [M] s [(M, .inr (6, [.int (nI td), .int (nI nA), .int (nI nJ), .ref yA, .ref yJ, .ref yg, .int (nI dn), .ref yw, .ref yc, .ref yv, .int (nI snt), .int (nI jd), .ref yr, .int (nI bn), .ref yC, .ref yD, .ref yF, .ref yS, .ref yV, .ref yH, .int (nI 2)])), (yA, .inl (G.2.1, 14, .inl fA)), (yJ, .inl (G.2.1, 10, .inl fJ)), (yC, .inl (G.2.1, 300, .inl bc)), (yD, .inl (G.2.1, 300, .inl bd)), (yF, .inl (G.2.1, 300, .inl bf))] _ _ := w
                refine lv_aload_n hx hb dX6_find_91 rfl (lv_at hl 0 rfl) ?_
                refine b_get X E w 0 rfl rfl 20 (by decide) iX6 (by decide +kernel) rfl rfl dX6_find_92 ?_
                refine lv_if_le (tgt := 100) hx hb dX6_find_95 (by decide) (fun c_95_256 => ?_) (fun c_95_256 => ?_)
                · exact absurd c_95_256 (by decide)
                · refine lv_iconst (v := nI 0) hx hb dX6_find_98 (by decide) ?_
                  exact W.iret (v := nI 0) hx hb hr (fun t9 ht9 hW9 => ⟨⟨nI 0, (), rfl, by rw [hT]; rfl, by show va_P G.1 vwCl _ t9.heap; rw [ht9]; exact b_cg (by rw [hT]) (w.1.sub (ws' := [(M, .inr (6, [.int (nI td), .int (nI nA), .int (nI nJ), .ref yA, .ref yJ, .ref yg, .int (nI dn), .ref yw, .ref yc, .ref yv, .int (nI snt), .int (nI jd), .ref yr, .int (nI bn), .ref yC, .ref yD, .ref yF, .ref yS, .ref yV, .ref yH, .int (nI 2)]))]) [0] rfl)⟩, w.2.1.F ht9⟩) w.2.1.2.2 dX6_find_99
              · have q_68_255 : (tHas 12 t0 && !decide (t0 < f)) = true := bI_n0.mp c_68_254
                have h5 := q_68_255
                refine lv_iload hx hb dX6_find_71 (lv_at hl 5 rfl) ?_
                refine lv_iconst (v := nI 0) hx hb dX6_find_73 (by decide) ?_
                refine lv_sipush (v := nI 1000) hx hb dX6_find_74 (by decide) ?_
                refine b_calli w (va_runS (As := [.int sn, .int (nI 0), .int (nI 1000)]) (rest := [.ref M]) X (c_X6_isIn l hl0 G _ (x := sn) (lo := nI 0) (hi := nI 1000) ) (va_cwS 3 hts gX6_find_X6_isIn rfl rfl rfl (by decide +kernel) ⟨Nat.le_of_ble_eq_true rfl, Nat.le_of_ble_eq_true rfl⟩) ⟨b_blind, (fun U9 hU9 hW9 => ⟨rfl, b_pre E Z w [] (by decide) rfl b_nil U9 hU9 hW9⟩)⟩ rfl rfl hl.1 rfl (lv_room (Nat.le_of_ble_eq_true rfl)) dX6_find_77 ⟨Nat.le_of_ble_eq_true rfl, Nat.le_of_ble_eq_true rfl⟩) b_nil [] (fun _ => rfl) rfl (fun r77_257 u77_257 H locs hr77_257 w => ?_)
                have w : bSt G vwCl [M] s [(M, .inr (6, [.int (nI td), .int (nI nA), .int (nI nJ), .ref yA, .ref yJ, .ref yg, .int (nI dn), .ref yw, .ref yc, .ref yv, .int (nI snt), .int (nI jd), .ref yr, .int (nI bn), .ref yC, .ref yD, .ref yF, .ref yS, .ref yV, .ref yH, .int (nI 0)])), (yA, .inl (G.2.1, 14, .inl fA)), (yJ, .inl (G.2.1, 10, .inl fJ)), (yC, .inl (G.2.1, 300, .inl bc)), (yD, .inl (G.2.1, 300, .inl bd)), (yF, .inl (G.2.1, 300, .inl bf))] _ _ := w
                subst hr77_257
                refine b_tp (show bI (tIn sn (nI 0) (nI 1000)) = bI (sOk sn) from congrArg bI tIn_s) ?_
                refine lv_if_ne (tgt := 87) hx hb dX6_find_80 (by decide) (fun c_80_258 => ?_) (fun c_80_258 => ?_)
                · have q_80_259 : (sOk sn) = true := bI_n0.mp c_80_258
                  have hT : th2 (tPat nA x && tPat nJ y && !decide (pl < 0)) (tHas 12 f && tHas 12 t0 && !decide (t0 < f) && sOk sn) = 0 := by rw [th2, if_pos h3, if_pos]; rw [Bool.and_assoc (tHas 12 f), h4, h5, q_80_259]; rfl
                  have h5a : tHas 12 t0 = true ∧ ¬ t0 < f := by simpa using h5
                  obtain ⟨f0, hf0, rfl⟩ := (tHas_iff (by decide)).mp h4
                  obtain ⟨t1, ht1, rfl⟩ := (tHas_iff (by decide)).mp h5a.1
                  obtain ⟨pl0, hpl0, rfl⟩ := nI_of c29
                  have hft := q_nlt (by omega) (by omega) h5a.2
                  have ef : cl (nI f0) = f0 := cl_nI (by omega)
                  have et : cl (nI t1) = t1 := cl_nI (by omega)
                  have epl : cl (nI pl0) = pl0 := cl_nI hpl0
                  refine lv_iconst (v := nI 0) hx hb dX6_find_87 (by decide) ?_
                  refine b_put (ty := .int) X E w (Or.inl (List.mem_of_getElem? (i := 0) rfl)) 0 rfl rfl 20 (by decide) iX6 tyX6 tyX6_ok nmX6 (by decide +kernel) rfl rfl (by decide +kernel) rfl rfl (Nat.le_of_ble_eq_true rfl) dX6_find_88 (fun H locs w => ?_)
                  have w : bSt G vwCl [M] s [(M, .inr (6, [.int (nI td), .int (nI nA), .int (nI nJ), .ref yA, .ref yJ, .ref yg, .int (nI dn), .ref yw, .ref yc, .ref yv, .int (nI snt), .int (nI jd), .ref yr, .int (nI bn), .ref yC, .ref yD, .ref yF, .ref yS, .ref yV, .ref yH, .int (nI 0)])), (yA, .inl (G.2.1, 14, .inl fA)), (yJ, .inl (G.2.1, 10, .inl fJ)), (yC, .inl (G.2.1, 300, .inl bc)), (yD, .inl (G.2.1, 300, .inl bd)), (yF, .inl (G.2.1, 300, .inl bf))] _ _ := w
                  refine lv_aload_n hx hb dX6_find_91 rfl (lv_at hl 0 rfl) ?_
                  refine b_get X E w 0 rfl rfl 20 (by decide) iX6 (by decide +kernel) rfl rfl dX6_find_92 ?_
                  refine lv_if_le (tgt := 100) hx hb dX6_find_95 (by decide) (fun c_95_260 => ?_) (fun c_95_260 => ?_)
                  · refine lv_iload hx hb dX6_find_100 (lv_at hl 6 rfl) ?_
                    refine lv_istore (lv' := [(7, .int (nI pl0)), (0, .ref M), (1, .int x), (2, .int y), (3, .int (nI f0)), (4, .int (nI t1)), (5, .int sn), (6, .int (nI pl0))]) hx hb dX6_find_102 hl (by decide) rfl (fun ls hl => ?_)
                    refine lv_iload_n hx hb dX6_find_104 rfl (lv_at hl 4 rfl) ?_
                    refine lv_istore (lv' := [(8, .int (nI f0)), (7, .int (nI pl0)), (0, .ref M), (1, .int x), (2, .int y), (3, .int (nI f0)), (4, .int (nI t1)), (5, .int sn), (6, .int (nI pl0))]) hx hb dX6_find_105 hl (by decide) rfl (fun ls hl => ?_)
                    refine b_loop (pc := 107) (st := []) (fun (fuel : Nat) (H : Heap) (locs : List Loc) (ls : Array Slot) => ∃ (q : Nat) (l1 : Nat), (q ≤ t1 + 1) ∧ (t1 + 2 ≤ q + fuel) ∧ (l1 ≤ pl0) ∧ (srT (mMm fA nA fJ nJ bc bd bf bn td x y sn) nA nJ f0 t1 pl0 = srA (fun q l => srA (fun a l => srI (mMm fA nA fJ nJ bc bd bf bn td x y sn q a) (codeN q a) nJ nJ l) nA nA l) (t1 + 1) (t1 + 1 - q) l1) ∧ bSt G vwCl [M] s [(M, .inr (6, [.int (nI td), .int (nI nA), .int (nI nJ), .ref yA, .ref yJ, .ref yg, .int (nI dn), .ref yw, .ref yc, .ref yv, .int (nI snt), .int (nI jd), .ref yr, .int (nI bn), .ref yC, .ref yD, .ref yF, .ref yS, .ref yV, .ref yH, .int (nI 0)])), (yA, .inl (G.2.1, 14, .inl fA)), (yJ, .inl (G.2.1, 10, .inl fJ)), (yC, .inl (G.2.1, 300, .inl bc)), (yD, .inl (G.2.1, 300, .inl bd)), (yF, .inl (G.2.1, 300, .inl bf))] H locs ∧ lv_has ls 13 [(0, .ref M), (1, .int x), (2, .int y), (4, .int (nI t1)), (5, .int sn), (7, .int (nI l1)), (8, .int (nI q))]) (fun H locs ls h9 => ?_) (fun fuel H locs ls hI ih107 => ?_) (t1 + 2) ⟨f0, pl0, (by omega), (by omega), Nat.le_refl _, rfl, w, lv_sub hl [2, 3, 4, 6, 7, 1, 0] rfl⟩
                    · obtain ⟨q, l1, hpp, hfp, hl1, hP1, w, hl⟩ := h9
                      omega
                    · obtain ⟨q, l1, hpp, hfp, hl1, hP1, w, hl⟩ := hI
                      refine lv_iload hx hb dX6_find_107 (lv_at hl 6 rfl) ?_
                      refine lv_iload hx hb dX6_find_109 (lv_at hl 3 rfl) ?_
                      refine lv_icmp_gt (tgt := 263) hx hb dX6_find_111 (by decide) (fun c_111_261 => ?_) (fun c_111_261 => ?_)
                      · have q_111_262 : t1 < q := q_lt (by omega) (by omega) c_111_261
                        have ep1 : q = t1 + 1 := by omega
                        refine lv_iconst (v := -1) hx hb dX6_find_263 (by decide) ?_
                        exact W.iret (v := -1) hx hb hr (fun t9 ht9 hW9 => ⟨⟨-1, (), rfl, by rw [hT, ef, et, epl]; exact (congrArg srR (hP1.trans (srA_end ep1))).symm, by show va_P G.1 vwCl _ t9.heap; rw [ht9]; exact b_cg (by rw [hT]) (w.1.sub (ws' := [(M, .inr (6, [.int (nI td), .int (nI nA), .int (nI nJ), .ref yA, .ref yJ, .ref yg, .int (nI dn), .ref yw, .ref yc, .ref yv, .int (nI snt), .int (nI jd), .ref yr, .int (nI bn), .ref yC, .ref yD, .ref yF, .ref yS, .ref yV, .ref yH, .int (nI 0)]))]) [0] rfl)⟩, w.2.1.F ht9⟩) w.2.1.2.2 dX6_find_264
                      · have q_111_262 : q ≤ t1 := q_nlt (by omega) (by omega) c_111_261
                        have hp1 := q_111_262
                        refine lv_iconst (v := nI 0) hx hb dX6_find_114 (by decide) ?_
                        refine lv_istore (lv' := [(9, .int (nI 0)), (0, .ref M), (1, .int x), (2, .int y), (4, .int (nI t1)), (5, .int sn), (7, .int (nI l1)), (8, .int (nI q))]) hx hb dX6_find_115 hl (by decide) rfl (fun ls hl => ?_)
                        refine b_loop (pc := 117) (st := []) (fun (fuel : Nat) (H : Heap) (locs : List Loc) (ls : Array Slot) => ∃ (a : Nat) (l2 : Nat), (a ≤ nA) ∧ (nA + 1 ≤ a + fuel) ∧ (l2 ≤ pl0) ∧ (srA (fun a l => srI (mMm fA nA fJ nJ bc bd bf bn td x y sn q a) (codeN q a) nJ nJ l) nA nA l1 = srA (fun a l => srI (mMm fA nA fJ nJ bc bd bf bn td x y sn q a) (codeN q a) nJ nJ l) nA (nA - a) l2) ∧ bSt G vwCl [M] s [(M, .inr (6, [.int (nI td), .int (nI nA), .int (nI nJ), .ref yA, .ref yJ, .ref yg, .int (nI dn), .ref yw, .ref yc, .ref yv, .int (nI snt), .int (nI jd), .ref yr, .int (nI bn), .ref yC, .ref yD, .ref yF, .ref yS, .ref yV, .ref yH, .int (nI 0)])), (yA, .inl (G.2.1, 14, .inl fA)), (yJ, .inl (G.2.1, 10, .inl fJ)), (yC, .inl (G.2.1, 300, .inl bc)), (yD, .inl (G.2.1, 300, .inl bd)), (yF, .inl (G.2.1, 300, .inl bf))] H locs ∧ lv_has ls 13 [(0, .ref M), (1, .int x), (2, .int y), (4, .int (nI t1)), (5, .int sn), (7, .int (nI l2)), (8, .int (nI q)), (9, .int (nI a))]) (fun H locs ls h9 => ?_) (fun fuel H locs ls hI ih117 => ?_) (nA + 1) ⟨0, l1, (by omega), (by omega), hl1, rfl, w, lv_sub hl [1, 2, 3, 4, 5, 6, 7, 0] rfl⟩
                        · obtain ⟨a, l2, ha, hfa, hl2, hA1, w, hl⟩ := h9
                          omega
                        · obtain ⟨a, l2, ha, hfa, hl2, hA1, w, hl⟩ := hI
                          refine lv_iload hx hb dX6_find_117 (lv_at hl 7 rfl) ?_
                          refine lv_aload_n hx hb dX6_find_119 rfl (lv_at hl 0 rfl) ?_
                          refine b_get X E w 0 rfl rfl 1 (by decide) iX6 (by decide +kernel) rfl rfl dX6_find_120 ?_
                          refine lv_icmp_ge (tgt := 257) hx hb dX6_find_123 (by decide) (fun c_123_263 => ?_) (fun c_123_263 => ?_)
                          · have q_123_264 : nA ≤ a := q_le (by omega) (by omega) c_123_263
                            have ea : a = nA := by omega
                            refine lv_iinc (v := nI (q + 1)) (lv' := [(8, .int (nI (q + 1))), (0, .ref M), (1, .int x), (2, .int y), (4, .int (nI t1)), (5, .int sn), (7, .int (nI l2)), (9, .int (nI a))]) hx hb dX6_find_257 hl (k := 6) rfl (nI_add q 1) (by decide) rfl (fun ls hl => ?_)
                            refine lv_goto (tgt := 107) hx hb dX6_find_260 (by decide) ?_
                            exact ih107 _ _ _ ⟨q + 1, l2, (by omega), (by omega), (by omega), hP1.trans (srA_l (by omega) (hA1.trans (srA_end ea))), w, lv_sub hl [1, 2, 3, 4, 5, 6, 0] rfl⟩
                          · have q_123_264 : a < nA := q_nle (by omega) (by omega) c_123_263
                            have ha1 := q_123_264
                            refine lv_iconst (v := nI 0) hx hb dX6_find_126 (by decide) ?_
                            refine lv_istore (lv' := [(10, .int (nI 0)), (0, .ref M), (1, .int x), (2, .int y), (4, .int (nI t1)), (5, .int sn), (7, .int (nI l2)), (8, .int (nI q)), (9, .int (nI a))]) hx hb dX6_find_127 hl (by decide) rfl (fun ls hl => ?_)
                            refine b_loop (pc := 129) (st := []) (fun (fuel : Nat) (H : Heap) (locs : List Loc) (ls : Array Slot) => ∃ (i : Nat) (l3 : Nat), (i ≤ nJ) ∧ (nJ + 1 ≤ i + fuel) ∧ (l3 ≤ pl0) ∧ (srI (mMm fA nA fJ nJ bc bd bf bn td x y sn q a) (codeN q a) nJ nJ l2 = srI (mMm fA nA fJ nJ bc bd bf bn td x y sn q a) (codeN q a) nJ (nJ - i) l3) ∧ bSt G vwCl [M] s [(M, .inr (6, [.int (nI td), .int (nI nA), .int (nI nJ), .ref yA, .ref yJ, .ref yg, .int (nI dn), .ref yw, .ref yc, .ref yv, .int (nI snt), .int (nI jd), .ref yr, .int (nI bn), .ref yC, .ref yD, .ref yF, .ref yS, .ref yV, .ref yH, .int (nI 0)])), (yA, .inl (G.2.1, 14, .inl fA)), (yJ, .inl (G.2.1, 10, .inl fJ)), (yC, .inl (G.2.1, 300, .inl bc)), (yD, .inl (G.2.1, 300, .inl bd)), (yF, .inl (G.2.1, 300, .inl bf))] H locs ∧ lv_has ls 13 [(0, .ref M), (1, .int x), (2, .int y), (4, .int (nI t1)), (5, .int sn), (7, .int (nI l3)), (8, .int (nI q)), (9, .int (nI a)), (10, .int (nI i))]) (fun H locs ls h9 => ?_) (fun fuel H locs ls hI ih129 => ?_) (nJ + 1) ⟨0, l2, (by omega), (by omega), hl2, rfl, w, lv_sub hl [1, 2, 3, 4, 5, 6, 7, 8, 0] rfl⟩
                            · obtain ⟨i, l3, hi, hfi, hl3, hI1, w, hl⟩ := h9
                              omega
                            · obtain ⟨i, l3, hi, hfi, hl3, hI1, w, hl⟩ := hI
                              refine lv_iload hx hb dX6_find_129 (lv_at hl 8 rfl) ?_
                              refine lv_aload_n hx hb dX6_find_131 rfl (lv_at hl 0 rfl) ?_
                              refine b_get X E w 0 rfl rfl 2 (by decide) iX6 (by decide +kernel) rfl rfl dX6_find_132 ?_
                              refine lv_icmp_ge (tgt := 251) hx hb dX6_find_135 (by decide) (fun c_135_265 => ?_) (fun c_135_265 => ?_)
                              · have q_135_266 : nJ ≤ i := q_le (by omega) (by omega) c_135_265
                                have ei : i = nJ := by omega
                                refine lv_iinc (v := nI (a + 1)) (lv' := [(9, .int (nI (a + 1))), (0, .ref M), (1, .int x), (2, .int y), (4, .int (nI t1)), (5, .int sn), (7, .int (nI l3)), (8, .int (nI q)), (10, .int (nI i))]) hx hb dX6_find_251 hl (k := 7) rfl (nI_add a 1) (by decide) rfl (fun ls hl => ?_)
                                refine lv_goto (tgt := 117) hx hb dX6_find_254 (by decide) ?_
                                exact ih117 _ _ _ ⟨a + 1, l3, (by omega), (by omega), (by omega), hA1.trans (srA_l (by omega) (hI1.trans (srI_end ei))), w, lv_sub hl [1, 2, 3, 4, 5, 6, 7, 0] rfl⟩
                              · have q_135_266 : i < nJ := q_nle (by omega) (by omega) c_135_265
                                have hi1 := q_135_266
                                refine lv_iload hx hb dX6_find_138 (lv_at hl 7 rfl) ?_
                                refine lv_iload hx hb dX6_find_140 (lv_at hl 8 rfl) ?_
                                refine lv_iload hx hb dX6_find_142 (lv_at hl 6 rfl) ?_
                                refine b_calli w (va_runS (As := [.int (nI a), .int (nI i), .int (nI q)]) (rest := []) X (c_X6_cellOf l hl0 G _ (a := a) (i := i) (p0 := q) ) (va_cwS 3 hts gX6_find_X6_cellOf rfl rfl rfl (by decide +kernel) ⟨Nat.le_of_ble_eq_true rfl, Nat.le_of_ble_eq_true rfl⟩) ⟨b_blind, (fun U9 hU9 hW9 => ⟨rfl, b_pre E Z w [] (by decide) rfl b_nil U9 hU9 hW9⟩)⟩ rfl rfl hl.1 rfl (lv_room (Nat.le_of_ble_eq_true rfl)) dX6_find_144 ⟨Nat.le_of_ble_eq_true rfl, Nat.le_of_ble_eq_true rfl⟩) b_nil [] (fun _ => rfl) rfl (fun r144_267 u144_267 H locs hr144_267 w => ?_)
                                have w : bSt G vwCl [M] s [(M, .inr (6, [.int (nI td), .int (nI nA), .int (nI nJ), .ref yA, .ref yJ, .ref yg, .int (nI dn), .ref yw, .ref yc, .ref yv, .int (nI snt), .int (nI jd), .ref yr, .int (nI bn), .ref yC, .ref yD, .ref yF, .ref yS, .ref yV, .ref yH, .int (nI 0)])), (yA, .inl (G.2.1, 14, .inl fA)), (yJ, .inl (G.2.1, 10, .inl fJ)), (yC, .inl (G.2.1, 300, .inl bc)), (yD, .inl (G.2.1, 300, .inl bd)), (yF, .inl (G.2.1, 300, .inl bf))] _ _ := w
                                subst hr144_267
                                refine lv_istore (lv' := [(11, .int (nI (140 * q + (10 * a + i)))), (0, .ref M), (1, .int x), (2, .int y), (4, .int (nI t1)), (5, .int sn), (7, .int (nI l3)), (8, .int (nI q)), (9, .int (nI a)), (10, .int (nI i))]) hx hb dX6_find_147 hl (by decide) rfl (fun ls hl => ?_)
                                refine lv_aload_n hx hb dX6_find_149 rfl (lv_at hl 1 rfl) ?_
                                refine lv_iload hx hb dX6_find_150 (lv_at hl 8 rfl) ?_
                                refine lv_iload_n hx hb dX6_find_152 rfl (lv_at hl 2 rfl) ?_
                                refine lv_iconst (v := nI 0) hx hb dX6_find_153 (by decide) ?_
                                refine b_calli w (va_runV (As := [.int (nI a), .int x, .int (nI 0)]) (rest := []) X (c_X6_isWithin_A l hl0 G _ (M := M) (k := a) (x := x) (td := td) (nA := nA) (nJ := nJ) (yA := yA) (yJ := yJ) (yg := yg) (dn := dn) (yw := yw) (yc := yc) (yv := yv) (snt := snt) (jd := jd) (yr := yr) (bn := bn) (yC := yC) (yD := yD) (yF := yF) (yS := yS) (yV := yV) (yH := yH) (th := nI 0) (fA := fA) (hnA := (by first | assumption | omega)) (hTA := (by first | assumption | omega)) (hk := (by first | assumption | omega))) (cwV 3 hts gX6_find_X6_isWithin rfl rfl rfl (by decide +kernel) ⟨Nat.le_of_ble_eq_true rfl, Nat.le_of_ble_eq_true rfl⟩) ⟨b_blind, b_recv E w (ci := 6) (q0 := 0) rfl rfl, (fun U9 hU9 hW9 => ⟨rfl, b_pre E Z w [0, 1] (by decide) rfl b_nil U9 hU9 hW9⟩)⟩ rfl rfl hl.1 rfl (lv_room (Nat.le_of_ble_eq_true rfl)) dX6_find_154 ⟨Nat.le_of_ble_eq_true rfl, Nat.le_of_ble_eq_true rfl⟩) b_nil [] (fun _ => rfl) rfl (fun r154_268 u154_268 H locs hr154_268 w => ?_)
                                have w : bSt G vwCl [M] s [(M, .inr (6, [.int (nI td), .int (nI nA), .int (nI nJ), .ref yA, .ref yJ, .ref yg, .int (nI dn), .ref yw, .ref yc, .ref yv, .int (nI snt), .int (nI jd), .ref yr, .int (nI bn), .ref yC, .ref yD, .ref yF, .ref yS, .ref yV, .ref yH, .int (nI 0)])), (yA, .inl (G.2.1, 14, .inl fA)), (yJ, .inl (G.2.1, 10, .inl fJ)), (yC, .inl (G.2.1, 300, .inl bc)), (yD, .inl (G.2.1, 300, .inl bd)), (yF, .inl (G.2.1, 300, .inl bf))] _ _ := w
                                subst hr154_268
                                refine lv_if_eq (tgt := 201) hx hb dX6_find_157 (by decide) (fun c_157_269 => ?_) (fun c_157_269 => ?_)
                                · have q_157_270 : (decide (x = -1) || wkB fA (fun j => decide (nI j = x)) nA (nI a)) = false := bI_0.mp c_157_269
                                  have hM : mMm fA nA fJ nJ bc bd bf bn td x y sn q a i = false := by simp [mMm, q_157_270]
                                  refine lv_iconst (v := nI 0) hx hb dX6_find_201 (by decide) ?_
                                  refine lv_istore (lv' := [(12, .int (nI 0)), (11, .int (nI (140 * q + (10 * a + i)))), (0, .ref M), (1, .int x), (2, .int y), (4, .int (nI t1)), (5, .int sn), (7, .int (nI l3)), (8, .int (nI q)), (9, .int (nI a)), (10, .int (nI i))]) hx hb dX6_find_202 hl (by decide) rfl (fun ls hl => ?_)
                                  refine lv_iload hx hb dX6_find_204 (lv_at hl 0 rfl) ?_
                                  refine lv_if_eq (tgt := 230) hx hb dX6_find_206 (by decide) (fun c_206_271 => ?_) (fun c_206_271 => ?_)
                                  · have hgn := srI_no (code := codeN q a) (l := l3) (show i < nJ by omega) hM
                                    refine lv_iload hx hb dX6_find_230 (lv_at hl 7 rfl) ?_
                                    refine lv_iload hx hb dX6_find_232 (lv_at hl 0 rfl) ?_
                                    refine lv_if_eq (tgt := 241) hx hb dX6_find_234 (by decide) (fun c_234_272 => ?_) (fun c_234_272 => ?_)
                                    · refine lv_iconst (v := nI 0) hx hb dX6_find_241 (by decide) ?_
                                      refine lv_isub hx hb dX6_find_242 ?_
                                      refine b_tp (show (nI l3) - (nI 0) = nI l3 from pk_sub (b := 0) (Nat.zero_le _)) ?_
                                      refine lv_istore (lv' := [(7, .int (nI l3)), (12, .int (nI 0)), (11, .int (nI (140 * q + (10 * a + i)))), (0, .ref M), (1, .int x), (2, .int y), (4, .int (nI t1)), (5, .int sn), (8, .int (nI q)), (9, .int (nI a)), (10, .int (nI i))]) hx hb dX6_find_243 hl (by decide) rfl (fun ls hl => ?_)
                                      refine lv_iinc (v := nI (i + 1)) (lv' := [(10, .int (nI (i + 1))), (7, .int (nI l3)), (12, .int (nI 0)), (11, .int (nI (140 * q + (10 * a + i)))), (0, .ref M), (1, .int x), (2, .int y), (4, .int (nI t1)), (5, .int sn), (8, .int (nI q)), (9, .int (nI a))]) hx hb dX6_find_245 hl (k := 10) rfl (nI_add i 1) (by decide) rfl (fun ls hl => ?_)
                                      refine lv_goto (tgt := 129) hx hb dX6_find_248 (by decide) ?_
                                      exact ih129 _ _ _ ⟨i + 1, l3, (by omega), (by omega), (by omega), hI1.trans hgn, w, lv_sub hl [4, 5, 6, 7, 8, 1, 9, 10, 0] rfl⟩
                                    · exact absurd (by decide) c_234_272
                                  · exact absurd (by decide) c_206_271
                                · have q_157_270 : (decide (x = -1) || wkB fA (fun j => decide (nI j = x)) nA (nI a)) = true := bI_n0.mp c_157_269
                                  have m1 := q_157_270
                                  refine lv_aload_n hx hb dX6_find_160 rfl (lv_at hl 1 rfl) ?_
                                  refine lv_iload hx hb dX6_find_161 (lv_at hl 9 rfl) ?_
                                  refine lv_iload_n hx hb dX6_find_163 rfl (lv_at hl 3 rfl) ?_
                                  refine lv_iconst (v := nI 1) hx hb dX6_find_164 (by decide) ?_
                                  refine b_calli w (va_runV (As := [.int (nI i), .int y, .int (nI 1)]) (rest := []) X (c_X6_isWithin_J l hl0 G _ (M := M) (k := i) (x := y) (td := td) (nA := nA) (nJ := nJ) (yA := yA) (yJ := yJ) (yg := yg) (dn := dn) (yw := yw) (yc := yc) (yv := yv) (snt := snt) (jd := jd) (yr := yr) (bn := bn) (yC := yC) (yD := yD) (yF := yF) (yS := yS) (yV := yV) (yH := yH) (th := nI 0) (fJ := fJ) (hnJ := (by first | assumption | omega)) (hTJ := (by first | assumption | omega)) (hk := (by first | assumption | omega))) (cwV 3 hts gX6_find_X6_isWithin rfl rfl rfl (by decide +kernel) ⟨Nat.le_of_ble_eq_true rfl, Nat.le_of_ble_eq_true rfl⟩) ⟨b_blind, b_recv E w (ci := 6) (q0 := 0) rfl rfl, (fun U9 hU9 hW9 => ⟨rfl, b_pre E Z w [0, 2] (by decide) rfl b_nil U9 hU9 hW9⟩)⟩ rfl rfl hl.1 rfl (lv_room (Nat.le_of_ble_eq_true rfl)) dX6_find_165 ⟨Nat.le_of_ble_eq_true rfl, Nat.le_of_ble_eq_true rfl⟩) b_nil [] (fun _ => rfl) rfl (fun r165_273 u165_273 H locs hr165_273 w => ?_)
                                  have w : bSt G vwCl [M] s [(M, .inr (6, [.int (nI td), .int (nI nA), .int (nI nJ), .ref yA, .ref yJ, .ref yg, .int (nI dn), .ref yw, .ref yc, .ref yv, .int (nI snt), .int (nI jd), .ref yr, .int (nI bn), .ref yC, .ref yD, .ref yF, .ref yS, .ref yV, .ref yH, .int (nI 0)])), (yA, .inl (G.2.1, 14, .inl fA)), (yJ, .inl (G.2.1, 10, .inl fJ)), (yC, .inl (G.2.1, 300, .inl bc)), (yD, .inl (G.2.1, 300, .inl bd)), (yF, .inl (G.2.1, 300, .inl bf))] _ _ := w
                                  subst hr165_273
                                  refine lv_if_eq (tgt := 201) hx hb dX6_find_168 (by decide) (fun c_168_274 => ?_) (fun c_168_274 => ?_)
                                  · have q_168_275 : (decide (y = -1) || wkB fJ (fun j => decide (nI j = y)) nJ (nI i)) = false := bI_0.mp c_168_274
                                    have hM : mMm fA nA fJ nJ bc bd bf bn td x y sn q a i = false := by simp [mMm, q_168_275]
                                    refine lv_iconst (v := nI 0) hx hb dX6_find_201 (by decide) ?_
                                    refine lv_istore (lv' := [(12, .int (nI 0)), (11, .int (nI (140 * q + (10 * a + i)))), (0, .ref M), (1, .int x), (2, .int y), (4, .int (nI t1)), (5, .int sn), (7, .int (nI l3)), (8, .int (nI q)), (9, .int (nI a)), (10, .int (nI i))]) hx hb dX6_find_202 hl (by decide) rfl (fun ls hl => ?_)
                                    refine lv_iload hx hb dX6_find_204 (lv_at hl 0 rfl) ?_
                                    refine lv_if_eq (tgt := 230) hx hb dX6_find_206 (by decide) (fun c_206_276 => ?_) (fun c_206_276 => ?_)
                                    · have hgn := srI_no (code := codeN q a) (l := l3) (show i < nJ by omega) hM
                                      refine lv_iload hx hb dX6_find_230 (lv_at hl 7 rfl) ?_
                                      refine lv_iload hx hb dX6_find_232 (lv_at hl 0 rfl) ?_
                                      refine lv_if_eq (tgt := 241) hx hb dX6_find_234 (by decide) (fun c_234_277 => ?_) (fun c_234_277 => ?_)
                                      · refine lv_iconst (v := nI 0) hx hb dX6_find_241 (by decide) ?_
                                        refine lv_isub hx hb dX6_find_242 ?_
                                        refine b_tp (show (nI l3) - (nI 0) = nI l3 from pk_sub (b := 0) (Nat.zero_le _)) ?_
                                        refine lv_istore (lv' := [(7, .int (nI l3)), (12, .int (nI 0)), (11, .int (nI (140 * q + (10 * a + i)))), (0, .ref M), (1, .int x), (2, .int y), (4, .int (nI t1)), (5, .int sn), (8, .int (nI q)), (9, .int (nI a)), (10, .int (nI i))]) hx hb dX6_find_243 hl (by decide) rfl (fun ls hl => ?_)
                                        refine lv_iinc (v := nI (i + 1)) (lv' := [(10, .int (nI (i + 1))), (7, .int (nI l3)), (12, .int (nI 0)), (11, .int (nI (140 * q + (10 * a + i)))), (0, .ref M), (1, .int x), (2, .int y), (4, .int (nI t1)), (5, .int sn), (8, .int (nI q)), (9, .int (nI a))]) hx hb dX6_find_245 hl (k := 10) rfl (nI_add i 1) (by decide) rfl (fun ls hl => ?_)
                                        refine lv_goto (tgt := 129) hx hb dX6_find_248 (by decide) ?_
                                        exact ih129 _ _ _ ⟨i + 1, l3, (by omega), (by omega), (by omega), hI1.trans hgn, w, lv_sub hl [4, 5, 6, 7, 8, 1, 9, 10, 0] rfl⟩
                                      · exact absurd (by decide) c_234_277
                                    · exact absurd (by decide) c_206_276
                                  · have q_168_275 : (decide (y = -1) || wkB fJ (fun j => decide (nI j = y)) nJ (nI i)) = true := bI_n0.mp c_168_274
                                    have m2 := q_168_275
                                    refine lv_aload_n hx hb dX6_find_171 rfl (lv_at hl 1 rfl) ?_
                                    refine lv_iload hx hb dX6_find_172 (lv_at hl 0 rfl) ?_
                                    refine lv_aload_n hx hb dX6_find_174 rfl (lv_at hl 1 rfl) ?_
                                    refine b_get X E w 0 rfl rfl 0 (by decide) iX6 (by decide +kernel) rfl rfl dX6_find_175 ?_
                                    refine b_calli w (va_runV (As := [.int (nI (140 * q + (10 * a + i))), .int (nI td)]) (rest := []) X (c_X6_figureOn l hl0 G _ (M := M) (x := nI (140 * q + (10 * a + i))) (d := nI td) (td := td) (nA := nA) (nJ := nJ) (yA := yA) (yJ := yJ) (yg := yg) (dn := dn) (yw := yw) (yc := yc) (yv := yv) (snt := snt) (jd := jd) (yr := yr) (bn := bn) (yC := yC) (yD := yD) (yF := yF) (yS := yS) (yV := yV) (yH := yH) (th := nI 0) (bc := bc) (bd := bd) (bf := bf) (hbn := (by first | assumption | omega))) (cwV 2 hts gX6_find_X6_figureOn rfl rfl rfl (by decide +kernel) ⟨Nat.le_of_ble_eq_true rfl, Nat.le_of_ble_eq_true rfl⟩) ⟨b_blind, b_recv E w (ci := 6) (q0 := 0) rfl rfl, (fun U9 hU9 hW9 => ⟨rfl, b_pre E Z w [0, 3, 4, 5] (by decide) rfl b_nil U9 hU9 hW9⟩)⟩ rfl rfl hl.1 rfl (lv_room (Nat.le_of_ble_eq_true rfl)) dX6_find_178 ⟨Nat.le_of_ble_eq_true rfl, Nat.le_of_ble_eq_true rfl⟩) b_nil [] (fun _ => rfl) rfl (fun r178_278 u178_278 H locs hr178_278 w => ?_)
                                    have w : bSt G vwCl [M] s [(M, .inr (6, [.int (nI td), .int (nI nA), .int (nI nJ), .ref yA, .ref yJ, .ref yg, .int (nI dn), .ref yw, .ref yc, .ref yv, .int (nI snt), .int (nI jd), .ref yr, .int (nI bn), .ref yC, .ref yD, .ref yF, .ref yS, .ref yV, .ref yH, .int (nI 0)])), (yA, .inl (G.2.1, 14, .inl fA)), (yJ, .inl (G.2.1, 10, .inl fJ)), (yC, .inl (G.2.1, 300, .inl bc)), (yD, .inl (G.2.1, 300, .inl bd)), (yF, .inl (G.2.1, 300, .inl bf))] _ _ := w
                                    subst hr178_278
                                    refine lv_ldc (v := MIS) hx hb hown (hts (.constant RX6 86 (-2000000001)) (by decide +kernel)) dX6_find_181 ?_
                                    refine lv_icmp_eq (tgt := 201) hx hb dX6_find_183 (by decide) (fun c_183_279 => ?_) (fun c_183_279 => ?_)
                                    · have hM : mMm fA nA fJ nJ bc bd bf bn td x y sn q a i = false := by simp [mMm, c_183_279]
                                      refine lv_iconst (v := nI 0) hx hb dX6_find_201 (by decide) ?_
                                      refine lv_istore (lv' := [(12, .int (nI 0)), (11, .int (nI (140 * q + (10 * a + i)))), (0, .ref M), (1, .int x), (2, .int y), (4, .int (nI t1)), (5, .int sn), (7, .int (nI l3)), (8, .int (nI q)), (9, .int (nI a)), (10, .int (nI i))]) hx hb dX6_find_202 hl (by decide) rfl (fun ls hl => ?_)
                                      refine lv_iload hx hb dX6_find_204 (lv_at hl 0 rfl) ?_
                                      refine lv_if_eq (tgt := 230) hx hb dX6_find_206 (by decide) (fun c_206_280 => ?_) (fun c_206_280 => ?_)
                                      · have hgn := srI_no (code := codeN q a) (l := l3) (show i < nJ by omega) hM
                                        refine lv_iload hx hb dX6_find_230 (lv_at hl 7 rfl) ?_
                                        refine lv_iload hx hb dX6_find_232 (lv_at hl 0 rfl) ?_
                                        refine lv_if_eq (tgt := 241) hx hb dX6_find_234 (by decide) (fun c_234_281 => ?_) (fun c_234_281 => ?_)
                                        · refine lv_iconst (v := nI 0) hx hb dX6_find_241 (by decide) ?_
                                          refine lv_isub hx hb dX6_find_242 ?_
                                          refine b_tp (show (nI l3) - (nI 0) = nI l3 from pk_sub (b := 0) (Nat.zero_le _)) ?_
                                          refine lv_istore (lv' := [(7, .int (nI l3)), (12, .int (nI 0)), (11, .int (nI (140 * q + (10 * a + i)))), (0, .ref M), (1, .int x), (2, .int y), (4, .int (nI t1)), (5, .int sn), (8, .int (nI q)), (9, .int (nI a)), (10, .int (nI i))]) hx hb dX6_find_243 hl (by decide) rfl (fun ls hl => ?_)
                                          refine lv_iinc (v := nI (i + 1)) (lv' := [(10, .int (nI (i + 1))), (7, .int (nI l3)), (12, .int (nI 0)), (11, .int (nI (140 * q + (10 * a + i)))), (0, .ref M), (1, .int x), (2, .int y), (4, .int (nI t1)), (5, .int sn), (8, .int (nI q)), (9, .int (nI a))]) hx hb dX6_find_245 hl (k := 10) rfl (nI_add i 1) (by decide) rfl (fun ls hl => ?_)
                                          refine lv_goto (tgt := 129) hx hb dX6_find_248 (by decide) ?_
                                          exact ih129 _ _ _ ⟨i + 1, l3, (by omega), (by omega), (by omega), hI1.trans hgn, w, lv_sub hl [4, 5, 6, 7, 8, 1, 9, 10, 0] rfl⟩
                                        · exact absurd (by decide) c_234_281
                                      · exact absurd (by decide) c_206_280
                                    · have m3 := c_183_279
                                      refine lv_aload_n hx hb dX6_find_186 rfl (lv_at hl 1 rfl) ?_
                                      refine lv_iload hx hb dX6_find_187 (lv_at hl 0 rfl) ?_
                                      refine b_calli w (va_runV (As := [.int (nI (140 * q + (10 * a + i)))]) (rest := []) X (c_X6_toldOn l hl0 G _ (M := M) (x := nI (140 * q + (10 * a + i))) (td := td) (nA := nA) (nJ := nJ) (yA := yA) (yJ := yJ) (yg := yg) (dn := dn) (yw := yw) (yc := yc) (yv := yv) (snt := snt) (jd := jd) (yr := yr) (bn := bn) (yC := yC) (yD := yD) (yF := yF) (yS := yS) (yV := yV) (yH := yH) (th := nI 0) (bc := bc) (bd := bd) (hbn := (by first | assumption | omega))) (cwV 1 hts gX6_find_X6_toldOn rfl rfl rfl (by decide +kernel) ⟨Nat.le_of_ble_eq_true rfl, Nat.le_of_ble_eq_true rfl⟩) ⟨b_blind, b_recv E w (ci := 6) (q0 := 0) rfl rfl, (fun U9 hU9 hW9 => ⟨rfl, b_pre E Z w [0, 3, 4] (by decide) rfl b_nil U9 hU9 hW9⟩)⟩ rfl rfl hl.1 rfl (lv_room (Nat.le_of_ble_eq_true rfl)) dX6_find_189 ⟨Nat.le_of_ble_eq_true rfl, Nat.le_of_ble_eq_true rfl⟩) b_nil [] (fun _ => rfl) rfl (fun r189_282 u189_282 H locs hr189_282 w => ?_)
                                      have w : bSt G vwCl [M] s [(M, .inr (6, [.int (nI td), .int (nI nA), .int (nI nJ), .ref yA, .ref yJ, .ref yg, .int (nI dn), .ref yw, .ref yc, .ref yv, .int (nI snt), .int (nI jd), .ref yr, .int (nI bn), .ref yC, .ref yD, .ref yF, .ref yS, .ref yV, .ref yH, .int (nI 0)])), (yA, .inl (G.2.1, 14, .inl fA)), (yJ, .inl (G.2.1, 10, .inl fJ)), (yC, .inl (G.2.1, 300, .inl bc)), (yD, .inl (G.2.1, 300, .inl bd)), (yF, .inl (G.2.1, 300, .inl bf))] _ _ := w
                                      subst hr189_282
                                      refine lv_iload hx hb dX6_find_192 (lv_at hl 5 rfl) ?_
                                      refine lv_icmp_lt (tgt := 201) hx hb dX6_find_194 (by decide) (fun c_194_283 => ?_) (fun c_194_283 => ?_)
                                      · have hM : mMm fA nA fJ nJ bc bd bf bn td x y sn q a i = false := by simp [mMm, c_194_283]
                                        refine lv_iconst (v := nI 0) hx hb dX6_find_201 (by decide) ?_
                                        refine lv_istore (lv' := [(12, .int (nI 0)), (11, .int (nI (140 * q + (10 * a + i)))), (0, .ref M), (1, .int x), (2, .int y), (4, .int (nI t1)), (5, .int sn), (7, .int (nI l3)), (8, .int (nI q)), (9, .int (nI a)), (10, .int (nI i))]) hx hb dX6_find_202 hl (by decide) rfl (fun ls hl => ?_)
                                        refine lv_iload hx hb dX6_find_204 (lv_at hl 0 rfl) ?_
                                        refine lv_if_eq (tgt := 230) hx hb dX6_find_206 (by decide) (fun c_206_284 => ?_) (fun c_206_284 => ?_)
                                        · have hgn := srI_no (code := codeN q a) (l := l3) (show i < nJ by omega) hM
                                          refine lv_iload hx hb dX6_find_230 (lv_at hl 7 rfl) ?_
                                          refine lv_iload hx hb dX6_find_232 (lv_at hl 0 rfl) ?_
                                          refine lv_if_eq (tgt := 241) hx hb dX6_find_234 (by decide) (fun c_234_285 => ?_) (fun c_234_285 => ?_)
                                          · refine lv_iconst (v := nI 0) hx hb dX6_find_241 (by decide) ?_
                                            refine lv_isub hx hb dX6_find_242 ?_
                                            refine b_tp (show (nI l3) - (nI 0) = nI l3 from pk_sub (b := 0) (Nat.zero_le _)) ?_
                                            refine lv_istore (lv' := [(7, .int (nI l3)), (12, .int (nI 0)), (11, .int (nI (140 * q + (10 * a + i)))), (0, .ref M), (1, .int x), (2, .int y), (4, .int (nI t1)), (5, .int sn), (8, .int (nI q)), (9, .int (nI a)), (10, .int (nI i))]) hx hb dX6_find_243 hl (by decide) rfl (fun ls hl => ?_)
                                            refine lv_iinc (v := nI (i + 1)) (lv' := [(10, .int (nI (i + 1))), (7, .int (nI l3)), (12, .int (nI 0)), (11, .int (nI (140 * q + (10 * a + i)))), (0, .ref M), (1, .int x), (2, .int y), (4, .int (nI t1)), (5, .int sn), (8, .int (nI q)), (9, .int (nI a))]) hx hb dX6_find_245 hl (k := 10) rfl (nI_add i 1) (by decide) rfl (fun ls hl => ?_)
                                            refine lv_goto (tgt := 129) hx hb dX6_find_248 (by decide) ?_
                                            exact ih129 _ _ _ ⟨i + 1, l3, (by omega), (by omega), (by omega), hI1.trans hgn, w, lv_sub hl [4, 5, 6, 7, 8, 1, 9, 10, 0] rfl⟩
                                          · exact absurd (by decide) c_234_285
                                        · exact absurd (by decide) c_206_284
                                      · have hM : mMm fA nA fJ nJ bc bd bf bn td x y sn q a i = true := by simp only [mMm, m1, m2]; simp [m3, c_194_283]
                                        refine lv_iconst (v := nI 1) hx hb dX6_find_197 (by decide) ?_
                                        refine lv_goto (tgt := 202) hx hb dX6_find_198 (by decide) ?_
                                        refine lv_istore (lv' := [(12, .int (nI 1)), (11, .int (nI (140 * q + (10 * a + i)))), (0, .ref M), (1, .int x), (2, .int y), (4, .int (nI t1)), (5, .int sn), (7, .int (nI l3)), (8, .int (nI q)), (9, .int (nI a)), (10, .int (nI i))]) hx hb dX6_find_202 hl (by decide) rfl (fun ls hl => ?_)
                                        refine lv_iload hx hb dX6_find_204 (lv_at hl 0 rfl) ?_
                                        refine lv_if_eq (tgt := 230) hx hb dX6_find_206 (by decide) (fun c_206_286 => ?_) (fun c_206_286 => ?_)
                                        · exact absurd c_206_286 (by decide)
                                        · refine lv_iload hx hb dX6_find_209 (lv_at hl 7 rfl) ?_
                                          refine lv_if_ne (tgt := 230) hx hb dX6_find_211 (by decide) (fun c_211_287 => ?_) (fun c_211_287 => ?_)
                                          · have q_211_288 : ¬ l3 = 0 := fun h9 => c_211_287 ((nI_z (by omega)).mpr h9)
                                            have hgn := srI_pass (code := codeN q a) (show i < nJ by omega) hM q_211_288
                                            have q211 := q_211_288
                                            refine lv_iload hx hb dX6_find_230 (lv_at hl 7 rfl) ?_
                                            refine lv_iload hx hb dX6_find_232 (lv_at hl 0 rfl) ?_
                                            refine lv_if_eq (tgt := 241) hx hb dX6_find_234 (by decide) (fun c_234_289 => ?_) (fun c_234_289 => ?_)
                                            · exact absurd c_234_289 (by decide)
                                            · refine lv_iconst (v := nI 1) hx hb dX6_find_237 (by decide) ?_
                                              refine lv_goto (tgt := 242) hx hb dX6_find_238 (by decide) ?_
                                              refine lv_isub hx hb dX6_find_242 ?_
                                              refine b_tp (show (nI l3) - (nI 1) = nI (l3 - 1) from pk_sub (by omega)) ?_
                                              refine lv_istore (lv' := [(7, .int (nI (l3 - 1))), (12, .int (nI 1)), (11, .int (nI (140 * q + (10 * a + i)))), (0, .ref M), (1, .int x), (2, .int y), (4, .int (nI t1)), (5, .int sn), (8, .int (nI q)), (9, .int (nI a)), (10, .int (nI i))]) hx hb dX6_find_243 hl (by decide) rfl (fun ls hl => ?_)
                                              refine lv_iinc (v := nI (i + 1)) (lv' := [(10, .int (nI (i + 1))), (7, .int (nI (l3 - 1))), (12, .int (nI 1)), (11, .int (nI (140 * q + (10 * a + i)))), (0, .ref M), (1, .int x), (2, .int y), (4, .int (nI t1)), (5, .int sn), (8, .int (nI q)), (9, .int (nI a))]) hx hb dX6_find_245 hl (k := 10) rfl (nI_add i 1) (by decide) rfl (fun ls hl => ?_)
                                              refine lv_goto (tgt := 129) hx hb dX6_find_248 (by decide) ?_
                                              exact ih129 _ _ _ ⟨i + 1, l3 - 1, (by omega), (by omega), (by omega), hI1.trans hgn, w, lv_sub hl [4, 5, 6, 7, 8, 1, 9, 10, 0] rfl⟩
                                          · have q_211_288 : l3 = 0 := (nI_z (by omega)).mp c_211_287
                                            have hh := srI_hit (code := codeN q a) (show i < nJ by omega) hM q_211_288
                                            refine lv_sipush (v := nI 1000) hx hb dX6_find_214 (by decide) ?_
                                            refine lv_iload hx hb dX6_find_217 (lv_at hl 8 rfl) ?_
                                            refine lv_imul hx hb dX6_find_219 ?_
                                            refine b_tp (show (nI 1000) * (nI q) = nI (1000 * q) from pk_mul 1000 q) ?_
                                            refine lv_bipush (v := nI 20) hx hb dX6_find_220 (by decide) ?_
                                            refine lv_iload hx hb dX6_find_222 (lv_at hl 9 rfl) ?_
                                            refine lv_imul hx hb dX6_find_224 ?_
                                            refine b_tp (show (nI 20) * (nI a) = nI (20 * a) from pk_mul 20 a) ?_
                                            refine lv_iadd hx hb dX6_find_225 ?_
                                            refine b_tp (show (nI (1000 * q)) + (nI (20 * a)) = nI ((1000 * q) + 20 * a) from nI_add (1000 * q) (20 * a)) ?_
                                            refine lv_iload hx hb dX6_find_226 (lv_at hl 10 rfl) ?_
                                            refine lv_iadd hx hb dX6_find_228 ?_
                                            refine b_tp (show (nI ((1000 * q) + 20 * a)) + (nI i) = nI ((1000 * q) + 20 * a + i) from nI_add ((1000 * q) + 20 * a) i) ?_
                                            exact W.iret (v := nI ((1000 * q) + 20 * a + i)) hx hb hr (fun t9 ht9 hW9 => ⟨⟨nI ((1000 * q) + 20 * a + i), (), rfl, by rw [hT, ef, et, epl]; exact (congrArg srR (hP1.trans (srA_r (by omega) (hA1.trans (srA_r (by omega) (hI1.trans hh)))))).symm, by show va_P G.1 vwCl _ t9.heap; rw [ht9]; exact b_cg (by rw [hT]) (w.1.sub (ws' := [(M, .inr (6, [.int (nI td), .int (nI nA), .int (nI nJ), .ref yA, .ref yJ, .ref yg, .int (nI dn), .ref yw, .ref yc, .ref yv, .int (nI snt), .int (nI jd), .ref yr, .int (nI bn), .ref yC, .ref yD, .ref yF, .ref yS, .ref yV, .ref yH, .int (nI 0)]))]) [0] rfl)⟩, w.2.1.F ht9⟩) w.2.1.2.2 dX6_find_229
                  · exact absurd (by decide) c_95_260
                · have q_80_259 : (sOk sn) = false := bI_0.mp c_80_258
                  have hT : th2 (tPat nA x && tPat nJ y && !decide (pl < 0)) (tHas 12 f && tHas 12 t0 && !decide (t0 < f) && sOk sn) = 2 := by simp [th2, h3, q_80_259]
                  refine lv_iconst (v := nI 2) hx hb dX6_find_83 (by decide) ?_
                  refine lv_goto (tgt := 88) hx hb dX6_find_84 (by decide) ?_
                  refine b_put (ty := .int) X E w (Or.inl (List.mem_of_getElem? (i := 0) rfl)) 0 rfl rfl 20 (by decide) iX6 tyX6 tyX6_ok nmX6 (by decide +kernel) rfl rfl (by decide +kernel) rfl rfl (Nat.le_of_ble_eq_true rfl) dX6_find_88 (fun H locs w => ?_)
                  have w : bSt G vwCl [M] s [(M, .inr (6, [.int (nI td), .int (nI nA), .int (nI nJ), .ref yA, .ref yJ, .ref yg, .int (nI dn), .ref yw, .ref yc, .ref yv, .int (nI snt), .int (nI jd), .ref yr, .int (nI bn), .ref yC, .ref yD, .ref yF, .ref yS, .ref yV, .ref yH, .int (nI 2)])), (yA, .inl (G.2.1, 14, .inl fA)), (yJ, .inl (G.2.1, 10, .inl fJ)), (yC, .inl (G.2.1, 300, .inl bc)), (yD, .inl (G.2.1, 300, .inl bd)), (yF, .inl (G.2.1, 300, .inl bf))] _ _ := w
                  refine lv_aload_n hx hb dX6_find_91 rfl (lv_at hl 0 rfl) ?_
                  refine b_get X E w 0 rfl rfl 20 (by decide) iX6 (by decide +kernel) rfl rfl dX6_find_92 ?_
                  refine lv_if_le (tgt := 100) hx hb dX6_find_95 (by decide) (fun c_95_290 => ?_) (fun c_95_290 => ?_)
                  · exact absurd c_95_290 (by decide)
                  · refine lv_iconst (v := nI 0) hx hb dX6_find_98 (by decide) ?_
                    exact W.iret (v := nI 0) hx hb hr (fun t9 ht9 hW9 => ⟨⟨nI 0, (), rfl, by rw [hT]; rfl, by show va_P G.1 vwCl _ t9.heap; rw [ht9]; exact b_cg (by rw [hT]) (w.1.sub (ws' := [(M, .inr (6, [.int (nI td), .int (nI nA), .int (nI nJ), .ref yA, .ref yJ, .ref yg, .int (nI dn), .ref yw, .ref yc, .ref yv, .int (nI snt), .int (nI jd), .ref yr, .int (nI bn), .ref yC, .ref yD, .ref yF, .ref yS, .ref yV, .ref yH, .int (nI 2)]))]) [0] rfl)⟩, w.2.1.F ht9⟩) w.2.1.2.2 dX6_find_99
          · exact absurd (by decide) c_44_248
        · have hT : th2 (tPat nA x && tPat nJ y && !decide (pl < 0)) (tHas 12 f && tHas 12 t0 && !decide (t0 < f) && sOk sn) = 1 := by simp [th2, i_lt_of_nle c_29_247]
          refine lv_iconst (v := nI 1) hx hb dX6_find_32 (by decide) ?_
          refine lv_goto (tgt := 37) hx hb dX6_find_33 (by decide) ?_
          have w := b_wide [M] b_nil w
          refine b_put (ty := .int) X E w (Or.inl (List.mem_of_getElem? (i := 0) rfl)) 0 rfl rfl 20 (by decide) iX6 tyX6 tyX6_ok nmX6 (by decide +kernel) rfl rfl (by decide +kernel) rfl rfl (Nat.le_of_ble_eq_true rfl) dX6_find_37 (fun H locs w => ?_)
          have w : bSt G vwCl [M] s [(M, .inr (6, [.int (nI td), .int (nI nA), .int (nI nJ), .ref yA, .ref yJ, .ref yg, .int (nI dn), .ref yw, .ref yc, .ref yv, .int (nI snt), .int (nI jd), .ref yr, .int (nI bn), .ref yC, .ref yD, .ref yF, .ref yS, .ref yV, .ref yH, .int (nI 1)])), (yA, .inl (G.2.1, 14, .inl fA)), (yJ, .inl (G.2.1, 10, .inl fJ)), (yC, .inl (G.2.1, 300, .inl bc)), (yD, .inl (G.2.1, 300, .inl bd)), (yF, .inl (G.2.1, 300, .inl bf))] _ _ := w
          refine lv_aload_n hx hb dX6_find_40 rfl (lv_at hl 0 rfl) ?_
          refine b_get X E w 0 rfl rfl 20 (by decide) iX6 (by decide +kernel) rfl rfl dX6_find_41 ?_
          refine lv_if_le (tgt := 49) hx hb dX6_find_44 (by decide) (fun c_44_291 => ?_) (fun c_44_291 => ?_)
          · exact absurd c_44_291 (by decide)
          · refine lv_iconst (v := nI 0) hx hb dX6_find_47 (by decide) ?_
            exact W.iret (v := nI 0) hx hb hr (fun t9 ht9 hW9 => ⟨⟨nI 0, (), rfl, by rw [hT]; rfl, by show va_P G.1 vwCl _ t9.heap; rw [ht9]; exact b_cg (by rw [hT]) (w.1.sub (ws' := [(M, .inr (6, [.int (nI td), .int (nI nA), .int (nI nJ), .ref yA, .ref yJ, .ref yg, .int (nI dn), .ref yw, .ref yc, .ref yv, .int (nI snt), .int (nI jd), .ref yr, .int (nI bn), .ref yC, .ref yD, .ref yF, .ref yS, .ref yV, .ref yH, .int (nI 1)]))]) [0] rfl)⟩, w.2.1.F ht9⟩) w.2.1.2.2 dX6_find_48
  · have c3 := c_3_196
    refine lv_aload_n hx hb dX6_find_6 rfl (lv_at hl 0 rfl) ?_
    refine lv_iload_n hx hb dX6_find_7 rfl (lv_at hl 1 rfl) ?_
    refine b_calli w (va_runV (As := [.int x]) (rest := [.ref M]) X (c_X6_isArea l hl0 G _ (M := M) (x := x) (td := td) (nA := nA) (nJ := nJ) (yA := yA) (yJ := yJ) (yg := yg) (dn := dn) (yw := yw) (yc := yc) (yv := yv) (snt := snt) (jd := jd) (yr := yr) (bn := bn) (yC := yC) (yD := yD) (yF := yF) (yS := yS) (yV := yV) (yH := yH) (th := th) (hnA := (by first | assumption | omega))) (cwV 1 hts gX6_find_X6_isArea rfl rfl rfl (by decide +kernel) ⟨Nat.le_of_ble_eq_true rfl, Nat.le_of_ble_eq_true rfl⟩) ⟨b_blind, b_recv E w (ci := 6) (q0 := 0) rfl rfl, (fun U9 hU9 hW9 => ⟨rfl, b_pre E Z0 w [0] (by decide) rfl b_nil U9 hU9 hW9⟩)⟩ rfl rfl hl.1 rfl (lv_room (Nat.le_of_ble_eq_true rfl)) dX6_find_8 ⟨Nat.le_of_ble_eq_true rfl, Nat.le_of_ble_eq_true rfl⟩) b_nil [] (fun _ => rfl) rfl (fun r8_292 u8_292 H locs hr8_292 w => ?_)
    have w : bSt G vwCl [] s [(M, .inr (6, [.int (nI td), .int (nI nA), .int (nI nJ), .ref yA, .ref yJ, .ref yg, .int (nI dn), .ref yw, .ref yc, .ref yv, .int (nI snt), .int (nI jd), .ref yr, .int (nI bn), .ref yC, .ref yD, .ref yF, .ref yS, .ref yV, .ref yH, .int th])), (yA, .inl (G.2.1, 14, .inl fA)), (yJ, .inl (G.2.1, 10, .inl fJ)), (yC, .inl (G.2.1, 300, .inl bc)), (yD, .inl (G.2.1, 300, .inl bd)), (yF, .inl (G.2.1, 300, .inl bf))] _ _ := w
    subst hr8_292
    refine lv_if_eq (tgt := 32) hx hb dX6_find_11 (by decide) (fun c_11_293 => ?_) (fun c_11_293 => ?_)
    · have q_11_294 : (tHas nA x) = false := bI_0.mp c_11_293
      have hT : th2 (tPat nA x && tPat nJ y && !decide (pl < 0)) (tHas 12 f && tHas 12 t0 && !decide (t0 < f) && sOk sn) = 1 := by simp [th2, tPat, c3, q_11_294]
      refine lv_iconst (v := nI 1) hx hb dX6_find_32 (by decide) ?_
      refine lv_goto (tgt := 37) hx hb dX6_find_33 (by decide) ?_
      have w := b_wide [M] b_nil w
      refine b_put (ty := .int) X E w (Or.inl (List.mem_of_getElem? (i := 0) rfl)) 0 rfl rfl 20 (by decide) iX6 tyX6 tyX6_ok nmX6 (by decide +kernel) rfl rfl (by decide +kernel) rfl rfl (Nat.le_of_ble_eq_true rfl) dX6_find_37 (fun H locs w => ?_)
      have w : bSt G vwCl [M] s [(M, .inr (6, [.int (nI td), .int (nI nA), .int (nI nJ), .ref yA, .ref yJ, .ref yg, .int (nI dn), .ref yw, .ref yc, .ref yv, .int (nI snt), .int (nI jd), .ref yr, .int (nI bn), .ref yC, .ref yD, .ref yF, .ref yS, .ref yV, .ref yH, .int (nI 1)])), (yA, .inl (G.2.1, 14, .inl fA)), (yJ, .inl (G.2.1, 10, .inl fJ)), (yC, .inl (G.2.1, 300, .inl bc)), (yD, .inl (G.2.1, 300, .inl bd)), (yF, .inl (G.2.1, 300, .inl bf))] _ _ := w
      refine lv_aload_n hx hb dX6_find_40 rfl (lv_at hl 0 rfl) ?_
      refine b_get X E w 0 rfl rfl 20 (by decide) iX6 (by decide +kernel) rfl rfl dX6_find_41 ?_
      refine lv_if_le (tgt := 49) hx hb dX6_find_44 (by decide) (fun c_44_295 => ?_) (fun c_44_295 => ?_)
      · exact absurd c_44_295 (by decide)
      · refine lv_iconst (v := nI 0) hx hb dX6_find_47 (by decide) ?_
        exact W.iret (v := nI 0) hx hb hr (fun t9 ht9 hW9 => ⟨⟨nI 0, (), rfl, by rw [hT]; rfl, by show va_P G.1 vwCl _ t9.heap; rw [ht9]; exact b_cg (by rw [hT]) (w.1.sub (ws' := [(M, .inr (6, [.int (nI td), .int (nI nA), .int (nI nJ), .ref yA, .ref yJ, .ref yg, .int (nI dn), .ref yw, .ref yc, .ref yv, .int (nI snt), .int (nI jd), .ref yr, .int (nI bn), .ref yC, .ref yD, .ref yF, .ref yS, .ref yV, .ref yH, .int (nI 1)]))]) [0] rfl)⟩, w.2.1.F ht9⟩) w.2.1.2.2 dX6_find_48
    · have q_11_294 : (tHas nA x) = true := bI_n0.mp c_11_293
      have h1 : tPat nA x = true := by simp [tPat, q_11_294]
      refine lv_iload_n hx hb dX6_find_14 rfl (lv_at hl 2 rfl) ?_
      refine lv_iconst (v := -1) hx hb dX6_find_15 (by decide) ?_
      refine lv_icmp_eq (tgt := 27) hx hb dX6_find_16 (by decide) (fun c_16_296 => ?_) (fun c_16_296 => ?_)
      · have h2 : tPat nJ y = true := by simp [tPat, c_16_296]
        refine lv_iload hx hb dX6_find_27 (lv_at hl 6 rfl) ?_
        refine lv_if_ge (tgt := 36) hx hb dX6_find_29 (by decide) (fun c_29_297 => ?_) (fun c_29_297 => ?_)
        · have c29 : ¬ pl < 0 := fun h9 => absurd c_29_297 (i_le_of_lt h9)
          have h3 : (tPat nA x && tPat nJ y && !decide (pl < 0)) = true := by simp [h1, h2, c29]
          refine lv_iconst (v := nI 0) hx hb dX6_find_36 (by decide) ?_
          have w := b_wide [M] b_nil w
          refine b_put (ty := .int) X E w (Or.inl (List.mem_of_getElem? (i := 0) rfl)) 0 rfl rfl 20 (by decide) iX6 tyX6 tyX6_ok nmX6 (by decide +kernel) rfl rfl (by decide +kernel) rfl rfl (Nat.le_of_ble_eq_true rfl) dX6_find_37 (fun H locs w => ?_)
          have w : bSt G vwCl [M] s [(M, .inr (6, [.int (nI td), .int (nI nA), .int (nI nJ), .ref yA, .ref yJ, .ref yg, .int (nI dn), .ref yw, .ref yc, .ref yv, .int (nI snt), .int (nI jd), .ref yr, .int (nI bn), .ref yC, .ref yD, .ref yF, .ref yS, .ref yV, .ref yH, .int (nI 0)])), (yA, .inl (G.2.1, 14, .inl fA)), (yJ, .inl (G.2.1, 10, .inl fJ)), (yC, .inl (G.2.1, 300, .inl bc)), (yD, .inl (G.2.1, 300, .inl bd)), (yF, .inl (G.2.1, 300, .inl bf))] _ _ := w
          refine lv_aload_n hx hb dX6_find_40 rfl (lv_at hl 0 rfl) ?_
          refine b_get X E w 0 rfl rfl 20 (by decide) iX6 (by decide +kernel) rfl rfl dX6_find_41 ?_
          refine lv_if_le (tgt := 49) hx hb dX6_find_44 (by decide) (fun c_44_298 => ?_) (fun c_44_298 => ?_)
          · refine lv_aload_n hx hb dX6_find_49 rfl (lv_at hl 0 rfl) ?_
            refine lv_iload_n hx hb dX6_find_50 rfl (lv_at hl 3 rfl) ?_
            refine lv_iconst (v := nI 0) hx hb dX6_find_51 (by decide) ?_
            refine lv_bipush (v := nI 11) hx hb dX6_find_52 (by decide) ?_
            refine b_calli w (va_runS (As := [.int f, .int (nI 0), .int (nI 11)]) (rest := [.ref M]) X (c_X6_isIn l hl0 G _ (x := f) (lo := nI 0) (hi := nI 11) ) (va_cwS 3 hts gX6_find_X6_isIn rfl rfl rfl (by decide +kernel) ⟨Nat.le_of_ble_eq_true rfl, Nat.le_of_ble_eq_true rfl⟩) ⟨b_blind, (fun U9 hU9 hW9 => ⟨rfl, b_pre E Z w [] (by decide) rfl b_nil U9 hU9 hW9⟩)⟩ rfl rfl hl.1 rfl (lv_room (Nat.le_of_ble_eq_true rfl)) dX6_find_54 ⟨Nat.le_of_ble_eq_true rfl, Nat.le_of_ble_eq_true rfl⟩) b_nil [] (fun _ => rfl) rfl (fun r54_299 u54_299 H locs hr54_299 w => ?_)
            have w : bSt G vwCl [M] s [(M, .inr (6, [.int (nI td), .int (nI nA), .int (nI nJ), .ref yA, .ref yJ, .ref yg, .int (nI dn), .ref yw, .ref yc, .ref yv, .int (nI snt), .int (nI jd), .ref yr, .int (nI bn), .ref yC, .ref yD, .ref yF, .ref yS, .ref yV, .ref yH, .int (nI 0)])), (yA, .inl (G.2.1, 14, .inl fA)), (yJ, .inl (G.2.1, 10, .inl fJ)), (yC, .inl (G.2.1, 300, .inl bc)), (yD, .inl (G.2.1, 300, .inl bd)), (yF, .inl (G.2.1, 300, .inl bf))] _ _ := w
            subst hr54_299
            refine b_tp (show bI (tIn f (nI 0) (nI 11)) = bI (tHas 12 f) from congrArg bI (tIn_lit (n := 11) (by decide))) ?_
            refine lv_if_eq (tgt := 83) hx hb dX6_find_57 (by decide) (fun c_57_300 => ?_) (fun c_57_300 => ?_)
            · have q_57_301 : (tHas 12 f) = false := bI_0.mp c_57_300
              have hT : th2 (tPat nA x && tPat nJ y && !decide (pl < 0)) (tHas 12 f && tHas 12 t0 && !decide (t0 < f) && sOk sn) = 2 := by simp [th2, h3, q_57_301]
              refine lv_iconst (v := nI 2) hx hb dX6_find_83 (by decide) ?_
              refine lv_goto (tgt := 88) hx hb dX6_find_84 (by decide) ?_
              refine b_put (ty := .int) X E w (Or.inl (List.mem_of_getElem? (i := 0) rfl)) 0 rfl rfl 20 (by decide) iX6 tyX6 tyX6_ok nmX6 (by decide +kernel) rfl rfl (by decide +kernel) rfl rfl (Nat.le_of_ble_eq_true rfl) dX6_find_88 (fun H locs w => ?_)
              have w : bSt G vwCl [M] s [(M, .inr (6, [.int (nI td), .int (nI nA), .int (nI nJ), .ref yA, .ref yJ, .ref yg, .int (nI dn), .ref yw, .ref yc, .ref yv, .int (nI snt), .int (nI jd), .ref yr, .int (nI bn), .ref yC, .ref yD, .ref yF, .ref yS, .ref yV, .ref yH, .int (nI 2)])), (yA, .inl (G.2.1, 14, .inl fA)), (yJ, .inl (G.2.1, 10, .inl fJ)), (yC, .inl (G.2.1, 300, .inl bc)), (yD, .inl (G.2.1, 300, .inl bd)), (yF, .inl (G.2.1, 300, .inl bf))] _ _ := w
              refine lv_aload_n hx hb dX6_find_91 rfl (lv_at hl 0 rfl) ?_
              refine b_get X E w 0 rfl rfl 20 (by decide) iX6 (by decide +kernel) rfl rfl dX6_find_92 ?_
              refine lv_if_le (tgt := 100) hx hb dX6_find_95 (by decide) (fun c_95_302 => ?_) (fun c_95_302 => ?_)
              · exact absurd c_95_302 (by decide)
              · refine lv_iconst (v := nI 0) hx hb dX6_find_98 (by decide) ?_
                exact W.iret (v := nI 0) hx hb hr (fun t9 ht9 hW9 => ⟨⟨nI 0, (), rfl, by rw [hT]; rfl, by show va_P G.1 vwCl _ t9.heap; rw [ht9]; exact b_cg (by rw [hT]) (w.1.sub (ws' := [(M, .inr (6, [.int (nI td), .int (nI nA), .int (nI nJ), .ref yA, .ref yJ, .ref yg, .int (nI dn), .ref yw, .ref yc, .ref yv, .int (nI snt), .int (nI jd), .ref yr, .int (nI bn), .ref yC, .ref yD, .ref yF, .ref yS, .ref yV, .ref yH, .int (nI 2)]))]) [0] rfl)⟩, w.2.1.F ht9⟩) w.2.1.2.2 dX6_find_99
            · have q_57_301 : (tHas 12 f) = true := bI_n0.mp c_57_300
              have h4 := q_57_301
              refine lv_iload hx hb dX6_find_60 (lv_at hl 4 rfl) ?_
              refine lv_iload_n hx hb dX6_find_62 rfl (lv_at hl 3 rfl) ?_
              refine lv_bipush (v := nI 11) hx hb dX6_find_63 (by decide) ?_
              refine b_calli w (va_runS (As := [.int t0, .int f, .int (nI 11)]) (rest := [.ref M]) X (c_X6_isIn l hl0 G _ (x := t0) (lo := f) (hi := nI 11) ) (va_cwS 3 hts gX6_find_X6_isIn rfl rfl rfl (by decide +kernel) ⟨Nat.le_of_ble_eq_true rfl, Nat.le_of_ble_eq_true rfl⟩) ⟨b_blind, (fun U9 hU9 hW9 => ⟨rfl, b_pre E Z w [] (by decide) rfl b_nil U9 hU9 hW9⟩)⟩ rfl rfl hl.1 rfl (lv_room (Nat.le_of_ble_eq_true rfl)) dX6_find_65 ⟨Nat.le_of_ble_eq_true rfl, Nat.le_of_ble_eq_true rfl⟩) b_nil [] (fun _ => rfl) rfl (fun r65_303 u65_303 H locs hr65_303 w => ?_)
              have w : bSt G vwCl [M] s [(M, .inr (6, [.int (nI td), .int (nI nA), .int (nI nJ), .ref yA, .ref yJ, .ref yg, .int (nI dn), .ref yw, .ref yc, .ref yv, .int (nI snt), .int (nI jd), .ref yr, .int (nI bn), .ref yC, .ref yD, .ref yF, .ref yS, .ref yV, .ref yH, .int (nI 0)])), (yA, .inl (G.2.1, 14, .inl fA)), (yJ, .inl (G.2.1, 10, .inl fJ)), (yC, .inl (G.2.1, 300, .inl bc)), (yD, .inl (G.2.1, 300, .inl bd)), (yF, .inl (G.2.1, 300, .inl bf))] _ _ := w
              subst hr65_303
              refine b_tp (show bI (tIn t0 f (nI 11)) = bI (tHas 12 t0 && !decide (t0 < f)) from congrArg bI (tIn_to h4)) ?_
              refine lv_if_eq (tgt := 83) hx hb dX6_find_68 (by decide) (fun c_68_304 => ?_) (fun c_68_304 => ?_)
              · have q_68_305 : (tHas 12 t0 && !decide (t0 < f)) = false := bI_0.mp c_68_304
                have hT : th2 (tPat nA x && tPat nJ y && !decide (pl < 0)) (tHas 12 f && tHas 12 t0 && !decide (t0 < f) && sOk sn) = 2 := by rw [th2, if_pos h3, if_neg]; rw [Bool.and_assoc (tHas 12 f), q_68_305]; simp
                refine lv_iconst (v := nI 2) hx hb dX6_find_83 (by decide) ?_
                refine lv_goto (tgt := 88) hx hb dX6_find_84 (by decide) ?_
                refine b_put (ty := .int) X E w (Or.inl (List.mem_of_getElem? (i := 0) rfl)) 0 rfl rfl 20 (by decide) iX6 tyX6 tyX6_ok nmX6 (by decide +kernel) rfl rfl (by decide +kernel) rfl rfl (Nat.le_of_ble_eq_true rfl) dX6_find_88 (fun H locs w => ?_)
                have w : bSt G vwCl [M] s [(M, .inr (6, [.int (nI td), .int (nI nA), .int (nI nJ), .ref yA, .ref yJ, .ref yg, .int (nI dn), .ref yw, .ref yc, .ref yv, .int (nI snt), .int (nI jd), .ref yr, .int (nI bn), .ref yC, .ref yD, .ref yF, .ref yS, .ref yV, .ref yH, .int (nI 2)])), (yA, .inl (G.2.1, 14, .inl fA)), (yJ, .inl (G.2.1, 10, .inl fJ)), (yC, .inl (G.2.1, 300, .inl bc)), (yD, .inl (G.2.1, 300, .inl bd)), (yF, .inl (G.2.1, 300, .inl bf))] _ _ := w
                refine lv_aload_n hx hb dX6_find_91 rfl (lv_at hl 0 rfl) ?_
                refine b_get X E w 0 rfl rfl 20 (by decide) iX6 (by decide +kernel) rfl rfl dX6_find_92 ?_
                refine lv_if_le (tgt := 100) hx hb dX6_find_95 (by decide) (fun c_95_306 => ?_) (fun c_95_306 => ?_)
                · exact absurd c_95_306 (by decide)
                · refine lv_iconst (v := nI 0) hx hb dX6_find_98 (by decide) ?_
                  exact W.iret (v := nI 0) hx hb hr (fun t9 ht9 hW9 => ⟨⟨nI 0, (), rfl, by rw [hT]; rfl, by show va_P G.1 vwCl _ t9.heap; rw [ht9]; exact b_cg (by rw [hT]) (w.1.sub (ws' := [(M, .inr (6, [.int (nI td), .int (nI nA), .int (nI nJ), .ref yA, .ref yJ, .ref yg, .int (nI dn), .ref yw, .ref yc, .ref yv, .int (nI snt), .int (nI jd), .ref yr, .int (nI bn), .ref yC, .ref yD, .ref yF, .ref yS, .ref yV, .ref yH, .int (nI 2)]))]) [0] rfl)⟩, w.2.1.F ht9⟩) w.2.1.2.2 dX6_find_99
              · have q_68_305 : (tHas 12 t0 && !decide (t0 < f)) = true := bI_n0.mp c_68_304
                have h5 := q_68_305
                refine lv_iload hx hb dX6_find_71 (lv_at hl 5 rfl) ?_
                refine lv_iconst (v := nI 0) hx hb dX6_find_73 (by decide) ?_
                refine lv_sipush (v := nI 1000) hx hb dX6_find_74 (by decide) ?_
                refine b_calli w (va_runS (As := [.int sn, .int (nI 0), .int (nI 1000)]) (rest := [.ref M]) X (c_X6_isIn l hl0 G _ (x := sn) (lo := nI 0) (hi := nI 1000) ) (va_cwS 3 hts gX6_find_X6_isIn rfl rfl rfl (by decide +kernel) ⟨Nat.le_of_ble_eq_true rfl, Nat.le_of_ble_eq_true rfl⟩) ⟨b_blind, (fun U9 hU9 hW9 => ⟨rfl, b_pre E Z w [] (by decide) rfl b_nil U9 hU9 hW9⟩)⟩ rfl rfl hl.1 rfl (lv_room (Nat.le_of_ble_eq_true rfl)) dX6_find_77 ⟨Nat.le_of_ble_eq_true rfl, Nat.le_of_ble_eq_true rfl⟩) b_nil [] (fun _ => rfl) rfl (fun r77_307 u77_307 H locs hr77_307 w => ?_)
                have w : bSt G vwCl [M] s [(M, .inr (6, [.int (nI td), .int (nI nA), .int (nI nJ), .ref yA, .ref yJ, .ref yg, .int (nI dn), .ref yw, .ref yc, .ref yv, .int (nI snt), .int (nI jd), .ref yr, .int (nI bn), .ref yC, .ref yD, .ref yF, .ref yS, .ref yV, .ref yH, .int (nI 0)])), (yA, .inl (G.2.1, 14, .inl fA)), (yJ, .inl (G.2.1, 10, .inl fJ)), (yC, .inl (G.2.1, 300, .inl bc)), (yD, .inl (G.2.1, 300, .inl bd)), (yF, .inl (G.2.1, 300, .inl bf))] _ _ := w
                subst hr77_307
                refine b_tp (show bI (tIn sn (nI 0) (nI 1000)) = bI (sOk sn) from congrArg bI tIn_s) ?_
                refine lv_if_ne (tgt := 87) hx hb dX6_find_80 (by decide) (fun c_80_308 => ?_) (fun c_80_308 => ?_)
                · have q_80_309 : (sOk sn) = true := bI_n0.mp c_80_308
                  have hT : th2 (tPat nA x && tPat nJ y && !decide (pl < 0)) (tHas 12 f && tHas 12 t0 && !decide (t0 < f) && sOk sn) = 0 := by rw [th2, if_pos h3, if_pos]; rw [Bool.and_assoc (tHas 12 f), h4, h5, q_80_309]; rfl
                  have h5a : tHas 12 t0 = true ∧ ¬ t0 < f := by simpa using h5
                  obtain ⟨f0, hf0, rfl⟩ := (tHas_iff (by decide)).mp h4
                  obtain ⟨t1, ht1, rfl⟩ := (tHas_iff (by decide)).mp h5a.1
                  obtain ⟨pl0, hpl0, rfl⟩ := nI_of c29
                  have hft := q_nlt (by omega) (by omega) h5a.2
                  have ef : cl (nI f0) = f0 := cl_nI (by omega)
                  have et : cl (nI t1) = t1 := cl_nI (by omega)
                  have epl : cl (nI pl0) = pl0 := cl_nI hpl0
                  refine lv_iconst (v := nI 0) hx hb dX6_find_87 (by decide) ?_
                  refine b_put (ty := .int) X E w (Or.inl (List.mem_of_getElem? (i := 0) rfl)) 0 rfl rfl 20 (by decide) iX6 tyX6 tyX6_ok nmX6 (by decide +kernel) rfl rfl (by decide +kernel) rfl rfl (Nat.le_of_ble_eq_true rfl) dX6_find_88 (fun H locs w => ?_)
                  have w : bSt G vwCl [M] s [(M, .inr (6, [.int (nI td), .int (nI nA), .int (nI nJ), .ref yA, .ref yJ, .ref yg, .int (nI dn), .ref yw, .ref yc, .ref yv, .int (nI snt), .int (nI jd), .ref yr, .int (nI bn), .ref yC, .ref yD, .ref yF, .ref yS, .ref yV, .ref yH, .int (nI 0)])), (yA, .inl (G.2.1, 14, .inl fA)), (yJ, .inl (G.2.1, 10, .inl fJ)), (yC, .inl (G.2.1, 300, .inl bc)), (yD, .inl (G.2.1, 300, .inl bd)), (yF, .inl (G.2.1, 300, .inl bf))] _ _ := w
                  refine lv_aload_n hx hb dX6_find_91 rfl (lv_at hl 0 rfl) ?_
                  refine b_get X E w 0 rfl rfl 20 (by decide) iX6 (by decide +kernel) rfl rfl dX6_find_92 ?_
                  refine lv_if_le (tgt := 100) hx hb dX6_find_95 (by decide) (fun c_95_310 => ?_) (fun c_95_310 => ?_)
                  · refine lv_iload hx hb dX6_find_100 (lv_at hl 6 rfl) ?_
                    refine lv_istore (lv' := [(7, .int (nI pl0)), (0, .ref M), (1, .int x), (2, .int y), (3, .int (nI f0)), (4, .int (nI t1)), (5, .int sn), (6, .int (nI pl0))]) hx hb dX6_find_102 hl (by decide) rfl (fun ls hl => ?_)
                    refine lv_iload_n hx hb dX6_find_104 rfl (lv_at hl 4 rfl) ?_
                    refine lv_istore (lv' := [(8, .int (nI f0)), (7, .int (nI pl0)), (0, .ref M), (1, .int x), (2, .int y), (3, .int (nI f0)), (4, .int (nI t1)), (5, .int sn), (6, .int (nI pl0))]) hx hb dX6_find_105 hl (by decide) rfl (fun ls hl => ?_)
                    refine b_loop (pc := 107) (st := []) (fun (fuel : Nat) (H : Heap) (locs : List Loc) (ls : Array Slot) => ∃ (q : Nat) (l1 : Nat), (q ≤ t1 + 1) ∧ (t1 + 2 ≤ q + fuel) ∧ (l1 ≤ pl0) ∧ (srT (mMm fA nA fJ nJ bc bd bf bn td x y sn) nA nJ f0 t1 pl0 = srA (fun q l => srA (fun a l => srI (mMm fA nA fJ nJ bc bd bf bn td x y sn q a) (codeN q a) nJ nJ l) nA nA l) (t1 + 1) (t1 + 1 - q) l1) ∧ bSt G vwCl [M] s [(M, .inr (6, [.int (nI td), .int (nI nA), .int (nI nJ), .ref yA, .ref yJ, .ref yg, .int (nI dn), .ref yw, .ref yc, .ref yv, .int (nI snt), .int (nI jd), .ref yr, .int (nI bn), .ref yC, .ref yD, .ref yF, .ref yS, .ref yV, .ref yH, .int (nI 0)])), (yA, .inl (G.2.1, 14, .inl fA)), (yJ, .inl (G.2.1, 10, .inl fJ)), (yC, .inl (G.2.1, 300, .inl bc)), (yD, .inl (G.2.1, 300, .inl bd)), (yF, .inl (G.2.1, 300, .inl bf))] H locs ∧ lv_has ls 13 [(0, .ref M), (1, .int x), (2, .int y), (4, .int (nI t1)), (5, .int sn), (7, .int (nI l1)), (8, .int (nI q))]) (fun H locs ls h9 => ?_) (fun fuel H locs ls hI ih107 => ?_) (t1 + 2) ⟨f0, pl0, (by omega), (by omega), Nat.le_refl _, rfl, w, lv_sub hl [2, 3, 4, 6, 7, 1, 0] rfl⟩
                    · obtain ⟨q, l1, hpp, hfp, hl1, hP1, w, hl⟩ := h9
                      omega
                    · obtain ⟨q, l1, hpp, hfp, hl1, hP1, w, hl⟩ := hI
                      refine lv_iload hx hb dX6_find_107 (lv_at hl 6 rfl) ?_
                      refine lv_iload hx hb dX6_find_109 (lv_at hl 3 rfl) ?_
                      refine lv_icmp_gt (tgt := 263) hx hb dX6_find_111 (by decide) (fun c_111_311 => ?_) (fun c_111_311 => ?_)
                      · have q_111_312 : t1 < q := q_lt (by omega) (by omega) c_111_311
                        have ep1 : q = t1 + 1 := by omega
                        refine lv_iconst (v := -1) hx hb dX6_find_263 (by decide) ?_
                        exact W.iret (v := -1) hx hb hr (fun t9 ht9 hW9 => ⟨⟨-1, (), rfl, by rw [hT, ef, et, epl]; exact (congrArg srR (hP1.trans (srA_end ep1))).symm, by show va_P G.1 vwCl _ t9.heap; rw [ht9]; exact b_cg (by rw [hT]) (w.1.sub (ws' := [(M, .inr (6, [.int (nI td), .int (nI nA), .int (nI nJ), .ref yA, .ref yJ, .ref yg, .int (nI dn), .ref yw, .ref yc, .ref yv, .int (nI snt), .int (nI jd), .ref yr, .int (nI bn), .ref yC, .ref yD, .ref yF, .ref yS, .ref yV, .ref yH, .int (nI 0)]))]) [0] rfl)⟩, w.2.1.F ht9⟩) w.2.1.2.2 dX6_find_264
                      · have q_111_312 : q ≤ t1 := q_nlt (by omega) (by omega) c_111_311
                        have hp1 := q_111_312
                        refine lv_iconst (v := nI 0) hx hb dX6_find_114 (by decide) ?_
                        refine lv_istore (lv' := [(9, .int (nI 0)), (0, .ref M), (1, .int x), (2, .int y), (4, .int (nI t1)), (5, .int sn), (7, .int (nI l1)), (8, .int (nI q))]) hx hb dX6_find_115 hl (by decide) rfl (fun ls hl => ?_)
                        refine b_loop (pc := 117) (st := []) (fun (fuel : Nat) (H : Heap) (locs : List Loc) (ls : Array Slot) => ∃ (a : Nat) (l2 : Nat), (a ≤ nA) ∧ (nA + 1 ≤ a + fuel) ∧ (l2 ≤ pl0) ∧ (srA (fun a l => srI (mMm fA nA fJ nJ bc bd bf bn td x y sn q a) (codeN q a) nJ nJ l) nA nA l1 = srA (fun a l => srI (mMm fA nA fJ nJ bc bd bf bn td x y sn q a) (codeN q a) nJ nJ l) nA (nA - a) l2) ∧ bSt G vwCl [M] s [(M, .inr (6, [.int (nI td), .int (nI nA), .int (nI nJ), .ref yA, .ref yJ, .ref yg, .int (nI dn), .ref yw, .ref yc, .ref yv, .int (nI snt), .int (nI jd), .ref yr, .int (nI bn), .ref yC, .ref yD, .ref yF, .ref yS, .ref yV, .ref yH, .int (nI 0)])), (yA, .inl (G.2.1, 14, .inl fA)), (yJ, .inl (G.2.1, 10, .inl fJ)), (yC, .inl (G.2.1, 300, .inl bc)), (yD, .inl (G.2.1, 300, .inl bd)), (yF, .inl (G.2.1, 300, .inl bf))] H locs ∧ lv_has ls 13 [(0, .ref M), (1, .int x), (2, .int y), (4, .int (nI t1)), (5, .int sn), (7, .int (nI l2)), (8, .int (nI q)), (9, .int (nI a))]) (fun H locs ls h9 => ?_) (fun fuel H locs ls hI ih117 => ?_) (nA + 1) ⟨0, l1, (by omega), (by omega), hl1, rfl, w, lv_sub hl [1, 2, 3, 4, 5, 6, 7, 0] rfl⟩
                        · obtain ⟨a, l2, ha, hfa, hl2, hA1, w, hl⟩ := h9
                          omega
                        · obtain ⟨a, l2, ha, hfa, hl2, hA1, w, hl⟩ := hI
                          refine lv_iload hx hb dX6_find_117 (lv_at hl 7 rfl) ?_
                          refine lv_aload_n hx hb dX6_find_119 rfl (lv_at hl 0 rfl) ?_
                          refine b_get X E w 0 rfl rfl 1 (by decide) iX6 (by decide +kernel) rfl rfl dX6_find_120 ?_
                          refine lv_icmp_ge (tgt := 257) hx hb dX6_find_123 (by decide) (fun c_123_313 => ?_) (fun c_123_313 => ?_)
                          · have q_123_314 : nA ≤ a := q_le (by omega) (by omega) c_123_313
                            have ea : a = nA := by omega
                            refine lv_iinc (v := nI (q + 1)) (lv' := [(8, .int (nI (q + 1))), (0, .ref M), (1, .int x), (2, .int y), (4, .int (nI t1)), (5, .int sn), (7, .int (nI l2)), (9, .int (nI a))]) hx hb dX6_find_257 hl (k := 6) rfl (nI_add q 1) (by decide) rfl (fun ls hl => ?_)
                            refine lv_goto (tgt := 107) hx hb dX6_find_260 (by decide) ?_
                            exact ih107 _ _ _ ⟨q + 1, l2, (by omega), (by omega), (by omega), hP1.trans (srA_l (by omega) (hA1.trans (srA_end ea))), w, lv_sub hl [1, 2, 3, 4, 5, 6, 0] rfl⟩
                          · have q_123_314 : a < nA := q_nle (by omega) (by omega) c_123_313
                            have ha1 := q_123_314
                            refine lv_iconst (v := nI 0) hx hb dX6_find_126 (by decide) ?_
                            refine lv_istore (lv' := [(10, .int (nI 0)), (0, .ref M), (1, .int x), (2, .int y), (4, .int (nI t1)), (5, .int sn), (7, .int (nI l2)), (8, .int (nI q)), (9, .int (nI a))]) hx hb dX6_find_127 hl (by decide) rfl (fun ls hl => ?_)
                            refine b_loop (pc := 129) (st := []) (fun (fuel : Nat) (H : Heap) (locs : List Loc) (ls : Array Slot) => ∃ (i : Nat) (l3 : Nat), (i ≤ nJ) ∧ (nJ + 1 ≤ i + fuel) ∧ (l3 ≤ pl0) ∧ (srI (mMm fA nA fJ nJ bc bd bf bn td x y sn q a) (codeN q a) nJ nJ l2 = srI (mMm fA nA fJ nJ bc bd bf bn td x y sn q a) (codeN q a) nJ (nJ - i) l3) ∧ bSt G vwCl [M] s [(M, .inr (6, [.int (nI td), .int (nI nA), .int (nI nJ), .ref yA, .ref yJ, .ref yg, .int (nI dn), .ref yw, .ref yc, .ref yv, .int (nI snt), .int (nI jd), .ref yr, .int (nI bn), .ref yC, .ref yD, .ref yF, .ref yS, .ref yV, .ref yH, .int (nI 0)])), (yA, .inl (G.2.1, 14, .inl fA)), (yJ, .inl (G.2.1, 10, .inl fJ)), (yC, .inl (G.2.1, 300, .inl bc)), (yD, .inl (G.2.1, 300, .inl bd)), (yF, .inl (G.2.1, 300, .inl bf))] H locs ∧ lv_has ls 13 [(0, .ref M), (1, .int x), (2, .int y), (4, .int (nI t1)), (5, .int sn), (7, .int (nI l3)), (8, .int (nI q)), (9, .int (nI a)), (10, .int (nI i))]) (fun H locs ls h9 => ?_) (fun fuel H locs ls hI ih129 => ?_) (nJ + 1) ⟨0, l2, (by omega), (by omega), hl2, rfl, w, lv_sub hl [1, 2, 3, 4, 5, 6, 7, 8, 0] rfl⟩
                            · obtain ⟨i, l3, hi, hfi, hl3, hI1, w, hl⟩ := h9
                              omega
                            · obtain ⟨i, l3, hi, hfi, hl3, hI1, w, hl⟩ := hI
                              refine lv_iload hx hb dX6_find_129 (lv_at hl 8 rfl) ?_
                              refine lv_aload_n hx hb dX6_find_131 rfl (lv_at hl 0 rfl) ?_
                              refine b_get X E w 0 rfl rfl 2 (by decide) iX6 (by decide +kernel) rfl rfl dX6_find_132 ?_
                              refine lv_icmp_ge (tgt := 251) hx hb dX6_find_135 (by decide) (fun c_135_315 => ?_) (fun c_135_315 => ?_)
                              · have q_135_316 : nJ ≤ i := q_le (by omega) (by omega) c_135_315
                                have ei : i = nJ := by omega
                                refine lv_iinc (v := nI (a + 1)) (lv' := [(9, .int (nI (a + 1))), (0, .ref M), (1, .int x), (2, .int y), (4, .int (nI t1)), (5, .int sn), (7, .int (nI l3)), (8, .int (nI q)), (10, .int (nI i))]) hx hb dX6_find_251 hl (k := 7) rfl (nI_add a 1) (by decide) rfl (fun ls hl => ?_)
                                refine lv_goto (tgt := 117) hx hb dX6_find_254 (by decide) ?_
                                exact ih117 _ _ _ ⟨a + 1, l3, (by omega), (by omega), (by omega), hA1.trans (srA_l (by omega) (hI1.trans (srI_end ei))), w, lv_sub hl [1, 2, 3, 4, 5, 6, 7, 0] rfl⟩
                              · have q_135_316 : i < nJ := q_nle (by omega) (by omega) c_135_315
                                have hi1 := q_135_316
                                refine lv_iload hx hb dX6_find_138 (lv_at hl 7 rfl) ?_
                                refine lv_iload hx hb dX6_find_140 (lv_at hl 8 rfl) ?_
                                refine lv_iload hx hb dX6_find_142 (lv_at hl 6 rfl) ?_
                                refine b_calli w (va_runS (As := [.int (nI a), .int (nI i), .int (nI q)]) (rest := []) X (c_X6_cellOf l hl0 G _ (a := a) (i := i) (p0 := q) ) (va_cwS 3 hts gX6_find_X6_cellOf rfl rfl rfl (by decide +kernel) ⟨Nat.le_of_ble_eq_true rfl, Nat.le_of_ble_eq_true rfl⟩) ⟨b_blind, (fun U9 hU9 hW9 => ⟨rfl, b_pre E Z w [] (by decide) rfl b_nil U9 hU9 hW9⟩)⟩ rfl rfl hl.1 rfl (lv_room (Nat.le_of_ble_eq_true rfl)) dX6_find_144 ⟨Nat.le_of_ble_eq_true rfl, Nat.le_of_ble_eq_true rfl⟩) b_nil [] (fun _ => rfl) rfl (fun r144_317 u144_317 H locs hr144_317 w => ?_)
                                have w : bSt G vwCl [M] s [(M, .inr (6, [.int (nI td), .int (nI nA), .int (nI nJ), .ref yA, .ref yJ, .ref yg, .int (nI dn), .ref yw, .ref yc, .ref yv, .int (nI snt), .int (nI jd), .ref yr, .int (nI bn), .ref yC, .ref yD, .ref yF, .ref yS, .ref yV, .ref yH, .int (nI 0)])), (yA, .inl (G.2.1, 14, .inl fA)), (yJ, .inl (G.2.1, 10, .inl fJ)), (yC, .inl (G.2.1, 300, .inl bc)), (yD, .inl (G.2.1, 300, .inl bd)), (yF, .inl (G.2.1, 300, .inl bf))] _ _ := w
                                subst hr144_317
                                refine lv_istore (lv' := [(11, .int (nI (140 * q + (10 * a + i)))), (0, .ref M), (1, .int x), (2, .int y), (4, .int (nI t1)), (5, .int sn), (7, .int (nI l3)), (8, .int (nI q)), (9, .int (nI a)), (10, .int (nI i))]) hx hb dX6_find_147 hl (by decide) rfl (fun ls hl => ?_)
                                refine lv_aload_n hx hb dX6_find_149 rfl (lv_at hl 1 rfl) ?_
                                refine lv_iload hx hb dX6_find_150 (lv_at hl 8 rfl) ?_
                                refine lv_iload_n hx hb dX6_find_152 rfl (lv_at hl 2 rfl) ?_
                                refine lv_iconst (v := nI 0) hx hb dX6_find_153 (by decide) ?_
                                refine b_calli w (va_runV (As := [.int (nI a), .int x, .int (nI 0)]) (rest := []) X (c_X6_isWithin_A l hl0 G _ (M := M) (k := a) (x := x) (td := td) (nA := nA) (nJ := nJ) (yA := yA) (yJ := yJ) (yg := yg) (dn := dn) (yw := yw) (yc := yc) (yv := yv) (snt := snt) (jd := jd) (yr := yr) (bn := bn) (yC := yC) (yD := yD) (yF := yF) (yS := yS) (yV := yV) (yH := yH) (th := nI 0) (fA := fA) (hnA := (by first | assumption | omega)) (hTA := (by first | assumption | omega)) (hk := (by first | assumption | omega))) (cwV 3 hts gX6_find_X6_isWithin rfl rfl rfl (by decide +kernel) ⟨Nat.le_of_ble_eq_true rfl, Nat.le_of_ble_eq_true rfl⟩) ⟨b_blind, b_recv E w (ci := 6) (q0 := 0) rfl rfl, (fun U9 hU9 hW9 => ⟨rfl, b_pre E Z w [0, 1] (by decide) rfl b_nil U9 hU9 hW9⟩)⟩ rfl rfl hl.1 rfl (lv_room (Nat.le_of_ble_eq_true rfl)) dX6_find_154 ⟨Nat.le_of_ble_eq_true rfl, Nat.le_of_ble_eq_true rfl⟩) b_nil [] (fun _ => rfl) rfl (fun r154_318 u154_318 H locs hr154_318 w => ?_)
                                have w : bSt G vwCl [M] s [(M, .inr (6, [.int (nI td), .int (nI nA), .int (nI nJ), .ref yA, .ref yJ, .ref yg, .int (nI dn), .ref yw, .ref yc, .ref yv, .int (nI snt), .int (nI jd), .ref yr, .int (nI bn), .ref yC, .ref yD, .ref yF, .ref yS, .ref yV, .ref yH, .int (nI 0)])), (yA, .inl (G.2.1, 14, .inl fA)), (yJ, .inl (G.2.1, 10, .inl fJ)), (yC, .inl (G.2.1, 300, .inl bc)), (yD, .inl (G.2.1, 300, .inl bd)), (yF, .inl (G.2.1, 300, .inl bf))] _ _ := w
                                subst hr154_318
                                refine lv_if_eq (tgt := 201) hx hb dX6_find_157 (by decide) (fun c_157_319 => ?_) (fun c_157_319 => ?_)
                                · have q_157_320 : (decide (x = -1) || wkB fA (fun j => decide (nI j = x)) nA (nI a)) = false := bI_0.mp c_157_319
                                  have hM : mMm fA nA fJ nJ bc bd bf bn td x y sn q a i = false := by simp [mMm, q_157_320]
                                  refine lv_iconst (v := nI 0) hx hb dX6_find_201 (by decide) ?_
                                  refine lv_istore (lv' := [(12, .int (nI 0)), (11, .int (nI (140 * q + (10 * a + i)))), (0, .ref M), (1, .int x), (2, .int y), (4, .int (nI t1)), (5, .int sn), (7, .int (nI l3)), (8, .int (nI q)), (9, .int (nI a)), (10, .int (nI i))]) hx hb dX6_find_202 hl (by decide) rfl (fun ls hl => ?_)
                                  refine lv_iload hx hb dX6_find_204 (lv_at hl 0 rfl) ?_
                                  refine lv_if_eq (tgt := 230) hx hb dX6_find_206 (by decide) (fun c_206_321 => ?_) (fun c_206_321 => ?_)
                                  · have hgn := srI_no (code := codeN q a) (l := l3) (show i < nJ by omega) hM
                                    refine lv_iload hx hb dX6_find_230 (lv_at hl 7 rfl) ?_
                                    refine lv_iload hx hb dX6_find_232 (lv_at hl 0 rfl) ?_
                                    refine lv_if_eq (tgt := 241) hx hb dX6_find_234 (by decide) (fun c_234_322 => ?_) (fun c_234_322 => ?_)
                                    · refine lv_iconst (v := nI 0) hx hb dX6_find_241 (by decide) ?_
                                      refine lv_isub hx hb dX6_find_242 ?_
                                      refine b_tp (show (nI l3) - (nI 0) = nI l3 from pk_sub (b := 0) (Nat.zero_le _)) ?_
                                      refine lv_istore (lv' := [(7, .int (nI l3)), (12, .int (nI 0)), (11, .int (nI (140 * q + (10 * a + i)))), (0, .ref M), (1, .int x), (2, .int y), (4, .int (nI t1)), (5, .int sn), (8, .int (nI q)), (9, .int (nI a)), (10, .int (nI i))]) hx hb dX6_find_243 hl (by decide) rfl (fun ls hl => ?_)
                                      refine lv_iinc (v := nI (i + 1)) (lv' := [(10, .int (nI (i + 1))), (7, .int (nI l3)), (12, .int (nI 0)), (11, .int (nI (140 * q + (10 * a + i)))), (0, .ref M), (1, .int x), (2, .int y), (4, .int (nI t1)), (5, .int sn), (8, .int (nI q)), (9, .int (nI a))]) hx hb dX6_find_245 hl (k := 10) rfl (nI_add i 1) (by decide) rfl (fun ls hl => ?_)
                                      refine lv_goto (tgt := 129) hx hb dX6_find_248 (by decide) ?_
                                      exact ih129 _ _ _ ⟨i + 1, l3, (by omega), (by omega), (by omega), hI1.trans hgn, w, lv_sub hl [4, 5, 6, 7, 8, 1, 9, 10, 0] rfl⟩
                                    · exact absurd (by decide) c_234_322
                                  · exact absurd (by decide) c_206_321
                                · have q_157_320 : (decide (x = -1) || wkB fA (fun j => decide (nI j = x)) nA (nI a)) = true := bI_n0.mp c_157_319
                                  have m1 := q_157_320
                                  refine lv_aload_n hx hb dX6_find_160 rfl (lv_at hl 1 rfl) ?_
                                  refine lv_iload hx hb dX6_find_161 (lv_at hl 9 rfl) ?_
                                  refine lv_iload_n hx hb dX6_find_163 rfl (lv_at hl 3 rfl) ?_
                                  refine lv_iconst (v := nI 1) hx hb dX6_find_164 (by decide) ?_
                                  refine b_calli w (va_runV (As := [.int (nI i), .int y, .int (nI 1)]) (rest := []) X (c_X6_isWithin_J l hl0 G _ (M := M) (k := i) (x := y) (td := td) (nA := nA) (nJ := nJ) (yA := yA) (yJ := yJ) (yg := yg) (dn := dn) (yw := yw) (yc := yc) (yv := yv) (snt := snt) (jd := jd) (yr := yr) (bn := bn) (yC := yC) (yD := yD) (yF := yF) (yS := yS) (yV := yV) (yH := yH) (th := nI 0) (fJ := fJ) (hnJ := (by first | assumption | omega)) (hTJ := (by first | assumption | omega)) (hk := (by first | assumption | omega))) (cwV 3 hts gX6_find_X6_isWithin rfl rfl rfl (by decide +kernel) ⟨Nat.le_of_ble_eq_true rfl, Nat.le_of_ble_eq_true rfl⟩) ⟨b_blind, b_recv E w (ci := 6) (q0 := 0) rfl rfl, (fun U9 hU9 hW9 => ⟨rfl, b_pre E Z w [0, 2] (by decide) rfl b_nil U9 hU9 hW9⟩)⟩ rfl rfl hl.1 rfl (lv_room (Nat.le_of_ble_eq_true rfl)) dX6_find_165 ⟨Nat.le_of_ble_eq_true rfl, Nat.le_of_ble_eq_true rfl⟩) b_nil [] (fun _ => rfl) rfl (fun r165_323 u165_323 H locs hr165_323 w => ?_)
                                  have w : bSt G vwCl [M] s [(M, .inr (6, [.int (nI td), .int (nI nA), .int (nI nJ), .ref yA, .ref yJ, .ref yg, .int (nI dn), .ref yw, .ref yc, .ref yv, .int (nI snt), .int (nI jd), .ref yr, .int (nI bn), .ref yC, .ref yD, .ref yF, .ref yS, .ref yV, .ref yH, .int (nI 0)])), (yA, .inl (G.2.1, 14, .inl fA)), (yJ, .inl (G.2.1, 10, .inl fJ)), (yC, .inl (G.2.1, 300, .inl bc)), (yD, .inl (G.2.1, 300, .inl bd)), (yF, .inl (G.2.1, 300, .inl bf))] _ _ := w
                                  subst hr165_323
                                  refine lv_if_eq (tgt := 201) hx hb dX6_find_168 (by decide) (fun c_168_324 => ?_) (fun c_168_324 => ?_)
                                  · have q_168_325 : (decide (y = -1) || wkB fJ (fun j => decide (nI j = y)) nJ (nI i)) = false := bI_0.mp c_168_324
                                    have hM : mMm fA nA fJ nJ bc bd bf bn td x y sn q a i = false := by simp [mMm, q_168_325]
                                    refine lv_iconst (v := nI 0) hx hb dX6_find_201 (by decide) ?_
                                    refine lv_istore (lv' := [(12, .int (nI 0)), (11, .int (nI (140 * q + (10 * a + i)))), (0, .ref M), (1, .int x), (2, .int y), (4, .int (nI t1)), (5, .int sn), (7, .int (nI l3)), (8, .int (nI q)), (9, .int (nI a)), (10, .int (nI i))]) hx hb dX6_find_202 hl (by decide) rfl (fun ls hl => ?_)
                                    refine lv_iload hx hb dX6_find_204 (lv_at hl 0 rfl) ?_
                                    refine lv_if_eq (tgt := 230) hx hb dX6_find_206 (by decide) (fun c_206_326 => ?_) (fun c_206_326 => ?_)
                                    · have hgn := srI_no (code := codeN q a) (l := l3) (show i < nJ by omega) hM
                                      refine lv_iload hx hb dX6_find_230 (lv_at hl 7 rfl) ?_
                                      refine lv_iload hx hb dX6_find_232 (lv_at hl 0 rfl) ?_
                                      refine lv_if_eq (tgt := 241) hx hb dX6_find_234 (by decide) (fun c_234_327 => ?_) (fun c_234_327 => ?_)
                                      · refine lv_iconst (v := nI 0) hx hb dX6_find_241 (by decide) ?_
                                        refine lv_isub hx hb dX6_find_242 ?_
                                        refine b_tp (show (nI l3) - (nI 0) = nI l3 from pk_sub (b := 0) (Nat.zero_le _)) ?_
                                        refine lv_istore (lv' := [(7, .int (nI l3)), (12, .int (nI 0)), (11, .int (nI (140 * q + (10 * a + i)))), (0, .ref M), (1, .int x), (2, .int y), (4, .int (nI t1)), (5, .int sn), (8, .int (nI q)), (9, .int (nI a)), (10, .int (nI i))]) hx hb dX6_find_243 hl (by decide) rfl (fun ls hl => ?_)
                                        refine lv_iinc (v := nI (i + 1)) (lv' := [(10, .int (nI (i + 1))), (7, .int (nI l3)), (12, .int (nI 0)), (11, .int (nI (140 * q + (10 * a + i)))), (0, .ref M), (1, .int x), (2, .int y), (4, .int (nI t1)), (5, .int sn), (8, .int (nI q)), (9, .int (nI a))]) hx hb dX6_find_245 hl (k := 10) rfl (nI_add i 1) (by decide) rfl (fun ls hl => ?_)
                                        refine lv_goto (tgt := 129) hx hb dX6_find_248 (by decide) ?_
                                        exact ih129 _ _ _ ⟨i + 1, l3, (by omega), (by omega), (by omega), hI1.trans hgn, w, lv_sub hl [4, 5, 6, 7, 8, 1, 9, 10, 0] rfl⟩
                                      · exact absurd (by decide) c_234_327
                                    · exact absurd (by decide) c_206_326
                                  · have q_168_325 : (decide (y = -1) || wkB fJ (fun j => decide (nI j = y)) nJ (nI i)) = true := bI_n0.mp c_168_324
                                    have m2 := q_168_325
                                    refine lv_aload_n hx hb dX6_find_171 rfl (lv_at hl 1 rfl) ?_
                                    refine lv_iload hx hb dX6_find_172 (lv_at hl 0 rfl) ?_
                                    refine lv_aload_n hx hb dX6_find_174 rfl (lv_at hl 1 rfl) ?_
                                    refine b_get X E w 0 rfl rfl 0 (by decide) iX6 (by decide +kernel) rfl rfl dX6_find_175 ?_
                                    refine b_calli w (va_runV (As := [.int (nI (140 * q + (10 * a + i))), .int (nI td)]) (rest := []) X (c_X6_figureOn l hl0 G _ (M := M) (x := nI (140 * q + (10 * a + i))) (d := nI td) (td := td) (nA := nA) (nJ := nJ) (yA := yA) (yJ := yJ) (yg := yg) (dn := dn) (yw := yw) (yc := yc) (yv := yv) (snt := snt) (jd := jd) (yr := yr) (bn := bn) (yC := yC) (yD := yD) (yF := yF) (yS := yS) (yV := yV) (yH := yH) (th := nI 0) (bc := bc) (bd := bd) (bf := bf) (hbn := (by first | assumption | omega))) (cwV 2 hts gX6_find_X6_figureOn rfl rfl rfl (by decide +kernel) ⟨Nat.le_of_ble_eq_true rfl, Nat.le_of_ble_eq_true rfl⟩) ⟨b_blind, b_recv E w (ci := 6) (q0 := 0) rfl rfl, (fun U9 hU9 hW9 => ⟨rfl, b_pre E Z w [0, 3, 4, 5] (by decide) rfl b_nil U9 hU9 hW9⟩)⟩ rfl rfl hl.1 rfl (lv_room (Nat.le_of_ble_eq_true rfl)) dX6_find_178 ⟨Nat.le_of_ble_eq_true rfl, Nat.le_of_ble_eq_true rfl⟩) b_nil [] (fun _ => rfl) rfl (fun r178_328 u178_328 H locs hr178_328 w => ?_)
                                    have w : bSt G vwCl [M] s [(M, .inr (6, [.int (nI td), .int (nI nA), .int (nI nJ), .ref yA, .ref yJ, .ref yg, .int (nI dn), .ref yw, .ref yc, .ref yv, .int (nI snt), .int (nI jd), .ref yr, .int (nI bn), .ref yC, .ref yD, .ref yF, .ref yS, .ref yV, .ref yH, .int (nI 0)])), (yA, .inl (G.2.1, 14, .inl fA)), (yJ, .inl (G.2.1, 10, .inl fJ)), (yC, .inl (G.2.1, 300, .inl bc)), (yD, .inl (G.2.1, 300, .inl bd)), (yF, .inl (G.2.1, 300, .inl bf))] _ _ := w
                                    subst hr178_328
                                    refine lv_ldc (v := MIS) hx hb hown (hts (.constant RX6 86 (-2000000001)) (by decide +kernel)) dX6_find_181 ?_
                                    refine lv_icmp_eq (tgt := 201) hx hb dX6_find_183 (by decide) (fun c_183_329 => ?_) (fun c_183_329 => ?_)
                                    · have hM : mMm fA nA fJ nJ bc bd bf bn td x y sn q a i = false := by simp [mMm, c_183_329]
                                      refine lv_iconst (v := nI 0) hx hb dX6_find_201 (by decide) ?_
                                      refine lv_istore (lv' := [(12, .int (nI 0)), (11, .int (nI (140 * q + (10 * a + i)))), (0, .ref M), (1, .int x), (2, .int y), (4, .int (nI t1)), (5, .int sn), (7, .int (nI l3)), (8, .int (nI q)), (9, .int (nI a)), (10, .int (nI i))]) hx hb dX6_find_202 hl (by decide) rfl (fun ls hl => ?_)
                                      refine lv_iload hx hb dX6_find_204 (lv_at hl 0 rfl) ?_
                                      refine lv_if_eq (tgt := 230) hx hb dX6_find_206 (by decide) (fun c_206_330 => ?_) (fun c_206_330 => ?_)
                                      · have hgn := srI_no (code := codeN q a) (l := l3) (show i < nJ by omega) hM
                                        refine lv_iload hx hb dX6_find_230 (lv_at hl 7 rfl) ?_
                                        refine lv_iload hx hb dX6_find_232 (lv_at hl 0 rfl) ?_
                                        refine lv_if_eq (tgt := 241) hx hb dX6_find_234 (by decide) (fun c_234_331 => ?_) (fun c_234_331 => ?_)
                                        · refine lv_iconst (v := nI 0) hx hb dX6_find_241 (by decide) ?_
                                          refine lv_isub hx hb dX6_find_242 ?_
                                          refine b_tp (show (nI l3) - (nI 0) = nI l3 from pk_sub (b := 0) (Nat.zero_le _)) ?_
                                          refine lv_istore (lv' := [(7, .int (nI l3)), (12, .int (nI 0)), (11, .int (nI (140 * q + (10 * a + i)))), (0, .ref M), (1, .int x), (2, .int y), (4, .int (nI t1)), (5, .int sn), (8, .int (nI q)), (9, .int (nI a)), (10, .int (nI i))]) hx hb dX6_find_243 hl (by decide) rfl (fun ls hl => ?_)
                                          refine lv_iinc (v := nI (i + 1)) (lv' := [(10, .int (nI (i + 1))), (7, .int (nI l3)), (12, .int (nI 0)), (11, .int (nI (140 * q + (10 * a + i)))), (0, .ref M), (1, .int x), (2, .int y), (4, .int (nI t1)), (5, .int sn), (8, .int (nI q)), (9, .int (nI a))]) hx hb dX6_find_245 hl (k := 10) rfl (nI_add i 1) (by decide) rfl (fun ls hl => ?_)
                                          refine lv_goto (tgt := 129) hx hb dX6_find_248 (by decide) ?_
                                          exact ih129 _ _ _ ⟨i + 1, l3, (by omega), (by omega), (by omega), hI1.trans hgn, w, lv_sub hl [4, 5, 6, 7, 8, 1, 9, 10, 0] rfl⟩
                                        · exact absurd (by decide) c_234_331
                                      · exact absurd (by decide) c_206_330
                                    · have m3 := c_183_329
                                      refine lv_aload_n hx hb dX6_find_186 rfl (lv_at hl 1 rfl) ?_
                                      refine lv_iload hx hb dX6_find_187 (lv_at hl 0 rfl) ?_
                                      refine b_calli w (va_runV (As := [.int (nI (140 * q + (10 * a + i)))]) (rest := []) X (c_X6_toldOn l hl0 G _ (M := M) (x := nI (140 * q + (10 * a + i))) (td := td) (nA := nA) (nJ := nJ) (yA := yA) (yJ := yJ) (yg := yg) (dn := dn) (yw := yw) (yc := yc) (yv := yv) (snt := snt) (jd := jd) (yr := yr) (bn := bn) (yC := yC) (yD := yD) (yF := yF) (yS := yS) (yV := yV) (yH := yH) (th := nI 0) (bc := bc) (bd := bd) (hbn := (by first | assumption | omega))) (cwV 1 hts gX6_find_X6_toldOn rfl rfl rfl (by decide +kernel) ⟨Nat.le_of_ble_eq_true rfl, Nat.le_of_ble_eq_true rfl⟩) ⟨b_blind, b_recv E w (ci := 6) (q0 := 0) rfl rfl, (fun U9 hU9 hW9 => ⟨rfl, b_pre E Z w [0, 3, 4] (by decide) rfl b_nil U9 hU9 hW9⟩)⟩ rfl rfl hl.1 rfl (lv_room (Nat.le_of_ble_eq_true rfl)) dX6_find_189 ⟨Nat.le_of_ble_eq_true rfl, Nat.le_of_ble_eq_true rfl⟩) b_nil [] (fun _ => rfl) rfl (fun r189_332 u189_332 H locs hr189_332 w => ?_)
                                      have w : bSt G vwCl [M] s [(M, .inr (6, [.int (nI td), .int (nI nA), .int (nI nJ), .ref yA, .ref yJ, .ref yg, .int (nI dn), .ref yw, .ref yc, .ref yv, .int (nI snt), .int (nI jd), .ref yr, .int (nI bn), .ref yC, .ref yD, .ref yF, .ref yS, .ref yV, .ref yH, .int (nI 0)])), (yA, .inl (G.2.1, 14, .inl fA)), (yJ, .inl (G.2.1, 10, .inl fJ)), (yC, .inl (G.2.1, 300, .inl bc)), (yD, .inl (G.2.1, 300, .inl bd)), (yF, .inl (G.2.1, 300, .inl bf))] _ _ := w
                                      subst hr189_332
                                      refine lv_iload hx hb dX6_find_192 (lv_at hl 5 rfl) ?_
                                      refine lv_icmp_lt (tgt := 201) hx hb dX6_find_194 (by decide) (fun c_194_333 => ?_) (fun c_194_333 => ?_)
                                      · have hM : mMm fA nA fJ nJ bc bd bf bn td x y sn q a i = false := by simp [mMm, c_194_333]
                                        refine lv_iconst (v := nI 0) hx hb dX6_find_201 (by decide) ?_
                                        refine lv_istore (lv' := [(12, .int (nI 0)), (11, .int (nI (140 * q + (10 * a + i)))), (0, .ref M), (1, .int x), (2, .int y), (4, .int (nI t1)), (5, .int sn), (7, .int (nI l3)), (8, .int (nI q)), (9, .int (nI a)), (10, .int (nI i))]) hx hb dX6_find_202 hl (by decide) rfl (fun ls hl => ?_)
                                        refine lv_iload hx hb dX6_find_204 (lv_at hl 0 rfl) ?_
                                        refine lv_if_eq (tgt := 230) hx hb dX6_find_206 (by decide) (fun c_206_334 => ?_) (fun c_206_334 => ?_)
                                        · have hgn := srI_no (code := codeN q a) (l := l3) (show i < nJ by omega) hM
                                          refine lv_iload hx hb dX6_find_230 (lv_at hl 7 rfl) ?_
                                          refine lv_iload hx hb dX6_find_232 (lv_at hl 0 rfl) ?_
                                          refine lv_if_eq (tgt := 241) hx hb dX6_find_234 (by decide) (fun c_234_335 => ?_) (fun c_234_335 => ?_)
                                          · refine lv_iconst (v := nI 0) hx hb dX6_find_241 (by decide) ?_
                                            refine lv_isub hx hb dX6_find_242 ?_
                                            refine b_tp (show (nI l3) - (nI 0) = nI l3 from pk_sub (b := 0) (Nat.zero_le _)) ?_
                                            refine lv_istore (lv' := [(7, .int (nI l3)), (12, .int (nI 0)), (11, .int (nI (140 * q + (10 * a + i)))), (0, .ref M), (1, .int x), (2, .int y), (4, .int (nI t1)), (5, .int sn), (8, .int (nI q)), (9, .int (nI a)), (10, .int (nI i))]) hx hb dX6_find_243 hl (by decide) rfl (fun ls hl => ?_)
                                            refine lv_iinc (v := nI (i + 1)) (lv' := [(10, .int (nI (i + 1))), (7, .int (nI l3)), (12, .int (nI 0)), (11, .int (nI (140 * q + (10 * a + i)))), (0, .ref M), (1, .int x), (2, .int y), (4, .int (nI t1)), (5, .int sn), (8, .int (nI q)), (9, .int (nI a))]) hx hb dX6_find_245 hl (k := 10) rfl (nI_add i 1) (by decide) rfl (fun ls hl => ?_)
                                            refine lv_goto (tgt := 129) hx hb dX6_find_248 (by decide) ?_
                                            exact ih129 _ _ _ ⟨i + 1, l3, (by omega), (by omega), (by omega), hI1.trans hgn, w, lv_sub hl [4, 5, 6, 7, 8, 1, 9, 10, 0] rfl⟩
                                          · exact absurd (by decide) c_234_335
                                        · exact absurd (by decide) c_206_334
                                      · have hM : mMm fA nA fJ nJ bc bd bf bn td x y sn q a i = true := by simp only [mMm, m1, m2]; simp [m3, c_194_333]
                                        refine lv_iconst (v := nI 1) hx hb dX6_find_197 (by decide) ?_
                                        refine lv_goto (tgt := 202) hx hb dX6_find_198 (by decide) ?_
                                        refine lv_istore (lv' := [(12, .int (nI 1)), (11, .int (nI (140 * q + (10 * a + i)))), (0, .ref M), (1, .int x), (2, .int y), (4, .int (nI t1)), (5, .int sn), (7, .int (nI l3)), (8, .int (nI q)), (9, .int (nI a)), (10, .int (nI i))]) hx hb dX6_find_202 hl (by decide) rfl (fun ls hl => ?_)
                                        refine lv_iload hx hb dX6_find_204 (lv_at hl 0 rfl) ?_
                                        refine lv_if_eq (tgt := 230) hx hb dX6_find_206 (by decide) (fun c_206_336 => ?_) (fun c_206_336 => ?_)
                                        · exact absurd c_206_336 (by decide)
                                        · refine lv_iload hx hb dX6_find_209 (lv_at hl 7 rfl) ?_
                                          refine lv_if_ne (tgt := 230) hx hb dX6_find_211 (by decide) (fun c_211_337 => ?_) (fun c_211_337 => ?_)
                                          · have q_211_338 : ¬ l3 = 0 := fun h9 => c_211_337 ((nI_z (by omega)).mpr h9)
                                            have hgn := srI_pass (code := codeN q a) (show i < nJ by omega) hM q_211_338
                                            have q211 := q_211_338
                                            refine lv_iload hx hb dX6_find_230 (lv_at hl 7 rfl) ?_
                                            refine lv_iload hx hb dX6_find_232 (lv_at hl 0 rfl) ?_
                                            refine lv_if_eq (tgt := 241) hx hb dX6_find_234 (by decide) (fun c_234_339 => ?_) (fun c_234_339 => ?_)
                                            · exact absurd c_234_339 (by decide)
                                            · refine lv_iconst (v := nI 1) hx hb dX6_find_237 (by decide) ?_
                                              refine lv_goto (tgt := 242) hx hb dX6_find_238 (by decide) ?_
                                              refine lv_isub hx hb dX6_find_242 ?_
                                              refine b_tp (show (nI l3) - (nI 1) = nI (l3 - 1) from pk_sub (by omega)) ?_
                                              refine lv_istore (lv' := [(7, .int (nI (l3 - 1))), (12, .int (nI 1)), (11, .int (nI (140 * q + (10 * a + i)))), (0, .ref M), (1, .int x), (2, .int y), (4, .int (nI t1)), (5, .int sn), (8, .int (nI q)), (9, .int (nI a)), (10, .int (nI i))]) hx hb dX6_find_243 hl (by decide) rfl (fun ls hl => ?_)
                                              refine lv_iinc (v := nI (i + 1)) (lv' := [(10, .int (nI (i + 1))), (7, .int (nI (l3 - 1))), (12, .int (nI 1)), (11, .int (nI (140 * q + (10 * a + i)))), (0, .ref M), (1, .int x), (2, .int y), (4, .int (nI t1)), (5, .int sn), (8, .int (nI q)), (9, .int (nI a))]) hx hb dX6_find_245 hl (k := 10) rfl (nI_add i 1) (by decide) rfl (fun ls hl => ?_)
                                              refine lv_goto (tgt := 129) hx hb dX6_find_248 (by decide) ?_
                                              exact ih129 _ _ _ ⟨i + 1, l3 - 1, (by omega), (by omega), (by omega), hI1.trans hgn, w, lv_sub hl [4, 5, 6, 7, 8, 1, 9, 10, 0] rfl⟩
                                          · have q_211_338 : l3 = 0 := (nI_z (by omega)).mp c_211_337
                                            have hh := srI_hit (code := codeN q a) (show i < nJ by omega) hM q_211_338
                                            refine lv_sipush (v := nI 1000) hx hb dX6_find_214 (by decide) ?_
                                            refine lv_iload hx hb dX6_find_217 (lv_at hl 8 rfl) ?_
                                            refine lv_imul hx hb dX6_find_219 ?_
                                            refine b_tp (show (nI 1000) * (nI q) = nI (1000 * q) from pk_mul 1000 q) ?_
                                            refine lv_bipush (v := nI 20) hx hb dX6_find_220 (by decide) ?_
                                            refine lv_iload hx hb dX6_find_222 (lv_at hl 9 rfl) ?_
                                            refine lv_imul hx hb dX6_find_224 ?_
                                            refine b_tp (show (nI 20) * (nI a) = nI (20 * a) from pk_mul 20 a) ?_
                                            refine lv_iadd hx hb dX6_find_225 ?_
                                            refine b_tp (show (nI (1000 * q)) + (nI (20 * a)) = nI ((1000 * q) + 20 * a) from nI_add (1000 * q) (20 * a)) ?_
                                            refine lv_iload hx hb dX6_find_226 (lv_at hl 10 rfl) ?_
                                            refine lv_iadd hx hb dX6_find_228 ?_
                                            refine b_tp (show (nI ((1000 * q) + 20 * a)) + (nI i) = nI ((1000 * q) + 20 * a + i) from nI_add ((1000 * q) + 20 * a) i) ?_
                                            exact W.iret (v := nI ((1000 * q) + 20 * a + i)) hx hb hr (fun t9 ht9 hW9 => ⟨⟨nI ((1000 * q) + 20 * a + i), (), rfl, by rw [hT, ef, et, epl]; exact (congrArg srR (hP1.trans (srA_r (by omega) (hA1.trans (srA_r (by omega) (hI1.trans hh)))))).symm, by show va_P G.1 vwCl _ t9.heap; rw [ht9]; exact b_cg (by rw [hT]) (w.1.sub (ws' := [(M, .inr (6, [.int (nI td), .int (nI nA), .int (nI nJ), .ref yA, .ref yJ, .ref yg, .int (nI dn), .ref yw, .ref yc, .ref yv, .int (nI snt), .int (nI jd), .ref yr, .int (nI bn), .ref yC, .ref yD, .ref yF, .ref yS, .ref yV, .ref yH, .int (nI 0)]))]) [0] rfl)⟩, w.2.1.F ht9⟩) w.2.1.2.2 dX6_find_229
                  · exact absurd (by decide) c_95_310
                · have q_80_309 : (sOk sn) = false := bI_0.mp c_80_308
                  have hT : th2 (tPat nA x && tPat nJ y && !decide (pl < 0)) (tHas 12 f && tHas 12 t0 && !decide (t0 < f) && sOk sn) = 2 := by simp [th2, h3, q_80_309]
                  refine lv_iconst (v := nI 2) hx hb dX6_find_83 (by decide) ?_
                  refine lv_goto (tgt := 88) hx hb dX6_find_84 (by decide) ?_
                  refine b_put (ty := .int) X E w (Or.inl (List.mem_of_getElem? (i := 0) rfl)) 0 rfl rfl 20 (by decide) iX6 tyX6 tyX6_ok nmX6 (by decide +kernel) rfl rfl (by decide +kernel) rfl rfl (Nat.le_of_ble_eq_true rfl) dX6_find_88 (fun H locs w => ?_)
                  have w : bSt G vwCl [M] s [(M, .inr (6, [.int (nI td), .int (nI nA), .int (nI nJ), .ref yA, .ref yJ, .ref yg, .int (nI dn), .ref yw, .ref yc, .ref yv, .int (nI snt), .int (nI jd), .ref yr, .int (nI bn), .ref yC, .ref yD, .ref yF, .ref yS, .ref yV, .ref yH, .int (nI 2)])), (yA, .inl (G.2.1, 14, .inl fA)), (yJ, .inl (G.2.1, 10, .inl fJ)), (yC, .inl (G.2.1, 300, .inl bc)), (yD, .inl (G.2.1, 300, .inl bd)), (yF, .inl (G.2.1, 300, .inl bf))] _ _ := w
                  refine lv_aload_n hx hb dX6_find_91 rfl (lv_at hl 0 rfl) ?_
                  refine b_get X E w 0 rfl rfl 20 (by decide) iX6 (by decide +kernel) rfl rfl dX6_find_92 ?_
                  refine lv_if_le (tgt := 100) hx hb dX6_find_95 (by decide) (fun c_95_340 => ?_) (fun c_95_340 => ?_)
                  · exact absurd c_95_340 (by decide)
                  · refine lv_iconst (v := nI 0) hx hb dX6_find_98 (by decide) ?_
                    exact W.iret (v := nI 0) hx hb hr (fun t9 ht9 hW9 => ⟨⟨nI 0, (), rfl, by rw [hT]; rfl, by show va_P G.1 vwCl _ t9.heap; rw [ht9]; exact b_cg (by rw [hT]) (w.1.sub (ws' := [(M, .inr (6, [.int (nI td), .int (nI nA), .int (nI nJ), .ref yA, .ref yJ, .ref yg, .int (nI dn), .ref yw, .ref yc, .ref yv, .int (nI snt), .int (nI jd), .ref yr, .int (nI bn), .ref yC, .ref yD, .ref yF, .ref yS, .ref yV, .ref yH, .int (nI 2)]))]) [0] rfl)⟩, w.2.1.F ht9⟩) w.2.1.2.2 dX6_find_99
          · exact absurd (by decide) c_44_298
        · have hT : th2 (tPat nA x && tPat nJ y && !decide (pl < 0)) (tHas 12 f && tHas 12 t0 && !decide (t0 < f) && sOk sn) = 1 := by simp [th2, i_lt_of_nle c_29_297]
          refine lv_iconst (v := nI 1) hx hb dX6_find_32 (by decide) ?_
          refine lv_goto (tgt := 37) hx hb dX6_find_33 (by decide) ?_
          have w := b_wide [M] b_nil w
          refine b_put (ty := .int) X E w (Or.inl (List.mem_of_getElem? (i := 0) rfl)) 0 rfl rfl 20 (by decide) iX6 tyX6 tyX6_ok nmX6 (by decide +kernel) rfl rfl (by decide +kernel) rfl rfl (Nat.le_of_ble_eq_true rfl) dX6_find_37 (fun H locs w => ?_)
          have w : bSt G vwCl [M] s [(M, .inr (6, [.int (nI td), .int (nI nA), .int (nI nJ), .ref yA, .ref yJ, .ref yg, .int (nI dn), .ref yw, .ref yc, .ref yv, .int (nI snt), .int (nI jd), .ref yr, .int (nI bn), .ref yC, .ref yD, .ref yF, .ref yS, .ref yV, .ref yH, .int (nI 1)])), (yA, .inl (G.2.1, 14, .inl fA)), (yJ, .inl (G.2.1, 10, .inl fJ)), (yC, .inl (G.2.1, 300, .inl bc)), (yD, .inl (G.2.1, 300, .inl bd)), (yF, .inl (G.2.1, 300, .inl bf))] _ _ := w
          refine lv_aload_n hx hb dX6_find_40 rfl (lv_at hl 0 rfl) ?_
          refine b_get X E w 0 rfl rfl 20 (by decide) iX6 (by decide +kernel) rfl rfl dX6_find_41 ?_
          refine lv_if_le (tgt := 49) hx hb dX6_find_44 (by decide) (fun c_44_341 => ?_) (fun c_44_341 => ?_)
          · exact absurd c_44_341 (by decide)
          · refine lv_iconst (v := nI 0) hx hb dX6_find_47 (by decide) ?_
            exact W.iret (v := nI 0) hx hb hr (fun t9 ht9 hW9 => ⟨⟨nI 0, (), rfl, by rw [hT]; rfl, by show va_P G.1 vwCl _ t9.heap; rw [ht9]; exact b_cg (by rw [hT]) (w.1.sub (ws' := [(M, .inr (6, [.int (nI td), .int (nI nA), .int (nI nJ), .ref yA, .ref yJ, .ref yg, .int (nI dn), .ref yw, .ref yc, .ref yv, .int (nI snt), .int (nI jd), .ref yr, .int (nI bn), .ref yC, .ref yD, .ref yF, .ref yS, .ref yV, .ref yH, .int (nI 1)]))]) [0] rfl)⟩, w.2.1.F ht9⟩) w.2.1.2.2 dX6_find_48
      · have c16 := c_16_296
        refine lv_aload_n hx hb dX6_find_19 rfl (lv_at hl 0 rfl) ?_
        refine lv_iload_n hx hb dX6_find_20 rfl (lv_at hl 2 rfl) ?_
        refine b_calli w (va_runV (As := [.int y]) (rest := [.ref M]) X (c_X6_isItem l hl0 G _ (M := M) (x := y) (td := td) (nA := nA) (nJ := nJ) (yA := yA) (yJ := yJ) (yg := yg) (dn := dn) (yw := yw) (yc := yc) (yv := yv) (snt := snt) (jd := jd) (yr := yr) (bn := bn) (yC := yC) (yD := yD) (yF := yF) (yS := yS) (yV := yV) (yH := yH) (th := th) (hnJ := (by first | assumption | omega))) (cwV 1 hts gX6_find_X6_isItem rfl rfl rfl (by decide +kernel) ⟨Nat.le_of_ble_eq_true rfl, Nat.le_of_ble_eq_true rfl⟩) ⟨b_blind, b_recv E w (ci := 6) (q0 := 0) rfl rfl, (fun U9 hU9 hW9 => ⟨rfl, b_pre E Z0 w [0] (by decide) rfl b_nil U9 hU9 hW9⟩)⟩ rfl rfl hl.1 rfl (lv_room (Nat.le_of_ble_eq_true rfl)) dX6_find_21 ⟨Nat.le_of_ble_eq_true rfl, Nat.le_of_ble_eq_true rfl⟩) b_nil [] (fun _ => rfl) rfl (fun r21_342 u21_342 H locs hr21_342 w => ?_)
        have w : bSt G vwCl [] s [(M, .inr (6, [.int (nI td), .int (nI nA), .int (nI nJ), .ref yA, .ref yJ, .ref yg, .int (nI dn), .ref yw, .ref yc, .ref yv, .int (nI snt), .int (nI jd), .ref yr, .int (nI bn), .ref yC, .ref yD, .ref yF, .ref yS, .ref yV, .ref yH, .int th])), (yA, .inl (G.2.1, 14, .inl fA)), (yJ, .inl (G.2.1, 10, .inl fJ)), (yC, .inl (G.2.1, 300, .inl bc)), (yD, .inl (G.2.1, 300, .inl bd)), (yF, .inl (G.2.1, 300, .inl bf))] _ _ := w
        subst hr21_342
        refine lv_if_eq (tgt := 32) hx hb dX6_find_24 (by decide) (fun c_24_343 => ?_) (fun c_24_343 => ?_)
        · have q_24_344 : (tHas nJ y) = false := bI_0.mp c_24_343
          have hT : th2 (tPat nA x && tPat nJ y && !decide (pl < 0)) (tHas 12 f && tHas 12 t0 && !decide (t0 < f) && sOk sn) = 1 := by simp [th2, tPat, c16, q_24_344]
          refine lv_iconst (v := nI 1) hx hb dX6_find_32 (by decide) ?_
          refine lv_goto (tgt := 37) hx hb dX6_find_33 (by decide) ?_
          have w := b_wide [M] b_nil w
          refine b_put (ty := .int) X E w (Or.inl (List.mem_of_getElem? (i := 0) rfl)) 0 rfl rfl 20 (by decide) iX6 tyX6 tyX6_ok nmX6 (by decide +kernel) rfl rfl (by decide +kernel) rfl rfl (Nat.le_of_ble_eq_true rfl) dX6_find_37 (fun H locs w => ?_)
          have w : bSt G vwCl [M] s [(M, .inr (6, [.int (nI td), .int (nI nA), .int (nI nJ), .ref yA, .ref yJ, .ref yg, .int (nI dn), .ref yw, .ref yc, .ref yv, .int (nI snt), .int (nI jd), .ref yr, .int (nI bn), .ref yC, .ref yD, .ref yF, .ref yS, .ref yV, .ref yH, .int (nI 1)])), (yA, .inl (G.2.1, 14, .inl fA)), (yJ, .inl (G.2.1, 10, .inl fJ)), (yC, .inl (G.2.1, 300, .inl bc)), (yD, .inl (G.2.1, 300, .inl bd)), (yF, .inl (G.2.1, 300, .inl bf))] _ _ := w
          refine lv_aload_n hx hb dX6_find_40 rfl (lv_at hl 0 rfl) ?_
          refine b_get X E w 0 rfl rfl 20 (by decide) iX6 (by decide +kernel) rfl rfl dX6_find_41 ?_
          refine lv_if_le (tgt := 49) hx hb dX6_find_44 (by decide) (fun c_44_345 => ?_) (fun c_44_345 => ?_)
          · exact absurd c_44_345 (by decide)
          · refine lv_iconst (v := nI 0) hx hb dX6_find_47 (by decide) ?_
            exact W.iret (v := nI 0) hx hb hr (fun t9 ht9 hW9 => ⟨⟨nI 0, (), rfl, by rw [hT]; rfl, by show va_P G.1 vwCl _ t9.heap; rw [ht9]; exact b_cg (by rw [hT]) (w.1.sub (ws' := [(M, .inr (6, [.int (nI td), .int (nI nA), .int (nI nJ), .ref yA, .ref yJ, .ref yg, .int (nI dn), .ref yw, .ref yc, .ref yv, .int (nI snt), .int (nI jd), .ref yr, .int (nI bn), .ref yC, .ref yD, .ref yF, .ref yS, .ref yV, .ref yH, .int (nI 1)]))]) [0] rfl)⟩, w.2.1.F ht9⟩) w.2.1.2.2 dX6_find_48
        · have q_24_344 : (tHas nJ y) = true := bI_n0.mp c_24_343
          have h2 : tPat nJ y = true := by simp [tPat, q_24_344]
          refine lv_iload hx hb dX6_find_27 (lv_at hl 6 rfl) ?_
          refine lv_if_ge (tgt := 36) hx hb dX6_find_29 (by decide) (fun c_29_346 => ?_) (fun c_29_346 => ?_)
          · have c29 : ¬ pl < 0 := fun h9 => absurd c_29_346 (i_le_of_lt h9)
            have h3 : (tPat nA x && tPat nJ y && !decide (pl < 0)) = true := by simp [h1, h2, c29]
            refine lv_iconst (v := nI 0) hx hb dX6_find_36 (by decide) ?_
            have w := b_wide [M] b_nil w
            refine b_put (ty := .int) X E w (Or.inl (List.mem_of_getElem? (i := 0) rfl)) 0 rfl rfl 20 (by decide) iX6 tyX6 tyX6_ok nmX6 (by decide +kernel) rfl rfl (by decide +kernel) rfl rfl (Nat.le_of_ble_eq_true rfl) dX6_find_37 (fun H locs w => ?_)
            have w : bSt G vwCl [M] s [(M, .inr (6, [.int (nI td), .int (nI nA), .int (nI nJ), .ref yA, .ref yJ, .ref yg, .int (nI dn), .ref yw, .ref yc, .ref yv, .int (nI snt), .int (nI jd), .ref yr, .int (nI bn), .ref yC, .ref yD, .ref yF, .ref yS, .ref yV, .ref yH, .int (nI 0)])), (yA, .inl (G.2.1, 14, .inl fA)), (yJ, .inl (G.2.1, 10, .inl fJ)), (yC, .inl (G.2.1, 300, .inl bc)), (yD, .inl (G.2.1, 300, .inl bd)), (yF, .inl (G.2.1, 300, .inl bf))] _ _ := w
            refine lv_aload_n hx hb dX6_find_40 rfl (lv_at hl 0 rfl) ?_
            refine b_get X E w 0 rfl rfl 20 (by decide) iX6 (by decide +kernel) rfl rfl dX6_find_41 ?_
            refine lv_if_le (tgt := 49) hx hb dX6_find_44 (by decide) (fun c_44_347 => ?_) (fun c_44_347 => ?_)
            · refine lv_aload_n hx hb dX6_find_49 rfl (lv_at hl 0 rfl) ?_
              refine lv_iload_n hx hb dX6_find_50 rfl (lv_at hl 3 rfl) ?_
              refine lv_iconst (v := nI 0) hx hb dX6_find_51 (by decide) ?_
              refine lv_bipush (v := nI 11) hx hb dX6_find_52 (by decide) ?_
              refine b_calli w (va_runS (As := [.int f, .int (nI 0), .int (nI 11)]) (rest := [.ref M]) X (c_X6_isIn l hl0 G _ (x := f) (lo := nI 0) (hi := nI 11) ) (va_cwS 3 hts gX6_find_X6_isIn rfl rfl rfl (by decide +kernel) ⟨Nat.le_of_ble_eq_true rfl, Nat.le_of_ble_eq_true rfl⟩) ⟨b_blind, (fun U9 hU9 hW9 => ⟨rfl, b_pre E Z w [] (by decide) rfl b_nil U9 hU9 hW9⟩)⟩ rfl rfl hl.1 rfl (lv_room (Nat.le_of_ble_eq_true rfl)) dX6_find_54 ⟨Nat.le_of_ble_eq_true rfl, Nat.le_of_ble_eq_true rfl⟩) b_nil [] (fun _ => rfl) rfl (fun r54_348 u54_348 H locs hr54_348 w => ?_)
              have w : bSt G vwCl [M] s [(M, .inr (6, [.int (nI td), .int (nI nA), .int (nI nJ), .ref yA, .ref yJ, .ref yg, .int (nI dn), .ref yw, .ref yc, .ref yv, .int (nI snt), .int (nI jd), .ref yr, .int (nI bn), .ref yC, .ref yD, .ref yF, .ref yS, .ref yV, .ref yH, .int (nI 0)])), (yA, .inl (G.2.1, 14, .inl fA)), (yJ, .inl (G.2.1, 10, .inl fJ)), (yC, .inl (G.2.1, 300, .inl bc)), (yD, .inl (G.2.1, 300, .inl bd)), (yF, .inl (G.2.1, 300, .inl bf))] _ _ := w
              subst hr54_348
              refine b_tp (show bI (tIn f (nI 0) (nI 11)) = bI (tHas 12 f) from congrArg bI (tIn_lit (n := 11) (by decide))) ?_
              refine lv_if_eq (tgt := 83) hx hb dX6_find_57 (by decide) (fun c_57_349 => ?_) (fun c_57_349 => ?_)
              · have q_57_350 : (tHas 12 f) = false := bI_0.mp c_57_349
                have hT : th2 (tPat nA x && tPat nJ y && !decide (pl < 0)) (tHas 12 f && tHas 12 t0 && !decide (t0 < f) && sOk sn) = 2 := by simp [th2, h3, q_57_350]
                refine lv_iconst (v := nI 2) hx hb dX6_find_83 (by decide) ?_
                refine lv_goto (tgt := 88) hx hb dX6_find_84 (by decide) ?_
                refine b_put (ty := .int) X E w (Or.inl (List.mem_of_getElem? (i := 0) rfl)) 0 rfl rfl 20 (by decide) iX6 tyX6 tyX6_ok nmX6 (by decide +kernel) rfl rfl (by decide +kernel) rfl rfl (Nat.le_of_ble_eq_true rfl) dX6_find_88 (fun H locs w => ?_)
                have w : bSt G vwCl [M] s [(M, .inr (6, [.int (nI td), .int (nI nA), .int (nI nJ), .ref yA, .ref yJ, .ref yg, .int (nI dn), .ref yw, .ref yc, .ref yv, .int (nI snt), .int (nI jd), .ref yr, .int (nI bn), .ref yC, .ref yD, .ref yF, .ref yS, .ref yV, .ref yH, .int (nI 2)])), (yA, .inl (G.2.1, 14, .inl fA)), (yJ, .inl (G.2.1, 10, .inl fJ)), (yC, .inl (G.2.1, 300, .inl bc)), (yD, .inl (G.2.1, 300, .inl bd)), (yF, .inl (G.2.1, 300, .inl bf))] _ _ := w
                refine lv_aload_n hx hb dX6_find_91 rfl (lv_at hl 0 rfl) ?_
                refine b_get X E w 0 rfl rfl 20 (by decide) iX6 (by decide +kernel) rfl rfl dX6_find_92 ?_
                refine lv_if_le (tgt := 100) hx hb dX6_find_95 (by decide) (fun c_95_351 => ?_) (fun c_95_351 => ?_)
                · exact absurd c_95_351 (by decide)
                · refine lv_iconst (v := nI 0) hx hb dX6_find_98 (by decide) ?_
                  exact W.iret (v := nI 0) hx hb hr (fun t9 ht9 hW9 => ⟨⟨nI 0, (), rfl, by rw [hT]; rfl, by show va_P G.1 vwCl _ t9.heap; rw [ht9]; exact b_cg (by rw [hT]) (w.1.sub (ws' := [(M, .inr (6, [.int (nI td), .int (nI nA), .int (nI nJ), .ref yA, .ref yJ, .ref yg, .int (nI dn), .ref yw, .ref yc, .ref yv, .int (nI snt), .int (nI jd), .ref yr, .int (nI bn), .ref yC, .ref yD, .ref yF, .ref yS, .ref yV, .ref yH, .int (nI 2)]))]) [0] rfl)⟩, w.2.1.F ht9⟩) w.2.1.2.2 dX6_find_99
              · have q_57_350 : (tHas 12 f) = true := bI_n0.mp c_57_349
                have h4 := q_57_350
                refine lv_iload hx hb dX6_find_60 (lv_at hl 4 rfl) ?_
                refine lv_iload_n hx hb dX6_find_62 rfl (lv_at hl 3 rfl) ?_
                refine lv_bipush (v := nI 11) hx hb dX6_find_63 (by decide) ?_
                refine b_calli w (va_runS (As := [.int t0, .int f, .int (nI 11)]) (rest := [.ref M]) X (c_X6_isIn l hl0 G _ (x := t0) (lo := f) (hi := nI 11) ) (va_cwS 3 hts gX6_find_X6_isIn rfl rfl rfl (by decide +kernel) ⟨Nat.le_of_ble_eq_true rfl, Nat.le_of_ble_eq_true rfl⟩) ⟨b_blind, (fun U9 hU9 hW9 => ⟨rfl, b_pre E Z w [] (by decide) rfl b_nil U9 hU9 hW9⟩)⟩ rfl rfl hl.1 rfl (lv_room (Nat.le_of_ble_eq_true rfl)) dX6_find_65 ⟨Nat.le_of_ble_eq_true rfl, Nat.le_of_ble_eq_true rfl⟩) b_nil [] (fun _ => rfl) rfl (fun r65_352 u65_352 H locs hr65_352 w => ?_)
                have w : bSt G vwCl [M] s [(M, .inr (6, [.int (nI td), .int (nI nA), .int (nI nJ), .ref yA, .ref yJ, .ref yg, .int (nI dn), .ref yw, .ref yc, .ref yv, .int (nI snt), .int (nI jd), .ref yr, .int (nI bn), .ref yC, .ref yD, .ref yF, .ref yS, .ref yV, .ref yH, .int (nI 0)])), (yA, .inl (G.2.1, 14, .inl fA)), (yJ, .inl (G.2.1, 10, .inl fJ)), (yC, .inl (G.2.1, 300, .inl bc)), (yD, .inl (G.2.1, 300, .inl bd)), (yF, .inl (G.2.1, 300, .inl bf))] _ _ := w
                subst hr65_352
                refine b_tp (show bI (tIn t0 f (nI 11)) = bI (tHas 12 t0 && !decide (t0 < f)) from congrArg bI (tIn_to h4)) ?_
                refine lv_if_eq (tgt := 83) hx hb dX6_find_68 (by decide) (fun c_68_353 => ?_) (fun c_68_353 => ?_)
                · have q_68_354 : (tHas 12 t0 && !decide (t0 < f)) = false := bI_0.mp c_68_353
                  have hT : th2 (tPat nA x && tPat nJ y && !decide (pl < 0)) (tHas 12 f && tHas 12 t0 && !decide (t0 < f) && sOk sn) = 2 := by rw [th2, if_pos h3, if_neg]; rw [Bool.and_assoc (tHas 12 f), q_68_354]; simp
                  refine lv_iconst (v := nI 2) hx hb dX6_find_83 (by decide) ?_
                  refine lv_goto (tgt := 88) hx hb dX6_find_84 (by decide) ?_
                  refine b_put (ty := .int) X E w (Or.inl (List.mem_of_getElem? (i := 0) rfl)) 0 rfl rfl 20 (by decide) iX6 tyX6 tyX6_ok nmX6 (by decide +kernel) rfl rfl (by decide +kernel) rfl rfl (Nat.le_of_ble_eq_true rfl) dX6_find_88 (fun H locs w => ?_)
                  have w : bSt G vwCl [M] s [(M, .inr (6, [.int (nI td), .int (nI nA), .int (nI nJ), .ref yA, .ref yJ, .ref yg, .int (nI dn), .ref yw, .ref yc, .ref yv, .int (nI snt), .int (nI jd), .ref yr, .int (nI bn), .ref yC, .ref yD, .ref yF, .ref yS, .ref yV, .ref yH, .int (nI 2)])), (yA, .inl (G.2.1, 14, .inl fA)), (yJ, .inl (G.2.1, 10, .inl fJ)), (yC, .inl (G.2.1, 300, .inl bc)), (yD, .inl (G.2.1, 300, .inl bd)), (yF, .inl (G.2.1, 300, .inl bf))] _ _ := w
                  refine lv_aload_n hx hb dX6_find_91 rfl (lv_at hl 0 rfl) ?_
                  refine b_get X E w 0 rfl rfl 20 (by decide) iX6 (by decide +kernel) rfl rfl dX6_find_92 ?_
                  refine lv_if_le (tgt := 100) hx hb dX6_find_95 (by decide) (fun c_95_355 => ?_) (fun c_95_355 => ?_)
                  · exact absurd c_95_355 (by decide)
                  · refine lv_iconst (v := nI 0) hx hb dX6_find_98 (by decide) ?_
                    exact W.iret (v := nI 0) hx hb hr (fun t9 ht9 hW9 => ⟨⟨nI 0, (), rfl, by rw [hT]; rfl, by show va_P G.1 vwCl _ t9.heap; rw [ht9]; exact b_cg (by rw [hT]) (w.1.sub (ws' := [(M, .inr (6, [.int (nI td), .int (nI nA), .int (nI nJ), .ref yA, .ref yJ, .ref yg, .int (nI dn), .ref yw, .ref yc, .ref yv, .int (nI snt), .int (nI jd), .ref yr, .int (nI bn), .ref yC, .ref yD, .ref yF, .ref yS, .ref yV, .ref yH, .int (nI 2)]))]) [0] rfl)⟩, w.2.1.F ht9⟩) w.2.1.2.2 dX6_find_99
                · have q_68_354 : (tHas 12 t0 && !decide (t0 < f)) = true := bI_n0.mp c_68_353
                  have h5 := q_68_354
                  refine lv_iload hx hb dX6_find_71 (lv_at hl 5 rfl) ?_
                  refine lv_iconst (v := nI 0) hx hb dX6_find_73 (by decide) ?_
                  refine lv_sipush (v := nI 1000) hx hb dX6_find_74 (by decide) ?_
                  refine b_calli w (va_runS (As := [.int sn, .int (nI 0), .int (nI 1000)]) (rest := [.ref M]) X (c_X6_isIn l hl0 G _ (x := sn) (lo := nI 0) (hi := nI 1000) ) (va_cwS 3 hts gX6_find_X6_isIn rfl rfl rfl (by decide +kernel) ⟨Nat.le_of_ble_eq_true rfl, Nat.le_of_ble_eq_true rfl⟩) ⟨b_blind, (fun U9 hU9 hW9 => ⟨rfl, b_pre E Z w [] (by decide) rfl b_nil U9 hU9 hW9⟩)⟩ rfl rfl hl.1 rfl (lv_room (Nat.le_of_ble_eq_true rfl)) dX6_find_77 ⟨Nat.le_of_ble_eq_true rfl, Nat.le_of_ble_eq_true rfl⟩) b_nil [] (fun _ => rfl) rfl (fun r77_356 u77_356 H locs hr77_356 w => ?_)
                  have w : bSt G vwCl [M] s [(M, .inr (6, [.int (nI td), .int (nI nA), .int (nI nJ), .ref yA, .ref yJ, .ref yg, .int (nI dn), .ref yw, .ref yc, .ref yv, .int (nI snt), .int (nI jd), .ref yr, .int (nI bn), .ref yC, .ref yD, .ref yF, .ref yS, .ref yV, .ref yH, .int (nI 0)])), (yA, .inl (G.2.1, 14, .inl fA)), (yJ, .inl (G.2.1, 10, .inl fJ)), (yC, .inl (G.2.1, 300, .inl bc)), (yD, .inl (G.2.1, 300, .inl bd)), (yF, .inl (G.2.1, 300, .inl bf))] _ _ := w
                  subst hr77_356
                  refine b_tp (show bI (tIn sn (nI 0) (nI 1000)) = bI (sOk sn) from congrArg bI tIn_s) ?_
                  refine lv_if_ne (tgt := 87) hx hb dX6_find_80 (by decide) (fun c_80_357 => ?_) (fun c_80_357 => ?_)
                  · have q_80_358 : (sOk sn) = true := bI_n0.mp c_80_357
                    have hT : th2 (tPat nA x && tPat nJ y && !decide (pl < 0)) (tHas 12 f && tHas 12 t0 && !decide (t0 < f) && sOk sn) = 0 := by rw [th2, if_pos h3, if_pos]; rw [Bool.and_assoc (tHas 12 f), h4, h5, q_80_358]; rfl
                    have h5a : tHas 12 t0 = true ∧ ¬ t0 < f := by simpa using h5
                    obtain ⟨f0, hf0, rfl⟩ := (tHas_iff (by decide)).mp h4
                    obtain ⟨t1, ht1, rfl⟩ := (tHas_iff (by decide)).mp h5a.1
                    obtain ⟨pl0, hpl0, rfl⟩ := nI_of c29
                    have hft := q_nlt (by omega) (by omega) h5a.2
                    have ef : cl (nI f0) = f0 := cl_nI (by omega)
                    have et : cl (nI t1) = t1 := cl_nI (by omega)
                    have epl : cl (nI pl0) = pl0 := cl_nI hpl0
                    refine lv_iconst (v := nI 0) hx hb dX6_find_87 (by decide) ?_
                    refine b_put (ty := .int) X E w (Or.inl (List.mem_of_getElem? (i := 0) rfl)) 0 rfl rfl 20 (by decide) iX6 tyX6 tyX6_ok nmX6 (by decide +kernel) rfl rfl (by decide +kernel) rfl rfl (Nat.le_of_ble_eq_true rfl) dX6_find_88 (fun H locs w => ?_)
                    have w : bSt G vwCl [M] s [(M, .inr (6, [.int (nI td), .int (nI nA), .int (nI nJ), .ref yA, .ref yJ, .ref yg, .int (nI dn), .ref yw, .ref yc, .ref yv, .int (nI snt), .int (nI jd), .ref yr, .int (nI bn), .ref yC, .ref yD, .ref yF, .ref yS, .ref yV, .ref yH, .int (nI 0)])), (yA, .inl (G.2.1, 14, .inl fA)), (yJ, .inl (G.2.1, 10, .inl fJ)), (yC, .inl (G.2.1, 300, .inl bc)), (yD, .inl (G.2.1, 300, .inl bd)), (yF, .inl (G.2.1, 300, .inl bf))] _ _ := w
                    refine lv_aload_n hx hb dX6_find_91 rfl (lv_at hl 0 rfl) ?_
                    refine b_get X E w 0 rfl rfl 20 (by decide) iX6 (by decide +kernel) rfl rfl dX6_find_92 ?_
                    refine lv_if_le (tgt := 100) hx hb dX6_find_95 (by decide) (fun c_95_359 => ?_) (fun c_95_359 => ?_)
                    · refine lv_iload hx hb dX6_find_100 (lv_at hl 6 rfl) ?_
                      refine lv_istore (lv' := [(7, .int (nI pl0)), (0, .ref M), (1, .int x), (2, .int y), (3, .int (nI f0)), (4, .int (nI t1)), (5, .int sn), (6, .int (nI pl0))]) hx hb dX6_find_102 hl (by decide) rfl (fun ls hl => ?_)
                      refine lv_iload_n hx hb dX6_find_104 rfl (lv_at hl 4 rfl) ?_
                      refine lv_istore (lv' := [(8, .int (nI f0)), (7, .int (nI pl0)), (0, .ref M), (1, .int x), (2, .int y), (3, .int (nI f0)), (4, .int (nI t1)), (5, .int sn), (6, .int (nI pl0))]) hx hb dX6_find_105 hl (by decide) rfl (fun ls hl => ?_)
                      refine b_loop (pc := 107) (st := []) (fun (fuel : Nat) (H : Heap) (locs : List Loc) (ls : Array Slot) => ∃ (q : Nat) (l1 : Nat), (q ≤ t1 + 1) ∧ (t1 + 2 ≤ q + fuel) ∧ (l1 ≤ pl0) ∧ (srT (mMm fA nA fJ nJ bc bd bf bn td x y sn) nA nJ f0 t1 pl0 = srA (fun q l => srA (fun a l => srI (mMm fA nA fJ nJ bc bd bf bn td x y sn q a) (codeN q a) nJ nJ l) nA nA l) (t1 + 1) (t1 + 1 - q) l1) ∧ bSt G vwCl [M] s [(M, .inr (6, [.int (nI td), .int (nI nA), .int (nI nJ), .ref yA, .ref yJ, .ref yg, .int (nI dn), .ref yw, .ref yc, .ref yv, .int (nI snt), .int (nI jd), .ref yr, .int (nI bn), .ref yC, .ref yD, .ref yF, .ref yS, .ref yV, .ref yH, .int (nI 0)])), (yA, .inl (G.2.1, 14, .inl fA)), (yJ, .inl (G.2.1, 10, .inl fJ)), (yC, .inl (G.2.1, 300, .inl bc)), (yD, .inl (G.2.1, 300, .inl bd)), (yF, .inl (G.2.1, 300, .inl bf))] H locs ∧ lv_has ls 13 [(0, .ref M), (1, .int x), (2, .int y), (4, .int (nI t1)), (5, .int sn), (7, .int (nI l1)), (8, .int (nI q))]) (fun H locs ls h9 => ?_) (fun fuel H locs ls hI ih107 => ?_) (t1 + 2) ⟨f0, pl0, (by omega), (by omega), Nat.le_refl _, rfl, w, lv_sub hl [2, 3, 4, 6, 7, 1, 0] rfl⟩
                      · obtain ⟨q, l1, hpp, hfp, hl1, hP1, w, hl⟩ := h9
                        omega
                      · obtain ⟨q, l1, hpp, hfp, hl1, hP1, w, hl⟩ := hI
                        refine lv_iload hx hb dX6_find_107 (lv_at hl 6 rfl) ?_
                        refine lv_iload hx hb dX6_find_109 (lv_at hl 3 rfl) ?_
                        refine lv_icmp_gt (tgt := 263) hx hb dX6_find_111 (by decide) (fun c_111_360 => ?_) (fun c_111_360 => ?_)
                        · have q_111_361 : t1 < q := q_lt (by omega) (by omega) c_111_360
                          have ep1 : q = t1 + 1 := by omega
                          refine lv_iconst (v := -1) hx hb dX6_find_263 (by decide) ?_
                          exact W.iret (v := -1) hx hb hr (fun t9 ht9 hW9 => ⟨⟨-1, (), rfl, by rw [hT, ef, et, epl]; exact (congrArg srR (hP1.trans (srA_end ep1))).symm, by show va_P G.1 vwCl _ t9.heap; rw [ht9]; exact b_cg (by rw [hT]) (w.1.sub (ws' := [(M, .inr (6, [.int (nI td), .int (nI nA), .int (nI nJ), .ref yA, .ref yJ, .ref yg, .int (nI dn), .ref yw, .ref yc, .ref yv, .int (nI snt), .int (nI jd), .ref yr, .int (nI bn), .ref yC, .ref yD, .ref yF, .ref yS, .ref yV, .ref yH, .int (nI 0)]))]) [0] rfl)⟩, w.2.1.F ht9⟩) w.2.1.2.2 dX6_find_264
                        · have q_111_361 : q ≤ t1 := q_nlt (by omega) (by omega) c_111_360
                          have hp1 := q_111_361
                          refine lv_iconst (v := nI 0) hx hb dX6_find_114 (by decide) ?_
                          refine lv_istore (lv' := [(9, .int (nI 0)), (0, .ref M), (1, .int x), (2, .int y), (4, .int (nI t1)), (5, .int sn), (7, .int (nI l1)), (8, .int (nI q))]) hx hb dX6_find_115 hl (by decide) rfl (fun ls hl => ?_)
                          refine b_loop (pc := 117) (st := []) (fun (fuel : Nat) (H : Heap) (locs : List Loc) (ls : Array Slot) => ∃ (a : Nat) (l2 : Nat), (a ≤ nA) ∧ (nA + 1 ≤ a + fuel) ∧ (l2 ≤ pl0) ∧ (srA (fun a l => srI (mMm fA nA fJ nJ bc bd bf bn td x y sn q a) (codeN q a) nJ nJ l) nA nA l1 = srA (fun a l => srI (mMm fA nA fJ nJ bc bd bf bn td x y sn q a) (codeN q a) nJ nJ l) nA (nA - a) l2) ∧ bSt G vwCl [M] s [(M, .inr (6, [.int (nI td), .int (nI nA), .int (nI nJ), .ref yA, .ref yJ, .ref yg, .int (nI dn), .ref yw, .ref yc, .ref yv, .int (nI snt), .int (nI jd), .ref yr, .int (nI bn), .ref yC, .ref yD, .ref yF, .ref yS, .ref yV, .ref yH, .int (nI 0)])), (yA, .inl (G.2.1, 14, .inl fA)), (yJ, .inl (G.2.1, 10, .inl fJ)), (yC, .inl (G.2.1, 300, .inl bc)), (yD, .inl (G.2.1, 300, .inl bd)), (yF, .inl (G.2.1, 300, .inl bf))] H locs ∧ lv_has ls 13 [(0, .ref M), (1, .int x), (2, .int y), (4, .int (nI t1)), (5, .int sn), (7, .int (nI l2)), (8, .int (nI q)), (9, .int (nI a))]) (fun H locs ls h9 => ?_) (fun fuel H locs ls hI ih117 => ?_) (nA + 1) ⟨0, l1, (by omega), (by omega), hl1, rfl, w, lv_sub hl [1, 2, 3, 4, 5, 6, 7, 0] rfl⟩
                          · obtain ⟨a, l2, ha, hfa, hl2, hA1, w, hl⟩ := h9
                            omega
                          · obtain ⟨a, l2, ha, hfa, hl2, hA1, w, hl⟩ := hI
                            refine lv_iload hx hb dX6_find_117 (lv_at hl 7 rfl) ?_
                            refine lv_aload_n hx hb dX6_find_119 rfl (lv_at hl 0 rfl) ?_
                            refine b_get X E w 0 rfl rfl 1 (by decide) iX6 (by decide +kernel) rfl rfl dX6_find_120 ?_
                            refine lv_icmp_ge (tgt := 257) hx hb dX6_find_123 (by decide) (fun c_123_362 => ?_) (fun c_123_362 => ?_)
                            · have q_123_363 : nA ≤ a := q_le (by omega) (by omega) c_123_362
                              have ea : a = nA := by omega
                              refine lv_iinc (v := nI (q + 1)) (lv' := [(8, .int (nI (q + 1))), (0, .ref M), (1, .int x), (2, .int y), (4, .int (nI t1)), (5, .int sn), (7, .int (nI l2)), (9, .int (nI a))]) hx hb dX6_find_257 hl (k := 6) rfl (nI_add q 1) (by decide) rfl (fun ls hl => ?_)
                              refine lv_goto (tgt := 107) hx hb dX6_find_260 (by decide) ?_
                              exact ih107 _ _ _ ⟨q + 1, l2, (by omega), (by omega), (by omega), hP1.trans (srA_l (by omega) (hA1.trans (srA_end ea))), w, lv_sub hl [1, 2, 3, 4, 5, 6, 0] rfl⟩
                            · have q_123_363 : a < nA := q_nle (by omega) (by omega) c_123_362
                              have ha1 := q_123_363
                              refine lv_iconst (v := nI 0) hx hb dX6_find_126 (by decide) ?_
                              refine lv_istore (lv' := [(10, .int (nI 0)), (0, .ref M), (1, .int x), (2, .int y), (4, .int (nI t1)), (5, .int sn), (7, .int (nI l2)), (8, .int (nI q)), (9, .int (nI a))]) hx hb dX6_find_127 hl (by decide) rfl (fun ls hl => ?_)
                              refine b_loop (pc := 129) (st := []) (fun (fuel : Nat) (H : Heap) (locs : List Loc) (ls : Array Slot) => ∃ (i : Nat) (l3 : Nat), (i ≤ nJ) ∧ (nJ + 1 ≤ i + fuel) ∧ (l3 ≤ pl0) ∧ (srI (mMm fA nA fJ nJ bc bd bf bn td x y sn q a) (codeN q a) nJ nJ l2 = srI (mMm fA nA fJ nJ bc bd bf bn td x y sn q a) (codeN q a) nJ (nJ - i) l3) ∧ bSt G vwCl [M] s [(M, .inr (6, [.int (nI td), .int (nI nA), .int (nI nJ), .ref yA, .ref yJ, .ref yg, .int (nI dn), .ref yw, .ref yc, .ref yv, .int (nI snt), .int (nI jd), .ref yr, .int (nI bn), .ref yC, .ref yD, .ref yF, .ref yS, .ref yV, .ref yH, .int (nI 0)])), (yA, .inl (G.2.1, 14, .inl fA)), (yJ, .inl (G.2.1, 10, .inl fJ)), (yC, .inl (G.2.1, 300, .inl bc)), (yD, .inl (G.2.1, 300, .inl bd)), (yF, .inl (G.2.1, 300, .inl bf))] H locs ∧ lv_has ls 13 [(0, .ref M), (1, .int x), (2, .int y), (4, .int (nI t1)), (5, .int sn), (7, .int (nI l3)), (8, .int (nI q)), (9, .int (nI a)), (10, .int (nI i))]) (fun H locs ls h9 => ?_) (fun fuel H locs ls hI ih129 => ?_) (nJ + 1) ⟨0, l2, (by omega), (by omega), hl2, rfl, w, lv_sub hl [1, 2, 3, 4, 5, 6, 7, 8, 0] rfl⟩
                              · obtain ⟨i, l3, hi, hfi, hl3, hI1, w, hl⟩ := h9
                                omega
                              · obtain ⟨i, l3, hi, hfi, hl3, hI1, w, hl⟩ := hI
                                refine lv_iload hx hb dX6_find_129 (lv_at hl 8 rfl) ?_
                                refine lv_aload_n hx hb dX6_find_131 rfl (lv_at hl 0 rfl) ?_
                                refine b_get X E w 0 rfl rfl 2 (by decide) iX6 (by decide +kernel) rfl rfl dX6_find_132 ?_
                                refine lv_icmp_ge (tgt := 251) hx hb dX6_find_135 (by decide) (fun c_135_364 => ?_) (fun c_135_364 => ?_)
                                · have q_135_365 : nJ ≤ i := q_le (by omega) (by omega) c_135_364
                                  have ei : i = nJ := by omega
                                  refine lv_iinc (v := nI (a + 1)) (lv' := [(9, .int (nI (a + 1))), (0, .ref M), (1, .int x), (2, .int y), (4, .int (nI t1)), (5, .int sn), (7, .int (nI l3)), (8, .int (nI q)), (10, .int (nI i))]) hx hb dX6_find_251 hl (k := 7) rfl (nI_add a 1) (by decide) rfl (fun ls hl => ?_)
                                  refine lv_goto (tgt := 117) hx hb dX6_find_254 (by decide) ?_
                                  exact ih117 _ _ _ ⟨a + 1, l3, (by omega), (by omega), (by omega), hA1.trans (srA_l (by omega) (hI1.trans (srI_end ei))), w, lv_sub hl [1, 2, 3, 4, 5, 6, 7, 0] rfl⟩
                                · have q_135_365 : i < nJ := q_nle (by omega) (by omega) c_135_364
                                  have hi1 := q_135_365
                                  refine lv_iload hx hb dX6_find_138 (lv_at hl 7 rfl) ?_
                                  refine lv_iload hx hb dX6_find_140 (lv_at hl 8 rfl) ?_
                                  refine lv_iload hx hb dX6_find_142 (lv_at hl 6 rfl) ?_
                                  refine b_calli w (va_runS (As := [.int (nI a), .int (nI i), .int (nI q)]) (rest := []) X (c_X6_cellOf l hl0 G _ (a := a) (i := i) (p0 := q) ) (va_cwS 3 hts gX6_find_X6_cellOf rfl rfl rfl (by decide +kernel) ⟨Nat.le_of_ble_eq_true rfl, Nat.le_of_ble_eq_true rfl⟩) ⟨b_blind, (fun U9 hU9 hW9 => ⟨rfl, b_pre E Z w [] (by decide) rfl b_nil U9 hU9 hW9⟩)⟩ rfl rfl hl.1 rfl (lv_room (Nat.le_of_ble_eq_true rfl)) dX6_find_144 ⟨Nat.le_of_ble_eq_true rfl, Nat.le_of_ble_eq_true rfl⟩) b_nil [] (fun _ => rfl) rfl (fun r144_366 u144_366 H locs hr144_366 w => ?_)
                                  have w : bSt G vwCl [M] s [(M, .inr (6, [.int (nI td), .int (nI nA), .int (nI nJ), .ref yA, .ref yJ, .ref yg, .int (nI dn), .ref yw, .ref yc, .ref yv, .int (nI snt), .int (nI jd), .ref yr, .int (nI bn), .ref yC, .ref yD, .ref yF, .ref yS, .ref yV, .ref yH, .int (nI 0)])), (yA, .inl (G.2.1, 14, .inl fA)), (yJ, .inl (G.2.1, 10, .inl fJ)), (yC, .inl (G.2.1, 300, .inl bc)), (yD, .inl (G.2.1, 300, .inl bd)), (yF, .inl (G.2.1, 300, .inl bf))] _ _ := w
                                  subst hr144_366
                                  refine lv_istore (lv' := [(11, .int (nI (140 * q + (10 * a + i)))), (0, .ref M), (1, .int x), (2, .int y), (4, .int (nI t1)), (5, .int sn), (7, .int (nI l3)), (8, .int (nI q)), (9, .int (nI a)), (10, .int (nI i))]) hx hb dX6_find_147 hl (by decide) rfl (fun ls hl => ?_)
                                  refine lv_aload_n hx hb dX6_find_149 rfl (lv_at hl 1 rfl) ?_
                                  refine lv_iload hx hb dX6_find_150 (lv_at hl 8 rfl) ?_
                                  refine lv_iload_n hx hb dX6_find_152 rfl (lv_at hl 2 rfl) ?_
                                  refine lv_iconst (v := nI 0) hx hb dX6_find_153 (by decide) ?_
                                  refine b_calli w (va_runV (As := [.int (nI a), .int x, .int (nI 0)]) (rest := []) X (c_X6_isWithin_A l hl0 G _ (M := M) (k := a) (x := x) (td := td) (nA := nA) (nJ := nJ) (yA := yA) (yJ := yJ) (yg := yg) (dn := dn) (yw := yw) (yc := yc) (yv := yv) (snt := snt) (jd := jd) (yr := yr) (bn := bn) (yC := yC) (yD := yD) (yF := yF) (yS := yS) (yV := yV) (yH := yH) (th := nI 0) (fA := fA) (hnA := (by first | assumption | omega)) (hTA := (by first | assumption | omega)) (hk := (by first | assumption | omega))) (cwV 3 hts gX6_find_X6_isWithin rfl rfl rfl (by decide +kernel) ⟨Nat.le_of_ble_eq_true rfl, Nat.le_of_ble_eq_true rfl⟩) ⟨b_blind, b_recv E w (ci := 6) (q0 := 0) rfl rfl, (fun U9 hU9 hW9 => ⟨rfl, b_pre E Z w [0, 1] (by decide) rfl b_nil U9 hU9 hW9⟩)⟩ rfl rfl hl.1 rfl (lv_room (Nat.le_of_ble_eq_true rfl)) dX6_find_154 ⟨Nat.le_of_ble_eq_true rfl, Nat.le_of_ble_eq_true rfl⟩) b_nil [] (fun _ => rfl) rfl (fun r154_367 u154_367 H locs hr154_367 w => ?_)
                                  have w : bSt G vwCl [M] s [(M, .inr (6, [.int (nI td), .int (nI nA), .int (nI nJ), .ref yA, .ref yJ, .ref yg, .int (nI dn), .ref yw, .ref yc, .ref yv, .int (nI snt), .int (nI jd), .ref yr, .int (nI bn), .ref yC, .ref yD, .ref yF, .ref yS, .ref yV, .ref yH, .int (nI 0)])), (yA, .inl (G.2.1, 14, .inl fA)), (yJ, .inl (G.2.1, 10, .inl fJ)), (yC, .inl (G.2.1, 300, .inl bc)), (yD, .inl (G.2.1, 300, .inl bd)), (yF, .inl (G.2.1, 300, .inl bf))] _ _ := w
                                  subst hr154_367
                                  refine lv_if_eq (tgt := 201) hx hb dX6_find_157 (by decide) (fun c_157_368 => ?_) (fun c_157_368 => ?_)
                                  · have q_157_369 : (decide (x = -1) || wkB fA (fun j => decide (nI j = x)) nA (nI a)) = false := bI_0.mp c_157_368
                                    have hM : mMm fA nA fJ nJ bc bd bf bn td x y sn q a i = false := by simp [mMm, q_157_369]
                                    refine lv_iconst (v := nI 0) hx hb dX6_find_201 (by decide) ?_
                                    refine lv_istore (lv' := [(12, .int (nI 0)), (11, .int (nI (140 * q + (10 * a + i)))), (0, .ref M), (1, .int x), (2, .int y), (4, .int (nI t1)), (5, .int sn), (7, .int (nI l3)), (8, .int (nI q)), (9, .int (nI a)), (10, .int (nI i))]) hx hb dX6_find_202 hl (by decide) rfl (fun ls hl => ?_)
                                    refine lv_iload hx hb dX6_find_204 (lv_at hl 0 rfl) ?_
                                    refine lv_if_eq (tgt := 230) hx hb dX6_find_206 (by decide) (fun c_206_370 => ?_) (fun c_206_370 => ?_)
                                    · have hgn := srI_no (code := codeN q a) (l := l3) (show i < nJ by omega) hM
                                      refine lv_iload hx hb dX6_find_230 (lv_at hl 7 rfl) ?_
                                      refine lv_iload hx hb dX6_find_232 (lv_at hl 0 rfl) ?_
                                      refine lv_if_eq (tgt := 241) hx hb dX6_find_234 (by decide) (fun c_234_371 => ?_) (fun c_234_371 => ?_)
                                      · refine lv_iconst (v := nI 0) hx hb dX6_find_241 (by decide) ?_
                                        refine lv_isub hx hb dX6_find_242 ?_
                                        refine b_tp (show (nI l3) - (nI 0) = nI l3 from pk_sub (b := 0) (Nat.zero_le _)) ?_
                                        refine lv_istore (lv' := [(7, .int (nI l3)), (12, .int (nI 0)), (11, .int (nI (140 * q + (10 * a + i)))), (0, .ref M), (1, .int x), (2, .int y), (4, .int (nI t1)), (5, .int sn), (8, .int (nI q)), (9, .int (nI a)), (10, .int (nI i))]) hx hb dX6_find_243 hl (by decide) rfl (fun ls hl => ?_)
                                        refine lv_iinc (v := nI (i + 1)) (lv' := [(10, .int (nI (i + 1))), (7, .int (nI l3)), (12, .int (nI 0)), (11, .int (nI (140 * q + (10 * a + i)))), (0, .ref M), (1, .int x), (2, .int y), (4, .int (nI t1)), (5, .int sn), (8, .int (nI q)), (9, .int (nI a))]) hx hb dX6_find_245 hl (k := 10) rfl (nI_add i 1) (by decide) rfl (fun ls hl => ?_)
                                        refine lv_goto (tgt := 129) hx hb dX6_find_248 (by decide) ?_
                                        exact ih129 _ _ _ ⟨i + 1, l3, (by omega), (by omega), (by omega), hI1.trans hgn, w, lv_sub hl [4, 5, 6, 7, 8, 1, 9, 10, 0] rfl⟩
                                      · exact absurd (by decide) c_234_371
                                    · exact absurd (by decide) c_206_370
                                  · have q_157_369 : (decide (x = -1) || wkB fA (fun j => decide (nI j = x)) nA (nI a)) = true := bI_n0.mp c_157_368
                                    have m1 := q_157_369
                                    refine lv_aload_n hx hb dX6_find_160 rfl (lv_at hl 1 rfl) ?_
                                    refine lv_iload hx hb dX6_find_161 (lv_at hl 9 rfl) ?_
                                    refine lv_iload_n hx hb dX6_find_163 rfl (lv_at hl 3 rfl) ?_
                                    refine lv_iconst (v := nI 1) hx hb dX6_find_164 (by decide) ?_
                                    refine b_calli w (va_runV (As := [.int (nI i), .int y, .int (nI 1)]) (rest := []) X (c_X6_isWithin_J l hl0 G _ (M := M) (k := i) (x := y) (td := td) (nA := nA) (nJ := nJ) (yA := yA) (yJ := yJ) (yg := yg) (dn := dn) (yw := yw) (yc := yc) (yv := yv) (snt := snt) (jd := jd) (yr := yr) (bn := bn) (yC := yC) (yD := yD) (yF := yF) (yS := yS) (yV := yV) (yH := yH) (th := nI 0) (fJ := fJ) (hnJ := (by first | assumption | omega)) (hTJ := (by first | assumption | omega)) (hk := (by first | assumption | omega))) (cwV 3 hts gX6_find_X6_isWithin rfl rfl rfl (by decide +kernel) ⟨Nat.le_of_ble_eq_true rfl, Nat.le_of_ble_eq_true rfl⟩) ⟨b_blind, b_recv E w (ci := 6) (q0 := 0) rfl rfl, (fun U9 hU9 hW9 => ⟨rfl, b_pre E Z w [0, 2] (by decide) rfl b_nil U9 hU9 hW9⟩)⟩ rfl rfl hl.1 rfl (lv_room (Nat.le_of_ble_eq_true rfl)) dX6_find_165 ⟨Nat.le_of_ble_eq_true rfl, Nat.le_of_ble_eq_true rfl⟩) b_nil [] (fun _ => rfl) rfl (fun r165_372 u165_372 H locs hr165_372 w => ?_)
                                    have w : bSt G vwCl [M] s [(M, .inr (6, [.int (nI td), .int (nI nA), .int (nI nJ), .ref yA, .ref yJ, .ref yg, .int (nI dn), .ref yw, .ref yc, .ref yv, .int (nI snt), .int (nI jd), .ref yr, .int (nI bn), .ref yC, .ref yD, .ref yF, .ref yS, .ref yV, .ref yH, .int (nI 0)])), (yA, .inl (G.2.1, 14, .inl fA)), (yJ, .inl (G.2.1, 10, .inl fJ)), (yC, .inl (G.2.1, 300, .inl bc)), (yD, .inl (G.2.1, 300, .inl bd)), (yF, .inl (G.2.1, 300, .inl bf))] _ _ := w
                                    subst hr165_372
                                    refine lv_if_eq (tgt := 201) hx hb dX6_find_168 (by decide) (fun c_168_373 => ?_) (fun c_168_373 => ?_)
                                    · have q_168_374 : (decide (y = -1) || wkB fJ (fun j => decide (nI j = y)) nJ (nI i)) = false := bI_0.mp c_168_373
                                      have hM : mMm fA nA fJ nJ bc bd bf bn td x y sn q a i = false := by simp [mMm, q_168_374]
                                      refine lv_iconst (v := nI 0) hx hb dX6_find_201 (by decide) ?_
                                      refine lv_istore (lv' := [(12, .int (nI 0)), (11, .int (nI (140 * q + (10 * a + i)))), (0, .ref M), (1, .int x), (2, .int y), (4, .int (nI t1)), (5, .int sn), (7, .int (nI l3)), (8, .int (nI q)), (9, .int (nI a)), (10, .int (nI i))]) hx hb dX6_find_202 hl (by decide) rfl (fun ls hl => ?_)
                                      refine lv_iload hx hb dX6_find_204 (lv_at hl 0 rfl) ?_
                                      refine lv_if_eq (tgt := 230) hx hb dX6_find_206 (by decide) (fun c_206_375 => ?_) (fun c_206_375 => ?_)
                                      · have hgn := srI_no (code := codeN q a) (l := l3) (show i < nJ by omega) hM
                                        refine lv_iload hx hb dX6_find_230 (lv_at hl 7 rfl) ?_
                                        refine lv_iload hx hb dX6_find_232 (lv_at hl 0 rfl) ?_
                                        refine lv_if_eq (tgt := 241) hx hb dX6_find_234 (by decide) (fun c_234_376 => ?_) (fun c_234_376 => ?_)
                                        · refine lv_iconst (v := nI 0) hx hb dX6_find_241 (by decide) ?_
                                          refine lv_isub hx hb dX6_find_242 ?_
                                          refine b_tp (show (nI l3) - (nI 0) = nI l3 from pk_sub (b := 0) (Nat.zero_le _)) ?_
                                          refine lv_istore (lv' := [(7, .int (nI l3)), (12, .int (nI 0)), (11, .int (nI (140 * q + (10 * a + i)))), (0, .ref M), (1, .int x), (2, .int y), (4, .int (nI t1)), (5, .int sn), (8, .int (nI q)), (9, .int (nI a)), (10, .int (nI i))]) hx hb dX6_find_243 hl (by decide) rfl (fun ls hl => ?_)
                                          refine lv_iinc (v := nI (i + 1)) (lv' := [(10, .int (nI (i + 1))), (7, .int (nI l3)), (12, .int (nI 0)), (11, .int (nI (140 * q + (10 * a + i)))), (0, .ref M), (1, .int x), (2, .int y), (4, .int (nI t1)), (5, .int sn), (8, .int (nI q)), (9, .int (nI a))]) hx hb dX6_find_245 hl (k := 10) rfl (nI_add i 1) (by decide) rfl (fun ls hl => ?_)
                                          refine lv_goto (tgt := 129) hx hb dX6_find_248 (by decide) ?_
                                          exact ih129 _ _ _ ⟨i + 1, l3, (by omega), (by omega), (by omega), hI1.trans hgn, w, lv_sub hl [4, 5, 6, 7, 8, 1, 9, 10, 0] rfl⟩
                                        · exact absurd (by decide) c_234_376
                                      · exact absurd (by decide) c_206_375
                                    · have q_168_374 : (decide (y = -1) || wkB fJ (fun j => decide (nI j = y)) nJ (nI i)) = true := bI_n0.mp c_168_373
                                      have m2 := q_168_374
                                      refine lv_aload_n hx hb dX6_find_171 rfl (lv_at hl 1 rfl) ?_
                                      refine lv_iload hx hb dX6_find_172 (lv_at hl 0 rfl) ?_
                                      refine lv_aload_n hx hb dX6_find_174 rfl (lv_at hl 1 rfl) ?_
                                      refine b_get X E w 0 rfl rfl 0 (by decide) iX6 (by decide +kernel) rfl rfl dX6_find_175 ?_
                                      refine b_calli w (va_runV (As := [.int (nI (140 * q + (10 * a + i))), .int (nI td)]) (rest := []) X (c_X6_figureOn l hl0 G _ (M := M) (x := nI (140 * q + (10 * a + i))) (d := nI td) (td := td) (nA := nA) (nJ := nJ) (yA := yA) (yJ := yJ) (yg := yg) (dn := dn) (yw := yw) (yc := yc) (yv := yv) (snt := snt) (jd := jd) (yr := yr) (bn := bn) (yC := yC) (yD := yD) (yF := yF) (yS := yS) (yV := yV) (yH := yH) (th := nI 0) (bc := bc) (bd := bd) (bf := bf) (hbn := (by first | assumption | omega))) (cwV 2 hts gX6_find_X6_figureOn rfl rfl rfl (by decide +kernel) ⟨Nat.le_of_ble_eq_true rfl, Nat.le_of_ble_eq_true rfl⟩) ⟨b_blind, b_recv E w (ci := 6) (q0 := 0) rfl rfl, (fun U9 hU9 hW9 => ⟨rfl, b_pre E Z w [0, 3, 4, 5] (by decide) rfl b_nil U9 hU9 hW9⟩)⟩ rfl rfl hl.1 rfl (lv_room (Nat.le_of_ble_eq_true rfl)) dX6_find_178 ⟨Nat.le_of_ble_eq_true rfl, Nat.le_of_ble_eq_true rfl⟩) b_nil [] (fun _ => rfl) rfl (fun r178_377 u178_377 H locs hr178_377 w => ?_)
                                      have w : bSt G vwCl [M] s [(M, .inr (6, [.int (nI td), .int (nI nA), .int (nI nJ), .ref yA, .ref yJ, .ref yg, .int (nI dn), .ref yw, .ref yc, .ref yv, .int (nI snt), .int (nI jd), .ref yr, .int (nI bn), .ref yC, .ref yD, .ref yF, .ref yS, .ref yV, .ref yH, .int (nI 0)])), (yA, .inl (G.2.1, 14, .inl fA)), (yJ, .inl (G.2.1, 10, .inl fJ)), (yC, .inl (G.2.1, 300, .inl bc)), (yD, .inl (G.2.1, 300, .inl bd)), (yF, .inl (G.2.1, 300, .inl bf))] _ _ := w
                                      subst hr178_377
                                      refine lv_ldc (v := MIS) hx hb hown (hts (.constant RX6 86 (-2000000001)) (by decide +kernel)) dX6_find_181 ?_
                                      refine lv_icmp_eq (tgt := 201) hx hb dX6_find_183 (by decide) (fun c_183_378 => ?_) (fun c_183_378 => ?_)
                                      · have hM : mMm fA nA fJ nJ bc bd bf bn td x y sn q a i = false := by simp [mMm, c_183_378]
                                        refine lv_iconst (v := nI 0) hx hb dX6_find_201 (by decide) ?_
                                        refine lv_istore (lv' := [(12, .int (nI 0)), (11, .int (nI (140 * q + (10 * a + i)))), (0, .ref M), (1, .int x), (2, .int y), (4, .int (nI t1)), (5, .int sn), (7, .int (nI l3)), (8, .int (nI q)), (9, .int (nI a)), (10, .int (nI i))]) hx hb dX6_find_202 hl (by decide) rfl (fun ls hl => ?_)
                                        refine lv_iload hx hb dX6_find_204 (lv_at hl 0 rfl) ?_
                                        refine lv_if_eq (tgt := 230) hx hb dX6_find_206 (by decide) (fun c_206_379 => ?_) (fun c_206_379 => ?_)
                                        · have hgn := srI_no (code := codeN q a) (l := l3) (show i < nJ by omega) hM
                                          refine lv_iload hx hb dX6_find_230 (lv_at hl 7 rfl) ?_
                                          refine lv_iload hx hb dX6_find_232 (lv_at hl 0 rfl) ?_
                                          refine lv_if_eq (tgt := 241) hx hb dX6_find_234 (by decide) (fun c_234_380 => ?_) (fun c_234_380 => ?_)
                                          · refine lv_iconst (v := nI 0) hx hb dX6_find_241 (by decide) ?_
                                            refine lv_isub hx hb dX6_find_242 ?_
                                            refine b_tp (show (nI l3) - (nI 0) = nI l3 from pk_sub (b := 0) (Nat.zero_le _)) ?_
                                            refine lv_istore (lv' := [(7, .int (nI l3)), (12, .int (nI 0)), (11, .int (nI (140 * q + (10 * a + i)))), (0, .ref M), (1, .int x), (2, .int y), (4, .int (nI t1)), (5, .int sn), (8, .int (nI q)), (9, .int (nI a)), (10, .int (nI i))]) hx hb dX6_find_243 hl (by decide) rfl (fun ls hl => ?_)
                                            refine lv_iinc (v := nI (i + 1)) (lv' := [(10, .int (nI (i + 1))), (7, .int (nI l3)), (12, .int (nI 0)), (11, .int (nI (140 * q + (10 * a + i)))), (0, .ref M), (1, .int x), (2, .int y), (4, .int (nI t1)), (5, .int sn), (8, .int (nI q)), (9, .int (nI a))]) hx hb dX6_find_245 hl (k := 10) rfl (nI_add i 1) (by decide) rfl (fun ls hl => ?_)
                                            refine lv_goto (tgt := 129) hx hb dX6_find_248 (by decide) ?_
                                            exact ih129 _ _ _ ⟨i + 1, l3, (by omega), (by omega), (by omega), hI1.trans hgn, w, lv_sub hl [4, 5, 6, 7, 8, 1, 9, 10, 0] rfl⟩
                                          · exact absurd (by decide) c_234_380
                                        · exact absurd (by decide) c_206_379
                                      · have m3 := c_183_378
                                        refine lv_aload_n hx hb dX6_find_186 rfl (lv_at hl 1 rfl) ?_
                                        refine lv_iload hx hb dX6_find_187 (lv_at hl 0 rfl) ?_
                                        refine b_calli w (va_runV (As := [.int (nI (140 * q + (10 * a + i)))]) (rest := []) X (c_X6_toldOn l hl0 G _ (M := M) (x := nI (140 * q + (10 * a + i))) (td := td) (nA := nA) (nJ := nJ) (yA := yA) (yJ := yJ) (yg := yg) (dn := dn) (yw := yw) (yc := yc) (yv := yv) (snt := snt) (jd := jd) (yr := yr) (bn := bn) (yC := yC) (yD := yD) (yF := yF) (yS := yS) (yV := yV) (yH := yH) (th := nI 0) (bc := bc) (bd := bd) (hbn := (by first | assumption | omega))) (cwV 1 hts gX6_find_X6_toldOn rfl rfl rfl (by decide +kernel) ⟨Nat.le_of_ble_eq_true rfl, Nat.le_of_ble_eq_true rfl⟩) ⟨b_blind, b_recv E w (ci := 6) (q0 := 0) rfl rfl, (fun U9 hU9 hW9 => ⟨rfl, b_pre E Z w [0, 3, 4] (by decide) rfl b_nil U9 hU9 hW9⟩)⟩ rfl rfl hl.1 rfl (lv_room (Nat.le_of_ble_eq_true rfl)) dX6_find_189 ⟨Nat.le_of_ble_eq_true rfl, Nat.le_of_ble_eq_true rfl⟩) b_nil [] (fun _ => rfl) rfl (fun r189_381 u189_381 H locs hr189_381 w => ?_)
                                        have w : bSt G vwCl [M] s [(M, .inr (6, [.int (nI td), .int (nI nA), .int (nI nJ), .ref yA, .ref yJ, .ref yg, .int (nI dn), .ref yw, .ref yc, .ref yv, .int (nI snt), .int (nI jd), .ref yr, .int (nI bn), .ref yC, .ref yD, .ref yF, .ref yS, .ref yV, .ref yH, .int (nI 0)])), (yA, .inl (G.2.1, 14, .inl fA)), (yJ, .inl (G.2.1, 10, .inl fJ)), (yC, .inl (G.2.1, 300, .inl bc)), (yD, .inl (G.2.1, 300, .inl bd)), (yF, .inl (G.2.1, 300, .inl bf))] _ _ := w
                                        subst hr189_381
                                        refine lv_iload hx hb dX6_find_192 (lv_at hl 5 rfl) ?_
                                        refine lv_icmp_lt (tgt := 201) hx hb dX6_find_194 (by decide) (fun c_194_382 => ?_) (fun c_194_382 => ?_)
                                        · have hM : mMm fA nA fJ nJ bc bd bf bn td x y sn q a i = false := by simp [mMm, c_194_382]
                                          refine lv_iconst (v := nI 0) hx hb dX6_find_201 (by decide) ?_
                                          refine lv_istore (lv' := [(12, .int (nI 0)), (11, .int (nI (140 * q + (10 * a + i)))), (0, .ref M), (1, .int x), (2, .int y), (4, .int (nI t1)), (5, .int sn), (7, .int (nI l3)), (8, .int (nI q)), (9, .int (nI a)), (10, .int (nI i))]) hx hb dX6_find_202 hl (by decide) rfl (fun ls hl => ?_)
                                          refine lv_iload hx hb dX6_find_204 (lv_at hl 0 rfl) ?_
                                          refine lv_if_eq (tgt := 230) hx hb dX6_find_206 (by decide) (fun c_206_383 => ?_) (fun c_206_383 => ?_)
                                          · have hgn := srI_no (code := codeN q a) (l := l3) (show i < nJ by omega) hM
                                            refine lv_iload hx hb dX6_find_230 (lv_at hl 7 rfl) ?_
                                            refine lv_iload hx hb dX6_find_232 (lv_at hl 0 rfl) ?_
                                            refine lv_if_eq (tgt := 241) hx hb dX6_find_234 (by decide) (fun c_234_384 => ?_) (fun c_234_384 => ?_)
                                            · refine lv_iconst (v := nI 0) hx hb dX6_find_241 (by decide) ?_
                                              refine lv_isub hx hb dX6_find_242 ?_
                                              refine b_tp (show (nI l3) - (nI 0) = nI l3 from pk_sub (b := 0) (Nat.zero_le _)) ?_
                                              refine lv_istore (lv' := [(7, .int (nI l3)), (12, .int (nI 0)), (11, .int (nI (140 * q + (10 * a + i)))), (0, .ref M), (1, .int x), (2, .int y), (4, .int (nI t1)), (5, .int sn), (8, .int (nI q)), (9, .int (nI a)), (10, .int (nI i))]) hx hb dX6_find_243 hl (by decide) rfl (fun ls hl => ?_)
                                              refine lv_iinc (v := nI (i + 1)) (lv' := [(10, .int (nI (i + 1))), (7, .int (nI l3)), (12, .int (nI 0)), (11, .int (nI (140 * q + (10 * a + i)))), (0, .ref M), (1, .int x), (2, .int y), (4, .int (nI t1)), (5, .int sn), (8, .int (nI q)), (9, .int (nI a))]) hx hb dX6_find_245 hl (k := 10) rfl (nI_add i 1) (by decide) rfl (fun ls hl => ?_)
                                              refine lv_goto (tgt := 129) hx hb dX6_find_248 (by decide) ?_
                                              exact ih129 _ _ _ ⟨i + 1, l3, (by omega), (by omega), (by omega), hI1.trans hgn, w, lv_sub hl [4, 5, 6, 7, 8, 1, 9, 10, 0] rfl⟩
                                            · exact absurd (by decide) c_234_384
                                          · exact absurd (by decide) c_206_383
                                        · have hM : mMm fA nA fJ nJ bc bd bf bn td x y sn q a i = true := by simp only [mMm, m1, m2]; simp [m3, c_194_382]
                                          refine lv_iconst (v := nI 1) hx hb dX6_find_197 (by decide) ?_
                                          refine lv_goto (tgt := 202) hx hb dX6_find_198 (by decide) ?_
                                          refine lv_istore (lv' := [(12, .int (nI 1)), (11, .int (nI (140 * q + (10 * a + i)))), (0, .ref M), (1, .int x), (2, .int y), (4, .int (nI t1)), (5, .int sn), (7, .int (nI l3)), (8, .int (nI q)), (9, .int (nI a)), (10, .int (nI i))]) hx hb dX6_find_202 hl (by decide) rfl (fun ls hl => ?_)
                                          refine lv_iload hx hb dX6_find_204 (lv_at hl 0 rfl) ?_
                                          refine lv_if_eq (tgt := 230) hx hb dX6_find_206 (by decide) (fun c_206_385 => ?_) (fun c_206_385 => ?_)
                                          · exact absurd c_206_385 (by decide)
                                          · refine lv_iload hx hb dX6_find_209 (lv_at hl 7 rfl) ?_
                                            refine lv_if_ne (tgt := 230) hx hb dX6_find_211 (by decide) (fun c_211_386 => ?_) (fun c_211_386 => ?_)
                                            · have q_211_387 : ¬ l3 = 0 := fun h9 => c_211_386 ((nI_z (by omega)).mpr h9)
                                              have hgn := srI_pass (code := codeN q a) (show i < nJ by omega) hM q_211_387
                                              have q211 := q_211_387
                                              refine lv_iload hx hb dX6_find_230 (lv_at hl 7 rfl) ?_
                                              refine lv_iload hx hb dX6_find_232 (lv_at hl 0 rfl) ?_
                                              refine lv_if_eq (tgt := 241) hx hb dX6_find_234 (by decide) (fun c_234_388 => ?_) (fun c_234_388 => ?_)
                                              · exact absurd c_234_388 (by decide)
                                              · refine lv_iconst (v := nI 1) hx hb dX6_find_237 (by decide) ?_
                                                refine lv_goto (tgt := 242) hx hb dX6_find_238 (by decide) ?_
                                                refine lv_isub hx hb dX6_find_242 ?_
                                                refine b_tp (show (nI l3) - (nI 1) = nI (l3 - 1) from pk_sub (by omega)) ?_
                                                refine lv_istore (lv' := [(7, .int (nI (l3 - 1))), (12, .int (nI 1)), (11, .int (nI (140 * q + (10 * a + i)))), (0, .ref M), (1, .int x), (2, .int y), (4, .int (nI t1)), (5, .int sn), (8, .int (nI q)), (9, .int (nI a)), (10, .int (nI i))]) hx hb dX6_find_243 hl (by decide) rfl (fun ls hl => ?_)
                                                refine lv_iinc (v := nI (i + 1)) (lv' := [(10, .int (nI (i + 1))), (7, .int (nI (l3 - 1))), (12, .int (nI 1)), (11, .int (nI (140 * q + (10 * a + i)))), (0, .ref M), (1, .int x), (2, .int y), (4, .int (nI t1)), (5, .int sn), (8, .int (nI q)), (9, .int (nI a))]) hx hb dX6_find_245 hl (k := 10) rfl (nI_add i 1) (by decide) rfl (fun ls hl => ?_)
                                                refine lv_goto (tgt := 129) hx hb dX6_find_248 (by decide) ?_
                                                exact ih129 _ _ _ ⟨i + 1, l3 - 1, (by omega), (by omega), (by omega), hI1.trans hgn, w, lv_sub hl [4, 5, 6, 7, 8, 1, 9, 10, 0] rfl⟩
                                            · have q_211_387 : l3 = 0 := (nI_z (by omega)).mp c_211_386
                                              have hh := srI_hit (code := codeN q a) (show i < nJ by omega) hM q_211_387
                                              refine lv_sipush (v := nI 1000) hx hb dX6_find_214 (by decide) ?_
                                              refine lv_iload hx hb dX6_find_217 (lv_at hl 8 rfl) ?_
                                              refine lv_imul hx hb dX6_find_219 ?_
                                              refine b_tp (show (nI 1000) * (nI q) = nI (1000 * q) from pk_mul 1000 q) ?_
                                              refine lv_bipush (v := nI 20) hx hb dX6_find_220 (by decide) ?_
                                              refine lv_iload hx hb dX6_find_222 (lv_at hl 9 rfl) ?_
                                              refine lv_imul hx hb dX6_find_224 ?_
                                              refine b_tp (show (nI 20) * (nI a) = nI (20 * a) from pk_mul 20 a) ?_
                                              refine lv_iadd hx hb dX6_find_225 ?_
                                              refine b_tp (show (nI (1000 * q)) + (nI (20 * a)) = nI ((1000 * q) + 20 * a) from nI_add (1000 * q) (20 * a)) ?_
                                              refine lv_iload hx hb dX6_find_226 (lv_at hl 10 rfl) ?_
                                              refine lv_iadd hx hb dX6_find_228 ?_
                                              refine b_tp (show (nI ((1000 * q) + 20 * a)) + (nI i) = nI ((1000 * q) + 20 * a + i) from nI_add ((1000 * q) + 20 * a) i) ?_
                                              exact W.iret (v := nI ((1000 * q) + 20 * a + i)) hx hb hr (fun t9 ht9 hW9 => ⟨⟨nI ((1000 * q) + 20 * a + i), (), rfl, by rw [hT, ef, et, epl]; exact (congrArg srR (hP1.trans (srA_r (by omega) (hA1.trans (srA_r (by omega) (hI1.trans hh)))))).symm, by show va_P G.1 vwCl _ t9.heap; rw [ht9]; exact b_cg (by rw [hT]) (w.1.sub (ws' := [(M, .inr (6, [.int (nI td), .int (nI nA), .int (nI nJ), .ref yA, .ref yJ, .ref yg, .int (nI dn), .ref yw, .ref yc, .ref yv, .int (nI snt), .int (nI jd), .ref yr, .int (nI bn), .ref yC, .ref yD, .ref yF, .ref yS, .ref yV, .ref yH, .int (nI 0)]))]) [0] rfl)⟩, w.2.1.F ht9⟩) w.2.1.2.2 dX6_find_229
                    · exact absurd (by decide) c_95_359
                  · have q_80_358 : (sOk sn) = false := bI_0.mp c_80_357
                    have hT : th2 (tPat nA x && tPat nJ y && !decide (pl < 0)) (tHas 12 f && tHas 12 t0 && !decide (t0 < f) && sOk sn) = 2 := by simp [th2, h3, q_80_358]
                    refine lv_iconst (v := nI 2) hx hb dX6_find_83 (by decide) ?_
                    refine lv_goto (tgt := 88) hx hb dX6_find_84 (by decide) ?_
                    refine b_put (ty := .int) X E w (Or.inl (List.mem_of_getElem? (i := 0) rfl)) 0 rfl rfl 20 (by decide) iX6 tyX6 tyX6_ok nmX6 (by decide +kernel) rfl rfl (by decide +kernel) rfl rfl (Nat.le_of_ble_eq_true rfl) dX6_find_88 (fun H locs w => ?_)
                    have w : bSt G vwCl [M] s [(M, .inr (6, [.int (nI td), .int (nI nA), .int (nI nJ), .ref yA, .ref yJ, .ref yg, .int (nI dn), .ref yw, .ref yc, .ref yv, .int (nI snt), .int (nI jd), .ref yr, .int (nI bn), .ref yC, .ref yD, .ref yF, .ref yS, .ref yV, .ref yH, .int (nI 2)])), (yA, .inl (G.2.1, 14, .inl fA)), (yJ, .inl (G.2.1, 10, .inl fJ)), (yC, .inl (G.2.1, 300, .inl bc)), (yD, .inl (G.2.1, 300, .inl bd)), (yF, .inl (G.2.1, 300, .inl bf))] _ _ := w
                    refine lv_aload_n hx hb dX6_find_91 rfl (lv_at hl 0 rfl) ?_
                    refine b_get X E w 0 rfl rfl 20 (by decide) iX6 (by decide +kernel) rfl rfl dX6_find_92 ?_
                    refine lv_if_le (tgt := 100) hx hb dX6_find_95 (by decide) (fun c_95_389 => ?_) (fun c_95_389 => ?_)
                    · exact absurd c_95_389 (by decide)
                    · refine lv_iconst (v := nI 0) hx hb dX6_find_98 (by decide) ?_
                      exact W.iret (v := nI 0) hx hb hr (fun t9 ht9 hW9 => ⟨⟨nI 0, (), rfl, by rw [hT]; rfl, by show va_P G.1 vwCl _ t9.heap; rw [ht9]; exact b_cg (by rw [hT]) (w.1.sub (ws' := [(M, .inr (6, [.int (nI td), .int (nI nA), .int (nI nJ), .ref yA, .ref yJ, .ref yg, .int (nI dn), .ref yw, .ref yc, .ref yv, .int (nI snt), .int (nI jd), .ref yr, .int (nI bn), .ref yC, .ref yD, .ref yF, .ref yS, .ref yV, .ref yH, .int (nI 2)]))]) [0] rfl)⟩, w.2.1.F ht9⟩) w.2.1.2.2 dX6_find_99
            · exact absurd (by decide) c_44_347
          · have hT : th2 (tPat nA x && tPat nJ y && !decide (pl < 0)) (tHas 12 f && tHas 12 t0 && !decide (t0 < f) && sOk sn) = 1 := by simp [th2, i_lt_of_nle c_29_346]
            refine lv_iconst (v := nI 1) hx hb dX6_find_32 (by decide) ?_
            refine lv_goto (tgt := 37) hx hb dX6_find_33 (by decide) ?_
            have w := b_wide [M] b_nil w
            refine b_put (ty := .int) X E w (Or.inl (List.mem_of_getElem? (i := 0) rfl)) 0 rfl rfl 20 (by decide) iX6 tyX6 tyX6_ok nmX6 (by decide +kernel) rfl rfl (by decide +kernel) rfl rfl (Nat.le_of_ble_eq_true rfl) dX6_find_37 (fun H locs w => ?_)
            have w : bSt G vwCl [M] s [(M, .inr (6, [.int (nI td), .int (nI nA), .int (nI nJ), .ref yA, .ref yJ, .ref yg, .int (nI dn), .ref yw, .ref yc, .ref yv, .int (nI snt), .int (nI jd), .ref yr, .int (nI bn), .ref yC, .ref yD, .ref yF, .ref yS, .ref yV, .ref yH, .int (nI 1)])), (yA, .inl (G.2.1, 14, .inl fA)), (yJ, .inl (G.2.1, 10, .inl fJ)), (yC, .inl (G.2.1, 300, .inl bc)), (yD, .inl (G.2.1, 300, .inl bd)), (yF, .inl (G.2.1, 300, .inl bf))] _ _ := w
            refine lv_aload_n hx hb dX6_find_40 rfl (lv_at hl 0 rfl) ?_
            refine b_get X E w 0 rfl rfl 20 (by decide) iX6 (by decide +kernel) rfl rfl dX6_find_41 ?_
            refine lv_if_le (tgt := 49) hx hb dX6_find_44 (by decide) (fun c_44_390 => ?_) (fun c_44_390 => ?_)
            · exact absurd c_44_390 (by decide)
            · refine lv_iconst (v := nI 0) hx hb dX6_find_47 (by decide) ?_
              exact W.iret (v := nI 0) hx hb hr (fun t9 ht9 hW9 => ⟨⟨nI 0, (), rfl, by rw [hT]; rfl, by show va_P G.1 vwCl _ t9.heap; rw [ht9]; exact b_cg (by rw [hT]) (w.1.sub (ws' := [(M, .inr (6, [.int (nI td), .int (nI nA), .int (nI nJ), .ref yA, .ref yJ, .ref yg, .int (nI dn), .ref yw, .ref yc, .ref yv, .int (nI snt), .int (nI jd), .ref yr, .int (nI bn), .ref yC, .ref yD, .ref yF, .ref yS, .ref yV, .ref yH, .int (nI 1)]))]) [0] rfl)⟩, w.2.1.F ht9⟩) w.2.1.2.2 dX6_find_48
