/-! the law's own act and find: a call that is refused, a call that is done -/
def hs_r (c : Nat) : Int32 := if c = 1 then -71 else if c = 2 then -72 else -73
theorem hs_t2n3 (p q : Bool) : ¬ hs_t2 1 2 p q = 3 := by cases p <;> cases q <;> decide
section HSR
variable {s : State} {G : bG} {ms : List Nat} {a : Nat → Nat} {x : hs_E} {i : hs_I} {H : Heap} {locs : List Loc} {nw : List Cond} {sw : List (String × Nat × String)}
theorem hs_recv (E : bE G vwCl nw sw s) (w : bSt G vwCl ms s (hs_W G a x i) H locs) : ∃ cell : Cell, H[a 0]? = some cell ∧ cell.vm.isStatics = false ∧ s.vm.findClass RX5 = some cell.cls := b_recv E w (ci := 5) (q0 := 0) rfl rfl
end HSR
set_option maxHeartbeats 4000000 in
set_option maxRecDepth 100000 in
theorem aF_area (l : Launch) (hl0 : l.stackTraces = false) (G : bG) (sz : Nat) (a : Nat → Nat) (x : hs_E) (i : hs_I) (hi : hs_Inv x i) (p1 p2 p3 p4 p5 : Int32) (c0 : Nat) (hT : hT_area x p1 = c0) (hc : ¬ c0 = 0) : Met l yL_act wsL_act ({ frames := 8, cells := 2, slots := 12, locals := 132 }) (va_Pc [.ref (a 0), .int (nI 0), .int p1, .int p2, .int p3, .int p4, .int p5] (bPre G vwCl bNW bSW sz (hs_W G a x i) (hs_M a))) (va_Qi (fun (r : Int32) (j : hs_I) => hs_Inv x j ∧ r = hs_r c0) (fun (j : hs_I) (tS : State) => va_P G.1 vwCl (hs_W G a x j) tS.heap) (Aw (hs_M a) sz)) 2 12 (Aw (hs_M a) sz) := by
  refine va_MetW (cc := cL_act) (maxL := 8) (ret := (some .int)) (by decide) rfl ?_
  intro p e s m args below meth c s₁ B hml hv
  obtain ⟨rfl, hsz, hP, hD, E, Z⟩ := hv
  have hts := atoms_spec (ws := wsL_act) B.pre
  have hown : s.vm.findClass RL = some m.cls := findClass_of_methodNamed B.named
  have X : CallFix p m c cL_act 8 s _ wsL_act RL := ⟨B.exec, B.bytes, hml, hown, hts⟩
  have hx := B.exec
  have hb := B.bytes
  have hr0 := B.returns
  have hlocks := B.notSynchronized
  have hts2 : ∀ w, w ∈ wsL_act → w ∈ wsL_act := fun _ h9 => h9
  have htab : c.exceptionTable.toList = tableOf [(0, 288, 289, 65), (0, 288, 294, 67), (0, 288, 299, 69)] := vx_table (x := yL_act) B (hts _ List.mem_cons_self)
  subst hsz
  have w : bSt G vwCl [] s (hs_W G a x i) s.heap [] := ⟨hP, va_S.rf, hD⟩
  have w := b_wide (hs_M a) b_nil w
  have hm9 : ∀ q ∈ hs_M a, Aw (hs_M a) s.heap.size q := fun q h => Or.inl h
  have Z9 : bZ (hs_M a) s := Z
  have hI := hi
  have hl := lv_entry ([.ref (a 0), .int (nI 0), .int p1, .int p2, .int p3, .int p4, .int p5]) (n := 8) (Nat.le_of_ble_eq_true rfl)
  rw [lg_entry_eq]
  generalize (lg_sl ([.ref (a 0), .int (nI 0), .int p1, .int p2, .int p3, .int p4, .int p5]) ++ List.replicate (8 - (lg_sl ([.ref (a 0), .int (nI 0), .int p1, .int p2, .int p3, .int p4, .int p5])).length) Slot.unset).toArray = ls at hl ⊢
  have hl : lv_has ls 8 [(0, .ref (a 0)), (1, .int (nI 0)), (2, .int p1), (3, .int p2), (4, .int p3), (5, .int p4), (6, .int p5)] := hl
  refine lv_iload_n hx hb dL_act_0 rfl (lv_at hl 1 rfl) ?_
  refine lv_if_ne (tgt := 12) hx hb dL_act_1 (by decide) (fun c9 => absurd rfl c9) (fun c9 => ?_)
  refine lv_aload_n hx hb dL_act_4 rfl (lv_at hl 0 rfl) ?_
  refine lv_iload_n hx hb dL_act_5 rfl (lv_at hl 2 rfl) ?_
  refine hs_xcalli w (vx_runV (As := [.int p1]) (rest := []) X (k_area l hl0 G _ a _ _ hI p1) (cwV 1 hts gL_act_X5_area rfl rfl rfl (by decide +kernel) ⟨Nat.le_of_ble_eq_true rfl, Nat.le_of_ble_eq_true rfl⟩) ⟨b_blind, hs_recv E w, fun U9 hU9 hW9 => ⟨rfl, hs_pre E Z9 w hm9 U9 hU9 hW9⟩⟩ rfl rfl hl.1 rfl (lv_room (Nat.le_of_ble_eq_true rfl)) dL_act_6 ⟨Nat.le_of_ble_eq_true rfl, Nat.le_of_ble_eq_true rfl⟩) hm9 (fun E9 ce9 q9 H9 locs9 hex w9 hce hcv hcl => ?_) (fun r i H locs hr w => ?_)
  · rcases hex with ⟨rfl, hx9⟩ | ⟨rfl, hx9⟩ | ⟨rfl, hx9⟩
    · have hcc : c0 = 1 := hT.symm.trans hx9
      refine vx_catch (name := "java/lang/IndexOutOfBoundsException") hown [] ⟨0, 288, 289, 65⟩ [⟨0, 288, 294, 67⟩, ⟨0, 288, 299, 69⟩] htab b_pn (by decide) (by decide) (hts (.classLink RL 65 "java/lang/IndexOutOfBoundsException") (by decide +kernel)) (va_Nw.use rfl (E.2.1 (.castable "java/lang/IndexOutOfBoundsException" "java/lang/IndexOutOfBoundsException") (by decide +kernel)).2) hce hcv hcl ?_
      have w := w9
      refine lv_astore (lv' := [(7, .ref q9), (0, .ref (a 0)), (1, .int (nI 0)), (2, .int p1), (3, .int p2), (4, .int p3), (5, .int p4), (6, .int p5)]) hx hb dL_act_289 hl (by decide) rfl (fun ls hl => ?_)
      refine lv_bipush (v := -71) hx hb dL_act_291 (by decide) ?_
      exact W.iret (v := -71) hx hb hr0 (fun t9 ht9 hW9 => ⟨⟨-71, i, rfl, ⟨hI, by rw [hcc]; rfl⟩, (by show va_P G.1 vwCl (hs_W G a x i) t9.heap; rw [ht9]; exact w.1)⟩, w.2.1.F ht9⟩) w.2.1.2.2 dL_act_293
    · have hcc : c0 = 2 := hT.symm.trans hx9
      refine vx_catch (name := "java/lang/IllegalArgumentException") hown [⟨0, 288, 289, 65⟩] ⟨0, 288, 294, 67⟩ [⟨0, 288, 299, 69⟩] htab (b_pc (Or.inr ⟨by decide, "java/lang/IndexOutOfBoundsException", hts (.classLink RL 65 "java/lang/IndexOutOfBoundsException") (by decide +kernel), va_Nc.of (args := #[]) (E.2.1 (.not (.castable "java/lang/IllegalArgumentException" "java/lang/IndexOutOfBoundsException")) (by decide +kernel)).2⟩) b_pn) (by decide) (by decide) (hts (.classLink RL 67 "java/lang/IllegalArgumentException") (by decide +kernel)) (va_Nw.use rfl (E.2.1 (.castable "java/lang/IllegalArgumentException" "java/lang/IllegalArgumentException") (by decide +kernel)).2) hce hcv hcl ?_
      have w := w9
      refine lv_astore (lv' := [(7, .ref q9), (0, .ref (a 0)), (1, .int (nI 0)), (2, .int p1), (3, .int p2), (4, .int p3), (5, .int p4), (6, .int p5)]) hx hb dL_act_294 hl (by decide) rfl (fun ls hl => ?_)
      refine lv_bipush (v := -72) hx hb dL_act_296 (by decide) ?_
      exact W.iret (v := -72) hx hb hr0 (fun t9 ht9 hW9 => ⟨⟨-72, i, rfl, ⟨hI, by rw [hcc]; rfl⟩, (by show va_P G.1 vwCl (hs_W G a x i) t9.heap; rw [ht9]; exact w.1)⟩, w.2.1.F ht9⟩) w.2.1.2.2 dL_act_298
    · have hcc : c0 = 3 := hT.symm.trans hx9
      refine vx_catch (name := "java/lang/IllegalStateException") hown [⟨0, 288, 289, 65⟩, ⟨0, 288, 294, 67⟩] ⟨0, 288, 299, 69⟩ [] htab (b_pc (Or.inr ⟨by decide, "java/lang/IndexOutOfBoundsException", hts (.classLink RL 65 "java/lang/IndexOutOfBoundsException") (by decide +kernel), va_Nc.of (args := #[]) (E.2.1 (.not (.castable "java/lang/IllegalStateException" "java/lang/IndexOutOfBoundsException")) (by decide +kernel)).2⟩) (b_pc (Or.inr ⟨by decide, "java/lang/IllegalArgumentException", hts (.classLink RL 67 "java/lang/IllegalArgumentException") (by decide +kernel), va_Nc.of (args := #[]) (E.2.1 (.not (.castable "java/lang/IllegalStateException" "java/lang/IllegalArgumentException")) (by decide +kernel)).2⟩) b_pn)) (by decide) (by decide) (hts (.classLink RL 69 "java/lang/IllegalStateException") (by decide +kernel)) (va_Nw.use rfl (E.2.1 (.castable "java/lang/IllegalStateException" "java/lang/IllegalStateException") (by decide +kernel)).2) hce hcv hcl ?_
      have w := w9
      refine lv_astore (lv' := [(7, .ref q9), (0, .ref (a 0)), (1, .int (nI 0)), (2, .int p1), (3, .int p2), (4, .int p3), (5, .int p4), (6, .int p5)]) hx hb dL_act_299 hl (by decide) rfl (fun ls hl => ?_)
      refine lv_bipush (v := -73) hx hb dL_act_301 (by decide) ?_
      exact W.iret (v := -73) hx hb hr0 (fun t9 ht9 hW9 => ⟨⟨-73, i, rfl, ⟨hI, by rw [hcc]; rfl⟩, (by show va_P G.1 vwCl (hs_W G a x i) t9.heap; rw [ht9]; exact w.1)⟩, w.2.1.F ht9⟩) w.2.1.2.2 dL_act_303
  · exact absurd (hT.symm.trans hr.2.1) hc
set_option maxHeartbeats 4000000 in
set_option maxRecDepth 100000 in
theorem aF_item (l : Launch) (hl0 : l.stackTraces = false) (G : bG) (sz : Nat) (a : Nat → Nat) (x : hs_E) (i : hs_I) (hi : hs_Inv x i) (p1 p2 p3 p4 p5 : Int32) (c0 : Nat) (hT : hT_item x p1 = c0) (hc : ¬ c0 = 0) : Met l yL_act wsL_act ({ frames := 8, cells := 2, slots := 12, locals := 132 }) (va_Pc [.ref (a 0), .int (nI 1), .int p1, .int p2, .int p3, .int p4, .int p5] (bPre G vwCl bNW bSW sz (hs_W G a x i) (hs_M a))) (va_Qi (fun (r : Int32) (j : hs_I) => hs_Inv x j ∧ r = hs_r c0) (fun (j : hs_I) (tS : State) => va_P G.1 vwCl (hs_W G a x j) tS.heap) (Aw (hs_M a) sz)) 2 12 (Aw (hs_M a) sz) := by
  refine va_MetW (cc := cL_act) (maxL := 8) (ret := (some .int)) (by decide) rfl ?_
  intro p e s m args below meth c s₁ B hml hv
  obtain ⟨rfl, hsz, hP, hD, E, Z⟩ := hv
  have hts := atoms_spec (ws := wsL_act) B.pre
  have hown : s.vm.findClass RL = some m.cls := findClass_of_methodNamed B.named
  have X : CallFix p m c cL_act 8 s _ wsL_act RL := ⟨B.exec, B.bytes, hml, hown, hts⟩
  have hx := B.exec
  have hb := B.bytes
  have hr0 := B.returns
  have hlocks := B.notSynchronized
  have hts2 : ∀ w, w ∈ wsL_act → w ∈ wsL_act := fun _ h9 => h9
  have htab : c.exceptionTable.toList = tableOf [(0, 288, 289, 65), (0, 288, 294, 67), (0, 288, 299, 69)] := vx_table (x := yL_act) B (hts _ List.mem_cons_self)
  subst hsz
  have w : bSt G vwCl [] s (hs_W G a x i) s.heap [] := ⟨hP, va_S.rf, hD⟩
  have w := b_wide (hs_M a) b_nil w
  have hm9 : ∀ q ∈ hs_M a, Aw (hs_M a) s.heap.size q := fun q h => Or.inl h
  have Z9 : bZ (hs_M a) s := Z
  have hI := hi
  have hl := lv_entry ([.ref (a 0), .int (nI 1), .int p1, .int p2, .int p3, .int p4, .int p5]) (n := 8) (Nat.le_of_ble_eq_true rfl)
  rw [lg_entry_eq]
  generalize (lg_sl ([.ref (a 0), .int (nI 1), .int p1, .int p2, .int p3, .int p4, .int p5]) ++ List.replicate (8 - (lg_sl ([.ref (a 0), .int (nI 1), .int p1, .int p2, .int p3, .int p4, .int p5])).length) Slot.unset).toArray = ls at hl ⊢
  have hl : lv_has ls 8 [(0, .ref (a 0)), (1, .int (nI 1)), (2, .int p1), (3, .int p2), (4, .int p3), (5, .int p4), (6, .int p5)] := hl
  refine lv_iload_n hx hb dL_act_0 rfl (lv_at hl 1 rfl) ?_
  refine lv_if_ne (tgt := 12) hx hb dL_act_1 (by decide) (fun c9 => ?_) (fun c9 => absurd c9 (by decide))
  refine lv_iload_n hx hb dL_act_12 rfl (lv_at hl 1 rfl) ?_
  refine lv_iconst (v := nI 1) hx hb dL_act_13 (by decide) ?_
  refine lv_icmp_ne (tgt := 25) hx hb dL_act_14 (by decide) (fun c9 => absurd rfl c9) (fun c9 => ?_)
  refine lv_aload_n hx hb dL_act_17 rfl (lv_at hl 0 rfl) ?_
  refine lv_iload_n hx hb dL_act_18 rfl (lv_at hl 2 rfl) ?_
  refine hs_xcalli w (vx_runV (As := [.int p1]) (rest := []) X (k_item l hl0 G _ a _ _ hI p1) (cwV 1 hts gL_act_X5_item rfl rfl rfl (by decide +kernel) ⟨Nat.le_of_ble_eq_true rfl, Nat.le_of_ble_eq_true rfl⟩) ⟨b_blind, hs_recv E w, fun U9 hU9 hW9 => ⟨rfl, hs_pre E Z9 w hm9 U9 hU9 hW9⟩⟩ rfl rfl hl.1 rfl (lv_room (Nat.le_of_ble_eq_true rfl)) dL_act_19 ⟨Nat.le_of_ble_eq_true rfl, Nat.le_of_ble_eq_true rfl⟩) hm9 (fun E9 ce9 q9 H9 locs9 hex w9 hce hcv hcl => ?_) (fun r i H locs hr w => ?_)
  · rcases hex with ⟨rfl, hx9⟩ | ⟨rfl, hx9⟩ | ⟨rfl, hx9⟩
    · have hcc : c0 = 1 := hT.symm.trans hx9
      refine vx_catch (name := "java/lang/IndexOutOfBoundsException") hown [] ⟨0, 288, 289, 65⟩ [⟨0, 288, 294, 67⟩, ⟨0, 288, 299, 69⟩] htab b_pn (by decide) (by decide) (hts (.classLink RL 65 "java/lang/IndexOutOfBoundsException") (by decide +kernel)) (va_Nw.use rfl (E.2.1 (.castable "java/lang/IndexOutOfBoundsException" "java/lang/IndexOutOfBoundsException") (by decide +kernel)).2) hce hcv hcl ?_
      have w := w9
      refine lv_astore (lv' := [(7, .ref q9), (0, .ref (a 0)), (1, .int (nI 1)), (2, .int p1), (3, .int p2), (4, .int p3), (5, .int p4), (6, .int p5)]) hx hb dL_act_289 hl (by decide) rfl (fun ls hl => ?_)
      refine lv_bipush (v := -71) hx hb dL_act_291 (by decide) ?_
      exact W.iret (v := -71) hx hb hr0 (fun t9 ht9 hW9 => ⟨⟨-71, i, rfl, ⟨hI, by rw [hcc]; rfl⟩, (by show va_P G.1 vwCl (hs_W G a x i) t9.heap; rw [ht9]; exact w.1)⟩, w.2.1.F ht9⟩) w.2.1.2.2 dL_act_293
    · have hcc : c0 = 2 := hT.symm.trans hx9
      refine vx_catch (name := "java/lang/IllegalArgumentException") hown [⟨0, 288, 289, 65⟩] ⟨0, 288, 294, 67⟩ [⟨0, 288, 299, 69⟩] htab (b_pc (Or.inr ⟨by decide, "java/lang/IndexOutOfBoundsException", hts (.classLink RL 65 "java/lang/IndexOutOfBoundsException") (by decide +kernel), va_Nc.of (args := #[]) (E.2.1 (.not (.castable "java/lang/IllegalArgumentException" "java/lang/IndexOutOfBoundsException")) (by decide +kernel)).2⟩) b_pn) (by decide) (by decide) (hts (.classLink RL 67 "java/lang/IllegalArgumentException") (by decide +kernel)) (va_Nw.use rfl (E.2.1 (.castable "java/lang/IllegalArgumentException" "java/lang/IllegalArgumentException") (by decide +kernel)).2) hce hcv hcl ?_
      have w := w9
      refine lv_astore (lv' := [(7, .ref q9), (0, .ref (a 0)), (1, .int (nI 1)), (2, .int p1), (3, .int p2), (4, .int p3), (5, .int p4), (6, .int p5)]) hx hb dL_act_294 hl (by decide) rfl (fun ls hl => ?_)
      refine lv_bipush (v := -72) hx hb dL_act_296 (by decide) ?_
      exact W.iret (v := -72) hx hb hr0 (fun t9 ht9 hW9 => ⟨⟨-72, i, rfl, ⟨hI, by rw [hcc]; rfl⟩, (by show va_P G.1 vwCl (hs_W G a x i) t9.heap; rw [ht9]; exact w.1)⟩, w.2.1.F ht9⟩) w.2.1.2.2 dL_act_298
    · have hcc : c0 = 3 := hT.symm.trans hx9
      refine vx_catch (name := "java/lang/IllegalStateException") hown [⟨0, 288, 289, 65⟩, ⟨0, 288, 294, 67⟩] ⟨0, 288, 299, 69⟩ [] htab (b_pc (Or.inr ⟨by decide, "java/lang/IndexOutOfBoundsException", hts (.classLink RL 65 "java/lang/IndexOutOfBoundsException") (by decide +kernel), va_Nc.of (args := #[]) (E.2.1 (.not (.castable "java/lang/IllegalStateException" "java/lang/IndexOutOfBoundsException")) (by decide +kernel)).2⟩) (b_pc (Or.inr ⟨by decide, "java/lang/IllegalArgumentException", hts (.classLink RL 67 "java/lang/IllegalArgumentException") (by decide +kernel), va_Nc.of (args := #[]) (E.2.1 (.not (.castable "java/lang/IllegalStateException" "java/lang/IllegalArgumentException")) (by decide +kernel)).2⟩) b_pn)) (by decide) (by decide) (hts (.classLink RL 69 "java/lang/IllegalStateException") (by decide +kernel)) (va_Nw.use rfl (E.2.1 (.castable "java/lang/IllegalStateException" "java/lang/IllegalStateException") (by decide +kernel)).2) hce hcv hcl ?_
      have w := w9
      refine lv_astore (lv' := [(7, .ref q9), (0, .ref (a 0)), (1, .int (nI 1)), (2, .int p1), (3, .int p2), (4, .int p3), (5, .int p4), (6, .int p5)]) hx hb dL_act_299 hl (by decide) rfl (fun ls hl => ?_)
      refine lv_bipush (v := -73) hx hb dL_act_301 (by decide) ?_
      exact W.iret (v := -73) hx hb hr0 (fun t9 ht9 hW9 => ⟨⟨-73, i, rfl, ⟨hI, by rw [hcc]; rfl⟩, (by show va_P G.1 vwCl (hs_W G a x i) t9.heap; rw [ht9]; exact w.1)⟩, w.2.1.F ht9⟩) w.2.1.2.2 dL_act_303
  · exact absurd (hT.symm.trans hr.2.1) hc
set_option maxHeartbeats 4000000 in
set_option maxRecDepth 100000 in
theorem aF_agree (l : Launch) (hl0 : l.stackTraces = false) (G : bG) (sz : Nat) (a : Nat → Nat) (x : hs_E) (i : hs_I) (hi : hs_Inv x i) (p1 p2 p4 p5 : Int32) (c0 : Nat) (hT : hT_agree x p1 p2 false = c0) (hc : ¬ c0 = 0) : Met l yL_act wsL_act ({ frames := 8, cells := 2, slots := 12, locals := 134 }) (va_Pc [.ref (a 0), .int (nI 2), .int p1, .int p2, .int (nI 0), .int p4, .int p5] (bPre G vwCl bNW bSW sz (hs_W G a x i) (hs_M a))) (va_Qi (fun (r : Int32) (j : hs_I) => hs_Inv x j ∧ r = hs_r c0) (fun (j : hs_I) (tS : State) => va_P G.1 vwCl (hs_W G a x j) tS.heap) (Aw (hs_M a) sz)) 2 12 (Aw (hs_M a) sz) := by
  refine va_MetW (cc := cL_act) (maxL := 8) (ret := (some .int)) (by decide) rfl ?_
  intro p e s m args below meth c s₁ B hml hv
  obtain ⟨rfl, hsz, hP, hD, E, Z⟩ := hv
  have hts := atoms_spec (ws := wsL_act) B.pre
  have hown : s.vm.findClass RL = some m.cls := findClass_of_methodNamed B.named
  have X : CallFix p m c cL_act 8 s _ wsL_act RL := ⟨B.exec, B.bytes, hml, hown, hts⟩
  have hx := B.exec
  have hb := B.bytes
  have hr0 := B.returns
  have hlocks := B.notSynchronized
  have hts2 : ∀ w, w ∈ wsL_act → w ∈ wsL_act := fun _ h9 => h9
  have htab : c.exceptionTable.toList = tableOf [(0, 288, 289, 65), (0, 288, 294, 67), (0, 288, 299, 69)] := vx_table (x := yL_act) B (hts _ List.mem_cons_self)
  subst hsz
  have w : bSt G vwCl [] s (hs_W G a x i) s.heap [] := ⟨hP, va_S.rf, hD⟩
  have w := b_wide (hs_M a) b_nil w
  have hm9 : ∀ q ∈ hs_M a, Aw (hs_M a) s.heap.size q := fun q h => Or.inl h
  have Z9 : bZ (hs_M a) s := Z
  have hI := hi
  have hl := lv_entry ([.ref (a 0), .int (nI 2), .int p1, .int p2, .int (nI 0), .int p4, .int p5]) (n := 8) (Nat.le_of_ble_eq_true rfl)
  rw [lg_entry_eq]
  generalize (lg_sl ([.ref (a 0), .int (nI 2), .int p1, .int p2, .int (nI 0), .int p4, .int p5]) ++ List.replicate (8 - (lg_sl ([.ref (a 0), .int (nI 2), .int p1, .int p2, .int (nI 0), .int p4, .int p5])).length) Slot.unset).toArray = ls at hl ⊢
  have hl : lv_has ls 8 [(0, .ref (a 0)), (1, .int (nI 2)), (2, .int p1), (3, .int p2), (4, .int (nI 0)), (5, .int p4), (6, .int p5)] := hl
  refine lv_iload_n hx hb dL_act_0 rfl (lv_at hl 1 rfl) ?_
  refine lv_if_ne (tgt := 12) hx hb dL_act_1 (by decide) (fun c9 => ?_) (fun c9 => absurd c9 (by decide))
  refine lv_iload_n hx hb dL_act_12 rfl (lv_at hl 1 rfl) ?_
  refine lv_iconst (v := nI 1) hx hb dL_act_13 (by decide) ?_
  refine lv_icmp_ne (tgt := 25) hx hb dL_act_14 (by decide) (fun c9 => ?_) (fun c9 => absurd c9 (by decide))
  refine lv_iload_n hx hb dL_act_25 rfl (lv_at hl 1 rfl) ?_
  refine lv_iconst (v := nI 2) hx hb dL_act_26 (by decide) ?_
  refine lv_icmp_ne (tgt := 58) hx hb dL_act_27 (by decide) (fun c9 => absurd rfl c9) (fun c9 => ?_)
  refine lv_aload_n hx hb dL_act_30 rfl (lv_at hl 0 rfl) ?_
  refine lv_iload_n hx hb dL_act_31 rfl (lv_at hl 2 rfl) ?_
  refine lv_iload_n hx hb dL_act_32 rfl (lv_at hl 3 rfl) ?_
  refine lv_iload hx hb dL_act_33 (lv_at hl 4 rfl) ?_
  refine lv_iconst (v := nI 1) hx hb dL_act_35 (by decide) ?_
  refine lv_icmp_ne (tgt := 43) hx hb dL_act_36 (by decide) (fun c9 => ?_) (fun c9 => absurd c9 (by decide))
  refine lv_iconst (v := nI 0) hx hb dL_act_43 (by decide) ?_
  refine b_tp (show nI 0 = bI false from rfl) ?_
  refine hs_xcalli w (vx_runV (As := [.int p1, .int p2, .int (bI false)]) (rest := []) X (k_agree l hl0 G _ a _ _ hI p1 p2 false) (cwV 3 hts gL_act_X5_agree rfl rfl rfl (by decide +kernel) ⟨Nat.le_of_ble_eq_true rfl, Nat.le_of_ble_eq_true rfl⟩) ⟨b_blind, hs_recv E w, fun U9 hU9 hW9 => ⟨rfl, hs_pre E Z9 w hm9 U9 hU9 hW9⟩⟩ rfl rfl hl.1 rfl (lv_room (Nat.le_of_ble_eq_true rfl)) dL_act_44 ⟨Nat.le_of_ble_eq_true rfl, Nat.le_of_ble_eq_true rfl⟩) hm9 (fun E9 ce9 q9 H9 locs9 hex w9 hce hcv hcl => ?_) (fun r i H locs hr w => ?_)
  · rcases hex with ⟨rfl, hx9⟩ | ⟨rfl, hx9⟩ | ⟨rfl, hx9⟩
    · have hcc : c0 = 1 := hT.symm.trans hx9
      refine vx_catch (name := "java/lang/IndexOutOfBoundsException") hown [] ⟨0, 288, 289, 65⟩ [⟨0, 288, 294, 67⟩, ⟨0, 288, 299, 69⟩] htab b_pn (by decide) (by decide) (hts (.classLink RL 65 "java/lang/IndexOutOfBoundsException") (by decide +kernel)) (va_Nw.use rfl (E.2.1 (.castable "java/lang/IndexOutOfBoundsException" "java/lang/IndexOutOfBoundsException") (by decide +kernel)).2) hce hcv hcl ?_
      have w := w9
      refine lv_astore (lv' := [(7, .ref q9), (0, .ref (a 0)), (1, .int (nI 2)), (2, .int p1), (3, .int p2), (4, .int (nI 0)), (5, .int p4), (6, .int p5)]) hx hb dL_act_289 hl (by decide) rfl (fun ls hl => ?_)
      refine lv_bipush (v := -71) hx hb dL_act_291 (by decide) ?_
      exact W.iret (v := -71) hx hb hr0 (fun t9 ht9 hW9 => ⟨⟨-71, i, rfl, ⟨hI, by rw [hcc]; rfl⟩, (by show va_P G.1 vwCl (hs_W G a x i) t9.heap; rw [ht9]; exact w.1)⟩, w.2.1.F ht9⟩) w.2.1.2.2 dL_act_293
    · have hcc : c0 = 2 := hT.symm.trans hx9
      refine vx_catch (name := "java/lang/IllegalArgumentException") hown [⟨0, 288, 289, 65⟩] ⟨0, 288, 294, 67⟩ [⟨0, 288, 299, 69⟩] htab (b_pc (Or.inr ⟨by decide, "java/lang/IndexOutOfBoundsException", hts (.classLink RL 65 "java/lang/IndexOutOfBoundsException") (by decide +kernel), va_Nc.of (args := #[]) (E.2.1 (.not (.castable "java/lang/IllegalArgumentException" "java/lang/IndexOutOfBoundsException")) (by decide +kernel)).2⟩) b_pn) (by decide) (by decide) (hts (.classLink RL 67 "java/lang/IllegalArgumentException") (by decide +kernel)) (va_Nw.use rfl (E.2.1 (.castable "java/lang/IllegalArgumentException" "java/lang/IllegalArgumentException") (by decide +kernel)).2) hce hcv hcl ?_
      have w := w9
      refine lv_astore (lv' := [(7, .ref q9), (0, .ref (a 0)), (1, .int (nI 2)), (2, .int p1), (3, .int p2), (4, .int (nI 0)), (5, .int p4), (6, .int p5)]) hx hb dL_act_294 hl (by decide) rfl (fun ls hl => ?_)
      refine lv_bipush (v := -72) hx hb dL_act_296 (by decide) ?_
      exact W.iret (v := -72) hx hb hr0 (fun t9 ht9 hW9 => ⟨⟨-72, i, rfl, ⟨hI, by rw [hcc]; rfl⟩, (by show va_P G.1 vwCl (hs_W G a x i) t9.heap; rw [ht9]; exact w.1)⟩, w.2.1.F ht9⟩) w.2.1.2.2 dL_act_298
    · have hcc : c0 = 3 := hT.symm.trans hx9
      refine vx_catch (name := "java/lang/IllegalStateException") hown [⟨0, 288, 289, 65⟩, ⟨0, 288, 294, 67⟩] ⟨0, 288, 299, 69⟩ [] htab (b_pc (Or.inr ⟨by decide, "java/lang/IndexOutOfBoundsException", hts (.classLink RL 65 "java/lang/IndexOutOfBoundsException") (by decide +kernel), va_Nc.of (args := #[]) (E.2.1 (.not (.castable "java/lang/IllegalStateException" "java/lang/IndexOutOfBoundsException")) (by decide +kernel)).2⟩) (b_pc (Or.inr ⟨by decide, "java/lang/IllegalArgumentException", hts (.classLink RL 67 "java/lang/IllegalArgumentException") (by decide +kernel), va_Nc.of (args := #[]) (E.2.1 (.not (.castable "java/lang/IllegalStateException" "java/lang/IllegalArgumentException")) (by decide +kernel)).2⟩) b_pn)) (by decide) (by decide) (hts (.classLink RL 69 "java/lang/IllegalStateException") (by decide +kernel)) (va_Nw.use rfl (E.2.1 (.castable "java/lang/IllegalStateException" "java/lang/IllegalStateException") (by decide +kernel)).2) hce hcv hcl ?_
      have w := w9
      refine lv_astore (lv' := [(7, .ref q9), (0, .ref (a 0)), (1, .int (nI 2)), (2, .int p1), (3, .int p2), (4, .int (nI 0)), (5, .int p4), (6, .int p5)]) hx hb dL_act_299 hl (by decide) rfl (fun ls hl => ?_)
      refine lv_bipush (v := -73) hx hb dL_act_301 (by decide) ?_
      exact W.iret (v := -73) hx hb hr0 (fun t9 ht9 hW9 => ⟨⟨-73, i, rfl, ⟨hI, by rw [hcc]; rfl⟩, (by show va_P G.1 vwCl (hs_W G a x i) t9.heap; rw [ht9]; exact w.1)⟩, w.2.1.F ht9⟩) w.2.1.2.2 dL_act_303
  · exact absurd (hT.symm.trans hr.2.1) hc
set_option maxHeartbeats 4000000 in
set_option maxRecDepth 100000 in
theorem aF_put (l : Launch) (hl0 : l.stackTraces = false) (G : bG) (sz : Nat) (a : Nat → Nat) (x : hs_E) (i : hs_I) (hi : hs_Inv x i) (p1 p2 p3 p4 p5 : Int32) (c0 : Nat) (hT : hT_put x p1 p2 p3 p4 p5 = c0) (hc : ¬ c0 = 0) : Met l yL_act wsL_act ({ frames := 8, cells := 2, slots := 12, locals := 139 }) (va_Pc [.ref (a 0), .int (nI 3), .int p1, .int p2, .int p3, .int p4, .int p5] (bPre G vwCl bNW bSW sz (hs_W G a x i) (hs_M a))) (va_Qi (fun (r : Int32) (j : hs_I) => hs_Inv x j ∧ r = hs_r c0) (fun (j : hs_I) (tS : State) => va_P G.1 vwCl (hs_W G a x j) tS.heap) (Aw (hs_M a) sz)) 2 12 (Aw (hs_M a) sz) := by
  refine va_MetW (cc := cL_act) (maxL := 8) (ret := (some .int)) (by decide) rfl ?_
  intro p e s m args below meth c s₁ B hml hv
  obtain ⟨rfl, hsz, hP, hD, E, Z⟩ := hv
  have hts := atoms_spec (ws := wsL_act) B.pre
  have hown : s.vm.findClass RL = some m.cls := findClass_of_methodNamed B.named
  have X : CallFix p m c cL_act 8 s _ wsL_act RL := ⟨B.exec, B.bytes, hml, hown, hts⟩
  have hx := B.exec
  have hb := B.bytes
  have hr0 := B.returns
  have hlocks := B.notSynchronized
  have hts2 : ∀ w, w ∈ wsL_act → w ∈ wsL_act := fun _ h9 => h9
  have htab : c.exceptionTable.toList = tableOf [(0, 288, 289, 65), (0, 288, 294, 67), (0, 288, 299, 69)] := vx_table (x := yL_act) B (hts _ List.mem_cons_self)
  subst hsz
  have w : bSt G vwCl [] s (hs_W G a x i) s.heap [] := ⟨hP, va_S.rf, hD⟩
  have w := b_wide (hs_M a) b_nil w
  have hm9 : ∀ q ∈ hs_M a, Aw (hs_M a) s.heap.size q := fun q h => Or.inl h
  have Z9 : bZ (hs_M a) s := Z
  have hI := hi
  have hl := lv_entry ([.ref (a 0), .int (nI 3), .int p1, .int p2, .int p3, .int p4, .int p5]) (n := 8) (Nat.le_of_ble_eq_true rfl)
  rw [lg_entry_eq]
  generalize (lg_sl ([.ref (a 0), .int (nI 3), .int p1, .int p2, .int p3, .int p4, .int p5]) ++ List.replicate (8 - (lg_sl ([.ref (a 0), .int (nI 3), .int p1, .int p2, .int p3, .int p4, .int p5])).length) Slot.unset).toArray = ls at hl ⊢
  have hl : lv_has ls 8 [(0, .ref (a 0)), (1, .int (nI 3)), (2, .int p1), (3, .int p2), (4, .int p3), (5, .int p4), (6, .int p5)] := hl
  refine lv_iload_n hx hb dL_act_0 rfl (lv_at hl 1 rfl) ?_
  refine lv_if_ne (tgt := 12) hx hb dL_act_1 (by decide) (fun c9 => ?_) (fun c9 => absurd c9 (by decide))
  refine lv_iload_n hx hb dL_act_12 rfl (lv_at hl 1 rfl) ?_
  refine lv_iconst (v := nI 1) hx hb dL_act_13 (by decide) ?_
  refine lv_icmp_ne (tgt := 25) hx hb dL_act_14 (by decide) (fun c9 => ?_) (fun c9 => absurd c9 (by decide))
  refine lv_iload_n hx hb dL_act_25 rfl (lv_at hl 1 rfl) ?_
  refine lv_iconst (v := nI 2) hx hb dL_act_26 (by decide) ?_
  refine lv_icmp_ne (tgt := 58) hx hb dL_act_27 (by decide) (fun c9 => ?_) (fun c9 => absurd c9 (by decide))
  refine lv_iload_n hx hb dL_act_58 rfl (lv_at hl 1 rfl) ?_
  refine lv_iconst (v := nI 3) hx hb dL_act_59 (by decide) ?_
  refine lv_icmp_ne (tgt := 78) hx hb dL_act_60 (by decide) (fun c9 => absurd rfl c9) (fun c9 => ?_)
  refine lv_aload_n hx hb dL_act_63 rfl (lv_at hl 0 rfl) ?_
  refine lv_iload_n hx hb dL_act_64 rfl (lv_at hl 2 rfl) ?_
  refine lv_iload_n hx hb dL_act_65 rfl (lv_at hl 3 rfl) ?_
  refine lv_iload hx hb dL_act_66 (lv_at hl 4 rfl) ?_
  refine lv_iload hx hb dL_act_68 (lv_at hl 5 rfl) ?_
  refine lv_iload hx hb dL_act_70 (lv_at hl 6 rfl) ?_
  refine hs_xcalli w (vx_runV (As := [.int p1, .int p2, .int p3, .int p4, .int p5]) (rest := []) X (k_put l hl0 G _ a _ _ hI p1 p2 p3 p4 p5) (cwV 5 hts gL_act_X5_put rfl rfl rfl (by decide +kernel) ⟨Nat.le_of_ble_eq_true rfl, Nat.le_of_ble_eq_true rfl⟩) ⟨b_blind, hs_recv E w, fun U9 hU9 hW9 => ⟨rfl, hs_pre E Z9 w hm9 U9 hU9 hW9⟩⟩ rfl rfl hl.1 rfl (lv_room (Nat.le_of_ble_eq_true rfl)) dL_act_72 ⟨Nat.le_of_ble_eq_true rfl, Nat.le_of_ble_eq_true rfl⟩) hm9 (fun E9 ce9 q9 H9 locs9 hex w9 hce hcv hcl => ?_) (fun r i H locs hr w => ?_)
  · rcases hex with ⟨rfl, hx9⟩ | ⟨rfl, hx9⟩ | ⟨rfl, hx9⟩
    · have hcc : c0 = 1 := hT.symm.trans hx9
      refine vx_catch (name := "java/lang/IndexOutOfBoundsException") hown [] ⟨0, 288, 289, 65⟩ [⟨0, 288, 294, 67⟩, ⟨0, 288, 299, 69⟩] htab b_pn (by decide) (by decide) (hts (.classLink RL 65 "java/lang/IndexOutOfBoundsException") (by decide +kernel)) (va_Nw.use rfl (E.2.1 (.castable "java/lang/IndexOutOfBoundsException" "java/lang/IndexOutOfBoundsException") (by decide +kernel)).2) hce hcv hcl ?_
      have w := w9
      refine lv_astore (lv' := [(7, .ref q9), (0, .ref (a 0)), (1, .int (nI 3)), (2, .int p1), (3, .int p2), (4, .int p3), (5, .int p4), (6, .int p5)]) hx hb dL_act_289 hl (by decide) rfl (fun ls hl => ?_)
      refine lv_bipush (v := -71) hx hb dL_act_291 (by decide) ?_
      exact W.iret (v := -71) hx hb hr0 (fun t9 ht9 hW9 => ⟨⟨-71, i, rfl, ⟨hI, by rw [hcc]; rfl⟩, (by show va_P G.1 vwCl (hs_W G a x i) t9.heap; rw [ht9]; exact w.1)⟩, w.2.1.F ht9⟩) w.2.1.2.2 dL_act_293
    · have hcc : c0 = 2 := hT.symm.trans hx9
      refine vx_catch (name := "java/lang/IllegalArgumentException") hown [⟨0, 288, 289, 65⟩] ⟨0, 288, 294, 67⟩ [⟨0, 288, 299, 69⟩] htab (b_pc (Or.inr ⟨by decide, "java/lang/IndexOutOfBoundsException", hts (.classLink RL 65 "java/lang/IndexOutOfBoundsException") (by decide +kernel), va_Nc.of (args := #[]) (E.2.1 (.not (.castable "java/lang/IllegalArgumentException" "java/lang/IndexOutOfBoundsException")) (by decide +kernel)).2⟩) b_pn) (by decide) (by decide) (hts (.classLink RL 67 "java/lang/IllegalArgumentException") (by decide +kernel)) (va_Nw.use rfl (E.2.1 (.castable "java/lang/IllegalArgumentException" "java/lang/IllegalArgumentException") (by decide +kernel)).2) hce hcv hcl ?_
      have w := w9
      refine lv_astore (lv' := [(7, .ref q9), (0, .ref (a 0)), (1, .int (nI 3)), (2, .int p1), (3, .int p2), (4, .int p3), (5, .int p4), (6, .int p5)]) hx hb dL_act_294 hl (by decide) rfl (fun ls hl => ?_)
      refine lv_bipush (v := -72) hx hb dL_act_296 (by decide) ?_
      exact W.iret (v := -72) hx hb hr0 (fun t9 ht9 hW9 => ⟨⟨-72, i, rfl, ⟨hI, by rw [hcc]; rfl⟩, (by show va_P G.1 vwCl (hs_W G a x i) t9.heap; rw [ht9]; exact w.1)⟩, w.2.1.F ht9⟩) w.2.1.2.2 dL_act_298
    · have hcc : c0 = 3 := hT.symm.trans hx9
      refine vx_catch (name := "java/lang/IllegalStateException") hown [⟨0, 288, 289, 65⟩, ⟨0, 288, 294, 67⟩] ⟨0, 288, 299, 69⟩ [] htab (b_pc (Or.inr ⟨by decide, "java/lang/IndexOutOfBoundsException", hts (.classLink RL 65 "java/lang/IndexOutOfBoundsException") (by decide +kernel), va_Nc.of (args := #[]) (E.2.1 (.not (.castable "java/lang/IllegalStateException" "java/lang/IndexOutOfBoundsException")) (by decide +kernel)).2⟩) (b_pc (Or.inr ⟨by decide, "java/lang/IllegalArgumentException", hts (.classLink RL 67 "java/lang/IllegalArgumentException") (by decide +kernel), va_Nc.of (args := #[]) (E.2.1 (.not (.castable "java/lang/IllegalStateException" "java/lang/IllegalArgumentException")) (by decide +kernel)).2⟩) b_pn)) (by decide) (by decide) (hts (.classLink RL 69 "java/lang/IllegalStateException") (by decide +kernel)) (va_Nw.use rfl (E.2.1 (.castable "java/lang/IllegalStateException" "java/lang/IllegalStateException") (by decide +kernel)).2) hce hcv hcl ?_
      have w := w9
      refine lv_astore (lv' := [(7, .ref q9), (0, .ref (a 0)), (1, .int (nI 3)), (2, .int p1), (3, .int p2), (4, .int p3), (5, .int p4), (6, .int p5)]) hx hb dL_act_299 hl (by decide) rfl (fun ls hl => ?_)
      refine lv_bipush (v := -73) hx hb dL_act_301 (by decide) ?_
      exact W.iret (v := -73) hx hb hr0 (fun t9 ht9 hW9 => ⟨⟨-73, i, rfl, ⟨hI, by rw [hcc]; rfl⟩, (by show va_P G.1 vwCl (hs_W G a x i) t9.heap; rw [ht9]; exact w.1)⟩, w.2.1.F ht9⟩) w.2.1.2.2 dL_act_303
  · exact absurd (hT.symm.trans hr.2.1) hc
set_option maxHeartbeats 4000000 in
set_option maxRecDepth 100000 in
theorem aF_send (l : Launch) (hl0 : l.stackTraces = false) (G : bG) (sz : Nat) (a : Nat → Nat) (x : hs_E) (i : hs_I) (hi : hs_Inv x i) (p1 p2 p3 p4 p5 : Int32) (c0 : Nat) (hT : hT_send x p1 = c0) (hc : ¬ c0 = 0) : Met l yL_act wsL_act ({ frames := 8, cells := 2, slots := 12, locals := 140 }) (va_Pc [.ref (a 0), .int (nI 4), .int p1, .int p2, .int p3, .int p4, .int p5] (bPre G vwCl bNW bSW sz (hs_W G a x i) (hs_M a))) (va_Qi (fun (r : Int32) (j : hs_I) => hs_Inv x j ∧ r = hs_r c0) (fun (j : hs_I) (tS : State) => va_P G.1 vwCl (hs_W G a x j) tS.heap) (Aw (hs_M a) sz)) 2 12 (Aw (hs_M a) sz) := by
  refine va_MetW (cc := cL_act) (maxL := 8) (ret := (some .int)) (by decide) rfl ?_
  intro p e s m args below meth c s₁ B hml hv
  obtain ⟨rfl, hsz, hP, hD, E, Z⟩ := hv
  have hts := atoms_spec (ws := wsL_act) B.pre
  have hown : s.vm.findClass RL = some m.cls := findClass_of_methodNamed B.named
  have X : CallFix p m c cL_act 8 s _ wsL_act RL := ⟨B.exec, B.bytes, hml, hown, hts⟩
  have hx := B.exec
  have hb := B.bytes
  have hr0 := B.returns
  have hlocks := B.notSynchronized
  have hts2 : ∀ w, w ∈ wsL_act → w ∈ wsL_act := fun _ h9 => h9
  have htab : c.exceptionTable.toList = tableOf [(0, 288, 289, 65), (0, 288, 294, 67), (0, 288, 299, 69)] := vx_table (x := yL_act) B (hts _ List.mem_cons_self)
  subst hsz
  have w : bSt G vwCl [] s (hs_W G a x i) s.heap [] := ⟨hP, va_S.rf, hD⟩
  have w := b_wide (hs_M a) b_nil w
  have hm9 : ∀ q ∈ hs_M a, Aw (hs_M a) s.heap.size q := fun q h => Or.inl h
  have Z9 : bZ (hs_M a) s := Z
  have hI := hi
  have hl := lv_entry ([.ref (a 0), .int (nI 4), .int p1, .int p2, .int p3, .int p4, .int p5]) (n := 8) (Nat.le_of_ble_eq_true rfl)
  rw [lg_entry_eq]
  generalize (lg_sl ([.ref (a 0), .int (nI 4), .int p1, .int p2, .int p3, .int p4, .int p5]) ++ List.replicate (8 - (lg_sl ([.ref (a 0), .int (nI 4), .int p1, .int p2, .int p3, .int p4, .int p5])).length) Slot.unset).toArray = ls at hl ⊢
  have hl : lv_has ls 8 [(0, .ref (a 0)), (1, .int (nI 4)), (2, .int p1), (3, .int p2), (4, .int p3), (5, .int p4), (6, .int p5)] := hl
  refine lv_iload_n hx hb dL_act_0 rfl (lv_at hl 1 rfl) ?_
  refine lv_if_ne (tgt := 12) hx hb dL_act_1 (by decide) (fun c9 => ?_) (fun c9 => absurd c9 (by decide))
  refine lv_iload_n hx hb dL_act_12 rfl (lv_at hl 1 rfl) ?_
  refine lv_iconst (v := nI 1) hx hb dL_act_13 (by decide) ?_
  refine lv_icmp_ne (tgt := 25) hx hb dL_act_14 (by decide) (fun c9 => ?_) (fun c9 => absurd c9 (by decide))
  refine lv_iload_n hx hb dL_act_25 rfl (lv_at hl 1 rfl) ?_
  refine lv_iconst (v := nI 2) hx hb dL_act_26 (by decide) ?_
  refine lv_icmp_ne (tgt := 58) hx hb dL_act_27 (by decide) (fun c9 => ?_) (fun c9 => absurd c9 (by decide))
  refine lv_iload_n hx hb dL_act_58 rfl (lv_at hl 1 rfl) ?_
  refine lv_iconst (v := nI 3) hx hb dL_act_59 (by decide) ?_
  refine lv_icmp_ne (tgt := 78) hx hb dL_act_60 (by decide) (fun c9 => ?_) (fun c9 => absurd c9 (by decide))
  refine lv_iload_n hx hb dL_act_78 rfl (lv_at hl 1 rfl) ?_
  refine lv_iconst (v := nI 4) hx hb dL_act_79 (by decide) ?_
  refine lv_icmp_ne (tgt := 91) hx hb dL_act_80 (by decide) (fun c9 => absurd rfl c9) (fun c9 => ?_)
  refine lv_aload_n hx hb dL_act_83 rfl (lv_at hl 0 rfl) ?_
  refine lv_iload_n hx hb dL_act_84 rfl (lv_at hl 2 rfl) ?_
  refine hs_xcalli w (vx_runV (As := [.int p1]) (rest := []) X (k_send l hl0 G _ a _ _ hI p1) (cwV 1 hts gL_act_X5_send rfl rfl rfl (by decide +kernel) ⟨Nat.le_of_ble_eq_true rfl, Nat.le_of_ble_eq_true rfl⟩) ⟨b_blind, hs_recv E w, fun U9 hU9 hW9 => ⟨rfl, hs_pre E Z9 w hm9 U9 hU9 hW9⟩⟩ rfl rfl hl.1 rfl (lv_room (Nat.le_of_ble_eq_true rfl)) dL_act_85 ⟨Nat.le_of_ble_eq_true rfl, Nat.le_of_ble_eq_true rfl⟩) hm9 (fun E9 ce9 q9 H9 locs9 hex w9 hce hcv hcl => ?_) (fun r i H locs hr w => ?_)
  · rcases hex with ⟨rfl, hx9⟩ | ⟨rfl, hx9⟩ | ⟨rfl, hx9⟩
    · have hcc : c0 = 1 := hT.symm.trans hx9
      refine vx_catch (name := "java/lang/IndexOutOfBoundsException") hown [] ⟨0, 288, 289, 65⟩ [⟨0, 288, 294, 67⟩, ⟨0, 288, 299, 69⟩] htab b_pn (by decide) (by decide) (hts (.classLink RL 65 "java/lang/IndexOutOfBoundsException") (by decide +kernel)) (va_Nw.use rfl (E.2.1 (.castable "java/lang/IndexOutOfBoundsException" "java/lang/IndexOutOfBoundsException") (by decide +kernel)).2) hce hcv hcl ?_
      have w := w9
      refine lv_astore (lv' := [(7, .ref q9), (0, .ref (a 0)), (1, .int (nI 4)), (2, .int p1), (3, .int p2), (4, .int p3), (5, .int p4), (6, .int p5)]) hx hb dL_act_289 hl (by decide) rfl (fun ls hl => ?_)
      refine lv_bipush (v := -71) hx hb dL_act_291 (by decide) ?_
      exact W.iret (v := -71) hx hb hr0 (fun t9 ht9 hW9 => ⟨⟨-71, i, rfl, ⟨hI, by rw [hcc]; rfl⟩, (by show va_P G.1 vwCl (hs_W G a x i) t9.heap; rw [ht9]; exact w.1)⟩, w.2.1.F ht9⟩) w.2.1.2.2 dL_act_293
    · have hcc : c0 = 2 := hT.symm.trans hx9
      refine vx_catch (name := "java/lang/IllegalArgumentException") hown [⟨0, 288, 289, 65⟩] ⟨0, 288, 294, 67⟩ [⟨0, 288, 299, 69⟩] htab (b_pc (Or.inr ⟨by decide, "java/lang/IndexOutOfBoundsException", hts (.classLink RL 65 "java/lang/IndexOutOfBoundsException") (by decide +kernel), va_Nc.of (args := #[]) (E.2.1 (.not (.castable "java/lang/IllegalArgumentException" "java/lang/IndexOutOfBoundsException")) (by decide +kernel)).2⟩) b_pn) (by decide) (by decide) (hts (.classLink RL 67 "java/lang/IllegalArgumentException") (by decide +kernel)) (va_Nw.use rfl (E.2.1 (.castable "java/lang/IllegalArgumentException" "java/lang/IllegalArgumentException") (by decide +kernel)).2) hce hcv hcl ?_
      have w := w9
      refine lv_astore (lv' := [(7, .ref q9), (0, .ref (a 0)), (1, .int (nI 4)), (2, .int p1), (3, .int p2), (4, .int p3), (5, .int p4), (6, .int p5)]) hx hb dL_act_294 hl (by decide) rfl (fun ls hl => ?_)
      refine lv_bipush (v := -72) hx hb dL_act_296 (by decide) ?_
      exact W.iret (v := -72) hx hb hr0 (fun t9 ht9 hW9 => ⟨⟨-72, i, rfl, ⟨hI, by rw [hcc]; rfl⟩, (by show va_P G.1 vwCl (hs_W G a x i) t9.heap; rw [ht9]; exact w.1)⟩, w.2.1.F ht9⟩) w.2.1.2.2 dL_act_298
    · have hcc : c0 = 3 := hT.symm.trans hx9
      refine vx_catch (name := "java/lang/IllegalStateException") hown [⟨0, 288, 289, 65⟩, ⟨0, 288, 294, 67⟩] ⟨0, 288, 299, 69⟩ [] htab (b_pc (Or.inr ⟨by decide, "java/lang/IndexOutOfBoundsException", hts (.classLink RL 65 "java/lang/IndexOutOfBoundsException") (by decide +kernel), va_Nc.of (args := #[]) (E.2.1 (.not (.castable "java/lang/IllegalStateException" "java/lang/IndexOutOfBoundsException")) (by decide +kernel)).2⟩) (b_pc (Or.inr ⟨by decide, "java/lang/IllegalArgumentException", hts (.classLink RL 67 "java/lang/IllegalArgumentException") (by decide +kernel), va_Nc.of (args := #[]) (E.2.1 (.not (.castable "java/lang/IllegalStateException" "java/lang/IllegalArgumentException")) (by decide +kernel)).2⟩) b_pn)) (by decide) (by decide) (hts (.classLink RL 69 "java/lang/IllegalStateException") (by decide +kernel)) (va_Nw.use rfl (E.2.1 (.castable "java/lang/IllegalStateException" "java/lang/IllegalStateException") (by decide +kernel)).2) hce hcv hcl ?_
      have w := w9
      refine lv_astore (lv' := [(7, .ref q9), (0, .ref (a 0)), (1, .int (nI 4)), (2, .int p1), (3, .int p2), (4, .int p3), (5, .int p4), (6, .int p5)]) hx hb dL_act_299 hl (by decide) rfl (fun ls hl => ?_)
      refine lv_bipush (v := -73) hx hb dL_act_301 (by decide) ?_
      exact W.iret (v := -73) hx hb hr0 (fun t9 ht9 hW9 => ⟨⟨-73, i, rfl, ⟨hI, by rw [hcc]; rfl⟩, (by show va_P G.1 vwCl (hs_W G a x i) t9.heap; rw [ht9]; exact w.1)⟩, w.2.1.F ht9⟩) w.2.1.2.2 dL_act_303
  · exact absurd (hT.symm.trans hr.2.1) hc
set_option maxHeartbeats 4000000 in
set_option maxRecDepth 100000 in
theorem aF_refusal (l : Launch) (hl0 : l.stackTraces = false) (G : bG) (sz : Nat) (a : Nat → Nat) (x : hs_E) (i : hs_I) (hi : hs_Inv x i) (p1 p2 p3 p4 p5 : Int32) (c0 : Nat) (hT : hT_refusal x p1 = c0) (hc : ¬ c0 = 0) : Met l yL_act wsL_act ({ frames := 7, cells := 1, slots := 6, locals := 111 }) (va_Pc [.ref (a 0), .int (nI 5), .int p1, .int p2, .int p3, .int p4, .int p5] (bPre G vwCl bNW bSW sz (hs_W G a x i) (hs_M a))) (va_Qi (fun (r : Int32) (j : hs_I) => hs_Inv x j ∧ r = hs_r c0) (fun (j : hs_I) (tS : State) => va_P G.1 vwCl (hs_W G a x j) tS.heap) (Aw (hs_M a) sz)) 1 6 (Aw (hs_M a) sz) := by
  refine va_MetW (cc := cL_act) (maxL := 8) (ret := (some .int)) (by decide) rfl ?_
  intro p e s m args below meth c s₁ B hml hv
  obtain ⟨rfl, hsz, hP, hD, E, Z⟩ := hv
  have hts := atoms_spec (ws := wsL_act) B.pre
  have hown : s.vm.findClass RL = some m.cls := findClass_of_methodNamed B.named
  have X : CallFix p m c cL_act 8 s _ wsL_act RL := ⟨B.exec, B.bytes, hml, hown, hts⟩
  have hx := B.exec
  have hb := B.bytes
  have hr0 := B.returns
  have hlocks := B.notSynchronized
  have hts2 : ∀ w, w ∈ wsL_act → w ∈ wsL_act := fun _ h9 => h9
  have htab : c.exceptionTable.toList = tableOf [(0, 288, 289, 65), (0, 288, 294, 67), (0, 288, 299, 69)] := vx_table (x := yL_act) B (hts _ List.mem_cons_self)
  subst hsz
  have w : bSt G vwCl [] s (hs_W G a x i) s.heap [] := ⟨hP, va_S.rf, hD⟩
  have w := b_wide (hs_M a) b_nil w
  have hm9 : ∀ q ∈ hs_M a, Aw (hs_M a) s.heap.size q := fun q h => Or.inl h
  have Z9 : bZ (hs_M a) s := Z
  have hI := hi
  have hl := lv_entry ([.ref (a 0), .int (nI 5), .int p1, .int p2, .int p3, .int p4, .int p5]) (n := 8) (Nat.le_of_ble_eq_true rfl)
  rw [lg_entry_eq]
  generalize (lg_sl ([.ref (a 0), .int (nI 5), .int p1, .int p2, .int p3, .int p4, .int p5]) ++ List.replicate (8 - (lg_sl ([.ref (a 0), .int (nI 5), .int p1, .int p2, .int p3, .int p4, .int p5])).length) Slot.unset).toArray = ls at hl ⊢
  have hl : lv_has ls 8 [(0, .ref (a 0)), (1, .int (nI 5)), (2, .int p1), (3, .int p2), (4, .int p3), (5, .int p4), (6, .int p5)] := hl
  refine lv_iload_n hx hb dL_act_0 rfl (lv_at hl 1 rfl) ?_
  refine lv_if_ne (tgt := 12) hx hb dL_act_1 (by decide) (fun c9 => ?_) (fun c9 => absurd c9 (by decide))
  refine lv_iload_n hx hb dL_act_12 rfl (lv_at hl 1 rfl) ?_
  refine lv_iconst (v := nI 1) hx hb dL_act_13 (by decide) ?_
  refine lv_icmp_ne (tgt := 25) hx hb dL_act_14 (by decide) (fun c9 => ?_) (fun c9 => absurd c9 (by decide))
  refine lv_iload_n hx hb dL_act_25 rfl (lv_at hl 1 rfl) ?_
  refine lv_iconst (v := nI 2) hx hb dL_act_26 (by decide) ?_
  refine lv_icmp_ne (tgt := 58) hx hb dL_act_27 (by decide) (fun c9 => ?_) (fun c9 => absurd c9 (by decide))
  refine lv_iload_n hx hb dL_act_58 rfl (lv_at hl 1 rfl) ?_
  refine lv_iconst (v := nI 3) hx hb dL_act_59 (by decide) ?_
  refine lv_icmp_ne (tgt := 78) hx hb dL_act_60 (by decide) (fun c9 => ?_) (fun c9 => absurd c9 (by decide))
  refine lv_iload_n hx hb dL_act_78 rfl (lv_at hl 1 rfl) ?_
  refine lv_iconst (v := nI 4) hx hb dL_act_79 (by decide) ?_
  refine lv_icmp_ne (tgt := 91) hx hb dL_act_80 (by decide) (fun c9 => ?_) (fun c9 => absurd c9 (by decide))
  refine lv_iload_n hx hb dL_act_91 rfl (lv_at hl 1 rfl) ?_
  refine lv_iconst (v := nI 5) hx hb dL_act_92 (by decide) ?_
  refine lv_icmp_ne (tgt := 104) hx hb dL_act_93 (by decide) (fun c9 => absurd rfl c9) (fun c9 => ?_)
  refine lv_aload_n hx hb dL_act_96 rfl (lv_at hl 0 rfl) ?_
  refine lv_iload_n hx hb dL_act_97 rfl (lv_at hl 2 rfl) ?_
  refine hs_xcalli w (vx_runV (As := [.int p1]) (rest := []) X (k_refusal l hl0 G _ a _ _ hI p1) (cwV 1 hts gL_act_X5_refusal rfl rfl rfl (by decide +kernel) ⟨Nat.le_of_ble_eq_true rfl, Nat.le_of_ble_eq_true rfl⟩) ⟨b_blind, hs_recv E w, fun U9 hU9 hW9 => ⟨rfl, hs_pre E Z9 w hm9 U9 hU9 hW9⟩⟩ rfl rfl hl.1 rfl (lv_room (Nat.le_of_ble_eq_true rfl)) dL_act_98 ⟨Nat.le_of_ble_eq_true rfl, Nat.le_of_ble_eq_true rfl⟩) hm9 (fun E9 ce9 q9 H9 locs9 hex w9 hce hcv hcl => ?_) (fun r i H locs hr w => ?_)
  · rcases hex with ⟨rfl, hx9⟩ | ⟨rfl, hx9⟩ | ⟨rfl, hx9⟩
    · have hcc : c0 = 1 := hT.symm.trans hx9
      refine vx_catch (name := "java/lang/IndexOutOfBoundsException") hown [] ⟨0, 288, 289, 65⟩ [⟨0, 288, 294, 67⟩, ⟨0, 288, 299, 69⟩] htab b_pn (by decide) (by decide) (hts (.classLink RL 65 "java/lang/IndexOutOfBoundsException") (by decide +kernel)) (va_Nw.use rfl (E.2.1 (.castable "java/lang/IndexOutOfBoundsException" "java/lang/IndexOutOfBoundsException") (by decide +kernel)).2) hce hcv hcl ?_
      have w := w9
      refine lv_astore (lv' := [(7, .ref q9), (0, .ref (a 0)), (1, .int (nI 5)), (2, .int p1), (3, .int p2), (4, .int p3), (5, .int p4), (6, .int p5)]) hx hb dL_act_289 hl (by decide) rfl (fun ls hl => ?_)
      refine lv_bipush (v := -71) hx hb dL_act_291 (by decide) ?_
      exact W.iret (v := -71) hx hb hr0 (fun t9 ht9 hW9 => ⟨⟨-71, i, rfl, ⟨hI, by rw [hcc]; rfl⟩, (by show va_P G.1 vwCl (hs_W G a x i) t9.heap; rw [ht9]; exact w.1)⟩, w.2.1.F ht9⟩) w.2.1.2.2 dL_act_293
    · have hcc : c0 = 2 := hT.symm.trans hx9
      refine vx_catch (name := "java/lang/IllegalArgumentException") hown [⟨0, 288, 289, 65⟩] ⟨0, 288, 294, 67⟩ [⟨0, 288, 299, 69⟩] htab (b_pc (Or.inr ⟨by decide, "java/lang/IndexOutOfBoundsException", hts (.classLink RL 65 "java/lang/IndexOutOfBoundsException") (by decide +kernel), va_Nc.of (args := #[]) (E.2.1 (.not (.castable "java/lang/IllegalArgumentException" "java/lang/IndexOutOfBoundsException")) (by decide +kernel)).2⟩) b_pn) (by decide) (by decide) (hts (.classLink RL 67 "java/lang/IllegalArgumentException") (by decide +kernel)) (va_Nw.use rfl (E.2.1 (.castable "java/lang/IllegalArgumentException" "java/lang/IllegalArgumentException") (by decide +kernel)).2) hce hcv hcl ?_
      have w := w9
      refine lv_astore (lv' := [(7, .ref q9), (0, .ref (a 0)), (1, .int (nI 5)), (2, .int p1), (3, .int p2), (4, .int p3), (5, .int p4), (6, .int p5)]) hx hb dL_act_294 hl (by decide) rfl (fun ls hl => ?_)
      refine lv_bipush (v := -72) hx hb dL_act_296 (by decide) ?_
      exact W.iret (v := -72) hx hb hr0 (fun t9 ht9 hW9 => ⟨⟨-72, i, rfl, ⟨hI, by rw [hcc]; rfl⟩, (by show va_P G.1 vwCl (hs_W G a x i) t9.heap; rw [ht9]; exact w.1)⟩, w.2.1.F ht9⟩) w.2.1.2.2 dL_act_298
    · have hcc : c0 = 3 := hT.symm.trans hx9
      refine vx_catch (name := "java/lang/IllegalStateException") hown [⟨0, 288, 289, 65⟩, ⟨0, 288, 294, 67⟩] ⟨0, 288, 299, 69⟩ [] htab (b_pc (Or.inr ⟨by decide, "java/lang/IndexOutOfBoundsException", hts (.classLink RL 65 "java/lang/IndexOutOfBoundsException") (by decide +kernel), va_Nc.of (args := #[]) (E.2.1 (.not (.castable "java/lang/IllegalStateException" "java/lang/IndexOutOfBoundsException")) (by decide +kernel)).2⟩) (b_pc (Or.inr ⟨by decide, "java/lang/IllegalArgumentException", hts (.classLink RL 67 "java/lang/IllegalArgumentException") (by decide +kernel), va_Nc.of (args := #[]) (E.2.1 (.not (.castable "java/lang/IllegalStateException" "java/lang/IllegalArgumentException")) (by decide +kernel)).2⟩) b_pn)) (by decide) (by decide) (hts (.classLink RL 69 "java/lang/IllegalStateException") (by decide +kernel)) (va_Nw.use rfl (E.2.1 (.castable "java/lang/IllegalStateException" "java/lang/IllegalStateException") (by decide +kernel)).2) hce hcv hcl ?_
      have w := w9
      refine lv_astore (lv' := [(7, .ref q9), (0, .ref (a 0)), (1, .int (nI 5)), (2, .int p1), (3, .int p2), (4, .int p3), (5, .int p4), (6, .int p5)]) hx hb dL_act_299 hl (by decide) rfl (fun ls hl => ?_)
      refine lv_bipush (v := -73) hx hb dL_act_301 (by decide) ?_
      exact W.iret (v := -73) hx hb hr0 (fun t9 ht9 hW9 => ⟨⟨-73, i, rfl, ⟨hI, by rw [hcc]; rfl⟩, (by show va_P G.1 vwCl (hs_W G a x i) t9.heap; rw [ht9]; exact w.1)⟩, w.2.1.F ht9⟩) w.2.1.2.2 dL_act_303
  · exact absurd (hT.symm.trans hr.2.1) hc
set_option maxHeartbeats 4000000 in
set_option maxRecDepth 100000 in
theorem aF_secret (l : Launch) (hl0 : l.stackTraces = false) (G : bG) (sz : Nat) (a : Nat → Nat) (x : hs_E) (i : hs_I) (hi : hs_Inv x i) (p1 p2 p3 p5 : Int32) (c0 : Nat) (hT : hT_secret x p1 p2 p3 false = c0) (hc : ¬ c0 = 0) : Met l yL_act wsL_act ({ frames := 8, cells := 1, slots := 6, locals := 174 }) (va_Pc [.ref (a 0), .int (nI 6), .int p1, .int p2, .int p3, .int (-1), .int p5] (bPre G vwCl bNW bSW sz (hs_W G a x i) (hs_M a))) (va_Qi (fun (r : Int32) (j : hs_I) => hs_Inv x j ∧ r = hs_r c0) (fun (j : hs_I) (tS : State) => va_P G.1 vwCl (hs_W G a x j) tS.heap) (Aw (hs_M a) sz)) 1 6 (Aw (hs_M a) sz) := by
  refine va_MetW (cc := cL_act) (maxL := 8) (ret := (some .int)) (by decide) rfl ?_
  intro p e s m args below meth c s₁ B hml hv
  obtain ⟨rfl, hsz, hP, hD, E, Z⟩ := hv
  have hts := atoms_spec (ws := wsL_act) B.pre
  have hown : s.vm.findClass RL = some m.cls := findClass_of_methodNamed B.named
  have X : CallFix p m c cL_act 8 s _ wsL_act RL := ⟨B.exec, B.bytes, hml, hown, hts⟩
  have hx := B.exec
  have hb := B.bytes
  have hr0 := B.returns
  have hlocks := B.notSynchronized
  have hts2 : ∀ w, w ∈ wsL_act → w ∈ wsL_act := fun _ h9 => h9
  have htab : c.exceptionTable.toList = tableOf [(0, 288, 289, 65), (0, 288, 294, 67), (0, 288, 299, 69)] := vx_table (x := yL_act) B (hts _ List.mem_cons_self)
  subst hsz
  have w : bSt G vwCl [] s (hs_W G a x i) s.heap [] := ⟨hP, va_S.rf, hD⟩
  have w := b_wide (hs_M a) b_nil w
  have hm9 : ∀ q ∈ hs_M a, Aw (hs_M a) s.heap.size q := fun q h => Or.inl h
  have Z9 : bZ (hs_M a) s := Z
  have hI := hi
  have hl := lv_entry ([.ref (a 0), .int (nI 6), .int p1, .int p2, .int p3, .int (-1), .int p5]) (n := 8) (Nat.le_of_ble_eq_true rfl)
  rw [lg_entry_eq]
  generalize (lg_sl ([.ref (a 0), .int (nI 6), .int p1, .int p2, .int p3, .int (-1), .int p5]) ++ List.replicate (8 - (lg_sl ([.ref (a 0), .int (nI 6), .int p1, .int p2, .int p3, .int (-1), .int p5])).length) Slot.unset).toArray = ls at hl ⊢
  have hl : lv_has ls 8 [(0, .ref (a 0)), (1, .int (nI 6)), (2, .int p1), (3, .int p2), (4, .int p3), (5, .int (-1)), (6, .int p5)] := hl
  refine lv_iload_n hx hb dL_act_0 rfl (lv_at hl 1 rfl) ?_
  refine lv_if_ne (tgt := 12) hx hb dL_act_1 (by decide) (fun c9 => ?_) (fun c9 => absurd c9 (by decide))
  refine lv_iload_n hx hb dL_act_12 rfl (lv_at hl 1 rfl) ?_
  refine lv_iconst (v := nI 1) hx hb dL_act_13 (by decide) ?_
  refine lv_icmp_ne (tgt := 25) hx hb dL_act_14 (by decide) (fun c9 => ?_) (fun c9 => absurd c9 (by decide))
  refine lv_iload_n hx hb dL_act_25 rfl (lv_at hl 1 rfl) ?_
  refine lv_iconst (v := nI 2) hx hb dL_act_26 (by decide) ?_
  refine lv_icmp_ne (tgt := 58) hx hb dL_act_27 (by decide) (fun c9 => ?_) (fun c9 => absurd c9 (by decide))
  refine lv_iload_n hx hb dL_act_58 rfl (lv_at hl 1 rfl) ?_
  refine lv_iconst (v := nI 3) hx hb dL_act_59 (by decide) ?_
  refine lv_icmp_ne (tgt := 78) hx hb dL_act_60 (by decide) (fun c9 => ?_) (fun c9 => absurd c9 (by decide))
  refine lv_iload_n hx hb dL_act_78 rfl (lv_at hl 1 rfl) ?_
  refine lv_iconst (v := nI 4) hx hb dL_act_79 (by decide) ?_
  refine lv_icmp_ne (tgt := 91) hx hb dL_act_80 (by decide) (fun c9 => ?_) (fun c9 => absurd c9 (by decide))
  refine lv_iload_n hx hb dL_act_91 rfl (lv_at hl 1 rfl) ?_
  refine lv_iconst (v := nI 5) hx hb dL_act_92 (by decide) ?_
  refine lv_icmp_ne (tgt := 104) hx hb dL_act_93 (by decide) (fun c9 => ?_) (fun c9 => absurd c9 (by decide))
  refine lv_iload_n hx hb dL_act_104 rfl (lv_at hl 1 rfl) ?_
  refine lv_bipush (v := nI 6) hx hb dL_act_105 (by decide) ?_
  refine lv_icmp_ne (tgt := 132) hx hb dL_act_107 (by decide) (fun c9 => absurd rfl c9) (fun c9 => ?_)
  refine lv_aload_n hx hb dL_act_110 rfl (lv_at hl 0 rfl) ?_
  refine lv_iload_n hx hb dL_act_111 rfl (lv_at hl 2 rfl) ?_
  refine lv_iload_n hx hb dL_act_112 rfl (lv_at hl 3 rfl) ?_
  refine lv_iload hx hb dL_act_113 (lv_at hl 4 rfl) ?_
  refine lv_iload hx hb dL_act_115 (lv_at hl 5 rfl) ?_
  refine lv_iconst (v := nI 1) hx hb dL_act_117 (by decide) ?_
  refine lv_icmp_ne (tgt := 125) hx hb dL_act_118 (by decide) (fun c9 => ?_) (fun c9 => absurd c9 (by decide))
  refine lv_iconst (v := nI 0) hx hb dL_act_125 (by decide) ?_
  refine b_tp (show nI 0 = bI false from rfl) ?_
  refine hs_xcalli w (vx_runV (As := [.int p1, .int p2, .int p3, .int (bI false)]) (rest := []) X (k_secret l hl0 G _ a _ _ hI p1 p2 p3 false) (cwV 4 hts gL_act_X5_secret rfl rfl rfl (by decide +kernel) ⟨Nat.le_of_ble_eq_true rfl, Nat.le_of_ble_eq_true rfl⟩) ⟨b_blind, hs_recv E w, fun U9 hU9 hW9 => ⟨rfl, hs_pre E Z9 w hm9 U9 hU9 hW9⟩⟩ rfl rfl hl.1 rfl (lv_room (Nat.le_of_ble_eq_true rfl)) dL_act_126 ⟨Nat.le_of_ble_eq_true rfl, Nat.le_of_ble_eq_true rfl⟩) hm9 (fun E9 ce9 q9 H9 locs9 hex w9 hce hcv hcl => ?_) (fun r i H locs hr w => ?_)
  · rcases hex with ⟨rfl, hx9⟩ | ⟨rfl, hx9⟩ | ⟨rfl, hx9⟩
    · have hcc : c0 = 1 := hT.symm.trans hx9
      refine vx_catch (name := "java/lang/IndexOutOfBoundsException") hown [] ⟨0, 288, 289, 65⟩ [⟨0, 288, 294, 67⟩, ⟨0, 288, 299, 69⟩] htab b_pn (by decide) (by decide) (hts (.classLink RL 65 "java/lang/IndexOutOfBoundsException") (by decide +kernel)) (va_Nw.use rfl (E.2.1 (.castable "java/lang/IndexOutOfBoundsException" "java/lang/IndexOutOfBoundsException") (by decide +kernel)).2) hce hcv hcl ?_
      have w := w9
      refine lv_astore (lv' := [(7, .ref q9), (0, .ref (a 0)), (1, .int (nI 6)), (2, .int p1), (3, .int p2), (4, .int p3), (5, .int (-1)), (6, .int p5)]) hx hb dL_act_289 hl (by decide) rfl (fun ls hl => ?_)
      refine lv_bipush (v := -71) hx hb dL_act_291 (by decide) ?_
      exact W.iret (v := -71) hx hb hr0 (fun t9 ht9 hW9 => ⟨⟨-71, i, rfl, ⟨hI, by rw [hcc]; rfl⟩, (by show va_P G.1 vwCl (hs_W G a x i) t9.heap; rw [ht9]; exact w.1)⟩, w.2.1.F ht9⟩) w.2.1.2.2 dL_act_293
    · have hcc : c0 = 2 := hT.symm.trans hx9
      refine vx_catch (name := "java/lang/IllegalArgumentException") hown [⟨0, 288, 289, 65⟩] ⟨0, 288, 294, 67⟩ [⟨0, 288, 299, 69⟩] htab (b_pc (Or.inr ⟨by decide, "java/lang/IndexOutOfBoundsException", hts (.classLink RL 65 "java/lang/IndexOutOfBoundsException") (by decide +kernel), va_Nc.of (args := #[]) (E.2.1 (.not (.castable "java/lang/IllegalArgumentException" "java/lang/IndexOutOfBoundsException")) (by decide +kernel)).2⟩) b_pn) (by decide) (by decide) (hts (.classLink RL 67 "java/lang/IllegalArgumentException") (by decide +kernel)) (va_Nw.use rfl (E.2.1 (.castable "java/lang/IllegalArgumentException" "java/lang/IllegalArgumentException") (by decide +kernel)).2) hce hcv hcl ?_
      have w := w9
      refine lv_astore (lv' := [(7, .ref q9), (0, .ref (a 0)), (1, .int (nI 6)), (2, .int p1), (3, .int p2), (4, .int p3), (5, .int (-1)), (6, .int p5)]) hx hb dL_act_294 hl (by decide) rfl (fun ls hl => ?_)
      refine lv_bipush (v := -72) hx hb dL_act_296 (by decide) ?_
      exact W.iret (v := -72) hx hb hr0 (fun t9 ht9 hW9 => ⟨⟨-72, i, rfl, ⟨hI, by rw [hcc]; rfl⟩, (by show va_P G.1 vwCl (hs_W G a x i) t9.heap; rw [ht9]; exact w.1)⟩, w.2.1.F ht9⟩) w.2.1.2.2 dL_act_298
    · have hcc : c0 = 3 := hT.symm.trans hx9
      refine vx_catch (name := "java/lang/IllegalStateException") hown [⟨0, 288, 289, 65⟩, ⟨0, 288, 294, 67⟩] ⟨0, 288, 299, 69⟩ [] htab (b_pc (Or.inr ⟨by decide, "java/lang/IndexOutOfBoundsException", hts (.classLink RL 65 "java/lang/IndexOutOfBoundsException") (by decide +kernel), va_Nc.of (args := #[]) (E.2.1 (.not (.castable "java/lang/IllegalStateException" "java/lang/IndexOutOfBoundsException")) (by decide +kernel)).2⟩) (b_pc (Or.inr ⟨by decide, "java/lang/IllegalArgumentException", hts (.classLink RL 67 "java/lang/IllegalArgumentException") (by decide +kernel), va_Nc.of (args := #[]) (E.2.1 (.not (.castable "java/lang/IllegalStateException" "java/lang/IllegalArgumentException")) (by decide +kernel)).2⟩) b_pn)) (by decide) (by decide) (hts (.classLink RL 69 "java/lang/IllegalStateException") (by decide +kernel)) (va_Nw.use rfl (E.2.1 (.castable "java/lang/IllegalStateException" "java/lang/IllegalStateException") (by decide +kernel)).2) hce hcv hcl ?_
      have w := w9
      refine lv_astore (lv' := [(7, .ref q9), (0, .ref (a 0)), (1, .int (nI 6)), (2, .int p1), (3, .int p2), (4, .int p3), (5, .int (-1)), (6, .int p5)]) hx hb dL_act_299 hl (by decide) rfl (fun ls hl => ?_)
      refine lv_bipush (v := -73) hx hb dL_act_301 (by decide) ?_
      exact W.iret (v := -73) hx hb hr0 (fun t9 ht9 hW9 => ⟨⟨-73, i, rfl, ⟨hI, by rw [hcc]; rfl⟩, (by show va_P G.1 vwCl (hs_W G a x i) t9.heap; rw [ht9]; exact w.1)⟩, w.2.1.F ht9⟩) w.2.1.2.2 dL_act_303
  · exact absurd (hT.symm.trans hr.2.1) hc
set_option maxHeartbeats 4000000 in
set_option maxRecDepth 100000 in
theorem aF_pass (l : Launch) (hl0 : l.stackTraces = false) (G : bG) (sz : Nat) (a : Nat → Nat) (x : hs_E) (i : hs_I) (hi : hs_Inv x i) (p1 p2 p3 p4 p5 : Int32) (c0 : Nat) (hT : hT_pass x p1 = c0) (hc : ¬ c0 = 0) : Met l yL_act wsL_act ({ frames := 7, cells := 1, slots := 6, locals := 111 }) (va_Pc [.ref (a 0), .int (nI 7), .int p1, .int p2, .int p3, .int p4, .int p5] (bPre G vwCl bNW bSW sz (hs_W G a x i) (hs_M a))) (va_Qi (fun (r : Int32) (j : hs_I) => hs_Inv x j ∧ r = hs_r c0) (fun (j : hs_I) (tS : State) => va_P G.1 vwCl (hs_W G a x j) tS.heap) (Aw (hs_M a) sz)) 1 6 (Aw (hs_M a) sz) := by
  refine va_MetW (cc := cL_act) (maxL := 8) (ret := (some .int)) (by decide) rfl ?_
  intro p e s m args below meth c s₁ B hml hv
  obtain ⟨rfl, hsz, hP, hD, E, Z⟩ := hv
  have hts := atoms_spec (ws := wsL_act) B.pre
  have hown : s.vm.findClass RL = some m.cls := findClass_of_methodNamed B.named
  have X : CallFix p m c cL_act 8 s _ wsL_act RL := ⟨B.exec, B.bytes, hml, hown, hts⟩
  have hx := B.exec
  have hb := B.bytes
  have hr0 := B.returns
  have hlocks := B.notSynchronized
  have hts2 : ∀ w, w ∈ wsL_act → w ∈ wsL_act := fun _ h9 => h9
  have htab : c.exceptionTable.toList = tableOf [(0, 288, 289, 65), (0, 288, 294, 67), (0, 288, 299, 69)] := vx_table (x := yL_act) B (hts _ List.mem_cons_self)
  subst hsz
  have w : bSt G vwCl [] s (hs_W G a x i) s.heap [] := ⟨hP, va_S.rf, hD⟩
  have w := b_wide (hs_M a) b_nil w
  have hm9 : ∀ q ∈ hs_M a, Aw (hs_M a) s.heap.size q := fun q h => Or.inl h
  have Z9 : bZ (hs_M a) s := Z
  have hI := hi
  have hl := lv_entry ([.ref (a 0), .int (nI 7), .int p1, .int p2, .int p3, .int p4, .int p5]) (n := 8) (Nat.le_of_ble_eq_true rfl)
  rw [lg_entry_eq]
  generalize (lg_sl ([.ref (a 0), .int (nI 7), .int p1, .int p2, .int p3, .int p4, .int p5]) ++ List.replicate (8 - (lg_sl ([.ref (a 0), .int (nI 7), .int p1, .int p2, .int p3, .int p4, .int p5])).length) Slot.unset).toArray = ls at hl ⊢
  have hl : lv_has ls 8 [(0, .ref (a 0)), (1, .int (nI 7)), (2, .int p1), (3, .int p2), (4, .int p3), (5, .int p4), (6, .int p5)] := hl
  refine lv_iload_n hx hb dL_act_0 rfl (lv_at hl 1 rfl) ?_
  refine lv_if_ne (tgt := 12) hx hb dL_act_1 (by decide) (fun c9 => ?_) (fun c9 => absurd c9 (by decide))
  refine lv_iload_n hx hb dL_act_12 rfl (lv_at hl 1 rfl) ?_
  refine lv_iconst (v := nI 1) hx hb dL_act_13 (by decide) ?_
  refine lv_icmp_ne (tgt := 25) hx hb dL_act_14 (by decide) (fun c9 => ?_) (fun c9 => absurd c9 (by decide))
  refine lv_iload_n hx hb dL_act_25 rfl (lv_at hl 1 rfl) ?_
  refine lv_iconst (v := nI 2) hx hb dL_act_26 (by decide) ?_
  refine lv_icmp_ne (tgt := 58) hx hb dL_act_27 (by decide) (fun c9 => ?_) (fun c9 => absurd c9 (by decide))
  refine lv_iload_n hx hb dL_act_58 rfl (lv_at hl 1 rfl) ?_
  refine lv_iconst (v := nI 3) hx hb dL_act_59 (by decide) ?_
  refine lv_icmp_ne (tgt := 78) hx hb dL_act_60 (by decide) (fun c9 => ?_) (fun c9 => absurd c9 (by decide))
  refine lv_iload_n hx hb dL_act_78 rfl (lv_at hl 1 rfl) ?_
  refine lv_iconst (v := nI 4) hx hb dL_act_79 (by decide) ?_
  refine lv_icmp_ne (tgt := 91) hx hb dL_act_80 (by decide) (fun c9 => ?_) (fun c9 => absurd c9 (by decide))
  refine lv_iload_n hx hb dL_act_91 rfl (lv_at hl 1 rfl) ?_
  refine lv_iconst (v := nI 5) hx hb dL_act_92 (by decide) ?_
  refine lv_icmp_ne (tgt := 104) hx hb dL_act_93 (by decide) (fun c9 => ?_) (fun c9 => absurd c9 (by decide))
  refine lv_iload_n hx hb dL_act_104 rfl (lv_at hl 1 rfl) ?_
  refine lv_bipush (v := nI 6) hx hb dL_act_105 (by decide) ?_
  refine lv_icmp_ne (tgt := 132) hx hb dL_act_107 (by decide) (fun c9 => ?_) (fun c9 => absurd c9 (by decide))
  refine lv_iload_n hx hb dL_act_132 rfl (lv_at hl 1 rfl) ?_
  refine lv_bipush (v := nI 7) hx hb dL_act_133 (by decide) ?_
  refine lv_icmp_ne (tgt := 146) hx hb dL_act_135 (by decide) (fun c9 => absurd rfl c9) (fun c9 => ?_)
  refine lv_aload_n hx hb dL_act_138 rfl (lv_at hl 0 rfl) ?_
  refine lv_iload_n hx hb dL_act_139 rfl (lv_at hl 2 rfl) ?_
  refine hs_xcalli w (vx_runV (As := [.int p1]) (rest := []) X (k_pass l hl0 G _ a _ _ hI p1) (cwV 1 hts gL_act_X5_pass rfl rfl rfl (by decide +kernel) ⟨Nat.le_of_ble_eq_true rfl, Nat.le_of_ble_eq_true rfl⟩) ⟨b_blind, hs_recv E w, fun U9 hU9 hW9 => ⟨rfl, hs_pre E Z9 w hm9 U9 hU9 hW9⟩⟩ rfl rfl hl.1 rfl (lv_room (Nat.le_of_ble_eq_true rfl)) dL_act_140 ⟨Nat.le_of_ble_eq_true rfl, Nat.le_of_ble_eq_true rfl⟩) hm9 (fun E9 ce9 q9 H9 locs9 hex w9 hce hcv hcl => ?_) (fun r i H locs hr w => ?_)
  · rcases hex with ⟨rfl, hx9⟩ | ⟨rfl, hx9⟩ | ⟨rfl, hx9⟩
    · have hcc : c0 = 1 := hT.symm.trans hx9
      refine vx_catch (name := "java/lang/IndexOutOfBoundsException") hown [] ⟨0, 288, 289, 65⟩ [⟨0, 288, 294, 67⟩, ⟨0, 288, 299, 69⟩] htab b_pn (by decide) (by decide) (hts (.classLink RL 65 "java/lang/IndexOutOfBoundsException") (by decide +kernel)) (va_Nw.use rfl (E.2.1 (.castable "java/lang/IndexOutOfBoundsException" "java/lang/IndexOutOfBoundsException") (by decide +kernel)).2) hce hcv hcl ?_
      have w := w9
      refine lv_astore (lv' := [(7, .ref q9), (0, .ref (a 0)), (1, .int (nI 7)), (2, .int p1), (3, .int p2), (4, .int p3), (5, .int p4), (6, .int p5)]) hx hb dL_act_289 hl (by decide) rfl (fun ls hl => ?_)
      refine lv_bipush (v := -71) hx hb dL_act_291 (by decide) ?_
      exact W.iret (v := -71) hx hb hr0 (fun t9 ht9 hW9 => ⟨⟨-71, i, rfl, ⟨hI, by rw [hcc]; rfl⟩, (by show va_P G.1 vwCl (hs_W G a x i) t9.heap; rw [ht9]; exact w.1)⟩, w.2.1.F ht9⟩) w.2.1.2.2 dL_act_293
    · have hcc : c0 = 2 := hT.symm.trans hx9
      refine vx_catch (name := "java/lang/IllegalArgumentException") hown [⟨0, 288, 289, 65⟩] ⟨0, 288, 294, 67⟩ [⟨0, 288, 299, 69⟩] htab (b_pc (Or.inr ⟨by decide, "java/lang/IndexOutOfBoundsException", hts (.classLink RL 65 "java/lang/IndexOutOfBoundsException") (by decide +kernel), va_Nc.of (args := #[]) (E.2.1 (.not (.castable "java/lang/IllegalArgumentException" "java/lang/IndexOutOfBoundsException")) (by decide +kernel)).2⟩) b_pn) (by decide) (by decide) (hts (.classLink RL 67 "java/lang/IllegalArgumentException") (by decide +kernel)) (va_Nw.use rfl (E.2.1 (.castable "java/lang/IllegalArgumentException" "java/lang/IllegalArgumentException") (by decide +kernel)).2) hce hcv hcl ?_
      have w := w9
      refine lv_astore (lv' := [(7, .ref q9), (0, .ref (a 0)), (1, .int (nI 7)), (2, .int p1), (3, .int p2), (4, .int p3), (5, .int p4), (6, .int p5)]) hx hb dL_act_294 hl (by decide) rfl (fun ls hl => ?_)
      refine lv_bipush (v := -72) hx hb dL_act_296 (by decide) ?_
      exact W.iret (v := -72) hx hb hr0 (fun t9 ht9 hW9 => ⟨⟨-72, i, rfl, ⟨hI, by rw [hcc]; rfl⟩, (by show va_P G.1 vwCl (hs_W G a x i) t9.heap; rw [ht9]; exact w.1)⟩, w.2.1.F ht9⟩) w.2.1.2.2 dL_act_298
    · have hcc : c0 = 3 := hT.symm.trans hx9
      refine vx_catch (name := "java/lang/IllegalStateException") hown [⟨0, 288, 289, 65⟩, ⟨0, 288, 294, 67⟩] ⟨0, 288, 299, 69⟩ [] htab (b_pc (Or.inr ⟨by decide, "java/lang/IndexOutOfBoundsException", hts (.classLink RL 65 "java/lang/IndexOutOfBoundsException") (by decide +kernel), va_Nc.of (args := #[]) (E.2.1 (.not (.castable "java/lang/IllegalStateException" "java/lang/IndexOutOfBoundsException")) (by decide +kernel)).2⟩) (b_pc (Or.inr ⟨by decide, "java/lang/IllegalArgumentException", hts (.classLink RL 67 "java/lang/IllegalArgumentException") (by decide +kernel), va_Nc.of (args := #[]) (E.2.1 (.not (.castable "java/lang/IllegalStateException" "java/lang/IllegalArgumentException")) (by decide +kernel)).2⟩) b_pn)) (by decide) (by decide) (hts (.classLink RL 69 "java/lang/IllegalStateException") (by decide +kernel)) (va_Nw.use rfl (E.2.1 (.castable "java/lang/IllegalStateException" "java/lang/IllegalStateException") (by decide +kernel)).2) hce hcv hcl ?_
      have w := w9
      refine lv_astore (lv' := [(7, .ref q9), (0, .ref (a 0)), (1, .int (nI 7)), (2, .int p1), (3, .int p2), (4, .int p3), (5, .int p4), (6, .int p5)]) hx hb dL_act_299 hl (by decide) rfl (fun ls hl => ?_)
      refine lv_bipush (v := -73) hx hb dL_act_301 (by decide) ?_
      exact W.iret (v := -73) hx hb hr0 (fun t9 ht9 hW9 => ⟨⟨-73, i, rfl, ⟨hI, by rw [hcc]; rfl⟩, (by show va_P G.1 vwCl (hs_W G a x i) t9.heap; rw [ht9]; exact w.1)⟩, w.2.1.F ht9⟩) w.2.1.2.2 dL_act_303
  · exact absurd (hT.symm.trans hr.2.1) hc
set_option maxHeartbeats 4000000 in
set_option maxRecDepth 100000 in
theorem aF_figure (l : Launch) (hl0 : l.stackTraces = false) (G : bG) (sz : Nat) (a : Nat → Nat) (x : hs_E) (i : hs_I) (hi : hs_Inv x i) (p1 p2 p3 p4 p5 : Int32) (c0 : Nat) (hT : hT_figure x p1 p2 p3 p4 = c0) (hc : ¬ c0 = 0) : Met l yL_act wsL_act ({ frames := 8, cells := 2, slots := 12, locals := 138 }) (va_Pc [.ref (a 0), .int (nI 8), .int p1, .int p2, .int p3, .int p4, .int p5] (bPre G vwCl bNW bSW sz (hs_W G a x i) (hs_M a))) (va_Qi (fun (r : Int32) (j : hs_I) => hs_Inv x j ∧ r = hs_r c0) (fun (j : hs_I) (tS : State) => va_P G.1 vwCl (hs_W G a x j) tS.heap) (Aw (hs_M a) sz)) 2 12 (Aw (hs_M a) sz) := by
  refine va_MetW (cc := cL_act) (maxL := 8) (ret := (some .int)) (by decide) rfl ?_
  intro p e s m args below meth c s₁ B hml hv
  obtain ⟨rfl, hsz, hP, hD, E, Z⟩ := hv
  have hts := atoms_spec (ws := wsL_act) B.pre
  have hown : s.vm.findClass RL = some m.cls := findClass_of_methodNamed B.named
  have X : CallFix p m c cL_act 8 s _ wsL_act RL := ⟨B.exec, B.bytes, hml, hown, hts⟩
  have hx := B.exec
  have hb := B.bytes
  have hr0 := B.returns
  have hlocks := B.notSynchronized
  have hts2 : ∀ w, w ∈ wsL_act → w ∈ wsL_act := fun _ h9 => h9
  have htab : c.exceptionTable.toList = tableOf [(0, 288, 289, 65), (0, 288, 294, 67), (0, 288, 299, 69)] := vx_table (x := yL_act) B (hts _ List.mem_cons_self)
  subst hsz
  have w : bSt G vwCl [] s (hs_W G a x i) s.heap [] := ⟨hP, va_S.rf, hD⟩
  have w := b_wide (hs_M a) b_nil w
  have hm9 : ∀ q ∈ hs_M a, Aw (hs_M a) s.heap.size q := fun q h => Or.inl h
  have Z9 : bZ (hs_M a) s := Z
  have hI := hi
  have hl := lv_entry ([.ref (a 0), .int (nI 8), .int p1, .int p2, .int p3, .int p4, .int p5]) (n := 8) (Nat.le_of_ble_eq_true rfl)
  rw [lg_entry_eq]
  generalize (lg_sl ([.ref (a 0), .int (nI 8), .int p1, .int p2, .int p3, .int p4, .int p5]) ++ List.replicate (8 - (lg_sl ([.ref (a 0), .int (nI 8), .int p1, .int p2, .int p3, .int p4, .int p5])).length) Slot.unset).toArray = ls at hl ⊢
  have hl : lv_has ls 8 [(0, .ref (a 0)), (1, .int (nI 8)), (2, .int p1), (3, .int p2), (4, .int p3), (5, .int p4), (6, .int p5)] := hl
  refine lv_iload_n hx hb dL_act_0 rfl (lv_at hl 1 rfl) ?_
  refine lv_if_ne (tgt := 12) hx hb dL_act_1 (by decide) (fun c9 => ?_) (fun c9 => absurd c9 (by decide))
  refine lv_iload_n hx hb dL_act_12 rfl (lv_at hl 1 rfl) ?_
  refine lv_iconst (v := nI 1) hx hb dL_act_13 (by decide) ?_
  refine lv_icmp_ne (tgt := 25) hx hb dL_act_14 (by decide) (fun c9 => ?_) (fun c9 => absurd c9 (by decide))
  refine lv_iload_n hx hb dL_act_25 rfl (lv_at hl 1 rfl) ?_
  refine lv_iconst (v := nI 2) hx hb dL_act_26 (by decide) ?_
  refine lv_icmp_ne (tgt := 58) hx hb dL_act_27 (by decide) (fun c9 => ?_) (fun c9 => absurd c9 (by decide))
  refine lv_iload_n hx hb dL_act_58 rfl (lv_at hl 1 rfl) ?_
  refine lv_iconst (v := nI 3) hx hb dL_act_59 (by decide) ?_
  refine lv_icmp_ne (tgt := 78) hx hb dL_act_60 (by decide) (fun c9 => ?_) (fun c9 => absurd c9 (by decide))
  refine lv_iload_n hx hb dL_act_78 rfl (lv_at hl 1 rfl) ?_
  refine lv_iconst (v := nI 4) hx hb dL_act_79 (by decide) ?_
  refine lv_icmp_ne (tgt := 91) hx hb dL_act_80 (by decide) (fun c9 => ?_) (fun c9 => absurd c9 (by decide))
  refine lv_iload_n hx hb dL_act_91 rfl (lv_at hl 1 rfl) ?_
  refine lv_iconst (v := nI 5) hx hb dL_act_92 (by decide) ?_
  refine lv_icmp_ne (tgt := 104) hx hb dL_act_93 (by decide) (fun c9 => ?_) (fun c9 => absurd c9 (by decide))
  refine lv_iload_n hx hb dL_act_104 rfl (lv_at hl 1 rfl) ?_
  refine lv_bipush (v := nI 6) hx hb dL_act_105 (by decide) ?_
  refine lv_icmp_ne (tgt := 132) hx hb dL_act_107 (by decide) (fun c9 => ?_) (fun c9 => absurd c9 (by decide))
  refine lv_iload_n hx hb dL_act_132 rfl (lv_at hl 1 rfl) ?_
  refine lv_bipush (v := nI 7) hx hb dL_act_133 (by decide) ?_
  refine lv_icmp_ne (tgt := 146) hx hb dL_act_135 (by decide) (fun c9 => ?_) (fun c9 => absurd c9 (by decide))
  refine lv_iload_n hx hb dL_act_146 rfl (lv_at hl 1 rfl) ?_
  refine lv_bipush (v := nI 8) hx hb dL_act_147 (by decide) ?_
  refine lv_icmp_ne (tgt := 165) hx hb dL_act_149 (by decide) (fun c9 => absurd rfl c9) (fun c9 => ?_)
  refine lv_aload_n hx hb dL_act_152 rfl (lv_at hl 0 rfl) ?_
  refine lv_iload_n hx hb dL_act_153 rfl (lv_at hl 2 rfl) ?_
  refine lv_iload_n hx hb dL_act_154 rfl (lv_at hl 3 rfl) ?_
  refine lv_iload hx hb dL_act_155 (lv_at hl 4 rfl) ?_
  refine lv_iload hx hb dL_act_157 (lv_at hl 5 rfl) ?_
  refine hs_xcalli w (vx_runV (As := [.int p1, .int p2, .int p3, .int p4]) (rest := []) X (k_figure l hl0 G _ a _ _ hI p1 p2 p3 p4) (cwV 4 hts gL_act_X5_figure rfl rfl rfl (by decide +kernel) ⟨Nat.le_of_ble_eq_true rfl, Nat.le_of_ble_eq_true rfl⟩) ⟨b_blind, hs_recv E w, fun U9 hU9 hW9 => ⟨rfl, hs_pre E Z9 w hm9 U9 hU9 hW9⟩⟩ rfl rfl hl.1 rfl (lv_room (Nat.le_of_ble_eq_true rfl)) dL_act_159 ⟨Nat.le_of_ble_eq_true rfl, Nat.le_of_ble_eq_true rfl⟩) hm9 (fun E9 ce9 q9 H9 locs9 hex w9 hce hcv hcl => ?_) (fun r i H locs hr w => ?_)
  · rcases hex with ⟨rfl, hx9⟩ | ⟨rfl, hx9⟩ | ⟨rfl, hx9⟩
    · have hcc : c0 = 1 := hT.symm.trans hx9
      refine vx_catch (name := "java/lang/IndexOutOfBoundsException") hown [] ⟨0, 288, 289, 65⟩ [⟨0, 288, 294, 67⟩, ⟨0, 288, 299, 69⟩] htab b_pn (by decide) (by decide) (hts (.classLink RL 65 "java/lang/IndexOutOfBoundsException") (by decide +kernel)) (va_Nw.use rfl (E.2.1 (.castable "java/lang/IndexOutOfBoundsException" "java/lang/IndexOutOfBoundsException") (by decide +kernel)).2) hce hcv hcl ?_
      have w := w9
      refine lv_astore (lv' := [(7, .ref q9), (0, .ref (a 0)), (1, .int (nI 8)), (2, .int p1), (3, .int p2), (4, .int p3), (5, .int p4), (6, .int p5)]) hx hb dL_act_289 hl (by decide) rfl (fun ls hl => ?_)
      refine lv_bipush (v := -71) hx hb dL_act_291 (by decide) ?_
      exact W.iret (v := -71) hx hb hr0 (fun t9 ht9 hW9 => ⟨⟨-71, i, rfl, ⟨hI, by rw [hcc]; rfl⟩, (by show va_P G.1 vwCl (hs_W G a x i) t9.heap; rw [ht9]; exact w.1)⟩, w.2.1.F ht9⟩) w.2.1.2.2 dL_act_293
    · have hcc : c0 = 2 := hT.symm.trans hx9
      refine vx_catch (name := "java/lang/IllegalArgumentException") hown [⟨0, 288, 289, 65⟩] ⟨0, 288, 294, 67⟩ [⟨0, 288, 299, 69⟩] htab (b_pc (Or.inr ⟨by decide, "java/lang/IndexOutOfBoundsException", hts (.classLink RL 65 "java/lang/IndexOutOfBoundsException") (by decide +kernel), va_Nc.of (args := #[]) (E.2.1 (.not (.castable "java/lang/IllegalArgumentException" "java/lang/IndexOutOfBoundsException")) (by decide +kernel)).2⟩) b_pn) (by decide) (by decide) (hts (.classLink RL 67 "java/lang/IllegalArgumentException") (by decide +kernel)) (va_Nw.use rfl (E.2.1 (.castable "java/lang/IllegalArgumentException" "java/lang/IllegalArgumentException") (by decide +kernel)).2) hce hcv hcl ?_
      have w := w9
      refine lv_astore (lv' := [(7, .ref q9), (0, .ref (a 0)), (1, .int (nI 8)), (2, .int p1), (3, .int p2), (4, .int p3), (5, .int p4), (6, .int p5)]) hx hb dL_act_294 hl (by decide) rfl (fun ls hl => ?_)
      refine lv_bipush (v := -72) hx hb dL_act_296 (by decide) ?_
      exact W.iret (v := -72) hx hb hr0 (fun t9 ht9 hW9 => ⟨⟨-72, i, rfl, ⟨hI, by rw [hcc]; rfl⟩, (by show va_P G.1 vwCl (hs_W G a x i) t9.heap; rw [ht9]; exact w.1)⟩, w.2.1.F ht9⟩) w.2.1.2.2 dL_act_298
    · have hcc : c0 = 3 := hT.symm.trans hx9
      refine vx_catch (name := "java/lang/IllegalStateException") hown [⟨0, 288, 289, 65⟩, ⟨0, 288, 294, 67⟩] ⟨0, 288, 299, 69⟩ [] htab (b_pc (Or.inr ⟨by decide, "java/lang/IndexOutOfBoundsException", hts (.classLink RL 65 "java/lang/IndexOutOfBoundsException") (by decide +kernel), va_Nc.of (args := #[]) (E.2.1 (.not (.castable "java/lang/IllegalStateException" "java/lang/IndexOutOfBoundsException")) (by decide +kernel)).2⟩) (b_pc (Or.inr ⟨by decide, "java/lang/IllegalArgumentException", hts (.classLink RL 67 "java/lang/IllegalArgumentException") (by decide +kernel), va_Nc.of (args := #[]) (E.2.1 (.not (.castable "java/lang/IllegalStateException" "java/lang/IllegalArgumentException")) (by decide +kernel)).2⟩) b_pn)) (by decide) (by decide) (hts (.classLink RL 69 "java/lang/IllegalStateException") (by decide +kernel)) (va_Nw.use rfl (E.2.1 (.castable "java/lang/IllegalStateException" "java/lang/IllegalStateException") (by decide +kernel)).2) hce hcv hcl ?_
      have w := w9
      refine lv_astore (lv' := [(7, .ref q9), (0, .ref (a 0)), (1, .int (nI 8)), (2, .int p1), (3, .int p2), (4, .int p3), (5, .int p4), (6, .int p5)]) hx hb dL_act_299 hl (by decide) rfl (fun ls hl => ?_)
      refine lv_bipush (v := -73) hx hb dL_act_301 (by decide) ?_
      exact W.iret (v := -73) hx hb hr0 (fun t9 ht9 hW9 => ⟨⟨-73, i, rfl, ⟨hI, by rw [hcc]; rfl⟩, (by show va_P G.1 vwCl (hs_W G a x i) t9.heap; rw [ht9]; exact w.1)⟩, w.2.1.F ht9⟩) w.2.1.2.2 dL_act_303
  · exact absurd (hT.symm.trans hr.2.1) hc
set_option maxHeartbeats 4000000 in
set_option maxRecDepth 100000 in
theorem aF_value (l : Launch) (hl0 : l.stackTraces = false) (G : bG) (sz : Nat) (a : Nat → Nat) (x : hs_E) (i : hs_I) (hi : hs_Inv x i) (p1 p2 p3 p4 p5 : Int32) (c0 : Nat) (hT : hT_value x p1 p2 p3 p4 = c0) (hc : ¬ c0 = 0) : Met l yL_act wsL_act ({ frames := 8, cells := 2, slots := 12, locals := 137 }) (va_Pc [.ref (a 0), .int (nI 9), .int p1, .int p2, .int p3, .int p4, .int p5] (bPre G vwCl bNW bSW sz (hs_W G a x i) (hs_M a))) (va_Qi (fun (r : Int32) (j : hs_I) => hs_Inv x j ∧ r = hs_r c0) (fun (j : hs_I) (tS : State) => va_P G.1 vwCl (hs_W G a x j) tS.heap) (Aw (hs_M a) sz)) 2 12 (Aw (hs_M a) sz) := by
  refine va_MetW (cc := cL_act) (maxL := 8) (ret := (some .int)) (by decide) rfl ?_
  intro p e s m args below meth c s₁ B hml hv
  obtain ⟨rfl, hsz, hP, hD, E, Z⟩ := hv
  have hts := atoms_spec (ws := wsL_act) B.pre
  have hown : s.vm.findClass RL = some m.cls := findClass_of_methodNamed B.named
  have X : CallFix p m c cL_act 8 s _ wsL_act RL := ⟨B.exec, B.bytes, hml, hown, hts⟩
  have hx := B.exec
  have hb := B.bytes
  have hr0 := B.returns
  have hlocks := B.notSynchronized
  have hts2 : ∀ w, w ∈ wsL_act → w ∈ wsL_act := fun _ h9 => h9
  have htab : c.exceptionTable.toList = tableOf [(0, 288, 289, 65), (0, 288, 294, 67), (0, 288, 299, 69)] := vx_table (x := yL_act) B (hts _ List.mem_cons_self)
  subst hsz
  have w : bSt G vwCl [] s (hs_W G a x i) s.heap [] := ⟨hP, va_S.rf, hD⟩
  have w := b_wide (hs_M a) b_nil w
  have hm9 : ∀ q ∈ hs_M a, Aw (hs_M a) s.heap.size q := fun q h => Or.inl h
  have Z9 : bZ (hs_M a) s := Z
  have hI := hi
  have hl := lv_entry ([.ref (a 0), .int (nI 9), .int p1, .int p2, .int p3, .int p4, .int p5]) (n := 8) (Nat.le_of_ble_eq_true rfl)
  rw [lg_entry_eq]
  generalize (lg_sl ([.ref (a 0), .int (nI 9), .int p1, .int p2, .int p3, .int p4, .int p5]) ++ List.replicate (8 - (lg_sl ([.ref (a 0), .int (nI 9), .int p1, .int p2, .int p3, .int p4, .int p5])).length) Slot.unset).toArray = ls at hl ⊢
  have hl : lv_has ls 8 [(0, .ref (a 0)), (1, .int (nI 9)), (2, .int p1), (3, .int p2), (4, .int p3), (5, .int p4), (6, .int p5)] := hl
  refine lv_iload_n hx hb dL_act_0 rfl (lv_at hl 1 rfl) ?_
  refine lv_if_ne (tgt := 12) hx hb dL_act_1 (by decide) (fun c9 => ?_) (fun c9 => absurd c9 (by decide))
  refine lv_iload_n hx hb dL_act_12 rfl (lv_at hl 1 rfl) ?_
  refine lv_iconst (v := nI 1) hx hb dL_act_13 (by decide) ?_
  refine lv_icmp_ne (tgt := 25) hx hb dL_act_14 (by decide) (fun c9 => ?_) (fun c9 => absurd c9 (by decide))
  refine lv_iload_n hx hb dL_act_25 rfl (lv_at hl 1 rfl) ?_
  refine lv_iconst (v := nI 2) hx hb dL_act_26 (by decide) ?_
  refine lv_icmp_ne (tgt := 58) hx hb dL_act_27 (by decide) (fun c9 => ?_) (fun c9 => absurd c9 (by decide))
  refine lv_iload_n hx hb dL_act_58 rfl (lv_at hl 1 rfl) ?_
  refine lv_iconst (v := nI 3) hx hb dL_act_59 (by decide) ?_
  refine lv_icmp_ne (tgt := 78) hx hb dL_act_60 (by decide) (fun c9 => ?_) (fun c9 => absurd c9 (by decide))
  refine lv_iload_n hx hb dL_act_78 rfl (lv_at hl 1 rfl) ?_
  refine lv_iconst (v := nI 4) hx hb dL_act_79 (by decide) ?_
  refine lv_icmp_ne (tgt := 91) hx hb dL_act_80 (by decide) (fun c9 => ?_) (fun c9 => absurd c9 (by decide))
  refine lv_iload_n hx hb dL_act_91 rfl (lv_at hl 1 rfl) ?_
  refine lv_iconst (v := nI 5) hx hb dL_act_92 (by decide) ?_
  refine lv_icmp_ne (tgt := 104) hx hb dL_act_93 (by decide) (fun c9 => ?_) (fun c9 => absurd c9 (by decide))
  refine lv_iload_n hx hb dL_act_104 rfl (lv_at hl 1 rfl) ?_
  refine lv_bipush (v := nI 6) hx hb dL_act_105 (by decide) ?_
  refine lv_icmp_ne (tgt := 132) hx hb dL_act_107 (by decide) (fun c9 => ?_) (fun c9 => absurd c9 (by decide))
  refine lv_iload_n hx hb dL_act_132 rfl (lv_at hl 1 rfl) ?_
  refine lv_bipush (v := nI 7) hx hb dL_act_133 (by decide) ?_
  refine lv_icmp_ne (tgt := 146) hx hb dL_act_135 (by decide) (fun c9 => ?_) (fun c9 => absurd c9 (by decide))
  refine lv_iload_n hx hb dL_act_146 rfl (lv_at hl 1 rfl) ?_
  refine lv_bipush (v := nI 8) hx hb dL_act_147 (by decide) ?_
  refine lv_icmp_ne (tgt := 165) hx hb dL_act_149 (by decide) (fun c9 => ?_) (fun c9 => absurd c9 (by decide))
  refine lv_iload_n hx hb dL_act_165 rfl (lv_at hl 1 rfl) ?_
  refine lv_bipush (v := nI 9) hx hb dL_act_166 (by decide) ?_
  refine lv_icmp_ne (tgt := 184) hx hb dL_act_168 (by decide) (fun c9 => absurd rfl c9) (fun c9 => ?_)
  refine lv_aload_n hx hb dL_act_171 rfl (lv_at hl 0 rfl) ?_
  refine lv_iload_n hx hb dL_act_172 rfl (lv_at hl 2 rfl) ?_
  refine lv_iload_n hx hb dL_act_173 rfl (lv_at hl 3 rfl) ?_
  refine lv_iload hx hb dL_act_174 (lv_at hl 4 rfl) ?_
  refine lv_iload hx hb dL_act_176 (lv_at hl 5 rfl) ?_
  refine hs_xcalli w (vx_runV (As := [.int p1, .int p2, .int p3, .int p4]) (rest := []) X (k_value l hl0 G _ a _ _ hI p1 p2 p3 p4) (cwV 4 hts gL_act_X5_value rfl rfl rfl (by decide +kernel) ⟨Nat.le_of_ble_eq_true rfl, Nat.le_of_ble_eq_true rfl⟩) ⟨b_blind, hs_recv E w, fun U9 hU9 hW9 => ⟨rfl, hs_pre E Z9 w hm9 U9 hU9 hW9⟩⟩ rfl rfl hl.1 rfl (lv_room (Nat.le_of_ble_eq_true rfl)) dL_act_178 ⟨Nat.le_of_ble_eq_true rfl, Nat.le_of_ble_eq_true rfl⟩) hm9 (fun E9 ce9 q9 H9 locs9 hex w9 hce hcv hcl => ?_) (fun r i H locs hr w => ?_)
  · rcases hex with ⟨rfl, hx9⟩ | ⟨rfl, hx9⟩ | ⟨rfl, hx9⟩
    · have hcc : c0 = 1 := hT.symm.trans hx9
      refine vx_catch (name := "java/lang/IndexOutOfBoundsException") hown [] ⟨0, 288, 289, 65⟩ [⟨0, 288, 294, 67⟩, ⟨0, 288, 299, 69⟩] htab b_pn (by decide) (by decide) (hts (.classLink RL 65 "java/lang/IndexOutOfBoundsException") (by decide +kernel)) (va_Nw.use rfl (E.2.1 (.castable "java/lang/IndexOutOfBoundsException" "java/lang/IndexOutOfBoundsException") (by decide +kernel)).2) hce hcv hcl ?_
      have w := w9
      refine lv_astore (lv' := [(7, .ref q9), (0, .ref (a 0)), (1, .int (nI 9)), (2, .int p1), (3, .int p2), (4, .int p3), (5, .int p4), (6, .int p5)]) hx hb dL_act_289 hl (by decide) rfl (fun ls hl => ?_)
      refine lv_bipush (v := -71) hx hb dL_act_291 (by decide) ?_
      exact W.iret (v := -71) hx hb hr0 (fun t9 ht9 hW9 => ⟨⟨-71, i, rfl, ⟨hI, by rw [hcc]; rfl⟩, (by show va_P G.1 vwCl (hs_W G a x i) t9.heap; rw [ht9]; exact w.1)⟩, w.2.1.F ht9⟩) w.2.1.2.2 dL_act_293
    · have hcc : c0 = 2 := hT.symm.trans hx9
      refine vx_catch (name := "java/lang/IllegalArgumentException") hown [⟨0, 288, 289, 65⟩] ⟨0, 288, 294, 67⟩ [⟨0, 288, 299, 69⟩] htab (b_pc (Or.inr ⟨by decide, "java/lang/IndexOutOfBoundsException", hts (.classLink RL 65 "java/lang/IndexOutOfBoundsException") (by decide +kernel), va_Nc.of (args := #[]) (E.2.1 (.not (.castable "java/lang/IllegalArgumentException" "java/lang/IndexOutOfBoundsException")) (by decide +kernel)).2⟩) b_pn) (by decide) (by decide) (hts (.classLink RL 67 "java/lang/IllegalArgumentException") (by decide +kernel)) (va_Nw.use rfl (E.2.1 (.castable "java/lang/IllegalArgumentException" "java/lang/IllegalArgumentException") (by decide +kernel)).2) hce hcv hcl ?_
      have w := w9
      refine lv_astore (lv' := [(7, .ref q9), (0, .ref (a 0)), (1, .int (nI 9)), (2, .int p1), (3, .int p2), (4, .int p3), (5, .int p4), (6, .int p5)]) hx hb dL_act_294 hl (by decide) rfl (fun ls hl => ?_)
      refine lv_bipush (v := -72) hx hb dL_act_296 (by decide) ?_
      exact W.iret (v := -72) hx hb hr0 (fun t9 ht9 hW9 => ⟨⟨-72, i, rfl, ⟨hI, by rw [hcc]; rfl⟩, (by show va_P G.1 vwCl (hs_W G a x i) t9.heap; rw [ht9]; exact w.1)⟩, w.2.1.F ht9⟩) w.2.1.2.2 dL_act_298
    · have hcc : c0 = 3 := hT.symm.trans hx9
      refine vx_catch (name := "java/lang/IllegalStateException") hown [⟨0, 288, 289, 65⟩, ⟨0, 288, 294, 67⟩] ⟨0, 288, 299, 69⟩ [] htab (b_pc (Or.inr ⟨by decide, "java/lang/IndexOutOfBoundsException", hts (.classLink RL 65 "java/lang/IndexOutOfBoundsException") (by decide +kernel), va_Nc.of (args := #[]) (E.2.1 (.not (.castable "java/lang/IllegalStateException" "java/lang/IndexOutOfBoundsException")) (by decide +kernel)).2⟩) (b_pc (Or.inr ⟨by decide, "java/lang/IllegalArgumentException", hts (.classLink RL 67 "java/lang/IllegalArgumentException") (by decide +kernel), va_Nc.of (args := #[]) (E.2.1 (.not (.castable "java/lang/IllegalStateException" "java/lang/IllegalArgumentException")) (by decide +kernel)).2⟩) b_pn)) (by decide) (by decide) (hts (.classLink RL 69 "java/lang/IllegalStateException") (by decide +kernel)) (va_Nw.use rfl (E.2.1 (.castable "java/lang/IllegalStateException" "java/lang/IllegalStateException") (by decide +kernel)).2) hce hcv hcl ?_
      have w := w9
      refine lv_astore (lv' := [(7, .ref q9), (0, .ref (a 0)), (1, .int (nI 9)), (2, .int p1), (3, .int p2), (4, .int p3), (5, .int p4), (6, .int p5)]) hx hb dL_act_299 hl (by decide) rfl (fun ls hl => ?_)
      refine lv_bipush (v := -73) hx hb dL_act_301 (by decide) ?_
      exact W.iret (v := -73) hx hb hr0 (fun t9 ht9 hW9 => ⟨⟨-73, i, rfl, ⟨hI, by rw [hcc]; rfl⟩, (by show va_P G.1 vwCl (hs_W G a x i) t9.heap; rw [ht9]; exact w.1)⟩, w.2.1.F ht9⟩) w.2.1.2.2 dL_act_303
  · exact absurd (hT.symm.trans hr.2.1) hc
set_option maxHeartbeats 4000000 in
set_option maxRecDepth 100000 in
theorem aF_first (l : Launch) (hl0 : l.stackTraces = false) (G : bG) (sz : Nat) (a : Nat → Nat) (x : hs_E) (i : hs_I) (hi : hs_Inv x i) (p1 p2 p3 p4 p5 : Int32) (c0 : Nat) (hT : hT_first x p1 p2 p3 = c0) (hc : ¬ c0 = 0) : Met l yL_act wsL_act ({ frames := 8, cells := 1, slots := 6, locals := 136 }) (va_Pc [.ref (a 0), .int (nI 10), .int p1, .int p2, .int p3, .int p4, .int p5] (bPre G vwCl bNW bSW sz (hs_W G a x i) (hs_M a))) (va_Qi (fun (r : Int32) (j : hs_I) => hs_Inv x j ∧ r = hs_r c0) (fun (j : hs_I) (tS : State) => va_P G.1 vwCl (hs_W G a x j) tS.heap) (Aw (hs_M a) sz)) 1 6 (Aw (hs_M a) sz) := by
  refine va_MetW (cc := cL_act) (maxL := 8) (ret := (some .int)) (by decide) rfl ?_
  intro p e s m args below meth c s₁ B hml hv
  obtain ⟨rfl, hsz, hP, hD, E, Z⟩ := hv
  have hts := atoms_spec (ws := wsL_act) B.pre
  have hown : s.vm.findClass RL = some m.cls := findClass_of_methodNamed B.named
  have X : CallFix p m c cL_act 8 s _ wsL_act RL := ⟨B.exec, B.bytes, hml, hown, hts⟩
  have hx := B.exec
  have hb := B.bytes
  have hr0 := B.returns
  have hlocks := B.notSynchronized
  have hts2 : ∀ w, w ∈ wsL_act → w ∈ wsL_act := fun _ h9 => h9
  have htab : c.exceptionTable.toList = tableOf [(0, 288, 289, 65), (0, 288, 294, 67), (0, 288, 299, 69)] := vx_table (x := yL_act) B (hts _ List.mem_cons_self)
  subst hsz
  have w : bSt G vwCl [] s (hs_W G a x i) s.heap [] := ⟨hP, va_S.rf, hD⟩
  have w := b_wide (hs_M a) b_nil w
  have hm9 : ∀ q ∈ hs_M a, Aw (hs_M a) s.heap.size q := fun q h => Or.inl h
  have Z9 : bZ (hs_M a) s := Z
  have hI := hi
  have hl := lv_entry ([.ref (a 0), .int (nI 10), .int p1, .int p2, .int p3, .int p4, .int p5]) (n := 8) (Nat.le_of_ble_eq_true rfl)
  rw [lg_entry_eq]
  generalize (lg_sl ([.ref (a 0), .int (nI 10), .int p1, .int p2, .int p3, .int p4, .int p5]) ++ List.replicate (8 - (lg_sl ([.ref (a 0), .int (nI 10), .int p1, .int p2, .int p3, .int p4, .int p5])).length) Slot.unset).toArray = ls at hl ⊢
  have hl : lv_has ls 8 [(0, .ref (a 0)), (1, .int (nI 10)), (2, .int p1), (3, .int p2), (4, .int p3), (5, .int p4), (6, .int p5)] := hl
  refine lv_iload_n hx hb dL_act_0 rfl (lv_at hl 1 rfl) ?_
  refine lv_if_ne (tgt := 12) hx hb dL_act_1 (by decide) (fun c9 => ?_) (fun c9 => absurd c9 (by decide))
  refine lv_iload_n hx hb dL_act_12 rfl (lv_at hl 1 rfl) ?_
  refine lv_iconst (v := nI 1) hx hb dL_act_13 (by decide) ?_
  refine lv_icmp_ne (tgt := 25) hx hb dL_act_14 (by decide) (fun c9 => ?_) (fun c9 => absurd c9 (by decide))
  refine lv_iload_n hx hb dL_act_25 rfl (lv_at hl 1 rfl) ?_
  refine lv_iconst (v := nI 2) hx hb dL_act_26 (by decide) ?_
  refine lv_icmp_ne (tgt := 58) hx hb dL_act_27 (by decide) (fun c9 => ?_) (fun c9 => absurd c9 (by decide))
  refine lv_iload_n hx hb dL_act_58 rfl (lv_at hl 1 rfl) ?_
  refine lv_iconst (v := nI 3) hx hb dL_act_59 (by decide) ?_
  refine lv_icmp_ne (tgt := 78) hx hb dL_act_60 (by decide) (fun c9 => ?_) (fun c9 => absurd c9 (by decide))
  refine lv_iload_n hx hb dL_act_78 rfl (lv_at hl 1 rfl) ?_
  refine lv_iconst (v := nI 4) hx hb dL_act_79 (by decide) ?_
  refine lv_icmp_ne (tgt := 91) hx hb dL_act_80 (by decide) (fun c9 => ?_) (fun c9 => absurd c9 (by decide))
  refine lv_iload_n hx hb dL_act_91 rfl (lv_at hl 1 rfl) ?_
  refine lv_iconst (v := nI 5) hx hb dL_act_92 (by decide) ?_
  refine lv_icmp_ne (tgt := 104) hx hb dL_act_93 (by decide) (fun c9 => ?_) (fun c9 => absurd c9 (by decide))
  refine lv_iload_n hx hb dL_act_104 rfl (lv_at hl 1 rfl) ?_
  refine lv_bipush (v := nI 6) hx hb dL_act_105 (by decide) ?_
  refine lv_icmp_ne (tgt := 132) hx hb dL_act_107 (by decide) (fun c9 => ?_) (fun c9 => absurd c9 (by decide))
  refine lv_iload_n hx hb dL_act_132 rfl (lv_at hl 1 rfl) ?_
  refine lv_bipush (v := nI 7) hx hb dL_act_133 (by decide) ?_
  refine lv_icmp_ne (tgt := 146) hx hb dL_act_135 (by decide) (fun c9 => ?_) (fun c9 => absurd c9 (by decide))
  refine lv_iload_n hx hb dL_act_146 rfl (lv_at hl 1 rfl) ?_
  refine lv_bipush (v := nI 8) hx hb dL_act_147 (by decide) ?_
  refine lv_icmp_ne (tgt := 165) hx hb dL_act_149 (by decide) (fun c9 => ?_) (fun c9 => absurd c9 (by decide))
  refine lv_iload_n hx hb dL_act_165 rfl (lv_at hl 1 rfl) ?_
  refine lv_bipush (v := nI 9) hx hb dL_act_166 (by decide) ?_
  refine lv_icmp_ne (tgt := 184) hx hb dL_act_168 (by decide) (fun c9 => ?_) (fun c9 => absurd c9 (by decide))
  refine lv_iload_n hx hb dL_act_184 rfl (lv_at hl 1 rfl) ?_
  refine lv_bipush (v := nI 10) hx hb dL_act_185 (by decide) ?_
  refine lv_icmp_ne (tgt := 201) hx hb dL_act_187 (by decide) (fun c9 => absurd rfl c9) (fun c9 => ?_)
  refine lv_aload_n hx hb dL_act_190 rfl (lv_at hl 0 rfl) ?_
  refine lv_iload_n hx hb dL_act_191 rfl (lv_at hl 2 rfl) ?_
  refine lv_iload_n hx hb dL_act_192 rfl (lv_at hl 3 rfl) ?_
  refine lv_iload hx hb dL_act_193 (lv_at hl 4 rfl) ?_
  refine hs_xcalli w (vx_runV (As := [.int p1, .int p2, .int p3]) (rest := []) X (k_first l hl0 G _ a _ _ hI p1 p2 p3) (cwV 3 hts gL_act_X5_first rfl rfl rfl (by decide +kernel) ⟨Nat.le_of_ble_eq_true rfl, Nat.le_of_ble_eq_true rfl⟩) ⟨b_blind, hs_recv E w, fun U9 hU9 hW9 => ⟨rfl, hs_pre E Z9 w hm9 U9 hU9 hW9⟩⟩ rfl rfl hl.1 rfl (lv_room (Nat.le_of_ble_eq_true rfl)) dL_act_195 ⟨Nat.le_of_ble_eq_true rfl, Nat.le_of_ble_eq_true rfl⟩) hm9 (fun E9 ce9 q9 H9 locs9 hex w9 hce hcv hcl => ?_) (fun r i H locs hr w => ?_)
  · rcases hex with ⟨rfl, hx9⟩ | ⟨rfl, hx9⟩ | ⟨rfl, hx9⟩
    · have hcc : c0 = 1 := hT.symm.trans hx9
      refine vx_catch (name := "java/lang/IndexOutOfBoundsException") hown [] ⟨0, 288, 289, 65⟩ [⟨0, 288, 294, 67⟩, ⟨0, 288, 299, 69⟩] htab b_pn (by decide) (by decide) (hts (.classLink RL 65 "java/lang/IndexOutOfBoundsException") (by decide +kernel)) (va_Nw.use rfl (E.2.1 (.castable "java/lang/IndexOutOfBoundsException" "java/lang/IndexOutOfBoundsException") (by decide +kernel)).2) hce hcv hcl ?_
      have w := w9
      refine lv_astore (lv' := [(7, .ref q9), (0, .ref (a 0)), (1, .int (nI 10)), (2, .int p1), (3, .int p2), (4, .int p3), (5, .int p4), (6, .int p5)]) hx hb dL_act_289 hl (by decide) rfl (fun ls hl => ?_)
      refine lv_bipush (v := -71) hx hb dL_act_291 (by decide) ?_
      exact W.iret (v := -71) hx hb hr0 (fun t9 ht9 hW9 => ⟨⟨-71, i, rfl, ⟨hI, by rw [hcc]; rfl⟩, (by show va_P G.1 vwCl (hs_W G a x i) t9.heap; rw [ht9]; exact w.1)⟩, w.2.1.F ht9⟩) w.2.1.2.2 dL_act_293
    · have hcc : c0 = 2 := hT.symm.trans hx9
      refine vx_catch (name := "java/lang/IllegalArgumentException") hown [⟨0, 288, 289, 65⟩] ⟨0, 288, 294, 67⟩ [⟨0, 288, 299, 69⟩] htab (b_pc (Or.inr ⟨by decide, "java/lang/IndexOutOfBoundsException", hts (.classLink RL 65 "java/lang/IndexOutOfBoundsException") (by decide +kernel), va_Nc.of (args := #[]) (E.2.1 (.not (.castable "java/lang/IllegalArgumentException" "java/lang/IndexOutOfBoundsException")) (by decide +kernel)).2⟩) b_pn) (by decide) (by decide) (hts (.classLink RL 67 "java/lang/IllegalArgumentException") (by decide +kernel)) (va_Nw.use rfl (E.2.1 (.castable "java/lang/IllegalArgumentException" "java/lang/IllegalArgumentException") (by decide +kernel)).2) hce hcv hcl ?_
      have w := w9
      refine lv_astore (lv' := [(7, .ref q9), (0, .ref (a 0)), (1, .int (nI 10)), (2, .int p1), (3, .int p2), (4, .int p3), (5, .int p4), (6, .int p5)]) hx hb dL_act_294 hl (by decide) rfl (fun ls hl => ?_)
      refine lv_bipush (v := -72) hx hb dL_act_296 (by decide) ?_
      exact W.iret (v := -72) hx hb hr0 (fun t9 ht9 hW9 => ⟨⟨-72, i, rfl, ⟨hI, by rw [hcc]; rfl⟩, (by show va_P G.1 vwCl (hs_W G a x i) t9.heap; rw [ht9]; exact w.1)⟩, w.2.1.F ht9⟩) w.2.1.2.2 dL_act_298
    · have hcc : c0 = 3 := hT.symm.trans hx9
      refine vx_catch (name := "java/lang/IllegalStateException") hown [⟨0, 288, 289, 65⟩, ⟨0, 288, 294, 67⟩] ⟨0, 288, 299, 69⟩ [] htab (b_pc (Or.inr ⟨by decide, "java/lang/IndexOutOfBoundsException", hts (.classLink RL 65 "java/lang/IndexOutOfBoundsException") (by decide +kernel), va_Nc.of (args := #[]) (E.2.1 (.not (.castable "java/lang/IllegalStateException" "java/lang/IndexOutOfBoundsException")) (by decide +kernel)).2⟩) (b_pc (Or.inr ⟨by decide, "java/lang/IllegalArgumentException", hts (.classLink RL 67 "java/lang/IllegalArgumentException") (by decide +kernel), va_Nc.of (args := #[]) (E.2.1 (.not (.castable "java/lang/IllegalStateException" "java/lang/IllegalArgumentException")) (by decide +kernel)).2⟩) b_pn)) (by decide) (by decide) (hts (.classLink RL 69 "java/lang/IllegalStateException") (by decide +kernel)) (va_Nw.use rfl (E.2.1 (.castable "java/lang/IllegalStateException" "java/lang/IllegalStateException") (by decide +kernel)).2) hce hcv hcl ?_
      have w := w9
      refine lv_astore (lv' := [(7, .ref q9), (0, .ref (a 0)), (1, .int (nI 10)), (2, .int p1), (3, .int p2), (4, .int p3), (5, .int p4), (6, .int p5)]) hx hb dL_act_299 hl (by decide) rfl (fun ls hl => ?_)
      refine lv_bipush (v := -73) hx hb dL_act_301 (by decide) ?_
      exact W.iret (v := -73) hx hb hr0 (fun t9 ht9 hW9 => ⟨⟨-73, i, rfl, ⟨hI, by rw [hcc]; rfl⟩, (by show va_P G.1 vwCl (hs_W G a x i) t9.heap; rw [ht9]; exact w.1)⟩, w.2.1.F ht9⟩) w.2.1.2.2 dL_act_303
  · exact absurd (hT.symm.trans hr.2.1) hc
set_option maxHeartbeats 4000000 in
set_option maxRecDepth 100000 in
theorem aF_revisions (l : Launch) (hl0 : l.stackTraces = false) (G : bG) (sz : Nat) (a : Nat → Nat) (x : hs_E) (i : hs_I) (hi : hs_Inv x i) (p1 p2 p3 p4 p5 : Int32) (c0 : Nat) (hT : hT_revisions x p1 p2 p3 = c0) (hc : ¬ c0 = 0) : Met l yL_act wsL_act ({ frames := 8, cells := 1, slots := 6, locals := 136 }) (va_Pc [.ref (a 0), .int (nI 11), .int p1, .int p2, .int p3, .int p4, .int p5] (bPre G vwCl bNW bSW sz (hs_W G a x i) (hs_M a))) (va_Qi (fun (r : Int32) (j : hs_I) => hs_Inv x j ∧ r = hs_r c0) (fun (j : hs_I) (tS : State) => va_P G.1 vwCl (hs_W G a x j) tS.heap) (Aw (hs_M a) sz)) 1 6 (Aw (hs_M a) sz) := by
  refine va_MetW (cc := cL_act) (maxL := 8) (ret := (some .int)) (by decide) rfl ?_
  intro p e s m args below meth c s₁ B hml hv
  obtain ⟨rfl, hsz, hP, hD, E, Z⟩ := hv
  have hts := atoms_spec (ws := wsL_act) B.pre
  have hown : s.vm.findClass RL = some m.cls := findClass_of_methodNamed B.named
  have X : CallFix p m c cL_act 8 s _ wsL_act RL := ⟨B.exec, B.bytes, hml, hown, hts⟩
  have hx := B.exec
  have hb := B.bytes
  have hr0 := B.returns
  have hlocks := B.notSynchronized
  have hts2 : ∀ w, w ∈ wsL_act → w ∈ wsL_act := fun _ h9 => h9
  have htab : c.exceptionTable.toList = tableOf [(0, 288, 289, 65), (0, 288, 294, 67), (0, 288, 299, 69)] := vx_table (x := yL_act) B (hts _ List.mem_cons_self)
  subst hsz
  have w : bSt G vwCl [] s (hs_W G a x i) s.heap [] := ⟨hP, va_S.rf, hD⟩
  have w := b_wide (hs_M a) b_nil w
  have hm9 : ∀ q ∈ hs_M a, Aw (hs_M a) s.heap.size q := fun q h => Or.inl h
  have Z9 : bZ (hs_M a) s := Z
  have hI := hi
  have hl := lv_entry ([.ref (a 0), .int (nI 11), .int p1, .int p2, .int p3, .int p4, .int p5]) (n := 8) (Nat.le_of_ble_eq_true rfl)
  rw [lg_entry_eq]
  generalize (lg_sl ([.ref (a 0), .int (nI 11), .int p1, .int p2, .int p3, .int p4, .int p5]) ++ List.replicate (8 - (lg_sl ([.ref (a 0), .int (nI 11), .int p1, .int p2, .int p3, .int p4, .int p5])).length) Slot.unset).toArray = ls at hl ⊢
  have hl : lv_has ls 8 [(0, .ref (a 0)), (1, .int (nI 11)), (2, .int p1), (3, .int p2), (4, .int p3), (5, .int p4), (6, .int p5)] := hl
  refine lv_iload_n hx hb dL_act_0 rfl (lv_at hl 1 rfl) ?_
  refine lv_if_ne (tgt := 12) hx hb dL_act_1 (by decide) (fun c9 => ?_) (fun c9 => absurd c9 (by decide))
  refine lv_iload_n hx hb dL_act_12 rfl (lv_at hl 1 rfl) ?_
  refine lv_iconst (v := nI 1) hx hb dL_act_13 (by decide) ?_
  refine lv_icmp_ne (tgt := 25) hx hb dL_act_14 (by decide) (fun c9 => ?_) (fun c9 => absurd c9 (by decide))
  refine lv_iload_n hx hb dL_act_25 rfl (lv_at hl 1 rfl) ?_
  refine lv_iconst (v := nI 2) hx hb dL_act_26 (by decide) ?_
  refine lv_icmp_ne (tgt := 58) hx hb dL_act_27 (by decide) (fun c9 => ?_) (fun c9 => absurd c9 (by decide))
  refine lv_iload_n hx hb dL_act_58 rfl (lv_at hl 1 rfl) ?_
  refine lv_iconst (v := nI 3) hx hb dL_act_59 (by decide) ?_
  refine lv_icmp_ne (tgt := 78) hx hb dL_act_60 (by decide) (fun c9 => ?_) (fun c9 => absurd c9 (by decide))
  refine lv_iload_n hx hb dL_act_78 rfl (lv_at hl 1 rfl) ?_
  refine lv_iconst (v := nI 4) hx hb dL_act_79 (by decide) ?_
  refine lv_icmp_ne (tgt := 91) hx hb dL_act_80 (by decide) (fun c9 => ?_) (fun c9 => absurd c9 (by decide))
  refine lv_iload_n hx hb dL_act_91 rfl (lv_at hl 1 rfl) ?_
  refine lv_iconst (v := nI 5) hx hb dL_act_92 (by decide) ?_
  refine lv_icmp_ne (tgt := 104) hx hb dL_act_93 (by decide) (fun c9 => ?_) (fun c9 => absurd c9 (by decide))
  refine lv_iload_n hx hb dL_act_104 rfl (lv_at hl 1 rfl) ?_
  refine lv_bipush (v := nI 6) hx hb dL_act_105 (by decide) ?_
  refine lv_icmp_ne (tgt := 132) hx hb dL_act_107 (by decide) (fun c9 => ?_) (fun c9 => absurd c9 (by decide))
  refine lv_iload_n hx hb dL_act_132 rfl (lv_at hl 1 rfl) ?_
  refine lv_bipush (v := nI 7) hx hb dL_act_133 (by decide) ?_
  refine lv_icmp_ne (tgt := 146) hx hb dL_act_135 (by decide) (fun c9 => ?_) (fun c9 => absurd c9 (by decide))
  refine lv_iload_n hx hb dL_act_146 rfl (lv_at hl 1 rfl) ?_
  refine lv_bipush (v := nI 8) hx hb dL_act_147 (by decide) ?_
  refine lv_icmp_ne (tgt := 165) hx hb dL_act_149 (by decide) (fun c9 => ?_) (fun c9 => absurd c9 (by decide))
  refine lv_iload_n hx hb dL_act_165 rfl (lv_at hl 1 rfl) ?_
  refine lv_bipush (v := nI 9) hx hb dL_act_166 (by decide) ?_
  refine lv_icmp_ne (tgt := 184) hx hb dL_act_168 (by decide) (fun c9 => ?_) (fun c9 => absurd c9 (by decide))
  refine lv_iload_n hx hb dL_act_184 rfl (lv_at hl 1 rfl) ?_
  refine lv_bipush (v := nI 10) hx hb dL_act_185 (by decide) ?_
  refine lv_icmp_ne (tgt := 201) hx hb dL_act_187 (by decide) (fun c9 => ?_) (fun c9 => absurd c9 (by decide))
  refine lv_iload_n hx hb dL_act_201 rfl (lv_at hl 1 rfl) ?_
  refine lv_bipush (v := nI 11) hx hb dL_act_202 (by decide) ?_
  refine lv_icmp_ne (tgt := 218) hx hb dL_act_204 (by decide) (fun c9 => absurd rfl c9) (fun c9 => ?_)
  refine lv_aload_n hx hb dL_act_207 rfl (lv_at hl 0 rfl) ?_
  refine lv_iload_n hx hb dL_act_208 rfl (lv_at hl 2 rfl) ?_
  refine lv_iload_n hx hb dL_act_209 rfl (lv_at hl 3 rfl) ?_
  refine lv_iload hx hb dL_act_210 (lv_at hl 4 rfl) ?_
  refine hs_xcalli w (vx_runV (As := [.int p1, .int p2, .int p3]) (rest := []) X (k_revisions l hl0 G _ a _ _ hI p1 p2 p3) (cwV 3 hts gL_act_X5_revisions rfl rfl rfl (by decide +kernel) ⟨Nat.le_of_ble_eq_true rfl, Nat.le_of_ble_eq_true rfl⟩) ⟨b_blind, hs_recv E w, fun U9 hU9 hW9 => ⟨rfl, hs_pre E Z9 w hm9 U9 hU9 hW9⟩⟩ rfl rfl hl.1 rfl (lv_room (Nat.le_of_ble_eq_true rfl)) dL_act_212 ⟨Nat.le_of_ble_eq_true rfl, Nat.le_of_ble_eq_true rfl⟩) hm9 (fun E9 ce9 q9 H9 locs9 hex w9 hce hcv hcl => ?_) (fun r i H locs hr w => ?_)
  · rcases hex with ⟨rfl, hx9⟩ | ⟨rfl, hx9⟩ | ⟨rfl, hx9⟩
    · have hcc : c0 = 1 := hT.symm.trans hx9
      refine vx_catch (name := "java/lang/IndexOutOfBoundsException") hown [] ⟨0, 288, 289, 65⟩ [⟨0, 288, 294, 67⟩, ⟨0, 288, 299, 69⟩] htab b_pn (by decide) (by decide) (hts (.classLink RL 65 "java/lang/IndexOutOfBoundsException") (by decide +kernel)) (va_Nw.use rfl (E.2.1 (.castable "java/lang/IndexOutOfBoundsException" "java/lang/IndexOutOfBoundsException") (by decide +kernel)).2) hce hcv hcl ?_
      have w := w9
      refine lv_astore (lv' := [(7, .ref q9), (0, .ref (a 0)), (1, .int (nI 11)), (2, .int p1), (3, .int p2), (4, .int p3), (5, .int p4), (6, .int p5)]) hx hb dL_act_289 hl (by decide) rfl (fun ls hl => ?_)
      refine lv_bipush (v := -71) hx hb dL_act_291 (by decide) ?_
      exact W.iret (v := -71) hx hb hr0 (fun t9 ht9 hW9 => ⟨⟨-71, i, rfl, ⟨hI, by rw [hcc]; rfl⟩, (by show va_P G.1 vwCl (hs_W G a x i) t9.heap; rw [ht9]; exact w.1)⟩, w.2.1.F ht9⟩) w.2.1.2.2 dL_act_293
    · have hcc : c0 = 2 := hT.symm.trans hx9
      refine vx_catch (name := "java/lang/IllegalArgumentException") hown [⟨0, 288, 289, 65⟩] ⟨0, 288, 294, 67⟩ [⟨0, 288, 299, 69⟩] htab (b_pc (Or.inr ⟨by decide, "java/lang/IndexOutOfBoundsException", hts (.classLink RL 65 "java/lang/IndexOutOfBoundsException") (by decide +kernel), va_Nc.of (args := #[]) (E.2.1 (.not (.castable "java/lang/IllegalArgumentException" "java/lang/IndexOutOfBoundsException")) (by decide +kernel)).2⟩) b_pn) (by decide) (by decide) (hts (.classLink RL 67 "java/lang/IllegalArgumentException") (by decide +kernel)) (va_Nw.use rfl (E.2.1 (.castable "java/lang/IllegalArgumentException" "java/lang/IllegalArgumentException") (by decide +kernel)).2) hce hcv hcl ?_
      have w := w9
      refine lv_astore (lv' := [(7, .ref q9), (0, .ref (a 0)), (1, .int (nI 11)), (2, .int p1), (3, .int p2), (4, .int p3), (5, .int p4), (6, .int p5)]) hx hb dL_act_294 hl (by decide) rfl (fun ls hl => ?_)
      refine lv_bipush (v := -72) hx hb dL_act_296 (by decide) ?_
      exact W.iret (v := -72) hx hb hr0 (fun t9 ht9 hW9 => ⟨⟨-72, i, rfl, ⟨hI, by rw [hcc]; rfl⟩, (by show va_P G.1 vwCl (hs_W G a x i) t9.heap; rw [ht9]; exact w.1)⟩, w.2.1.F ht9⟩) w.2.1.2.2 dL_act_298
    · have hcc : c0 = 3 := hT.symm.trans hx9
      refine vx_catch (name := "java/lang/IllegalStateException") hown [⟨0, 288, 289, 65⟩, ⟨0, 288, 294, 67⟩] ⟨0, 288, 299, 69⟩ [] htab (b_pc (Or.inr ⟨by decide, "java/lang/IndexOutOfBoundsException", hts (.classLink RL 65 "java/lang/IndexOutOfBoundsException") (by decide +kernel), va_Nc.of (args := #[]) (E.2.1 (.not (.castable "java/lang/IllegalStateException" "java/lang/IndexOutOfBoundsException")) (by decide +kernel)).2⟩) (b_pc (Or.inr ⟨by decide, "java/lang/IllegalArgumentException", hts (.classLink RL 67 "java/lang/IllegalArgumentException") (by decide +kernel), va_Nc.of (args := #[]) (E.2.1 (.not (.castable "java/lang/IllegalStateException" "java/lang/IllegalArgumentException")) (by decide +kernel)).2⟩) b_pn)) (by decide) (by decide) (hts (.classLink RL 69 "java/lang/IllegalStateException") (by decide +kernel)) (va_Nw.use rfl (E.2.1 (.castable "java/lang/IllegalStateException" "java/lang/IllegalStateException") (by decide +kernel)).2) hce hcv hcl ?_
      have w := w9
      refine lv_astore (lv' := [(7, .ref q9), (0, .ref (a 0)), (1, .int (nI 11)), (2, .int p1), (3, .int p2), (4, .int p3), (5, .int p4), (6, .int p5)]) hx hb dL_act_299 hl (by decide) rfl (fun ls hl => ?_)
      refine lv_bipush (v := -73) hx hb dL_act_301 (by decide) ?_
      exact W.iret (v := -73) hx hb hr0 (fun t9 ht9 hW9 => ⟨⟨-73, i, rfl, ⟨hI, by rw [hcc]; rfl⟩, (by show va_P G.1 vwCl (hs_W G a x i) t9.heap; rw [ht9]; exact w.1)⟩, w.2.1.F ht9⟩) w.2.1.2.2 dL_act_303
  · exact absurd (hT.symm.trans hr.2.1) hc
set_option maxHeartbeats 4000000 in
set_option maxRecDepth 100000 in
theorem aF_hasFault (l : Launch) (hl0 : l.stackTraces = false) (G : bG) (sz : Nat) (a : Nat → Nat) (x : hs_E) (i : hs_I) (hi : hs_Inv x i) (p1 p2 p3 p4 p5 : Int32) (c0 : Nat) (hT : hT_hasFault x p1 p2 p3 = c0) (hc : ¬ c0 = 0) : Met l yL_act wsL_act ({ frames := 8, cells := 1, slots := 6, locals := 138 }) (va_Pc [.ref (a 0), .int (nI 12), .int p1, .int p2, .int p3, .int p4, .int p5] (bPre G vwCl bNW bSW sz (hs_W G a x i) (hs_M a))) (va_Qi (fun (r : Int32) (j : hs_I) => hs_Inv x j ∧ r = hs_r c0) (fun (j : hs_I) (tS : State) => va_P G.1 vwCl (hs_W G a x j) tS.heap) (Aw (hs_M a) sz)) 1 6 (Aw (hs_M a) sz) := by
  refine va_MetW (cc := cL_act) (maxL := 8) (ret := (some .int)) (by decide) rfl ?_
  intro p e s m args below meth c s₁ B hml hv
  obtain ⟨rfl, hsz, hP, hD, E, Z⟩ := hv
  have hts := atoms_spec (ws := wsL_act) B.pre
  have hown : s.vm.findClass RL = some m.cls := findClass_of_methodNamed B.named
  have X : CallFix p m c cL_act 8 s _ wsL_act RL := ⟨B.exec, B.bytes, hml, hown, hts⟩
  have hx := B.exec
  have hb := B.bytes
  have hr0 := B.returns
  have hlocks := B.notSynchronized
  have hts2 : ∀ w, w ∈ wsL_act → w ∈ wsL_act := fun _ h9 => h9
  have htab : c.exceptionTable.toList = tableOf [(0, 288, 289, 65), (0, 288, 294, 67), (0, 288, 299, 69)] := vx_table (x := yL_act) B (hts _ List.mem_cons_self)
  subst hsz
  have w : bSt G vwCl [] s (hs_W G a x i) s.heap [] := ⟨hP, va_S.rf, hD⟩
  have w := b_wide (hs_M a) b_nil w
  have hm9 : ∀ q ∈ hs_M a, Aw (hs_M a) s.heap.size q := fun q h => Or.inl h
  have Z9 : bZ (hs_M a) s := Z
  have hI := hi
  have hl := lv_entry ([.ref (a 0), .int (nI 12), .int p1, .int p2, .int p3, .int p4, .int p5]) (n := 8) (Nat.le_of_ble_eq_true rfl)
  rw [lg_entry_eq]
  generalize (lg_sl ([.ref (a 0), .int (nI 12), .int p1, .int p2, .int p3, .int p4, .int p5]) ++ List.replicate (8 - (lg_sl ([.ref (a 0), .int (nI 12), .int p1, .int p2, .int p3, .int p4, .int p5])).length) Slot.unset).toArray = ls at hl ⊢
  have hl : lv_has ls 8 [(0, .ref (a 0)), (1, .int (nI 12)), (2, .int p1), (3, .int p2), (4, .int p3), (5, .int p4), (6, .int p5)] := hl
  refine lv_iload_n hx hb dL_act_0 rfl (lv_at hl 1 rfl) ?_
  refine lv_if_ne (tgt := 12) hx hb dL_act_1 (by decide) (fun c9 => ?_) (fun c9 => absurd c9 (by decide))
  refine lv_iload_n hx hb dL_act_12 rfl (lv_at hl 1 rfl) ?_
  refine lv_iconst (v := nI 1) hx hb dL_act_13 (by decide) ?_
  refine lv_icmp_ne (tgt := 25) hx hb dL_act_14 (by decide) (fun c9 => ?_) (fun c9 => absurd c9 (by decide))
  refine lv_iload_n hx hb dL_act_25 rfl (lv_at hl 1 rfl) ?_
  refine lv_iconst (v := nI 2) hx hb dL_act_26 (by decide) ?_
  refine lv_icmp_ne (tgt := 58) hx hb dL_act_27 (by decide) (fun c9 => ?_) (fun c9 => absurd c9 (by decide))
  refine lv_iload_n hx hb dL_act_58 rfl (lv_at hl 1 rfl) ?_
  refine lv_iconst (v := nI 3) hx hb dL_act_59 (by decide) ?_
  refine lv_icmp_ne (tgt := 78) hx hb dL_act_60 (by decide) (fun c9 => ?_) (fun c9 => absurd c9 (by decide))
  refine lv_iload_n hx hb dL_act_78 rfl (lv_at hl 1 rfl) ?_
  refine lv_iconst (v := nI 4) hx hb dL_act_79 (by decide) ?_
  refine lv_icmp_ne (tgt := 91) hx hb dL_act_80 (by decide) (fun c9 => ?_) (fun c9 => absurd c9 (by decide))
  refine lv_iload_n hx hb dL_act_91 rfl (lv_at hl 1 rfl) ?_
  refine lv_iconst (v := nI 5) hx hb dL_act_92 (by decide) ?_
  refine lv_icmp_ne (tgt := 104) hx hb dL_act_93 (by decide) (fun c9 => ?_) (fun c9 => absurd c9 (by decide))
  refine lv_iload_n hx hb dL_act_104 rfl (lv_at hl 1 rfl) ?_
  refine lv_bipush (v := nI 6) hx hb dL_act_105 (by decide) ?_
  refine lv_icmp_ne (tgt := 132) hx hb dL_act_107 (by decide) (fun c9 => ?_) (fun c9 => absurd c9 (by decide))
  refine lv_iload_n hx hb dL_act_132 rfl (lv_at hl 1 rfl) ?_
  refine lv_bipush (v := nI 7) hx hb dL_act_133 (by decide) ?_
  refine lv_icmp_ne (tgt := 146) hx hb dL_act_135 (by decide) (fun c9 => ?_) (fun c9 => absurd c9 (by decide))
  refine lv_iload_n hx hb dL_act_146 rfl (lv_at hl 1 rfl) ?_
  refine lv_bipush (v := nI 8) hx hb dL_act_147 (by decide) ?_
  refine lv_icmp_ne (tgt := 165) hx hb dL_act_149 (by decide) (fun c9 => ?_) (fun c9 => absurd c9 (by decide))
  refine lv_iload_n hx hb dL_act_165 rfl (lv_at hl 1 rfl) ?_
  refine lv_bipush (v := nI 9) hx hb dL_act_166 (by decide) ?_
  refine lv_icmp_ne (tgt := 184) hx hb dL_act_168 (by decide) (fun c9 => ?_) (fun c9 => absurd c9 (by decide))
  refine lv_iload_n hx hb dL_act_184 rfl (lv_at hl 1 rfl) ?_
  refine lv_bipush (v := nI 10) hx hb dL_act_185 (by decide) ?_
  refine lv_icmp_ne (tgt := 201) hx hb dL_act_187 (by decide) (fun c9 => ?_) (fun c9 => absurd c9 (by decide))
  refine lv_iload_n hx hb dL_act_201 rfl (lv_at hl 1 rfl) ?_
  refine lv_bipush (v := nI 11) hx hb dL_act_202 (by decide) ?_
  refine lv_icmp_ne (tgt := 218) hx hb dL_act_204 (by decide) (fun c9 => ?_) (fun c9 => absurd c9 (by decide))
  refine lv_iload_n hx hb dL_act_218 rfl (lv_at hl 1 rfl) ?_
  refine lv_bipush (v := nI 12) hx hb dL_act_219 (by decide) ?_
  refine lv_icmp_ne (tgt := 243) hx hb dL_act_221 (by decide) (fun c9 => absurd rfl c9) (fun c9 => ?_)
  refine lv_aload_n hx hb dL_act_224 rfl (lv_at hl 0 rfl) ?_
  refine lv_iload_n hx hb dL_act_225 rfl (lv_at hl 2 rfl) ?_
  refine lv_iload_n hx hb dL_act_226 rfl (lv_at hl 3 rfl) ?_
  refine lv_iload hx hb dL_act_227 (lv_at hl 4 rfl) ?_
  refine hs_xcalli w (vx_runV (As := [.int p1, .int p2, .int p3]) (rest := []) X (k_hasFault l hl0 G _ a _ _ hI p1 p2 p3) (cwV 3 hts gL_act_X5_hasFault rfl rfl rfl (by decide +kernel) ⟨Nat.le_of_ble_eq_true rfl, Nat.le_of_ble_eq_true rfl⟩) ⟨b_blind, hs_recv E w, fun U9 hU9 hW9 => ⟨rfl, hs_pre E Z9 w hm9 U9 hU9 hW9⟩⟩ rfl rfl hl.1 rfl (lv_room (Nat.le_of_ble_eq_true rfl)) dL_act_229 ⟨Nat.le_of_ble_eq_true rfl, Nat.le_of_ble_eq_true rfl⟩) hm9 (fun E9 ce9 q9 H9 locs9 hex w9 hce hcv hcl => ?_) (fun r i H locs hr w => ?_)
  · rcases hex with ⟨rfl, hx9⟩ | ⟨rfl, hx9⟩ | ⟨rfl, hx9⟩
    · have hcc : c0 = 1 := hT.symm.trans hx9
      refine vx_catch (name := "java/lang/IndexOutOfBoundsException") hown [] ⟨0, 288, 289, 65⟩ [⟨0, 288, 294, 67⟩, ⟨0, 288, 299, 69⟩] htab b_pn (by decide) (by decide) (hts (.classLink RL 65 "java/lang/IndexOutOfBoundsException") (by decide +kernel)) (va_Nw.use rfl (E.2.1 (.castable "java/lang/IndexOutOfBoundsException" "java/lang/IndexOutOfBoundsException") (by decide +kernel)).2) hce hcv hcl ?_
      have w := w9
      refine lv_astore (lv' := [(7, .ref q9), (0, .ref (a 0)), (1, .int (nI 12)), (2, .int p1), (3, .int p2), (4, .int p3), (5, .int p4), (6, .int p5)]) hx hb dL_act_289 hl (by decide) rfl (fun ls hl => ?_)
      refine lv_bipush (v := -71) hx hb dL_act_291 (by decide) ?_
      exact W.iret (v := -71) hx hb hr0 (fun t9 ht9 hW9 => ⟨⟨-71, i, rfl, ⟨hI, by rw [hcc]; rfl⟩, (by show va_P G.1 vwCl (hs_W G a x i) t9.heap; rw [ht9]; exact w.1)⟩, w.2.1.F ht9⟩) w.2.1.2.2 dL_act_293
    · have hcc : c0 = 2 := hT.symm.trans hx9
      refine vx_catch (name := "java/lang/IllegalArgumentException") hown [⟨0, 288, 289, 65⟩] ⟨0, 288, 294, 67⟩ [⟨0, 288, 299, 69⟩] htab (b_pc (Or.inr ⟨by decide, "java/lang/IndexOutOfBoundsException", hts (.classLink RL 65 "java/lang/IndexOutOfBoundsException") (by decide +kernel), va_Nc.of (args := #[]) (E.2.1 (.not (.castable "java/lang/IllegalArgumentException" "java/lang/IndexOutOfBoundsException")) (by decide +kernel)).2⟩) b_pn) (by decide) (by decide) (hts (.classLink RL 67 "java/lang/IllegalArgumentException") (by decide +kernel)) (va_Nw.use rfl (E.2.1 (.castable "java/lang/IllegalArgumentException" "java/lang/IllegalArgumentException") (by decide +kernel)).2) hce hcv hcl ?_
      have w := w9
      refine lv_astore (lv' := [(7, .ref q9), (0, .ref (a 0)), (1, .int (nI 12)), (2, .int p1), (3, .int p2), (4, .int p3), (5, .int p4), (6, .int p5)]) hx hb dL_act_294 hl (by decide) rfl (fun ls hl => ?_)
      refine lv_bipush (v := -72) hx hb dL_act_296 (by decide) ?_
      exact W.iret (v := -72) hx hb hr0 (fun t9 ht9 hW9 => ⟨⟨-72, i, rfl, ⟨hI, by rw [hcc]; rfl⟩, (by show va_P G.1 vwCl (hs_W G a x i) t9.heap; rw [ht9]; exact w.1)⟩, w.2.1.F ht9⟩) w.2.1.2.2 dL_act_298
    · have hcc : c0 = 3 := hT.symm.trans hx9
      refine vx_catch (name := "java/lang/IllegalStateException") hown [⟨0, 288, 289, 65⟩, ⟨0, 288, 294, 67⟩] ⟨0, 288, 299, 69⟩ [] htab (b_pc (Or.inr ⟨by decide, "java/lang/IndexOutOfBoundsException", hts (.classLink RL 65 "java/lang/IndexOutOfBoundsException") (by decide +kernel), va_Nc.of (args := #[]) (E.2.1 (.not (.castable "java/lang/IllegalStateException" "java/lang/IndexOutOfBoundsException")) (by decide +kernel)).2⟩) (b_pc (Or.inr ⟨by decide, "java/lang/IllegalArgumentException", hts (.classLink RL 67 "java/lang/IllegalArgumentException") (by decide +kernel), va_Nc.of (args := #[]) (E.2.1 (.not (.castable "java/lang/IllegalStateException" "java/lang/IllegalArgumentException")) (by decide +kernel)).2⟩) b_pn)) (by decide) (by decide) (hts (.classLink RL 69 "java/lang/IllegalStateException") (by decide +kernel)) (va_Nw.use rfl (E.2.1 (.castable "java/lang/IllegalStateException" "java/lang/IllegalStateException") (by decide +kernel)).2) hce hcv hcl ?_
      have w := w9
      refine lv_astore (lv' := [(7, .ref q9), (0, .ref (a 0)), (1, .int (nI 12)), (2, .int p1), (3, .int p2), (4, .int p3), (5, .int p4), (6, .int p5)]) hx hb dL_act_299 hl (by decide) rfl (fun ls hl => ?_)
      refine lv_bipush (v := -73) hx hb dL_act_301 (by decide) ?_
      exact W.iret (v := -73) hx hb hr0 (fun t9 ht9 hW9 => ⟨⟨-73, i, rfl, ⟨hI, by rw [hcc]; rfl⟩, (by show va_P G.1 vwCl (hs_W G a x i) t9.heap; rw [ht9]; exact w.1)⟩, w.2.1.F ht9⟩) w.2.1.2.2 dL_act_303
  · exact absurd (hT.symm.trans hr.2.1) hc
set_option maxHeartbeats 4000000 in
set_option maxRecDepth 100000 in
theorem aF_shown (l : Launch) (hl0 : l.stackTraces = false) (G : bG) (sz : Nat) (a : Nat → Nat) (x : hs_E) (i : hs_I) (hi : hs_Inv x i) (p1 p2 p3 p4 p5 : Int32) (c0 : Nat) (hT : hT_shown x p1 p2 p3 = c0) (hc : ¬ c0 = 0) : Met l yL_act wsL_act ({ frames := 8, cells := 1, slots := 6, locals := 173 }) (va_Pc [.ref (a 0), .int (nI 13), .int p1, .int p2, .int p3, .int p4, .int p5] (bPre G vwCl bNW bSW sz (hs_W G a x i) (hs_M a))) (va_Qi (fun (r : Int32) (j : hs_I) => hs_Inv x j ∧ r = hs_r c0) (fun (j : hs_I) (tS : State) => va_P G.1 vwCl (hs_W G a x j) tS.heap) (Aw (hs_M a) sz)) 1 6 (Aw (hs_M a) sz) := by
  refine va_MetW (cc := cL_act) (maxL := 8) (ret := (some .int)) (by decide) rfl ?_
  intro p e s m args below meth c s₁ B hml hv
  obtain ⟨rfl, hsz, hP, hD, E, Z⟩ := hv
  have hts := atoms_spec (ws := wsL_act) B.pre
  have hown : s.vm.findClass RL = some m.cls := findClass_of_methodNamed B.named
  have X : CallFix p m c cL_act 8 s _ wsL_act RL := ⟨B.exec, B.bytes, hml, hown, hts⟩
  have hx := B.exec
  have hb := B.bytes
  have hr0 := B.returns
  have hlocks := B.notSynchronized
  have hts2 : ∀ w, w ∈ wsL_act → w ∈ wsL_act := fun _ h9 => h9
  have htab : c.exceptionTable.toList = tableOf [(0, 288, 289, 65), (0, 288, 294, 67), (0, 288, 299, 69)] := vx_table (x := yL_act) B (hts _ List.mem_cons_self)
  subst hsz
  have w : bSt G vwCl [] s (hs_W G a x i) s.heap [] := ⟨hP, va_S.rf, hD⟩
  have w := b_wide (hs_M a) b_nil w
  have hm9 : ∀ q ∈ hs_M a, Aw (hs_M a) s.heap.size q := fun q h => Or.inl h
  have Z9 : bZ (hs_M a) s := Z
  have hI := hi
  have hl := lv_entry ([.ref (a 0), .int (nI 13), .int p1, .int p2, .int p3, .int p4, .int p5]) (n := 8) (Nat.le_of_ble_eq_true rfl)
  rw [lg_entry_eq]
  generalize (lg_sl ([.ref (a 0), .int (nI 13), .int p1, .int p2, .int p3, .int p4, .int p5]) ++ List.replicate (8 - (lg_sl ([.ref (a 0), .int (nI 13), .int p1, .int p2, .int p3, .int p4, .int p5])).length) Slot.unset).toArray = ls at hl ⊢
  have hl : lv_has ls 8 [(0, .ref (a 0)), (1, .int (nI 13)), (2, .int p1), (3, .int p2), (4, .int p3), (5, .int p4), (6, .int p5)] := hl
  refine lv_iload_n hx hb dL_act_0 rfl (lv_at hl 1 rfl) ?_
  refine lv_if_ne (tgt := 12) hx hb dL_act_1 (by decide) (fun c9 => ?_) (fun c9 => absurd c9 (by decide))
  refine lv_iload_n hx hb dL_act_12 rfl (lv_at hl 1 rfl) ?_
  refine lv_iconst (v := nI 1) hx hb dL_act_13 (by decide) ?_
  refine lv_icmp_ne (tgt := 25) hx hb dL_act_14 (by decide) (fun c9 => ?_) (fun c9 => absurd c9 (by decide))
  refine lv_iload_n hx hb dL_act_25 rfl (lv_at hl 1 rfl) ?_
  refine lv_iconst (v := nI 2) hx hb dL_act_26 (by decide) ?_
  refine lv_icmp_ne (tgt := 58) hx hb dL_act_27 (by decide) (fun c9 => ?_) (fun c9 => absurd c9 (by decide))
  refine lv_iload_n hx hb dL_act_58 rfl (lv_at hl 1 rfl) ?_
  refine lv_iconst (v := nI 3) hx hb dL_act_59 (by decide) ?_
  refine lv_icmp_ne (tgt := 78) hx hb dL_act_60 (by decide) (fun c9 => ?_) (fun c9 => absurd c9 (by decide))
  refine lv_iload_n hx hb dL_act_78 rfl (lv_at hl 1 rfl) ?_
  refine lv_iconst (v := nI 4) hx hb dL_act_79 (by decide) ?_
  refine lv_icmp_ne (tgt := 91) hx hb dL_act_80 (by decide) (fun c9 => ?_) (fun c9 => absurd c9 (by decide))
  refine lv_iload_n hx hb dL_act_91 rfl (lv_at hl 1 rfl) ?_
  refine lv_iconst (v := nI 5) hx hb dL_act_92 (by decide) ?_
  refine lv_icmp_ne (tgt := 104) hx hb dL_act_93 (by decide) (fun c9 => ?_) (fun c9 => absurd c9 (by decide))
  refine lv_iload_n hx hb dL_act_104 rfl (lv_at hl 1 rfl) ?_
  refine lv_bipush (v := nI 6) hx hb dL_act_105 (by decide) ?_
  refine lv_icmp_ne (tgt := 132) hx hb dL_act_107 (by decide) (fun c9 => ?_) (fun c9 => absurd c9 (by decide))
  refine lv_iload_n hx hb dL_act_132 rfl (lv_at hl 1 rfl) ?_
  refine lv_bipush (v := nI 7) hx hb dL_act_133 (by decide) ?_
  refine lv_icmp_ne (tgt := 146) hx hb dL_act_135 (by decide) (fun c9 => ?_) (fun c9 => absurd c9 (by decide))
  refine lv_iload_n hx hb dL_act_146 rfl (lv_at hl 1 rfl) ?_
  refine lv_bipush (v := nI 8) hx hb dL_act_147 (by decide) ?_
  refine lv_icmp_ne (tgt := 165) hx hb dL_act_149 (by decide) (fun c9 => ?_) (fun c9 => absurd c9 (by decide))
  refine lv_iload_n hx hb dL_act_165 rfl (lv_at hl 1 rfl) ?_
  refine lv_bipush (v := nI 9) hx hb dL_act_166 (by decide) ?_
  refine lv_icmp_ne (tgt := 184) hx hb dL_act_168 (by decide) (fun c9 => ?_) (fun c9 => absurd c9 (by decide))
  refine lv_iload_n hx hb dL_act_184 rfl (lv_at hl 1 rfl) ?_
  refine lv_bipush (v := nI 10) hx hb dL_act_185 (by decide) ?_
  refine lv_icmp_ne (tgt := 201) hx hb dL_act_187 (by decide) (fun c9 => ?_) (fun c9 => absurd c9 (by decide))
  refine lv_iload_n hx hb dL_act_201 rfl (lv_at hl 1 rfl) ?_
  refine lv_bipush (v := nI 11) hx hb dL_act_202 (by decide) ?_
  refine lv_icmp_ne (tgt := 218) hx hb dL_act_204 (by decide) (fun c9 => ?_) (fun c9 => absurd c9 (by decide))
  refine lv_iload_n hx hb dL_act_218 rfl (lv_at hl 1 rfl) ?_
  refine lv_bipush (v := nI 12) hx hb dL_act_219 (by decide) ?_
  refine lv_icmp_ne (tgt := 243) hx hb dL_act_221 (by decide) (fun c9 => ?_) (fun c9 => absurd c9 (by decide))
  refine lv_iload_n hx hb dL_act_243 rfl (lv_at hl 1 rfl) ?_
  refine lv_bipush (v := nI 13) hx hb dL_act_244 (by decide) ?_
  refine lv_icmp_ne (tgt := 260) hx hb dL_act_246 (by decide) (fun c9 => absurd rfl c9) (fun c9 => ?_)
  refine lv_aload_n hx hb dL_act_249 rfl (lv_at hl 0 rfl) ?_
  refine lv_iload_n hx hb dL_act_250 rfl (lv_at hl 2 rfl) ?_
  refine lv_iload_n hx hb dL_act_251 rfl (lv_at hl 3 rfl) ?_
  refine lv_iload hx hb dL_act_252 (lv_at hl 4 rfl) ?_
  refine hs_xcalli w (vx_runV (As := [.int p1, .int p2, .int p3]) (rest := []) X (k_shown l hl0 G _ a _ _ hI p1 p2 p3) (cwV 3 hts gL_act_X5_shown rfl rfl rfl (by decide +kernel) ⟨Nat.le_of_ble_eq_true rfl, Nat.le_of_ble_eq_true rfl⟩) ⟨b_blind, hs_recv E w, fun U9 hU9 hW9 => ⟨rfl, hs_pre E Z9 w hm9 U9 hU9 hW9⟩⟩ rfl rfl hl.1 rfl (lv_room (Nat.le_of_ble_eq_true rfl)) dL_act_254 ⟨Nat.le_of_ble_eq_true rfl, Nat.le_of_ble_eq_true rfl⟩) hm9 (fun E9 ce9 q9 H9 locs9 hex w9 hce hcv hcl => ?_) (fun r i H locs hr w => ?_)
  · rcases hex with ⟨rfl, hx9⟩ | ⟨rfl, hx9⟩ | ⟨rfl, hx9⟩
    · have hcc : c0 = 1 := hT.symm.trans hx9
      refine vx_catch (name := "java/lang/IndexOutOfBoundsException") hown [] ⟨0, 288, 289, 65⟩ [⟨0, 288, 294, 67⟩, ⟨0, 288, 299, 69⟩] htab b_pn (by decide) (by decide) (hts (.classLink RL 65 "java/lang/IndexOutOfBoundsException") (by decide +kernel)) (va_Nw.use rfl (E.2.1 (.castable "java/lang/IndexOutOfBoundsException" "java/lang/IndexOutOfBoundsException") (by decide +kernel)).2) hce hcv hcl ?_
      have w := w9
      refine lv_astore (lv' := [(7, .ref q9), (0, .ref (a 0)), (1, .int (nI 13)), (2, .int p1), (3, .int p2), (4, .int p3), (5, .int p4), (6, .int p5)]) hx hb dL_act_289 hl (by decide) rfl (fun ls hl => ?_)
      refine lv_bipush (v := -71) hx hb dL_act_291 (by decide) ?_
      exact W.iret (v := -71) hx hb hr0 (fun t9 ht9 hW9 => ⟨⟨-71, i, rfl, ⟨hI, by rw [hcc]; rfl⟩, (by show va_P G.1 vwCl (hs_W G a x i) t9.heap; rw [ht9]; exact w.1)⟩, w.2.1.F ht9⟩) w.2.1.2.2 dL_act_293
    · have hcc : c0 = 2 := hT.symm.trans hx9
      refine vx_catch (name := "java/lang/IllegalArgumentException") hown [⟨0, 288, 289, 65⟩] ⟨0, 288, 294, 67⟩ [⟨0, 288, 299, 69⟩] htab (b_pc (Or.inr ⟨by decide, "java/lang/IndexOutOfBoundsException", hts (.classLink RL 65 "java/lang/IndexOutOfBoundsException") (by decide +kernel), va_Nc.of (args := #[]) (E.2.1 (.not (.castable "java/lang/IllegalArgumentException" "java/lang/IndexOutOfBoundsException")) (by decide +kernel)).2⟩) b_pn) (by decide) (by decide) (hts (.classLink RL 67 "java/lang/IllegalArgumentException") (by decide +kernel)) (va_Nw.use rfl (E.2.1 (.castable "java/lang/IllegalArgumentException" "java/lang/IllegalArgumentException") (by decide +kernel)).2) hce hcv hcl ?_
      have w := w9
      refine lv_astore (lv' := [(7, .ref q9), (0, .ref (a 0)), (1, .int (nI 13)), (2, .int p1), (3, .int p2), (4, .int p3), (5, .int p4), (6, .int p5)]) hx hb dL_act_294 hl (by decide) rfl (fun ls hl => ?_)
      refine lv_bipush (v := -72) hx hb dL_act_296 (by decide) ?_
      exact W.iret (v := -72) hx hb hr0 (fun t9 ht9 hW9 => ⟨⟨-72, i, rfl, ⟨hI, by rw [hcc]; rfl⟩, (by show va_P G.1 vwCl (hs_W G a x i) t9.heap; rw [ht9]; exact w.1)⟩, w.2.1.F ht9⟩) w.2.1.2.2 dL_act_298
    · have hcc : c0 = 3 := hT.symm.trans hx9
      refine vx_catch (name := "java/lang/IllegalStateException") hown [⟨0, 288, 289, 65⟩, ⟨0, 288, 294, 67⟩] ⟨0, 288, 299, 69⟩ [] htab (b_pc (Or.inr ⟨by decide, "java/lang/IndexOutOfBoundsException", hts (.classLink RL 65 "java/lang/IndexOutOfBoundsException") (by decide +kernel), va_Nc.of (args := #[]) (E.2.1 (.not (.castable "java/lang/IllegalStateException" "java/lang/IndexOutOfBoundsException")) (by decide +kernel)).2⟩) (b_pc (Or.inr ⟨by decide, "java/lang/IllegalArgumentException", hts (.classLink RL 67 "java/lang/IllegalArgumentException") (by decide +kernel), va_Nc.of (args := #[]) (E.2.1 (.not (.castable "java/lang/IllegalStateException" "java/lang/IllegalArgumentException")) (by decide +kernel)).2⟩) b_pn)) (by decide) (by decide) (hts (.classLink RL 69 "java/lang/IllegalStateException") (by decide +kernel)) (va_Nw.use rfl (E.2.1 (.castable "java/lang/IllegalStateException" "java/lang/IllegalStateException") (by decide +kernel)).2) hce hcv hcl ?_
      have w := w9
      refine lv_astore (lv' := [(7, .ref q9), (0, .ref (a 0)), (1, .int (nI 13)), (2, .int p1), (3, .int p2), (4, .int p3), (5, .int p4), (6, .int p5)]) hx hb dL_act_299 hl (by decide) rfl (fun ls hl => ?_)
      refine lv_bipush (v := -73) hx hb dL_act_301 (by decide) ?_
      exact W.iret (v := -73) hx hb hr0 (fun t9 ht9 hW9 => ⟨⟨-73, i, rfl, ⟨hI, by rw [hcc]; rfl⟩, (by show va_P G.1 vwCl (hs_W G a x i) t9.heap; rw [ht9]; exact w.1)⟩, w.2.1.F ht9⟩) w.2.1.2.2 dL_act_303
  · exact absurd (hT.symm.trans hr.2.1) hc
set_option maxHeartbeats 4000000 in
set_option maxRecDepth 100000 in
theorem aF_hidden (l : Launch) (hl0 : l.stackTraces = false) (G : bG) (sz : Nat) (a : Nat → Nat) (x : hs_E) (i : hs_I) (hi : hs_Inv x i) (p1 p2 p3 p4 p5 : Int32) (c0 : Nat) (hT : hT_hidden x p1 = c0) (hc : ¬ c0 = 0) : Met l yL_act wsL_act ({ frames := 7, cells := 1, slots := 6, locals := 170 }) (va_Pc [.ref (a 0), .int (nI 14), .int p1, .int p2, .int p3, .int p4, .int p5] (bPre G vwCl bNW bSW sz (hs_W G a x i) (hs_M a))) (va_Qi (fun (r : Int32) (j : hs_I) => hs_Inv x j ∧ r = hs_r c0) (fun (j : hs_I) (tS : State) => va_P G.1 vwCl (hs_W G a x j) tS.heap) (Aw (hs_M a) sz)) 1 6 (Aw (hs_M a) sz) := by
  refine va_MetW (cc := cL_act) (maxL := 8) (ret := (some .int)) (by decide) rfl ?_
  intro p e s m args below meth c s₁ B hml hv
  obtain ⟨rfl, hsz, hP, hD, E, Z⟩ := hv
  have hts := atoms_spec (ws := wsL_act) B.pre
  have hown : s.vm.findClass RL = some m.cls := findClass_of_methodNamed B.named
  have X : CallFix p m c cL_act 8 s _ wsL_act RL := ⟨B.exec, B.bytes, hml, hown, hts⟩
  have hx := B.exec
  have hb := B.bytes
  have hr0 := B.returns
  have hlocks := B.notSynchronized
  have hts2 : ∀ w, w ∈ wsL_act → w ∈ wsL_act := fun _ h9 => h9
  have htab : c.exceptionTable.toList = tableOf [(0, 288, 289, 65), (0, 288, 294, 67), (0, 288, 299, 69)] := vx_table (x := yL_act) B (hts _ List.mem_cons_self)
  subst hsz
  have w : bSt G vwCl [] s (hs_W G a x i) s.heap [] := ⟨hP, va_S.rf, hD⟩
  have w := b_wide (hs_M a) b_nil w
  have hm9 : ∀ q ∈ hs_M a, Aw (hs_M a) s.heap.size q := fun q h => Or.inl h
  have Z9 : bZ (hs_M a) s := Z
  have hI := hi
  have hl := lv_entry ([.ref (a 0), .int (nI 14), .int p1, .int p2, .int p3, .int p4, .int p5]) (n := 8) (Nat.le_of_ble_eq_true rfl)
  rw [lg_entry_eq]
  generalize (lg_sl ([.ref (a 0), .int (nI 14), .int p1, .int p2, .int p3, .int p4, .int p5]) ++ List.replicate (8 - (lg_sl ([.ref (a 0), .int (nI 14), .int p1, .int p2, .int p3, .int p4, .int p5])).length) Slot.unset).toArray = ls at hl ⊢
  have hl : lv_has ls 8 [(0, .ref (a 0)), (1, .int (nI 14)), (2, .int p1), (3, .int p2), (4, .int p3), (5, .int p4), (6, .int p5)] := hl
  refine lv_iload_n hx hb dL_act_0 rfl (lv_at hl 1 rfl) ?_
  refine lv_if_ne (tgt := 12) hx hb dL_act_1 (by decide) (fun c9 => ?_) (fun c9 => absurd c9 (by decide))
  refine lv_iload_n hx hb dL_act_12 rfl (lv_at hl 1 rfl) ?_
  refine lv_iconst (v := nI 1) hx hb dL_act_13 (by decide) ?_
  refine lv_icmp_ne (tgt := 25) hx hb dL_act_14 (by decide) (fun c9 => ?_) (fun c9 => absurd c9 (by decide))
  refine lv_iload_n hx hb dL_act_25 rfl (lv_at hl 1 rfl) ?_
  refine lv_iconst (v := nI 2) hx hb dL_act_26 (by decide) ?_
  refine lv_icmp_ne (tgt := 58) hx hb dL_act_27 (by decide) (fun c9 => ?_) (fun c9 => absurd c9 (by decide))
  refine lv_iload_n hx hb dL_act_58 rfl (lv_at hl 1 rfl) ?_
  refine lv_iconst (v := nI 3) hx hb dL_act_59 (by decide) ?_
  refine lv_icmp_ne (tgt := 78) hx hb dL_act_60 (by decide) (fun c9 => ?_) (fun c9 => absurd c9 (by decide))
  refine lv_iload_n hx hb dL_act_78 rfl (lv_at hl 1 rfl) ?_
  refine lv_iconst (v := nI 4) hx hb dL_act_79 (by decide) ?_
  refine lv_icmp_ne (tgt := 91) hx hb dL_act_80 (by decide) (fun c9 => ?_) (fun c9 => absurd c9 (by decide))
  refine lv_iload_n hx hb dL_act_91 rfl (lv_at hl 1 rfl) ?_
  refine lv_iconst (v := nI 5) hx hb dL_act_92 (by decide) ?_
  refine lv_icmp_ne (tgt := 104) hx hb dL_act_93 (by decide) (fun c9 => ?_) (fun c9 => absurd c9 (by decide))
  refine lv_iload_n hx hb dL_act_104 rfl (lv_at hl 1 rfl) ?_
  refine lv_bipush (v := nI 6) hx hb dL_act_105 (by decide) ?_
  refine lv_icmp_ne (tgt := 132) hx hb dL_act_107 (by decide) (fun c9 => ?_) (fun c9 => absurd c9 (by decide))
  refine lv_iload_n hx hb dL_act_132 rfl (lv_at hl 1 rfl) ?_
  refine lv_bipush (v := nI 7) hx hb dL_act_133 (by decide) ?_
  refine lv_icmp_ne (tgt := 146) hx hb dL_act_135 (by decide) (fun c9 => ?_) (fun c9 => absurd c9 (by decide))
  refine lv_iload_n hx hb dL_act_146 rfl (lv_at hl 1 rfl) ?_
  refine lv_bipush (v := nI 8) hx hb dL_act_147 (by decide) ?_
  refine lv_icmp_ne (tgt := 165) hx hb dL_act_149 (by decide) (fun c9 => ?_) (fun c9 => absurd c9 (by decide))
  refine lv_iload_n hx hb dL_act_165 rfl (lv_at hl 1 rfl) ?_
  refine lv_bipush (v := nI 9) hx hb dL_act_166 (by decide) ?_
  refine lv_icmp_ne (tgt := 184) hx hb dL_act_168 (by decide) (fun c9 => ?_) (fun c9 => absurd c9 (by decide))
  refine lv_iload_n hx hb dL_act_184 rfl (lv_at hl 1 rfl) ?_
  refine lv_bipush (v := nI 10) hx hb dL_act_185 (by decide) ?_
  refine lv_icmp_ne (tgt := 201) hx hb dL_act_187 (by decide) (fun c9 => ?_) (fun c9 => absurd c9 (by decide))
  refine lv_iload_n hx hb dL_act_201 rfl (lv_at hl 1 rfl) ?_
  refine lv_bipush (v := nI 11) hx hb dL_act_202 (by decide) ?_
  refine lv_icmp_ne (tgt := 218) hx hb dL_act_204 (by decide) (fun c9 => ?_) (fun c9 => absurd c9 (by decide))
  refine lv_iload_n hx hb dL_act_218 rfl (lv_at hl 1 rfl) ?_
  refine lv_bipush (v := nI 12) hx hb dL_act_219 (by decide) ?_
  refine lv_icmp_ne (tgt := 243) hx hb dL_act_221 (by decide) (fun c9 => ?_) (fun c9 => absurd c9 (by decide))
  refine lv_iload_n hx hb dL_act_243 rfl (lv_at hl 1 rfl) ?_
  refine lv_bipush (v := nI 13) hx hb dL_act_244 (by decide) ?_
  refine lv_icmp_ne (tgt := 260) hx hb dL_act_246 (by decide) (fun c9 => ?_) (fun c9 => absurd c9 (by decide))
  refine lv_iload_n hx hb dL_act_260 rfl (lv_at hl 1 rfl) ?_
  refine lv_bipush (v := nI 14) hx hb dL_act_261 (by decide) ?_
  refine lv_icmp_ne (tgt := 274) hx hb dL_act_263 (by decide) (fun c9 => absurd rfl c9) (fun c9 => ?_)
  refine lv_aload_n hx hb dL_act_266 rfl (lv_at hl 0 rfl) ?_
  refine lv_iload_n hx hb dL_act_267 rfl (lv_at hl 2 rfl) ?_
  refine hs_xcalli w (vx_runV (As := [.int p1]) (rest := []) X (k_hidden l hl0 G _ a _ _ hI p1) (cwV 1 hts gL_act_X5_hidden rfl rfl rfl (by decide +kernel) ⟨Nat.le_of_ble_eq_true rfl, Nat.le_of_ble_eq_true rfl⟩) ⟨b_blind, hs_recv E w, fun U9 hU9 hW9 => ⟨rfl, hs_pre E Z9 w hm9 U9 hU9 hW9⟩⟩ rfl rfl hl.1 rfl (lv_room (Nat.le_of_ble_eq_true rfl)) dL_act_268 ⟨Nat.le_of_ble_eq_true rfl, Nat.le_of_ble_eq_true rfl⟩) hm9 (fun E9 ce9 q9 H9 locs9 hex w9 hce hcv hcl => ?_) (fun r i H locs hr w => ?_)
  · rcases hex with ⟨rfl, hx9⟩ | ⟨rfl, hx9⟩ | ⟨rfl, hx9⟩
    · have hcc : c0 = 1 := hT.symm.trans hx9
      refine vx_catch (name := "java/lang/IndexOutOfBoundsException") hown [] ⟨0, 288, 289, 65⟩ [⟨0, 288, 294, 67⟩, ⟨0, 288, 299, 69⟩] htab b_pn (by decide) (by decide) (hts (.classLink RL 65 "java/lang/IndexOutOfBoundsException") (by decide +kernel)) (va_Nw.use rfl (E.2.1 (.castable "java/lang/IndexOutOfBoundsException" "java/lang/IndexOutOfBoundsException") (by decide +kernel)).2) hce hcv hcl ?_
      have w := w9
      refine lv_astore (lv' := [(7, .ref q9), (0, .ref (a 0)), (1, .int (nI 14)), (2, .int p1), (3, .int p2), (4, .int p3), (5, .int p4), (6, .int p5)]) hx hb dL_act_289 hl (by decide) rfl (fun ls hl => ?_)
      refine lv_bipush (v := -71) hx hb dL_act_291 (by decide) ?_
      exact W.iret (v := -71) hx hb hr0 (fun t9 ht9 hW9 => ⟨⟨-71, i, rfl, ⟨hI, by rw [hcc]; rfl⟩, (by show va_P G.1 vwCl (hs_W G a x i) t9.heap; rw [ht9]; exact w.1)⟩, w.2.1.F ht9⟩) w.2.1.2.2 dL_act_293
    · have hcc : c0 = 2 := hT.symm.trans hx9
      refine vx_catch (name := "java/lang/IllegalArgumentException") hown [⟨0, 288, 289, 65⟩] ⟨0, 288, 294, 67⟩ [⟨0, 288, 299, 69⟩] htab (b_pc (Or.inr ⟨by decide, "java/lang/IndexOutOfBoundsException", hts (.classLink RL 65 "java/lang/IndexOutOfBoundsException") (by decide +kernel), va_Nc.of (args := #[]) (E.2.1 (.not (.castable "java/lang/IllegalArgumentException" "java/lang/IndexOutOfBoundsException")) (by decide +kernel)).2⟩) b_pn) (by decide) (by decide) (hts (.classLink RL 67 "java/lang/IllegalArgumentException") (by decide +kernel)) (va_Nw.use rfl (E.2.1 (.castable "java/lang/IllegalArgumentException" "java/lang/IllegalArgumentException") (by decide +kernel)).2) hce hcv hcl ?_
      have w := w9
      refine lv_astore (lv' := [(7, .ref q9), (0, .ref (a 0)), (1, .int (nI 14)), (2, .int p1), (3, .int p2), (4, .int p3), (5, .int p4), (6, .int p5)]) hx hb dL_act_294 hl (by decide) rfl (fun ls hl => ?_)
      refine lv_bipush (v := -72) hx hb dL_act_296 (by decide) ?_
      exact W.iret (v := -72) hx hb hr0 (fun t9 ht9 hW9 => ⟨⟨-72, i, rfl, ⟨hI, by rw [hcc]; rfl⟩, (by show va_P G.1 vwCl (hs_W G a x i) t9.heap; rw [ht9]; exact w.1)⟩, w.2.1.F ht9⟩) w.2.1.2.2 dL_act_298
    · have hcc : c0 = 3 := hT.symm.trans hx9
      refine vx_catch (name := "java/lang/IllegalStateException") hown [⟨0, 288, 289, 65⟩, ⟨0, 288, 294, 67⟩] ⟨0, 288, 299, 69⟩ [] htab (b_pc (Or.inr ⟨by decide, "java/lang/IndexOutOfBoundsException", hts (.classLink RL 65 "java/lang/IndexOutOfBoundsException") (by decide +kernel), va_Nc.of (args := #[]) (E.2.1 (.not (.castable "java/lang/IllegalStateException" "java/lang/IndexOutOfBoundsException")) (by decide +kernel)).2⟩) (b_pc (Or.inr ⟨by decide, "java/lang/IllegalArgumentException", hts (.classLink RL 67 "java/lang/IllegalArgumentException") (by decide +kernel), va_Nc.of (args := #[]) (E.2.1 (.not (.castable "java/lang/IllegalStateException" "java/lang/IllegalArgumentException")) (by decide +kernel)).2⟩) b_pn)) (by decide) (by decide) (hts (.classLink RL 69 "java/lang/IllegalStateException") (by decide +kernel)) (va_Nw.use rfl (E.2.1 (.castable "java/lang/IllegalStateException" "java/lang/IllegalStateException") (by decide +kernel)).2) hce hcv hcl ?_
      have w := w9
      refine lv_astore (lv' := [(7, .ref q9), (0, .ref (a 0)), (1, .int (nI 14)), (2, .int p1), (3, .int p2), (4, .int p3), (5, .int p4), (6, .int p5)]) hx hb dL_act_299 hl (by decide) rfl (fun ls hl => ?_)
      refine lv_bipush (v := -73) hx hb dL_act_301 (by decide) ?_
      exact W.iret (v := -73) hx hb hr0 (fun t9 ht9 hW9 => ⟨⟨-73, i, rfl, ⟨hI, by rw [hcc]; rfl⟩, (by show va_P G.1 vwCl (hs_W G a x i) t9.heap; rw [ht9]; exact w.1)⟩, w.2.1.F ht9⟩) w.2.1.2.2 dL_act_303
  · exact absurd (hT.symm.trans hr.2.1) hc
set_option maxHeartbeats 4000000 in
set_option maxRecDepth 100000 in
theorem aF_mayTell (l : Launch) (hl0 : l.stackTraces = false) (G : bG) (sz : Nat) (a : Nat → Nat) (x : hs_E) (i : hs_I) (hi : hs_Inv x i) (p1 p2 p3 p4 p5 : Int32) (c0 : Nat) (hT : hT_mayTell x p1 p2 = c0) (hc : ¬ c0 = 0) : Met l yL_act wsL_act ({ frames := 8, cells := 2, slots := 12, locals := 133 }) (va_Pc [.ref (a 0), .int (nI 15), .int p1, .int p2, .int p3, .int p4, .int p5] (bPre G vwCl bNW bSW sz (hs_W G a x i) (hs_M a))) (va_Qi (fun (r : Int32) (j : hs_I) => hs_Inv x j ∧ r = hs_r c0) (fun (j : hs_I) (tS : State) => va_P G.1 vwCl (hs_W G a x j) tS.heap) (Aw (hs_M a) sz)) 2 12 (Aw (hs_M a) sz) := by
  refine va_MetW (cc := cL_act) (maxL := 8) (ret := (some .int)) (by decide) rfl ?_
  intro p e s m args below meth c s₁ B hml hv
  obtain ⟨rfl, hsz, hP, hD, E, Z⟩ := hv
  have hts := atoms_spec (ws := wsL_act) B.pre
  have hown : s.vm.findClass RL = some m.cls := findClass_of_methodNamed B.named
  have X : CallFix p m c cL_act 8 s _ wsL_act RL := ⟨B.exec, B.bytes, hml, hown, hts⟩
  have hx := B.exec
  have hb := B.bytes
  have hr0 := B.returns
  have hlocks := B.notSynchronized
  have hts2 : ∀ w, w ∈ wsL_act → w ∈ wsL_act := fun _ h9 => h9
  have htab : c.exceptionTable.toList = tableOf [(0, 288, 289, 65), (0, 288, 294, 67), (0, 288, 299, 69)] := vx_table (x := yL_act) B (hts _ List.mem_cons_self)
  subst hsz
  have w : bSt G vwCl [] s (hs_W G a x i) s.heap [] := ⟨hP, va_S.rf, hD⟩
  have w := b_wide (hs_M a) b_nil w
  have hm9 : ∀ q ∈ hs_M a, Aw (hs_M a) s.heap.size q := fun q h => Or.inl h
  have Z9 : bZ (hs_M a) s := Z
  have hI := hi
  have hl := lv_entry ([.ref (a 0), .int (nI 15), .int p1, .int p2, .int p3, .int p4, .int p5]) (n := 8) (Nat.le_of_ble_eq_true rfl)
  rw [lg_entry_eq]
  generalize (lg_sl ([.ref (a 0), .int (nI 15), .int p1, .int p2, .int p3, .int p4, .int p5]) ++ List.replicate (8 - (lg_sl ([.ref (a 0), .int (nI 15), .int p1, .int p2, .int p3, .int p4, .int p5])).length) Slot.unset).toArray = ls at hl ⊢
  have hl : lv_has ls 8 [(0, .ref (a 0)), (1, .int (nI 15)), (2, .int p1), (3, .int p2), (4, .int p3), (5, .int p4), (6, .int p5)] := hl
  refine lv_iload_n hx hb dL_act_0 rfl (lv_at hl 1 rfl) ?_
  refine lv_if_ne (tgt := 12) hx hb dL_act_1 (by decide) (fun c9 => ?_) (fun c9 => absurd c9 (by decide))
  refine lv_iload_n hx hb dL_act_12 rfl (lv_at hl 1 rfl) ?_
  refine lv_iconst (v := nI 1) hx hb dL_act_13 (by decide) ?_
  refine lv_icmp_ne (tgt := 25) hx hb dL_act_14 (by decide) (fun c9 => ?_) (fun c9 => absurd c9 (by decide))
  refine lv_iload_n hx hb dL_act_25 rfl (lv_at hl 1 rfl) ?_
  refine lv_iconst (v := nI 2) hx hb dL_act_26 (by decide) ?_
  refine lv_icmp_ne (tgt := 58) hx hb dL_act_27 (by decide) (fun c9 => ?_) (fun c9 => absurd c9 (by decide))
  refine lv_iload_n hx hb dL_act_58 rfl (lv_at hl 1 rfl) ?_
  refine lv_iconst (v := nI 3) hx hb dL_act_59 (by decide) ?_
  refine lv_icmp_ne (tgt := 78) hx hb dL_act_60 (by decide) (fun c9 => ?_) (fun c9 => absurd c9 (by decide))
  refine lv_iload_n hx hb dL_act_78 rfl (lv_at hl 1 rfl) ?_
  refine lv_iconst (v := nI 4) hx hb dL_act_79 (by decide) ?_
  refine lv_icmp_ne (tgt := 91) hx hb dL_act_80 (by decide) (fun c9 => ?_) (fun c9 => absurd c9 (by decide))
  refine lv_iload_n hx hb dL_act_91 rfl (lv_at hl 1 rfl) ?_
  refine lv_iconst (v := nI 5) hx hb dL_act_92 (by decide) ?_
  refine lv_icmp_ne (tgt := 104) hx hb dL_act_93 (by decide) (fun c9 => ?_) (fun c9 => absurd c9 (by decide))
  refine lv_iload_n hx hb dL_act_104 rfl (lv_at hl 1 rfl) ?_
  refine lv_bipush (v := nI 6) hx hb dL_act_105 (by decide) ?_
  refine lv_icmp_ne (tgt := 132) hx hb dL_act_107 (by decide) (fun c9 => ?_) (fun c9 => absurd c9 (by decide))
  refine lv_iload_n hx hb dL_act_132 rfl (lv_at hl 1 rfl) ?_
  refine lv_bipush (v := nI 7) hx hb dL_act_133 (by decide) ?_
  refine lv_icmp_ne (tgt := 146) hx hb dL_act_135 (by decide) (fun c9 => ?_) (fun c9 => absurd c9 (by decide))
  refine lv_iload_n hx hb dL_act_146 rfl (lv_at hl 1 rfl) ?_
  refine lv_bipush (v := nI 8) hx hb dL_act_147 (by decide) ?_
  refine lv_icmp_ne (tgt := 165) hx hb dL_act_149 (by decide) (fun c9 => ?_) (fun c9 => absurd c9 (by decide))
  refine lv_iload_n hx hb dL_act_165 rfl (lv_at hl 1 rfl) ?_
  refine lv_bipush (v := nI 9) hx hb dL_act_166 (by decide) ?_
  refine lv_icmp_ne (tgt := 184) hx hb dL_act_168 (by decide) (fun c9 => ?_) (fun c9 => absurd c9 (by decide))
  refine lv_iload_n hx hb dL_act_184 rfl (lv_at hl 1 rfl) ?_
  refine lv_bipush (v := nI 10) hx hb dL_act_185 (by decide) ?_
  refine lv_icmp_ne (tgt := 201) hx hb dL_act_187 (by decide) (fun c9 => ?_) (fun c9 => absurd c9 (by decide))
  refine lv_iload_n hx hb dL_act_201 rfl (lv_at hl 1 rfl) ?_
  refine lv_bipush (v := nI 11) hx hb dL_act_202 (by decide) ?_
  refine lv_icmp_ne (tgt := 218) hx hb dL_act_204 (by decide) (fun c9 => ?_) (fun c9 => absurd c9 (by decide))
  refine lv_iload_n hx hb dL_act_218 rfl (lv_at hl 1 rfl) ?_
  refine lv_bipush (v := nI 12) hx hb dL_act_219 (by decide) ?_
  refine lv_icmp_ne (tgt := 243) hx hb dL_act_221 (by decide) (fun c9 => ?_) (fun c9 => absurd c9 (by decide))
  refine lv_iload_n hx hb dL_act_243 rfl (lv_at hl 1 rfl) ?_
  refine lv_bipush (v := nI 13) hx hb dL_act_244 (by decide) ?_
  refine lv_icmp_ne (tgt := 260) hx hb dL_act_246 (by decide) (fun c9 => ?_) (fun c9 => absurd c9 (by decide))
  refine lv_iload_n hx hb dL_act_260 rfl (lv_at hl 1 rfl) ?_
  refine lv_bipush (v := nI 14) hx hb dL_act_261 (by decide) ?_
  refine lv_icmp_ne (tgt := 274) hx hb dL_act_263 (by decide) (fun c9 => ?_) (fun c9 => absurd c9 (by decide))
  refine lv_aload_n hx hb dL_act_274 rfl (lv_at hl 0 rfl) ?_
  refine lv_iload_n hx hb dL_act_275 rfl (lv_at hl 2 rfl) ?_
  refine lv_iload_n hx hb dL_act_276 rfl (lv_at hl 3 rfl) ?_
  refine hs_xcalli w (vx_runV (As := [.int p1, .int p2]) (rest := []) X (k_mayTell l hl0 G _ a _ _ hI p1 p2) (cwV 2 hts gL_act_X5_mayTell rfl rfl rfl (by decide +kernel) ⟨Nat.le_of_ble_eq_true rfl, Nat.le_of_ble_eq_true rfl⟩) ⟨b_blind, hs_recv E w, fun U9 hU9 hW9 => ⟨rfl, hs_pre E Z9 w hm9 U9 hU9 hW9⟩⟩ rfl rfl hl.1 rfl (lv_room (Nat.le_of_ble_eq_true rfl)) dL_act_277 ⟨Nat.le_of_ble_eq_true rfl, Nat.le_of_ble_eq_true rfl⟩) hm9 (fun E9 ce9 q9 H9 locs9 hex w9 hce hcv hcl => ?_) (fun r i H locs hr w => ?_)
  · rcases hex with ⟨rfl, hx9⟩ | ⟨rfl, hx9⟩ | ⟨rfl, hx9⟩
    · have hcc : c0 = 1 := hT.symm.trans hx9
      refine vx_catch (name := "java/lang/IndexOutOfBoundsException") hown [] ⟨0, 288, 289, 65⟩ [⟨0, 288, 294, 67⟩, ⟨0, 288, 299, 69⟩] htab b_pn (by decide) (by decide) (hts (.classLink RL 65 "java/lang/IndexOutOfBoundsException") (by decide +kernel)) (va_Nw.use rfl (E.2.1 (.castable "java/lang/IndexOutOfBoundsException" "java/lang/IndexOutOfBoundsException") (by decide +kernel)).2) hce hcv hcl ?_
      have w := w9
      refine lv_astore (lv' := [(7, .ref q9), (0, .ref (a 0)), (1, .int (nI 15)), (2, .int p1), (3, .int p2), (4, .int p3), (5, .int p4), (6, .int p5)]) hx hb dL_act_289 hl (by decide) rfl (fun ls hl => ?_)
      refine lv_bipush (v := -71) hx hb dL_act_291 (by decide) ?_
      exact W.iret (v := -71) hx hb hr0 (fun t9 ht9 hW9 => ⟨⟨-71, i, rfl, ⟨hI, by rw [hcc]; rfl⟩, (by show va_P G.1 vwCl (hs_W G a x i) t9.heap; rw [ht9]; exact w.1)⟩, w.2.1.F ht9⟩) w.2.1.2.2 dL_act_293
    · have hcc : c0 = 2 := hT.symm.trans hx9
      refine vx_catch (name := "java/lang/IllegalArgumentException") hown [⟨0, 288, 289, 65⟩] ⟨0, 288, 294, 67⟩ [⟨0, 288, 299, 69⟩] htab (b_pc (Or.inr ⟨by decide, "java/lang/IndexOutOfBoundsException", hts (.classLink RL 65 "java/lang/IndexOutOfBoundsException") (by decide +kernel), va_Nc.of (args := #[]) (E.2.1 (.not (.castable "java/lang/IllegalArgumentException" "java/lang/IndexOutOfBoundsException")) (by decide +kernel)).2⟩) b_pn) (by decide) (by decide) (hts (.classLink RL 67 "java/lang/IllegalArgumentException") (by decide +kernel)) (va_Nw.use rfl (E.2.1 (.castable "java/lang/IllegalArgumentException" "java/lang/IllegalArgumentException") (by decide +kernel)).2) hce hcv hcl ?_
      have w := w9
      refine lv_astore (lv' := [(7, .ref q9), (0, .ref (a 0)), (1, .int (nI 15)), (2, .int p1), (3, .int p2), (4, .int p3), (5, .int p4), (6, .int p5)]) hx hb dL_act_294 hl (by decide) rfl (fun ls hl => ?_)
      refine lv_bipush (v := -72) hx hb dL_act_296 (by decide) ?_
      exact W.iret (v := -72) hx hb hr0 (fun t9 ht9 hW9 => ⟨⟨-72, i, rfl, ⟨hI, by rw [hcc]; rfl⟩, (by show va_P G.1 vwCl (hs_W G a x i) t9.heap; rw [ht9]; exact w.1)⟩, w.2.1.F ht9⟩) w.2.1.2.2 dL_act_298
    · have hcc : c0 = 3 := hT.symm.trans hx9
      refine vx_catch (name := "java/lang/IllegalStateException") hown [⟨0, 288, 289, 65⟩, ⟨0, 288, 294, 67⟩] ⟨0, 288, 299, 69⟩ [] htab (b_pc (Or.inr ⟨by decide, "java/lang/IndexOutOfBoundsException", hts (.classLink RL 65 "java/lang/IndexOutOfBoundsException") (by decide +kernel), va_Nc.of (args := #[]) (E.2.1 (.not (.castable "java/lang/IllegalStateException" "java/lang/IndexOutOfBoundsException")) (by decide +kernel)).2⟩) (b_pc (Or.inr ⟨by decide, "java/lang/IllegalArgumentException", hts (.classLink RL 67 "java/lang/IllegalArgumentException") (by decide +kernel), va_Nc.of (args := #[]) (E.2.1 (.not (.castable "java/lang/IllegalStateException" "java/lang/IllegalArgumentException")) (by decide +kernel)).2⟩) b_pn)) (by decide) (by decide) (hts (.classLink RL 69 "java/lang/IllegalStateException") (by decide +kernel)) (va_Nw.use rfl (E.2.1 (.castable "java/lang/IllegalStateException" "java/lang/IllegalStateException") (by decide +kernel)).2) hce hcv hcl ?_
      have w := w9
      refine lv_astore (lv' := [(7, .ref q9), (0, .ref (a 0)), (1, .int (nI 15)), (2, .int p1), (3, .int p2), (4, .int p3), (5, .int p4), (6, .int p5)]) hx hb dL_act_299 hl (by decide) rfl (fun ls hl => ?_)
      refine lv_bipush (v := -73) hx hb dL_act_301 (by decide) ?_
      exact W.iret (v := -73) hx hb hr0 (fun t9 ht9 hW9 => ⟨⟨-73, i, rfl, ⟨hI, by rw [hcc]; rfl⟩, (by show va_P G.1 vwCl (hs_W G a x i) t9.heap; rw [ht9]; exact w.1)⟩, w.2.1.F ht9⟩) w.2.1.2.2 dL_act_303
  · exact absurd (hT.symm.trans hr.2.1) hc
set_option maxHeartbeats 4000000 in
set_option maxRecDepth 100000 in
theorem aS_area (l : Launch) (hl0 : l.stackTraces = false) (G : bG) (sz : Nat) (a : Nat → Nat) (x : hs_E) (i : hs_I) (hi : hs_Inv x i) (p1 p2 p3 p4 p5 : Int32) (x' : hs_E) (v0 : Int32) (hq : hT_area x p1 = 0 ∧ hX_area x p1 = x' ∧ hV_area x p1 = v0) : Met l yL_act wsL_act ({ frames := 8, cells := 2, slots := 12, locals := 132 }) (va_Pc [.ref (a 0), .int (nI 0), .int p1, .int p2, .int p3, .int p4, .int p5] (bPre G vwCl bNW bSW sz (hs_W G a x i) (hs_M a))) (va_Qi (fun (r : Int32) (j : hs_I) => hs_Inv x' j ∧ r = v0) (fun (j : hs_I) (tS : State) => va_P G.1 vwCl (hs_W G a x' j) tS.heap) (Aw (hs_M a) sz)) 2 12 (Aw (hs_M a) sz) := by
  refine va_MetW (cc := cL_act) (maxL := 8) (ret := (some .int)) (by decide) rfl ?_
  intro p e s m args below meth c s₁ B hml hv
  obtain ⟨rfl, hsz, hP, hD, E, Z⟩ := hv
  have hts := atoms_spec (ws := wsL_act) B.pre
  have hown : s.vm.findClass RL = some m.cls := findClass_of_methodNamed B.named
  have X : CallFix p m c cL_act 8 s _ wsL_act RL := ⟨B.exec, B.bytes, hml, hown, hts⟩
  have hx := B.exec
  have hb := B.bytes
  have hr0 := B.returns
  have hlocks := B.notSynchronized
  have hts2 : ∀ w, w ∈ wsL_act → w ∈ wsL_act := fun _ h9 => h9
  have htab : c.exceptionTable.toList = tableOf [(0, 288, 289, 65), (0, 288, 294, 67), (0, 288, 299, 69)] := vx_table (x := yL_act) B (hts _ List.mem_cons_self)
  subst hsz
  have w : bSt G vwCl [] s (hs_W G a x i) s.heap [] := ⟨hP, va_S.rf, hD⟩
  have w := b_wide (hs_M a) b_nil w
  have hm9 : ∀ q ∈ hs_M a, Aw (hs_M a) s.heap.size q := fun q h => Or.inl h
  have Z9 : bZ (hs_M a) s := Z
  have hI := hi
  have hl := lv_entry ([.ref (a 0), .int (nI 0), .int p1, .int p2, .int p3, .int p4, .int p5]) (n := 8) (Nat.le_of_ble_eq_true rfl)
  rw [lg_entry_eq]
  generalize (lg_sl ([.ref (a 0), .int (nI 0), .int p1, .int p2, .int p3, .int p4, .int p5]) ++ List.replicate (8 - (lg_sl ([.ref (a 0), .int (nI 0), .int p1, .int p2, .int p3, .int p4, .int p5])).length) Slot.unset).toArray = ls at hl ⊢
  have hl : lv_has ls 8 [(0, .ref (a 0)), (1, .int (nI 0)), (2, .int p1), (3, .int p2), (4, .int p3), (5, .int p4), (6, .int p5)] := hl
  refine lv_iload_n hx hb dL_act_0 rfl (lv_at hl 1 rfl) ?_
  refine lv_if_ne (tgt := 12) hx hb dL_act_1 (by decide) (fun c9 => absurd rfl c9) (fun c9 => ?_)
  refine lv_aload_n hx hb dL_act_4 rfl (lv_at hl 0 rfl) ?_
  refine lv_iload_n hx hb dL_act_5 rfl (lv_at hl 2 rfl) ?_
  refine hs_calli w (va_runV (As := [.int p1]) (rest := []) X (n_area l hl0 G _ a _ _ _ _ hI p1 hq) (cwV 1 hts gL_act_X5_area rfl rfl rfl (by decide +kernel) ⟨Nat.le_of_ble_eq_true rfl, Nat.le_of_ble_eq_true rfl⟩) ⟨b_blind, hs_recv E w, fun U9 hU9 hW9 => ⟨rfl, hs_pre E Z9 w hm9 U9 hU9 hW9⟩⟩ rfl rfl hl.1 rfl (lv_room (Nat.le_of_ble_eq_true rfl)) dL_act_6 ⟨Nat.le_of_ble_eq_true rfl, Nat.le_of_ble_eq_true rfl⟩) hm9 (fun r i H locs hr w => ?_)
  obtain ⟨hI, hr9⟩ := hr
  refine b_tp hr9 ?_
  refine lv_goto (tgt := 288) hx hb dL_act_9 (by decide) ?_
  exact W.iret (v := v0) hx hb hr0 (fun t9 ht9 hW9 => ⟨⟨v0, i, rfl, ⟨hI, rfl⟩, (by show va_P G.1 vwCl (hs_W G a x' i) t9.heap; rw [ht9]; exact w.1)⟩, w.2.1.F ht9⟩) w.2.1.2.2 dL_act_288
set_option maxHeartbeats 4000000 in
set_option maxRecDepth 100000 in
theorem aS_item (l : Launch) (hl0 : l.stackTraces = false) (G : bG) (sz : Nat) (a : Nat → Nat) (x : hs_E) (i : hs_I) (hi : hs_Inv x i) (p1 p2 p3 p4 p5 : Int32) (x' : hs_E) (v0 : Int32) (hq : hT_item x p1 = 0 ∧ hX_item x p1 = x' ∧ hV_item x p1 = v0) : Met l yL_act wsL_act ({ frames := 8, cells := 2, slots := 12, locals := 132 }) (va_Pc [.ref (a 0), .int (nI 1), .int p1, .int p2, .int p3, .int p4, .int p5] (bPre G vwCl bNW bSW sz (hs_W G a x i) (hs_M a))) (va_Qi (fun (r : Int32) (j : hs_I) => hs_Inv x' j ∧ r = v0) (fun (j : hs_I) (tS : State) => va_P G.1 vwCl (hs_W G a x' j) tS.heap) (Aw (hs_M a) sz)) 2 12 (Aw (hs_M a) sz) := by
  refine va_MetW (cc := cL_act) (maxL := 8) (ret := (some .int)) (by decide) rfl ?_
  intro p e s m args below meth c s₁ B hml hv
  obtain ⟨rfl, hsz, hP, hD, E, Z⟩ := hv
  have hts := atoms_spec (ws := wsL_act) B.pre
  have hown : s.vm.findClass RL = some m.cls := findClass_of_methodNamed B.named
  have X : CallFix p m c cL_act 8 s _ wsL_act RL := ⟨B.exec, B.bytes, hml, hown, hts⟩
  have hx := B.exec
  have hb := B.bytes
  have hr0 := B.returns
  have hlocks := B.notSynchronized
  have hts2 : ∀ w, w ∈ wsL_act → w ∈ wsL_act := fun _ h9 => h9
  have htab : c.exceptionTable.toList = tableOf [(0, 288, 289, 65), (0, 288, 294, 67), (0, 288, 299, 69)] := vx_table (x := yL_act) B (hts _ List.mem_cons_self)
  subst hsz
  have w : bSt G vwCl [] s (hs_W G a x i) s.heap [] := ⟨hP, va_S.rf, hD⟩
  have w := b_wide (hs_M a) b_nil w
  have hm9 : ∀ q ∈ hs_M a, Aw (hs_M a) s.heap.size q := fun q h => Or.inl h
  have Z9 : bZ (hs_M a) s := Z
  have hI := hi
  have hl := lv_entry ([.ref (a 0), .int (nI 1), .int p1, .int p2, .int p3, .int p4, .int p5]) (n := 8) (Nat.le_of_ble_eq_true rfl)
  rw [lg_entry_eq]
  generalize (lg_sl ([.ref (a 0), .int (nI 1), .int p1, .int p2, .int p3, .int p4, .int p5]) ++ List.replicate (8 - (lg_sl ([.ref (a 0), .int (nI 1), .int p1, .int p2, .int p3, .int p4, .int p5])).length) Slot.unset).toArray = ls at hl ⊢
  have hl : lv_has ls 8 [(0, .ref (a 0)), (1, .int (nI 1)), (2, .int p1), (3, .int p2), (4, .int p3), (5, .int p4), (6, .int p5)] := hl
  refine lv_iload_n hx hb dL_act_0 rfl (lv_at hl 1 rfl) ?_
  refine lv_if_ne (tgt := 12) hx hb dL_act_1 (by decide) (fun c9 => ?_) (fun c9 => absurd c9 (by decide))
  refine lv_iload_n hx hb dL_act_12 rfl (lv_at hl 1 rfl) ?_
  refine lv_iconst (v := nI 1) hx hb dL_act_13 (by decide) ?_
  refine lv_icmp_ne (tgt := 25) hx hb dL_act_14 (by decide) (fun c9 => absurd rfl c9) (fun c9 => ?_)
  refine lv_aload_n hx hb dL_act_17 rfl (lv_at hl 0 rfl) ?_
  refine lv_iload_n hx hb dL_act_18 rfl (lv_at hl 2 rfl) ?_
  refine hs_calli w (va_runV (As := [.int p1]) (rest := []) X (n_item l hl0 G _ a _ _ _ _ hI p1 hq) (cwV 1 hts gL_act_X5_item rfl rfl rfl (by decide +kernel) ⟨Nat.le_of_ble_eq_true rfl, Nat.le_of_ble_eq_true rfl⟩) ⟨b_blind, hs_recv E w, fun U9 hU9 hW9 => ⟨rfl, hs_pre E Z9 w hm9 U9 hU9 hW9⟩⟩ rfl rfl hl.1 rfl (lv_room (Nat.le_of_ble_eq_true rfl)) dL_act_19 ⟨Nat.le_of_ble_eq_true rfl, Nat.le_of_ble_eq_true rfl⟩) hm9 (fun r i H locs hr w => ?_)
  obtain ⟨hI, hr9⟩ := hr
  refine b_tp hr9 ?_
  refine lv_goto (tgt := 288) hx hb dL_act_22 (by decide) ?_
  exact W.iret (v := v0) hx hb hr0 (fun t9 ht9 hW9 => ⟨⟨v0, i, rfl, ⟨hI, rfl⟩, (by show va_P G.1 vwCl (hs_W G a x' i) t9.heap; rw [ht9]; exact w.1)⟩, w.2.1.F ht9⟩) w.2.1.2.2 dL_act_288
set_option maxHeartbeats 4000000 in
set_option maxRecDepth 100000 in
theorem aS_put (l : Launch) (hl0 : l.stackTraces = false) (G : bG) (sz : Nat) (a : Nat → Nat) (x : hs_E) (i : hs_I) (hi : hs_Inv x i) (p1 p2 p3 p4 p5 : Int32) (x' : hs_E) (v0 : Int32) (hq : hT_put x p1 p2 p3 p4 p5 = 0 ∧ hX_put x p1 p2 p3 p4 p5 = x' ∧ hV_put x p1 p2 p3 p4 p5 = v0) : Met l yL_act wsL_act ({ frames := 8, cells := 2, slots := 12, locals := 139 }) (va_Pc [.ref (a 0), .int (nI 3), .int p1, .int p2, .int p3, .int p4, .int p5] (bPre G vwCl bNW bSW sz (hs_W G a x i) (hs_M a))) (va_Qi (fun (r : Int32) (j : hs_I) => hs_Inv x' j ∧ r = v0) (fun (j : hs_I) (tS : State) => va_P G.1 vwCl (hs_W G a x' j) tS.heap) (Aw (hs_M a) sz)) 2 12 (Aw (hs_M a) sz) := by
  refine va_MetW (cc := cL_act) (maxL := 8) (ret := (some .int)) (by decide) rfl ?_
  intro p e s m args below meth c s₁ B hml hv
  obtain ⟨rfl, hsz, hP, hD, E, Z⟩ := hv
  have hts := atoms_spec (ws := wsL_act) B.pre
  have hown : s.vm.findClass RL = some m.cls := findClass_of_methodNamed B.named
  have X : CallFix p m c cL_act 8 s _ wsL_act RL := ⟨B.exec, B.bytes, hml, hown, hts⟩
  have hx := B.exec
  have hb := B.bytes
  have hr0 := B.returns
  have hlocks := B.notSynchronized
  have hts2 : ∀ w, w ∈ wsL_act → w ∈ wsL_act := fun _ h9 => h9
  have htab : c.exceptionTable.toList = tableOf [(0, 288, 289, 65), (0, 288, 294, 67), (0, 288, 299, 69)] := vx_table (x := yL_act) B (hts _ List.mem_cons_self)
  subst hsz
  have w : bSt G vwCl [] s (hs_W G a x i) s.heap [] := ⟨hP, va_S.rf, hD⟩
  have w := b_wide (hs_M a) b_nil w
  have hm9 : ∀ q ∈ hs_M a, Aw (hs_M a) s.heap.size q := fun q h => Or.inl h
  have Z9 : bZ (hs_M a) s := Z
  have hI := hi
  have hl := lv_entry ([.ref (a 0), .int (nI 3), .int p1, .int p2, .int p3, .int p4, .int p5]) (n := 8) (Nat.le_of_ble_eq_true rfl)
  rw [lg_entry_eq]
  generalize (lg_sl ([.ref (a 0), .int (nI 3), .int p1, .int p2, .int p3, .int p4, .int p5]) ++ List.replicate (8 - (lg_sl ([.ref (a 0), .int (nI 3), .int p1, .int p2, .int p3, .int p4, .int p5])).length) Slot.unset).toArray = ls at hl ⊢
  have hl : lv_has ls 8 [(0, .ref (a 0)), (1, .int (nI 3)), (2, .int p1), (3, .int p2), (4, .int p3), (5, .int p4), (6, .int p5)] := hl
  refine lv_iload_n hx hb dL_act_0 rfl (lv_at hl 1 rfl) ?_
  refine lv_if_ne (tgt := 12) hx hb dL_act_1 (by decide) (fun c9 => ?_) (fun c9 => absurd c9 (by decide))
  refine lv_iload_n hx hb dL_act_12 rfl (lv_at hl 1 rfl) ?_
  refine lv_iconst (v := nI 1) hx hb dL_act_13 (by decide) ?_
  refine lv_icmp_ne (tgt := 25) hx hb dL_act_14 (by decide) (fun c9 => ?_) (fun c9 => absurd c9 (by decide))
  refine lv_iload_n hx hb dL_act_25 rfl (lv_at hl 1 rfl) ?_
  refine lv_iconst (v := nI 2) hx hb dL_act_26 (by decide) ?_
  refine lv_icmp_ne (tgt := 58) hx hb dL_act_27 (by decide) (fun c9 => ?_) (fun c9 => absurd c9 (by decide))
  refine lv_iload_n hx hb dL_act_58 rfl (lv_at hl 1 rfl) ?_
  refine lv_iconst (v := nI 3) hx hb dL_act_59 (by decide) ?_
  refine lv_icmp_ne (tgt := 78) hx hb dL_act_60 (by decide) (fun c9 => absurd rfl c9) (fun c9 => ?_)
  refine lv_aload_n hx hb dL_act_63 rfl (lv_at hl 0 rfl) ?_
  refine lv_iload_n hx hb dL_act_64 rfl (lv_at hl 2 rfl) ?_
  refine lv_iload_n hx hb dL_act_65 rfl (lv_at hl 3 rfl) ?_
  refine lv_iload hx hb dL_act_66 (lv_at hl 4 rfl) ?_
  refine lv_iload hx hb dL_act_68 (lv_at hl 5 rfl) ?_
  refine lv_iload hx hb dL_act_70 (lv_at hl 6 rfl) ?_
  refine hs_calli w (va_runV (As := [.int p1, .int p2, .int p3, .int p4, .int p5]) (rest := []) X (n_put l hl0 G _ a _ _ _ _ hI p1 p2 p3 p4 p5 hq) (cwV 5 hts gL_act_X5_put rfl rfl rfl (by decide +kernel) ⟨Nat.le_of_ble_eq_true rfl, Nat.le_of_ble_eq_true rfl⟩) ⟨b_blind, hs_recv E w, fun U9 hU9 hW9 => ⟨rfl, hs_pre E Z9 w hm9 U9 hU9 hW9⟩⟩ rfl rfl hl.1 rfl (lv_room (Nat.le_of_ble_eq_true rfl)) dL_act_72 ⟨Nat.le_of_ble_eq_true rfl, Nat.le_of_ble_eq_true rfl⟩) hm9 (fun r i H locs hr w => ?_)
  obtain ⟨hI, hr9⟩ := hr
  refine b_tp hr9 ?_
  refine lv_goto (tgt := 288) hx hb dL_act_75 (by decide) ?_
  exact W.iret (v := v0) hx hb hr0 (fun t9 ht9 hW9 => ⟨⟨v0, i, rfl, ⟨hI, rfl⟩, (by show va_P G.1 vwCl (hs_W G a x' i) t9.heap; rw [ht9]; exact w.1)⟩, w.2.1.F ht9⟩) w.2.1.2.2 dL_act_288
set_option maxHeartbeats 4000000 in
set_option maxRecDepth 100000 in
theorem aS_send (l : Launch) (hl0 : l.stackTraces = false) (G : bG) (sz : Nat) (a : Nat → Nat) (x : hs_E) (i : hs_I) (hi : hs_Inv x i) (p1 p2 p3 p4 p5 : Int32) (x' : hs_E) (v0 : Int32) (hq : hT_send x p1 = 0 ∧ hX_send x p1 = x' ∧ hV_send x p1 = v0) : Met l yL_act wsL_act ({ frames := 8, cells := 2, slots := 12, locals := 140 }) (va_Pc [.ref (a 0), .int (nI 4), .int p1, .int p2, .int p3, .int p4, .int p5] (bPre G vwCl bNW bSW sz (hs_W G a x i) (hs_M a))) (va_Qi (fun (r : Int32) (j : hs_I) => hs_Inv x' j ∧ r = v0) (fun (j : hs_I) (tS : State) => va_P G.1 vwCl (hs_W G a x' j) tS.heap) (Aw (hs_M a) sz)) 2 12 (Aw (hs_M a) sz) := by
  refine va_MetW (cc := cL_act) (maxL := 8) (ret := (some .int)) (by decide) rfl ?_
  intro p e s m args below meth c s₁ B hml hv
  obtain ⟨rfl, hsz, hP, hD, E, Z⟩ := hv
  have hts := atoms_spec (ws := wsL_act) B.pre
  have hown : s.vm.findClass RL = some m.cls := findClass_of_methodNamed B.named
  have X : CallFix p m c cL_act 8 s _ wsL_act RL := ⟨B.exec, B.bytes, hml, hown, hts⟩
  have hx := B.exec
  have hb := B.bytes
  have hr0 := B.returns
  have hlocks := B.notSynchronized
  have hts2 : ∀ w, w ∈ wsL_act → w ∈ wsL_act := fun _ h9 => h9
  have htab : c.exceptionTable.toList = tableOf [(0, 288, 289, 65), (0, 288, 294, 67), (0, 288, 299, 69)] := vx_table (x := yL_act) B (hts _ List.mem_cons_self)
  subst hsz
  have w : bSt G vwCl [] s (hs_W G a x i) s.heap [] := ⟨hP, va_S.rf, hD⟩
  have w := b_wide (hs_M a) b_nil w
  have hm9 : ∀ q ∈ hs_M a, Aw (hs_M a) s.heap.size q := fun q h => Or.inl h
  have Z9 : bZ (hs_M a) s := Z
  have hI := hi
  have hl := lv_entry ([.ref (a 0), .int (nI 4), .int p1, .int p2, .int p3, .int p4, .int p5]) (n := 8) (Nat.le_of_ble_eq_true rfl)
  rw [lg_entry_eq]
  generalize (lg_sl ([.ref (a 0), .int (nI 4), .int p1, .int p2, .int p3, .int p4, .int p5]) ++ List.replicate (8 - (lg_sl ([.ref (a 0), .int (nI 4), .int p1, .int p2, .int p3, .int p4, .int p5])).length) Slot.unset).toArray = ls at hl ⊢
  have hl : lv_has ls 8 [(0, .ref (a 0)), (1, .int (nI 4)), (2, .int p1), (3, .int p2), (4, .int p3), (5, .int p4), (6, .int p5)] := hl
  refine lv_iload_n hx hb dL_act_0 rfl (lv_at hl 1 rfl) ?_
  refine lv_if_ne (tgt := 12) hx hb dL_act_1 (by decide) (fun c9 => ?_) (fun c9 => absurd c9 (by decide))
  refine lv_iload_n hx hb dL_act_12 rfl (lv_at hl 1 rfl) ?_
  refine lv_iconst (v := nI 1) hx hb dL_act_13 (by decide) ?_
  refine lv_icmp_ne (tgt := 25) hx hb dL_act_14 (by decide) (fun c9 => ?_) (fun c9 => absurd c9 (by decide))
  refine lv_iload_n hx hb dL_act_25 rfl (lv_at hl 1 rfl) ?_
  refine lv_iconst (v := nI 2) hx hb dL_act_26 (by decide) ?_
  refine lv_icmp_ne (tgt := 58) hx hb dL_act_27 (by decide) (fun c9 => ?_) (fun c9 => absurd c9 (by decide))
  refine lv_iload_n hx hb dL_act_58 rfl (lv_at hl 1 rfl) ?_
  refine lv_iconst (v := nI 3) hx hb dL_act_59 (by decide) ?_
  refine lv_icmp_ne (tgt := 78) hx hb dL_act_60 (by decide) (fun c9 => ?_) (fun c9 => absurd c9 (by decide))
  refine lv_iload_n hx hb dL_act_78 rfl (lv_at hl 1 rfl) ?_
  refine lv_iconst (v := nI 4) hx hb dL_act_79 (by decide) ?_
  refine lv_icmp_ne (tgt := 91) hx hb dL_act_80 (by decide) (fun c9 => absurd rfl c9) (fun c9 => ?_)
  refine lv_aload_n hx hb dL_act_83 rfl (lv_at hl 0 rfl) ?_
  refine lv_iload_n hx hb dL_act_84 rfl (lv_at hl 2 rfl) ?_
  refine hs_calli w (va_runV (As := [.int p1]) (rest := []) X (n_send l hl0 G _ a _ _ _ _ hI p1 hq) (cwV 1 hts gL_act_X5_send rfl rfl rfl (by decide +kernel) ⟨Nat.le_of_ble_eq_true rfl, Nat.le_of_ble_eq_true rfl⟩) ⟨b_blind, hs_recv E w, fun U9 hU9 hW9 => ⟨rfl, hs_pre E Z9 w hm9 U9 hU9 hW9⟩⟩ rfl rfl hl.1 rfl (lv_room (Nat.le_of_ble_eq_true rfl)) dL_act_85 ⟨Nat.le_of_ble_eq_true rfl, Nat.le_of_ble_eq_true rfl⟩) hm9 (fun r i H locs hr w => ?_)
  obtain ⟨hI, hr9⟩ := hr
  refine b_tp hr9 ?_
  refine lv_goto (tgt := 288) hx hb dL_act_88 (by decide) ?_
  exact W.iret (v := v0) hx hb hr0 (fun t9 ht9 hW9 => ⟨⟨v0, i, rfl, ⟨hI, rfl⟩, (by show va_P G.1 vwCl (hs_W G a x' i) t9.heap; rw [ht9]; exact w.1)⟩, w.2.1.F ht9⟩) w.2.1.2.2 dL_act_288
set_option maxHeartbeats 4000000 in
set_option maxRecDepth 100000 in
theorem fF (l : Launch) (hl0 : l.stackTraces = false) (G : bG) (sz : Nat) (a : Nat → Nat) (x : hs_E) (i : hs_I) (hi : hs_Inv x i) (p1 p2 p3 p4 p5 p6 : Int32) (c0 : Nat) (hT : hT_find x p1 p2 p3 p4 p5 p6 = c0) (hc : ¬ c0 = 0) : Met l yL_find wsL_find ({ frames := 8, cells := 3, slots := 18, locals := 137 }) (va_Pc [.ref (a 0), .int p1, .int p2, .int p3, .int p4, .int p5, .int p6] (bPre G vwCl bNW bSW sz (hs_W G a x i) (hs_M a))) (va_Qi (fun (r : Int32) (j : hs_I) => hs_Inv x j ∧ r = hs_r c0) (fun (j : hs_I) (tS : State) => va_P G.1 vwCl (hs_W G a x j) tS.heap) (Aw (hs_M a) sz)) 3 18 (Aw (hs_M a) sz) := by
  refine va_MetW (cc := cL_find) (maxL := 8) (ret := (some .int)) (by decide) rfl ?_
  intro p e s m args below meth c s₁ B hml hv
  obtain ⟨rfl, hsz, hP, hD, E, Z⟩ := hv
  have hts := atoms_spec (ws := wsL_find) B.pre
  have hown : s.vm.findClass RL = some m.cls := findClass_of_methodNamed B.named
  have X : CallFix p m c cL_find 8 s _ wsL_find RL := ⟨B.exec, B.bytes, hml, hown, hts⟩
  have hx := B.exec
  have hb := B.bytes
  have hr0 := B.returns
  have hlocks := B.notSynchronized
  have hts2 : ∀ w, w ∈ wsL_find → w ∈ wsL_find := fun _ h9 => h9
  have htab : c.exceptionTable.toList = tableOf [(0, 13, 14, 65), (0, 13, 19, 67)] := vx_table (x := yL_find) B (hts _ List.mem_cons_self)
  subst hsz
  have w : bSt G vwCl [] s (hs_W G a x i) s.heap [] := ⟨hP, va_S.rf, hD⟩
  have w := b_wide (hs_M a) b_nil w
  have hm9 : ∀ q ∈ hs_M a, Aw (hs_M a) s.heap.size q := fun q h => Or.inl h
  have Z9 : bZ (hs_M a) s := Z
  have hI := hi
  have hl := lv_entry ([.ref (a 0), .int p1, .int p2, .int p3, .int p4, .int p5, .int p6]) (n := 8) (Nat.le_of_ble_eq_true rfl)
  rw [lg_entry_eq]
  generalize (lg_sl ([.ref (a 0), .int p1, .int p2, .int p3, .int p4, .int p5, .int p6]) ++ List.replicate (8 - (lg_sl ([.ref (a 0), .int p1, .int p2, .int p3, .int p4, .int p5, .int p6])).length) Slot.unset).toArray = ls at hl ⊢
  have hl : lv_has ls 8 [(0, .ref (a 0)), (1, .int p1), (2, .int p2), (3, .int p3), (4, .int p4), (5, .int p5), (6, .int p6)] := hl
  refine lv_aload_n hx hb dL_find_0 rfl (lv_at hl 0 rfl) ?_
  refine lv_iload_n hx hb dL_find_1 rfl (lv_at hl 1 rfl) ?_
  refine lv_iload_n hx hb dL_find_2 rfl (lv_at hl 2 rfl) ?_
  refine lv_iload_n hx hb dL_find_3 rfl (lv_at hl 3 rfl) ?_
  refine lv_iload hx hb dL_find_4 (lv_at hl 4 rfl) ?_
  refine lv_iload hx hb dL_find_6 (lv_at hl 5 rfl) ?_
  refine lv_iload hx hb dL_find_8 (lv_at hl 6 rfl) ?_
  refine hs_xcalli w (vx_runV (As := [.int p1, .int p2, .int p3, .int p4, .int p5, .int p6]) (rest := []) X (k_find l hl0 G _ a _ _ hI p1 p2 p3 p4 p5 p6) (cwV 6 hts gL_find_X5_find rfl rfl rfl (by decide +kernel) ⟨Nat.le_of_ble_eq_true rfl, Nat.le_of_ble_eq_true rfl⟩) ⟨b_blind, hs_recv E w, fun U9 hU9 hW9 => ⟨rfl, hs_pre E Z9 w hm9 U9 hU9 hW9⟩⟩ rfl rfl hl.1 rfl (lv_room (Nat.le_of_ble_eq_true rfl)) dL_find_10 ⟨Nat.le_of_ble_eq_true rfl, Nat.le_of_ble_eq_true rfl⟩) hm9 (fun E9 ce9 q9 H9 locs9 hex w9 hce hcv hcl => ?_) (fun r i H locs hr w => ?_)
  · rcases hex with ⟨rfl, hx9⟩ | ⟨rfl, hx9⟩ | ⟨rfl, hx9⟩
    · have hcc : c0 = 1 := hT.symm.trans hx9
      refine vx_catch (name := "java/lang/IndexOutOfBoundsException") hown [] ⟨0, 13, 14, 65⟩ [⟨0, 13, 19, 67⟩] htab b_pn (by decide) (by decide) (hts (.classLink RL 65 "java/lang/IndexOutOfBoundsException") (by decide +kernel)) (va_Nw.use rfl (E.2.1 (.castable "java/lang/IndexOutOfBoundsException" "java/lang/IndexOutOfBoundsException") (by decide +kernel)).2) hce hcv hcl ?_
      have w := w9
      refine lv_astore (lv' := [(7, .ref q9), (0, .ref (a 0)), (1, .int p1), (2, .int p2), (3, .int p3), (4, .int p4), (5, .int p5), (6, .int p6)]) hx hb dL_find_14 hl (by decide) rfl (fun ls hl => ?_)
      refine lv_bipush (v := -71) hx hb dL_find_16 (by decide) ?_
      exact W.iret (v := -71) hx hb hr0 (fun t9 ht9 hW9 => ⟨⟨-71, i, rfl, ⟨hI, by rw [hcc]; rfl⟩, (by show va_P G.1 vwCl (hs_W G a x i) t9.heap; rw [ht9]; exact w.1)⟩, w.2.1.F ht9⟩) w.2.1.2.2 dL_find_18
    · have hcc : c0 = 2 := hT.symm.trans hx9
      refine vx_catch (name := "java/lang/IllegalArgumentException") hown [⟨0, 13, 14, 65⟩] ⟨0, 13, 19, 67⟩ [] htab (b_pc (Or.inr ⟨by decide, "java/lang/IndexOutOfBoundsException", hts (.classLink RL 65 "java/lang/IndexOutOfBoundsException") (by decide +kernel), va_Nc.of (args := #[]) (E.2.1 (.not (.castable "java/lang/IllegalArgumentException" "java/lang/IndexOutOfBoundsException")) (by decide +kernel)).2⟩) b_pn) (by decide) (by decide) (hts (.classLink RL 67 "java/lang/IllegalArgumentException") (by decide +kernel)) (va_Nw.use rfl (E.2.1 (.castable "java/lang/IllegalArgumentException" "java/lang/IllegalArgumentException") (by decide +kernel)).2) hce hcv hcl ?_
      have w := w9
      refine lv_astore (lv' := [(7, .ref q9), (0, .ref (a 0)), (1, .int p1), (2, .int p2), (3, .int p3), (4, .int p4), (5, .int p5), (6, .int p6)]) hx hb dL_find_19 hl (by decide) rfl (fun ls hl => ?_)
      refine lv_bipush (v := -72) hx hb dL_find_21 (by decide) ?_
      exact W.iret (v := -72) hx hb hr0 (fun t9 ht9 hW9 => ⟨⟨-72, i, rfl, ⟨hI, by rw [hcc]; rfl⟩, (by show va_P G.1 vwCl (hs_W G a x i) t9.heap; rw [ht9]; exact w.1)⟩, w.2.1.F ht9⟩) w.2.1.2.2 dL_find_23
    · exact absurd hx9 (hs_t2n3 _ _)
  · exact absurd (hT.symm.trans hr.2.1) hc
set_option maxHeartbeats 4000000 in
set_option maxRecDepth 100000 in
theorem fS (l : Launch) (hl0 : l.stackTraces = false) (G : bG) (sz : Nat) (a : Nat → Nat) (x : hs_E) (i : hs_I) (hi : hs_Inv x i) (p1 p2 p3 p4 p5 p6 : Int32) (v0 : Int32) (hq : hT_find x p1 p2 p3 p4 p5 p6 = 0 ∧ hX_find x p1 p2 p3 p4 p5 p6 = x ∧ hV_find x p1 p2 p3 p4 p5 p6 = v0) : Met l yL_find wsL_find ({ frames := 8, cells := 3, slots := 18, locals := 137 }) (va_Pc [.ref (a 0), .int p1, .int p2, .int p3, .int p4, .int p5, .int p6] (bPre G vwCl bNW bSW sz (hs_W G a x i) (hs_M a))) (va_Qi (fun (r : Int32) (j : hs_I) => hs_Inv x j ∧ r = v0) (fun (j : hs_I) (tS : State) => va_P G.1 vwCl (hs_W G a x j) tS.heap) (Aw (hs_M a) sz)) 3 18 (Aw (hs_M a) sz) := by
  refine va_MetW (cc := cL_find) (maxL := 8) (ret := (some .int)) (by decide) rfl ?_
  intro p e s m args below meth c s₁ B hml hv
  obtain ⟨rfl, hsz, hP, hD, E, Z⟩ := hv
  have hts := atoms_spec (ws := wsL_find) B.pre
  have hown : s.vm.findClass RL = some m.cls := findClass_of_methodNamed B.named
  have X : CallFix p m c cL_find 8 s _ wsL_find RL := ⟨B.exec, B.bytes, hml, hown, hts⟩
  have hx := B.exec
  have hb := B.bytes
  have hr0 := B.returns
  have hlocks := B.notSynchronized
  have hts2 : ∀ w, w ∈ wsL_find → w ∈ wsL_find := fun _ h9 => h9
  have htab : c.exceptionTable.toList = tableOf [(0, 13, 14, 65), (0, 13, 19, 67)] := vx_table (x := yL_find) B (hts _ List.mem_cons_self)
  subst hsz
  have w : bSt G vwCl [] s (hs_W G a x i) s.heap [] := ⟨hP, va_S.rf, hD⟩
  have w := b_wide (hs_M a) b_nil w
  have hm9 : ∀ q ∈ hs_M a, Aw (hs_M a) s.heap.size q := fun q h => Or.inl h
  have Z9 : bZ (hs_M a) s := Z
  have hI := hi
  have hl := lv_entry ([.ref (a 0), .int p1, .int p2, .int p3, .int p4, .int p5, .int p6]) (n := 8) (Nat.le_of_ble_eq_true rfl)
  rw [lg_entry_eq]
  generalize (lg_sl ([.ref (a 0), .int p1, .int p2, .int p3, .int p4, .int p5, .int p6]) ++ List.replicate (8 - (lg_sl ([.ref (a 0), .int p1, .int p2, .int p3, .int p4, .int p5, .int p6])).length) Slot.unset).toArray = ls at hl ⊢
  have hl : lv_has ls 8 [(0, .ref (a 0)), (1, .int p1), (2, .int p2), (3, .int p3), (4, .int p4), (5, .int p5), (6, .int p6)] := hl
  refine lv_aload_n hx hb dL_find_0 rfl (lv_at hl 0 rfl) ?_
  refine lv_iload_n hx hb dL_find_1 rfl (lv_at hl 1 rfl) ?_
  refine lv_iload_n hx hb dL_find_2 rfl (lv_at hl 2 rfl) ?_
  refine lv_iload_n hx hb dL_find_3 rfl (lv_at hl 3 rfl) ?_
  refine lv_iload hx hb dL_find_4 (lv_at hl 4 rfl) ?_
  refine lv_iload hx hb dL_find_6 (lv_at hl 5 rfl) ?_
  refine lv_iload hx hb dL_find_8 (lv_at hl 6 rfl) ?_
  refine hs_calli w (va_runV (As := [.int p1, .int p2, .int p3, .int p4, .int p5, .int p6]) (rest := []) X (n_find l hl0 G _ a _ _ _ _ hI p1 p2 p3 p4 p5 p6 hq) (cwV 6 hts gL_find_X5_find rfl rfl rfl (by decide +kernel) ⟨Nat.le_of_ble_eq_true rfl, Nat.le_of_ble_eq_true rfl⟩) ⟨b_blind, hs_recv E w, fun U9 hU9 hW9 => ⟨rfl, hs_pre E Z9 w hm9 U9 hU9 hW9⟩⟩ rfl rfl hl.1 rfl (lv_room (Nat.le_of_ble_eq_true rfl)) dL_find_10 ⟨Nat.le_of_ble_eq_true rfl, Nat.le_of_ble_eq_true rfl⟩) hm9 (fun r i H locs hr w => ?_)
  obtain ⟨hI, hr9⟩ := hr
  refine b_tp hr9 ?_
  exact W.iret (v := v0) hx hb hr0 (fun t9 ht9 hW9 => ⟨⟨v0, i, rfl, ⟨hI, rfl⟩, (by show va_P G.1 vwCl (hs_W G a x i) t9.heap; rw [ht9]; exact w.1)⟩, w.2.1.F ht9⟩) w.2.1.2.2 dL_find_13
