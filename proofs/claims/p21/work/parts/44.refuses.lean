/-! what is refused, and by which exception -/
theorem hn_max {n : Nat} (h : n ≤ 2000) : tHas n 2147483647 = false := by
  have h2 : nI n ≤ 2147483647 := (nI_leI (a := n) (b := 2147483647) (by omega) (by decide)).mpr (by omega)
  simp [tHas, h2]
theorem hn_ge {n k : Nat} (h : n ≤ k) (hk : k < 2 ^ 31) : tHas n (nI k) = false := by
  have h2 : nI n ≤ nI k := (nI_leI (by omega) hk).mpr h
  simp [tHas, h2]
theorem hn_pat {n : Nat} {v : Int32} (h : tHas n v = false) (h2 : ¬ v = -1) : tPat n v = false := by
  simp [tPat, h, h2]
theorem hf_area {x : hs_E} {v : Int32} (h : tPat (hs_nA x) v = false) : hT_area x v = 1 := by unfold hT_area; rw [h]; rfl
theorem hf_item {x : hs_E} {v : Int32} (h : tPat (hs_nJ x) v = false) : hT_item x v = 1 := by unfold hT_item; rw [h]; rfl
theorem hf_agree1 {x : hs_E} {s a : Int32} {b : Bool} (h : tHas 4 s = false) : hT_agree x s a b = 1 := by unfold hT_agree; rw [h]; rfl
theorem hf_agree2 {x : hs_E} {s a : Int32} {b : Bool} (h : tHas (hs_nA x) a = false) : hT_agree x s a b = 1 := by unfold hT_agree; rw [h, Bool.and_false]; rfl
theorem hf_may1 {x : hs_E} {s a : Int32} (h : tHas 4 s = false) : hT_mayTell x s a = 1 := by unfold hT_mayTell; rw [h]; rfl
theorem hf_may2 {x : hs_E} {s a : Int32} (h : tHas (hs_nA x) a = false) : hT_mayTell x s a = 1 := by unfold hT_mayTell; rw [h, Bool.and_false]; rfl
theorem hf_okA {nA nJ : Nat} {a i p : Int32} (h : tHas nA a = false) : okC nA nJ a i p = false := by unfold okC; rw [h]; rfl
theorem hf_okJ {nA nJ : Nat} {a i p : Int32} (h : tHas nJ i = false) : okC nA nJ a i p = false := by unfold okC; rw [h, Bool.and_false]; rfl
theorem hf_okP {nA nJ : Nat} {a i p : Int32} (h : tHas 12 p = false) : okC nA nJ a i p = false := by unfold okC; rw [h, Bool.and_false]
theorem hf_ok0 {nA nJ : Nat} (hA : 0 < nA) (hJ : 0 < nJ) (hA2 : nA ≤ 14) (hJ2 : nJ ≤ 10) : okC nA nJ (nI 0) (nI 0) (nI 0) = true := by
  unfold okC
  rw [tHas_nI hA (by omega), tHas_nI hJ (by omega)]
  decide
theorem hf_put1 {x : hs_E} {w a i p t : Int32} (h : okC (hs_nA x) (hs_nJ x) a i p = false) : hT_put x w a i p t = 1 := by unfold hT_put; rw [h]; rfl
theorem hf_put2 {x : hs_E} {w a i p t : Int32} (h : okC (hs_nA x) (hs_nJ x) a i p = true) (h2 : (wOk w && vOk t) = false) : hT_put x w a i p t = 2 := by unfold hT_put; rw [h, h2]; rfl
theorem hf_send1 {x : hs_E} {s : Int32} (h : tHas 4 s = false) : hT_send x s = 1 := by unfold hT_send; rw [h]; rfl
theorem hf_refusal {x : hs_E} {k : Int32} (h : tHas (hs_jd x) k = false) : hT_refusal x k = 1 := by unfold hT_refusal; rw [h]; rfl
theorem hf_secret {x : hs_E} {a i p : Int32} {b : Bool} (h : okC (hs_nA x) (hs_nJ x) a i p = false) : hT_secret x a i p b = 1 := by unfold hT_secret; rw [h]; rfl
theorem hf_first {x : hs_E} {a i p : Int32} (h : okC (hs_nA x) (hs_nJ x) a i p = false) : hT_first x a i p = 1 := by unfold hT_first; rw [h]; rfl
theorem hf_revisions {x : hs_E} {a i p : Int32} (h : okC (hs_nA x) (hs_nJ x) a i p = false) : hT_revisions x a i p = 1 := by unfold hT_revisions; rw [h]; rfl
theorem hf_hasFault {x : hs_E} {a i p : Int32} (h : okC (hs_nA x) (hs_nJ x) a i p = false) : hT_hasFault x a i p = 1 := by unfold hT_hasFault; rw [h]; rfl
theorem hf_shown {x : hs_E} {a i p : Int32} (h : okC (hs_nA x) (hs_nJ x) a i p = false) : hT_shown x a i p = 1 := by unfold hT_shown; rw [h]; rfl
theorem hf_figure1 {x : hs_E} {a i p d : Int32} (h : okC (hs_nA x) (hs_nJ x) a i p = false) : hT_figure x a i p d = 1 := by unfold hT_figure; rw [h]; rfl
theorem hf_figure2 {x : hs_E} {a i p d : Int32} (h : okC (hs_nA x) (hs_nJ x) a i p = true) (h2 : dOk (hs_td x) d = false) : hT_figure x a i p d = 2 := by unfold hT_figure; rw [h, h2]; rfl
theorem hf_value1 {x : hs_E} {a i p d : Int32} (h : okC (hs_nA x) (hs_nJ x) a i p = false) : hT_value x a i p d = 1 := by unfold hT_value; rw [h]; rfl
theorem hf_value2 {x : hs_E} {a i p d : Int32} (h : okC (hs_nA x) (hs_nJ x) a i p = true) (h2 : dOk (hs_td x) d = false) : hT_value x a i p d = 2 := by unfold hT_value; rw [h, h2]; rfl
theorem hf_pass {x : hs_E} {d : Int32} (h : pOk d = false) : hT_pass x d = 2 := by unfold hT_pass; rw [h]; rfl
theorem hf_hidden {x : hs_E} {p : Int32} (h : tHas 12 p = false) : hT_hidden x p = 1 := by unfold hT_hidden; rw [h]; rfl
theorem hf_find1 {x : hs_E} {p q f t s k : Int32} (h : tPat (hs_nA x) p = false ∨ tPat (hs_nJ x) q = false ∨ k < 0) : hT_find x p q f t s k = 1 := by
  have h9 : (tPat (hs_nA x) p && tPat (hs_nJ x) q && !decide (k < 0)) = false := by
    rcases h with h | h | h
    · rw [h]; rfl
    · rw [h, Bool.and_false]; rfl
    · simp [h]
  unfold hT_find; rw [h9]; rfl
theorem hf_pm {n : Nat} : tPat n (-1) = true := by
  have h : decide ((-1 : Int32) = -1) = true := by decide
  unfold tPat; rw [h]; rfl
theorem hf_find2 {x : hs_E} {f t s k : Int32} (hk : ¬ k < 0) (h : (tHas 12 f && tHas 12 t && !decide (t < f) && sOk s) = false) : hT_find x (-1) (-1) f t s k = 2 := by
  have h9 : (tPat (hs_nA x) (-1) && tPat (hs_nJ x) (-1) && !decide (k < 0)) = true := by rw [hf_pm, hf_pm, decide_eq_false hk]; rfl
  unfold hT_find; rw [h9, h]; rfl
theorem hf_find0 {x : hs_E} {f t s k : Int32} (hk : ¬ k < 0) (h : (tHas 12 f && tHas 12 t && !decide (t < f) && sOk s) = true) : hT_find x (-1) (-1) f t s k = 0 := by
  have h9 : (tPat (hs_nA x) (-1) && tPat (hs_nJ x) (-1) && !decide (k < 0)) = true := by rw [hf_pm, hf_pm, decide_eq_false hk]; rfl
  unfold hT_find; rw [h9, h]; rfl
theorem hn_dlo {n : Nat} {d : Int32} (h : d < 0) : dOk n d = false := by simp [dOk, h]
theorem hn_dmax {n : Nat} (h : n ≤ 1000) : dOk n 2147483647 = false := by
  have h2 : ¬ (2147483647 : Int32) ≤ nI n := fun h9 => by
    have := (nI_leI (a := 2147483647) (b := n) (by decide) (by omega)).mp h9
    omega
  simp [dOk, h2]
theorem hn_d1 {n : Nat} (h : n ≤ 1000) : dOk n (nI (n + 1)) = false := by
  have h2 : ¬ nI (n + 1) ≤ nI n := fun h9 => by
    have := (nI_leI (by omega) (by omega)).mp h9
    omega
  simp [dOk, h2]
set_option maxHeartbeats 4000000 in
set_option maxRecDepth 100000 in
theorem sg_refuses_0 {p : Program} {l : Launch} (hl0 : l.stackTraces = false) {e : Env} {s : State} {m : MethodId} {below : List Frame} {meth : Method} {c : Code} {G : bG} {args : Array Value} {Q : State → Prop} (X : CallFix p m c cL_refuses 17 s args wsL_refuses RL) (E : bE G vwCl bNW bSW s) {a : Nat → Nat} (Z9 : bZ (hs_M a) s) (hm9 : ∀ q ∈ hs_M a, Aw (hs_M a) s.heap.size q) {x : hs_E} {i : hs_I} {H : Heap} {locs : List Loc} {ls : Array Slot} (hI : hs_Inv x i) (w : bSt G vwCl (hs_M a) s (hs_W G a x i) H locs) (hl : lv_has ls 17 [(0, .ref (a 0)), (1, .int (nI (hs_nA x))), (2, .int (nI (hs_nJ x))), (3, .int (nI (hs_td x)))])
    (kk : ∀ (i : hs_I) (H : Heap) (locs : List Loc) (ls : Array Slot), hs_Inv x i → bSt G vwCl (hs_M a) s (hs_W G a x i) H locs → lv_has ls 17 [(0, .ref (a 0)), (1, .int (nI (hs_nA x))), (2, .int (nI (hs_nJ x))), (3, .int (nI (hs_td x))), (4, .int 2147483647), (5, .int (hV_hidden x (nI 5))), (6, .int (hV_find x (-1) (-1) (nI 0) (nI 11) (nI 0) (nI 0))), (7, .int (nI 0))] → W p l e ({ frames := 9, cells := 324, slots := 1944, locals := 201 }) s m args below meth c H locs 4 24 Q (F0 m 27 ls [])) : W p l e ({ frames := 9, cells := 324, slots := 1944, locals := 201 }) s m args below meth c H locs 0 0 Q (F0 m 0 ls []) := by
  have hx := X.1
  have hb := X.2.1
  have hml := X.2.2.1
  have hown := X.2.2.2.1
  have hts := X.2.2.2.2
  obtain ⟨⟨hnA, hnJ, hTA, hTJ, htd, hst, hbs, hjd, hdn⟩, hbk, hdr, hK⟩ := id hI
  refine lv_ldc (v := 2147483647) hx hb hown (hts (.constant RL 75 (2147483647)) (by decide +kernel)) dL_refuses_0 ?_
  refine lv_istore (lv' := [(4, .int 2147483647), (0, .ref (a 0)), (1, .int (nI (hs_nA x))), (2, .int (nI (hs_nJ x))), (3, .int (nI (hs_td x)))]) hx hb dL_refuses_2 hl (by decide) rfl (fun ls hl => ?_)
  refine lv_aload_n hx hb dL_refuses_4 rfl (lv_at hl 1 rfl) ?_
  refine lv_iconst (v := nI 5) hx hb dL_refuses_5 (by decide) ?_
  refine hs_calli w (va_runV (As := [.int (nI 5)]) (rest := []) X (n_hidden l hl0 G _ a _ _ _ _ hI (nI 5) ⟨(show hs_t1 1 (tHas 12 (nI 5)) = 0 from by decide), rfl, rfl⟩) (cwV 1 hts gL_refuses_X5_hidden rfl rfl rfl (by decide +kernel) ⟨Nat.le_of_ble_eq_true rfl, Nat.le_of_ble_eq_true rfl⟩) ⟨b_blind, hs_recv E w, fun U9 hU9 hW9 => ⟨rfl, hs_pre E Z9 w hm9 U9 hU9 hW9⟩⟩ rfl rfl hl.1 rfl (lv_room (Nat.le_of_ble_eq_true rfl)) dL_refuses_6 ⟨Nat.le_of_ble_eq_true rfl, Nat.le_of_ble_eq_true rfl⟩) hm9 (fun r i H locs hr w => ?_)
  obtain ⟨hI, hr9, -⟩ := hr
  refine b_tp hr9 ?_
  refine lv_istore (lv' := [(5, .int (hV_hidden x (nI 5))), (4, .int 2147483647), (0, .ref (a 0)), (1, .int (nI (hs_nA x))), (2, .int (nI (hs_nJ x))), (3, .int (nI (hs_td x)))]) hx hb dL_refuses_9 hl (by decide) rfl (fun ls hl => ?_)
  refine lv_aload_n hx hb dL_refuses_11 rfl (lv_at hl 2 rfl) ?_
  refine lv_iconst (v := -1) hx hb dL_refuses_12 (by decide) ?_
  refine lv_iconst (v := -1) hx hb dL_refuses_13 (by decide) ?_
  refine lv_iconst (v := nI 0) hx hb dL_refuses_14 (by decide) ?_
  refine lv_bipush (v := nI 11) hx hb dL_refuses_15 (by decide) ?_
  refine lv_iconst (v := nI 0) hx hb dL_refuses_17 (by decide) ?_
  refine lv_iconst (v := nI 0) hx hb dL_refuses_18 (by decide) ?_
  refine hs_calli w (vx_runSW (As := [.ref (a 0), .int (-1), .int (-1), .int (nI 0), .int (nI 11), .int (nI 0), .int (nI 0)]) (rest := []) X (fS l hl0 G _ a _ _ hI (-1) (-1) (nI 0) (nI 11) (nI 0) (nI 0) _ ⟨hf_find0 (by decide) (by decide), rfl, rfl⟩) (vx_cwSW 7 hts gL_refuses_L_find rfl rfl rfl (by decide +kernel) ⟨Nat.le_of_ble_eq_true rfl, Nat.le_of_ble_eq_true rfl⟩) ⟨b_blind, fun U9 hU9 hW9 => ⟨rfl, hs_pre E Z9 w hm9 U9 hU9 hW9⟩⟩ rfl rfl hl.1 rfl (lv_room (Nat.le_of_ble_eq_true rfl)) dL_refuses_19 ⟨Nat.le_of_ble_eq_true rfl, Nat.le_of_ble_eq_true rfl⟩) hm9 (fun r i H locs hr w => ?_)
  obtain ⟨hI, hr9⟩ := hr
  refine b_tp hr9 ?_
  refine lv_istore (lv' := [(6, .int (hV_find x (-1) (-1) (nI 0) (nI 11) (nI 0) (nI 0))), (5, .int (hV_hidden x (nI 5))), (4, .int 2147483647), (0, .ref (a 0)), (1, .int (nI (hs_nA x))), (2, .int (nI (hs_nJ x))), (3, .int (nI (hs_td x)))]) hx hb dL_refuses_22 hl (by decide) rfl (fun ls hl => ?_)
  refine lv_iconst (v := nI 0) hx hb dL_refuses_24 (by decide) ?_
  refine lv_istore (lv' := [(7, .int (nI 0)), (6, .int (hV_find x (-1) (-1) (nI 0) (nI 11) (nI 0) (nI 0))), (5, .int (hV_hidden x (nI 5))), (4, .int 2147483647), (0, .ref (a 0)), (1, .int (nI (hs_nA x))), (2, .int (nI (hs_nJ x))), (3, .int (nI (hs_td x)))]) hx hb dL_refuses_25 hl (by decide) rfl (fun ls hl => ?_)
  exact kk i _ _ _ hI w (lv_sub hl [4, 5, 6, 7, 3, 2, 1, 0] rfl)
set_option maxHeartbeats 4000000 in
set_option maxRecDepth 100000 in
theorem sg_refuses_1 {p : Program} {l : Launch} (hl0 : l.stackTraces = false) {e : Env} {s : State} {m : MethodId} {below : List Frame} {meth : Method} {c : Code} {G : bG} {args : Array Value} {Q : State → Prop} (X : CallFix p m c cL_refuses 17 s args wsL_refuses RL) (E : bE G vwCl bNW bSW s) {a : Nat → Nat} (Z9 : bZ (hs_M a) s) (hm9 : ∀ q ∈ hs_M a, Aw (hs_M a) s.heap.size q) {x : hs_E} {i : hs_I} {H : Heap} {locs : List Loc} {ls : Array Slot} (hI : hs_Inv x i) (w : bSt G vwCl (hs_M a) s (hs_W G a x i) H locs) (hl : lv_has ls 17 [(0, .ref (a 0)), (1, .int (nI (hs_nA x))), (2, .int (nI (hs_nJ x))), (3, .int (nI (hs_td x))), (4, .int 2147483647), (5, .int (hV_hidden x (nI 5))), (6, .int (hV_find x (-1) (-1) (nI 0) (nI 11) (nI 0) (nI 0))), (7, .int (nI 0))])
    (kk : ∀ (i : hs_I) (H : Heap) (locs : List Loc) (ls : Array Slot), hs_Inv x i → bSt G vwCl (hs_M a) s (hs_W G a x i) H locs → lv_has ls 17 [(0, .ref (a 0)), (1, .int (nI (hs_nA x))), (2, .int (nI (hs_nJ x))), (3, .int (nI (hs_td x))), (4, .int 2147483647), (5, .int (hV_hidden x (nI 5))), (6, .int (hV_find x (-1) (-1) (nI 0) (nI 11) (nI 0) (nI 0))), (7, .int (nI 0)), (8, .int (-1)), (9, .int (-1)), (10, .int (-1)), (11, .int (-1)), (12, .int (-1)), (13, .int (-1)), (14, .int (-2147483648)), (15, .int (nI 1)), (16, .int (nI 9))] → W p l e ({ frames := 9, cells := 324, slots := 1944, locals := 201 }) s m args below meth c H locs 42 252 Q (F0 m 506 ls [])) : W p l e ({ frames := 9, cells := 324, slots := 1944, locals := 201 }) s m args below meth c H locs 4 24 Q (F0 m 27 ls []) := by
  have hx := X.1
  have hb := X.2.1
  have hml := X.2.2.1
  have hown := X.2.2.2.1
  have hts := X.2.2.2.2
  obtain ⟨⟨hnA, hnJ, hTA, hTJ, htd, hst, hbs, hjd, hdn⟩, hbk, hdr, hK⟩ := id hI
  refine lv_iload hx hb dL_refuses_27 (lv_at hl 7 rfl) ?_
  refine lv_iconst (v := nI 4) hx hb dL_refuses_29 (by decide) ?_
  refine lv_icmp_ge (tgt := 822) hx hb dL_refuses_30 (by decide) (fun c9 => absurd c9 (by decide)) (fun c9 => ?_)
  refine lv_iload hx hb dL_refuses_33 (lv_at hl 7 rfl) ?_
  refine lv_if_ne (tgt := 42) hx hb dL_refuses_35 (by decide) (fun c9 => absurd rfl c9) (fun c9 => ?_)
  refine lv_iconst (v := -1) hx hb dL_refuses_38 (by decide) ?_
  refine lv_goto (tgt := 58) hx hb dL_refuses_39 (by decide) ?_
  refine lv_istore (lv' := [(8, .int (-1)), (0, .ref (a 0)), (1, .int (nI (hs_nA x))), (2, .int (nI (hs_nJ x))), (3, .int (nI (hs_td x))), (4, .int 2147483647), (5, .int (hV_hidden x (nI 5))), (6, .int (hV_find x (-1) (-1) (nI 0) (nI 11) (nI 0) (nI 0))), (7, .int (nI 0))]) hx hb dL_refuses_58 hl (by decide) rfl (fun ls hl => ?_)
  refine lv_iload hx hb dL_refuses_60 (lv_at hl 8 rfl) ?_
  refine lv_iconst (v := nI 1) hx hb dL_refuses_62 (by decide) ?_
  refine lv_icmp_ne (tgt := 70) hx hb dL_refuses_63 (by decide) (fun c9 => ?_) (fun c9 => absurd c9 (by decide))
  refine lv_iload hx hb dL_refuses_70 (lv_at hl 0 rfl) ?_
  refine lv_istore (lv' := [(9, .int (-1)), (8, .int (-1)), (0, .ref (a 0)), (1, .int (nI (hs_nA x))), (2, .int (nI (hs_nJ x))), (3, .int (nI (hs_td x))), (4, .int 2147483647), (5, .int (hV_hidden x (nI 5))), (6, .int (hV_find x (-1) (-1) (nI 0) (nI 11) (nI 0) (nI 0))), (7, .int (nI 0))]) hx hb dL_refuses_72 hl (by decide) rfl (fun ls hl => ?_)
  refine lv_iload hx hb dL_refuses_74 (lv_at hl 9 rfl) ?_
  refine lv_iconst (v := nI 1) hx hb dL_refuses_76 (by decide) ?_
  refine lv_icmp_ne (tgt := 84) hx hb dL_refuses_77 (by decide) (fun c9 => ?_) (fun c9 => absurd c9 (by decide))
  refine lv_iload hx hb dL_refuses_84 (lv_at hl 1 rfl) ?_
  refine lv_istore (lv' := [(10, .int (-1)), (9, .int (-1)), (8, .int (-1)), (0, .ref (a 0)), (1, .int (nI (hs_nA x))), (2, .int (nI (hs_nJ x))), (3, .int (nI (hs_td x))), (4, .int 2147483647), (5, .int (hV_hidden x (nI 5))), (6, .int (hV_find x (-1) (-1) (nI 0) (nI 11) (nI 0) (nI 0))), (7, .int (nI 0))]) hx hb dL_refuses_86 hl (by decide) rfl (fun ls hl => ?_)
  refine lv_iload hx hb dL_refuses_88 (lv_at hl 10 rfl) ?_
  refine lv_iconst (v := nI 1) hx hb dL_refuses_90 (by decide) ?_
  refine lv_icmp_ne (tgt := 99) hx hb dL_refuses_91 (by decide) (fun c9 => ?_) (fun c9 => absurd c9 (by decide))
  refine lv_iload hx hb dL_refuses_99 (lv_at hl 2 rfl) ?_
  refine lv_istore (lv' := [(11, .int (-1)), (10, .int (-1)), (9, .int (-1)), (8, .int (-1)), (0, .ref (a 0)), (1, .int (nI (hs_nA x))), (2, .int (nI (hs_nJ x))), (3, .int (nI (hs_td x))), (4, .int 2147483647), (5, .int (hV_hidden x (nI 5))), (6, .int (hV_find x (-1) (-1) (nI 0) (nI 11) (nI 0) (nI 0))), (7, .int (nI 0))]) hx hb dL_refuses_101 hl (by decide) rfl (fun ls hl => ?_)
  refine lv_iload hx hb dL_refuses_103 (lv_at hl 11 rfl) ?_
  refine lv_iconst (v := nI 1) hx hb dL_refuses_105 (by decide) ?_
  refine lv_icmp_ne (tgt := 113) hx hb dL_refuses_106 (by decide) (fun c9 => ?_) (fun c9 => absurd c9 (by decide))
  refine lv_iload hx hb dL_refuses_113 (lv_at hl 3 rfl) ?_
  refine lv_istore (lv' := [(12, .int (-1)), (11, .int (-1)), (10, .int (-1)), (9, .int (-1)), (8, .int (-1)), (0, .ref (a 0)), (1, .int (nI (hs_nA x))), (2, .int (nI (hs_nJ x))), (3, .int (nI (hs_td x))), (4, .int 2147483647), (5, .int (hV_hidden x (nI 5))), (6, .int (hV_find x (-1) (-1) (nI 0) (nI 11) (nI 0) (nI 0))), (7, .int (nI 0))]) hx hb dL_refuses_115 hl (by decide) rfl (fun ls hl => ?_)
  refine lv_iload hx hb dL_refuses_117 (lv_at hl 12 rfl) ?_
  refine lv_iconst (v := nI 1) hx hb dL_refuses_119 (by decide) ?_
  refine lv_icmp_ne (tgt := 127) hx hb dL_refuses_120 (by decide) (fun c9 => ?_) (fun c9 => absurd c9 (by decide))
  refine lv_iload hx hb dL_refuses_127 (lv_at hl 4 rfl) ?_
  refine lv_istore (lv' := [(13, .int (-1)), (12, .int (-1)), (11, .int (-1)), (10, .int (-1)), (9, .int (-1)), (8, .int (-1)), (0, .ref (a 0)), (1, .int (nI (hs_nA x))), (2, .int (nI (hs_nJ x))), (3, .int (nI (hs_td x))), (4, .int 2147483647), (5, .int (hV_hidden x (nI 5))), (6, .int (hV_find x (-1) (-1) (nI 0) (nI 11) (nI 0) (nI 0))), (7, .int (nI 0))]) hx hb dL_refuses_129 hl (by decide) rfl (fun ls hl => ?_)
  refine lv_iload hx hb dL_refuses_131 (lv_at hl 13 rfl) ?_
  refine lv_iconst (v := nI 2) hx hb dL_refuses_133 (by decide) ?_
  refine lv_icmp_ne (tgt := 141) hx hb dL_refuses_134 (by decide) (fun c9 => ?_) (fun c9 => absurd c9 (by decide))
  refine lv_iload hx hb dL_refuses_141 (lv_at hl 13 rfl) ?_
  refine lv_iconst (v := nI 1) hx hb dL_refuses_143 (by decide) ?_
  refine lv_icmp_ne (tgt := 152) hx hb dL_refuses_144 (by decide) (fun c9 => ?_) (fun c9 => absurd c9 (by decide))
  refine lv_iload hx hb dL_refuses_152 (lv_at hl 10 rfl) ?_
  refine lv_ineg hx hb dL_refuses_154 ?_
  refine b_tp (show -2147483647 = -2147483647 from by decide) ?_
  refine lv_iconst (v := nI 1) hx hb dL_refuses_155 (by decide) ?_
  refine lv_isub hx hb dL_refuses_156 ?_
  refine b_tp (show (-2147483647) - (nI 1) = -2147483648 from by decide) ?_
  refine lv_istore (lv' := [(14, .int (-2147483648)), (13, .int (-1)), (12, .int (-1)), (11, .int (-1)), (10, .int (-1)), (9, .int (-1)), (8, .int (-1)), (0, .ref (a 0)), (1, .int (nI (hs_nA x))), (2, .int (nI (hs_nJ x))), (3, .int (nI (hs_td x))), (4, .int 2147483647), (5, .int (hV_hidden x (nI 5))), (6, .int (hV_find x (-1) (-1) (nI 0) (nI 11) (nI 0) (nI 0))), (7, .int (nI 0))]) hx hb dL_refuses_157 hl (by decide) rfl (fun ls hl => ?_)
  refine lv_aload_n hx hb dL_refuses_159 rfl (lv_at hl 7 rfl) ?_
  refine lv_iconst (v := nI 0) hx hb dL_refuses_160 (by decide) ?_
  refine lv_iload hx hb dL_refuses_161 (lv_at hl 14 rfl) ?_
  refine lv_if_ne (tgt := 171) hx hb dL_refuses_163 (by decide) (fun c9 => absurd rfl c9) (fun c9 => ?_)
  refine lv_bipush (v := -2) hx hb dL_refuses_166 (by decide) ?_
  refine lv_goto (tgt := 173) hx hb dL_refuses_168 (by decide) ?_
  refine lv_iconst (v := nI 0) hx hb dL_refuses_173 (by decide) ?_
  refine lv_iconst (v := nI 0) hx hb dL_refuses_174 (by decide) ?_
  refine lv_iconst (v := nI 0) hx hb dL_refuses_175 (by decide) ?_
  refine lv_iconst (v := nI 0) hx hb dL_refuses_176 (by decide) ?_
  refine hs_calli w (vx_runSW (As := [.ref (a 0), .int (nI 0), .int (-2), .int (nI 0), .int (nI 0), .int (nI 0), .int (nI 0)]) (rest := []) X (aF_area l hl0 G _ a _ _ hI (-2) (nI 0) (nI 0) (nI 0) (nI 0) 1 (hf_area (hn_pat (tHas_lo (by decide)) (by decide))) (by decide)) (vx_cwSW 7 hts gL_refuses_L_act rfl rfl rfl (by decide +kernel) ⟨Nat.le_of_ble_eq_true rfl, Nat.le_of_ble_eq_true rfl⟩) ⟨b_blind, fun U9 hU9 hW9 => ⟨rfl, hs_pre E Z9 w hm9 U9 hU9 hW9⟩⟩ rfl rfl hl.1 rfl (lv_room (Nat.le_of_ble_eq_true rfl)) dL_refuses_177 ⟨Nat.le_of_ble_eq_true rfl, Nat.le_of_ble_eq_true rfl⟩) hm9 (fun r i H locs hr w => ?_)
  obtain ⟨hI, hr9⟩ := hr
  refine b_tp (hr9.trans (show hs_r 1 = -71 from by decide)) ?_
  refine lv_bipush (v := -71) hx hb dL_refuses_180 (by decide) ?_
  refine lv_icmp_ne (tgt := 429) hx hb dL_refuses_182 (by decide) (fun c9 => absurd rfl c9) (fun c9 => ?_)
  refine lv_aload_n hx hb dL_refuses_185 rfl (lv_at hl 7 rfl) ?_
  refine lv_iconst (v := nI 1) hx hb dL_refuses_186 (by decide) ?_
  refine lv_iload hx hb dL_refuses_187 (lv_at hl 14 rfl) ?_
  refine lv_if_ne (tgt := 197) hx hb dL_refuses_189 (by decide) (fun c9 => absurd rfl c9) (fun c9 => ?_)
  refine lv_bipush (v := -2) hx hb dL_refuses_192 (by decide) ?_
  refine lv_goto (tgt := 199) hx hb dL_refuses_194 (by decide) ?_
  refine lv_iconst (v := nI 0) hx hb dL_refuses_199 (by decide) ?_
  refine lv_iconst (v := nI 0) hx hb dL_refuses_200 (by decide) ?_
  refine lv_iconst (v := nI 0) hx hb dL_refuses_201 (by decide) ?_
  refine lv_iconst (v := nI 0) hx hb dL_refuses_202 (by decide) ?_
  refine hs_calli w (vx_runSW (As := [.ref (a 0), .int (nI 1), .int (-2), .int (nI 0), .int (nI 0), .int (nI 0), .int (nI 0)]) (rest := []) X (aF_item l hl0 G _ a _ _ hI (-2) (nI 0) (nI 0) (nI 0) (nI 0) 1 (hf_item (hn_pat (tHas_lo (by decide)) (by decide))) (by decide)) (vx_cwSW 7 hts gL_refuses_L_act rfl rfl rfl (by decide +kernel) ⟨Nat.le_of_ble_eq_true rfl, Nat.le_of_ble_eq_true rfl⟩) ⟨b_blind, fun U9 hU9 hW9 => ⟨rfl, hs_pre E Z9 w hm9 U9 hU9 hW9⟩⟩ rfl rfl hl.1 rfl (lv_room (Nat.le_of_ble_eq_true rfl)) dL_refuses_203 ⟨Nat.le_of_ble_eq_true rfl, Nat.le_of_ble_eq_true rfl⟩) hm9 (fun r i H locs hr w => ?_)
  obtain ⟨hI, hr9⟩ := hr
  refine b_tp (hr9.trans (show hs_r 1 = -71 from by decide)) ?_
  refine lv_bipush (v := -71) hx hb dL_refuses_206 (by decide) ?_
  refine lv_icmp_ne (tgt := 429) hx hb dL_refuses_208 (by decide) (fun c9 => absurd rfl c9) (fun c9 => ?_)
  refine lv_aload_n hx hb dL_refuses_211 rfl (lv_at hl 7 rfl) ?_
  refine lv_iconst (v := nI 2) hx hb dL_refuses_212 (by decide) ?_
  refine lv_iload hx hb dL_refuses_213 (lv_at hl 2 rfl) ?_
  refine lv_iconst (v := nI 0) hx hb dL_refuses_215 (by decide) ?_
  refine lv_iconst (v := nI 0) hx hb dL_refuses_216 (by decide) ?_
  refine lv_iconst (v := nI 0) hx hb dL_refuses_217 (by decide) ?_
  refine lv_iconst (v := nI 0) hx hb dL_refuses_218 (by decide) ?_
  refine hs_calli w (vx_runSW (As := [.ref (a 0), .int (nI 2), .int (-1), .int (nI 0), .int (nI 0), .int (nI 0), .int (nI 0)]) (rest := []) X (aF_agree l hl0 G _ a _ _ hI (-1) (nI 0) (nI 0) (nI 0) 1 (hf_agree1 (by decide)) (by decide)) (vx_cwSW 7 hts gL_refuses_L_act rfl rfl rfl (by decide +kernel) ⟨Nat.le_of_ble_eq_true rfl, Nat.le_of_ble_eq_true rfl⟩) ⟨b_blind, fun U9 hU9 hW9 => ⟨rfl, hs_pre E Z9 w hm9 U9 hU9 hW9⟩⟩ rfl rfl hl.1 rfl (lv_room (Nat.le_of_ble_eq_true rfl)) dL_refuses_219 ⟨Nat.le_of_ble_eq_true rfl, Nat.le_of_ble_eq_true rfl⟩) hm9 (fun r i H locs hr w => ?_)
  obtain ⟨hI, hr9⟩ := hr
  refine b_tp (hr9.trans (show hs_r 1 = -71 from by decide)) ?_
  refine lv_bipush (v := -71) hx hb dL_refuses_222 (by decide) ?_
  refine lv_icmp_ne (tgt := 429) hx hb dL_refuses_224 (by decide) (fun c9 => absurd rfl c9) (fun c9 => ?_)
  refine lv_aload_n hx hb dL_refuses_227 rfl (lv_at hl 7 rfl) ?_
  refine lv_iconst (v := nI 2) hx hb dL_refuses_228 (by decide) ?_
  refine lv_iconst (v := nI 0) hx hb dL_refuses_229 (by decide) ?_
  refine lv_iload hx hb dL_refuses_230 (lv_at hl 5 rfl) ?_
  refine lv_iconst (v := nI 0) hx hb dL_refuses_232 (by decide) ?_
  refine lv_iconst (v := nI 0) hx hb dL_refuses_233 (by decide) ?_
  refine lv_iconst (v := nI 0) hx hb dL_refuses_234 (by decide) ?_
  refine hs_calli w (vx_runSW (As := [.ref (a 0), .int (nI 2), .int (nI 0), .int (-1), .int (nI 0), .int (nI 0), .int (nI 0)]) (rest := []) X (aF_agree l hl0 G _ a _ _ hI (nI 0) (-1) (nI 0) (nI 0) 1 (hf_agree2 tHas_m1) (by decide)) (vx_cwSW 7 hts gL_refuses_L_act rfl rfl rfl (by decide +kernel) ⟨Nat.le_of_ble_eq_true rfl, Nat.le_of_ble_eq_true rfl⟩) ⟨b_blind, fun U9 hU9 hW9 => ⟨rfl, hs_pre E Z9 w hm9 U9 hU9 hW9⟩⟩ rfl rfl hl.1 rfl (lv_room (Nat.le_of_ble_eq_true rfl)) dL_refuses_235 ⟨Nat.le_of_ble_eq_true rfl, Nat.le_of_ble_eq_true rfl⟩) hm9 (fun r i H locs hr w => ?_)
  obtain ⟨hI, hr9⟩ := hr
  refine b_tp (hr9.trans (show hs_r 1 = -71 from by decide)) ?_
  refine lv_bipush (v := -71) hx hb dL_refuses_238 (by decide) ?_
  refine lv_icmp_ne (tgt := 429) hx hb dL_refuses_240 (by decide) (fun c9 => absurd rfl c9) (fun c9 => ?_)
  refine lv_aload_n hx hb dL_refuses_243 rfl (lv_at hl 7 rfl) ?_
  refine lv_iconst (v := nI 3) hx hb dL_refuses_244 (by decide) ?_
  refine lv_bipush (v := nI 9) hx hb dL_refuses_245 (by decide) ?_
  refine lv_iload hx hb dL_refuses_247 (lv_at hl 5 rfl) ?_
  refine lv_iconst (v := nI 0) hx hb dL_refuses_249 (by decide) ?_
  refine lv_iconst (v := nI 0) hx hb dL_refuses_250 (by decide) ?_
  refine lv_iconst (v := nI 0) hx hb dL_refuses_251 (by decide) ?_
  refine hs_calli w (vx_runSW (As := [.ref (a 0), .int (nI 3), .int (nI 9), .int (-1), .int (nI 0), .int (nI 0), .int (nI 0)]) (rest := []) X (aF_put l hl0 G _ a _ _ hI (nI 9) (-1) (nI 0) (nI 0) (nI 0) 1 (hf_put1 (hf_okA tHas_m1)) (by decide)) (vx_cwSW 7 hts gL_refuses_L_act rfl rfl rfl (by decide +kernel) ⟨Nat.le_of_ble_eq_true rfl, Nat.le_of_ble_eq_true rfl⟩) ⟨b_blind, fun U9 hU9 hW9 => ⟨rfl, hs_pre E Z9 w hm9 U9 hU9 hW9⟩⟩ rfl rfl hl.1 rfl (lv_room (Nat.le_of_ble_eq_true rfl)) dL_refuses_252 ⟨Nat.le_of_ble_eq_true rfl, Nat.le_of_ble_eq_true rfl⟩) hm9 (fun r i H locs hr w => ?_)
  obtain ⟨hI, hr9⟩ := hr
  refine b_tp (hr9.trans (show hs_r 1 = -71 from by decide)) ?_
  refine lv_bipush (v := -71) hx hb dL_refuses_255 (by decide) ?_
  refine lv_icmp_ne (tgt := 429) hx hb dL_refuses_257 (by decide) (fun c9 => absurd rfl c9) (fun c9 => ?_)
  refine lv_aload_n hx hb dL_refuses_260 rfl (lv_at hl 7 rfl) ?_
  refine lv_iconst (v := nI 3) hx hb dL_refuses_261 (by decide) ?_
  refine lv_bipush (v := nI 9) hx hb dL_refuses_262 (by decide) ?_
  refine lv_iconst (v := nI 0) hx hb dL_refuses_264 (by decide) ?_
  refine lv_iload hx hb dL_refuses_265 (lv_at hl 4 rfl) ?_
  refine lv_iconst (v := nI 0) hx hb dL_refuses_267 (by decide) ?_
  refine lv_iconst (v := nI 0) hx hb dL_refuses_268 (by decide) ?_
  refine hs_calli w (vx_runSW (As := [.ref (a 0), .int (nI 3), .int (nI 9), .int (nI 0), .int (-1), .int (nI 0), .int (nI 0)]) (rest := []) X (aF_put l hl0 G _ a _ _ hI (nI 9) (nI 0) (-1) (nI 0) (nI 0) 1 (hf_put1 (hf_okJ tHas_m1)) (by decide)) (vx_cwSW 7 hts gL_refuses_L_act rfl rfl rfl (by decide +kernel) ⟨Nat.le_of_ble_eq_true rfl, Nat.le_of_ble_eq_true rfl⟩) ⟨b_blind, fun U9 hU9 hW9 => ⟨rfl, hs_pre E Z9 w hm9 U9 hU9 hW9⟩⟩ rfl rfl hl.1 rfl (lv_room (Nat.le_of_ble_eq_true rfl)) dL_refuses_269 ⟨Nat.le_of_ble_eq_true rfl, Nat.le_of_ble_eq_true rfl⟩) hm9 (fun r i H locs hr w => ?_)
  obtain ⟨hI, hr9⟩ := hr
  refine b_tp (hr9.trans (show hs_r 1 = -71 from by decide)) ?_
  refine lv_bipush (v := -71) hx hb dL_refuses_272 (by decide) ?_
  refine lv_icmp_ne (tgt := 429) hx hb dL_refuses_274 (by decide) (fun c9 => absurd rfl c9) (fun c9 => ?_)
  refine lv_aload_n hx hb dL_refuses_277 rfl (lv_at hl 7 rfl) ?_
  refine lv_iconst (v := nI 3) hx hb dL_refuses_278 (by decide) ?_
  refine lv_bipush (v := nI 9) hx hb dL_refuses_279 (by decide) ?_
  refine lv_iconst (v := nI 0) hx hb dL_refuses_281 (by decide) ?_
  refine lv_iconst (v := nI 0) hx hb dL_refuses_282 (by decide) ?_
  refine lv_iload hx hb dL_refuses_283 (lv_at hl 3 rfl) ?_
  refine lv_iconst (v := nI 0) hx hb dL_refuses_285 (by decide) ?_
  refine hs_calli w (vx_runSW (As := [.ref (a 0), .int (nI 3), .int (nI 9), .int (nI 0), .int (nI 0), .int (-1), .int (nI 0)]) (rest := []) X (aF_put l hl0 G _ a _ _ hI (nI 9) (nI 0) (nI 0) (-1) (nI 0) 1 (hf_put1 (hf_okP (by decide))) (by decide)) (vx_cwSW 7 hts gL_refuses_L_act rfl rfl rfl (by decide +kernel) ⟨Nat.le_of_ble_eq_true rfl, Nat.le_of_ble_eq_true rfl⟩) ⟨b_blind, fun U9 hU9 hW9 => ⟨rfl, hs_pre E Z9 w hm9 U9 hU9 hW9⟩⟩ rfl rfl hl.1 rfl (lv_room (Nat.le_of_ble_eq_true rfl)) dL_refuses_286 ⟨Nat.le_of_ble_eq_true rfl, Nat.le_of_ble_eq_true rfl⟩) hm9 (fun r i H locs hr w => ?_)
  obtain ⟨hI, hr9⟩ := hr
  refine b_tp (hr9.trans (show hs_r 1 = -71 from by decide)) ?_
  refine lv_bipush (v := -71) hx hb dL_refuses_289 (by decide) ?_
  refine lv_icmp_ne (tgt := 429) hx hb dL_refuses_291 (by decide) (fun c9 => absurd rfl c9) (fun c9 => ?_)
  refine lv_aload_n hx hb dL_refuses_294 rfl (lv_at hl 7 rfl) ?_
  refine lv_iconst (v := nI 4) hx hb dL_refuses_295 (by decide) ?_
  refine lv_iload hx hb dL_refuses_296 (lv_at hl 2 rfl) ?_
  refine lv_iconst (v := nI 0) hx hb dL_refuses_298 (by decide) ?_
  refine lv_iconst (v := nI 0) hx hb dL_refuses_299 (by decide) ?_
  refine lv_iconst (v := nI 0) hx hb dL_refuses_300 (by decide) ?_
  refine lv_iconst (v := nI 0) hx hb dL_refuses_301 (by decide) ?_
  refine hs_calli w (vx_runSW (As := [.ref (a 0), .int (nI 4), .int (-1), .int (nI 0), .int (nI 0), .int (nI 0), .int (nI 0)]) (rest := []) X (aF_send l hl0 G _ a _ _ hI (-1) (nI 0) (nI 0) (nI 0) (nI 0) 1 (hf_send1 (by decide)) (by decide)) (vx_cwSW 7 hts gL_refuses_L_act rfl rfl rfl (by decide +kernel) ⟨Nat.le_of_ble_eq_true rfl, Nat.le_of_ble_eq_true rfl⟩) ⟨b_blind, fun U9 hU9 hW9 => ⟨rfl, hs_pre E Z9 w hm9 U9 hU9 hW9⟩⟩ rfl rfl hl.1 rfl (lv_room (Nat.le_of_ble_eq_true rfl)) dL_refuses_302 ⟨Nat.le_of_ble_eq_true rfl, Nat.le_of_ble_eq_true rfl⟩) hm9 (fun r i H locs hr w => ?_)
  obtain ⟨hI, hr9⟩ := hr
  refine b_tp (hr9.trans (show hs_r 1 = -71 from by decide)) ?_
  refine lv_bipush (v := -71) hx hb dL_refuses_305 (by decide) ?_
  refine lv_icmp_ne (tgt := 429) hx hb dL_refuses_307 (by decide) (fun c9 => absurd rfl c9) (fun c9 => ?_)
  refine lv_aload_n hx hb dL_refuses_310 rfl (lv_at hl 7 rfl) ?_
  refine lv_iconst (v := nI 5) hx hb dL_refuses_311 (by decide) ?_
  refine lv_iload hx hb dL_refuses_312 (lv_at hl 14 rfl) ?_
  refine lv_iconst (v := nI 1) hx hb dL_refuses_314 (by decide) ?_
  refine lv_icmp_ne (tgt := 323) hx hb dL_refuses_315 (by decide) (fun c9 => ?_) (fun c9 => absurd c9 (by decide))
  refine lv_iload hx hb dL_refuses_323 (lv_at hl 6 rfl) ?_
  refine lv_iconst (v := nI 0) hx hb dL_refuses_325 (by decide) ?_
  refine lv_iconst (v := nI 0) hx hb dL_refuses_326 (by decide) ?_
  refine lv_iconst (v := nI 0) hx hb dL_refuses_327 (by decide) ?_
  refine lv_iconst (v := nI 0) hx hb dL_refuses_328 (by decide) ?_
  refine hs_calli w (vx_runSW (As := [.ref (a 0), .int (nI 5), .int (-1), .int (nI 0), .int (nI 0), .int (nI 0), .int (nI 0)]) (rest := []) X (aF_refusal l hl0 G _ a _ _ hI (-1) (nI 0) (nI 0) (nI 0) (nI 0) 1 (hf_refusal tHas_m1) (by decide)) (vx_cwSW 7 hts gL_refuses_L_act rfl rfl rfl (by decide +kernel) ⟨Nat.le_of_ble_eq_true rfl, Nat.le_of_ble_eq_true rfl⟩) ⟨b_blind, fun U9 hU9 hW9 => ⟨rfl, hs_pre E Z9 w hm9 U9 hU9 hW9⟩⟩ rfl rfl hl.1 rfl (lv_room (Nat.le_of_ble_eq_true rfl)) dL_refuses_329 ⟨Nat.le_of_ble_eq_true rfl, Nat.le_of_ble_eq_true rfl⟩) hm9 (fun r i H locs hr w => ?_)
  obtain ⟨hI, hr9⟩ := hr
  refine b_tp (hr9.trans (show hs_r 1 = -71 from by decide)) ?_
  refine lv_bipush (v := -71) hx hb dL_refuses_332 (by decide) ?_
  refine lv_icmp_ne (tgt := 429) hx hb dL_refuses_334 (by decide) (fun c9 => absurd rfl c9) (fun c9 => ?_)
  refine lv_aload_n hx hb dL_refuses_337 rfl (lv_at hl 7 rfl) ?_
  refine lv_bipush (v := nI 7) hx hb dL_refuses_338 (by decide) ?_
  refine lv_iload hx hb dL_refuses_340 (lv_at hl 14 rfl) ?_
  refine lv_if_ne (tgt := 349) hx hb dL_refuses_342 (by decide) (fun c9 => absurd rfl c9) (fun c9 => ?_)
  refine lv_iconst (v := nI 0) hx hb dL_refuses_345 (by decide) ?_
  refine lv_goto (tgt := 362) hx hb dL_refuses_346 (by decide) ?_
  refine lv_iconst (v := nI 0) hx hb dL_refuses_362 (by decide) ?_
  refine lv_iconst (v := nI 0) hx hb dL_refuses_363 (by decide) ?_
  refine lv_iconst (v := nI 0) hx hb dL_refuses_364 (by decide) ?_
  refine lv_iconst (v := nI 0) hx hb dL_refuses_365 (by decide) ?_
  refine hs_calli w (vx_runSW (As := [.ref (a 0), .int (nI 7), .int (nI 0), .int (nI 0), .int (nI 0), .int (nI 0), .int (nI 0)]) (rest := []) X (aF_pass l hl0 G _ a _ _ hI (nI 0) (nI 0) (nI 0) (nI 0) (nI 0) 2 (hf_pass (by decide)) (by decide)) (vx_cwSW 7 hts gL_refuses_L_act rfl rfl rfl (by decide +kernel) ⟨Nat.le_of_ble_eq_true rfl, Nat.le_of_ble_eq_true rfl⟩) ⟨b_blind, fun U9 hU9 hW9 => ⟨rfl, hs_pre E Z9 w hm9 U9 hU9 hW9⟩⟩ rfl rfl hl.1 rfl (lv_room (Nat.le_of_ble_eq_true rfl)) dL_refuses_366 ⟨Nat.le_of_ble_eq_true rfl, Nat.le_of_ble_eq_true rfl⟩) hm9 (fun r i H locs hr w => ?_)
  obtain ⟨hI, hr9⟩ := hr
  refine b_tp (hr9.trans (show hs_r 2 = -72 from by decide)) ?_
  refine lv_bipush (v := -72) hx hb dL_refuses_369 (by decide) ?_
  refine lv_icmp_ne (tgt := 429) hx hb dL_refuses_371 (by decide) (fun c9 => absurd rfl c9) (fun c9 => ?_)
  refine lv_aload_n hx hb dL_refuses_374 rfl (lv_at hl 7 rfl) ?_
  refine lv_bipush (v := nI 14) hx hb dL_refuses_375 (by decide) ?_
  refine lv_iload hx hb dL_refuses_377 (lv_at hl 3 rfl) ?_
  refine lv_iconst (v := nI 0) hx hb dL_refuses_379 (by decide) ?_
  refine lv_iconst (v := nI 0) hx hb dL_refuses_380 (by decide) ?_
  refine lv_iconst (v := nI 0) hx hb dL_refuses_381 (by decide) ?_
  refine lv_iconst (v := nI 0) hx hb dL_refuses_382 (by decide) ?_
  refine hs_calli w (vx_runSW (As := [.ref (a 0), .int (nI 14), .int (-1), .int (nI 0), .int (nI 0), .int (nI 0), .int (nI 0)]) (rest := []) X (aF_hidden l hl0 G _ a _ _ hI (-1) (nI 0) (nI 0) (nI 0) (nI 0) 1 (hf_hidden (by decide)) (by decide)) (vx_cwSW 7 hts gL_refuses_L_act rfl rfl rfl (by decide +kernel) ⟨Nat.le_of_ble_eq_true rfl, Nat.le_of_ble_eq_true rfl⟩) ⟨b_blind, fun U9 hU9 hW9 => ⟨rfl, hs_pre E Z9 w hm9 U9 hU9 hW9⟩⟩ rfl rfl hl.1 rfl (lv_room (Nat.le_of_ble_eq_true rfl)) dL_refuses_383 ⟨Nat.le_of_ble_eq_true rfl, Nat.le_of_ble_eq_true rfl⟩) hm9 (fun r i H locs hr w => ?_)
  obtain ⟨hI, hr9⟩ := hr
  refine b_tp (hr9.trans (show hs_r 1 = -71 from by decide)) ?_
  refine lv_bipush (v := -71) hx hb dL_refuses_386 (by decide) ?_
  refine lv_icmp_ne (tgt := 429) hx hb dL_refuses_388 (by decide) (fun c9 => absurd rfl c9) (fun c9 => ?_)
  refine lv_aload_n hx hb dL_refuses_391 rfl (lv_at hl 7 rfl) ?_
  refine lv_bipush (v := nI 15) hx hb dL_refuses_392 (by decide) ?_
  refine lv_iload hx hb dL_refuses_394 (lv_at hl 2 rfl) ?_
  refine lv_iconst (v := nI 0) hx hb dL_refuses_396 (by decide) ?_
  refine lv_iconst (v := nI 0) hx hb dL_refuses_397 (by decide) ?_
  refine lv_iconst (v := nI 0) hx hb dL_refuses_398 (by decide) ?_
  refine lv_iconst (v := nI 0) hx hb dL_refuses_399 (by decide) ?_
  refine hs_calli w (vx_runSW (As := [.ref (a 0), .int (nI 15), .int (-1), .int (nI 0), .int (nI 0), .int (nI 0), .int (nI 0)]) (rest := []) X (aF_mayTell l hl0 G _ a _ _ hI (-1) (nI 0) (nI 0) (nI 0) (nI 0) 1 (hf_may1 (by decide)) (by decide)) (vx_cwSW 7 hts gL_refuses_L_act rfl rfl rfl (by decide +kernel) ⟨Nat.le_of_ble_eq_true rfl, Nat.le_of_ble_eq_true rfl⟩) ⟨b_blind, fun U9 hU9 hW9 => ⟨rfl, hs_pre E Z9 w hm9 U9 hU9 hW9⟩⟩ rfl rfl hl.1 rfl (lv_room (Nat.le_of_ble_eq_true rfl)) dL_refuses_400 ⟨Nat.le_of_ble_eq_true rfl, Nat.le_of_ble_eq_true rfl⟩) hm9 (fun r i H locs hr w => ?_)
  obtain ⟨hI, hr9⟩ := hr
  refine b_tp (hr9.trans (show hs_r 1 = -71 from by decide)) ?_
  refine lv_bipush (v := -71) hx hb dL_refuses_403 (by decide) ?_
  refine lv_icmp_ne (tgt := 429) hx hb dL_refuses_405 (by decide) (fun c9 => absurd rfl c9) (fun c9 => ?_)
  refine lv_aload_n hx hb dL_refuses_408 rfl (lv_at hl 7 rfl) ?_
  refine lv_bipush (v := nI 15) hx hb dL_refuses_409 (by decide) ?_
  refine lv_iconst (v := nI 0) hx hb dL_refuses_411 (by decide) ?_
  refine lv_iload hx hb dL_refuses_412 (lv_at hl 5 rfl) ?_
  refine lv_iconst (v := nI 0) hx hb dL_refuses_414 (by decide) ?_
  refine lv_iconst (v := nI 0) hx hb dL_refuses_415 (by decide) ?_
  refine lv_iconst (v := nI 0) hx hb dL_refuses_416 (by decide) ?_
  refine hs_calli w (vx_runSW (As := [.ref (a 0), .int (nI 15), .int (nI 0), .int (-1), .int (nI 0), .int (nI 0), .int (nI 0)]) (rest := []) X (aF_mayTell l hl0 G _ a _ _ hI (nI 0) (-1) (nI 0) (nI 0) (nI 0) 1 (hf_may2 tHas_m1) (by decide)) (vx_cwSW 7 hts gL_refuses_L_act rfl rfl rfl (by decide +kernel) ⟨Nat.le_of_ble_eq_true rfl, Nat.le_of_ble_eq_true rfl⟩) ⟨b_blind, fun U9 hU9 hW9 => ⟨rfl, hs_pre E Z9 w hm9 U9 hU9 hW9⟩⟩ rfl rfl hl.1 rfl (lv_room (Nat.le_of_ble_eq_true rfl)) dL_refuses_417 ⟨Nat.le_of_ble_eq_true rfl, Nat.le_of_ble_eq_true rfl⟩) hm9 (fun r i H locs hr w => ?_)
  obtain ⟨hI, hr9⟩ := hr
  refine b_tp (hr9.trans (show hs_r 1 = -71 from by decide)) ?_
  refine lv_bipush (v := -71) hx hb dL_refuses_420 (by decide) ?_
  refine lv_icmp_ne (tgt := 429) hx hb dL_refuses_422 (by decide) (fun c9 => absurd rfl c9) (fun c9 => ?_)
  refine lv_iconst (v := nI 1) hx hb dL_refuses_425 (by decide) ?_
  refine lv_goto (tgt := 430) hx hb dL_refuses_426 (by decide) ?_
  refine lv_istore (lv' := [(15, .int (nI 1)), (14, .int (-2147483648)), (13, .int (-1)), (12, .int (-1)), (11, .int (-1)), (10, .int (-1)), (9, .int (-1)), (8, .int (-1)), (0, .ref (a 0)), (1, .int (nI (hs_nA x))), (2, .int (nI (hs_nJ x))), (3, .int (nI (hs_td x))), (4, .int 2147483647), (5, .int (hV_hidden x (nI 5))), (6, .int (hV_find x (-1) (-1) (nI 0) (nI 11) (nI 0) (nI 0))), (7, .int (nI 0))]) hx hb dL_refuses_430 hl (by decide) rfl (fun ls hl => ?_)
  refine lv_bipush (v := nI 6) hx hb dL_refuses_432 (by decide) ?_
  refine lv_istore (lv' := [(16, .int (nI 6)), (15, .int (nI 1)), (14, .int (-2147483648)), (13, .int (-1)), (12, .int (-1)), (11, .int (-1)), (10, .int (-1)), (9, .int (-1)), (8, .int (-1)), (0, .ref (a 0)), (1, .int (nI (hs_nA x))), (2, .int (nI (hs_nJ x))), (3, .int (nI (hs_td x))), (4, .int 2147483647), (5, .int (hV_hidden x (nI 5))), (6, .int (hV_find x (-1) (-1) (nI 0) (nI 11) (nI 0) (nI 0))), (7, .int (nI 0))]) hx hb dL_refuses_434 hl (by decide) rfl (fun ls hl => ?_)
  refine lv_iload hx hb dL_refuses_436 (lv_at hl 0 rfl) ?_
  refine lv_bipush (v := nI 14) hx hb dL_refuses_438 (by decide) ?_
  refine lv_icmp_ge (tgt := 519) hx hb dL_refuses_440 (by decide) (fun c9 => absurd c9 (by decide)) (fun c9 => ?_)
  refine lv_iload hx hb dL_refuses_443 (lv_at hl 1 rfl) ?_
  refine lv_if_eq (tgt := 519) hx hb dL_refuses_445 (by decide) (fun c9 => absurd c9 (by decide)) (fun c9 => ?_)
  refine lv_iload hx hb dL_refuses_448 (lv_at hl 0 rfl) ?_
  refine lv_bipush (v := nI 7) hx hb dL_refuses_450 (by decide) ?_
  refine lv_icmp_eq (tgt := 506) hx hb dL_refuses_452 (by decide) (fun c9 => absurd c9 (by decide)) (fun c9 => ?_)
  refine lv_aload_n hx hb dL_refuses_455 rfl (lv_at hl 9 rfl) ?_
  refine lv_iload hx hb dL_refuses_456 (lv_at hl 0 rfl) ?_
  refine lv_iload hx hb dL_refuses_458 (lv_at hl 7 rfl) ?_
  refine lv_iconst (v := nI 0) hx hb dL_refuses_460 (by decide) ?_
  refine lv_iconst (v := nI 0) hx hb dL_refuses_461 (by decide) ?_
  refine lv_iconst (v := -1) hx hb dL_refuses_462 (by decide) ?_
  refine lv_iconst (v := nI 0) hx hb dL_refuses_463 (by decide) ?_
  refine hs_calli w (vx_runSW (As := [.ref (a 0), .int (nI 6), .int (-1), .int (nI 0), .int (nI 0), .int (-1), .int (nI 0)]) (rest := []) X (aF_secret l hl0 G _ a _ _ hI (-1) (nI 0) (nI 0) (nI 0) 1 (hf_secret (hf_okA tHas_m1)) (by decide)) (vx_cwSW 7 hts gL_refuses_L_act rfl rfl rfl (by decide +kernel) ⟨Nat.le_of_ble_eq_true rfl, Nat.le_of_ble_eq_true rfl⟩) ⟨b_blind, fun U9 hU9 hW9 => ⟨rfl, hs_pre E Z9 w hm9 U9 hU9 hW9⟩⟩ rfl rfl hl.1 rfl (lv_room (Nat.le_of_ble_eq_true rfl)) dL_refuses_464 ⟨Nat.le_of_ble_eq_true rfl, Nat.le_of_ble_eq_true rfl⟩) hm9 (fun r i H locs hr w => ?_)
  obtain ⟨hI, hr9⟩ := hr
  refine b_tp (hr9.trans (show hs_r 1 = -71 from by decide)) ?_
  refine lv_bipush (v := -71) hx hb dL_refuses_467 (by decide) ?_
  refine lv_icmp_ne (tgt := 510) hx hb dL_refuses_469 (by decide) (fun c9 => absurd rfl c9) (fun c9 => ?_)
  refine lv_aload_n hx hb dL_refuses_472 rfl (lv_at hl 9 rfl) ?_
  refine lv_iload hx hb dL_refuses_473 (lv_at hl 0 rfl) ?_
  refine lv_iconst (v := nI 0) hx hb dL_refuses_475 (by decide) ?_
  refine lv_iload hx hb dL_refuses_476 (lv_at hl 6 rfl) ?_
  refine lv_iconst (v := nI 0) hx hb dL_refuses_478 (by decide) ?_
  refine lv_iconst (v := -1) hx hb dL_refuses_479 (by decide) ?_
  refine lv_iconst (v := nI 0) hx hb dL_refuses_480 (by decide) ?_
  refine hs_calli w (vx_runSW (As := [.ref (a 0), .int (nI 6), .int (nI 0), .int (-1), .int (nI 0), .int (-1), .int (nI 0)]) (rest := []) X (aF_secret l hl0 G _ a _ _ hI (nI 0) (-1) (nI 0) (nI 0) 1 (hf_secret (hf_okJ tHas_m1)) (by decide)) (vx_cwSW 7 hts gL_refuses_L_act rfl rfl rfl (by decide +kernel) ⟨Nat.le_of_ble_eq_true rfl, Nat.le_of_ble_eq_true rfl⟩) ⟨b_blind, fun U9 hU9 hW9 => ⟨rfl, hs_pre E Z9 w hm9 U9 hU9 hW9⟩⟩ rfl rfl hl.1 rfl (lv_room (Nat.le_of_ble_eq_true rfl)) dL_refuses_481 ⟨Nat.le_of_ble_eq_true rfl, Nat.le_of_ble_eq_true rfl⟩) hm9 (fun r i H locs hr w => ?_)
  obtain ⟨hI, hr9⟩ := hr
  refine b_tp (hr9.trans (show hs_r 1 = -71 from by decide)) ?_
  refine lv_bipush (v := -71) hx hb dL_refuses_484 (by decide) ?_
  refine lv_icmp_ne (tgt := 510) hx hb dL_refuses_486 (by decide) (fun c9 => absurd rfl c9) (fun c9 => ?_)
  refine lv_aload_n hx hb dL_refuses_489 rfl (lv_at hl 9 rfl) ?_
  refine lv_iload hx hb dL_refuses_490 (lv_at hl 0 rfl) ?_
  refine lv_iconst (v := nI 0) hx hb dL_refuses_492 (by decide) ?_
  refine lv_iconst (v := nI 0) hx hb dL_refuses_493 (by decide) ?_
  refine lv_iload hx hb dL_refuses_494 (lv_at hl 5 rfl) ?_
  refine lv_iconst (v := -1) hx hb dL_refuses_496 (by decide) ?_
  refine lv_iconst (v := nI 0) hx hb dL_refuses_497 (by decide) ?_
  refine hs_calli w (vx_runSW (As := [.ref (a 0), .int (nI 6), .int (nI 0), .int (nI 0), .int (-1), .int (-1), .int (nI 0)]) (rest := []) X (aF_secret l hl0 G _ a _ _ hI (nI 0) (nI 0) (-1) (nI 0) 1 (hf_secret (hf_okP (by decide))) (by decide)) (vx_cwSW 7 hts gL_refuses_L_act rfl rfl rfl (by decide +kernel) ⟨Nat.le_of_ble_eq_true rfl, Nat.le_of_ble_eq_true rfl⟩) ⟨b_blind, fun U9 hU9 hW9 => ⟨rfl, hs_pre E Z9 w hm9 U9 hU9 hW9⟩⟩ rfl rfl hl.1 rfl (lv_room (Nat.le_of_ble_eq_true rfl)) dL_refuses_498 ⟨Nat.le_of_ble_eq_true rfl, Nat.le_of_ble_eq_true rfl⟩) hm9 (fun r i H locs hr w => ?_)
  obtain ⟨hI, hr9⟩ := hr
  refine b_tp (hr9.trans (show hs_r 1 = -71 from by decide)) ?_
  refine lv_bipush (v := -71) hx hb dL_refuses_501 (by decide) ?_
  refine lv_icmp_ne (tgt := 510) hx hb dL_refuses_503 (by decide) (fun c9 => absurd rfl c9) (fun c9 => ?_)
  refine lv_iconst (v := nI 1) hx hb dL_refuses_506 (by decide) ?_
  refine lv_goto (tgt := 511) hx hb dL_refuses_507 (by decide) ?_
  refine lv_istore (lv' := [(15, .int (nI 1)), (16, .int (nI 6)), (14, .int (-2147483648)), (13, .int (-1)), (12, .int (-1)), (11, .int (-1)), (10, .int (-1)), (9, .int (-1)), (8, .int (-1)), (0, .ref (a 0)), (1, .int (nI (hs_nA x))), (2, .int (nI (hs_nJ x))), (3, .int (nI (hs_td x))), (4, .int 2147483647), (5, .int (hV_hidden x (nI 5))), (6, .int (hV_find x (-1) (-1) (nI 0) (nI 11) (nI 0) (nI 0))), (7, .int (nI 0))]) hx hb dL_refuses_511 hl (by decide) rfl (fun ls hl => ?_)
  refine lv_iinc (v := nI 7) (lv' := [(16, .int (nI 7)), (15, .int (nI 1)), (14, .int (-2147483648)), (13, .int (-1)), (12, .int (-1)), (11, .int (-1)), (10, .int (-1)), (9, .int (-1)), (8, .int (-1)), (0, .ref (a 0)), (1, .int (nI (hs_nA x))), (2, .int (nI (hs_nJ x))), (3, .int (nI (hs_td x))), (4, .int 2147483647), (5, .int (hV_hidden x (nI 5))), (6, .int (hV_find x (-1) (-1) (nI 0) (nI 11) (nI 0) (nI 0))), (7, .int (nI 0))]) hx hb dL_refuses_513 hl (k := 1) rfl (by decide) (by decide) rfl (fun ls hl => ?_)
  refine lv_goto (tgt := 436) hx hb dL_refuses_516 (by decide) ?_
  refine lv_iload hx hb dL_refuses_436 (lv_at hl 0 rfl) ?_
  refine lv_bipush (v := nI 14) hx hb dL_refuses_438 (by decide) ?_
  refine lv_icmp_ge (tgt := 519) hx hb dL_refuses_440 (by decide) (fun c9 => absurd c9 (by decide)) (fun c9 => ?_)
  refine lv_iload hx hb dL_refuses_443 (lv_at hl 1 rfl) ?_
  refine lv_if_eq (tgt := 519) hx hb dL_refuses_445 (by decide) (fun c9 => absurd c9 (by decide)) (fun c9 => ?_)
  refine lv_iload hx hb dL_refuses_448 (lv_at hl 0 rfl) ?_
  refine lv_bipush (v := nI 7) hx hb dL_refuses_450 (by decide) ?_
  refine lv_icmp_eq (tgt := 506) hx hb dL_refuses_452 (by decide) (fun c9 => ?_) (fun c9 => absurd rfl c9)
  refine lv_iconst (v := nI 1) hx hb dL_refuses_506 (by decide) ?_
  refine lv_goto (tgt := 511) hx hb dL_refuses_507 (by decide) ?_
  refine lv_istore (lv' := [(15, .int (nI 1)), (16, .int (nI 7)), (14, .int (-2147483648)), (13, .int (-1)), (12, .int (-1)), (11, .int (-1)), (10, .int (-1)), (9, .int (-1)), (8, .int (-1)), (0, .ref (a 0)), (1, .int (nI (hs_nA x))), (2, .int (nI (hs_nJ x))), (3, .int (nI (hs_td x))), (4, .int 2147483647), (5, .int (hV_hidden x (nI 5))), (6, .int (hV_find x (-1) (-1) (nI 0) (nI 11) (nI 0) (nI 0))), (7, .int (nI 0))]) hx hb dL_refuses_511 hl (by decide) rfl (fun ls hl => ?_)
  refine lv_iinc (v := nI 8) (lv' := [(16, .int (nI 8)), (15, .int (nI 1)), (14, .int (-2147483648)), (13, .int (-1)), (12, .int (-1)), (11, .int (-1)), (10, .int (-1)), (9, .int (-1)), (8, .int (-1)), (0, .ref (a 0)), (1, .int (nI (hs_nA x))), (2, .int (nI (hs_nJ x))), (3, .int (nI (hs_td x))), (4, .int 2147483647), (5, .int (hV_hidden x (nI 5))), (6, .int (hV_find x (-1) (-1) (nI 0) (nI 11) (nI 0) (nI 0))), (7, .int (nI 0))]) hx hb dL_refuses_513 hl (k := 1) rfl (by decide) (by decide) rfl (fun ls hl => ?_)
  refine lv_goto (tgt := 436) hx hb dL_refuses_516 (by decide) ?_
  refine lv_iload hx hb dL_refuses_436 (lv_at hl 0 rfl) ?_
  refine lv_bipush (v := nI 14) hx hb dL_refuses_438 (by decide) ?_
  refine lv_icmp_ge (tgt := 519) hx hb dL_refuses_440 (by decide) (fun c9 => absurd c9 (by decide)) (fun c9 => ?_)
  refine lv_iload hx hb dL_refuses_443 (lv_at hl 1 rfl) ?_
  refine lv_if_eq (tgt := 519) hx hb dL_refuses_445 (by decide) (fun c9 => absurd c9 (by decide)) (fun c9 => ?_)
  refine lv_iload hx hb dL_refuses_448 (lv_at hl 0 rfl) ?_
  refine lv_bipush (v := nI 7) hx hb dL_refuses_450 (by decide) ?_
  refine lv_icmp_eq (tgt := 506) hx hb dL_refuses_452 (by decide) (fun c9 => absurd c9 (by decide)) (fun c9 => ?_)
  refine lv_aload_n hx hb dL_refuses_455 rfl (lv_at hl 9 rfl) ?_
  refine lv_iload hx hb dL_refuses_456 (lv_at hl 0 rfl) ?_
  refine lv_iload hx hb dL_refuses_458 (lv_at hl 7 rfl) ?_
  refine lv_iconst (v := nI 0) hx hb dL_refuses_460 (by decide) ?_
  refine lv_iconst (v := nI 0) hx hb dL_refuses_461 (by decide) ?_
  refine lv_iconst (v := -1) hx hb dL_refuses_462 (by decide) ?_
  refine lv_iconst (v := nI 0) hx hb dL_refuses_463 (by decide) ?_
  refine hs_calli w (vx_runSW (As := [.ref (a 0), .int (nI 8), .int (-1), .int (nI 0), .int (nI 0), .int (-1), .int (nI 0)]) (rest := []) X (aF_figure l hl0 G _ a _ _ hI (-1) (nI 0) (nI 0) (-1) (nI 0) 1 (hf_figure1 (hf_okA tHas_m1)) (by decide)) (vx_cwSW 7 hts gL_refuses_L_act rfl rfl rfl (by decide +kernel) ⟨Nat.le_of_ble_eq_true rfl, Nat.le_of_ble_eq_true rfl⟩) ⟨b_blind, fun U9 hU9 hW9 => ⟨rfl, hs_pre E Z9 w hm9 U9 hU9 hW9⟩⟩ rfl rfl hl.1 rfl (lv_room (Nat.le_of_ble_eq_true rfl)) dL_refuses_464 ⟨Nat.le_of_ble_eq_true rfl, Nat.le_of_ble_eq_true rfl⟩) hm9 (fun r i H locs hr w => ?_)
  obtain ⟨hI, hr9⟩ := hr
  refine b_tp (hr9.trans (show hs_r 1 = -71 from by decide)) ?_
  refine lv_bipush (v := -71) hx hb dL_refuses_467 (by decide) ?_
  refine lv_icmp_ne (tgt := 510) hx hb dL_refuses_469 (by decide) (fun c9 => absurd rfl c9) (fun c9 => ?_)
  refine lv_aload_n hx hb dL_refuses_472 rfl (lv_at hl 9 rfl) ?_
  refine lv_iload hx hb dL_refuses_473 (lv_at hl 0 rfl) ?_
  refine lv_iconst (v := nI 0) hx hb dL_refuses_475 (by decide) ?_
  refine lv_iload hx hb dL_refuses_476 (lv_at hl 6 rfl) ?_
  refine lv_iconst (v := nI 0) hx hb dL_refuses_478 (by decide) ?_
  refine lv_iconst (v := -1) hx hb dL_refuses_479 (by decide) ?_
  refine lv_iconst (v := nI 0) hx hb dL_refuses_480 (by decide) ?_
  refine hs_calli w (vx_runSW (As := [.ref (a 0), .int (nI 8), .int (nI 0), .int (-1), .int (nI 0), .int (-1), .int (nI 0)]) (rest := []) X (aF_figure l hl0 G _ a _ _ hI (nI 0) (-1) (nI 0) (-1) (nI 0) 1 (hf_figure1 (hf_okJ tHas_m1)) (by decide)) (vx_cwSW 7 hts gL_refuses_L_act rfl rfl rfl (by decide +kernel) ⟨Nat.le_of_ble_eq_true rfl, Nat.le_of_ble_eq_true rfl⟩) ⟨b_blind, fun U9 hU9 hW9 => ⟨rfl, hs_pre E Z9 w hm9 U9 hU9 hW9⟩⟩ rfl rfl hl.1 rfl (lv_room (Nat.le_of_ble_eq_true rfl)) dL_refuses_481 ⟨Nat.le_of_ble_eq_true rfl, Nat.le_of_ble_eq_true rfl⟩) hm9 (fun r i H locs hr w => ?_)
  obtain ⟨hI, hr9⟩ := hr
  refine b_tp (hr9.trans (show hs_r 1 = -71 from by decide)) ?_
  refine lv_bipush (v := -71) hx hb dL_refuses_484 (by decide) ?_
  refine lv_icmp_ne (tgt := 510) hx hb dL_refuses_486 (by decide) (fun c9 => absurd rfl c9) (fun c9 => ?_)
  refine lv_aload_n hx hb dL_refuses_489 rfl (lv_at hl 9 rfl) ?_
  refine lv_iload hx hb dL_refuses_490 (lv_at hl 0 rfl) ?_
  refine lv_iconst (v := nI 0) hx hb dL_refuses_492 (by decide) ?_
  refine lv_iconst (v := nI 0) hx hb dL_refuses_493 (by decide) ?_
  refine lv_iload hx hb dL_refuses_494 (lv_at hl 5 rfl) ?_
  refine lv_iconst (v := -1) hx hb dL_refuses_496 (by decide) ?_
  refine lv_iconst (v := nI 0) hx hb dL_refuses_497 (by decide) ?_
  refine hs_calli w (vx_runSW (As := [.ref (a 0), .int (nI 8), .int (nI 0), .int (nI 0), .int (-1), .int (-1), .int (nI 0)]) (rest := []) X (aF_figure l hl0 G _ a _ _ hI (nI 0) (nI 0) (-1) (-1) (nI 0) 1 (hf_figure1 (hf_okP (by decide))) (by decide)) (vx_cwSW 7 hts gL_refuses_L_act rfl rfl rfl (by decide +kernel) ⟨Nat.le_of_ble_eq_true rfl, Nat.le_of_ble_eq_true rfl⟩) ⟨b_blind, fun U9 hU9 hW9 => ⟨rfl, hs_pre E Z9 w hm9 U9 hU9 hW9⟩⟩ rfl rfl hl.1 rfl (lv_room (Nat.le_of_ble_eq_true rfl)) dL_refuses_498 ⟨Nat.le_of_ble_eq_true rfl, Nat.le_of_ble_eq_true rfl⟩) hm9 (fun r i H locs hr w => ?_)
  obtain ⟨hI, hr9⟩ := hr
  refine b_tp (hr9.trans (show hs_r 1 = -71 from by decide)) ?_
  refine lv_bipush (v := -71) hx hb dL_refuses_501 (by decide) ?_
  refine lv_icmp_ne (tgt := 510) hx hb dL_refuses_503 (by decide) (fun c9 => absurd rfl c9) (fun c9 => ?_)
  refine lv_iconst (v := nI 1) hx hb dL_refuses_506 (by decide) ?_
  refine lv_goto (tgt := 511) hx hb dL_refuses_507 (by decide) ?_
  refine lv_istore (lv' := [(15, .int (nI 1)), (16, .int (nI 8)), (14, .int (-2147483648)), (13, .int (-1)), (12, .int (-1)), (11, .int (-1)), (10, .int (-1)), (9, .int (-1)), (8, .int (-1)), (0, .ref (a 0)), (1, .int (nI (hs_nA x))), (2, .int (nI (hs_nJ x))), (3, .int (nI (hs_td x))), (4, .int 2147483647), (5, .int (hV_hidden x (nI 5))), (6, .int (hV_find x (-1) (-1) (nI 0) (nI 11) (nI 0) (nI 0))), (7, .int (nI 0))]) hx hb dL_refuses_511 hl (by decide) rfl (fun ls hl => ?_)
  refine lv_iinc (v := nI 9) (lv' := [(16, .int (nI 9)), (15, .int (nI 1)), (14, .int (-2147483648)), (13, .int (-1)), (12, .int (-1)), (11, .int (-1)), (10, .int (-1)), (9, .int (-1)), (8, .int (-1)), (0, .ref (a 0)), (1, .int (nI (hs_nA x))), (2, .int (nI (hs_nJ x))), (3, .int (nI (hs_td x))), (4, .int 2147483647), (5, .int (hV_hidden x (nI 5))), (6, .int (hV_find x (-1) (-1) (nI 0) (nI 11) (nI 0) (nI 0))), (7, .int (nI 0))]) hx hb dL_refuses_513 hl (k := 1) rfl (by decide) (by decide) rfl (fun ls hl => ?_)
  refine lv_goto (tgt := 436) hx hb dL_refuses_516 (by decide) ?_
  refine lv_iload hx hb dL_refuses_436 (lv_at hl 0 rfl) ?_
  refine lv_bipush (v := nI 14) hx hb dL_refuses_438 (by decide) ?_
  refine lv_icmp_ge (tgt := 519) hx hb dL_refuses_440 (by decide) (fun c9 => absurd c9 (by decide)) (fun c9 => ?_)
  refine lv_iload hx hb dL_refuses_443 (lv_at hl 1 rfl) ?_
  refine lv_if_eq (tgt := 519) hx hb dL_refuses_445 (by decide) (fun c9 => absurd c9 (by decide)) (fun c9 => ?_)
  refine lv_iload hx hb dL_refuses_448 (lv_at hl 0 rfl) ?_
  refine lv_bipush (v := nI 7) hx hb dL_refuses_450 (by decide) ?_
  refine lv_icmp_eq (tgt := 506) hx hb dL_refuses_452 (by decide) (fun c9 => absurd c9 (by decide)) (fun c9 => ?_)
  refine lv_aload_n hx hb dL_refuses_455 rfl (lv_at hl 9 rfl) ?_
  refine lv_iload hx hb dL_refuses_456 (lv_at hl 0 rfl) ?_
  refine lv_iload hx hb dL_refuses_458 (lv_at hl 7 rfl) ?_
  refine lv_iconst (v := nI 0) hx hb dL_refuses_460 (by decide) ?_
  refine lv_iconst (v := nI 0) hx hb dL_refuses_461 (by decide) ?_
  refine lv_iconst (v := -1) hx hb dL_refuses_462 (by decide) ?_
  refine lv_iconst (v := nI 0) hx hb dL_refuses_463 (by decide) ?_
  refine hs_calli w (vx_runSW (As := [.ref (a 0), .int (nI 9), .int (-1), .int (nI 0), .int (nI 0), .int (-1), .int (nI 0)]) (rest := []) X (aF_value l hl0 G _ a _ _ hI (-1) (nI 0) (nI 0) (-1) (nI 0) 1 (hf_value1 (hf_okA tHas_m1)) (by decide)) (vx_cwSW 7 hts gL_refuses_L_act rfl rfl rfl (by decide +kernel) ⟨Nat.le_of_ble_eq_true rfl, Nat.le_of_ble_eq_true rfl⟩) ⟨b_blind, fun U9 hU9 hW9 => ⟨rfl, hs_pre E Z9 w hm9 U9 hU9 hW9⟩⟩ rfl rfl hl.1 rfl (lv_room (Nat.le_of_ble_eq_true rfl)) dL_refuses_464 ⟨Nat.le_of_ble_eq_true rfl, Nat.le_of_ble_eq_true rfl⟩) hm9 (fun r i H locs hr w => ?_)
  obtain ⟨hI, hr9⟩ := hr
  refine b_tp (hr9.trans (show hs_r 1 = -71 from by decide)) ?_
  refine lv_bipush (v := -71) hx hb dL_refuses_467 (by decide) ?_
  refine lv_icmp_ne (tgt := 510) hx hb dL_refuses_469 (by decide) (fun c9 => absurd rfl c9) (fun c9 => ?_)
  refine lv_aload_n hx hb dL_refuses_472 rfl (lv_at hl 9 rfl) ?_
  refine lv_iload hx hb dL_refuses_473 (lv_at hl 0 rfl) ?_
  refine lv_iconst (v := nI 0) hx hb dL_refuses_475 (by decide) ?_
  refine lv_iload hx hb dL_refuses_476 (lv_at hl 6 rfl) ?_
  refine lv_iconst (v := nI 0) hx hb dL_refuses_478 (by decide) ?_
  refine lv_iconst (v := -1) hx hb dL_refuses_479 (by decide) ?_
  refine lv_iconst (v := nI 0) hx hb dL_refuses_480 (by decide) ?_
  refine hs_calli w (vx_runSW (As := [.ref (a 0), .int (nI 9), .int (nI 0), .int (-1), .int (nI 0), .int (-1), .int (nI 0)]) (rest := []) X (aF_value l hl0 G _ a _ _ hI (nI 0) (-1) (nI 0) (-1) (nI 0) 1 (hf_value1 (hf_okJ tHas_m1)) (by decide)) (vx_cwSW 7 hts gL_refuses_L_act rfl rfl rfl (by decide +kernel) ⟨Nat.le_of_ble_eq_true rfl, Nat.le_of_ble_eq_true rfl⟩) ⟨b_blind, fun U9 hU9 hW9 => ⟨rfl, hs_pre E Z9 w hm9 U9 hU9 hW9⟩⟩ rfl rfl hl.1 rfl (lv_room (Nat.le_of_ble_eq_true rfl)) dL_refuses_481 ⟨Nat.le_of_ble_eq_true rfl, Nat.le_of_ble_eq_true rfl⟩) hm9 (fun r i H locs hr w => ?_)
  obtain ⟨hI, hr9⟩ := hr
  refine b_tp (hr9.trans (show hs_r 1 = -71 from by decide)) ?_
  refine lv_bipush (v := -71) hx hb dL_refuses_484 (by decide) ?_
  refine lv_icmp_ne (tgt := 510) hx hb dL_refuses_486 (by decide) (fun c9 => absurd rfl c9) (fun c9 => ?_)
  refine lv_aload_n hx hb dL_refuses_489 rfl (lv_at hl 9 rfl) ?_
  refine lv_iload hx hb dL_refuses_490 (lv_at hl 0 rfl) ?_
  refine lv_iconst (v := nI 0) hx hb dL_refuses_492 (by decide) ?_
  refine lv_iconst (v := nI 0) hx hb dL_refuses_493 (by decide) ?_
  refine lv_iload hx hb dL_refuses_494 (lv_at hl 5 rfl) ?_
  refine lv_iconst (v := -1) hx hb dL_refuses_496 (by decide) ?_
  refine lv_iconst (v := nI 0) hx hb dL_refuses_497 (by decide) ?_
  refine hs_calli w (vx_runSW (As := [.ref (a 0), .int (nI 9), .int (nI 0), .int (nI 0), .int (-1), .int (-1), .int (nI 0)]) (rest := []) X (aF_value l hl0 G _ a _ _ hI (nI 0) (nI 0) (-1) (-1) (nI 0) 1 (hf_value1 (hf_okP (by decide))) (by decide)) (vx_cwSW 7 hts gL_refuses_L_act rfl rfl rfl (by decide +kernel) ⟨Nat.le_of_ble_eq_true rfl, Nat.le_of_ble_eq_true rfl⟩) ⟨b_blind, fun U9 hU9 hW9 => ⟨rfl, hs_pre E Z9 w hm9 U9 hU9 hW9⟩⟩ rfl rfl hl.1 rfl (lv_room (Nat.le_of_ble_eq_true rfl)) dL_refuses_498 ⟨Nat.le_of_ble_eq_true rfl, Nat.le_of_ble_eq_true rfl⟩) hm9 (fun r i H locs hr w => ?_)
  obtain ⟨hI, hr9⟩ := hr
  refine b_tp (hr9.trans (show hs_r 1 = -71 from by decide)) ?_
  refine lv_bipush (v := -71) hx hb dL_refuses_501 (by decide) ?_
  refine lv_icmp_ne (tgt := 510) hx hb dL_refuses_503 (by decide) (fun c9 => absurd rfl c9) (fun c9 => ?_)
  exact kk i _ _ _ hI w (lv_sub hl [9, 10, 11, 12, 13, 14, 15, 16, 8, 7, 6, 5, 4, 3, 2, 1, 0] rfl)
set_option maxHeartbeats 4000000 in
set_option maxRecDepth 100000 in
theorem sg_refuses_2 {p : Program} {l : Launch} (hl0 : l.stackTraces = false) {e : Env} {s : State} {m : MethodId} {below : List Frame} {meth : Method} {c : Code} {G : bG} {args : Array Value} {Q : State → Prop} (X : CallFix p m c cL_refuses 17 s args wsL_refuses RL) (E : bE G vwCl bNW bSW s) {a : Nat → Nat} (Z9 : bZ (hs_M a) s) (hm9 : ∀ q ∈ hs_M a, Aw (hs_M a) s.heap.size q) {x : hs_E} {i : hs_I} {H : Heap} {locs : List Loc} {ls : Array Slot} (hI : hs_Inv x i) (w : bSt G vwCl (hs_M a) s (hs_W G a x i) H locs) (hl : lv_has ls 17 [(0, .ref (a 0)), (1, .int (nI (hs_nA x))), (2, .int (nI (hs_nJ x))), (3, .int (nI (hs_td x))), (4, .int 2147483647), (5, .int (hV_hidden x (nI 5))), (6, .int (hV_find x (-1) (-1) (nI 0) (nI 11) (nI 0) (nI 0))), (7, .int (nI 0)), (8, .int (-1)), (9, .int (-1)), (10, .int (-1)), (11, .int (-1)), (12, .int (-1)), (13, .int (-1)), (14, .int (-2147483648)), (15, .int (nI 1)), (16, .int (nI 9))])
    (kk : ∀ (i : hs_I) (H : Heap) (locs : List Loc) (ls : Array Slot), hs_Inv x i → bSt G vwCl (hs_M a) s (hs_W G a x i) H locs → lv_has ls 17 [(0, .ref (a 0)), (1, .int (nI (hs_nA x))), (2, .int (nI (hs_nJ x))), (3, .int (nI (hs_td x))), (4, .int 2147483647), (5, .int (hV_hidden x (nI 5))), (6, .int (hV_find x (-1) (-1) (nI 0) (nI 11) (nI 0) (nI 0))), (7, .int (nI 1))] → W p l e ({ frames := 9, cells := 324, slots := 1944, locals := 201 }) s m args below meth c H locs 83 498 Q (F0 m 27 ls [])) : W p l e ({ frames := 9, cells := 324, slots := 1944, locals := 201 }) s m args below meth c H locs 42 252 Q (F0 m 506 ls []) := by
  have hx := X.1
  have hb := X.2.1
  have hml := X.2.2.1
  have hown := X.2.2.2.1
  have hts := X.2.2.2.2
  obtain ⟨⟨hnA, hnJ, hTA, hTJ, htd, hst, hbs, hjd, hdn⟩, hbk, hdr, hK⟩ := id hI
  refine lv_iconst (v := nI 1) hx hb dL_refuses_506 (by decide) ?_
  refine lv_goto (tgt := 511) hx hb dL_refuses_507 (by decide) ?_
  refine lv_istore (lv' := [(15, .int (nI 1)), (0, .ref (a 0)), (1, .int (nI (hs_nA x))), (2, .int (nI (hs_nJ x))), (3, .int (nI (hs_td x))), (4, .int 2147483647), (5, .int (hV_hidden x (nI 5))), (6, .int (hV_find x (-1) (-1) (nI 0) (nI 11) (nI 0) (nI 0))), (7, .int (nI 0)), (8, .int (-1)), (9, .int (-1)), (10, .int (-1)), (11, .int (-1)), (12, .int (-1)), (13, .int (-1)), (14, .int (-2147483648)), (16, .int (nI 9))]) hx hb dL_refuses_511 hl (by decide) rfl (fun ls hl => ?_)
  refine lv_iinc (v := nI 10) (lv' := [(16, .int (nI 10)), (15, .int (nI 1)), (0, .ref (a 0)), (1, .int (nI (hs_nA x))), (2, .int (nI (hs_nJ x))), (3, .int (nI (hs_td x))), (4, .int 2147483647), (5, .int (hV_hidden x (nI 5))), (6, .int (hV_find x (-1) (-1) (nI 0) (nI 11) (nI 0) (nI 0))), (7, .int (nI 0)), (8, .int (-1)), (9, .int (-1)), (10, .int (-1)), (11, .int (-1)), (12, .int (-1)), (13, .int (-1)), (14, .int (-2147483648))]) hx hb dL_refuses_513 hl (k := 16) rfl (by decide) (by decide) rfl (fun ls hl => ?_)
  refine lv_goto (tgt := 436) hx hb dL_refuses_516 (by decide) ?_
  refine lv_iload hx hb dL_refuses_436 (lv_at hl 0 rfl) ?_
  refine lv_bipush (v := nI 14) hx hb dL_refuses_438 (by decide) ?_
  refine lv_icmp_ge (tgt := 519) hx hb dL_refuses_440 (by decide) (fun c9 => absurd c9 (by decide)) (fun c9 => ?_)
  refine lv_iload hx hb dL_refuses_443 (lv_at hl 1 rfl) ?_
  refine lv_if_eq (tgt := 519) hx hb dL_refuses_445 (by decide) (fun c9 => absurd c9 (by decide)) (fun c9 => ?_)
  refine lv_iload hx hb dL_refuses_448 (lv_at hl 0 rfl) ?_
  refine lv_bipush (v := nI 7) hx hb dL_refuses_450 (by decide) ?_
  refine lv_icmp_eq (tgt := 506) hx hb dL_refuses_452 (by decide) (fun c9 => absurd c9 (by decide)) (fun c9 => ?_)
  refine lv_aload_n hx hb dL_refuses_455 rfl (lv_at hl 2 rfl) ?_
  refine lv_iload hx hb dL_refuses_456 (lv_at hl 0 rfl) ?_
  refine lv_iload hx hb dL_refuses_458 (lv_at hl 11 rfl) ?_
  refine lv_iconst (v := nI 0) hx hb dL_refuses_460 (by decide) ?_
  refine lv_iconst (v := nI 0) hx hb dL_refuses_461 (by decide) ?_
  refine lv_iconst (v := -1) hx hb dL_refuses_462 (by decide) ?_
  refine lv_iconst (v := nI 0) hx hb dL_refuses_463 (by decide) ?_
  refine hs_calli w (vx_runSW (As := [.ref (a 0), .int (nI 10), .int (-1), .int (nI 0), .int (nI 0), .int (-1), .int (nI 0)]) (rest := []) X (aF_first l hl0 G _ a _ _ hI (-1) (nI 0) (nI 0) (-1) (nI 0) 1 (hf_first (hf_okA tHas_m1)) (by decide)) (vx_cwSW 7 hts gL_refuses_L_act rfl rfl rfl (by decide +kernel) ⟨Nat.le_of_ble_eq_true rfl, Nat.le_of_ble_eq_true rfl⟩) ⟨b_blind, fun U9 hU9 hW9 => ⟨rfl, hs_pre E Z9 w hm9 U9 hU9 hW9⟩⟩ rfl rfl hl.1 rfl (lv_room (Nat.le_of_ble_eq_true rfl)) dL_refuses_464 ⟨Nat.le_of_ble_eq_true rfl, Nat.le_of_ble_eq_true rfl⟩) hm9 (fun r i H locs hr w => ?_)
  obtain ⟨hI, hr9⟩ := hr
  refine b_tp (hr9.trans (show hs_r 1 = -71 from by decide)) ?_
  refine lv_bipush (v := -71) hx hb dL_refuses_467 (by decide) ?_
  refine lv_icmp_ne (tgt := 510) hx hb dL_refuses_469 (by decide) (fun c9 => absurd rfl c9) (fun c9 => ?_)
  refine lv_aload_n hx hb dL_refuses_472 rfl (lv_at hl 2 rfl) ?_
  refine lv_iload hx hb dL_refuses_473 (lv_at hl 0 rfl) ?_
  refine lv_iconst (v := nI 0) hx hb dL_refuses_475 (by decide) ?_
  refine lv_iload hx hb dL_refuses_476 (lv_at hl 12 rfl) ?_
  refine lv_iconst (v := nI 0) hx hb dL_refuses_478 (by decide) ?_
  refine lv_iconst (v := -1) hx hb dL_refuses_479 (by decide) ?_
  refine lv_iconst (v := nI 0) hx hb dL_refuses_480 (by decide) ?_
  refine hs_calli w (vx_runSW (As := [.ref (a 0), .int (nI 10), .int (nI 0), .int (-1), .int (nI 0), .int (-1), .int (nI 0)]) (rest := []) X (aF_first l hl0 G _ a _ _ hI (nI 0) (-1) (nI 0) (-1) (nI 0) 1 (hf_first (hf_okJ tHas_m1)) (by decide)) (vx_cwSW 7 hts gL_refuses_L_act rfl rfl rfl (by decide +kernel) ⟨Nat.le_of_ble_eq_true rfl, Nat.le_of_ble_eq_true rfl⟩) ⟨b_blind, fun U9 hU9 hW9 => ⟨rfl, hs_pre E Z9 w hm9 U9 hU9 hW9⟩⟩ rfl rfl hl.1 rfl (lv_room (Nat.le_of_ble_eq_true rfl)) dL_refuses_481 ⟨Nat.le_of_ble_eq_true rfl, Nat.le_of_ble_eq_true rfl⟩) hm9 (fun r i H locs hr w => ?_)
  obtain ⟨hI, hr9⟩ := hr
  refine b_tp (hr9.trans (show hs_r 1 = -71 from by decide)) ?_
  refine lv_bipush (v := -71) hx hb dL_refuses_484 (by decide) ?_
  refine lv_icmp_ne (tgt := 510) hx hb dL_refuses_486 (by decide) (fun c9 => absurd rfl c9) (fun c9 => ?_)
  refine lv_aload_n hx hb dL_refuses_489 rfl (lv_at hl 2 rfl) ?_
  refine lv_iload hx hb dL_refuses_490 (lv_at hl 0 rfl) ?_
  refine lv_iconst (v := nI 0) hx hb dL_refuses_492 (by decide) ?_
  refine lv_iconst (v := nI 0) hx hb dL_refuses_493 (by decide) ?_
  refine lv_iload hx hb dL_refuses_494 (lv_at hl 13 rfl) ?_
  refine lv_iconst (v := -1) hx hb dL_refuses_496 (by decide) ?_
  refine lv_iconst (v := nI 0) hx hb dL_refuses_497 (by decide) ?_
  refine hs_calli w (vx_runSW (As := [.ref (a 0), .int (nI 10), .int (nI 0), .int (nI 0), .int (-1), .int (-1), .int (nI 0)]) (rest := []) X (aF_first l hl0 G _ a _ _ hI (nI 0) (nI 0) (-1) (-1) (nI 0) 1 (hf_first (hf_okP (by decide))) (by decide)) (vx_cwSW 7 hts gL_refuses_L_act rfl rfl rfl (by decide +kernel) ⟨Nat.le_of_ble_eq_true rfl, Nat.le_of_ble_eq_true rfl⟩) ⟨b_blind, fun U9 hU9 hW9 => ⟨rfl, hs_pre E Z9 w hm9 U9 hU9 hW9⟩⟩ rfl rfl hl.1 rfl (lv_room (Nat.le_of_ble_eq_true rfl)) dL_refuses_498 ⟨Nat.le_of_ble_eq_true rfl, Nat.le_of_ble_eq_true rfl⟩) hm9 (fun r i H locs hr w => ?_)
  obtain ⟨hI, hr9⟩ := hr
  refine b_tp (hr9.trans (show hs_r 1 = -71 from by decide)) ?_
  refine lv_bipush (v := -71) hx hb dL_refuses_501 (by decide) ?_
  refine lv_icmp_ne (tgt := 510) hx hb dL_refuses_503 (by decide) (fun c9 => absurd rfl c9) (fun c9 => ?_)
  refine lv_iconst (v := nI 1) hx hb dL_refuses_506 (by decide) ?_
  refine lv_goto (tgt := 511) hx hb dL_refuses_507 (by decide) ?_
  refine lv_istore (lv' := [(15, .int (nI 1)), (16, .int (nI 10)), (0, .ref (a 0)), (1, .int (nI (hs_nA x))), (2, .int (nI (hs_nJ x))), (3, .int (nI (hs_td x))), (4, .int 2147483647), (5, .int (hV_hidden x (nI 5))), (6, .int (hV_find x (-1) (-1) (nI 0) (nI 11) (nI 0) (nI 0))), (7, .int (nI 0)), (8, .int (-1)), (9, .int (-1)), (10, .int (-1)), (11, .int (-1)), (12, .int (-1)), (13, .int (-1)), (14, .int (-2147483648))]) hx hb dL_refuses_511 hl (by decide) rfl (fun ls hl => ?_)
  refine lv_iinc (v := nI 11) (lv' := [(16, .int (nI 11)), (15, .int (nI 1)), (0, .ref (a 0)), (1, .int (nI (hs_nA x))), (2, .int (nI (hs_nJ x))), (3, .int (nI (hs_td x))), (4, .int 2147483647), (5, .int (hV_hidden x (nI 5))), (6, .int (hV_find x (-1) (-1) (nI 0) (nI 11) (nI 0) (nI 0))), (7, .int (nI 0)), (8, .int (-1)), (9, .int (-1)), (10, .int (-1)), (11, .int (-1)), (12, .int (-1)), (13, .int (-1)), (14, .int (-2147483648))]) hx hb dL_refuses_513 hl (k := 1) rfl (by decide) (by decide) rfl (fun ls hl => ?_)
  refine lv_goto (tgt := 436) hx hb dL_refuses_516 (by decide) ?_
  refine lv_iload hx hb dL_refuses_436 (lv_at hl 0 rfl) ?_
  refine lv_bipush (v := nI 14) hx hb dL_refuses_438 (by decide) ?_
  refine lv_icmp_ge (tgt := 519) hx hb dL_refuses_440 (by decide) (fun c9 => absurd c9 (by decide)) (fun c9 => ?_)
  refine lv_iload hx hb dL_refuses_443 (lv_at hl 1 rfl) ?_
  refine lv_if_eq (tgt := 519) hx hb dL_refuses_445 (by decide) (fun c9 => absurd c9 (by decide)) (fun c9 => ?_)
  refine lv_iload hx hb dL_refuses_448 (lv_at hl 0 rfl) ?_
  refine lv_bipush (v := nI 7) hx hb dL_refuses_450 (by decide) ?_
  refine lv_icmp_eq (tgt := 506) hx hb dL_refuses_452 (by decide) (fun c9 => absurd c9 (by decide)) (fun c9 => ?_)
  refine lv_aload_n hx hb dL_refuses_455 rfl (lv_at hl 2 rfl) ?_
  refine lv_iload hx hb dL_refuses_456 (lv_at hl 0 rfl) ?_
  refine lv_iload hx hb dL_refuses_458 (lv_at hl 11 rfl) ?_
  refine lv_iconst (v := nI 0) hx hb dL_refuses_460 (by decide) ?_
  refine lv_iconst (v := nI 0) hx hb dL_refuses_461 (by decide) ?_
  refine lv_iconst (v := -1) hx hb dL_refuses_462 (by decide) ?_
  refine lv_iconst (v := nI 0) hx hb dL_refuses_463 (by decide) ?_
  refine hs_calli w (vx_runSW (As := [.ref (a 0), .int (nI 11), .int (-1), .int (nI 0), .int (nI 0), .int (-1), .int (nI 0)]) (rest := []) X (aF_revisions l hl0 G _ a _ _ hI (-1) (nI 0) (nI 0) (-1) (nI 0) 1 (hf_revisions (hf_okA tHas_m1)) (by decide)) (vx_cwSW 7 hts gL_refuses_L_act rfl rfl rfl (by decide +kernel) ⟨Nat.le_of_ble_eq_true rfl, Nat.le_of_ble_eq_true rfl⟩) ⟨b_blind, fun U9 hU9 hW9 => ⟨rfl, hs_pre E Z9 w hm9 U9 hU9 hW9⟩⟩ rfl rfl hl.1 rfl (lv_room (Nat.le_of_ble_eq_true rfl)) dL_refuses_464 ⟨Nat.le_of_ble_eq_true rfl, Nat.le_of_ble_eq_true rfl⟩) hm9 (fun r i H locs hr w => ?_)
  obtain ⟨hI, hr9⟩ := hr
  refine b_tp (hr9.trans (show hs_r 1 = -71 from by decide)) ?_
  refine lv_bipush (v := -71) hx hb dL_refuses_467 (by decide) ?_
  refine lv_icmp_ne (tgt := 510) hx hb dL_refuses_469 (by decide) (fun c9 => absurd rfl c9) (fun c9 => ?_)
  refine lv_aload_n hx hb dL_refuses_472 rfl (lv_at hl 2 rfl) ?_
  refine lv_iload hx hb dL_refuses_473 (lv_at hl 0 rfl) ?_
  refine lv_iconst (v := nI 0) hx hb dL_refuses_475 (by decide) ?_
  refine lv_iload hx hb dL_refuses_476 (lv_at hl 12 rfl) ?_
  refine lv_iconst (v := nI 0) hx hb dL_refuses_478 (by decide) ?_
  refine lv_iconst (v := -1) hx hb dL_refuses_479 (by decide) ?_
  refine lv_iconst (v := nI 0) hx hb dL_refuses_480 (by decide) ?_
  refine hs_calli w (vx_runSW (As := [.ref (a 0), .int (nI 11), .int (nI 0), .int (-1), .int (nI 0), .int (-1), .int (nI 0)]) (rest := []) X (aF_revisions l hl0 G _ a _ _ hI (nI 0) (-1) (nI 0) (-1) (nI 0) 1 (hf_revisions (hf_okJ tHas_m1)) (by decide)) (vx_cwSW 7 hts gL_refuses_L_act rfl rfl rfl (by decide +kernel) ⟨Nat.le_of_ble_eq_true rfl, Nat.le_of_ble_eq_true rfl⟩) ⟨b_blind, fun U9 hU9 hW9 => ⟨rfl, hs_pre E Z9 w hm9 U9 hU9 hW9⟩⟩ rfl rfl hl.1 rfl (lv_room (Nat.le_of_ble_eq_true rfl)) dL_refuses_481 ⟨Nat.le_of_ble_eq_true rfl, Nat.le_of_ble_eq_true rfl⟩) hm9 (fun r i H locs hr w => ?_)
  obtain ⟨hI, hr9⟩ := hr
  refine b_tp (hr9.trans (show hs_r 1 = -71 from by decide)) ?_
  refine lv_bipush (v := -71) hx hb dL_refuses_484 (by decide) ?_
  refine lv_icmp_ne (tgt := 510) hx hb dL_refuses_486 (by decide) (fun c9 => absurd rfl c9) (fun c9 => ?_)
  refine lv_aload_n hx hb dL_refuses_489 rfl (lv_at hl 2 rfl) ?_
  refine lv_iload hx hb dL_refuses_490 (lv_at hl 0 rfl) ?_
  refine lv_iconst (v := nI 0) hx hb dL_refuses_492 (by decide) ?_
  refine lv_iconst (v := nI 0) hx hb dL_refuses_493 (by decide) ?_
  refine lv_iload hx hb dL_refuses_494 (lv_at hl 13 rfl) ?_
  refine lv_iconst (v := -1) hx hb dL_refuses_496 (by decide) ?_
  refine lv_iconst (v := nI 0) hx hb dL_refuses_497 (by decide) ?_
  refine hs_calli w (vx_runSW (As := [.ref (a 0), .int (nI 11), .int (nI 0), .int (nI 0), .int (-1), .int (-1), .int (nI 0)]) (rest := []) X (aF_revisions l hl0 G _ a _ _ hI (nI 0) (nI 0) (-1) (-1) (nI 0) 1 (hf_revisions (hf_okP (by decide))) (by decide)) (vx_cwSW 7 hts gL_refuses_L_act rfl rfl rfl (by decide +kernel) ⟨Nat.le_of_ble_eq_true rfl, Nat.le_of_ble_eq_true rfl⟩) ⟨b_blind, fun U9 hU9 hW9 => ⟨rfl, hs_pre E Z9 w hm9 U9 hU9 hW9⟩⟩ rfl rfl hl.1 rfl (lv_room (Nat.le_of_ble_eq_true rfl)) dL_refuses_498 ⟨Nat.le_of_ble_eq_true rfl, Nat.le_of_ble_eq_true rfl⟩) hm9 (fun r i H locs hr w => ?_)
  obtain ⟨hI, hr9⟩ := hr
  refine b_tp (hr9.trans (show hs_r 1 = -71 from by decide)) ?_
  refine lv_bipush (v := -71) hx hb dL_refuses_501 (by decide) ?_
  refine lv_icmp_ne (tgt := 510) hx hb dL_refuses_503 (by decide) (fun c9 => absurd rfl c9) (fun c9 => ?_)
  refine lv_iconst (v := nI 1) hx hb dL_refuses_506 (by decide) ?_
  refine lv_goto (tgt := 511) hx hb dL_refuses_507 (by decide) ?_
  refine lv_istore (lv' := [(15, .int (nI 1)), (16, .int (nI 11)), (0, .ref (a 0)), (1, .int (nI (hs_nA x))), (2, .int (nI (hs_nJ x))), (3, .int (nI (hs_td x))), (4, .int 2147483647), (5, .int (hV_hidden x (nI 5))), (6, .int (hV_find x (-1) (-1) (nI 0) (nI 11) (nI 0) (nI 0))), (7, .int (nI 0)), (8, .int (-1)), (9, .int (-1)), (10, .int (-1)), (11, .int (-1)), (12, .int (-1)), (13, .int (-1)), (14, .int (-2147483648))]) hx hb dL_refuses_511 hl (by decide) rfl (fun ls hl => ?_)
  refine lv_iinc (v := nI 12) (lv' := [(16, .int (nI 12)), (15, .int (nI 1)), (0, .ref (a 0)), (1, .int (nI (hs_nA x))), (2, .int (nI (hs_nJ x))), (3, .int (nI (hs_td x))), (4, .int 2147483647), (5, .int (hV_hidden x (nI 5))), (6, .int (hV_find x (-1) (-1) (nI 0) (nI 11) (nI 0) (nI 0))), (7, .int (nI 0)), (8, .int (-1)), (9, .int (-1)), (10, .int (-1)), (11, .int (-1)), (12, .int (-1)), (13, .int (-1)), (14, .int (-2147483648))]) hx hb dL_refuses_513 hl (k := 1) rfl (by decide) (by decide) rfl (fun ls hl => ?_)
  refine lv_goto (tgt := 436) hx hb dL_refuses_516 (by decide) ?_
  refine lv_iload hx hb dL_refuses_436 (lv_at hl 0 rfl) ?_
  refine lv_bipush (v := nI 14) hx hb dL_refuses_438 (by decide) ?_
  refine lv_icmp_ge (tgt := 519) hx hb dL_refuses_440 (by decide) (fun c9 => absurd c9 (by decide)) (fun c9 => ?_)
  refine lv_iload hx hb dL_refuses_443 (lv_at hl 1 rfl) ?_
  refine lv_if_eq (tgt := 519) hx hb dL_refuses_445 (by decide) (fun c9 => absurd c9 (by decide)) (fun c9 => ?_)
  refine lv_iload hx hb dL_refuses_448 (lv_at hl 0 rfl) ?_
  refine lv_bipush (v := nI 7) hx hb dL_refuses_450 (by decide) ?_
  refine lv_icmp_eq (tgt := 506) hx hb dL_refuses_452 (by decide) (fun c9 => absurd c9 (by decide)) (fun c9 => ?_)
  refine lv_aload_n hx hb dL_refuses_455 rfl (lv_at hl 2 rfl) ?_
  refine lv_iload hx hb dL_refuses_456 (lv_at hl 0 rfl) ?_
  refine lv_iload hx hb dL_refuses_458 (lv_at hl 11 rfl) ?_
  refine lv_iconst (v := nI 0) hx hb dL_refuses_460 (by decide) ?_
  refine lv_iconst (v := nI 0) hx hb dL_refuses_461 (by decide) ?_
  refine lv_iconst (v := -1) hx hb dL_refuses_462 (by decide) ?_
  refine lv_iconst (v := nI 0) hx hb dL_refuses_463 (by decide) ?_
  refine hs_calli w (vx_runSW (As := [.ref (a 0), .int (nI 12), .int (-1), .int (nI 0), .int (nI 0), .int (-1), .int (nI 0)]) (rest := []) X (aF_hasFault l hl0 G _ a _ _ hI (-1) (nI 0) (nI 0) (-1) (nI 0) 1 (hf_hasFault (hf_okA tHas_m1)) (by decide)) (vx_cwSW 7 hts gL_refuses_L_act rfl rfl rfl (by decide +kernel) ⟨Nat.le_of_ble_eq_true rfl, Nat.le_of_ble_eq_true rfl⟩) ⟨b_blind, fun U9 hU9 hW9 => ⟨rfl, hs_pre E Z9 w hm9 U9 hU9 hW9⟩⟩ rfl rfl hl.1 rfl (lv_room (Nat.le_of_ble_eq_true rfl)) dL_refuses_464 ⟨Nat.le_of_ble_eq_true rfl, Nat.le_of_ble_eq_true rfl⟩) hm9 (fun r i H locs hr w => ?_)
  obtain ⟨hI, hr9⟩ := hr
  refine b_tp (hr9.trans (show hs_r 1 = -71 from by decide)) ?_
  refine lv_bipush (v := -71) hx hb dL_refuses_467 (by decide) ?_
  refine lv_icmp_ne (tgt := 510) hx hb dL_refuses_469 (by decide) (fun c9 => absurd rfl c9) (fun c9 => ?_)
  refine lv_aload_n hx hb dL_refuses_472 rfl (lv_at hl 2 rfl) ?_
  refine lv_iload hx hb dL_refuses_473 (lv_at hl 0 rfl) ?_
  refine lv_iconst (v := nI 0) hx hb dL_refuses_475 (by decide) ?_
  refine lv_iload hx hb dL_refuses_476 (lv_at hl 12 rfl) ?_
  refine lv_iconst (v := nI 0) hx hb dL_refuses_478 (by decide) ?_
  refine lv_iconst (v := -1) hx hb dL_refuses_479 (by decide) ?_
  refine lv_iconst (v := nI 0) hx hb dL_refuses_480 (by decide) ?_
  refine hs_calli w (vx_runSW (As := [.ref (a 0), .int (nI 12), .int (nI 0), .int (-1), .int (nI 0), .int (-1), .int (nI 0)]) (rest := []) X (aF_hasFault l hl0 G _ a _ _ hI (nI 0) (-1) (nI 0) (-1) (nI 0) 1 (hf_hasFault (hf_okJ tHas_m1)) (by decide)) (vx_cwSW 7 hts gL_refuses_L_act rfl rfl rfl (by decide +kernel) ⟨Nat.le_of_ble_eq_true rfl, Nat.le_of_ble_eq_true rfl⟩) ⟨b_blind, fun U9 hU9 hW9 => ⟨rfl, hs_pre E Z9 w hm9 U9 hU9 hW9⟩⟩ rfl rfl hl.1 rfl (lv_room (Nat.le_of_ble_eq_true rfl)) dL_refuses_481 ⟨Nat.le_of_ble_eq_true rfl, Nat.le_of_ble_eq_true rfl⟩) hm9 (fun r i H locs hr w => ?_)
  obtain ⟨hI, hr9⟩ := hr
  refine b_tp (hr9.trans (show hs_r 1 = -71 from by decide)) ?_
  refine lv_bipush (v := -71) hx hb dL_refuses_484 (by decide) ?_
  refine lv_icmp_ne (tgt := 510) hx hb dL_refuses_486 (by decide) (fun c9 => absurd rfl c9) (fun c9 => ?_)
  refine lv_aload_n hx hb dL_refuses_489 rfl (lv_at hl 2 rfl) ?_
  refine lv_iload hx hb dL_refuses_490 (lv_at hl 0 rfl) ?_
  refine lv_iconst (v := nI 0) hx hb dL_refuses_492 (by decide) ?_
  refine lv_iconst (v := nI 0) hx hb dL_refuses_493 (by decide) ?_
  refine lv_iload hx hb dL_refuses_494 (lv_at hl 13 rfl) ?_
  refine lv_iconst (v := -1) hx hb dL_refuses_496 (by decide) ?_
  refine lv_iconst (v := nI 0) hx hb dL_refuses_497 (by decide) ?_
  refine hs_calli w (vx_runSW (As := [.ref (a 0), .int (nI 12), .int (nI 0), .int (nI 0), .int (-1), .int (-1), .int (nI 0)]) (rest := []) X (aF_hasFault l hl0 G _ a _ _ hI (nI 0) (nI 0) (-1) (-1) (nI 0) 1 (hf_hasFault (hf_okP (by decide))) (by decide)) (vx_cwSW 7 hts gL_refuses_L_act rfl rfl rfl (by decide +kernel) ⟨Nat.le_of_ble_eq_true rfl, Nat.le_of_ble_eq_true rfl⟩) ⟨b_blind, fun U9 hU9 hW9 => ⟨rfl, hs_pre E Z9 w hm9 U9 hU9 hW9⟩⟩ rfl rfl hl.1 rfl (lv_room (Nat.le_of_ble_eq_true rfl)) dL_refuses_498 ⟨Nat.le_of_ble_eq_true rfl, Nat.le_of_ble_eq_true rfl⟩) hm9 (fun r i H locs hr w => ?_)
  obtain ⟨hI, hr9⟩ := hr
  refine b_tp (hr9.trans (show hs_r 1 = -71 from by decide)) ?_
  refine lv_bipush (v := -71) hx hb dL_refuses_501 (by decide) ?_
  refine lv_icmp_ne (tgt := 510) hx hb dL_refuses_503 (by decide) (fun c9 => absurd rfl c9) (fun c9 => ?_)
  refine lv_iconst (v := nI 1) hx hb dL_refuses_506 (by decide) ?_
  refine lv_goto (tgt := 511) hx hb dL_refuses_507 (by decide) ?_
  refine lv_istore (lv' := [(15, .int (nI 1)), (16, .int (nI 12)), (0, .ref (a 0)), (1, .int (nI (hs_nA x))), (2, .int (nI (hs_nJ x))), (3, .int (nI (hs_td x))), (4, .int 2147483647), (5, .int (hV_hidden x (nI 5))), (6, .int (hV_find x (-1) (-1) (nI 0) (nI 11) (nI 0) (nI 0))), (7, .int (nI 0)), (8, .int (-1)), (9, .int (-1)), (10, .int (-1)), (11, .int (-1)), (12, .int (-1)), (13, .int (-1)), (14, .int (-2147483648))]) hx hb dL_refuses_511 hl (by decide) rfl (fun ls hl => ?_)
  refine lv_iinc (v := nI 13) (lv' := [(16, .int (nI 13)), (15, .int (nI 1)), (0, .ref (a 0)), (1, .int (nI (hs_nA x))), (2, .int (nI (hs_nJ x))), (3, .int (nI (hs_td x))), (4, .int 2147483647), (5, .int (hV_hidden x (nI 5))), (6, .int (hV_find x (-1) (-1) (nI 0) (nI 11) (nI 0) (nI 0))), (7, .int (nI 0)), (8, .int (-1)), (9, .int (-1)), (10, .int (-1)), (11, .int (-1)), (12, .int (-1)), (13, .int (-1)), (14, .int (-2147483648))]) hx hb dL_refuses_513 hl (k := 1) rfl (by decide) (by decide) rfl (fun ls hl => ?_)
  refine lv_goto (tgt := 436) hx hb dL_refuses_516 (by decide) ?_
  refine lv_iload hx hb dL_refuses_436 (lv_at hl 0 rfl) ?_
  refine lv_bipush (v := nI 14) hx hb dL_refuses_438 (by decide) ?_
  refine lv_icmp_ge (tgt := 519) hx hb dL_refuses_440 (by decide) (fun c9 => absurd c9 (by decide)) (fun c9 => ?_)
  refine lv_iload hx hb dL_refuses_443 (lv_at hl 1 rfl) ?_
  refine lv_if_eq (tgt := 519) hx hb dL_refuses_445 (by decide) (fun c9 => absurd c9 (by decide)) (fun c9 => ?_)
  refine lv_iload hx hb dL_refuses_448 (lv_at hl 0 rfl) ?_
  refine lv_bipush (v := nI 7) hx hb dL_refuses_450 (by decide) ?_
  refine lv_icmp_eq (tgt := 506) hx hb dL_refuses_452 (by decide) (fun c9 => absurd c9 (by decide)) (fun c9 => ?_)
  refine lv_aload_n hx hb dL_refuses_455 rfl (lv_at hl 2 rfl) ?_
  refine lv_iload hx hb dL_refuses_456 (lv_at hl 0 rfl) ?_
  refine lv_iload hx hb dL_refuses_458 (lv_at hl 11 rfl) ?_
  refine lv_iconst (v := nI 0) hx hb dL_refuses_460 (by decide) ?_
  refine lv_iconst (v := nI 0) hx hb dL_refuses_461 (by decide) ?_
  refine lv_iconst (v := -1) hx hb dL_refuses_462 (by decide) ?_
  refine lv_iconst (v := nI 0) hx hb dL_refuses_463 (by decide) ?_
  refine hs_calli w (vx_runSW (As := [.ref (a 0), .int (nI 13), .int (-1), .int (nI 0), .int (nI 0), .int (-1), .int (nI 0)]) (rest := []) X (aF_shown l hl0 G _ a _ _ hI (-1) (nI 0) (nI 0) (-1) (nI 0) 1 (hf_shown (hf_okA tHas_m1)) (by decide)) (vx_cwSW 7 hts gL_refuses_L_act rfl rfl rfl (by decide +kernel) ⟨Nat.le_of_ble_eq_true rfl, Nat.le_of_ble_eq_true rfl⟩) ⟨b_blind, fun U9 hU9 hW9 => ⟨rfl, hs_pre E Z9 w hm9 U9 hU9 hW9⟩⟩ rfl rfl hl.1 rfl (lv_room (Nat.le_of_ble_eq_true rfl)) dL_refuses_464 ⟨Nat.le_of_ble_eq_true rfl, Nat.le_of_ble_eq_true rfl⟩) hm9 (fun r i H locs hr w => ?_)
  obtain ⟨hI, hr9⟩ := hr
  refine b_tp (hr9.trans (show hs_r 1 = -71 from by decide)) ?_
  refine lv_bipush (v := -71) hx hb dL_refuses_467 (by decide) ?_
  refine lv_icmp_ne (tgt := 510) hx hb dL_refuses_469 (by decide) (fun c9 => absurd rfl c9) (fun c9 => ?_)
  refine lv_aload_n hx hb dL_refuses_472 rfl (lv_at hl 2 rfl) ?_
  refine lv_iload hx hb dL_refuses_473 (lv_at hl 0 rfl) ?_
  refine lv_iconst (v := nI 0) hx hb dL_refuses_475 (by decide) ?_
  refine lv_iload hx hb dL_refuses_476 (lv_at hl 12 rfl) ?_
  refine lv_iconst (v := nI 0) hx hb dL_refuses_478 (by decide) ?_
  refine lv_iconst (v := -1) hx hb dL_refuses_479 (by decide) ?_
  refine lv_iconst (v := nI 0) hx hb dL_refuses_480 (by decide) ?_
  refine hs_calli w (vx_runSW (As := [.ref (a 0), .int (nI 13), .int (nI 0), .int (-1), .int (nI 0), .int (-1), .int (nI 0)]) (rest := []) X (aF_shown l hl0 G _ a _ _ hI (nI 0) (-1) (nI 0) (-1) (nI 0) 1 (hf_shown (hf_okJ tHas_m1)) (by decide)) (vx_cwSW 7 hts gL_refuses_L_act rfl rfl rfl (by decide +kernel) ⟨Nat.le_of_ble_eq_true rfl, Nat.le_of_ble_eq_true rfl⟩) ⟨b_blind, fun U9 hU9 hW9 => ⟨rfl, hs_pre E Z9 w hm9 U9 hU9 hW9⟩⟩ rfl rfl hl.1 rfl (lv_room (Nat.le_of_ble_eq_true rfl)) dL_refuses_481 ⟨Nat.le_of_ble_eq_true rfl, Nat.le_of_ble_eq_true rfl⟩) hm9 (fun r i H locs hr w => ?_)
  obtain ⟨hI, hr9⟩ := hr
  refine b_tp (hr9.trans (show hs_r 1 = -71 from by decide)) ?_
  refine lv_bipush (v := -71) hx hb dL_refuses_484 (by decide) ?_
  refine lv_icmp_ne (tgt := 510) hx hb dL_refuses_486 (by decide) (fun c9 => absurd rfl c9) (fun c9 => ?_)
  refine lv_aload_n hx hb dL_refuses_489 rfl (lv_at hl 2 rfl) ?_
  refine lv_iload hx hb dL_refuses_490 (lv_at hl 0 rfl) ?_
  refine lv_iconst (v := nI 0) hx hb dL_refuses_492 (by decide) ?_
  refine lv_iconst (v := nI 0) hx hb dL_refuses_493 (by decide) ?_
  refine lv_iload hx hb dL_refuses_494 (lv_at hl 13 rfl) ?_
  refine lv_iconst (v := -1) hx hb dL_refuses_496 (by decide) ?_
  refine lv_iconst (v := nI 0) hx hb dL_refuses_497 (by decide) ?_
  refine hs_calli w (vx_runSW (As := [.ref (a 0), .int (nI 13), .int (nI 0), .int (nI 0), .int (-1), .int (-1), .int (nI 0)]) (rest := []) X (aF_shown l hl0 G _ a _ _ hI (nI 0) (nI 0) (-1) (-1) (nI 0) 1 (hf_shown (hf_okP (by decide))) (by decide)) (vx_cwSW 7 hts gL_refuses_L_act rfl rfl rfl (by decide +kernel) ⟨Nat.le_of_ble_eq_true rfl, Nat.le_of_ble_eq_true rfl⟩) ⟨b_blind, fun U9 hU9 hW9 => ⟨rfl, hs_pre E Z9 w hm9 U9 hU9 hW9⟩⟩ rfl rfl hl.1 rfl (lv_room (Nat.le_of_ble_eq_true rfl)) dL_refuses_498 ⟨Nat.le_of_ble_eq_true rfl, Nat.le_of_ble_eq_true rfl⟩) hm9 (fun r i H locs hr w => ?_)
  obtain ⟨hI, hr9⟩ := hr
  refine b_tp (hr9.trans (show hs_r 1 = -71 from by decide)) ?_
  refine lv_bipush (v := -71) hx hb dL_refuses_501 (by decide) ?_
  refine lv_icmp_ne (tgt := 510) hx hb dL_refuses_503 (by decide) (fun c9 => absurd rfl c9) (fun c9 => ?_)
  refine lv_iconst (v := nI 1) hx hb dL_refuses_506 (by decide) ?_
  refine lv_goto (tgt := 511) hx hb dL_refuses_507 (by decide) ?_
  refine lv_istore (lv' := [(15, .int (nI 1)), (16, .int (nI 13)), (0, .ref (a 0)), (1, .int (nI (hs_nA x))), (2, .int (nI (hs_nJ x))), (3, .int (nI (hs_td x))), (4, .int 2147483647), (5, .int (hV_hidden x (nI 5))), (6, .int (hV_find x (-1) (-1) (nI 0) (nI 11) (nI 0) (nI 0))), (7, .int (nI 0)), (8, .int (-1)), (9, .int (-1)), (10, .int (-1)), (11, .int (-1)), (12, .int (-1)), (13, .int (-1)), (14, .int (-2147483648))]) hx hb dL_refuses_511 hl (by decide) rfl (fun ls hl => ?_)
  refine lv_iinc (v := nI 14) (lv' := [(16, .int (nI 14)), (15, .int (nI 1)), (0, .ref (a 0)), (1, .int (nI (hs_nA x))), (2, .int (nI (hs_nJ x))), (3, .int (nI (hs_td x))), (4, .int 2147483647), (5, .int (hV_hidden x (nI 5))), (6, .int (hV_find x (-1) (-1) (nI 0) (nI 11) (nI 0) (nI 0))), (7, .int (nI 0)), (8, .int (-1)), (9, .int (-1)), (10, .int (-1)), (11, .int (-1)), (12, .int (-1)), (13, .int (-1)), (14, .int (-2147483648))]) hx hb dL_refuses_513 hl (k := 1) rfl (by decide) (by decide) rfl (fun ls hl => ?_)
  refine lv_goto (tgt := 436) hx hb dL_refuses_516 (by decide) ?_
  refine lv_iload hx hb dL_refuses_436 (lv_at hl 0 rfl) ?_
  refine lv_bipush (v := nI 14) hx hb dL_refuses_438 (by decide) ?_
  refine lv_icmp_ge (tgt := 519) hx hb dL_refuses_440 (by decide) (fun c9 => ?_) (fun c9 => absurd (by decide) c9)
  refine lv_iload hx hb dL_refuses_519 (lv_at hl 1 rfl) ?_
  refine lv_if_eq (tgt := 675) hx hb dL_refuses_521 (by decide) (fun c9 => absurd c9 (by decide)) (fun c9 => ?_)
  refine lv_aload_n hx hb dL_refuses_524 rfl (lv_at hl 2 rfl) ?_
  refine lv_iload hx hb dL_refuses_525 (lv_at hl 9 rfl) ?_
  refine lv_if_ne (tgt := 535) hx hb dL_refuses_527 (by decide) (fun c9 => absurd rfl c9) (fun c9 => ?_)
  refine lv_bipush (v := -2) hx hb dL_refuses_530 (by decide) ?_
  refine lv_goto (tgt := 537) hx hb dL_refuses_532 (by decide) ?_
  refine lv_iconst (v := -1) hx hb dL_refuses_537 (by decide) ?_
  refine lv_bipush (v := nI 9) hx hb dL_refuses_538 (by decide) ?_
  refine lv_iconst (v := nI 0) hx hb dL_refuses_540 (by decide) ?_
  refine lv_iconst (v := nI 0) hx hb dL_refuses_541 (by decide) ?_
  refine lv_iconst (v := nI 0) hx hb dL_refuses_542 (by decide) ?_
  refine hs_calli w (vx_runSW (As := [.ref (a 0), .int (-2), .int (-1), .int (nI 9), .int (nI 0), .int (nI 0), .int (nI 0)]) (rest := []) X (fF l hl0 G _ a _ _ hI (-2) (-1) (nI 9) (nI 0) (nI 0) (nI 0) 1 (hf_find1 (Or.inl (hn_pat (tHas_lo (by decide)) (by decide)))) (by decide)) (vx_cwSW 7 hts gL_refuses_L_find rfl rfl rfl (by decide +kernel) ⟨Nat.le_of_ble_eq_true rfl, Nat.le_of_ble_eq_true rfl⟩) ⟨b_blind, fun U9 hU9 hW9 => ⟨rfl, hs_pre E Z9 w hm9 U9 hU9 hW9⟩⟩ rfl rfl hl.1 rfl (lv_room (Nat.le_of_ble_eq_true rfl)) dL_refuses_543 ⟨Nat.le_of_ble_eq_true rfl, Nat.le_of_ble_eq_true rfl⟩) hm9 (fun r i H locs hr w => ?_)
  obtain ⟨hI, hr9⟩ := hr
  refine b_tp (hr9.trans (show hs_r 1 = -71 from by decide)) ?_
  refine lv_bipush (v := -71) hx hb dL_refuses_546 (by decide) ?_
  refine lv_icmp_ne (tgt := 675) hx hb dL_refuses_548 (by decide) (fun c9 => absurd rfl c9) (fun c9 => ?_)
  refine lv_aload_n hx hb dL_refuses_551 rfl (lv_at hl 2 rfl) ?_
  refine lv_iconst (v := -1) hx hb dL_refuses_552 (by decide) ?_
  refine lv_iload hx hb dL_refuses_553 (lv_at hl 9 rfl) ?_
  refine lv_if_ne (tgt := 563) hx hb dL_refuses_555 (by decide) (fun c9 => absurd rfl c9) (fun c9 => ?_)
  refine lv_bipush (v := -2) hx hb dL_refuses_558 (by decide) ?_
  refine lv_goto (tgt := 565) hx hb dL_refuses_560 (by decide) ?_
  refine lv_bipush (v := nI 9) hx hb dL_refuses_565 (by decide) ?_
  refine lv_iconst (v := nI 0) hx hb dL_refuses_567 (by decide) ?_
  refine lv_iconst (v := nI 0) hx hb dL_refuses_568 (by decide) ?_
  refine lv_iconst (v := nI 0) hx hb dL_refuses_569 (by decide) ?_
  refine hs_calli w (vx_runSW (As := [.ref (a 0), .int (-1), .int (-2), .int (nI 9), .int (nI 0), .int (nI 0), .int (nI 0)]) (rest := []) X (fF l hl0 G _ a _ _ hI (-1) (-2) (nI 9) (nI 0) (nI 0) (nI 0) 1 (hf_find1 (Or.inr (Or.inl (hn_pat (tHas_lo (by decide)) (by decide))))) (by decide)) (vx_cwSW 7 hts gL_refuses_L_find rfl rfl rfl (by decide +kernel) ⟨Nat.le_of_ble_eq_true rfl, Nat.le_of_ble_eq_true rfl⟩) ⟨b_blind, fun U9 hU9 hW9 => ⟨rfl, hs_pre E Z9 w hm9 U9 hU9 hW9⟩⟩ rfl rfl hl.1 rfl (lv_room (Nat.le_of_ble_eq_true rfl)) dL_refuses_570 ⟨Nat.le_of_ble_eq_true rfl, Nat.le_of_ble_eq_true rfl⟩) hm9 (fun r i H locs hr w => ?_)
  obtain ⟨hI, hr9⟩ := hr
  refine b_tp (hr9.trans (show hs_r 1 = -71 from by decide)) ?_
  refine lv_bipush (v := -71) hx hb dL_refuses_573 (by decide) ?_
  refine lv_icmp_ne (tgt := 675) hx hb dL_refuses_575 (by decide) (fun c9 => absurd rfl c9) (fun c9 => ?_)
  refine lv_aload_n hx hb dL_refuses_578 rfl (lv_at hl 2 rfl) ?_
  refine lv_iconst (v := -1) hx hb dL_refuses_579 (by decide) ?_
  refine lv_iconst (v := -1) hx hb dL_refuses_580 (by decide) ?_
  refine lv_bipush (v := nI 9) hx hb dL_refuses_581 (by decide) ?_
  refine lv_iconst (v := nI 0) hx hb dL_refuses_583 (by decide) ?_
  refine lv_iconst (v := nI 0) hx hb dL_refuses_584 (by decide) ?_
  refine lv_iload hx hb dL_refuses_585 (lv_at hl 16 rfl) ?_
  refine hs_calli w (vx_runSW (As := [.ref (a 0), .int (-1), .int (-1), .int (nI 9), .int (nI 0), .int (nI 0), .int (-2147483648)]) (rest := []) X (fF l hl0 G _ a _ _ hI (-1) (-1) (nI 9) (nI 0) (nI 0) (-2147483648) 1 (hf_find1 (Or.inr (Or.inr (by decide)))) (by decide)) (vx_cwSW 7 hts gL_refuses_L_find rfl rfl rfl (by decide +kernel) ⟨Nat.le_of_ble_eq_true rfl, Nat.le_of_ble_eq_true rfl⟩) ⟨b_blind, fun U9 hU9 hW9 => ⟨rfl, hs_pre E Z9 w hm9 U9 hU9 hW9⟩⟩ rfl rfl hl.1 rfl (lv_room (Nat.le_of_ble_eq_true rfl)) dL_refuses_587 ⟨Nat.le_of_ble_eq_true rfl, Nat.le_of_ble_eq_true rfl⟩) hm9 (fun r i H locs hr w => ?_)
  obtain ⟨hI, hr9⟩ := hr
  refine b_tp (hr9.trans (show hs_r 1 = -71 from by decide)) ?_
  refine lv_bipush (v := -71) hx hb dL_refuses_590 (by decide) ?_
  refine lv_icmp_ne (tgt := 675) hx hb dL_refuses_592 (by decide) (fun c9 => absurd rfl c9) (fun c9 => ?_)
  refine lv_aload_n hx hb dL_refuses_595 rfl (lv_at hl 2 rfl) ?_
  refine lv_iconst (v := -1) hx hb dL_refuses_596 (by decide) ?_
  refine lv_iconst (v := -1) hx hb dL_refuses_597 (by decide) ?_
  refine lv_iload hx hb dL_refuses_598 (lv_at hl 13 rfl) ?_
  refine lv_bipush (v := nI 11) hx hb dL_refuses_600 (by decide) ?_
  refine lv_iconst (v := nI 0) hx hb dL_refuses_602 (by decide) ?_
  refine lv_iconst (v := nI 0) hx hb dL_refuses_603 (by decide) ?_
  refine hs_calli w (vx_runSW (As := [.ref (a 0), .int (-1), .int (-1), .int (-1), .int (nI 11), .int (nI 0), .int (nI 0)]) (rest := []) X (fF l hl0 G _ a _ _ hI (-1) (-1) (-1) (nI 11) (nI 0) (nI 0) 2 (hf_find2 (by decide) (by decide)) (by decide)) (vx_cwSW 7 hts gL_refuses_L_find rfl rfl rfl (by decide +kernel) ⟨Nat.le_of_ble_eq_true rfl, Nat.le_of_ble_eq_true rfl⟩) ⟨b_blind, fun U9 hU9 hW9 => ⟨rfl, hs_pre E Z9 w hm9 U9 hU9 hW9⟩⟩ rfl rfl hl.1 rfl (lv_room (Nat.le_of_ble_eq_true rfl)) dL_refuses_604 ⟨Nat.le_of_ble_eq_true rfl, Nat.le_of_ble_eq_true rfl⟩) hm9 (fun r i H locs hr w => ?_)
  obtain ⟨hI, hr9⟩ := hr
  refine b_tp (hr9.trans (show hs_r 2 = -72 from by decide)) ?_
  refine lv_bipush (v := -72) hx hb dL_refuses_607 (by decide) ?_
  refine lv_icmp_ne (tgt := 675) hx hb dL_refuses_609 (by decide) (fun c9 => absurd rfl c9) (fun c9 => ?_)
  refine lv_aload_n hx hb dL_refuses_612 rfl (lv_at hl 2 rfl) ?_
  refine lv_iconst (v := -1) hx hb dL_refuses_613 (by decide) ?_
  refine lv_iconst (v := -1) hx hb dL_refuses_614 (by decide) ?_
  refine lv_iconst (v := nI 0) hx hb dL_refuses_615 (by decide) ?_
  refine lv_iload hx hb dL_refuses_616 (lv_at hl 13 rfl) ?_
  refine lv_iconst (v := nI 0) hx hb dL_refuses_618 (by decide) ?_
  refine lv_iconst (v := nI 0) hx hb dL_refuses_619 (by decide) ?_
  refine hs_calli w (vx_runSW (As := [.ref (a 0), .int (-1), .int (-1), .int (nI 0), .int (-1), .int (nI 0), .int (nI 0)]) (rest := []) X (fF l hl0 G _ a _ _ hI (-1) (-1) (nI 0) (-1) (nI 0) (nI 0) 2 (hf_find2 (by decide) (by decide)) (by decide)) (vx_cwSW 7 hts gL_refuses_L_find rfl rfl rfl (by decide +kernel) ⟨Nat.le_of_ble_eq_true rfl, Nat.le_of_ble_eq_true rfl⟩) ⟨b_blind, fun U9 hU9 hW9 => ⟨rfl, hs_pre E Z9 w hm9 U9 hU9 hW9⟩⟩ rfl rfl hl.1 rfl (lv_room (Nat.le_of_ble_eq_true rfl)) dL_refuses_620 ⟨Nat.le_of_ble_eq_true rfl, Nat.le_of_ble_eq_true rfl⟩) hm9 (fun r i H locs hr w => ?_)
  obtain ⟨hI, hr9⟩ := hr
  refine b_tp (hr9.trans (show hs_r 2 = -72 from by decide)) ?_
  refine lv_bipush (v := -72) hx hb dL_refuses_623 (by decide) ?_
  refine lv_icmp_ne (tgt := 675) hx hb dL_refuses_625 (by decide) (fun c9 => absurd rfl c9) (fun c9 => ?_)
  refine lv_aload_n hx hb dL_refuses_628 rfl (lv_at hl 2 rfl) ?_
  refine lv_iconst (v := -1) hx hb dL_refuses_629 (by decide) ?_
  refine lv_iconst (v := -1) hx hb dL_refuses_630 (by decide) ?_
  refine lv_iconst (v := nI 5) hx hb dL_refuses_631 (by decide) ?_
  refine lv_iconst (v := nI 4) hx hb dL_refuses_632 (by decide) ?_
  refine lv_iconst (v := nI 0) hx hb dL_refuses_633 (by decide) ?_
  refine lv_iconst (v := nI 0) hx hb dL_refuses_634 (by decide) ?_
  refine hs_calli w (vx_runSW (As := [.ref (a 0), .int (-1), .int (-1), .int (nI 5), .int (nI 4), .int (nI 0), .int (nI 0)]) (rest := []) X (fF l hl0 G _ a _ _ hI (-1) (-1) (nI 5) (nI 4) (nI 0) (nI 0) 2 (hf_find2 (by decide) (by decide)) (by decide)) (vx_cwSW 7 hts gL_refuses_L_find rfl rfl rfl (by decide +kernel) ⟨Nat.le_of_ble_eq_true rfl, Nat.le_of_ble_eq_true rfl⟩) ⟨b_blind, fun U9 hU9 hW9 => ⟨rfl, hs_pre E Z9 w hm9 U9 hU9 hW9⟩⟩ rfl rfl hl.1 rfl (lv_room (Nat.le_of_ble_eq_true rfl)) dL_refuses_635 ⟨Nat.le_of_ble_eq_true rfl, Nat.le_of_ble_eq_true rfl⟩) hm9 (fun r i H locs hr w => ?_)
  obtain ⟨hI, hr9⟩ := hr
  refine b_tp (hr9.trans (show hs_r 2 = -72 from by decide)) ?_
  refine lv_bipush (v := -72) hx hb dL_refuses_638 (by decide) ?_
  refine lv_icmp_ne (tgt := 675) hx hb dL_refuses_640 (by decide) (fun c9 => absurd rfl c9) (fun c9 => ?_)
  refine lv_aload_n hx hb dL_refuses_643 rfl (lv_at hl 2 rfl) ?_
  refine lv_iconst (v := -1) hx hb dL_refuses_644 (by decide) ?_
  refine lv_iconst (v := -1) hx hb dL_refuses_645 (by decide) ?_
  refine lv_iconst (v := nI 0) hx hb dL_refuses_646 (by decide) ?_
  refine lv_iconst (v := nI 0) hx hb dL_refuses_647 (by decide) ?_
  refine lv_iload hx hb dL_refuses_648 (lv_at hl 9 rfl) ?_
  refine lv_iconst (v := nI 1) hx hb dL_refuses_650 (by decide) ?_
  refine lv_icmp_ne (tgt := 660) hx hb dL_refuses_651 (by decide) (fun c9 => ?_) (fun c9 => absurd c9 (by decide))
  refine lv_iload hx hb dL_refuses_660 (lv_at hl 10 rfl) ?_
  refine lv_iconst (v := nI 0) hx hb dL_refuses_662 (by decide) ?_
  refine hs_calli w (vx_runSW (As := [.ref (a 0), .int (-1), .int (-1), .int (nI 0), .int (nI 0), .int (-1), .int (nI 0)]) (rest := []) X (fF l hl0 G _ a _ _ hI (-1) (-1) (nI 0) (nI 0) (-1) (nI 0) 2 (hf_find2 (by decide) (by decide)) (by decide)) (vx_cwSW 7 hts gL_refuses_L_find rfl rfl rfl (by decide +kernel) ⟨Nat.le_of_ble_eq_true rfl, Nat.le_of_ble_eq_true rfl⟩) ⟨b_blind, fun U9 hU9 hW9 => ⟨rfl, hs_pre E Z9 w hm9 U9 hU9 hW9⟩⟩ rfl rfl hl.1 rfl (lv_room (Nat.le_of_ble_eq_true rfl)) dL_refuses_663 ⟨Nat.le_of_ble_eq_true rfl, Nat.le_of_ble_eq_true rfl⟩) hm9 (fun r i H locs hr w => ?_)
  obtain ⟨hI, hr9⟩ := hr
  refine b_tp (hr9.trans (show hs_r 2 = -72 from by decide)) ?_
  refine lv_bipush (v := -72) hx hb dL_refuses_666 (by decide) ?_
  refine lv_icmp_ne (tgt := 675) hx hb dL_refuses_668 (by decide) (fun c9 => absurd rfl c9) (fun c9 => ?_)
  refine lv_iconst (v := nI 1) hx hb dL_refuses_671 (by decide) ?_
  refine lv_goto (tgt := 676) hx hb dL_refuses_672 (by decide) ?_
  refine lv_istore (lv' := [(15, .int (nI 1)), (16, .int (nI 14)), (0, .ref (a 0)), (1, .int (nI (hs_nA x))), (2, .int (nI (hs_nJ x))), (3, .int (nI (hs_td x))), (4, .int 2147483647), (5, .int (hV_hidden x (nI 5))), (6, .int (hV_find x (-1) (-1) (nI 0) (nI 11) (nI 0) (nI 0))), (7, .int (nI 0)), (8, .int (-1)), (9, .int (-1)), (10, .int (-1)), (11, .int (-1)), (12, .int (-1)), (13, .int (-1)), (14, .int (-2147483648))]) hx hb dL_refuses_676 hl (by decide) rfl (fun ls hl => ?_)
  refine lv_iload hx hb dL_refuses_678 (lv_at hl 0 rfl) ?_
  refine lv_if_eq (tgt := 806) hx hb dL_refuses_680 (by decide) (fun c9 => absurd c9 (by decide)) (fun c9 => ?_)
  refine lv_iload_n hx hb dL_refuses_683 rfl (lv_at hl 3 rfl) ?_
  refine lv_if_eq (tgt := 802) hx hb dL_refuses_684 (by decide) (fun c_684_1 => ?_) (fun c_684_1 => ?_)
  · have q_684_2 : (hs_nA x) = 0 := (nI_z (by omega)).mp c_684_1
    refine lv_iconst (v := nI 1) hx hb dL_refuses_802 (by decide) ?_
    refine lv_goto (tgt := 807) hx hb dL_refuses_803 (by decide) ?_
    refine lv_istore (lv' := [(15, .int (nI 1)), (16, .int (nI 14)), (0, .ref (a 0)), (1, .int (nI (hs_nA x))), (2, .int (nI (hs_nJ x))), (3, .int (nI (hs_td x))), (4, .int 2147483647), (5, .int (hV_hidden x (nI 5))), (6, .int (hV_find x (-1) (-1) (nI 0) (nI 11) (nI 0) (nI 0))), (7, .int (nI 0)), (8, .int (-1)), (9, .int (-1)), (10, .int (-1)), (11, .int (-1)), (12, .int (-1)), (13, .int (-1)), (14, .int (-2147483648))]) hx hb dL_refuses_807 hl (by decide) rfl (fun ls hl => ?_)
    refine lv_iload hx hb dL_refuses_809 (lv_at hl 0 rfl) ?_
    refine lv_if_ne (tgt := 816) hx hb dL_refuses_811 (by decide) (fun c9 => ?_) (fun c9 => absurd c9 (by decide))
    refine lv_iinc (v := nI 1) (lv' := [(7, .int (nI 1)), (15, .int (nI 1)), (16, .int (nI 14)), (0, .ref (a 0)), (1, .int (nI (hs_nA x))), (2, .int (nI (hs_nJ x))), (3, .int (nI (hs_td x))), (4, .int 2147483647), (5, .int (hV_hidden x (nI 5))), (6, .int (hV_find x (-1) (-1) (nI 0) (nI 11) (nI 0) (nI 0))), (8, .int (-1)), (9, .int (-1)), (10, .int (-1)), (11, .int (-1)), (12, .int (-1)), (13, .int (-1)), (14, .int (-2147483648))]) hx hb dL_refuses_816 hl (k := 9) rfl (by decide) (by decide) rfl (fun ls hl => ?_)
    refine lv_goto (tgt := 27) hx hb dL_refuses_819 (by decide) ?_
    refine W.widen (k := 83) (n := 498) (by decide) (by decide) ?_
    exact kk i _ _ _ hI w (lv_sub hl [3, 4, 5, 6, 7, 8, 9, 0] rfl)
  · have q_684_2 : ¬ (hs_nA x) = 0 := fun h9 => c_684_1 ((nI_z (by omega)).mpr h9)
    refine lv_iload_n hx hb dL_refuses_687 rfl (lv_at hl 4 rfl) ?_
    refine lv_if_eq (tgt := 802) hx hb dL_refuses_688 (by decide) (fun c_688_3 => ?_) (fun c_688_3 => ?_)
    · have q_688_4 : (hs_nJ x) = 0 := (nI_z (by omega)).mp c_688_3
      refine lv_iconst (v := nI 1) hx hb dL_refuses_802 (by decide) ?_
      refine lv_goto (tgt := 807) hx hb dL_refuses_803 (by decide) ?_
      refine lv_istore (lv' := [(15, .int (nI 1)), (16, .int (nI 14)), (0, .ref (a 0)), (1, .int (nI (hs_nA x))), (2, .int (nI (hs_nJ x))), (3, .int (nI (hs_td x))), (4, .int 2147483647), (5, .int (hV_hidden x (nI 5))), (6, .int (hV_find x (-1) (-1) (nI 0) (nI 11) (nI 0) (nI 0))), (7, .int (nI 0)), (8, .int (-1)), (9, .int (-1)), (10, .int (-1)), (11, .int (-1)), (12, .int (-1)), (13, .int (-1)), (14, .int (-2147483648))]) hx hb dL_refuses_807 hl (by decide) rfl (fun ls hl => ?_)
      refine lv_iload hx hb dL_refuses_809 (lv_at hl 0 rfl) ?_
      refine lv_if_ne (tgt := 816) hx hb dL_refuses_811 (by decide) (fun c9 => ?_) (fun c9 => absurd c9 (by decide))
      refine lv_iinc (v := nI 1) (lv' := [(7, .int (nI 1)), (15, .int (nI 1)), (16, .int (nI 14)), (0, .ref (a 0)), (1, .int (nI (hs_nA x))), (2, .int (nI (hs_nJ x))), (3, .int (nI (hs_td x))), (4, .int 2147483647), (5, .int (hV_hidden x (nI 5))), (6, .int (hV_find x (-1) (-1) (nI 0) (nI 11) (nI 0) (nI 0))), (8, .int (-1)), (9, .int (-1)), (10, .int (-1)), (11, .int (-1)), (12, .int (-1)), (13, .int (-1)), (14, .int (-2147483648))]) hx hb dL_refuses_816 hl (k := 9) rfl (by decide) (by decide) rfl (fun ls hl => ?_)
      refine lv_goto (tgt := 27) hx hb dL_refuses_819 (by decide) ?_
      refine W.widen (k := 83) (n := 498) (by decide) (by decide) ?_
      exact kk i _ _ _ hI w (lv_sub hl [3, 4, 5, 6, 7, 8, 9, 0] rfl)
    · have q_688_4 : ¬ (hs_nJ x) = 0 := fun h9 => c_688_3 ((nI_z (by omega)).mpr h9)
      refine lv_aload_n hx hb dL_refuses_691 rfl (lv_at hl 2 rfl) ?_
      refine lv_iconst (v := nI 3) hx hb dL_refuses_692 (by decide) ?_
      refine lv_iload hx hb dL_refuses_693 (lv_at hl 15 rfl) ?_
      refine lv_iconst (v := nI 0) hx hb dL_refuses_695 (by decide) ?_
      refine lv_iconst (v := nI 0) hx hb dL_refuses_696 (by decide) ?_
      refine lv_iconst (v := nI 0) hx hb dL_refuses_697 (by decide) ?_
      refine lv_iconst (v := nI 0) hx hb dL_refuses_698 (by decide) ?_
      refine hs_calli w (vx_runSW (As := [.ref (a 0), .int (nI 3), .int (-1), .int (nI 0), .int (nI 0), .int (nI 0), .int (nI 0)]) (rest := []) X (aF_put l hl0 G _ a _ _ hI (-1) (nI 0) (nI 0) (nI 0) (nI 0) 2 (hf_put2 (hf_ok0 (Nat.pos_of_ne_zero q_684_2) (Nat.pos_of_ne_zero q_688_4) hnA hnJ) (by decide)) (by decide)) (vx_cwSW 7 hts gL_refuses_L_act rfl rfl rfl (by decide +kernel) ⟨Nat.le_of_ble_eq_true rfl, Nat.le_of_ble_eq_true rfl⟩) ⟨b_blind, fun U9 hU9 hW9 => ⟨rfl, hs_pre E Z9 w hm9 U9 hU9 hW9⟩⟩ rfl rfl hl.1 rfl (lv_room (Nat.le_of_ble_eq_true rfl)) dL_refuses_699 ⟨Nat.le_of_ble_eq_true rfl, Nat.le_of_ble_eq_true rfl⟩) hm9 (fun r i H locs hr w => ?_)
      obtain ⟨hI, hr9⟩ := hr
      refine b_tp (hr9.trans (show hs_r 2 = -72 from by decide)) ?_
      refine lv_bipush (v := -72) hx hb dL_refuses_702 (by decide) ?_
      refine lv_icmp_ne (tgt := 806) hx hb dL_refuses_704 (by decide) (fun c9 => absurd rfl c9) (fun c9 => ?_)
      refine lv_aload_n hx hb dL_refuses_707 rfl (lv_at hl 2 rfl) ?_
      refine lv_iconst (v := nI 3) hx hb dL_refuses_708 (by decide) ?_
      refine lv_iconst (v := nI 2) hx hb dL_refuses_709 (by decide) ?_
      refine lv_iconst (v := nI 0) hx hb dL_refuses_710 (by decide) ?_
      refine lv_iconst (v := nI 0) hx hb dL_refuses_711 (by decide) ?_
      refine lv_iconst (v := nI 0) hx hb dL_refuses_712 (by decide) ?_
      refine lv_iload hx hb dL_refuses_713 (lv_at hl 9 rfl) ?_
      refine lv_if_ne (tgt := 723) hx hb dL_refuses_715 (by decide) (fun c9 => absurd rfl c9) (fun c9 => ?_)
      refine lv_ldc (v := -1000001) hx hb hown (hts (.constant RL 84 (-1000001)) (by decide +kernel)) dL_refuses_718 ?_
      refine lv_goto (tgt := 736) hx hb dL_refuses_720 (by decide) ?_
      refine hs_calli w (vx_runSW (As := [.ref (a 0), .int (nI 3), .int (nI 2), .int (nI 0), .int (nI 0), .int (nI 0), .int (-1000001)]) (rest := []) X (aF_put l hl0 G _ a _ _ hI (nI 2) (nI 0) (nI 0) (nI 0) (-1000001) 2 (hf_put2 (hf_ok0 (Nat.pos_of_ne_zero q_684_2) (Nat.pos_of_ne_zero q_688_4) hnA hnJ) (by decide)) (by decide)) (vx_cwSW 7 hts gL_refuses_L_act rfl rfl rfl (by decide +kernel) ⟨Nat.le_of_ble_eq_true rfl, Nat.le_of_ble_eq_true rfl⟩) ⟨b_blind, fun U9 hU9 hW9 => ⟨rfl, hs_pre E Z9 w hm9 U9 hU9 hW9⟩⟩ rfl rfl hl.1 rfl (lv_room (Nat.le_of_ble_eq_true rfl)) dL_refuses_736 ⟨Nat.le_of_ble_eq_true rfl, Nat.le_of_ble_eq_true rfl⟩) hm9 (fun r i H locs hr w => ?_)
      obtain ⟨hI, hr9⟩ := hr
      refine b_tp (hr9.trans (show hs_r 2 = -72 from by decide)) ?_
      refine lv_bipush (v := -72) hx hb dL_refuses_739 (by decide) ?_
      refine lv_icmp_ne (tgt := 806) hx hb dL_refuses_741 (by decide) (fun c9 => absurd rfl c9) (fun c9 => ?_)
      refine lv_aload_n hx hb dL_refuses_744 rfl (lv_at hl 2 rfl) ?_
      refine lv_bipush (v := nI 8) hx hb dL_refuses_745 (by decide) ?_
      refine lv_iconst (v := nI 0) hx hb dL_refuses_747 (by decide) ?_
      refine lv_iconst (v := nI 0) hx hb dL_refuses_748 (by decide) ?_
      refine lv_iconst (v := nI 0) hx hb dL_refuses_749 (by decide) ?_
      refine lv_iload hx hb dL_refuses_750 (lv_at hl 9 rfl) ?_
      refine lv_iconst (v := nI 1) hx hb dL_refuses_752 (by decide) ?_
      refine lv_icmp_ne (tgt := 762) hx hb dL_refuses_753 (by decide) (fun c9 => ?_) (fun c9 => absurd c9 (by decide))
      refine lv_iload hx hb dL_refuses_762 (lv_at hl 10 rfl) ?_
      refine lv_iconst (v := nI 0) hx hb dL_refuses_764 (by decide) ?_
      refine hs_calli w (vx_runSW (As := [.ref (a 0), .int (nI 8), .int (nI 0), .int (nI 0), .int (nI 0), .int (-1), .int (nI 0)]) (rest := []) X (aF_figure l hl0 G _ a _ _ hI (nI 0) (nI 0) (nI 0) (-1) (nI 0) 2 (hf_figure2 (hf_ok0 (Nat.pos_of_ne_zero q_684_2) (Nat.pos_of_ne_zero q_688_4) hnA hnJ) (hn_dlo (by decide))) (by decide)) (vx_cwSW 7 hts gL_refuses_L_act rfl rfl rfl (by decide +kernel) ⟨Nat.le_of_ble_eq_true rfl, Nat.le_of_ble_eq_true rfl⟩) ⟨b_blind, fun U9 hU9 hW9 => ⟨rfl, hs_pre E Z9 w hm9 U9 hU9 hW9⟩⟩ rfl rfl hl.1 rfl (lv_room (Nat.le_of_ble_eq_true rfl)) dL_refuses_765 ⟨Nat.le_of_ble_eq_true rfl, Nat.le_of_ble_eq_true rfl⟩) hm9 (fun r i H locs hr w => ?_)
      obtain ⟨hI, hr9⟩ := hr
      refine b_tp (hr9.trans (show hs_r 2 = -72 from by decide)) ?_
      refine lv_bipush (v := -72) hx hb dL_refuses_768 (by decide) ?_
      refine lv_icmp_ne (tgt := 806) hx hb dL_refuses_770 (by decide) (fun c9 => absurd rfl c9) (fun c9 => ?_)
      refine lv_aload_n hx hb dL_refuses_773 rfl (lv_at hl 2 rfl) ?_
      refine lv_bipush (v := nI 9) hx hb dL_refuses_774 (by decide) ?_
      refine lv_iconst (v := nI 0) hx hb dL_refuses_776 (by decide) ?_
      refine lv_iconst (v := nI 0) hx hb dL_refuses_777 (by decide) ?_
      refine lv_iconst (v := nI 0) hx hb dL_refuses_778 (by decide) ?_
      refine lv_iload hx hb dL_refuses_779 (lv_at hl 9 rfl) ?_
      refine lv_iconst (v := nI 1) hx hb dL_refuses_781 (by decide) ?_
      refine lv_icmp_ne (tgt := 791) hx hb dL_refuses_782 (by decide) (fun c9 => ?_) (fun c9 => absurd c9 (by decide))
      refine lv_iload hx hb dL_refuses_791 (lv_at hl 10 rfl) ?_
      refine lv_iconst (v := nI 0) hx hb dL_refuses_793 (by decide) ?_
      refine hs_calli w (vx_runSW (As := [.ref (a 0), .int (nI 9), .int (nI 0), .int (nI 0), .int (nI 0), .int (-1), .int (nI 0)]) (rest := []) X (aF_value l hl0 G _ a _ _ hI (nI 0) (nI 0) (nI 0) (-1) (nI 0) 2 (hf_value2 (hf_ok0 (Nat.pos_of_ne_zero q_684_2) (Nat.pos_of_ne_zero q_688_4) hnA hnJ) (hn_dlo (by decide))) (by decide)) (vx_cwSW 7 hts gL_refuses_L_act rfl rfl rfl (by decide +kernel) ⟨Nat.le_of_ble_eq_true rfl, Nat.le_of_ble_eq_true rfl⟩) ⟨b_blind, fun U9 hU9 hW9 => ⟨rfl, hs_pre E Z9 w hm9 U9 hU9 hW9⟩⟩ rfl rfl hl.1 rfl (lv_room (Nat.le_of_ble_eq_true rfl)) dL_refuses_794 ⟨Nat.le_of_ble_eq_true rfl, Nat.le_of_ble_eq_true rfl⟩) hm9 (fun r i H locs hr w => ?_)
      obtain ⟨hI, hr9⟩ := hr
      refine b_tp (hr9.trans (show hs_r 2 = -72 from by decide)) ?_
      refine lv_bipush (v := -72) hx hb dL_refuses_797 (by decide) ?_
      refine lv_icmp_ne (tgt := 806) hx hb dL_refuses_799 (by decide) (fun c9 => absurd rfl c9) (fun c9 => ?_)
      refine lv_iconst (v := nI 1) hx hb dL_refuses_802 (by decide) ?_
      refine lv_goto (tgt := 807) hx hb dL_refuses_803 (by decide) ?_
      refine lv_istore (lv' := [(15, .int (nI 1)), (16, .int (nI 14)), (0, .ref (a 0)), (1, .int (nI (hs_nA x))), (2, .int (nI (hs_nJ x))), (3, .int (nI (hs_td x))), (4, .int 2147483647), (5, .int (hV_hidden x (nI 5))), (6, .int (hV_find x (-1) (-1) (nI 0) (nI 11) (nI 0) (nI 0))), (7, .int (nI 0)), (8, .int (-1)), (9, .int (-1)), (10, .int (-1)), (11, .int (-1)), (12, .int (-1)), (13, .int (-1)), (14, .int (-2147483648))]) hx hb dL_refuses_807 hl (by decide) rfl (fun ls hl => ?_)
      refine lv_iload hx hb dL_refuses_809 (lv_at hl 0 rfl) ?_
      refine lv_if_ne (tgt := 816) hx hb dL_refuses_811 (by decide) (fun c9 => ?_) (fun c9 => absurd c9 (by decide))
      refine lv_iinc (v := nI 1) (lv' := [(7, .int (nI 1)), (15, .int (nI 1)), (16, .int (nI 14)), (0, .ref (a 0)), (1, .int (nI (hs_nA x))), (2, .int (nI (hs_nJ x))), (3, .int (nI (hs_td x))), (4, .int 2147483647), (5, .int (hV_hidden x (nI 5))), (6, .int (hV_find x (-1) (-1) (nI 0) (nI 11) (nI 0) (nI 0))), (8, .int (-1)), (9, .int (-1)), (10, .int (-1)), (11, .int (-1)), (12, .int (-1)), (13, .int (-1)), (14, .int (-2147483648))]) hx hb dL_refuses_816 hl (k := 9) rfl (by decide) (by decide) rfl (fun ls hl => ?_)
      refine lv_goto (tgt := 27) hx hb dL_refuses_819 (by decide) ?_
      exact kk i _ _ _ hI w (lv_sub hl [3, 4, 5, 6, 7, 8, 9, 0] rfl)
set_option maxHeartbeats 4000000 in
set_option maxRecDepth 100000 in
theorem sg_refuses_3 {p : Program} {l : Launch} (hl0 : l.stackTraces = false) {e : Env} {s : State} {m : MethodId} {below : List Frame} {meth : Method} {c : Code} {G : bG} {args : Array Value} {Q : State → Prop} (X : CallFix p m c cL_refuses 17 s args wsL_refuses RL) (E : bE G vwCl bNW bSW s) {a : Nat → Nat} (Z9 : bZ (hs_M a) s) (hm9 : ∀ q ∈ hs_M a, Aw (hs_M a) s.heap.size q) {x : hs_E} {i : hs_I} {H : Heap} {locs : List Loc} {ls : Array Slot} (hI : hs_Inv x i) (w : bSt G vwCl (hs_M a) s (hs_W G a x i) H locs) (hl : lv_has ls 17 [(0, .ref (a 0)), (1, .int (nI (hs_nA x))), (2, .int (nI (hs_nJ x))), (3, .int (nI (hs_td x))), (4, .int 2147483647), (5, .int (hV_hidden x (nI 5))), (6, .int (hV_find x (-1) (-1) (nI 0) (nI 11) (nI 0) (nI 0))), (7, .int (nI 1))])
    (kk : ∀ (i : hs_I) (H : Heap) (locs : List Loc) (ls : Array Slot), hs_Inv x i → bSt G vwCl (hs_M a) s (hs_W G a x i) H locs → lv_has ls 17 [(0, .ref (a 0)), (1, .int (nI (hs_nA x))), (2, .int (nI (hs_nJ x))), (3, .int (nI (hs_td x))), (4, .int 2147483647), (5, .int (hV_hidden x (nI 5))), (6, .int (hV_find x (-1) (-1) (nI 0) (nI 11) (nI 0) (nI 0))), (7, .int (nI 1)), (8, .int (-2147483648)), (9, .int (nI (hs_nA x))), (10, .int (nI (hs_nJ x))), (11, .int (nI 12)), (12, .int (nI 4)), (13, .int (nI 3)), (14, .int (-2)), (15, .int (nI 1)), (16, .int (nI 9))] → W p l e ({ frames := 9, cells := 324, slots := 1944, locals := 201 }) s m args below meth c H locs 121 726 Q (F0 m 506 ls [])) : W p l e ({ frames := 9, cells := 324, slots := 1944, locals := 201 }) s m args below meth c H locs 83 498 Q (F0 m 27 ls []) := by
  have hx := X.1
  have hb := X.2.1
  have hml := X.2.2.1
  have hown := X.2.2.2.1
  have hts := X.2.2.2.2
  obtain ⟨⟨hnA, hnJ, hTA, hTJ, htd, hst, hbs, hjd, hdn⟩, hbk, hdr, hK⟩ := id hI
  refine lv_iload hx hb dL_refuses_27 (lv_at hl 7 rfl) ?_
  refine lv_iconst (v := nI 4) hx hb dL_refuses_29 (by decide) ?_
  refine lv_icmp_ge (tgt := 822) hx hb dL_refuses_30 (by decide) (fun c9 => absurd c9 (by decide)) (fun c9 => ?_)
  refine lv_iload hx hb dL_refuses_33 (lv_at hl 7 rfl) ?_
  refine lv_if_ne (tgt := 42) hx hb dL_refuses_35 (by decide) (fun c9 => ?_) (fun c9 => absurd c9 (by decide))
  refine lv_iload hx hb dL_refuses_42 (lv_at hl 7 rfl) ?_
  refine lv_iconst (v := nI 2) hx hb dL_refuses_44 (by decide) ?_
  refine lv_icmp_ne (tgt := 53) hx hb dL_refuses_45 (by decide) (fun c9 => ?_) (fun c9 => absurd c9 (by decide))
  refine lv_iload hx hb dL_refuses_53 (lv_at hl 4 rfl) ?_
  refine lv_ineg hx hb dL_refuses_55 ?_
  refine b_tp (show -2147483647 = -2147483647 from by decide) ?_
  refine lv_iconst (v := nI 1) hx hb dL_refuses_56 (by decide) ?_
  refine lv_isub hx hb dL_refuses_57 ?_
  refine b_tp (show (-2147483647) - (nI 1) = -2147483648 from by decide) ?_
  refine lv_istore (lv' := [(8, .int (-2147483648)), (0, .ref (a 0)), (1, .int (nI (hs_nA x))), (2, .int (nI (hs_nJ x))), (3, .int (nI (hs_td x))), (4, .int 2147483647), (5, .int (hV_hidden x (nI 5))), (6, .int (hV_find x (-1) (-1) (nI 0) (nI 11) (nI 0) (nI 0))), (7, .int (nI 1))]) hx hb dL_refuses_58 hl (by decide) rfl (fun ls hl => ?_)
  refine lv_iload hx hb dL_refuses_60 (lv_at hl 8 rfl) ?_
  refine lv_iconst (v := nI 1) hx hb dL_refuses_62 (by decide) ?_
  refine lv_icmp_ne (tgt := 70) hx hb dL_refuses_63 (by decide) (fun c9 => absurd rfl c9) (fun c9 => ?_)
  refine lv_iload_n hx hb dL_refuses_66 rfl (lv_at hl 2 rfl) ?_
  refine lv_goto (tgt := 72) hx hb dL_refuses_67 (by decide) ?_
  refine lv_istore (lv' := [(9, .int (nI (hs_nA x))), (8, .int (-2147483648)), (0, .ref (a 0)), (1, .int (nI (hs_nA x))), (2, .int (nI (hs_nJ x))), (3, .int (nI (hs_td x))), (4, .int 2147483647), (5, .int (hV_hidden x (nI 5))), (6, .int (hV_find x (-1) (-1) (nI 0) (nI 11) (nI 0) (nI 0))), (7, .int (nI 1))]) hx hb dL_refuses_72 hl (by decide) rfl (fun ls hl => ?_)
  refine lv_iload hx hb dL_refuses_74 (lv_at hl 9 rfl) ?_
  refine lv_iconst (v := nI 1) hx hb dL_refuses_76 (by decide) ?_
  refine lv_icmp_ne (tgt := 84) hx hb dL_refuses_77 (by decide) (fun c9 => absurd rfl c9) (fun c9 => ?_)
  refine lv_iload_n hx hb dL_refuses_80 rfl (lv_at hl 4 rfl) ?_
  refine lv_goto (tgt := 86) hx hb dL_refuses_81 (by decide) ?_
  refine lv_istore (lv' := [(10, .int (nI (hs_nJ x))), (9, .int (nI (hs_nA x))), (8, .int (-2147483648)), (0, .ref (a 0)), (1, .int (nI (hs_nA x))), (2, .int (nI (hs_nJ x))), (3, .int (nI (hs_td x))), (4, .int 2147483647), (5, .int (hV_hidden x (nI 5))), (6, .int (hV_find x (-1) (-1) (nI 0) (nI 11) (nI 0) (nI 0))), (7, .int (nI 1))]) hx hb dL_refuses_86 hl (by decide) rfl (fun ls hl => ?_)
  refine lv_iload hx hb dL_refuses_88 (lv_at hl 10 rfl) ?_
  refine lv_iconst (v := nI 1) hx hb dL_refuses_90 (by decide) ?_
  refine lv_icmp_ne (tgt := 99) hx hb dL_refuses_91 (by decide) (fun c9 => absurd rfl c9) (fun c9 => ?_)
  refine lv_bipush (v := nI 12) hx hb dL_refuses_94 (by decide) ?_
  refine lv_goto (tgt := 101) hx hb dL_refuses_96 (by decide) ?_
  refine lv_istore (lv' := [(11, .int (nI 12)), (10, .int (nI (hs_nJ x))), (9, .int (nI (hs_nA x))), (8, .int (-2147483648)), (0, .ref (a 0)), (1, .int (nI (hs_nA x))), (2, .int (nI (hs_nJ x))), (3, .int (nI (hs_td x))), (4, .int 2147483647), (5, .int (hV_hidden x (nI 5))), (6, .int (hV_find x (-1) (-1) (nI 0) (nI 11) (nI 0) (nI 0))), (7, .int (nI 1))]) hx hb dL_refuses_101 hl (by decide) rfl (fun ls hl => ?_)
  refine lv_iload hx hb dL_refuses_103 (lv_at hl 11 rfl) ?_
  refine lv_iconst (v := nI 1) hx hb dL_refuses_105 (by decide) ?_
  refine lv_icmp_ne (tgt := 113) hx hb dL_refuses_106 (by decide) (fun c9 => absurd rfl c9) (fun c9 => ?_)
  refine lv_iconst (v := nI 4) hx hb dL_refuses_109 (by decide) ?_
  refine lv_goto (tgt := 115) hx hb dL_refuses_110 (by decide) ?_
  refine lv_istore (lv' := [(12, .int (nI 4)), (11, .int (nI 12)), (10, .int (nI (hs_nJ x))), (9, .int (nI (hs_nA x))), (8, .int (-2147483648)), (0, .ref (a 0)), (1, .int (nI (hs_nA x))), (2, .int (nI (hs_nJ x))), (3, .int (nI (hs_td x))), (4, .int 2147483647), (5, .int (hV_hidden x (nI 5))), (6, .int (hV_find x (-1) (-1) (nI 0) (nI 11) (nI 0) (nI 0))), (7, .int (nI 1))]) hx hb dL_refuses_115 hl (by decide) rfl (fun ls hl => ?_)
  refine lv_iload hx hb dL_refuses_117 (lv_at hl 12 rfl) ?_
  refine lv_iconst (v := nI 1) hx hb dL_refuses_119 (by decide) ?_
  refine lv_icmp_ne (tgt := 127) hx hb dL_refuses_120 (by decide) (fun c9 => absurd rfl c9) (fun c9 => ?_)
  refine lv_iconst (v := nI 3) hx hb dL_refuses_123 (by decide) ?_
  refine lv_goto (tgt := 129) hx hb dL_refuses_124 (by decide) ?_
  refine lv_istore (lv' := [(13, .int (nI 3)), (12, .int (nI 4)), (11, .int (nI 12)), (10, .int (nI (hs_nJ x))), (9, .int (nI (hs_nA x))), (8, .int (-2147483648)), (0, .ref (a 0)), (1, .int (nI (hs_nA x))), (2, .int (nI (hs_nJ x))), (3, .int (nI (hs_td x))), (4, .int 2147483647), (5, .int (hV_hidden x (nI 5))), (6, .int (hV_find x (-1) (-1) (nI 0) (nI 11) (nI 0) (nI 0))), (7, .int (nI 1))]) hx hb dL_refuses_129 hl (by decide) rfl (fun ls hl => ?_)
  refine lv_iload hx hb dL_refuses_131 (lv_at hl 13 rfl) ?_
  refine lv_iconst (v := nI 2) hx hb dL_refuses_133 (by decide) ?_
  refine lv_icmp_ne (tgt := 141) hx hb dL_refuses_134 (by decide) (fun c9 => ?_) (fun c9 => absurd c9 (by decide))
  refine lv_iload hx hb dL_refuses_141 (lv_at hl 13 rfl) ?_
  refine lv_iconst (v := nI 1) hx hb dL_refuses_143 (by decide) ?_
  refine lv_icmp_ne (tgt := 152) hx hb dL_refuses_144 (by decide) (fun c9 => absurd rfl c9) (fun c9 => ?_)
  refine lv_bipush (v := -2) hx hb dL_refuses_147 (by decide) ?_
  refine lv_goto (tgt := 157) hx hb dL_refuses_149 (by decide) ?_
  refine lv_istore (lv' := [(14, .int (-2)), (13, .int (nI 3)), (12, .int (nI 4)), (11, .int (nI 12)), (10, .int (nI (hs_nJ x))), (9, .int (nI (hs_nA x))), (8, .int (-2147483648)), (0, .ref (a 0)), (1, .int (nI (hs_nA x))), (2, .int (nI (hs_nJ x))), (3, .int (nI (hs_td x))), (4, .int 2147483647), (5, .int (hV_hidden x (nI 5))), (6, .int (hV_find x (-1) (-1) (nI 0) (nI 11) (nI 0) (nI 0))), (7, .int (nI 1))]) hx hb dL_refuses_157 hl (by decide) rfl (fun ls hl => ?_)
  refine lv_aload_n hx hb dL_refuses_159 rfl (lv_at hl 7 rfl) ?_
  refine lv_iconst (v := nI 0) hx hb dL_refuses_160 (by decide) ?_
  refine lv_iload hx hb dL_refuses_161 (lv_at hl 14 rfl) ?_
  refine lv_if_ne (tgt := 171) hx hb dL_refuses_163 (by decide) (fun c9 => ?_) (fun c9 => absurd c9 (by decide))
  refine lv_iload hx hb dL_refuses_171 (lv_at hl 5 rfl) ?_
  refine lv_iconst (v := nI 0) hx hb dL_refuses_173 (by decide) ?_
  refine lv_iconst (v := nI 0) hx hb dL_refuses_174 (by decide) ?_
  refine lv_iconst (v := nI 0) hx hb dL_refuses_175 (by decide) ?_
  refine lv_iconst (v := nI 0) hx hb dL_refuses_176 (by decide) ?_
  refine hs_calli w (vx_runSW (As := [.ref (a 0), .int (nI 0), .int (nI (hs_nA x)), .int (nI 0), .int (nI 0), .int (nI 0), .int (nI 0)]) (rest := []) X (aF_area l hl0 G _ a _ _ hI (nI (hs_nA x)) (nI 0) (nI 0) (nI 0) (nI 0) 1 (hf_area (hn_pat (hn_ge (Nat.le_refl _) (Nat.lt_of_le_of_lt hnA (by decide))) (b_m1 (Nat.lt_of_le_of_lt hnA (by decide))))) (by decide)) (vx_cwSW 7 hts gL_refuses_L_act rfl rfl rfl (by decide +kernel) ⟨Nat.le_of_ble_eq_true rfl, Nat.le_of_ble_eq_true rfl⟩) ⟨b_blind, fun U9 hU9 hW9 => ⟨rfl, hs_pre E Z9 w hm9 U9 hU9 hW9⟩⟩ rfl rfl hl.1 rfl (lv_room (Nat.le_of_ble_eq_true rfl)) dL_refuses_177 ⟨Nat.le_of_ble_eq_true rfl, Nat.le_of_ble_eq_true rfl⟩) hm9 (fun r i H locs hr w => ?_)
  obtain ⟨hI, hr9⟩ := hr
  refine b_tp (hr9.trans (show hs_r 1 = -71 from by decide)) ?_
  refine lv_bipush (v := -71) hx hb dL_refuses_180 (by decide) ?_
  refine lv_icmp_ne (tgt := 429) hx hb dL_refuses_182 (by decide) (fun c9 => absurd rfl c9) (fun c9 => ?_)
  refine lv_aload_n hx hb dL_refuses_185 rfl (lv_at hl 7 rfl) ?_
  refine lv_iconst (v := nI 1) hx hb dL_refuses_186 (by decide) ?_
  refine lv_iload hx hb dL_refuses_187 (lv_at hl 14 rfl) ?_
  refine lv_if_ne (tgt := 197) hx hb dL_refuses_189 (by decide) (fun c9 => ?_) (fun c9 => absurd c9 (by decide))
  refine lv_iload hx hb dL_refuses_197 (lv_at hl 4 rfl) ?_
  refine lv_iconst (v := nI 0) hx hb dL_refuses_199 (by decide) ?_
  refine lv_iconst (v := nI 0) hx hb dL_refuses_200 (by decide) ?_
  refine lv_iconst (v := nI 0) hx hb dL_refuses_201 (by decide) ?_
  refine lv_iconst (v := nI 0) hx hb dL_refuses_202 (by decide) ?_
  refine hs_calli w (vx_runSW (As := [.ref (a 0), .int (nI 1), .int (nI (hs_nJ x)), .int (nI 0), .int (nI 0), .int (nI 0), .int (nI 0)]) (rest := []) X (aF_item l hl0 G _ a _ _ hI (nI (hs_nJ x)) (nI 0) (nI 0) (nI 0) (nI 0) 1 (hf_item (hn_pat (hn_ge (Nat.le_refl _) (Nat.lt_of_le_of_lt hnJ (by decide))) (b_m1 (Nat.lt_of_le_of_lt hnJ (by decide))))) (by decide)) (vx_cwSW 7 hts gL_refuses_L_act rfl rfl rfl (by decide +kernel) ⟨Nat.le_of_ble_eq_true rfl, Nat.le_of_ble_eq_true rfl⟩) ⟨b_blind, fun U9 hU9 hW9 => ⟨rfl, hs_pre E Z9 w hm9 U9 hU9 hW9⟩⟩ rfl rfl hl.1 rfl (lv_room (Nat.le_of_ble_eq_true rfl)) dL_refuses_203 ⟨Nat.le_of_ble_eq_true rfl, Nat.le_of_ble_eq_true rfl⟩) hm9 (fun r i H locs hr w => ?_)
  obtain ⟨hI, hr9⟩ := hr
  refine b_tp (hr9.trans (show hs_r 1 = -71 from by decide)) ?_
  refine lv_bipush (v := -71) hx hb dL_refuses_206 (by decide) ?_
  refine lv_icmp_ne (tgt := 429) hx hb dL_refuses_208 (by decide) (fun c9 => absurd rfl c9) (fun c9 => ?_)
  refine lv_aload_n hx hb dL_refuses_211 rfl (lv_at hl 7 rfl) ?_
  refine lv_iconst (v := nI 2) hx hb dL_refuses_212 (by decide) ?_
  refine lv_iload hx hb dL_refuses_213 (lv_at hl 2 rfl) ?_
  refine lv_iconst (v := nI 0) hx hb dL_refuses_215 (by decide) ?_
  refine lv_iconst (v := nI 0) hx hb dL_refuses_216 (by decide) ?_
  refine lv_iconst (v := nI 0) hx hb dL_refuses_217 (by decide) ?_
  refine lv_iconst (v := nI 0) hx hb dL_refuses_218 (by decide) ?_
  refine hs_calli w (vx_runSW (As := [.ref (a 0), .int (nI 2), .int (nI 4), .int (nI 0), .int (nI 0), .int (nI 0), .int (nI 0)]) (rest := []) X (aF_agree l hl0 G _ a _ _ hI (nI 4) (nI 0) (nI 0) (nI 0) 1 (hf_agree1 (by decide)) (by decide)) (vx_cwSW 7 hts gL_refuses_L_act rfl rfl rfl (by decide +kernel) ⟨Nat.le_of_ble_eq_true rfl, Nat.le_of_ble_eq_true rfl⟩) ⟨b_blind, fun U9 hU9 hW9 => ⟨rfl, hs_pre E Z9 w hm9 U9 hU9 hW9⟩⟩ rfl rfl hl.1 rfl (lv_room (Nat.le_of_ble_eq_true rfl)) dL_refuses_219 ⟨Nat.le_of_ble_eq_true rfl, Nat.le_of_ble_eq_true rfl⟩) hm9 (fun r i H locs hr w => ?_)
  obtain ⟨hI, hr9⟩ := hr
  refine b_tp (hr9.trans (show hs_r 1 = -71 from by decide)) ?_
  refine lv_bipush (v := -71) hx hb dL_refuses_222 (by decide) ?_
  refine lv_icmp_ne (tgt := 429) hx hb dL_refuses_224 (by decide) (fun c9 => absurd rfl c9) (fun c9 => ?_)
  refine lv_aload_n hx hb dL_refuses_227 rfl (lv_at hl 7 rfl) ?_
  refine lv_iconst (v := nI 2) hx hb dL_refuses_228 (by decide) ?_
  refine lv_iconst (v := nI 0) hx hb dL_refuses_229 (by decide) ?_
  refine lv_iload hx hb dL_refuses_230 (lv_at hl 5 rfl) ?_
  refine lv_iconst (v := nI 0) hx hb dL_refuses_232 (by decide) ?_
  refine lv_iconst (v := nI 0) hx hb dL_refuses_233 (by decide) ?_
  refine lv_iconst (v := nI 0) hx hb dL_refuses_234 (by decide) ?_
  refine hs_calli w (vx_runSW (As := [.ref (a 0), .int (nI 2), .int (nI 0), .int (nI (hs_nA x)), .int (nI 0), .int (nI 0), .int (nI 0)]) (rest := []) X (aF_agree l hl0 G _ a _ _ hI (nI 0) (nI (hs_nA x)) (nI 0) (nI 0) 1 (hf_agree2 (hn_ge (Nat.le_refl _) (Nat.lt_of_le_of_lt hnA (by decide)))) (by decide)) (vx_cwSW 7 hts gL_refuses_L_act rfl rfl rfl (by decide +kernel) ⟨Nat.le_of_ble_eq_true rfl, Nat.le_of_ble_eq_true rfl⟩) ⟨b_blind, fun U9 hU9 hW9 => ⟨rfl, hs_pre E Z9 w hm9 U9 hU9 hW9⟩⟩ rfl rfl hl.1 rfl (lv_room (Nat.le_of_ble_eq_true rfl)) dL_refuses_235 ⟨Nat.le_of_ble_eq_true rfl, Nat.le_of_ble_eq_true rfl⟩) hm9 (fun r i H locs hr w => ?_)
  obtain ⟨hI, hr9⟩ := hr
  refine b_tp (hr9.trans (show hs_r 1 = -71 from by decide)) ?_
  refine lv_bipush (v := -71) hx hb dL_refuses_238 (by decide) ?_
  refine lv_icmp_ne (tgt := 429) hx hb dL_refuses_240 (by decide) (fun c9 => absurd rfl c9) (fun c9 => ?_)
  refine lv_aload_n hx hb dL_refuses_243 rfl (lv_at hl 7 rfl) ?_
  refine lv_iconst (v := nI 3) hx hb dL_refuses_244 (by decide) ?_
  refine lv_bipush (v := nI 9) hx hb dL_refuses_245 (by decide) ?_
  refine lv_iload hx hb dL_refuses_247 (lv_at hl 5 rfl) ?_
  refine lv_iconst (v := nI 0) hx hb dL_refuses_249 (by decide) ?_
  refine lv_iconst (v := nI 0) hx hb dL_refuses_250 (by decide) ?_
  refine lv_iconst (v := nI 0) hx hb dL_refuses_251 (by decide) ?_
  refine hs_calli w (vx_runSW (As := [.ref (a 0), .int (nI 3), .int (nI 9), .int (nI (hs_nA x)), .int (nI 0), .int (nI 0), .int (nI 0)]) (rest := []) X (aF_put l hl0 G _ a _ _ hI (nI 9) (nI (hs_nA x)) (nI 0) (nI 0) (nI 0) 1 (hf_put1 (hf_okA (hn_ge (Nat.le_refl _) (Nat.lt_of_le_of_lt hnA (by decide))))) (by decide)) (vx_cwSW 7 hts gL_refuses_L_act rfl rfl rfl (by decide +kernel) ⟨Nat.le_of_ble_eq_true rfl, Nat.le_of_ble_eq_true rfl⟩) ⟨b_blind, fun U9 hU9 hW9 => ⟨rfl, hs_pre E Z9 w hm9 U9 hU9 hW9⟩⟩ rfl rfl hl.1 rfl (lv_room (Nat.le_of_ble_eq_true rfl)) dL_refuses_252 ⟨Nat.le_of_ble_eq_true rfl, Nat.le_of_ble_eq_true rfl⟩) hm9 (fun r i H locs hr w => ?_)
  obtain ⟨hI, hr9⟩ := hr
  refine b_tp (hr9.trans (show hs_r 1 = -71 from by decide)) ?_
  refine lv_bipush (v := -71) hx hb dL_refuses_255 (by decide) ?_
  refine lv_icmp_ne (tgt := 429) hx hb dL_refuses_257 (by decide) (fun c9 => absurd rfl c9) (fun c9 => ?_)
  refine lv_aload_n hx hb dL_refuses_260 rfl (lv_at hl 7 rfl) ?_
  refine lv_iconst (v := nI 3) hx hb dL_refuses_261 (by decide) ?_
  refine lv_bipush (v := nI 9) hx hb dL_refuses_262 (by decide) ?_
  refine lv_iconst (v := nI 0) hx hb dL_refuses_264 (by decide) ?_
  refine lv_iload hx hb dL_refuses_265 (lv_at hl 4 rfl) ?_
  refine lv_iconst (v := nI 0) hx hb dL_refuses_267 (by decide) ?_
  refine lv_iconst (v := nI 0) hx hb dL_refuses_268 (by decide) ?_
  refine hs_calli w (vx_runSW (As := [.ref (a 0), .int (nI 3), .int (nI 9), .int (nI 0), .int (nI (hs_nJ x)), .int (nI 0), .int (nI 0)]) (rest := []) X (aF_put l hl0 G _ a _ _ hI (nI 9) (nI 0) (nI (hs_nJ x)) (nI 0) (nI 0) 1 (hf_put1 (hf_okJ (hn_ge (Nat.le_refl _) (Nat.lt_of_le_of_lt hnJ (by decide))))) (by decide)) (vx_cwSW 7 hts gL_refuses_L_act rfl rfl rfl (by decide +kernel) ⟨Nat.le_of_ble_eq_true rfl, Nat.le_of_ble_eq_true rfl⟩) ⟨b_blind, fun U9 hU9 hW9 => ⟨rfl, hs_pre E Z9 w hm9 U9 hU9 hW9⟩⟩ rfl rfl hl.1 rfl (lv_room (Nat.le_of_ble_eq_true rfl)) dL_refuses_269 ⟨Nat.le_of_ble_eq_true rfl, Nat.le_of_ble_eq_true rfl⟩) hm9 (fun r i H locs hr w => ?_)
  obtain ⟨hI, hr9⟩ := hr
  refine b_tp (hr9.trans (show hs_r 1 = -71 from by decide)) ?_
  refine lv_bipush (v := -71) hx hb dL_refuses_272 (by decide) ?_
  refine lv_icmp_ne (tgt := 429) hx hb dL_refuses_274 (by decide) (fun c9 => absurd rfl c9) (fun c9 => ?_)
  refine lv_aload_n hx hb dL_refuses_277 rfl (lv_at hl 7 rfl) ?_
  refine lv_iconst (v := nI 3) hx hb dL_refuses_278 (by decide) ?_
  refine lv_bipush (v := nI 9) hx hb dL_refuses_279 (by decide) ?_
  refine lv_iconst (v := nI 0) hx hb dL_refuses_281 (by decide) ?_
  refine lv_iconst (v := nI 0) hx hb dL_refuses_282 (by decide) ?_
  refine lv_iload hx hb dL_refuses_283 (lv_at hl 3 rfl) ?_
  refine lv_iconst (v := nI 0) hx hb dL_refuses_285 (by decide) ?_
  refine hs_calli w (vx_runSW (As := [.ref (a 0), .int (nI 3), .int (nI 9), .int (nI 0), .int (nI 0), .int (nI 12), .int (nI 0)]) (rest := []) X (aF_put l hl0 G _ a _ _ hI (nI 9) (nI 0) (nI 0) (nI 12) (nI 0) 1 (hf_put1 (hf_okP (by decide))) (by decide)) (vx_cwSW 7 hts gL_refuses_L_act rfl rfl rfl (by decide +kernel) ⟨Nat.le_of_ble_eq_true rfl, Nat.le_of_ble_eq_true rfl⟩) ⟨b_blind, fun U9 hU9 hW9 => ⟨rfl, hs_pre E Z9 w hm9 U9 hU9 hW9⟩⟩ rfl rfl hl.1 rfl (lv_room (Nat.le_of_ble_eq_true rfl)) dL_refuses_286 ⟨Nat.le_of_ble_eq_true rfl, Nat.le_of_ble_eq_true rfl⟩) hm9 (fun r i H locs hr w => ?_)
  obtain ⟨hI, hr9⟩ := hr
  refine b_tp (hr9.trans (show hs_r 1 = -71 from by decide)) ?_
  refine lv_bipush (v := -71) hx hb dL_refuses_289 (by decide) ?_
  refine lv_icmp_ne (tgt := 429) hx hb dL_refuses_291 (by decide) (fun c9 => absurd rfl c9) (fun c9 => ?_)
  refine lv_aload_n hx hb dL_refuses_294 rfl (lv_at hl 7 rfl) ?_
  refine lv_iconst (v := nI 4) hx hb dL_refuses_295 (by decide) ?_
  refine lv_iload hx hb dL_refuses_296 (lv_at hl 2 rfl) ?_
  refine lv_iconst (v := nI 0) hx hb dL_refuses_298 (by decide) ?_
  refine lv_iconst (v := nI 0) hx hb dL_refuses_299 (by decide) ?_
  refine lv_iconst (v := nI 0) hx hb dL_refuses_300 (by decide) ?_
  refine lv_iconst (v := nI 0) hx hb dL_refuses_301 (by decide) ?_
  refine hs_calli w (vx_runSW (As := [.ref (a 0), .int (nI 4), .int (nI 4), .int (nI 0), .int (nI 0), .int (nI 0), .int (nI 0)]) (rest := []) X (aF_send l hl0 G _ a _ _ hI (nI 4) (nI 0) (nI 0) (nI 0) (nI 0) 1 (hf_send1 (by decide)) (by decide)) (vx_cwSW 7 hts gL_refuses_L_act rfl rfl rfl (by decide +kernel) ⟨Nat.le_of_ble_eq_true rfl, Nat.le_of_ble_eq_true rfl⟩) ⟨b_blind, fun U9 hU9 hW9 => ⟨rfl, hs_pre E Z9 w hm9 U9 hU9 hW9⟩⟩ rfl rfl hl.1 rfl (lv_room (Nat.le_of_ble_eq_true rfl)) dL_refuses_302 ⟨Nat.le_of_ble_eq_true rfl, Nat.le_of_ble_eq_true rfl⟩) hm9 (fun r i H locs hr w => ?_)
  obtain ⟨hI, hr9⟩ := hr
  refine b_tp (hr9.trans (show hs_r 1 = -71 from by decide)) ?_
  refine lv_bipush (v := -71) hx hb dL_refuses_305 (by decide) ?_
  refine lv_icmp_ne (tgt := 429) hx hb dL_refuses_307 (by decide) (fun c9 => absurd rfl c9) (fun c9 => ?_)
  refine lv_aload_n hx hb dL_refuses_310 rfl (lv_at hl 7 rfl) ?_
  refine lv_iconst (v := nI 5) hx hb dL_refuses_311 (by decide) ?_
  refine lv_iload hx hb dL_refuses_312 (lv_at hl 14 rfl) ?_
  refine lv_iconst (v := nI 1) hx hb dL_refuses_314 (by decide) ?_
  refine lv_icmp_ne (tgt := 323) hx hb dL_refuses_315 (by decide) (fun c9 => absurd rfl c9) (fun c9 => ?_)
  refine lv_bipush (v := nI 16) hx hb dL_refuses_318 (by decide) ?_
  refine lv_goto (tgt := 325) hx hb dL_refuses_320 (by decide) ?_
  refine lv_iconst (v := nI 0) hx hb dL_refuses_325 (by decide) ?_
  refine lv_iconst (v := nI 0) hx hb dL_refuses_326 (by decide) ?_
  refine lv_iconst (v := nI 0) hx hb dL_refuses_327 (by decide) ?_
  refine lv_iconst (v := nI 0) hx hb dL_refuses_328 (by decide) ?_
  refine hs_calli w (vx_runSW (As := [.ref (a 0), .int (nI 5), .int (nI 16), .int (nI 0), .int (nI 0), .int (nI 0), .int (nI 0)]) (rest := []) X (aF_refusal l hl0 G _ a _ _ hI (nI 16) (nI 0) (nI 0) (nI 0) (nI 0) 1 (hf_refusal (hn_ge hjd (by decide))) (by decide)) (vx_cwSW 7 hts gL_refuses_L_act rfl rfl rfl (by decide +kernel) ⟨Nat.le_of_ble_eq_true rfl, Nat.le_of_ble_eq_true rfl⟩) ⟨b_blind, fun U9 hU9 hW9 => ⟨rfl, hs_pre E Z9 w hm9 U9 hU9 hW9⟩⟩ rfl rfl hl.1 rfl (lv_room (Nat.le_of_ble_eq_true rfl)) dL_refuses_329 ⟨Nat.le_of_ble_eq_true rfl, Nat.le_of_ble_eq_true rfl⟩) hm9 (fun r i H locs hr w => ?_)
  obtain ⟨hI, hr9⟩ := hr
  refine b_tp (hr9.trans (show hs_r 1 = -71 from by decide)) ?_
  refine lv_bipush (v := -71) hx hb dL_refuses_332 (by decide) ?_
  refine lv_icmp_ne (tgt := 429) hx hb dL_refuses_334 (by decide) (fun c9 => absurd rfl c9) (fun c9 => ?_)
  refine lv_aload_n hx hb dL_refuses_337 rfl (lv_at hl 7 rfl) ?_
  refine lv_bipush (v := nI 7) hx hb dL_refuses_338 (by decide) ?_
  refine lv_iload hx hb dL_refuses_340 (lv_at hl 14 rfl) ?_
  refine lv_if_ne (tgt := 349) hx hb dL_refuses_342 (by decide) (fun c9 => ?_) (fun c9 => absurd c9 (by decide))
  refine lv_iload hx hb dL_refuses_349 (lv_at hl 14 rfl) ?_
  refine lv_iconst (v := nI 1) hx hb dL_refuses_351 (by decide) ?_
  refine lv_icmp_ne (tgt := 360) hx hb dL_refuses_352 (by decide) (fun c9 => absurd rfl c9) (fun c9 => ?_)
  refine lv_bipush (v := nI 101) hx hb dL_refuses_355 (by decide) ?_
  refine lv_goto (tgt := 362) hx hb dL_refuses_357 (by decide) ?_
  refine lv_iconst (v := nI 0) hx hb dL_refuses_362 (by decide) ?_
  refine lv_iconst (v := nI 0) hx hb dL_refuses_363 (by decide) ?_
  refine lv_iconst (v := nI 0) hx hb dL_refuses_364 (by decide) ?_
  refine lv_iconst (v := nI 0) hx hb dL_refuses_365 (by decide) ?_
  refine hs_calli w (vx_runSW (As := [.ref (a 0), .int (nI 7), .int (nI 101), .int (nI 0), .int (nI 0), .int (nI 0), .int (nI 0)]) (rest := []) X (aF_pass l hl0 G _ a _ _ hI (nI 101) (nI 0) (nI 0) (nI 0) (nI 0) 2 (hf_pass (by decide)) (by decide)) (vx_cwSW 7 hts gL_refuses_L_act rfl rfl rfl (by decide +kernel) ⟨Nat.le_of_ble_eq_true rfl, Nat.le_of_ble_eq_true rfl⟩) ⟨b_blind, fun U9 hU9 hW9 => ⟨rfl, hs_pre E Z9 w hm9 U9 hU9 hW9⟩⟩ rfl rfl hl.1 rfl (lv_room (Nat.le_of_ble_eq_true rfl)) dL_refuses_366 ⟨Nat.le_of_ble_eq_true rfl, Nat.le_of_ble_eq_true rfl⟩) hm9 (fun r i H locs hr w => ?_)
  obtain ⟨hI, hr9⟩ := hr
  refine b_tp (hr9.trans (show hs_r 2 = -72 from by decide)) ?_
  refine lv_bipush (v := -72) hx hb dL_refuses_369 (by decide) ?_
  refine lv_icmp_ne (tgt := 429) hx hb dL_refuses_371 (by decide) (fun c9 => absurd rfl c9) (fun c9 => ?_)
  refine lv_aload_n hx hb dL_refuses_374 rfl (lv_at hl 7 rfl) ?_
  refine lv_bipush (v := nI 14) hx hb dL_refuses_375 (by decide) ?_
  refine lv_iload hx hb dL_refuses_377 (lv_at hl 3 rfl) ?_
  refine lv_iconst (v := nI 0) hx hb dL_refuses_379 (by decide) ?_
  refine lv_iconst (v := nI 0) hx hb dL_refuses_380 (by decide) ?_
  refine lv_iconst (v := nI 0) hx hb dL_refuses_381 (by decide) ?_
  refine lv_iconst (v := nI 0) hx hb dL_refuses_382 (by decide) ?_
  refine hs_calli w (vx_runSW (As := [.ref (a 0), .int (nI 14), .int (nI 12), .int (nI 0), .int (nI 0), .int (nI 0), .int (nI 0)]) (rest := []) X (aF_hidden l hl0 G _ a _ _ hI (nI 12) (nI 0) (nI 0) (nI 0) (nI 0) 1 (hf_hidden (by decide)) (by decide)) (vx_cwSW 7 hts gL_refuses_L_act rfl rfl rfl (by decide +kernel) ⟨Nat.le_of_ble_eq_true rfl, Nat.le_of_ble_eq_true rfl⟩) ⟨b_blind, fun U9 hU9 hW9 => ⟨rfl, hs_pre E Z9 w hm9 U9 hU9 hW9⟩⟩ rfl rfl hl.1 rfl (lv_room (Nat.le_of_ble_eq_true rfl)) dL_refuses_383 ⟨Nat.le_of_ble_eq_true rfl, Nat.le_of_ble_eq_true rfl⟩) hm9 (fun r i H locs hr w => ?_)
  obtain ⟨hI, hr9⟩ := hr
  refine b_tp (hr9.trans (show hs_r 1 = -71 from by decide)) ?_
  refine lv_bipush (v := -71) hx hb dL_refuses_386 (by decide) ?_
  refine lv_icmp_ne (tgt := 429) hx hb dL_refuses_388 (by decide) (fun c9 => absurd rfl c9) (fun c9 => ?_)
  refine lv_aload_n hx hb dL_refuses_391 rfl (lv_at hl 7 rfl) ?_
  refine lv_bipush (v := nI 15) hx hb dL_refuses_392 (by decide) ?_
  refine lv_iload hx hb dL_refuses_394 (lv_at hl 2 rfl) ?_
  refine lv_iconst (v := nI 0) hx hb dL_refuses_396 (by decide) ?_
  refine lv_iconst (v := nI 0) hx hb dL_refuses_397 (by decide) ?_
  refine lv_iconst (v := nI 0) hx hb dL_refuses_398 (by decide) ?_
  refine lv_iconst (v := nI 0) hx hb dL_refuses_399 (by decide) ?_
  refine hs_calli w (vx_runSW (As := [.ref (a 0), .int (nI 15), .int (nI 4), .int (nI 0), .int (nI 0), .int (nI 0), .int (nI 0)]) (rest := []) X (aF_mayTell l hl0 G _ a _ _ hI (nI 4) (nI 0) (nI 0) (nI 0) (nI 0) 1 (hf_may1 (by decide)) (by decide)) (vx_cwSW 7 hts gL_refuses_L_act rfl rfl rfl (by decide +kernel) ⟨Nat.le_of_ble_eq_true rfl, Nat.le_of_ble_eq_true rfl⟩) ⟨b_blind, fun U9 hU9 hW9 => ⟨rfl, hs_pre E Z9 w hm9 U9 hU9 hW9⟩⟩ rfl rfl hl.1 rfl (lv_room (Nat.le_of_ble_eq_true rfl)) dL_refuses_400 ⟨Nat.le_of_ble_eq_true rfl, Nat.le_of_ble_eq_true rfl⟩) hm9 (fun r i H locs hr w => ?_)
  obtain ⟨hI, hr9⟩ := hr
  refine b_tp (hr9.trans (show hs_r 1 = -71 from by decide)) ?_
  refine lv_bipush (v := -71) hx hb dL_refuses_403 (by decide) ?_
  refine lv_icmp_ne (tgt := 429) hx hb dL_refuses_405 (by decide) (fun c9 => absurd rfl c9) (fun c9 => ?_)
  refine lv_aload_n hx hb dL_refuses_408 rfl (lv_at hl 7 rfl) ?_
  refine lv_bipush (v := nI 15) hx hb dL_refuses_409 (by decide) ?_
  refine lv_iconst (v := nI 0) hx hb dL_refuses_411 (by decide) ?_
  refine lv_iload hx hb dL_refuses_412 (lv_at hl 5 rfl) ?_
  refine lv_iconst (v := nI 0) hx hb dL_refuses_414 (by decide) ?_
  refine lv_iconst (v := nI 0) hx hb dL_refuses_415 (by decide) ?_
  refine lv_iconst (v := nI 0) hx hb dL_refuses_416 (by decide) ?_
  refine hs_calli w (vx_runSW (As := [.ref (a 0), .int (nI 15), .int (nI 0), .int (nI (hs_nA x)), .int (nI 0), .int (nI 0), .int (nI 0)]) (rest := []) X (aF_mayTell l hl0 G _ a _ _ hI (nI 0) (nI (hs_nA x)) (nI 0) (nI 0) (nI 0) 1 (hf_may2 (hn_ge (Nat.le_refl _) (Nat.lt_of_le_of_lt hnA (by decide)))) (by decide)) (vx_cwSW 7 hts gL_refuses_L_act rfl rfl rfl (by decide +kernel) ⟨Nat.le_of_ble_eq_true rfl, Nat.le_of_ble_eq_true rfl⟩) ⟨b_blind, fun U9 hU9 hW9 => ⟨rfl, hs_pre E Z9 w hm9 U9 hU9 hW9⟩⟩ rfl rfl hl.1 rfl (lv_room (Nat.le_of_ble_eq_true rfl)) dL_refuses_417 ⟨Nat.le_of_ble_eq_true rfl, Nat.le_of_ble_eq_true rfl⟩) hm9 (fun r i H locs hr w => ?_)
  obtain ⟨hI, hr9⟩ := hr
  refine b_tp (hr9.trans (show hs_r 1 = -71 from by decide)) ?_
  refine lv_bipush (v := -71) hx hb dL_refuses_420 (by decide) ?_
  refine lv_icmp_ne (tgt := 429) hx hb dL_refuses_422 (by decide) (fun c9 => absurd rfl c9) (fun c9 => ?_)
  refine lv_iconst (v := nI 1) hx hb dL_refuses_425 (by decide) ?_
  refine lv_goto (tgt := 430) hx hb dL_refuses_426 (by decide) ?_
  refine lv_istore (lv' := [(15, .int (nI 1)), (14, .int (-2)), (13, .int (nI 3)), (12, .int (nI 4)), (11, .int (nI 12)), (10, .int (nI (hs_nJ x))), (9, .int (nI (hs_nA x))), (8, .int (-2147483648)), (0, .ref (a 0)), (1, .int (nI (hs_nA x))), (2, .int (nI (hs_nJ x))), (3, .int (nI (hs_td x))), (4, .int 2147483647), (5, .int (hV_hidden x (nI 5))), (6, .int (hV_find x (-1) (-1) (nI 0) (nI 11) (nI 0) (nI 0))), (7, .int (nI 1))]) hx hb dL_refuses_430 hl (by decide) rfl (fun ls hl => ?_)
  refine lv_bipush (v := nI 6) hx hb dL_refuses_432 (by decide) ?_
  refine lv_istore (lv' := [(16, .int (nI 6)), (15, .int (nI 1)), (14, .int (-2)), (13, .int (nI 3)), (12, .int (nI 4)), (11, .int (nI 12)), (10, .int (nI (hs_nJ x))), (9, .int (nI (hs_nA x))), (8, .int (-2147483648)), (0, .ref (a 0)), (1, .int (nI (hs_nA x))), (2, .int (nI (hs_nJ x))), (3, .int (nI (hs_td x))), (4, .int 2147483647), (5, .int (hV_hidden x (nI 5))), (6, .int (hV_find x (-1) (-1) (nI 0) (nI 11) (nI 0) (nI 0))), (7, .int (nI 1))]) hx hb dL_refuses_434 hl (by decide) rfl (fun ls hl => ?_)
  refine lv_iload hx hb dL_refuses_436 (lv_at hl 0 rfl) ?_
  refine lv_bipush (v := nI 14) hx hb dL_refuses_438 (by decide) ?_
  refine lv_icmp_ge (tgt := 519) hx hb dL_refuses_440 (by decide) (fun c9 => absurd c9 (by decide)) (fun c9 => ?_)
  refine lv_iload hx hb dL_refuses_443 (lv_at hl 1 rfl) ?_
  refine lv_if_eq (tgt := 519) hx hb dL_refuses_445 (by decide) (fun c9 => absurd c9 (by decide)) (fun c9 => ?_)
  refine lv_iload hx hb dL_refuses_448 (lv_at hl 0 rfl) ?_
  refine lv_bipush (v := nI 7) hx hb dL_refuses_450 (by decide) ?_
  refine lv_icmp_eq (tgt := 506) hx hb dL_refuses_452 (by decide) (fun c9 => absurd c9 (by decide)) (fun c9 => ?_)
  refine lv_aload_n hx hb dL_refuses_455 rfl (lv_at hl 9 rfl) ?_
  refine lv_iload hx hb dL_refuses_456 (lv_at hl 0 rfl) ?_
  refine lv_iload hx hb dL_refuses_458 (lv_at hl 7 rfl) ?_
  refine lv_iconst (v := nI 0) hx hb dL_refuses_460 (by decide) ?_
  refine lv_iconst (v := nI 0) hx hb dL_refuses_461 (by decide) ?_
  refine lv_iconst (v := -1) hx hb dL_refuses_462 (by decide) ?_
  refine lv_iconst (v := nI 0) hx hb dL_refuses_463 (by decide) ?_
  refine hs_calli w (vx_runSW (As := [.ref (a 0), .int (nI 6), .int (nI (hs_nA x)), .int (nI 0), .int (nI 0), .int (-1), .int (nI 0)]) (rest := []) X (aF_secret l hl0 G _ a _ _ hI (nI (hs_nA x)) (nI 0) (nI 0) (nI 0) 1 (hf_secret (hf_okA (hn_ge (Nat.le_refl _) (Nat.lt_of_le_of_lt hnA (by decide))))) (by decide)) (vx_cwSW 7 hts gL_refuses_L_act rfl rfl rfl (by decide +kernel) ⟨Nat.le_of_ble_eq_true rfl, Nat.le_of_ble_eq_true rfl⟩) ⟨b_blind, fun U9 hU9 hW9 => ⟨rfl, hs_pre E Z9 w hm9 U9 hU9 hW9⟩⟩ rfl rfl hl.1 rfl (lv_room (Nat.le_of_ble_eq_true rfl)) dL_refuses_464 ⟨Nat.le_of_ble_eq_true rfl, Nat.le_of_ble_eq_true rfl⟩) hm9 (fun r i H locs hr w => ?_)
  obtain ⟨hI, hr9⟩ := hr
  refine b_tp (hr9.trans (show hs_r 1 = -71 from by decide)) ?_
  refine lv_bipush (v := -71) hx hb dL_refuses_467 (by decide) ?_
  refine lv_icmp_ne (tgt := 510) hx hb dL_refuses_469 (by decide) (fun c9 => absurd rfl c9) (fun c9 => ?_)
  refine lv_aload_n hx hb dL_refuses_472 rfl (lv_at hl 9 rfl) ?_
  refine lv_iload hx hb dL_refuses_473 (lv_at hl 0 rfl) ?_
  refine lv_iconst (v := nI 0) hx hb dL_refuses_475 (by decide) ?_
  refine lv_iload hx hb dL_refuses_476 (lv_at hl 6 rfl) ?_
  refine lv_iconst (v := nI 0) hx hb dL_refuses_478 (by decide) ?_
  refine lv_iconst (v := -1) hx hb dL_refuses_479 (by decide) ?_
  refine lv_iconst (v := nI 0) hx hb dL_refuses_480 (by decide) ?_
  refine hs_calli w (vx_runSW (As := [.ref (a 0), .int (nI 6), .int (nI 0), .int (nI (hs_nJ x)), .int (nI 0), .int (-1), .int (nI 0)]) (rest := []) X (aF_secret l hl0 G _ a _ _ hI (nI 0) (nI (hs_nJ x)) (nI 0) (nI 0) 1 (hf_secret (hf_okJ (hn_ge (Nat.le_refl _) (Nat.lt_of_le_of_lt hnJ (by decide))))) (by decide)) (vx_cwSW 7 hts gL_refuses_L_act rfl rfl rfl (by decide +kernel) ⟨Nat.le_of_ble_eq_true rfl, Nat.le_of_ble_eq_true rfl⟩) ⟨b_blind, fun U9 hU9 hW9 => ⟨rfl, hs_pre E Z9 w hm9 U9 hU9 hW9⟩⟩ rfl rfl hl.1 rfl (lv_room (Nat.le_of_ble_eq_true rfl)) dL_refuses_481 ⟨Nat.le_of_ble_eq_true rfl, Nat.le_of_ble_eq_true rfl⟩) hm9 (fun r i H locs hr w => ?_)
  obtain ⟨hI, hr9⟩ := hr
  refine b_tp (hr9.trans (show hs_r 1 = -71 from by decide)) ?_
  refine lv_bipush (v := -71) hx hb dL_refuses_484 (by decide) ?_
  refine lv_icmp_ne (tgt := 510) hx hb dL_refuses_486 (by decide) (fun c9 => absurd rfl c9) (fun c9 => ?_)
  refine lv_aload_n hx hb dL_refuses_489 rfl (lv_at hl 9 rfl) ?_
  refine lv_iload hx hb dL_refuses_490 (lv_at hl 0 rfl) ?_
  refine lv_iconst (v := nI 0) hx hb dL_refuses_492 (by decide) ?_
  refine lv_iconst (v := nI 0) hx hb dL_refuses_493 (by decide) ?_
  refine lv_iload hx hb dL_refuses_494 (lv_at hl 5 rfl) ?_
  refine lv_iconst (v := -1) hx hb dL_refuses_496 (by decide) ?_
  refine lv_iconst (v := nI 0) hx hb dL_refuses_497 (by decide) ?_
  refine hs_calli w (vx_runSW (As := [.ref (a 0), .int (nI 6), .int (nI 0), .int (nI 0), .int (nI 12), .int (-1), .int (nI 0)]) (rest := []) X (aF_secret l hl0 G _ a _ _ hI (nI 0) (nI 0) (nI 12) (nI 0) 1 (hf_secret (hf_okP (by decide))) (by decide)) (vx_cwSW 7 hts gL_refuses_L_act rfl rfl rfl (by decide +kernel) ⟨Nat.le_of_ble_eq_true rfl, Nat.le_of_ble_eq_true rfl⟩) ⟨b_blind, fun U9 hU9 hW9 => ⟨rfl, hs_pre E Z9 w hm9 U9 hU9 hW9⟩⟩ rfl rfl hl.1 rfl (lv_room (Nat.le_of_ble_eq_true rfl)) dL_refuses_498 ⟨Nat.le_of_ble_eq_true rfl, Nat.le_of_ble_eq_true rfl⟩) hm9 (fun r i H locs hr w => ?_)
  obtain ⟨hI, hr9⟩ := hr
  refine b_tp (hr9.trans (show hs_r 1 = -71 from by decide)) ?_
  refine lv_bipush (v := -71) hx hb dL_refuses_501 (by decide) ?_
  refine lv_icmp_ne (tgt := 510) hx hb dL_refuses_503 (by decide) (fun c9 => absurd rfl c9) (fun c9 => ?_)
  refine lv_iconst (v := nI 1) hx hb dL_refuses_506 (by decide) ?_
  refine lv_goto (tgt := 511) hx hb dL_refuses_507 (by decide) ?_
  refine lv_istore (lv' := [(15, .int (nI 1)), (16, .int (nI 6)), (14, .int (-2)), (13, .int (nI 3)), (12, .int (nI 4)), (11, .int (nI 12)), (10, .int (nI (hs_nJ x))), (9, .int (nI (hs_nA x))), (8, .int (-2147483648)), (0, .ref (a 0)), (1, .int (nI (hs_nA x))), (2, .int (nI (hs_nJ x))), (3, .int (nI (hs_td x))), (4, .int 2147483647), (5, .int (hV_hidden x (nI 5))), (6, .int (hV_find x (-1) (-1) (nI 0) (nI 11) (nI 0) (nI 0))), (7, .int (nI 1))]) hx hb dL_refuses_511 hl (by decide) rfl (fun ls hl => ?_)
  refine lv_iinc (v := nI 7) (lv' := [(16, .int (nI 7)), (15, .int (nI 1)), (14, .int (-2)), (13, .int (nI 3)), (12, .int (nI 4)), (11, .int (nI 12)), (10, .int (nI (hs_nJ x))), (9, .int (nI (hs_nA x))), (8, .int (-2147483648)), (0, .ref (a 0)), (1, .int (nI (hs_nA x))), (2, .int (nI (hs_nJ x))), (3, .int (nI (hs_td x))), (4, .int 2147483647), (5, .int (hV_hidden x (nI 5))), (6, .int (hV_find x (-1) (-1) (nI 0) (nI 11) (nI 0) (nI 0))), (7, .int (nI 1))]) hx hb dL_refuses_513 hl (k := 1) rfl (by decide) (by decide) rfl (fun ls hl => ?_)
  refine lv_goto (tgt := 436) hx hb dL_refuses_516 (by decide) ?_
  refine lv_iload hx hb dL_refuses_436 (lv_at hl 0 rfl) ?_
  refine lv_bipush (v := nI 14) hx hb dL_refuses_438 (by decide) ?_
  refine lv_icmp_ge (tgt := 519) hx hb dL_refuses_440 (by decide) (fun c9 => absurd c9 (by decide)) (fun c9 => ?_)
  refine lv_iload hx hb dL_refuses_443 (lv_at hl 1 rfl) ?_
  refine lv_if_eq (tgt := 519) hx hb dL_refuses_445 (by decide) (fun c9 => absurd c9 (by decide)) (fun c9 => ?_)
  refine lv_iload hx hb dL_refuses_448 (lv_at hl 0 rfl) ?_
  refine lv_bipush (v := nI 7) hx hb dL_refuses_450 (by decide) ?_
  refine lv_icmp_eq (tgt := 506) hx hb dL_refuses_452 (by decide) (fun c9 => ?_) (fun c9 => absurd rfl c9)
  refine lv_iconst (v := nI 1) hx hb dL_refuses_506 (by decide) ?_
  refine lv_goto (tgt := 511) hx hb dL_refuses_507 (by decide) ?_
  refine lv_istore (lv' := [(15, .int (nI 1)), (16, .int (nI 7)), (14, .int (-2)), (13, .int (nI 3)), (12, .int (nI 4)), (11, .int (nI 12)), (10, .int (nI (hs_nJ x))), (9, .int (nI (hs_nA x))), (8, .int (-2147483648)), (0, .ref (a 0)), (1, .int (nI (hs_nA x))), (2, .int (nI (hs_nJ x))), (3, .int (nI (hs_td x))), (4, .int 2147483647), (5, .int (hV_hidden x (nI 5))), (6, .int (hV_find x (-1) (-1) (nI 0) (nI 11) (nI 0) (nI 0))), (7, .int (nI 1))]) hx hb dL_refuses_511 hl (by decide) rfl (fun ls hl => ?_)
  refine lv_iinc (v := nI 8) (lv' := [(16, .int (nI 8)), (15, .int (nI 1)), (14, .int (-2)), (13, .int (nI 3)), (12, .int (nI 4)), (11, .int (nI 12)), (10, .int (nI (hs_nJ x))), (9, .int (nI (hs_nA x))), (8, .int (-2147483648)), (0, .ref (a 0)), (1, .int (nI (hs_nA x))), (2, .int (nI (hs_nJ x))), (3, .int (nI (hs_td x))), (4, .int 2147483647), (5, .int (hV_hidden x (nI 5))), (6, .int (hV_find x (-1) (-1) (nI 0) (nI 11) (nI 0) (nI 0))), (7, .int (nI 1))]) hx hb dL_refuses_513 hl (k := 1) rfl (by decide) (by decide) rfl (fun ls hl => ?_)
  refine lv_goto (tgt := 436) hx hb dL_refuses_516 (by decide) ?_
  refine lv_iload hx hb dL_refuses_436 (lv_at hl 0 rfl) ?_
  refine lv_bipush (v := nI 14) hx hb dL_refuses_438 (by decide) ?_
  refine lv_icmp_ge (tgt := 519) hx hb dL_refuses_440 (by decide) (fun c9 => absurd c9 (by decide)) (fun c9 => ?_)
  refine lv_iload hx hb dL_refuses_443 (lv_at hl 1 rfl) ?_
  refine lv_if_eq (tgt := 519) hx hb dL_refuses_445 (by decide) (fun c9 => absurd c9 (by decide)) (fun c9 => ?_)
  refine lv_iload hx hb dL_refuses_448 (lv_at hl 0 rfl) ?_
  refine lv_bipush (v := nI 7) hx hb dL_refuses_450 (by decide) ?_
  refine lv_icmp_eq (tgt := 506) hx hb dL_refuses_452 (by decide) (fun c9 => absurd c9 (by decide)) (fun c9 => ?_)
  refine lv_aload_n hx hb dL_refuses_455 rfl (lv_at hl 9 rfl) ?_
  refine lv_iload hx hb dL_refuses_456 (lv_at hl 0 rfl) ?_
  refine lv_iload hx hb dL_refuses_458 (lv_at hl 7 rfl) ?_
  refine lv_iconst (v := nI 0) hx hb dL_refuses_460 (by decide) ?_
  refine lv_iconst (v := nI 0) hx hb dL_refuses_461 (by decide) ?_
  refine lv_iconst (v := -1) hx hb dL_refuses_462 (by decide) ?_
  refine lv_iconst (v := nI 0) hx hb dL_refuses_463 (by decide) ?_
  refine hs_calli w (vx_runSW (As := [.ref (a 0), .int (nI 8), .int (nI (hs_nA x)), .int (nI 0), .int (nI 0), .int (-1), .int (nI 0)]) (rest := []) X (aF_figure l hl0 G _ a _ _ hI (nI (hs_nA x)) (nI 0) (nI 0) (-1) (nI 0) 1 (hf_figure1 (hf_okA (hn_ge (Nat.le_refl _) (Nat.lt_of_le_of_lt hnA (by decide))))) (by decide)) (vx_cwSW 7 hts gL_refuses_L_act rfl rfl rfl (by decide +kernel) ⟨Nat.le_of_ble_eq_true rfl, Nat.le_of_ble_eq_true rfl⟩) ⟨b_blind, fun U9 hU9 hW9 => ⟨rfl, hs_pre E Z9 w hm9 U9 hU9 hW9⟩⟩ rfl rfl hl.1 rfl (lv_room (Nat.le_of_ble_eq_true rfl)) dL_refuses_464 ⟨Nat.le_of_ble_eq_true rfl, Nat.le_of_ble_eq_true rfl⟩) hm9 (fun r i H locs hr w => ?_)
  obtain ⟨hI, hr9⟩ := hr
  refine b_tp (hr9.trans (show hs_r 1 = -71 from by decide)) ?_
  refine lv_bipush (v := -71) hx hb dL_refuses_467 (by decide) ?_
  refine lv_icmp_ne (tgt := 510) hx hb dL_refuses_469 (by decide) (fun c9 => absurd rfl c9) (fun c9 => ?_)
  refine lv_aload_n hx hb dL_refuses_472 rfl (lv_at hl 9 rfl) ?_
  refine lv_iload hx hb dL_refuses_473 (lv_at hl 0 rfl) ?_
  refine lv_iconst (v := nI 0) hx hb dL_refuses_475 (by decide) ?_
  refine lv_iload hx hb dL_refuses_476 (lv_at hl 6 rfl) ?_
  refine lv_iconst (v := nI 0) hx hb dL_refuses_478 (by decide) ?_
  refine lv_iconst (v := -1) hx hb dL_refuses_479 (by decide) ?_
  refine lv_iconst (v := nI 0) hx hb dL_refuses_480 (by decide) ?_
  refine hs_calli w (vx_runSW (As := [.ref (a 0), .int (nI 8), .int (nI 0), .int (nI (hs_nJ x)), .int (nI 0), .int (-1), .int (nI 0)]) (rest := []) X (aF_figure l hl0 G _ a _ _ hI (nI 0) (nI (hs_nJ x)) (nI 0) (-1) (nI 0) 1 (hf_figure1 (hf_okJ (hn_ge (Nat.le_refl _) (Nat.lt_of_le_of_lt hnJ (by decide))))) (by decide)) (vx_cwSW 7 hts gL_refuses_L_act rfl rfl rfl (by decide +kernel) ⟨Nat.le_of_ble_eq_true rfl, Nat.le_of_ble_eq_true rfl⟩) ⟨b_blind, fun U9 hU9 hW9 => ⟨rfl, hs_pre E Z9 w hm9 U9 hU9 hW9⟩⟩ rfl rfl hl.1 rfl (lv_room (Nat.le_of_ble_eq_true rfl)) dL_refuses_481 ⟨Nat.le_of_ble_eq_true rfl, Nat.le_of_ble_eq_true rfl⟩) hm9 (fun r i H locs hr w => ?_)
  obtain ⟨hI, hr9⟩ := hr
  refine b_tp (hr9.trans (show hs_r 1 = -71 from by decide)) ?_
  refine lv_bipush (v := -71) hx hb dL_refuses_484 (by decide) ?_
  refine lv_icmp_ne (tgt := 510) hx hb dL_refuses_486 (by decide) (fun c9 => absurd rfl c9) (fun c9 => ?_)
  refine lv_aload_n hx hb dL_refuses_489 rfl (lv_at hl 9 rfl) ?_
  refine lv_iload hx hb dL_refuses_490 (lv_at hl 0 rfl) ?_
  refine lv_iconst (v := nI 0) hx hb dL_refuses_492 (by decide) ?_
  refine lv_iconst (v := nI 0) hx hb dL_refuses_493 (by decide) ?_
  refine lv_iload hx hb dL_refuses_494 (lv_at hl 5 rfl) ?_
  refine lv_iconst (v := -1) hx hb dL_refuses_496 (by decide) ?_
  refine lv_iconst (v := nI 0) hx hb dL_refuses_497 (by decide) ?_
  refine hs_calli w (vx_runSW (As := [.ref (a 0), .int (nI 8), .int (nI 0), .int (nI 0), .int (nI 12), .int (-1), .int (nI 0)]) (rest := []) X (aF_figure l hl0 G _ a _ _ hI (nI 0) (nI 0) (nI 12) (-1) (nI 0) 1 (hf_figure1 (hf_okP (by decide))) (by decide)) (vx_cwSW 7 hts gL_refuses_L_act rfl rfl rfl (by decide +kernel) ⟨Nat.le_of_ble_eq_true rfl, Nat.le_of_ble_eq_true rfl⟩) ⟨b_blind, fun U9 hU9 hW9 => ⟨rfl, hs_pre E Z9 w hm9 U9 hU9 hW9⟩⟩ rfl rfl hl.1 rfl (lv_room (Nat.le_of_ble_eq_true rfl)) dL_refuses_498 ⟨Nat.le_of_ble_eq_true rfl, Nat.le_of_ble_eq_true rfl⟩) hm9 (fun r i H locs hr w => ?_)
  obtain ⟨hI, hr9⟩ := hr
  refine b_tp (hr9.trans (show hs_r 1 = -71 from by decide)) ?_
  refine lv_bipush (v := -71) hx hb dL_refuses_501 (by decide) ?_
  refine lv_icmp_ne (tgt := 510) hx hb dL_refuses_503 (by decide) (fun c9 => absurd rfl c9) (fun c9 => ?_)
  refine lv_iconst (v := nI 1) hx hb dL_refuses_506 (by decide) ?_
  refine lv_goto (tgt := 511) hx hb dL_refuses_507 (by decide) ?_
  refine lv_istore (lv' := [(15, .int (nI 1)), (16, .int (nI 8)), (14, .int (-2)), (13, .int (nI 3)), (12, .int (nI 4)), (11, .int (nI 12)), (10, .int (nI (hs_nJ x))), (9, .int (nI (hs_nA x))), (8, .int (-2147483648)), (0, .ref (a 0)), (1, .int (nI (hs_nA x))), (2, .int (nI (hs_nJ x))), (3, .int (nI (hs_td x))), (4, .int 2147483647), (5, .int (hV_hidden x (nI 5))), (6, .int (hV_find x (-1) (-1) (nI 0) (nI 11) (nI 0) (nI 0))), (7, .int (nI 1))]) hx hb dL_refuses_511 hl (by decide) rfl (fun ls hl => ?_)
  refine lv_iinc (v := nI 9) (lv' := [(16, .int (nI 9)), (15, .int (nI 1)), (14, .int (-2)), (13, .int (nI 3)), (12, .int (nI 4)), (11, .int (nI 12)), (10, .int (nI (hs_nJ x))), (9, .int (nI (hs_nA x))), (8, .int (-2147483648)), (0, .ref (a 0)), (1, .int (nI (hs_nA x))), (2, .int (nI (hs_nJ x))), (3, .int (nI (hs_td x))), (4, .int 2147483647), (5, .int (hV_hidden x (nI 5))), (6, .int (hV_find x (-1) (-1) (nI 0) (nI 11) (nI 0) (nI 0))), (7, .int (nI 1))]) hx hb dL_refuses_513 hl (k := 1) rfl (by decide) (by decide) rfl (fun ls hl => ?_)
  refine lv_goto (tgt := 436) hx hb dL_refuses_516 (by decide) ?_
  refine lv_iload hx hb dL_refuses_436 (lv_at hl 0 rfl) ?_
  refine lv_bipush (v := nI 14) hx hb dL_refuses_438 (by decide) ?_
  refine lv_icmp_ge (tgt := 519) hx hb dL_refuses_440 (by decide) (fun c9 => absurd c9 (by decide)) (fun c9 => ?_)
  refine lv_iload hx hb dL_refuses_443 (lv_at hl 1 rfl) ?_
  refine lv_if_eq (tgt := 519) hx hb dL_refuses_445 (by decide) (fun c9 => absurd c9 (by decide)) (fun c9 => ?_)
  refine lv_iload hx hb dL_refuses_448 (lv_at hl 0 rfl) ?_
  refine lv_bipush (v := nI 7) hx hb dL_refuses_450 (by decide) ?_
  refine lv_icmp_eq (tgt := 506) hx hb dL_refuses_452 (by decide) (fun c9 => absurd c9 (by decide)) (fun c9 => ?_)
  refine lv_aload_n hx hb dL_refuses_455 rfl (lv_at hl 9 rfl) ?_
  refine lv_iload hx hb dL_refuses_456 (lv_at hl 0 rfl) ?_
  refine lv_iload hx hb dL_refuses_458 (lv_at hl 7 rfl) ?_
  refine lv_iconst (v := nI 0) hx hb dL_refuses_460 (by decide) ?_
  refine lv_iconst (v := nI 0) hx hb dL_refuses_461 (by decide) ?_
  refine lv_iconst (v := -1) hx hb dL_refuses_462 (by decide) ?_
  refine lv_iconst (v := nI 0) hx hb dL_refuses_463 (by decide) ?_
  refine hs_calli w (vx_runSW (As := [.ref (a 0), .int (nI 9), .int (nI (hs_nA x)), .int (nI 0), .int (nI 0), .int (-1), .int (nI 0)]) (rest := []) X (aF_value l hl0 G _ a _ _ hI (nI (hs_nA x)) (nI 0) (nI 0) (-1) (nI 0) 1 (hf_value1 (hf_okA (hn_ge (Nat.le_refl _) (Nat.lt_of_le_of_lt hnA (by decide))))) (by decide)) (vx_cwSW 7 hts gL_refuses_L_act rfl rfl rfl (by decide +kernel) ⟨Nat.le_of_ble_eq_true rfl, Nat.le_of_ble_eq_true rfl⟩) ⟨b_blind, fun U9 hU9 hW9 => ⟨rfl, hs_pre E Z9 w hm9 U9 hU9 hW9⟩⟩ rfl rfl hl.1 rfl (lv_room (Nat.le_of_ble_eq_true rfl)) dL_refuses_464 ⟨Nat.le_of_ble_eq_true rfl, Nat.le_of_ble_eq_true rfl⟩) hm9 (fun r i H locs hr w => ?_)
  obtain ⟨hI, hr9⟩ := hr
  refine b_tp (hr9.trans (show hs_r 1 = -71 from by decide)) ?_
  refine lv_bipush (v := -71) hx hb dL_refuses_467 (by decide) ?_
  refine lv_icmp_ne (tgt := 510) hx hb dL_refuses_469 (by decide) (fun c9 => absurd rfl c9) (fun c9 => ?_)
  refine lv_aload_n hx hb dL_refuses_472 rfl (lv_at hl 9 rfl) ?_
  refine lv_iload hx hb dL_refuses_473 (lv_at hl 0 rfl) ?_
  refine lv_iconst (v := nI 0) hx hb dL_refuses_475 (by decide) ?_
  refine lv_iload hx hb dL_refuses_476 (lv_at hl 6 rfl) ?_
  refine lv_iconst (v := nI 0) hx hb dL_refuses_478 (by decide) ?_
  refine lv_iconst (v := -1) hx hb dL_refuses_479 (by decide) ?_
  refine lv_iconst (v := nI 0) hx hb dL_refuses_480 (by decide) ?_
  refine hs_calli w (vx_runSW (As := [.ref (a 0), .int (nI 9), .int (nI 0), .int (nI (hs_nJ x)), .int (nI 0), .int (-1), .int (nI 0)]) (rest := []) X (aF_value l hl0 G _ a _ _ hI (nI 0) (nI (hs_nJ x)) (nI 0) (-1) (nI 0) 1 (hf_value1 (hf_okJ (hn_ge (Nat.le_refl _) (Nat.lt_of_le_of_lt hnJ (by decide))))) (by decide)) (vx_cwSW 7 hts gL_refuses_L_act rfl rfl rfl (by decide +kernel) ⟨Nat.le_of_ble_eq_true rfl, Nat.le_of_ble_eq_true rfl⟩) ⟨b_blind, fun U9 hU9 hW9 => ⟨rfl, hs_pre E Z9 w hm9 U9 hU9 hW9⟩⟩ rfl rfl hl.1 rfl (lv_room (Nat.le_of_ble_eq_true rfl)) dL_refuses_481 ⟨Nat.le_of_ble_eq_true rfl, Nat.le_of_ble_eq_true rfl⟩) hm9 (fun r i H locs hr w => ?_)
  obtain ⟨hI, hr9⟩ := hr
  refine b_tp (hr9.trans (show hs_r 1 = -71 from by decide)) ?_
  refine lv_bipush (v := -71) hx hb dL_refuses_484 (by decide) ?_
  refine lv_icmp_ne (tgt := 510) hx hb dL_refuses_486 (by decide) (fun c9 => absurd rfl c9) (fun c9 => ?_)
  refine lv_aload_n hx hb dL_refuses_489 rfl (lv_at hl 9 rfl) ?_
  refine lv_iload hx hb dL_refuses_490 (lv_at hl 0 rfl) ?_
  refine lv_iconst (v := nI 0) hx hb dL_refuses_492 (by decide) ?_
  refine lv_iconst (v := nI 0) hx hb dL_refuses_493 (by decide) ?_
  refine lv_iload hx hb dL_refuses_494 (lv_at hl 5 rfl) ?_
  refine lv_iconst (v := -1) hx hb dL_refuses_496 (by decide) ?_
  refine lv_iconst (v := nI 0) hx hb dL_refuses_497 (by decide) ?_
  refine hs_calli w (vx_runSW (As := [.ref (a 0), .int (nI 9), .int (nI 0), .int (nI 0), .int (nI 12), .int (-1), .int (nI 0)]) (rest := []) X (aF_value l hl0 G _ a _ _ hI (nI 0) (nI 0) (nI 12) (-1) (nI 0) 1 (hf_value1 (hf_okP (by decide))) (by decide)) (vx_cwSW 7 hts gL_refuses_L_act rfl rfl rfl (by decide +kernel) ⟨Nat.le_of_ble_eq_true rfl, Nat.le_of_ble_eq_true rfl⟩) ⟨b_blind, fun U9 hU9 hW9 => ⟨rfl, hs_pre E Z9 w hm9 U9 hU9 hW9⟩⟩ rfl rfl hl.1 rfl (lv_room (Nat.le_of_ble_eq_true rfl)) dL_refuses_498 ⟨Nat.le_of_ble_eq_true rfl, Nat.le_of_ble_eq_true rfl⟩) hm9 (fun r i H locs hr w => ?_)
  obtain ⟨hI, hr9⟩ := hr
  refine b_tp (hr9.trans (show hs_r 1 = -71 from by decide)) ?_
  refine lv_bipush (v := -71) hx hb dL_refuses_501 (by decide) ?_
  refine lv_icmp_ne (tgt := 510) hx hb dL_refuses_503 (by decide) (fun c9 => absurd rfl c9) (fun c9 => ?_)
  exact kk i _ _ _ hI w (lv_sub hl [9, 10, 11, 12, 13, 14, 15, 16, 8, 7, 6, 5, 4, 3, 2, 1, 0] rfl)
set_option maxHeartbeats 4000000 in
set_option maxRecDepth 100000 in
theorem sg_refuses_4 {p : Program} {l : Launch} (hl0 : l.stackTraces = false) {e : Env} {s : State} {m : MethodId} {below : List Frame} {meth : Method} {c : Code} {G : bG} {args : Array Value} {Q : State → Prop} (X : CallFix p m c cL_refuses 17 s args wsL_refuses RL) (E : bE G vwCl bNW bSW s) {a : Nat → Nat} (Z9 : bZ (hs_M a) s) (hm9 : ∀ q ∈ hs_M a, Aw (hs_M a) s.heap.size q) {x : hs_E} {i : hs_I} {H : Heap} {locs : List Loc} {ls : Array Slot} (hI : hs_Inv x i) (w : bSt G vwCl (hs_M a) s (hs_W G a x i) H locs) (hl : lv_has ls 17 [(0, .ref (a 0)), (1, .int (nI (hs_nA x))), (2, .int (nI (hs_nJ x))), (3, .int (nI (hs_td x))), (4, .int 2147483647), (5, .int (hV_hidden x (nI 5))), (6, .int (hV_find x (-1) (-1) (nI 0) (nI 11) (nI 0) (nI 0))), (7, .int (nI 1)), (8, .int (-2147483648)), (9, .int (nI (hs_nA x))), (10, .int (nI (hs_nJ x))), (11, .int (nI 12)), (12, .int (nI 4)), (13, .int (nI 3)), (14, .int (-2)), (15, .int (nI 1)), (16, .int (nI 9))])
    (kk : ∀ (i : hs_I) (H : Heap) (locs : List Loc) (ls : Array Slot), hs_Inv x i → bSt G vwCl (hs_M a) s (hs_W G a x i) H locs → lv_has ls 17 [(0, .ref (a 0)), (1, .int (nI (hs_nA x))), (2, .int (nI (hs_nJ x))), (3, .int (nI (hs_td x))), (4, .int 2147483647), (5, .int (hV_hidden x (nI 5))), (6, .int (hV_find x (-1) (-1) (nI 0) (nI 11) (nI 0) (nI 0))), (7, .int (nI 2))] → W p l e ({ frames := 9, cells := 324, slots := 1944, locals := 201 }) s m args below meth c H locs 162 972 Q (F0 m 27 ls [])) : W p l e ({ frames := 9, cells := 324, slots := 1944, locals := 201 }) s m args below meth c H locs 121 726 Q (F0 m 506 ls []) := by
  have hx := X.1
  have hb := X.2.1
  have hml := X.2.2.1
  have hown := X.2.2.2.1
  have hts := X.2.2.2.2
  obtain ⟨⟨hnA, hnJ, hTA, hTJ, htd, hst, hbs, hjd, hdn⟩, hbk, hdr, hK⟩ := id hI
  refine lv_iconst (v := nI 1) hx hb dL_refuses_506 (by decide) ?_
  refine lv_goto (tgt := 511) hx hb dL_refuses_507 (by decide) ?_
  refine lv_istore (lv' := [(15, .int (nI 1)), (0, .ref (a 0)), (1, .int (nI (hs_nA x))), (2, .int (nI (hs_nJ x))), (3, .int (nI (hs_td x))), (4, .int 2147483647), (5, .int (hV_hidden x (nI 5))), (6, .int (hV_find x (-1) (-1) (nI 0) (nI 11) (nI 0) (nI 0))), (7, .int (nI 1)), (8, .int (-2147483648)), (9, .int (nI (hs_nA x))), (10, .int (nI (hs_nJ x))), (11, .int (nI 12)), (12, .int (nI 4)), (13, .int (nI 3)), (14, .int (-2)), (16, .int (nI 9))]) hx hb dL_refuses_511 hl (by decide) rfl (fun ls hl => ?_)
  refine lv_iinc (v := nI 10) (lv' := [(16, .int (nI 10)), (15, .int (nI 1)), (0, .ref (a 0)), (1, .int (nI (hs_nA x))), (2, .int (nI (hs_nJ x))), (3, .int (nI (hs_td x))), (4, .int 2147483647), (5, .int (hV_hidden x (nI 5))), (6, .int (hV_find x (-1) (-1) (nI 0) (nI 11) (nI 0) (nI 0))), (7, .int (nI 1)), (8, .int (-2147483648)), (9, .int (nI (hs_nA x))), (10, .int (nI (hs_nJ x))), (11, .int (nI 12)), (12, .int (nI 4)), (13, .int (nI 3)), (14, .int (-2))]) hx hb dL_refuses_513 hl (k := 16) rfl (by decide) (by decide) rfl (fun ls hl => ?_)
  refine lv_goto (tgt := 436) hx hb dL_refuses_516 (by decide) ?_
  refine lv_iload hx hb dL_refuses_436 (lv_at hl 0 rfl) ?_
  refine lv_bipush (v := nI 14) hx hb dL_refuses_438 (by decide) ?_
  refine lv_icmp_ge (tgt := 519) hx hb dL_refuses_440 (by decide) (fun c9 => absurd c9 (by decide)) (fun c9 => ?_)
  refine lv_iload hx hb dL_refuses_443 (lv_at hl 1 rfl) ?_
  refine lv_if_eq (tgt := 519) hx hb dL_refuses_445 (by decide) (fun c9 => absurd c9 (by decide)) (fun c9 => ?_)
  refine lv_iload hx hb dL_refuses_448 (lv_at hl 0 rfl) ?_
  refine lv_bipush (v := nI 7) hx hb dL_refuses_450 (by decide) ?_
  refine lv_icmp_eq (tgt := 506) hx hb dL_refuses_452 (by decide) (fun c9 => absurd c9 (by decide)) (fun c9 => ?_)
  refine lv_aload_n hx hb dL_refuses_455 rfl (lv_at hl 2 rfl) ?_
  refine lv_iload hx hb dL_refuses_456 (lv_at hl 0 rfl) ?_
  refine lv_iload hx hb dL_refuses_458 (lv_at hl 11 rfl) ?_
  refine lv_iconst (v := nI 0) hx hb dL_refuses_460 (by decide) ?_
  refine lv_iconst (v := nI 0) hx hb dL_refuses_461 (by decide) ?_
  refine lv_iconst (v := -1) hx hb dL_refuses_462 (by decide) ?_
  refine lv_iconst (v := nI 0) hx hb dL_refuses_463 (by decide) ?_
  refine hs_calli w (vx_runSW (As := [.ref (a 0), .int (nI 10), .int (nI (hs_nA x)), .int (nI 0), .int (nI 0), .int (-1), .int (nI 0)]) (rest := []) X (aF_first l hl0 G _ a _ _ hI (nI (hs_nA x)) (nI 0) (nI 0) (-1) (nI 0) 1 (hf_first (hf_okA (hn_ge (Nat.le_refl _) (Nat.lt_of_le_of_lt hnA (by decide))))) (by decide)) (vx_cwSW 7 hts gL_refuses_L_act rfl rfl rfl (by decide +kernel) ⟨Nat.le_of_ble_eq_true rfl, Nat.le_of_ble_eq_true rfl⟩) ⟨b_blind, fun U9 hU9 hW9 => ⟨rfl, hs_pre E Z9 w hm9 U9 hU9 hW9⟩⟩ rfl rfl hl.1 rfl (lv_room (Nat.le_of_ble_eq_true rfl)) dL_refuses_464 ⟨Nat.le_of_ble_eq_true rfl, Nat.le_of_ble_eq_true rfl⟩) hm9 (fun r i H locs hr w => ?_)
  obtain ⟨hI, hr9⟩ := hr
  refine b_tp (hr9.trans (show hs_r 1 = -71 from by decide)) ?_
  refine lv_bipush (v := -71) hx hb dL_refuses_467 (by decide) ?_
  refine lv_icmp_ne (tgt := 510) hx hb dL_refuses_469 (by decide) (fun c9 => absurd rfl c9) (fun c9 => ?_)
  refine lv_aload_n hx hb dL_refuses_472 rfl (lv_at hl 2 rfl) ?_
  refine lv_iload hx hb dL_refuses_473 (lv_at hl 0 rfl) ?_
  refine lv_iconst (v := nI 0) hx hb dL_refuses_475 (by decide) ?_
  refine lv_iload hx hb dL_refuses_476 (lv_at hl 12 rfl) ?_
  refine lv_iconst (v := nI 0) hx hb dL_refuses_478 (by decide) ?_
  refine lv_iconst (v := -1) hx hb dL_refuses_479 (by decide) ?_
  refine lv_iconst (v := nI 0) hx hb dL_refuses_480 (by decide) ?_
  refine hs_calli w (vx_runSW (As := [.ref (a 0), .int (nI 10), .int (nI 0), .int (nI (hs_nJ x)), .int (nI 0), .int (-1), .int (nI 0)]) (rest := []) X (aF_first l hl0 G _ a _ _ hI (nI 0) (nI (hs_nJ x)) (nI 0) (-1) (nI 0) 1 (hf_first (hf_okJ (hn_ge (Nat.le_refl _) (Nat.lt_of_le_of_lt hnJ (by decide))))) (by decide)) (vx_cwSW 7 hts gL_refuses_L_act rfl rfl rfl (by decide +kernel) ⟨Nat.le_of_ble_eq_true rfl, Nat.le_of_ble_eq_true rfl⟩) ⟨b_blind, fun U9 hU9 hW9 => ⟨rfl, hs_pre E Z9 w hm9 U9 hU9 hW9⟩⟩ rfl rfl hl.1 rfl (lv_room (Nat.le_of_ble_eq_true rfl)) dL_refuses_481 ⟨Nat.le_of_ble_eq_true rfl, Nat.le_of_ble_eq_true rfl⟩) hm9 (fun r i H locs hr w => ?_)
  obtain ⟨hI, hr9⟩ := hr
  refine b_tp (hr9.trans (show hs_r 1 = -71 from by decide)) ?_
  refine lv_bipush (v := -71) hx hb dL_refuses_484 (by decide) ?_
  refine lv_icmp_ne (tgt := 510) hx hb dL_refuses_486 (by decide) (fun c9 => absurd rfl c9) (fun c9 => ?_)
  refine lv_aload_n hx hb dL_refuses_489 rfl (lv_at hl 2 rfl) ?_
  refine lv_iload hx hb dL_refuses_490 (lv_at hl 0 rfl) ?_
  refine lv_iconst (v := nI 0) hx hb dL_refuses_492 (by decide) ?_
  refine lv_iconst (v := nI 0) hx hb dL_refuses_493 (by decide) ?_
  refine lv_iload hx hb dL_refuses_494 (lv_at hl 13 rfl) ?_
  refine lv_iconst (v := -1) hx hb dL_refuses_496 (by decide) ?_
  refine lv_iconst (v := nI 0) hx hb dL_refuses_497 (by decide) ?_
  refine hs_calli w (vx_runSW (As := [.ref (a 0), .int (nI 10), .int (nI 0), .int (nI 0), .int (nI 12), .int (-1), .int (nI 0)]) (rest := []) X (aF_first l hl0 G _ a _ _ hI (nI 0) (nI 0) (nI 12) (-1) (nI 0) 1 (hf_first (hf_okP (by decide))) (by decide)) (vx_cwSW 7 hts gL_refuses_L_act rfl rfl rfl (by decide +kernel) ⟨Nat.le_of_ble_eq_true rfl, Nat.le_of_ble_eq_true rfl⟩) ⟨b_blind, fun U9 hU9 hW9 => ⟨rfl, hs_pre E Z9 w hm9 U9 hU9 hW9⟩⟩ rfl rfl hl.1 rfl (lv_room (Nat.le_of_ble_eq_true rfl)) dL_refuses_498 ⟨Nat.le_of_ble_eq_true rfl, Nat.le_of_ble_eq_true rfl⟩) hm9 (fun r i H locs hr w => ?_)
  obtain ⟨hI, hr9⟩ := hr
  refine b_tp (hr9.trans (show hs_r 1 = -71 from by decide)) ?_
  refine lv_bipush (v := -71) hx hb dL_refuses_501 (by decide) ?_
  refine lv_icmp_ne (tgt := 510) hx hb dL_refuses_503 (by decide) (fun c9 => absurd rfl c9) (fun c9 => ?_)
  refine lv_iconst (v := nI 1) hx hb dL_refuses_506 (by decide) ?_
  refine lv_goto (tgt := 511) hx hb dL_refuses_507 (by decide) ?_
  refine lv_istore (lv' := [(15, .int (nI 1)), (16, .int (nI 10)), (0, .ref (a 0)), (1, .int (nI (hs_nA x))), (2, .int (nI (hs_nJ x))), (3, .int (nI (hs_td x))), (4, .int 2147483647), (5, .int (hV_hidden x (nI 5))), (6, .int (hV_find x (-1) (-1) (nI 0) (nI 11) (nI 0) (nI 0))), (7, .int (nI 1)), (8, .int (-2147483648)), (9, .int (nI (hs_nA x))), (10, .int (nI (hs_nJ x))), (11, .int (nI 12)), (12, .int (nI 4)), (13, .int (nI 3)), (14, .int (-2))]) hx hb dL_refuses_511 hl (by decide) rfl (fun ls hl => ?_)
  refine lv_iinc (v := nI 11) (lv' := [(16, .int (nI 11)), (15, .int (nI 1)), (0, .ref (a 0)), (1, .int (nI (hs_nA x))), (2, .int (nI (hs_nJ x))), (3, .int (nI (hs_td x))), (4, .int 2147483647), (5, .int (hV_hidden x (nI 5))), (6, .int (hV_find x (-1) (-1) (nI 0) (nI 11) (nI 0) (nI 0))), (7, .int (nI 1)), (8, .int (-2147483648)), (9, .int (nI (hs_nA x))), (10, .int (nI (hs_nJ x))), (11, .int (nI 12)), (12, .int (nI 4)), (13, .int (nI 3)), (14, .int (-2))]) hx hb dL_refuses_513 hl (k := 1) rfl (by decide) (by decide) rfl (fun ls hl => ?_)
  refine lv_goto (tgt := 436) hx hb dL_refuses_516 (by decide) ?_
  refine lv_iload hx hb dL_refuses_436 (lv_at hl 0 rfl) ?_
  refine lv_bipush (v := nI 14) hx hb dL_refuses_438 (by decide) ?_
  refine lv_icmp_ge (tgt := 519) hx hb dL_refuses_440 (by decide) (fun c9 => absurd c9 (by decide)) (fun c9 => ?_)
  refine lv_iload hx hb dL_refuses_443 (lv_at hl 1 rfl) ?_
  refine lv_if_eq (tgt := 519) hx hb dL_refuses_445 (by decide) (fun c9 => absurd c9 (by decide)) (fun c9 => ?_)
  refine lv_iload hx hb dL_refuses_448 (lv_at hl 0 rfl) ?_
  refine lv_bipush (v := nI 7) hx hb dL_refuses_450 (by decide) ?_
  refine lv_icmp_eq (tgt := 506) hx hb dL_refuses_452 (by decide) (fun c9 => absurd c9 (by decide)) (fun c9 => ?_)
  refine lv_aload_n hx hb dL_refuses_455 rfl (lv_at hl 2 rfl) ?_
  refine lv_iload hx hb dL_refuses_456 (lv_at hl 0 rfl) ?_
  refine lv_iload hx hb dL_refuses_458 (lv_at hl 11 rfl) ?_
  refine lv_iconst (v := nI 0) hx hb dL_refuses_460 (by decide) ?_
  refine lv_iconst (v := nI 0) hx hb dL_refuses_461 (by decide) ?_
  refine lv_iconst (v := -1) hx hb dL_refuses_462 (by decide) ?_
  refine lv_iconst (v := nI 0) hx hb dL_refuses_463 (by decide) ?_
  refine hs_calli w (vx_runSW (As := [.ref (a 0), .int (nI 11), .int (nI (hs_nA x)), .int (nI 0), .int (nI 0), .int (-1), .int (nI 0)]) (rest := []) X (aF_revisions l hl0 G _ a _ _ hI (nI (hs_nA x)) (nI 0) (nI 0) (-1) (nI 0) 1 (hf_revisions (hf_okA (hn_ge (Nat.le_refl _) (Nat.lt_of_le_of_lt hnA (by decide))))) (by decide)) (vx_cwSW 7 hts gL_refuses_L_act rfl rfl rfl (by decide +kernel) ⟨Nat.le_of_ble_eq_true rfl, Nat.le_of_ble_eq_true rfl⟩) ⟨b_blind, fun U9 hU9 hW9 => ⟨rfl, hs_pre E Z9 w hm9 U9 hU9 hW9⟩⟩ rfl rfl hl.1 rfl (lv_room (Nat.le_of_ble_eq_true rfl)) dL_refuses_464 ⟨Nat.le_of_ble_eq_true rfl, Nat.le_of_ble_eq_true rfl⟩) hm9 (fun r i H locs hr w => ?_)
  obtain ⟨hI, hr9⟩ := hr
  refine b_tp (hr9.trans (show hs_r 1 = -71 from by decide)) ?_
  refine lv_bipush (v := -71) hx hb dL_refuses_467 (by decide) ?_
  refine lv_icmp_ne (tgt := 510) hx hb dL_refuses_469 (by decide) (fun c9 => absurd rfl c9) (fun c9 => ?_)
  refine lv_aload_n hx hb dL_refuses_472 rfl (lv_at hl 2 rfl) ?_
  refine lv_iload hx hb dL_refuses_473 (lv_at hl 0 rfl) ?_
  refine lv_iconst (v := nI 0) hx hb dL_refuses_475 (by decide) ?_
  refine lv_iload hx hb dL_refuses_476 (lv_at hl 12 rfl) ?_
  refine lv_iconst (v := nI 0) hx hb dL_refuses_478 (by decide) ?_
  refine lv_iconst (v := -1) hx hb dL_refuses_479 (by decide) ?_
  refine lv_iconst (v := nI 0) hx hb dL_refuses_480 (by decide) ?_
  refine hs_calli w (vx_runSW (As := [.ref (a 0), .int (nI 11), .int (nI 0), .int (nI (hs_nJ x)), .int (nI 0), .int (-1), .int (nI 0)]) (rest := []) X (aF_revisions l hl0 G _ a _ _ hI (nI 0) (nI (hs_nJ x)) (nI 0) (-1) (nI 0) 1 (hf_revisions (hf_okJ (hn_ge (Nat.le_refl _) (Nat.lt_of_le_of_lt hnJ (by decide))))) (by decide)) (vx_cwSW 7 hts gL_refuses_L_act rfl rfl rfl (by decide +kernel) ⟨Nat.le_of_ble_eq_true rfl, Nat.le_of_ble_eq_true rfl⟩) ⟨b_blind, fun U9 hU9 hW9 => ⟨rfl, hs_pre E Z9 w hm9 U9 hU9 hW9⟩⟩ rfl rfl hl.1 rfl (lv_room (Nat.le_of_ble_eq_true rfl)) dL_refuses_481 ⟨Nat.le_of_ble_eq_true rfl, Nat.le_of_ble_eq_true rfl⟩) hm9 (fun r i H locs hr w => ?_)
  obtain ⟨hI, hr9⟩ := hr
  refine b_tp (hr9.trans (show hs_r 1 = -71 from by decide)) ?_
  refine lv_bipush (v := -71) hx hb dL_refuses_484 (by decide) ?_
  refine lv_icmp_ne (tgt := 510) hx hb dL_refuses_486 (by decide) (fun c9 => absurd rfl c9) (fun c9 => ?_)
  refine lv_aload_n hx hb dL_refuses_489 rfl (lv_at hl 2 rfl) ?_
  refine lv_iload hx hb dL_refuses_490 (lv_at hl 0 rfl) ?_
  refine lv_iconst (v := nI 0) hx hb dL_refuses_492 (by decide) ?_
  refine lv_iconst (v := nI 0) hx hb dL_refuses_493 (by decide) ?_
  refine lv_iload hx hb dL_refuses_494 (lv_at hl 13 rfl) ?_
  refine lv_iconst (v := -1) hx hb dL_refuses_496 (by decide) ?_
  refine lv_iconst (v := nI 0) hx hb dL_refuses_497 (by decide) ?_
  refine hs_calli w (vx_runSW (As := [.ref (a 0), .int (nI 11), .int (nI 0), .int (nI 0), .int (nI 12), .int (-1), .int (nI 0)]) (rest := []) X (aF_revisions l hl0 G _ a _ _ hI (nI 0) (nI 0) (nI 12) (-1) (nI 0) 1 (hf_revisions (hf_okP (by decide))) (by decide)) (vx_cwSW 7 hts gL_refuses_L_act rfl rfl rfl (by decide +kernel) ⟨Nat.le_of_ble_eq_true rfl, Nat.le_of_ble_eq_true rfl⟩) ⟨b_blind, fun U9 hU9 hW9 => ⟨rfl, hs_pre E Z9 w hm9 U9 hU9 hW9⟩⟩ rfl rfl hl.1 rfl (lv_room (Nat.le_of_ble_eq_true rfl)) dL_refuses_498 ⟨Nat.le_of_ble_eq_true rfl, Nat.le_of_ble_eq_true rfl⟩) hm9 (fun r i H locs hr w => ?_)
  obtain ⟨hI, hr9⟩ := hr
  refine b_tp (hr9.trans (show hs_r 1 = -71 from by decide)) ?_
  refine lv_bipush (v := -71) hx hb dL_refuses_501 (by decide) ?_
  refine lv_icmp_ne (tgt := 510) hx hb dL_refuses_503 (by decide) (fun c9 => absurd rfl c9) (fun c9 => ?_)
  refine lv_iconst (v := nI 1) hx hb dL_refuses_506 (by decide) ?_
  refine lv_goto (tgt := 511) hx hb dL_refuses_507 (by decide) ?_
  refine lv_istore (lv' := [(15, .int (nI 1)), (16, .int (nI 11)), (0, .ref (a 0)), (1, .int (nI (hs_nA x))), (2, .int (nI (hs_nJ x))), (3, .int (nI (hs_td x))), (4, .int 2147483647), (5, .int (hV_hidden x (nI 5))), (6, .int (hV_find x (-1) (-1) (nI 0) (nI 11) (nI 0) (nI 0))), (7, .int (nI 1)), (8, .int (-2147483648)), (9, .int (nI (hs_nA x))), (10, .int (nI (hs_nJ x))), (11, .int (nI 12)), (12, .int (nI 4)), (13, .int (nI 3)), (14, .int (-2))]) hx hb dL_refuses_511 hl (by decide) rfl (fun ls hl => ?_)
  refine lv_iinc (v := nI 12) (lv' := [(16, .int (nI 12)), (15, .int (nI 1)), (0, .ref (a 0)), (1, .int (nI (hs_nA x))), (2, .int (nI (hs_nJ x))), (3, .int (nI (hs_td x))), (4, .int 2147483647), (5, .int (hV_hidden x (nI 5))), (6, .int (hV_find x (-1) (-1) (nI 0) (nI 11) (nI 0) (nI 0))), (7, .int (nI 1)), (8, .int (-2147483648)), (9, .int (nI (hs_nA x))), (10, .int (nI (hs_nJ x))), (11, .int (nI 12)), (12, .int (nI 4)), (13, .int (nI 3)), (14, .int (-2))]) hx hb dL_refuses_513 hl (k := 1) rfl (by decide) (by decide) rfl (fun ls hl => ?_)
  refine lv_goto (tgt := 436) hx hb dL_refuses_516 (by decide) ?_
  refine lv_iload hx hb dL_refuses_436 (lv_at hl 0 rfl) ?_
  refine lv_bipush (v := nI 14) hx hb dL_refuses_438 (by decide) ?_
  refine lv_icmp_ge (tgt := 519) hx hb dL_refuses_440 (by decide) (fun c9 => absurd c9 (by decide)) (fun c9 => ?_)
  refine lv_iload hx hb dL_refuses_443 (lv_at hl 1 rfl) ?_
  refine lv_if_eq (tgt := 519) hx hb dL_refuses_445 (by decide) (fun c9 => absurd c9 (by decide)) (fun c9 => ?_)
  refine lv_iload hx hb dL_refuses_448 (lv_at hl 0 rfl) ?_
  refine lv_bipush (v := nI 7) hx hb dL_refuses_450 (by decide) ?_
  refine lv_icmp_eq (tgt := 506) hx hb dL_refuses_452 (by decide) (fun c9 => absurd c9 (by decide)) (fun c9 => ?_)
  refine lv_aload_n hx hb dL_refuses_455 rfl (lv_at hl 2 rfl) ?_
  refine lv_iload hx hb dL_refuses_456 (lv_at hl 0 rfl) ?_
  refine lv_iload hx hb dL_refuses_458 (lv_at hl 11 rfl) ?_
  refine lv_iconst (v := nI 0) hx hb dL_refuses_460 (by decide) ?_
  refine lv_iconst (v := nI 0) hx hb dL_refuses_461 (by decide) ?_
  refine lv_iconst (v := -1) hx hb dL_refuses_462 (by decide) ?_
  refine lv_iconst (v := nI 0) hx hb dL_refuses_463 (by decide) ?_
  refine hs_calli w (vx_runSW (As := [.ref (a 0), .int (nI 12), .int (nI (hs_nA x)), .int (nI 0), .int (nI 0), .int (-1), .int (nI 0)]) (rest := []) X (aF_hasFault l hl0 G _ a _ _ hI (nI (hs_nA x)) (nI 0) (nI 0) (-1) (nI 0) 1 (hf_hasFault (hf_okA (hn_ge (Nat.le_refl _) (Nat.lt_of_le_of_lt hnA (by decide))))) (by decide)) (vx_cwSW 7 hts gL_refuses_L_act rfl rfl rfl (by decide +kernel) ⟨Nat.le_of_ble_eq_true rfl, Nat.le_of_ble_eq_true rfl⟩) ⟨b_blind, fun U9 hU9 hW9 => ⟨rfl, hs_pre E Z9 w hm9 U9 hU9 hW9⟩⟩ rfl rfl hl.1 rfl (lv_room (Nat.le_of_ble_eq_true rfl)) dL_refuses_464 ⟨Nat.le_of_ble_eq_true rfl, Nat.le_of_ble_eq_true rfl⟩) hm9 (fun r i H locs hr w => ?_)
  obtain ⟨hI, hr9⟩ := hr
  refine b_tp (hr9.trans (show hs_r 1 = -71 from by decide)) ?_
  refine lv_bipush (v := -71) hx hb dL_refuses_467 (by decide) ?_
  refine lv_icmp_ne (tgt := 510) hx hb dL_refuses_469 (by decide) (fun c9 => absurd rfl c9) (fun c9 => ?_)
  refine lv_aload_n hx hb dL_refuses_472 rfl (lv_at hl 2 rfl) ?_
  refine lv_iload hx hb dL_refuses_473 (lv_at hl 0 rfl) ?_
  refine lv_iconst (v := nI 0) hx hb dL_refuses_475 (by decide) ?_
  refine lv_iload hx hb dL_refuses_476 (lv_at hl 12 rfl) ?_
  refine lv_iconst (v := nI 0) hx hb dL_refuses_478 (by decide) ?_
  refine lv_iconst (v := -1) hx hb dL_refuses_479 (by decide) ?_
  refine lv_iconst (v := nI 0) hx hb dL_refuses_480 (by decide) ?_
  refine hs_calli w (vx_runSW (As := [.ref (a 0), .int (nI 12), .int (nI 0), .int (nI (hs_nJ x)), .int (nI 0), .int (-1), .int (nI 0)]) (rest := []) X (aF_hasFault l hl0 G _ a _ _ hI (nI 0) (nI (hs_nJ x)) (nI 0) (-1) (nI 0) 1 (hf_hasFault (hf_okJ (hn_ge (Nat.le_refl _) (Nat.lt_of_le_of_lt hnJ (by decide))))) (by decide)) (vx_cwSW 7 hts gL_refuses_L_act rfl rfl rfl (by decide +kernel) ⟨Nat.le_of_ble_eq_true rfl, Nat.le_of_ble_eq_true rfl⟩) ⟨b_blind, fun U9 hU9 hW9 => ⟨rfl, hs_pre E Z9 w hm9 U9 hU9 hW9⟩⟩ rfl rfl hl.1 rfl (lv_room (Nat.le_of_ble_eq_true rfl)) dL_refuses_481 ⟨Nat.le_of_ble_eq_true rfl, Nat.le_of_ble_eq_true rfl⟩) hm9 (fun r i H locs hr w => ?_)
  obtain ⟨hI, hr9⟩ := hr
  refine b_tp (hr9.trans (show hs_r 1 = -71 from by decide)) ?_
  refine lv_bipush (v := -71) hx hb dL_refuses_484 (by decide) ?_
  refine lv_icmp_ne (tgt := 510) hx hb dL_refuses_486 (by decide) (fun c9 => absurd rfl c9) (fun c9 => ?_)
  refine lv_aload_n hx hb dL_refuses_489 rfl (lv_at hl 2 rfl) ?_
  refine lv_iload hx hb dL_refuses_490 (lv_at hl 0 rfl) ?_
  refine lv_iconst (v := nI 0) hx hb dL_refuses_492 (by decide) ?_
  refine lv_iconst (v := nI 0) hx hb dL_refuses_493 (by decide) ?_
  refine lv_iload hx hb dL_refuses_494 (lv_at hl 13 rfl) ?_
  refine lv_iconst (v := -1) hx hb dL_refuses_496 (by decide) ?_
  refine lv_iconst (v := nI 0) hx hb dL_refuses_497 (by decide) ?_
  refine hs_calli w (vx_runSW (As := [.ref (a 0), .int (nI 12), .int (nI 0), .int (nI 0), .int (nI 12), .int (-1), .int (nI 0)]) (rest := []) X (aF_hasFault l hl0 G _ a _ _ hI (nI 0) (nI 0) (nI 12) (-1) (nI 0) 1 (hf_hasFault (hf_okP (by decide))) (by decide)) (vx_cwSW 7 hts gL_refuses_L_act rfl rfl rfl (by decide +kernel) ⟨Nat.le_of_ble_eq_true rfl, Nat.le_of_ble_eq_true rfl⟩) ⟨b_blind, fun U9 hU9 hW9 => ⟨rfl, hs_pre E Z9 w hm9 U9 hU9 hW9⟩⟩ rfl rfl hl.1 rfl (lv_room (Nat.le_of_ble_eq_true rfl)) dL_refuses_498 ⟨Nat.le_of_ble_eq_true rfl, Nat.le_of_ble_eq_true rfl⟩) hm9 (fun r i H locs hr w => ?_)
  obtain ⟨hI, hr9⟩ := hr
  refine b_tp (hr9.trans (show hs_r 1 = -71 from by decide)) ?_
  refine lv_bipush (v := -71) hx hb dL_refuses_501 (by decide) ?_
  refine lv_icmp_ne (tgt := 510) hx hb dL_refuses_503 (by decide) (fun c9 => absurd rfl c9) (fun c9 => ?_)
  refine lv_iconst (v := nI 1) hx hb dL_refuses_506 (by decide) ?_
  refine lv_goto (tgt := 511) hx hb dL_refuses_507 (by decide) ?_
  refine lv_istore (lv' := [(15, .int (nI 1)), (16, .int (nI 12)), (0, .ref (a 0)), (1, .int (nI (hs_nA x))), (2, .int (nI (hs_nJ x))), (3, .int (nI (hs_td x))), (4, .int 2147483647), (5, .int (hV_hidden x (nI 5))), (6, .int (hV_find x (-1) (-1) (nI 0) (nI 11) (nI 0) (nI 0))), (7, .int (nI 1)), (8, .int (-2147483648)), (9, .int (nI (hs_nA x))), (10, .int (nI (hs_nJ x))), (11, .int (nI 12)), (12, .int (nI 4)), (13, .int (nI 3)), (14, .int (-2))]) hx hb dL_refuses_511 hl (by decide) rfl (fun ls hl => ?_)
  refine lv_iinc (v := nI 13) (lv' := [(16, .int (nI 13)), (15, .int (nI 1)), (0, .ref (a 0)), (1, .int (nI (hs_nA x))), (2, .int (nI (hs_nJ x))), (3, .int (nI (hs_td x))), (4, .int 2147483647), (5, .int (hV_hidden x (nI 5))), (6, .int (hV_find x (-1) (-1) (nI 0) (nI 11) (nI 0) (nI 0))), (7, .int (nI 1)), (8, .int (-2147483648)), (9, .int (nI (hs_nA x))), (10, .int (nI (hs_nJ x))), (11, .int (nI 12)), (12, .int (nI 4)), (13, .int (nI 3)), (14, .int (-2))]) hx hb dL_refuses_513 hl (k := 1) rfl (by decide) (by decide) rfl (fun ls hl => ?_)
  refine lv_goto (tgt := 436) hx hb dL_refuses_516 (by decide) ?_
  refine lv_iload hx hb dL_refuses_436 (lv_at hl 0 rfl) ?_
  refine lv_bipush (v := nI 14) hx hb dL_refuses_438 (by decide) ?_
  refine lv_icmp_ge (tgt := 519) hx hb dL_refuses_440 (by decide) (fun c9 => absurd c9 (by decide)) (fun c9 => ?_)
  refine lv_iload hx hb dL_refuses_443 (lv_at hl 1 rfl) ?_
  refine lv_if_eq (tgt := 519) hx hb dL_refuses_445 (by decide) (fun c9 => absurd c9 (by decide)) (fun c9 => ?_)
  refine lv_iload hx hb dL_refuses_448 (lv_at hl 0 rfl) ?_
  refine lv_bipush (v := nI 7) hx hb dL_refuses_450 (by decide) ?_
  refine lv_icmp_eq (tgt := 506) hx hb dL_refuses_452 (by decide) (fun c9 => absurd c9 (by decide)) (fun c9 => ?_)
  refine lv_aload_n hx hb dL_refuses_455 rfl (lv_at hl 2 rfl) ?_
  refine lv_iload hx hb dL_refuses_456 (lv_at hl 0 rfl) ?_
  refine lv_iload hx hb dL_refuses_458 (lv_at hl 11 rfl) ?_
  refine lv_iconst (v := nI 0) hx hb dL_refuses_460 (by decide) ?_
  refine lv_iconst (v := nI 0) hx hb dL_refuses_461 (by decide) ?_
  refine lv_iconst (v := -1) hx hb dL_refuses_462 (by decide) ?_
  refine lv_iconst (v := nI 0) hx hb dL_refuses_463 (by decide) ?_
  refine hs_calli w (vx_runSW (As := [.ref (a 0), .int (nI 13), .int (nI (hs_nA x)), .int (nI 0), .int (nI 0), .int (-1), .int (nI 0)]) (rest := []) X (aF_shown l hl0 G _ a _ _ hI (nI (hs_nA x)) (nI 0) (nI 0) (-1) (nI 0) 1 (hf_shown (hf_okA (hn_ge (Nat.le_refl _) (Nat.lt_of_le_of_lt hnA (by decide))))) (by decide)) (vx_cwSW 7 hts gL_refuses_L_act rfl rfl rfl (by decide +kernel) ⟨Nat.le_of_ble_eq_true rfl, Nat.le_of_ble_eq_true rfl⟩) ⟨b_blind, fun U9 hU9 hW9 => ⟨rfl, hs_pre E Z9 w hm9 U9 hU9 hW9⟩⟩ rfl rfl hl.1 rfl (lv_room (Nat.le_of_ble_eq_true rfl)) dL_refuses_464 ⟨Nat.le_of_ble_eq_true rfl, Nat.le_of_ble_eq_true rfl⟩) hm9 (fun r i H locs hr w => ?_)
  obtain ⟨hI, hr9⟩ := hr
  refine b_tp (hr9.trans (show hs_r 1 = -71 from by decide)) ?_
  refine lv_bipush (v := -71) hx hb dL_refuses_467 (by decide) ?_
  refine lv_icmp_ne (tgt := 510) hx hb dL_refuses_469 (by decide) (fun c9 => absurd rfl c9) (fun c9 => ?_)
  refine lv_aload_n hx hb dL_refuses_472 rfl (lv_at hl 2 rfl) ?_
  refine lv_iload hx hb dL_refuses_473 (lv_at hl 0 rfl) ?_
  refine lv_iconst (v := nI 0) hx hb dL_refuses_475 (by decide) ?_
  refine lv_iload hx hb dL_refuses_476 (lv_at hl 12 rfl) ?_
  refine lv_iconst (v := nI 0) hx hb dL_refuses_478 (by decide) ?_
  refine lv_iconst (v := -1) hx hb dL_refuses_479 (by decide) ?_
  refine lv_iconst (v := nI 0) hx hb dL_refuses_480 (by decide) ?_
  refine hs_calli w (vx_runSW (As := [.ref (a 0), .int (nI 13), .int (nI 0), .int (nI (hs_nJ x)), .int (nI 0), .int (-1), .int (nI 0)]) (rest := []) X (aF_shown l hl0 G _ a _ _ hI (nI 0) (nI (hs_nJ x)) (nI 0) (-1) (nI 0) 1 (hf_shown (hf_okJ (hn_ge (Nat.le_refl _) (Nat.lt_of_le_of_lt hnJ (by decide))))) (by decide)) (vx_cwSW 7 hts gL_refuses_L_act rfl rfl rfl (by decide +kernel) ⟨Nat.le_of_ble_eq_true rfl, Nat.le_of_ble_eq_true rfl⟩) ⟨b_blind, fun U9 hU9 hW9 => ⟨rfl, hs_pre E Z9 w hm9 U9 hU9 hW9⟩⟩ rfl rfl hl.1 rfl (lv_room (Nat.le_of_ble_eq_true rfl)) dL_refuses_481 ⟨Nat.le_of_ble_eq_true rfl, Nat.le_of_ble_eq_true rfl⟩) hm9 (fun r i H locs hr w => ?_)
  obtain ⟨hI, hr9⟩ := hr
  refine b_tp (hr9.trans (show hs_r 1 = -71 from by decide)) ?_
  refine lv_bipush (v := -71) hx hb dL_refuses_484 (by decide) ?_
  refine lv_icmp_ne (tgt := 510) hx hb dL_refuses_486 (by decide) (fun c9 => absurd rfl c9) (fun c9 => ?_)
  refine lv_aload_n hx hb dL_refuses_489 rfl (lv_at hl 2 rfl) ?_
  refine lv_iload hx hb dL_refuses_490 (lv_at hl 0 rfl) ?_
  refine lv_iconst (v := nI 0) hx hb dL_refuses_492 (by decide) ?_
  refine lv_iconst (v := nI 0) hx hb dL_refuses_493 (by decide) ?_
  refine lv_iload hx hb dL_refuses_494 (lv_at hl 13 rfl) ?_
  refine lv_iconst (v := -1) hx hb dL_refuses_496 (by decide) ?_
  refine lv_iconst (v := nI 0) hx hb dL_refuses_497 (by decide) ?_
  refine hs_calli w (vx_runSW (As := [.ref (a 0), .int (nI 13), .int (nI 0), .int (nI 0), .int (nI 12), .int (-1), .int (nI 0)]) (rest := []) X (aF_shown l hl0 G _ a _ _ hI (nI 0) (nI 0) (nI 12) (-1) (nI 0) 1 (hf_shown (hf_okP (by decide))) (by decide)) (vx_cwSW 7 hts gL_refuses_L_act rfl rfl rfl (by decide +kernel) ⟨Nat.le_of_ble_eq_true rfl, Nat.le_of_ble_eq_true rfl⟩) ⟨b_blind, fun U9 hU9 hW9 => ⟨rfl, hs_pre E Z9 w hm9 U9 hU9 hW9⟩⟩ rfl rfl hl.1 rfl (lv_room (Nat.le_of_ble_eq_true rfl)) dL_refuses_498 ⟨Nat.le_of_ble_eq_true rfl, Nat.le_of_ble_eq_true rfl⟩) hm9 (fun r i H locs hr w => ?_)
  obtain ⟨hI, hr9⟩ := hr
  refine b_tp (hr9.trans (show hs_r 1 = -71 from by decide)) ?_
  refine lv_bipush (v := -71) hx hb dL_refuses_501 (by decide) ?_
  refine lv_icmp_ne (tgt := 510) hx hb dL_refuses_503 (by decide) (fun c9 => absurd rfl c9) (fun c9 => ?_)
  refine lv_iconst (v := nI 1) hx hb dL_refuses_506 (by decide) ?_
  refine lv_goto (tgt := 511) hx hb dL_refuses_507 (by decide) ?_
  refine lv_istore (lv' := [(15, .int (nI 1)), (16, .int (nI 13)), (0, .ref (a 0)), (1, .int (nI (hs_nA x))), (2, .int (nI (hs_nJ x))), (3, .int (nI (hs_td x))), (4, .int 2147483647), (5, .int (hV_hidden x (nI 5))), (6, .int (hV_find x (-1) (-1) (nI 0) (nI 11) (nI 0) (nI 0))), (7, .int (nI 1)), (8, .int (-2147483648)), (9, .int (nI (hs_nA x))), (10, .int (nI (hs_nJ x))), (11, .int (nI 12)), (12, .int (nI 4)), (13, .int (nI 3)), (14, .int (-2))]) hx hb dL_refuses_511 hl (by decide) rfl (fun ls hl => ?_)
  refine lv_iinc (v := nI 14) (lv' := [(16, .int (nI 14)), (15, .int (nI 1)), (0, .ref (a 0)), (1, .int (nI (hs_nA x))), (2, .int (nI (hs_nJ x))), (3, .int (nI (hs_td x))), (4, .int 2147483647), (5, .int (hV_hidden x (nI 5))), (6, .int (hV_find x (-1) (-1) (nI 0) (nI 11) (nI 0) (nI 0))), (7, .int (nI 1)), (8, .int (-2147483648)), (9, .int (nI (hs_nA x))), (10, .int (nI (hs_nJ x))), (11, .int (nI 12)), (12, .int (nI 4)), (13, .int (nI 3)), (14, .int (-2))]) hx hb dL_refuses_513 hl (k := 1) rfl (by decide) (by decide) rfl (fun ls hl => ?_)
  refine lv_goto (tgt := 436) hx hb dL_refuses_516 (by decide) ?_
  refine lv_iload hx hb dL_refuses_436 (lv_at hl 0 rfl) ?_
  refine lv_bipush (v := nI 14) hx hb dL_refuses_438 (by decide) ?_
  refine lv_icmp_ge (tgt := 519) hx hb dL_refuses_440 (by decide) (fun c9 => ?_) (fun c9 => absurd (by decide) c9)
  refine lv_iload hx hb dL_refuses_519 (lv_at hl 1 rfl) ?_
  refine lv_if_eq (tgt := 675) hx hb dL_refuses_521 (by decide) (fun c9 => absurd c9 (by decide)) (fun c9 => ?_)
  refine lv_aload_n hx hb dL_refuses_524 rfl (lv_at hl 2 rfl) ?_
  refine lv_iload hx hb dL_refuses_525 (lv_at hl 9 rfl) ?_
  refine lv_if_ne (tgt := 535) hx hb dL_refuses_527 (by decide) (fun c9 => ?_) (fun c9 => absurd c9 (by decide))
  refine lv_iload hx hb dL_refuses_535 (lv_at hl 11 rfl) ?_
  refine lv_iconst (v := -1) hx hb dL_refuses_537 (by decide) ?_
  refine lv_bipush (v := nI 9) hx hb dL_refuses_538 (by decide) ?_
  refine lv_iconst (v := nI 0) hx hb dL_refuses_540 (by decide) ?_
  refine lv_iconst (v := nI 0) hx hb dL_refuses_541 (by decide) ?_
  refine lv_iconst (v := nI 0) hx hb dL_refuses_542 (by decide) ?_
  refine hs_calli w (vx_runSW (As := [.ref (a 0), .int (nI (hs_nA x)), .int (-1), .int (nI 9), .int (nI 0), .int (nI 0), .int (nI 0)]) (rest := []) X (fF l hl0 G _ a _ _ hI (nI (hs_nA x)) (-1) (nI 9) (nI 0) (nI 0) (nI 0) 1 (hf_find1 (Or.inl (hn_pat (hn_ge (Nat.le_refl _) (Nat.lt_of_le_of_lt hnA (by decide))) (b_m1 (Nat.lt_of_le_of_lt hnA (by decide)))))) (by decide)) (vx_cwSW 7 hts gL_refuses_L_find rfl rfl rfl (by decide +kernel) ⟨Nat.le_of_ble_eq_true rfl, Nat.le_of_ble_eq_true rfl⟩) ⟨b_blind, fun U9 hU9 hW9 => ⟨rfl, hs_pre E Z9 w hm9 U9 hU9 hW9⟩⟩ rfl rfl hl.1 rfl (lv_room (Nat.le_of_ble_eq_true rfl)) dL_refuses_543 ⟨Nat.le_of_ble_eq_true rfl, Nat.le_of_ble_eq_true rfl⟩) hm9 (fun r i H locs hr w => ?_)
  obtain ⟨hI, hr9⟩ := hr
  refine b_tp (hr9.trans (show hs_r 1 = -71 from by decide)) ?_
  refine lv_bipush (v := -71) hx hb dL_refuses_546 (by decide) ?_
  refine lv_icmp_ne (tgt := 675) hx hb dL_refuses_548 (by decide) (fun c9 => absurd rfl c9) (fun c9 => ?_)
  refine lv_aload_n hx hb dL_refuses_551 rfl (lv_at hl 2 rfl) ?_
  refine lv_iconst (v := -1) hx hb dL_refuses_552 (by decide) ?_
  refine lv_iload hx hb dL_refuses_553 (lv_at hl 9 rfl) ?_
  refine lv_if_ne (tgt := 563) hx hb dL_refuses_555 (by decide) (fun c9 => ?_) (fun c9 => absurd c9 (by decide))
  refine lv_iload hx hb dL_refuses_563 (lv_at hl 12 rfl) ?_
  refine lv_bipush (v := nI 9) hx hb dL_refuses_565 (by decide) ?_
  refine lv_iconst (v := nI 0) hx hb dL_refuses_567 (by decide) ?_
  refine lv_iconst (v := nI 0) hx hb dL_refuses_568 (by decide) ?_
  refine lv_iconst (v := nI 0) hx hb dL_refuses_569 (by decide) ?_
  refine hs_calli w (vx_runSW (As := [.ref (a 0), .int (-1), .int (nI (hs_nJ x)), .int (nI 9), .int (nI 0), .int (nI 0), .int (nI 0)]) (rest := []) X (fF l hl0 G _ a _ _ hI (-1) (nI (hs_nJ x)) (nI 9) (nI 0) (nI 0) (nI 0) 1 (hf_find1 (Or.inr (Or.inl (hn_pat (hn_ge (Nat.le_refl _) (Nat.lt_of_le_of_lt hnJ (by decide))) (b_m1 (Nat.lt_of_le_of_lt hnJ (by decide))))))) (by decide)) (vx_cwSW 7 hts gL_refuses_L_find rfl rfl rfl (by decide +kernel) ⟨Nat.le_of_ble_eq_true rfl, Nat.le_of_ble_eq_true rfl⟩) ⟨b_blind, fun U9 hU9 hW9 => ⟨rfl, hs_pre E Z9 w hm9 U9 hU9 hW9⟩⟩ rfl rfl hl.1 rfl (lv_room (Nat.le_of_ble_eq_true rfl)) dL_refuses_570 ⟨Nat.le_of_ble_eq_true rfl, Nat.le_of_ble_eq_true rfl⟩) hm9 (fun r i H locs hr w => ?_)
  obtain ⟨hI, hr9⟩ := hr
  refine b_tp (hr9.trans (show hs_r 1 = -71 from by decide)) ?_
  refine lv_bipush (v := -71) hx hb dL_refuses_573 (by decide) ?_
  refine lv_icmp_ne (tgt := 675) hx hb dL_refuses_575 (by decide) (fun c9 => absurd rfl c9) (fun c9 => ?_)
  refine lv_aload_n hx hb dL_refuses_578 rfl (lv_at hl 2 rfl) ?_
  refine lv_iconst (v := -1) hx hb dL_refuses_579 (by decide) ?_
  refine lv_iconst (v := -1) hx hb dL_refuses_580 (by decide) ?_
  refine lv_bipush (v := nI 9) hx hb dL_refuses_581 (by decide) ?_
  refine lv_iconst (v := nI 0) hx hb dL_refuses_583 (by decide) ?_
  refine lv_iconst (v := nI 0) hx hb dL_refuses_584 (by decide) ?_
  refine lv_iload hx hb dL_refuses_585 (lv_at hl 16 rfl) ?_
  refine hs_calli w (vx_runSW (As := [.ref (a 0), .int (-1), .int (-1), .int (nI 9), .int (nI 0), .int (nI 0), .int (-2)]) (rest := []) X (fF l hl0 G _ a _ _ hI (-1) (-1) (nI 9) (nI 0) (nI 0) (-2) 1 (hf_find1 (Or.inr (Or.inr (by decide)))) (by decide)) (vx_cwSW 7 hts gL_refuses_L_find rfl rfl rfl (by decide +kernel) ⟨Nat.le_of_ble_eq_true rfl, Nat.le_of_ble_eq_true rfl⟩) ⟨b_blind, fun U9 hU9 hW9 => ⟨rfl, hs_pre E Z9 w hm9 U9 hU9 hW9⟩⟩ rfl rfl hl.1 rfl (lv_room (Nat.le_of_ble_eq_true rfl)) dL_refuses_587 ⟨Nat.le_of_ble_eq_true rfl, Nat.le_of_ble_eq_true rfl⟩) hm9 (fun r i H locs hr w => ?_)
  obtain ⟨hI, hr9⟩ := hr
  refine b_tp (hr9.trans (show hs_r 1 = -71 from by decide)) ?_
  refine lv_bipush (v := -71) hx hb dL_refuses_590 (by decide) ?_
  refine lv_icmp_ne (tgt := 675) hx hb dL_refuses_592 (by decide) (fun c9 => absurd rfl c9) (fun c9 => ?_)
  refine lv_aload_n hx hb dL_refuses_595 rfl (lv_at hl 2 rfl) ?_
  refine lv_iconst (v := -1) hx hb dL_refuses_596 (by decide) ?_
  refine lv_iconst (v := -1) hx hb dL_refuses_597 (by decide) ?_
  refine lv_iload hx hb dL_refuses_598 (lv_at hl 13 rfl) ?_
  refine lv_bipush (v := nI 11) hx hb dL_refuses_600 (by decide) ?_
  refine lv_iconst (v := nI 0) hx hb dL_refuses_602 (by decide) ?_
  refine lv_iconst (v := nI 0) hx hb dL_refuses_603 (by decide) ?_
  refine hs_calli w (vx_runSW (As := [.ref (a 0), .int (-1), .int (-1), .int (nI 12), .int (nI 11), .int (nI 0), .int (nI 0)]) (rest := []) X (fF l hl0 G _ a _ _ hI (-1) (-1) (nI 12) (nI 11) (nI 0) (nI 0) 2 (hf_find2 (by decide) (by decide)) (by decide)) (vx_cwSW 7 hts gL_refuses_L_find rfl rfl rfl (by decide +kernel) ⟨Nat.le_of_ble_eq_true rfl, Nat.le_of_ble_eq_true rfl⟩) ⟨b_blind, fun U9 hU9 hW9 => ⟨rfl, hs_pre E Z9 w hm9 U9 hU9 hW9⟩⟩ rfl rfl hl.1 rfl (lv_room (Nat.le_of_ble_eq_true rfl)) dL_refuses_604 ⟨Nat.le_of_ble_eq_true rfl, Nat.le_of_ble_eq_true rfl⟩) hm9 (fun r i H locs hr w => ?_)
  obtain ⟨hI, hr9⟩ := hr
  refine b_tp (hr9.trans (show hs_r 2 = -72 from by decide)) ?_
  refine lv_bipush (v := -72) hx hb dL_refuses_607 (by decide) ?_
  refine lv_icmp_ne (tgt := 675) hx hb dL_refuses_609 (by decide) (fun c9 => absurd rfl c9) (fun c9 => ?_)
  refine lv_aload_n hx hb dL_refuses_612 rfl (lv_at hl 2 rfl) ?_
  refine lv_iconst (v := -1) hx hb dL_refuses_613 (by decide) ?_
  refine lv_iconst (v := -1) hx hb dL_refuses_614 (by decide) ?_
  refine lv_iconst (v := nI 0) hx hb dL_refuses_615 (by decide) ?_
  refine lv_iload hx hb dL_refuses_616 (lv_at hl 13 rfl) ?_
  refine lv_iconst (v := nI 0) hx hb dL_refuses_618 (by decide) ?_
  refine lv_iconst (v := nI 0) hx hb dL_refuses_619 (by decide) ?_
  refine hs_calli w (vx_runSW (As := [.ref (a 0), .int (-1), .int (-1), .int (nI 0), .int (nI 12), .int (nI 0), .int (nI 0)]) (rest := []) X (fF l hl0 G _ a _ _ hI (-1) (-1) (nI 0) (nI 12) (nI 0) (nI 0) 2 (hf_find2 (by decide) (by decide)) (by decide)) (vx_cwSW 7 hts gL_refuses_L_find rfl rfl rfl (by decide +kernel) ⟨Nat.le_of_ble_eq_true rfl, Nat.le_of_ble_eq_true rfl⟩) ⟨b_blind, fun U9 hU9 hW9 => ⟨rfl, hs_pre E Z9 w hm9 U9 hU9 hW9⟩⟩ rfl rfl hl.1 rfl (lv_room (Nat.le_of_ble_eq_true rfl)) dL_refuses_620 ⟨Nat.le_of_ble_eq_true rfl, Nat.le_of_ble_eq_true rfl⟩) hm9 (fun r i H locs hr w => ?_)
  obtain ⟨hI, hr9⟩ := hr
  refine b_tp (hr9.trans (show hs_r 2 = -72 from by decide)) ?_
  refine lv_bipush (v := -72) hx hb dL_refuses_623 (by decide) ?_
  refine lv_icmp_ne (tgt := 675) hx hb dL_refuses_625 (by decide) (fun c9 => absurd rfl c9) (fun c9 => ?_)
  refine lv_aload_n hx hb dL_refuses_628 rfl (lv_at hl 2 rfl) ?_
  refine lv_iconst (v := -1) hx hb dL_refuses_629 (by decide) ?_
  refine lv_iconst (v := -1) hx hb dL_refuses_630 (by decide) ?_
  refine lv_iconst (v := nI 5) hx hb dL_refuses_631 (by decide) ?_
  refine lv_iconst (v := nI 4) hx hb dL_refuses_632 (by decide) ?_
  refine lv_iconst (v := nI 0) hx hb dL_refuses_633 (by decide) ?_
  refine lv_iconst (v := nI 0) hx hb dL_refuses_634 (by decide) ?_
  refine hs_calli w (vx_runSW (As := [.ref (a 0), .int (-1), .int (-1), .int (nI 5), .int (nI 4), .int (nI 0), .int (nI 0)]) (rest := []) X (fF l hl0 G _ a _ _ hI (-1) (-1) (nI 5) (nI 4) (nI 0) (nI 0) 2 (hf_find2 (by decide) (by decide)) (by decide)) (vx_cwSW 7 hts gL_refuses_L_find rfl rfl rfl (by decide +kernel) ⟨Nat.le_of_ble_eq_true rfl, Nat.le_of_ble_eq_true rfl⟩) ⟨b_blind, fun U9 hU9 hW9 => ⟨rfl, hs_pre E Z9 w hm9 U9 hU9 hW9⟩⟩ rfl rfl hl.1 rfl (lv_room (Nat.le_of_ble_eq_true rfl)) dL_refuses_635 ⟨Nat.le_of_ble_eq_true rfl, Nat.le_of_ble_eq_true rfl⟩) hm9 (fun r i H locs hr w => ?_)
  obtain ⟨hI, hr9⟩ := hr
  refine b_tp (hr9.trans (show hs_r 2 = -72 from by decide)) ?_
  refine lv_bipush (v := -72) hx hb dL_refuses_638 (by decide) ?_
  refine lv_icmp_ne (tgt := 675) hx hb dL_refuses_640 (by decide) (fun c9 => absurd rfl c9) (fun c9 => ?_)
  refine lv_aload_n hx hb dL_refuses_643 rfl (lv_at hl 2 rfl) ?_
  refine lv_iconst (v := -1) hx hb dL_refuses_644 (by decide) ?_
  refine lv_iconst (v := -1) hx hb dL_refuses_645 (by decide) ?_
  refine lv_iconst (v := nI 0) hx hb dL_refuses_646 (by decide) ?_
  refine lv_iconst (v := nI 0) hx hb dL_refuses_647 (by decide) ?_
  refine lv_iload hx hb dL_refuses_648 (lv_at hl 9 rfl) ?_
  refine lv_iconst (v := nI 1) hx hb dL_refuses_650 (by decide) ?_
  refine lv_icmp_ne (tgt := 660) hx hb dL_refuses_651 (by decide) (fun c9 => absurd rfl c9) (fun c9 => ?_)
  refine lv_sipush (v := nI 1001) hx hb dL_refuses_654 (by decide) ?_
  refine lv_goto (tgt := 662) hx hb dL_refuses_657 (by decide) ?_
  refine lv_iconst (v := nI 0) hx hb dL_refuses_662 (by decide) ?_
  refine hs_calli w (vx_runSW (As := [.ref (a 0), .int (-1), .int (-1), .int (nI 0), .int (nI 0), .int (nI 1001), .int (nI 0)]) (rest := []) X (fF l hl0 G _ a _ _ hI (-1) (-1) (nI 0) (nI 0) (nI 1001) (nI 0) 2 (hf_find2 (by decide) (by decide)) (by decide)) (vx_cwSW 7 hts gL_refuses_L_find rfl rfl rfl (by decide +kernel) ⟨Nat.le_of_ble_eq_true rfl, Nat.le_of_ble_eq_true rfl⟩) ⟨b_blind, fun U9 hU9 hW9 => ⟨rfl, hs_pre E Z9 w hm9 U9 hU9 hW9⟩⟩ rfl rfl hl.1 rfl (lv_room (Nat.le_of_ble_eq_true rfl)) dL_refuses_663 ⟨Nat.le_of_ble_eq_true rfl, Nat.le_of_ble_eq_true rfl⟩) hm9 (fun r i H locs hr w => ?_)
  obtain ⟨hI, hr9⟩ := hr
  refine b_tp (hr9.trans (show hs_r 2 = -72 from by decide)) ?_
  refine lv_bipush (v := -72) hx hb dL_refuses_666 (by decide) ?_
  refine lv_icmp_ne (tgt := 675) hx hb dL_refuses_668 (by decide) (fun c9 => absurd rfl c9) (fun c9 => ?_)
  refine lv_iconst (v := nI 1) hx hb dL_refuses_671 (by decide) ?_
  refine lv_goto (tgt := 676) hx hb dL_refuses_672 (by decide) ?_
  refine lv_istore (lv' := [(15, .int (nI 1)), (16, .int (nI 14)), (0, .ref (a 0)), (1, .int (nI (hs_nA x))), (2, .int (nI (hs_nJ x))), (3, .int (nI (hs_td x))), (4, .int 2147483647), (5, .int (hV_hidden x (nI 5))), (6, .int (hV_find x (-1) (-1) (nI 0) (nI 11) (nI 0) (nI 0))), (7, .int (nI 1)), (8, .int (-2147483648)), (9, .int (nI (hs_nA x))), (10, .int (nI (hs_nJ x))), (11, .int (nI 12)), (12, .int (nI 4)), (13, .int (nI 3)), (14, .int (-2))]) hx hb dL_refuses_676 hl (by decide) rfl (fun ls hl => ?_)
  refine lv_iload hx hb dL_refuses_678 (lv_at hl 0 rfl) ?_
  refine lv_if_eq (tgt := 806) hx hb dL_refuses_680 (by decide) (fun c9 => absurd c9 (by decide)) (fun c9 => ?_)
  refine lv_iload_n hx hb dL_refuses_683 rfl (lv_at hl 3 rfl) ?_
  refine lv_if_eq (tgt := 802) hx hb dL_refuses_684 (by decide) (fun c_684_1 => ?_) (fun c_684_1 => ?_)
  · have q_684_2 : (hs_nA x) = 0 := (nI_z (by omega)).mp c_684_1
    refine lv_iconst (v := nI 1) hx hb dL_refuses_802 (by decide) ?_
    refine lv_goto (tgt := 807) hx hb dL_refuses_803 (by decide) ?_
    refine lv_istore (lv' := [(15, .int (nI 1)), (16, .int (nI 14)), (0, .ref (a 0)), (1, .int (nI (hs_nA x))), (2, .int (nI (hs_nJ x))), (3, .int (nI (hs_td x))), (4, .int 2147483647), (5, .int (hV_hidden x (nI 5))), (6, .int (hV_find x (-1) (-1) (nI 0) (nI 11) (nI 0) (nI 0))), (7, .int (nI 1)), (8, .int (-2147483648)), (9, .int (nI (hs_nA x))), (10, .int (nI (hs_nJ x))), (11, .int (nI 12)), (12, .int (nI 4)), (13, .int (nI 3)), (14, .int (-2))]) hx hb dL_refuses_807 hl (by decide) rfl (fun ls hl => ?_)
    refine lv_iload hx hb dL_refuses_809 (lv_at hl 0 rfl) ?_
    refine lv_if_ne (tgt := 816) hx hb dL_refuses_811 (by decide) (fun c9 => ?_) (fun c9 => absurd c9 (by decide))
    refine lv_iinc (v := nI 2) (lv' := [(7, .int (nI 2)), (15, .int (nI 1)), (16, .int (nI 14)), (0, .ref (a 0)), (1, .int (nI (hs_nA x))), (2, .int (nI (hs_nJ x))), (3, .int (nI (hs_td x))), (4, .int 2147483647), (5, .int (hV_hidden x (nI 5))), (6, .int (hV_find x (-1) (-1) (nI 0) (nI 11) (nI 0) (nI 0))), (8, .int (-2147483648)), (9, .int (nI (hs_nA x))), (10, .int (nI (hs_nJ x))), (11, .int (nI 12)), (12, .int (nI 4)), (13, .int (nI 3)), (14, .int (-2))]) hx hb dL_refuses_816 hl (k := 9) rfl (by decide) (by decide) rfl (fun ls hl => ?_)
    refine lv_goto (tgt := 27) hx hb dL_refuses_819 (by decide) ?_
    refine W.widen (k := 162) (n := 972) (by decide) (by decide) ?_
    exact kk i _ _ _ hI w (lv_sub hl [3, 4, 5, 6, 7, 8, 9, 0] rfl)
  · have q_684_2 : ¬ (hs_nA x) = 0 := fun h9 => c_684_1 ((nI_z (by omega)).mpr h9)
    refine lv_iload_n hx hb dL_refuses_687 rfl (lv_at hl 4 rfl) ?_
    refine lv_if_eq (tgt := 802) hx hb dL_refuses_688 (by decide) (fun c_688_3 => ?_) (fun c_688_3 => ?_)
    · have q_688_4 : (hs_nJ x) = 0 := (nI_z (by omega)).mp c_688_3
      refine lv_iconst (v := nI 1) hx hb dL_refuses_802 (by decide) ?_
      refine lv_goto (tgt := 807) hx hb dL_refuses_803 (by decide) ?_
      refine lv_istore (lv' := [(15, .int (nI 1)), (16, .int (nI 14)), (0, .ref (a 0)), (1, .int (nI (hs_nA x))), (2, .int (nI (hs_nJ x))), (3, .int (nI (hs_td x))), (4, .int 2147483647), (5, .int (hV_hidden x (nI 5))), (6, .int (hV_find x (-1) (-1) (nI 0) (nI 11) (nI 0) (nI 0))), (7, .int (nI 1)), (8, .int (-2147483648)), (9, .int (nI (hs_nA x))), (10, .int (nI (hs_nJ x))), (11, .int (nI 12)), (12, .int (nI 4)), (13, .int (nI 3)), (14, .int (-2))]) hx hb dL_refuses_807 hl (by decide) rfl (fun ls hl => ?_)
      refine lv_iload hx hb dL_refuses_809 (lv_at hl 0 rfl) ?_
      refine lv_if_ne (tgt := 816) hx hb dL_refuses_811 (by decide) (fun c9 => ?_) (fun c9 => absurd c9 (by decide))
      refine lv_iinc (v := nI 2) (lv' := [(7, .int (nI 2)), (15, .int (nI 1)), (16, .int (nI 14)), (0, .ref (a 0)), (1, .int (nI (hs_nA x))), (2, .int (nI (hs_nJ x))), (3, .int (nI (hs_td x))), (4, .int 2147483647), (5, .int (hV_hidden x (nI 5))), (6, .int (hV_find x (-1) (-1) (nI 0) (nI 11) (nI 0) (nI 0))), (8, .int (-2147483648)), (9, .int (nI (hs_nA x))), (10, .int (nI (hs_nJ x))), (11, .int (nI 12)), (12, .int (nI 4)), (13, .int (nI 3)), (14, .int (-2))]) hx hb dL_refuses_816 hl (k := 9) rfl (by decide) (by decide) rfl (fun ls hl => ?_)
      refine lv_goto (tgt := 27) hx hb dL_refuses_819 (by decide) ?_
      refine W.widen (k := 162) (n := 972) (by decide) (by decide) ?_
      exact kk i _ _ _ hI w (lv_sub hl [3, 4, 5, 6, 7, 8, 9, 0] rfl)
    · have q_688_4 : ¬ (hs_nJ x) = 0 := fun h9 => c_688_3 ((nI_z (by omega)).mpr h9)
      refine lv_aload_n hx hb dL_refuses_691 rfl (lv_at hl 2 rfl) ?_
      refine lv_iconst (v := nI 3) hx hb dL_refuses_692 (by decide) ?_
      refine lv_iload hx hb dL_refuses_693 (lv_at hl 15 rfl) ?_
      refine lv_iconst (v := nI 0) hx hb dL_refuses_695 (by decide) ?_
      refine lv_iconst (v := nI 0) hx hb dL_refuses_696 (by decide) ?_
      refine lv_iconst (v := nI 0) hx hb dL_refuses_697 (by decide) ?_
      refine lv_iconst (v := nI 0) hx hb dL_refuses_698 (by decide) ?_
      refine hs_calli w (vx_runSW (As := [.ref (a 0), .int (nI 3), .int (nI 3), .int (nI 0), .int (nI 0), .int (nI 0), .int (nI 0)]) (rest := []) X (aF_put l hl0 G _ a _ _ hI (nI 3) (nI 0) (nI 0) (nI 0) (nI 0) 2 (hf_put2 (hf_ok0 (Nat.pos_of_ne_zero q_684_2) (Nat.pos_of_ne_zero q_688_4) hnA hnJ) (by decide)) (by decide)) (vx_cwSW 7 hts gL_refuses_L_act rfl rfl rfl (by decide +kernel) ⟨Nat.le_of_ble_eq_true rfl, Nat.le_of_ble_eq_true rfl⟩) ⟨b_blind, fun U9 hU9 hW9 => ⟨rfl, hs_pre E Z9 w hm9 U9 hU9 hW9⟩⟩ rfl rfl hl.1 rfl (lv_room (Nat.le_of_ble_eq_true rfl)) dL_refuses_699 ⟨Nat.le_of_ble_eq_true rfl, Nat.le_of_ble_eq_true rfl⟩) hm9 (fun r i H locs hr w => ?_)
      obtain ⟨hI, hr9⟩ := hr
      refine b_tp (hr9.trans (show hs_r 2 = -72 from by decide)) ?_
      refine lv_bipush (v := -72) hx hb dL_refuses_702 (by decide) ?_
      refine lv_icmp_ne (tgt := 806) hx hb dL_refuses_704 (by decide) (fun c9 => absurd rfl c9) (fun c9 => ?_)
      refine lv_aload_n hx hb dL_refuses_707 rfl (lv_at hl 2 rfl) ?_
      refine lv_iconst (v := nI 3) hx hb dL_refuses_708 (by decide) ?_
      refine lv_iconst (v := nI 2) hx hb dL_refuses_709 (by decide) ?_
      refine lv_iconst (v := nI 0) hx hb dL_refuses_710 (by decide) ?_
      refine lv_iconst (v := nI 0) hx hb dL_refuses_711 (by decide) ?_
      refine lv_iconst (v := nI 0) hx hb dL_refuses_712 (by decide) ?_
      refine lv_iload hx hb dL_refuses_713 (lv_at hl 9 rfl) ?_
      refine lv_if_ne (tgt := 723) hx hb dL_refuses_715 (by decide) (fun c9 => ?_) (fun c9 => absurd c9 (by decide))
      refine lv_iload hx hb dL_refuses_723 (lv_at hl 9 rfl) ?_
      refine lv_iconst (v := nI 1) hx hb dL_refuses_725 (by decide) ?_
      refine lv_icmp_ne (tgt := 734) hx hb dL_refuses_726 (by decide) (fun c9 => absurd rfl c9) (fun c9 => ?_)
      refine lv_ldc (v := 1000001) hx hb hown (hts (.constant RL 85 (1000001)) (by decide +kernel)) dL_refuses_729 ?_
      refine lv_goto (tgt := 736) hx hb dL_refuses_731 (by decide) ?_
      refine hs_calli w (vx_runSW (As := [.ref (a 0), .int (nI 3), .int (nI 2), .int (nI 0), .int (nI 0), .int (nI 0), .int 1000001]) (rest := []) X (aF_put l hl0 G _ a _ _ hI (nI 2) (nI 0) (nI 0) (nI 0) 1000001 2 (hf_put2 (hf_ok0 (Nat.pos_of_ne_zero q_684_2) (Nat.pos_of_ne_zero q_688_4) hnA hnJ) (by decide)) (by decide)) (vx_cwSW 7 hts gL_refuses_L_act rfl rfl rfl (by decide +kernel) ⟨Nat.le_of_ble_eq_true rfl, Nat.le_of_ble_eq_true rfl⟩) ⟨b_blind, fun U9 hU9 hW9 => ⟨rfl, hs_pre E Z9 w hm9 U9 hU9 hW9⟩⟩ rfl rfl hl.1 rfl (lv_room (Nat.le_of_ble_eq_true rfl)) dL_refuses_736 ⟨Nat.le_of_ble_eq_true rfl, Nat.le_of_ble_eq_true rfl⟩) hm9 (fun r i H locs hr w => ?_)
      obtain ⟨hI, hr9⟩ := hr
      refine b_tp (hr9.trans (show hs_r 2 = -72 from by decide)) ?_
      refine lv_bipush (v := -72) hx hb dL_refuses_739 (by decide) ?_
      refine lv_icmp_ne (tgt := 806) hx hb dL_refuses_741 (by decide) (fun c9 => absurd rfl c9) (fun c9 => ?_)
      refine lv_aload_n hx hb dL_refuses_744 rfl (lv_at hl 2 rfl) ?_
      refine lv_bipush (v := nI 8) hx hb dL_refuses_745 (by decide) ?_
      refine lv_iconst (v := nI 0) hx hb dL_refuses_747 (by decide) ?_
      refine lv_iconst (v := nI 0) hx hb dL_refuses_748 (by decide) ?_
      refine lv_iconst (v := nI 0) hx hb dL_refuses_749 (by decide) ?_
      refine lv_iload hx hb dL_refuses_750 (lv_at hl 9 rfl) ?_
      refine lv_iconst (v := nI 1) hx hb dL_refuses_752 (by decide) ?_
      refine lv_icmp_ne (tgt := 762) hx hb dL_refuses_753 (by decide) (fun c9 => absurd rfl c9) (fun c9 => ?_)
      refine lv_iload_n hx hb dL_refuses_756 rfl (lv_at hl 5 rfl) ?_
      refine lv_iconst (v := nI 1) hx hb dL_refuses_757 (by decide) ?_
      refine lv_iadd hx hb dL_refuses_758 ?_
      refine b_tp (show (nI (hs_td x)) + (nI 1) = nI ((hs_td x) + 1) from nI_add (hs_td x) 1) ?_
      refine lv_goto (tgt := 764) hx hb dL_refuses_759 (by decide) ?_
      refine lv_iconst (v := nI 0) hx hb dL_refuses_764 (by decide) ?_
      refine hs_calli w (vx_runSW (As := [.ref (a 0), .int (nI 8), .int (nI 0), .int (nI 0), .int (nI 0), .int (nI ((hs_td x) + 1)), .int (nI 0)]) (rest := []) X (aF_figure l hl0 G _ a _ _ hI (nI 0) (nI 0) (nI 0) (nI ((hs_td x) + 1)) (nI 0) 2 (hf_figure2 (hf_ok0 (Nat.pos_of_ne_zero q_684_2) (Nat.pos_of_ne_zero q_688_4) hnA hnJ) (hn_d1 htd)) (by decide)) (vx_cwSW 7 hts gL_refuses_L_act rfl rfl rfl (by decide +kernel) ⟨Nat.le_of_ble_eq_true rfl, Nat.le_of_ble_eq_true rfl⟩) ⟨b_blind, fun U9 hU9 hW9 => ⟨rfl, hs_pre E Z9 w hm9 U9 hU9 hW9⟩⟩ rfl rfl hl.1 rfl (lv_room (Nat.le_of_ble_eq_true rfl)) dL_refuses_765 ⟨Nat.le_of_ble_eq_true rfl, Nat.le_of_ble_eq_true rfl⟩) hm9 (fun r i H locs hr w => ?_)
      obtain ⟨hI, hr9⟩ := hr
      refine b_tp (hr9.trans (show hs_r 2 = -72 from by decide)) ?_
      refine lv_bipush (v := -72) hx hb dL_refuses_768 (by decide) ?_
      refine lv_icmp_ne (tgt := 806) hx hb dL_refuses_770 (by decide) (fun c9 => absurd rfl c9) (fun c9 => ?_)
      refine lv_aload_n hx hb dL_refuses_773 rfl (lv_at hl 2 rfl) ?_
      refine lv_bipush (v := nI 9) hx hb dL_refuses_774 (by decide) ?_
      refine lv_iconst (v := nI 0) hx hb dL_refuses_776 (by decide) ?_
      refine lv_iconst (v := nI 0) hx hb dL_refuses_777 (by decide) ?_
      refine lv_iconst (v := nI 0) hx hb dL_refuses_778 (by decide) ?_
      refine lv_iload hx hb dL_refuses_779 (lv_at hl 9 rfl) ?_
      refine lv_iconst (v := nI 1) hx hb dL_refuses_781 (by decide) ?_
      refine lv_icmp_ne (tgt := 791) hx hb dL_refuses_782 (by decide) (fun c9 => absurd rfl c9) (fun c9 => ?_)
      refine lv_iload_n hx hb dL_refuses_785 rfl (lv_at hl 5 rfl) ?_
      refine lv_iconst (v := nI 1) hx hb dL_refuses_786 (by decide) ?_
      refine lv_iadd hx hb dL_refuses_787 ?_
      refine b_tp (show (nI (hs_td x)) + (nI 1) = nI ((hs_td x) + 1) from nI_add (hs_td x) 1) ?_
      refine lv_goto (tgt := 793) hx hb dL_refuses_788 (by decide) ?_
      refine lv_iconst (v := nI 0) hx hb dL_refuses_793 (by decide) ?_
      refine hs_calli w (vx_runSW (As := [.ref (a 0), .int (nI 9), .int (nI 0), .int (nI 0), .int (nI 0), .int (nI ((hs_td x) + 1)), .int (nI 0)]) (rest := []) X (aF_value l hl0 G _ a _ _ hI (nI 0) (nI 0) (nI 0) (nI ((hs_td x) + 1)) (nI 0) 2 (hf_value2 (hf_ok0 (Nat.pos_of_ne_zero q_684_2) (Nat.pos_of_ne_zero q_688_4) hnA hnJ) (hn_d1 htd)) (by decide)) (vx_cwSW 7 hts gL_refuses_L_act rfl rfl rfl (by decide +kernel) ⟨Nat.le_of_ble_eq_true rfl, Nat.le_of_ble_eq_true rfl⟩) ⟨b_blind, fun U9 hU9 hW9 => ⟨rfl, hs_pre E Z9 w hm9 U9 hU9 hW9⟩⟩ rfl rfl hl.1 rfl (lv_room (Nat.le_of_ble_eq_true rfl)) dL_refuses_794 ⟨Nat.le_of_ble_eq_true rfl, Nat.le_of_ble_eq_true rfl⟩) hm9 (fun r i H locs hr w => ?_)
      obtain ⟨hI, hr9⟩ := hr
      refine b_tp (hr9.trans (show hs_r 2 = -72 from by decide)) ?_
      refine lv_bipush (v := -72) hx hb dL_refuses_797 (by decide) ?_
      refine lv_icmp_ne (tgt := 806) hx hb dL_refuses_799 (by decide) (fun c9 => absurd rfl c9) (fun c9 => ?_)
      refine lv_iconst (v := nI 1) hx hb dL_refuses_802 (by decide) ?_
      refine lv_goto (tgt := 807) hx hb dL_refuses_803 (by decide) ?_
      refine lv_istore (lv' := [(15, .int (nI 1)), (16, .int (nI 14)), (0, .ref (a 0)), (1, .int (nI (hs_nA x))), (2, .int (nI (hs_nJ x))), (3, .int (nI (hs_td x))), (4, .int 2147483647), (5, .int (hV_hidden x (nI 5))), (6, .int (hV_find x (-1) (-1) (nI 0) (nI 11) (nI 0) (nI 0))), (7, .int (nI 1)), (8, .int (-2147483648)), (9, .int (nI (hs_nA x))), (10, .int (nI (hs_nJ x))), (11, .int (nI 12)), (12, .int (nI 4)), (13, .int (nI 3)), (14, .int (-2))]) hx hb dL_refuses_807 hl (by decide) rfl (fun ls hl => ?_)
      refine lv_iload hx hb dL_refuses_809 (lv_at hl 0 rfl) ?_
      refine lv_if_ne (tgt := 816) hx hb dL_refuses_811 (by decide) (fun c9 => ?_) (fun c9 => absurd c9 (by decide))
      refine lv_iinc (v := nI 2) (lv' := [(7, .int (nI 2)), (15, .int (nI 1)), (16, .int (nI 14)), (0, .ref (a 0)), (1, .int (nI (hs_nA x))), (2, .int (nI (hs_nJ x))), (3, .int (nI (hs_td x))), (4, .int 2147483647), (5, .int (hV_hidden x (nI 5))), (6, .int (hV_find x (-1) (-1) (nI 0) (nI 11) (nI 0) (nI 0))), (8, .int (-2147483648)), (9, .int (nI (hs_nA x))), (10, .int (nI (hs_nJ x))), (11, .int (nI 12)), (12, .int (nI 4)), (13, .int (nI 3)), (14, .int (-2))]) hx hb dL_refuses_816 hl (k := 9) rfl (by decide) (by decide) rfl (fun ls hl => ?_)
      refine lv_goto (tgt := 27) hx hb dL_refuses_819 (by decide) ?_
      exact kk i _ _ _ hI w (lv_sub hl [3, 4, 5, 6, 7, 8, 9, 0] rfl)
set_option maxHeartbeats 4000000 in
set_option maxRecDepth 100000 in
theorem sg_refuses_5 {p : Program} {l : Launch} (hl0 : l.stackTraces = false) {e : Env} {s : State} {m : MethodId} {below : List Frame} {meth : Method} {c : Code} {G : bG} {args : Array Value} {Q : State → Prop} (X : CallFix p m c cL_refuses 17 s args wsL_refuses RL) (E : bE G vwCl bNW bSW s) {a : Nat → Nat} (Z9 : bZ (hs_M a) s) (hm9 : ∀ q ∈ hs_M a, Aw (hs_M a) s.heap.size q) {x : hs_E} {i : hs_I} {H : Heap} {locs : List Loc} {ls : Array Slot} (hI : hs_Inv x i) (w : bSt G vwCl (hs_M a) s (hs_W G a x i) H locs) (hl : lv_has ls 17 [(0, .ref (a 0)), (1, .int (nI (hs_nA x))), (2, .int (nI (hs_nJ x))), (3, .int (nI (hs_td x))), (4, .int 2147483647), (5, .int (hV_hidden x (nI 5))), (6, .int (hV_find x (-1) (-1) (nI 0) (nI 11) (nI 0) (nI 0))), (7, .int (nI 2))])
    (kk : ∀ (i : hs_I) (H : Heap) (locs : List Loc) (ls : Array Slot), hs_Inv x i → bSt G vwCl (hs_M a) s (hs_W G a x i) H locs → lv_has ls 17 [(0, .ref (a 0)), (1, .int (nI (hs_nA x))), (2, .int (nI (hs_nJ x))), (3, .int (nI (hs_td x))), (4, .int 2147483647), (5, .int (hV_hidden x (nI 5))), (6, .int (hV_find x (-1) (-1) (nI 0) (nI 11) (nI 0) (nI 0))), (7, .int (nI 2)), (8, .int 2147483647), (9, .int 2147483647), (10, .int 2147483647), (11, .int 2147483647), (12, .int 2147483647), (13, .int 2147483647), (14, .int (-1)), (15, .int (nI 1)), (16, .int (nI 9))] → W p l e ({ frames := 9, cells := 324, slots := 1944, locals := 201 }) s m args below meth c H locs 200 1200 Q (F0 m 506 ls [])) : W p l e ({ frames := 9, cells := 324, slots := 1944, locals := 201 }) s m args below meth c H locs 162 972 Q (F0 m 27 ls []) := by
  have hx := X.1
  have hb := X.2.1
  have hml := X.2.2.1
  have hown := X.2.2.2.1
  have hts := X.2.2.2.2
  obtain ⟨⟨hnA, hnJ, hTA, hTJ, htd, hst, hbs, hjd, hdn⟩, hbk, hdr, hK⟩ := id hI
  refine lv_iload hx hb dL_refuses_27 (lv_at hl 7 rfl) ?_
  refine lv_iconst (v := nI 4) hx hb dL_refuses_29 (by decide) ?_
  refine lv_icmp_ge (tgt := 822) hx hb dL_refuses_30 (by decide) (fun c9 => absurd c9 (by decide)) (fun c9 => ?_)
  refine lv_iload hx hb dL_refuses_33 (lv_at hl 7 rfl) ?_
  refine lv_if_ne (tgt := 42) hx hb dL_refuses_35 (by decide) (fun c9 => ?_) (fun c9 => absurd c9 (by decide))
  refine lv_iload hx hb dL_refuses_42 (lv_at hl 7 rfl) ?_
  refine lv_iconst (v := nI 2) hx hb dL_refuses_44 (by decide) ?_
  refine lv_icmp_ne (tgt := 53) hx hb dL_refuses_45 (by decide) (fun c9 => absurd rfl c9) (fun c9 => ?_)
  refine lv_iload hx hb dL_refuses_48 (lv_at hl 4 rfl) ?_
  refine lv_goto (tgt := 58) hx hb dL_refuses_50 (by decide) ?_
  refine lv_istore (lv' := [(8, .int 2147483647), (0, .ref (a 0)), (1, .int (nI (hs_nA x))), (2, .int (nI (hs_nJ x))), (3, .int (nI (hs_td x))), (4, .int 2147483647), (5, .int (hV_hidden x (nI 5))), (6, .int (hV_find x (-1) (-1) (nI 0) (nI 11) (nI 0) (nI 0))), (7, .int (nI 2))]) hx hb dL_refuses_58 hl (by decide) rfl (fun ls hl => ?_)
  refine lv_iload hx hb dL_refuses_60 (lv_at hl 8 rfl) ?_
  refine lv_iconst (v := nI 1) hx hb dL_refuses_62 (by decide) ?_
  refine lv_icmp_ne (tgt := 70) hx hb dL_refuses_63 (by decide) (fun c9 => ?_) (fun c9 => absurd c9 (by decide))
  refine lv_iload hx hb dL_refuses_70 (lv_at hl 0 rfl) ?_
  refine lv_istore (lv' := [(9, .int 2147483647), (8, .int 2147483647), (0, .ref (a 0)), (1, .int (nI (hs_nA x))), (2, .int (nI (hs_nJ x))), (3, .int (nI (hs_td x))), (4, .int 2147483647), (5, .int (hV_hidden x (nI 5))), (6, .int (hV_find x (-1) (-1) (nI 0) (nI 11) (nI 0) (nI 0))), (7, .int (nI 2))]) hx hb dL_refuses_72 hl (by decide) rfl (fun ls hl => ?_)
  refine lv_iload hx hb dL_refuses_74 (lv_at hl 9 rfl) ?_
  refine lv_iconst (v := nI 1) hx hb dL_refuses_76 (by decide) ?_
  refine lv_icmp_ne (tgt := 84) hx hb dL_refuses_77 (by decide) (fun c9 => ?_) (fun c9 => absurd c9 (by decide))
  refine lv_iload hx hb dL_refuses_84 (lv_at hl 1 rfl) ?_
  refine lv_istore (lv' := [(10, .int 2147483647), (9, .int 2147483647), (8, .int 2147483647), (0, .ref (a 0)), (1, .int (nI (hs_nA x))), (2, .int (nI (hs_nJ x))), (3, .int (nI (hs_td x))), (4, .int 2147483647), (5, .int (hV_hidden x (nI 5))), (6, .int (hV_find x (-1) (-1) (nI 0) (nI 11) (nI 0) (nI 0))), (7, .int (nI 2))]) hx hb dL_refuses_86 hl (by decide) rfl (fun ls hl => ?_)
  refine lv_iload hx hb dL_refuses_88 (lv_at hl 10 rfl) ?_
  refine lv_iconst (v := nI 1) hx hb dL_refuses_90 (by decide) ?_
  refine lv_icmp_ne (tgt := 99) hx hb dL_refuses_91 (by decide) (fun c9 => ?_) (fun c9 => absurd c9 (by decide))
  refine lv_iload hx hb dL_refuses_99 (lv_at hl 2 rfl) ?_
  refine lv_istore (lv' := [(11, .int 2147483647), (10, .int 2147483647), (9, .int 2147483647), (8, .int 2147483647), (0, .ref (a 0)), (1, .int (nI (hs_nA x))), (2, .int (nI (hs_nJ x))), (3, .int (nI (hs_td x))), (4, .int 2147483647), (5, .int (hV_hidden x (nI 5))), (6, .int (hV_find x (-1) (-1) (nI 0) (nI 11) (nI 0) (nI 0))), (7, .int (nI 2))]) hx hb dL_refuses_101 hl (by decide) rfl (fun ls hl => ?_)
  refine lv_iload hx hb dL_refuses_103 (lv_at hl 11 rfl) ?_
  refine lv_iconst (v := nI 1) hx hb dL_refuses_105 (by decide) ?_
  refine lv_icmp_ne (tgt := 113) hx hb dL_refuses_106 (by decide) (fun c9 => ?_) (fun c9 => absurd c9 (by decide))
  refine lv_iload hx hb dL_refuses_113 (lv_at hl 3 rfl) ?_
  refine lv_istore (lv' := [(12, .int 2147483647), (11, .int 2147483647), (10, .int 2147483647), (9, .int 2147483647), (8, .int 2147483647), (0, .ref (a 0)), (1, .int (nI (hs_nA x))), (2, .int (nI (hs_nJ x))), (3, .int (nI (hs_td x))), (4, .int 2147483647), (5, .int (hV_hidden x (nI 5))), (6, .int (hV_find x (-1) (-1) (nI 0) (nI 11) (nI 0) (nI 0))), (7, .int (nI 2))]) hx hb dL_refuses_115 hl (by decide) rfl (fun ls hl => ?_)
  refine lv_iload hx hb dL_refuses_117 (lv_at hl 12 rfl) ?_
  refine lv_iconst (v := nI 1) hx hb dL_refuses_119 (by decide) ?_
  refine lv_icmp_ne (tgt := 127) hx hb dL_refuses_120 (by decide) (fun c9 => ?_) (fun c9 => absurd c9 (by decide))
  refine lv_iload hx hb dL_refuses_127 (lv_at hl 4 rfl) ?_
  refine lv_istore (lv' := [(13, .int 2147483647), (12, .int 2147483647), (11, .int 2147483647), (10, .int 2147483647), (9, .int 2147483647), (8, .int 2147483647), (0, .ref (a 0)), (1, .int (nI (hs_nA x))), (2, .int (nI (hs_nJ x))), (3, .int (nI (hs_td x))), (4, .int 2147483647), (5, .int (hV_hidden x (nI 5))), (6, .int (hV_find x (-1) (-1) (nI 0) (nI 11) (nI 0) (nI 0))), (7, .int (nI 2))]) hx hb dL_refuses_129 hl (by decide) rfl (fun ls hl => ?_)
  refine lv_iload hx hb dL_refuses_131 (lv_at hl 13 rfl) ?_
  refine lv_iconst (v := nI 2) hx hb dL_refuses_133 (by decide) ?_
  refine lv_icmp_ne (tgt := 141) hx hb dL_refuses_134 (by decide) (fun c9 => absurd rfl c9) (fun c9 => ?_)
  refine lv_iconst (v := -1) hx hb dL_refuses_137 (by decide) ?_
  refine lv_goto (tgt := 157) hx hb dL_refuses_138 (by decide) ?_
  refine lv_istore (lv' := [(14, .int (-1)), (13, .int 2147483647), (12, .int 2147483647), (11, .int 2147483647), (10, .int 2147483647), (9, .int 2147483647), (8, .int 2147483647), (0, .ref (a 0)), (1, .int (nI (hs_nA x))), (2, .int (nI (hs_nJ x))), (3, .int (nI (hs_td x))), (4, .int 2147483647), (5, .int (hV_hidden x (nI 5))), (6, .int (hV_find x (-1) (-1) (nI 0) (nI 11) (nI 0) (nI 0))), (7, .int (nI 2))]) hx hb dL_refuses_157 hl (by decide) rfl (fun ls hl => ?_)
  refine lv_aload_n hx hb dL_refuses_159 rfl (lv_at hl 7 rfl) ?_
  refine lv_iconst (v := nI 0) hx hb dL_refuses_160 (by decide) ?_
  refine lv_iload hx hb dL_refuses_161 (lv_at hl 14 rfl) ?_
  refine lv_if_ne (tgt := 171) hx hb dL_refuses_163 (by decide) (fun c9 => ?_) (fun c9 => absurd c9 (by decide))
  refine lv_iload hx hb dL_refuses_171 (lv_at hl 5 rfl) ?_
  refine lv_iconst (v := nI 0) hx hb dL_refuses_173 (by decide) ?_
  refine lv_iconst (v := nI 0) hx hb dL_refuses_174 (by decide) ?_
  refine lv_iconst (v := nI 0) hx hb dL_refuses_175 (by decide) ?_
  refine lv_iconst (v := nI 0) hx hb dL_refuses_176 (by decide) ?_
  refine hs_calli w (vx_runSW (As := [.ref (a 0), .int (nI 0), .int 2147483647, .int (nI 0), .int (nI 0), .int (nI 0), .int (nI 0)]) (rest := []) X (aF_area l hl0 G _ a _ _ hI 2147483647 (nI 0) (nI 0) (nI 0) (nI 0) 1 (hf_area (hn_pat (hn_max (Nat.le_trans hnA (by decide))) (by decide))) (by decide)) (vx_cwSW 7 hts gL_refuses_L_act rfl rfl rfl (by decide +kernel) ⟨Nat.le_of_ble_eq_true rfl, Nat.le_of_ble_eq_true rfl⟩) ⟨b_blind, fun U9 hU9 hW9 => ⟨rfl, hs_pre E Z9 w hm9 U9 hU9 hW9⟩⟩ rfl rfl hl.1 rfl (lv_room (Nat.le_of_ble_eq_true rfl)) dL_refuses_177 ⟨Nat.le_of_ble_eq_true rfl, Nat.le_of_ble_eq_true rfl⟩) hm9 (fun r i H locs hr w => ?_)
  obtain ⟨hI, hr9⟩ := hr
  refine b_tp (hr9.trans (show hs_r 1 = -71 from by decide)) ?_
  refine lv_bipush (v := -71) hx hb dL_refuses_180 (by decide) ?_
  refine lv_icmp_ne (tgt := 429) hx hb dL_refuses_182 (by decide) (fun c9 => absurd rfl c9) (fun c9 => ?_)
  refine lv_aload_n hx hb dL_refuses_185 rfl (lv_at hl 7 rfl) ?_
  refine lv_iconst (v := nI 1) hx hb dL_refuses_186 (by decide) ?_
  refine lv_iload hx hb dL_refuses_187 (lv_at hl 14 rfl) ?_
  refine lv_if_ne (tgt := 197) hx hb dL_refuses_189 (by decide) (fun c9 => ?_) (fun c9 => absurd c9 (by decide))
  refine lv_iload hx hb dL_refuses_197 (lv_at hl 4 rfl) ?_
  refine lv_iconst (v := nI 0) hx hb dL_refuses_199 (by decide) ?_
  refine lv_iconst (v := nI 0) hx hb dL_refuses_200 (by decide) ?_
  refine lv_iconst (v := nI 0) hx hb dL_refuses_201 (by decide) ?_
  refine lv_iconst (v := nI 0) hx hb dL_refuses_202 (by decide) ?_
  refine hs_calli w (vx_runSW (As := [.ref (a 0), .int (nI 1), .int 2147483647, .int (nI 0), .int (nI 0), .int (nI 0), .int (nI 0)]) (rest := []) X (aF_item l hl0 G _ a _ _ hI 2147483647 (nI 0) (nI 0) (nI 0) (nI 0) 1 (hf_item (hn_pat (hn_max (Nat.le_trans hnJ (by decide))) (by decide))) (by decide)) (vx_cwSW 7 hts gL_refuses_L_act rfl rfl rfl (by decide +kernel) ⟨Nat.le_of_ble_eq_true rfl, Nat.le_of_ble_eq_true rfl⟩) ⟨b_blind, fun U9 hU9 hW9 => ⟨rfl, hs_pre E Z9 w hm9 U9 hU9 hW9⟩⟩ rfl rfl hl.1 rfl (lv_room (Nat.le_of_ble_eq_true rfl)) dL_refuses_203 ⟨Nat.le_of_ble_eq_true rfl, Nat.le_of_ble_eq_true rfl⟩) hm9 (fun r i H locs hr w => ?_)
  obtain ⟨hI, hr9⟩ := hr
  refine b_tp (hr9.trans (show hs_r 1 = -71 from by decide)) ?_
  refine lv_bipush (v := -71) hx hb dL_refuses_206 (by decide) ?_
  refine lv_icmp_ne (tgt := 429) hx hb dL_refuses_208 (by decide) (fun c9 => absurd rfl c9) (fun c9 => ?_)
  refine lv_aload_n hx hb dL_refuses_211 rfl (lv_at hl 7 rfl) ?_
  refine lv_iconst (v := nI 2) hx hb dL_refuses_212 (by decide) ?_
  refine lv_iload hx hb dL_refuses_213 (lv_at hl 2 rfl) ?_
  refine lv_iconst (v := nI 0) hx hb dL_refuses_215 (by decide) ?_
  refine lv_iconst (v := nI 0) hx hb dL_refuses_216 (by decide) ?_
  refine lv_iconst (v := nI 0) hx hb dL_refuses_217 (by decide) ?_
  refine lv_iconst (v := nI 0) hx hb dL_refuses_218 (by decide) ?_
  refine hs_calli w (vx_runSW (As := [.ref (a 0), .int (nI 2), .int 2147483647, .int (nI 0), .int (nI 0), .int (nI 0), .int (nI 0)]) (rest := []) X (aF_agree l hl0 G _ a _ _ hI 2147483647 (nI 0) (nI 0) (nI 0) 1 (hf_agree1 (by decide)) (by decide)) (vx_cwSW 7 hts gL_refuses_L_act rfl rfl rfl (by decide +kernel) ⟨Nat.le_of_ble_eq_true rfl, Nat.le_of_ble_eq_true rfl⟩) ⟨b_blind, fun U9 hU9 hW9 => ⟨rfl, hs_pre E Z9 w hm9 U9 hU9 hW9⟩⟩ rfl rfl hl.1 rfl (lv_room (Nat.le_of_ble_eq_true rfl)) dL_refuses_219 ⟨Nat.le_of_ble_eq_true rfl, Nat.le_of_ble_eq_true rfl⟩) hm9 (fun r i H locs hr w => ?_)
  obtain ⟨hI, hr9⟩ := hr
  refine b_tp (hr9.trans (show hs_r 1 = -71 from by decide)) ?_
  refine lv_bipush (v := -71) hx hb dL_refuses_222 (by decide) ?_
  refine lv_icmp_ne (tgt := 429) hx hb dL_refuses_224 (by decide) (fun c9 => absurd rfl c9) (fun c9 => ?_)
  refine lv_aload_n hx hb dL_refuses_227 rfl (lv_at hl 7 rfl) ?_
  refine lv_iconst (v := nI 2) hx hb dL_refuses_228 (by decide) ?_
  refine lv_iconst (v := nI 0) hx hb dL_refuses_229 (by decide) ?_
  refine lv_iload hx hb dL_refuses_230 (lv_at hl 5 rfl) ?_
  refine lv_iconst (v := nI 0) hx hb dL_refuses_232 (by decide) ?_
  refine lv_iconst (v := nI 0) hx hb dL_refuses_233 (by decide) ?_
  refine lv_iconst (v := nI 0) hx hb dL_refuses_234 (by decide) ?_
  refine hs_calli w (vx_runSW (As := [.ref (a 0), .int (nI 2), .int (nI 0), .int 2147483647, .int (nI 0), .int (nI 0), .int (nI 0)]) (rest := []) X (aF_agree l hl0 G _ a _ _ hI (nI 0) 2147483647 (nI 0) (nI 0) 1 (hf_agree2 (hn_max (Nat.le_trans hnA (by decide)))) (by decide)) (vx_cwSW 7 hts gL_refuses_L_act rfl rfl rfl (by decide +kernel) ⟨Nat.le_of_ble_eq_true rfl, Nat.le_of_ble_eq_true rfl⟩) ⟨b_blind, fun U9 hU9 hW9 => ⟨rfl, hs_pre E Z9 w hm9 U9 hU9 hW9⟩⟩ rfl rfl hl.1 rfl (lv_room (Nat.le_of_ble_eq_true rfl)) dL_refuses_235 ⟨Nat.le_of_ble_eq_true rfl, Nat.le_of_ble_eq_true rfl⟩) hm9 (fun r i H locs hr w => ?_)
  obtain ⟨hI, hr9⟩ := hr
  refine b_tp (hr9.trans (show hs_r 1 = -71 from by decide)) ?_
  refine lv_bipush (v := -71) hx hb dL_refuses_238 (by decide) ?_
  refine lv_icmp_ne (tgt := 429) hx hb dL_refuses_240 (by decide) (fun c9 => absurd rfl c9) (fun c9 => ?_)
  refine lv_aload_n hx hb dL_refuses_243 rfl (lv_at hl 7 rfl) ?_
  refine lv_iconst (v := nI 3) hx hb dL_refuses_244 (by decide) ?_
  refine lv_bipush (v := nI 9) hx hb dL_refuses_245 (by decide) ?_
  refine lv_iload hx hb dL_refuses_247 (lv_at hl 5 rfl) ?_
  refine lv_iconst (v := nI 0) hx hb dL_refuses_249 (by decide) ?_
  refine lv_iconst (v := nI 0) hx hb dL_refuses_250 (by decide) ?_
  refine lv_iconst (v := nI 0) hx hb dL_refuses_251 (by decide) ?_
  refine hs_calli w (vx_runSW (As := [.ref (a 0), .int (nI 3), .int (nI 9), .int 2147483647, .int (nI 0), .int (nI 0), .int (nI 0)]) (rest := []) X (aF_put l hl0 G _ a _ _ hI (nI 9) 2147483647 (nI 0) (nI 0) (nI 0) 1 (hf_put1 (hf_okA (hn_max (Nat.le_trans hnA (by decide))))) (by decide)) (vx_cwSW 7 hts gL_refuses_L_act rfl rfl rfl (by decide +kernel) ⟨Nat.le_of_ble_eq_true rfl, Nat.le_of_ble_eq_true rfl⟩) ⟨b_blind, fun U9 hU9 hW9 => ⟨rfl, hs_pre E Z9 w hm9 U9 hU9 hW9⟩⟩ rfl rfl hl.1 rfl (lv_room (Nat.le_of_ble_eq_true rfl)) dL_refuses_252 ⟨Nat.le_of_ble_eq_true rfl, Nat.le_of_ble_eq_true rfl⟩) hm9 (fun r i H locs hr w => ?_)
  obtain ⟨hI, hr9⟩ := hr
  refine b_tp (hr9.trans (show hs_r 1 = -71 from by decide)) ?_
  refine lv_bipush (v := -71) hx hb dL_refuses_255 (by decide) ?_
  refine lv_icmp_ne (tgt := 429) hx hb dL_refuses_257 (by decide) (fun c9 => absurd rfl c9) (fun c9 => ?_)
  refine lv_aload_n hx hb dL_refuses_260 rfl (lv_at hl 7 rfl) ?_
  refine lv_iconst (v := nI 3) hx hb dL_refuses_261 (by decide) ?_
  refine lv_bipush (v := nI 9) hx hb dL_refuses_262 (by decide) ?_
  refine lv_iconst (v := nI 0) hx hb dL_refuses_264 (by decide) ?_
  refine lv_iload hx hb dL_refuses_265 (lv_at hl 4 rfl) ?_
  refine lv_iconst (v := nI 0) hx hb dL_refuses_267 (by decide) ?_
  refine lv_iconst (v := nI 0) hx hb dL_refuses_268 (by decide) ?_
  refine hs_calli w (vx_runSW (As := [.ref (a 0), .int (nI 3), .int (nI 9), .int (nI 0), .int 2147483647, .int (nI 0), .int (nI 0)]) (rest := []) X (aF_put l hl0 G _ a _ _ hI (nI 9) (nI 0) 2147483647 (nI 0) (nI 0) 1 (hf_put1 (hf_okJ (hn_max (Nat.le_trans hnJ (by decide))))) (by decide)) (vx_cwSW 7 hts gL_refuses_L_act rfl rfl rfl (by decide +kernel) ⟨Nat.le_of_ble_eq_true rfl, Nat.le_of_ble_eq_true rfl⟩) ⟨b_blind, fun U9 hU9 hW9 => ⟨rfl, hs_pre E Z9 w hm9 U9 hU9 hW9⟩⟩ rfl rfl hl.1 rfl (lv_room (Nat.le_of_ble_eq_true rfl)) dL_refuses_269 ⟨Nat.le_of_ble_eq_true rfl, Nat.le_of_ble_eq_true rfl⟩) hm9 (fun r i H locs hr w => ?_)
  obtain ⟨hI, hr9⟩ := hr
  refine b_tp (hr9.trans (show hs_r 1 = -71 from by decide)) ?_
  refine lv_bipush (v := -71) hx hb dL_refuses_272 (by decide) ?_
  refine lv_icmp_ne (tgt := 429) hx hb dL_refuses_274 (by decide) (fun c9 => absurd rfl c9) (fun c9 => ?_)
  refine lv_aload_n hx hb dL_refuses_277 rfl (lv_at hl 7 rfl) ?_
  refine lv_iconst (v := nI 3) hx hb dL_refuses_278 (by decide) ?_
  refine lv_bipush (v := nI 9) hx hb dL_refuses_279 (by decide) ?_
  refine lv_iconst (v := nI 0) hx hb dL_refuses_281 (by decide) ?_
  refine lv_iconst (v := nI 0) hx hb dL_refuses_282 (by decide) ?_
  refine lv_iload hx hb dL_refuses_283 (lv_at hl 3 rfl) ?_
  refine lv_iconst (v := nI 0) hx hb dL_refuses_285 (by decide) ?_
  refine hs_calli w (vx_runSW (As := [.ref (a 0), .int (nI 3), .int (nI 9), .int (nI 0), .int (nI 0), .int 2147483647, .int (nI 0)]) (rest := []) X (aF_put l hl0 G _ a _ _ hI (nI 9) (nI 0) (nI 0) 2147483647 (nI 0) 1 (hf_put1 (hf_okP (by decide))) (by decide)) (vx_cwSW 7 hts gL_refuses_L_act rfl rfl rfl (by decide +kernel) ⟨Nat.le_of_ble_eq_true rfl, Nat.le_of_ble_eq_true rfl⟩) ⟨b_blind, fun U9 hU9 hW9 => ⟨rfl, hs_pre E Z9 w hm9 U9 hU9 hW9⟩⟩ rfl rfl hl.1 rfl (lv_room (Nat.le_of_ble_eq_true rfl)) dL_refuses_286 ⟨Nat.le_of_ble_eq_true rfl, Nat.le_of_ble_eq_true rfl⟩) hm9 (fun r i H locs hr w => ?_)
  obtain ⟨hI, hr9⟩ := hr
  refine b_tp (hr9.trans (show hs_r 1 = -71 from by decide)) ?_
  refine lv_bipush (v := -71) hx hb dL_refuses_289 (by decide) ?_
  refine lv_icmp_ne (tgt := 429) hx hb dL_refuses_291 (by decide) (fun c9 => absurd rfl c9) (fun c9 => ?_)
  refine lv_aload_n hx hb dL_refuses_294 rfl (lv_at hl 7 rfl) ?_
  refine lv_iconst (v := nI 4) hx hb dL_refuses_295 (by decide) ?_
  refine lv_iload hx hb dL_refuses_296 (lv_at hl 2 rfl) ?_
  refine lv_iconst (v := nI 0) hx hb dL_refuses_298 (by decide) ?_
  refine lv_iconst (v := nI 0) hx hb dL_refuses_299 (by decide) ?_
  refine lv_iconst (v := nI 0) hx hb dL_refuses_300 (by decide) ?_
  refine lv_iconst (v := nI 0) hx hb dL_refuses_301 (by decide) ?_
  refine hs_calli w (vx_runSW (As := [.ref (a 0), .int (nI 4), .int 2147483647, .int (nI 0), .int (nI 0), .int (nI 0), .int (nI 0)]) (rest := []) X (aF_send l hl0 G _ a _ _ hI 2147483647 (nI 0) (nI 0) (nI 0) (nI 0) 1 (hf_send1 (by decide)) (by decide)) (vx_cwSW 7 hts gL_refuses_L_act rfl rfl rfl (by decide +kernel) ⟨Nat.le_of_ble_eq_true rfl, Nat.le_of_ble_eq_true rfl⟩) ⟨b_blind, fun U9 hU9 hW9 => ⟨rfl, hs_pre E Z9 w hm9 U9 hU9 hW9⟩⟩ rfl rfl hl.1 rfl (lv_room (Nat.le_of_ble_eq_true rfl)) dL_refuses_302 ⟨Nat.le_of_ble_eq_true rfl, Nat.le_of_ble_eq_true rfl⟩) hm9 (fun r i H locs hr w => ?_)
  obtain ⟨hI, hr9⟩ := hr
  refine b_tp (hr9.trans (show hs_r 1 = -71 from by decide)) ?_
  refine lv_bipush (v := -71) hx hb dL_refuses_305 (by decide) ?_
  refine lv_icmp_ne (tgt := 429) hx hb dL_refuses_307 (by decide) (fun c9 => absurd rfl c9) (fun c9 => ?_)
  refine lv_aload_n hx hb dL_refuses_310 rfl (lv_at hl 7 rfl) ?_
  refine lv_iconst (v := nI 5) hx hb dL_refuses_311 (by decide) ?_
  refine lv_iload hx hb dL_refuses_312 (lv_at hl 14 rfl) ?_
  refine lv_iconst (v := nI 1) hx hb dL_refuses_314 (by decide) ?_
  refine lv_icmp_ne (tgt := 323) hx hb dL_refuses_315 (by decide) (fun c9 => ?_) (fun c9 => absurd c9 (by decide))
  refine lv_iload hx hb dL_refuses_323 (lv_at hl 6 rfl) ?_
  refine lv_iconst (v := nI 0) hx hb dL_refuses_325 (by decide) ?_
  refine lv_iconst (v := nI 0) hx hb dL_refuses_326 (by decide) ?_
  refine lv_iconst (v := nI 0) hx hb dL_refuses_327 (by decide) ?_
  refine lv_iconst (v := nI 0) hx hb dL_refuses_328 (by decide) ?_
  refine hs_calli w (vx_runSW (As := [.ref (a 0), .int (nI 5), .int 2147483647, .int (nI 0), .int (nI 0), .int (nI 0), .int (nI 0)]) (rest := []) X (aF_refusal l hl0 G _ a _ _ hI 2147483647 (nI 0) (nI 0) (nI 0) (nI 0) 1 (hf_refusal (hn_max (Nat.le_trans hjd (by decide)))) (by decide)) (vx_cwSW 7 hts gL_refuses_L_act rfl rfl rfl (by decide +kernel) ⟨Nat.le_of_ble_eq_true rfl, Nat.le_of_ble_eq_true rfl⟩) ⟨b_blind, fun U9 hU9 hW9 => ⟨rfl, hs_pre E Z9 w hm9 U9 hU9 hW9⟩⟩ rfl rfl hl.1 rfl (lv_room (Nat.le_of_ble_eq_true rfl)) dL_refuses_329 ⟨Nat.le_of_ble_eq_true rfl, Nat.le_of_ble_eq_true rfl⟩) hm9 (fun r i H locs hr w => ?_)
  obtain ⟨hI, hr9⟩ := hr
  refine b_tp (hr9.trans (show hs_r 1 = -71 from by decide)) ?_
  refine lv_bipush (v := -71) hx hb dL_refuses_332 (by decide) ?_
  refine lv_icmp_ne (tgt := 429) hx hb dL_refuses_334 (by decide) (fun c9 => absurd rfl c9) (fun c9 => ?_)
  refine lv_aload_n hx hb dL_refuses_337 rfl (lv_at hl 7 rfl) ?_
  refine lv_bipush (v := nI 7) hx hb dL_refuses_338 (by decide) ?_
  refine lv_iload hx hb dL_refuses_340 (lv_at hl 14 rfl) ?_
  refine lv_if_ne (tgt := 349) hx hb dL_refuses_342 (by decide) (fun c9 => ?_) (fun c9 => absurd c9 (by decide))
  refine lv_iload hx hb dL_refuses_349 (lv_at hl 14 rfl) ?_
  refine lv_iconst (v := nI 1) hx hb dL_refuses_351 (by decide) ?_
  refine lv_icmp_ne (tgt := 360) hx hb dL_refuses_352 (by decide) (fun c9 => ?_) (fun c9 => absurd c9 (by decide))
  refine lv_iload hx hb dL_refuses_360 (lv_at hl 6 rfl) ?_
  refine lv_iconst (v := nI 0) hx hb dL_refuses_362 (by decide) ?_
  refine lv_iconst (v := nI 0) hx hb dL_refuses_363 (by decide) ?_
  refine lv_iconst (v := nI 0) hx hb dL_refuses_364 (by decide) ?_
  refine lv_iconst (v := nI 0) hx hb dL_refuses_365 (by decide) ?_
  refine hs_calli w (vx_runSW (As := [.ref (a 0), .int (nI 7), .int 2147483647, .int (nI 0), .int (nI 0), .int (nI 0), .int (nI 0)]) (rest := []) X (aF_pass l hl0 G _ a _ _ hI 2147483647 (nI 0) (nI 0) (nI 0) (nI 0) 2 (hf_pass (by decide)) (by decide)) (vx_cwSW 7 hts gL_refuses_L_act rfl rfl rfl (by decide +kernel) ⟨Nat.le_of_ble_eq_true rfl, Nat.le_of_ble_eq_true rfl⟩) ⟨b_blind, fun U9 hU9 hW9 => ⟨rfl, hs_pre E Z9 w hm9 U9 hU9 hW9⟩⟩ rfl rfl hl.1 rfl (lv_room (Nat.le_of_ble_eq_true rfl)) dL_refuses_366 ⟨Nat.le_of_ble_eq_true rfl, Nat.le_of_ble_eq_true rfl⟩) hm9 (fun r i H locs hr w => ?_)
  obtain ⟨hI, hr9⟩ := hr
  refine b_tp (hr9.trans (show hs_r 2 = -72 from by decide)) ?_
  refine lv_bipush (v := -72) hx hb dL_refuses_369 (by decide) ?_
  refine lv_icmp_ne (tgt := 429) hx hb dL_refuses_371 (by decide) (fun c9 => absurd rfl c9) (fun c9 => ?_)
  refine lv_aload_n hx hb dL_refuses_374 rfl (lv_at hl 7 rfl) ?_
  refine lv_bipush (v := nI 14) hx hb dL_refuses_375 (by decide) ?_
  refine lv_iload hx hb dL_refuses_377 (lv_at hl 3 rfl) ?_
  refine lv_iconst (v := nI 0) hx hb dL_refuses_379 (by decide) ?_
  refine lv_iconst (v := nI 0) hx hb dL_refuses_380 (by decide) ?_
  refine lv_iconst (v := nI 0) hx hb dL_refuses_381 (by decide) ?_
  refine lv_iconst (v := nI 0) hx hb dL_refuses_382 (by decide) ?_
  refine hs_calli w (vx_runSW (As := [.ref (a 0), .int (nI 14), .int 2147483647, .int (nI 0), .int (nI 0), .int (nI 0), .int (nI 0)]) (rest := []) X (aF_hidden l hl0 G _ a _ _ hI 2147483647 (nI 0) (nI 0) (nI 0) (nI 0) 1 (hf_hidden (by decide)) (by decide)) (vx_cwSW 7 hts gL_refuses_L_act rfl rfl rfl (by decide +kernel) ⟨Nat.le_of_ble_eq_true rfl, Nat.le_of_ble_eq_true rfl⟩) ⟨b_blind, fun U9 hU9 hW9 => ⟨rfl, hs_pre E Z9 w hm9 U9 hU9 hW9⟩⟩ rfl rfl hl.1 rfl (lv_room (Nat.le_of_ble_eq_true rfl)) dL_refuses_383 ⟨Nat.le_of_ble_eq_true rfl, Nat.le_of_ble_eq_true rfl⟩) hm9 (fun r i H locs hr w => ?_)
  obtain ⟨hI, hr9⟩ := hr
  refine b_tp (hr9.trans (show hs_r 1 = -71 from by decide)) ?_
  refine lv_bipush (v := -71) hx hb dL_refuses_386 (by decide) ?_
  refine lv_icmp_ne (tgt := 429) hx hb dL_refuses_388 (by decide) (fun c9 => absurd rfl c9) (fun c9 => ?_)
  refine lv_aload_n hx hb dL_refuses_391 rfl (lv_at hl 7 rfl) ?_
  refine lv_bipush (v := nI 15) hx hb dL_refuses_392 (by decide) ?_
  refine lv_iload hx hb dL_refuses_394 (lv_at hl 2 rfl) ?_
  refine lv_iconst (v := nI 0) hx hb dL_refuses_396 (by decide) ?_
  refine lv_iconst (v := nI 0) hx hb dL_refuses_397 (by decide) ?_
  refine lv_iconst (v := nI 0) hx hb dL_refuses_398 (by decide) ?_
  refine lv_iconst (v := nI 0) hx hb dL_refuses_399 (by decide) ?_
  refine hs_calli w (vx_runSW (As := [.ref (a 0), .int (nI 15), .int 2147483647, .int (nI 0), .int (nI 0), .int (nI 0), .int (nI 0)]) (rest := []) X (aF_mayTell l hl0 G _ a _ _ hI 2147483647 (nI 0) (nI 0) (nI 0) (nI 0) 1 (hf_may1 (by decide)) (by decide)) (vx_cwSW 7 hts gL_refuses_L_act rfl rfl rfl (by decide +kernel) ⟨Nat.le_of_ble_eq_true rfl, Nat.le_of_ble_eq_true rfl⟩) ⟨b_blind, fun U9 hU9 hW9 => ⟨rfl, hs_pre E Z9 w hm9 U9 hU9 hW9⟩⟩ rfl rfl hl.1 rfl (lv_room (Nat.le_of_ble_eq_true rfl)) dL_refuses_400 ⟨Nat.le_of_ble_eq_true rfl, Nat.le_of_ble_eq_true rfl⟩) hm9 (fun r i H locs hr w => ?_)
  obtain ⟨hI, hr9⟩ := hr
  refine b_tp (hr9.trans (show hs_r 1 = -71 from by decide)) ?_
  refine lv_bipush (v := -71) hx hb dL_refuses_403 (by decide) ?_
  refine lv_icmp_ne (tgt := 429) hx hb dL_refuses_405 (by decide) (fun c9 => absurd rfl c9) (fun c9 => ?_)
  refine lv_aload_n hx hb dL_refuses_408 rfl (lv_at hl 7 rfl) ?_
  refine lv_bipush (v := nI 15) hx hb dL_refuses_409 (by decide) ?_
  refine lv_iconst (v := nI 0) hx hb dL_refuses_411 (by decide) ?_
  refine lv_iload hx hb dL_refuses_412 (lv_at hl 5 rfl) ?_
  refine lv_iconst (v := nI 0) hx hb dL_refuses_414 (by decide) ?_
  refine lv_iconst (v := nI 0) hx hb dL_refuses_415 (by decide) ?_
  refine lv_iconst (v := nI 0) hx hb dL_refuses_416 (by decide) ?_
  refine hs_calli w (vx_runSW (As := [.ref (a 0), .int (nI 15), .int (nI 0), .int 2147483647, .int (nI 0), .int (nI 0), .int (nI 0)]) (rest := []) X (aF_mayTell l hl0 G _ a _ _ hI (nI 0) 2147483647 (nI 0) (nI 0) (nI 0) 1 (hf_may2 (hn_max (Nat.le_trans hnA (by decide)))) (by decide)) (vx_cwSW 7 hts gL_refuses_L_act rfl rfl rfl (by decide +kernel) ⟨Nat.le_of_ble_eq_true rfl, Nat.le_of_ble_eq_true rfl⟩) ⟨b_blind, fun U9 hU9 hW9 => ⟨rfl, hs_pre E Z9 w hm9 U9 hU9 hW9⟩⟩ rfl rfl hl.1 rfl (lv_room (Nat.le_of_ble_eq_true rfl)) dL_refuses_417 ⟨Nat.le_of_ble_eq_true rfl, Nat.le_of_ble_eq_true rfl⟩) hm9 (fun r i H locs hr w => ?_)
  obtain ⟨hI, hr9⟩ := hr
  refine b_tp (hr9.trans (show hs_r 1 = -71 from by decide)) ?_
  refine lv_bipush (v := -71) hx hb dL_refuses_420 (by decide) ?_
  refine lv_icmp_ne (tgt := 429) hx hb dL_refuses_422 (by decide) (fun c9 => absurd rfl c9) (fun c9 => ?_)
  refine lv_iconst (v := nI 1) hx hb dL_refuses_425 (by decide) ?_
  refine lv_goto (tgt := 430) hx hb dL_refuses_426 (by decide) ?_
  refine lv_istore (lv' := [(15, .int (nI 1)), (14, .int (-1)), (13, .int 2147483647), (12, .int 2147483647), (11, .int 2147483647), (10, .int 2147483647), (9, .int 2147483647), (8, .int 2147483647), (0, .ref (a 0)), (1, .int (nI (hs_nA x))), (2, .int (nI (hs_nJ x))), (3, .int (nI (hs_td x))), (4, .int 2147483647), (5, .int (hV_hidden x (nI 5))), (6, .int (hV_find x (-1) (-1) (nI 0) (nI 11) (nI 0) (nI 0))), (7, .int (nI 2))]) hx hb dL_refuses_430 hl (by decide) rfl (fun ls hl => ?_)
  refine lv_bipush (v := nI 6) hx hb dL_refuses_432 (by decide) ?_
  refine lv_istore (lv' := [(16, .int (nI 6)), (15, .int (nI 1)), (14, .int (-1)), (13, .int 2147483647), (12, .int 2147483647), (11, .int 2147483647), (10, .int 2147483647), (9, .int 2147483647), (8, .int 2147483647), (0, .ref (a 0)), (1, .int (nI (hs_nA x))), (2, .int (nI (hs_nJ x))), (3, .int (nI (hs_td x))), (4, .int 2147483647), (5, .int (hV_hidden x (nI 5))), (6, .int (hV_find x (-1) (-1) (nI 0) (nI 11) (nI 0) (nI 0))), (7, .int (nI 2))]) hx hb dL_refuses_434 hl (by decide) rfl (fun ls hl => ?_)
  refine lv_iload hx hb dL_refuses_436 (lv_at hl 0 rfl) ?_
  refine lv_bipush (v := nI 14) hx hb dL_refuses_438 (by decide) ?_
  refine lv_icmp_ge (tgt := 519) hx hb dL_refuses_440 (by decide) (fun c9 => absurd c9 (by decide)) (fun c9 => ?_)
  refine lv_iload hx hb dL_refuses_443 (lv_at hl 1 rfl) ?_
  refine lv_if_eq (tgt := 519) hx hb dL_refuses_445 (by decide) (fun c9 => absurd c9 (by decide)) (fun c9 => ?_)
  refine lv_iload hx hb dL_refuses_448 (lv_at hl 0 rfl) ?_
  refine lv_bipush (v := nI 7) hx hb dL_refuses_450 (by decide) ?_
  refine lv_icmp_eq (tgt := 506) hx hb dL_refuses_452 (by decide) (fun c9 => absurd c9 (by decide)) (fun c9 => ?_)
  refine lv_aload_n hx hb dL_refuses_455 rfl (lv_at hl 9 rfl) ?_
  refine lv_iload hx hb dL_refuses_456 (lv_at hl 0 rfl) ?_
  refine lv_iload hx hb dL_refuses_458 (lv_at hl 7 rfl) ?_
  refine lv_iconst (v := nI 0) hx hb dL_refuses_460 (by decide) ?_
  refine lv_iconst (v := nI 0) hx hb dL_refuses_461 (by decide) ?_
  refine lv_iconst (v := -1) hx hb dL_refuses_462 (by decide) ?_
  refine lv_iconst (v := nI 0) hx hb dL_refuses_463 (by decide) ?_
  refine hs_calli w (vx_runSW (As := [.ref (a 0), .int (nI 6), .int 2147483647, .int (nI 0), .int (nI 0), .int (-1), .int (nI 0)]) (rest := []) X (aF_secret l hl0 G _ a _ _ hI 2147483647 (nI 0) (nI 0) (nI 0) 1 (hf_secret (hf_okA (hn_max (Nat.le_trans hnA (by decide))))) (by decide)) (vx_cwSW 7 hts gL_refuses_L_act rfl rfl rfl (by decide +kernel) ⟨Nat.le_of_ble_eq_true rfl, Nat.le_of_ble_eq_true rfl⟩) ⟨b_blind, fun U9 hU9 hW9 => ⟨rfl, hs_pre E Z9 w hm9 U9 hU9 hW9⟩⟩ rfl rfl hl.1 rfl (lv_room (Nat.le_of_ble_eq_true rfl)) dL_refuses_464 ⟨Nat.le_of_ble_eq_true rfl, Nat.le_of_ble_eq_true rfl⟩) hm9 (fun r i H locs hr w => ?_)
  obtain ⟨hI, hr9⟩ := hr
  refine b_tp (hr9.trans (show hs_r 1 = -71 from by decide)) ?_
  refine lv_bipush (v := -71) hx hb dL_refuses_467 (by decide) ?_
  refine lv_icmp_ne (tgt := 510) hx hb dL_refuses_469 (by decide) (fun c9 => absurd rfl c9) (fun c9 => ?_)
  refine lv_aload_n hx hb dL_refuses_472 rfl (lv_at hl 9 rfl) ?_
  refine lv_iload hx hb dL_refuses_473 (lv_at hl 0 rfl) ?_
  refine lv_iconst (v := nI 0) hx hb dL_refuses_475 (by decide) ?_
  refine lv_iload hx hb dL_refuses_476 (lv_at hl 6 rfl) ?_
  refine lv_iconst (v := nI 0) hx hb dL_refuses_478 (by decide) ?_
  refine lv_iconst (v := -1) hx hb dL_refuses_479 (by decide) ?_
  refine lv_iconst (v := nI 0) hx hb dL_refuses_480 (by decide) ?_
  refine hs_calli w (vx_runSW (As := [.ref (a 0), .int (nI 6), .int (nI 0), .int 2147483647, .int (nI 0), .int (-1), .int (nI 0)]) (rest := []) X (aF_secret l hl0 G _ a _ _ hI (nI 0) 2147483647 (nI 0) (nI 0) 1 (hf_secret (hf_okJ (hn_max (Nat.le_trans hnJ (by decide))))) (by decide)) (vx_cwSW 7 hts gL_refuses_L_act rfl rfl rfl (by decide +kernel) ⟨Nat.le_of_ble_eq_true rfl, Nat.le_of_ble_eq_true rfl⟩) ⟨b_blind, fun U9 hU9 hW9 => ⟨rfl, hs_pre E Z9 w hm9 U9 hU9 hW9⟩⟩ rfl rfl hl.1 rfl (lv_room (Nat.le_of_ble_eq_true rfl)) dL_refuses_481 ⟨Nat.le_of_ble_eq_true rfl, Nat.le_of_ble_eq_true rfl⟩) hm9 (fun r i H locs hr w => ?_)
  obtain ⟨hI, hr9⟩ := hr
  refine b_tp (hr9.trans (show hs_r 1 = -71 from by decide)) ?_
  refine lv_bipush (v := -71) hx hb dL_refuses_484 (by decide) ?_
  refine lv_icmp_ne (tgt := 510) hx hb dL_refuses_486 (by decide) (fun c9 => absurd rfl c9) (fun c9 => ?_)
  refine lv_aload_n hx hb dL_refuses_489 rfl (lv_at hl 9 rfl) ?_
  refine lv_iload hx hb dL_refuses_490 (lv_at hl 0 rfl) ?_
  refine lv_iconst (v := nI 0) hx hb dL_refuses_492 (by decide) ?_
  refine lv_iconst (v := nI 0) hx hb dL_refuses_493 (by decide) ?_
  refine lv_iload hx hb dL_refuses_494 (lv_at hl 5 rfl) ?_
  refine lv_iconst (v := -1) hx hb dL_refuses_496 (by decide) ?_
  refine lv_iconst (v := nI 0) hx hb dL_refuses_497 (by decide) ?_
  refine hs_calli w (vx_runSW (As := [.ref (a 0), .int (nI 6), .int (nI 0), .int (nI 0), .int 2147483647, .int (-1), .int (nI 0)]) (rest := []) X (aF_secret l hl0 G _ a _ _ hI (nI 0) (nI 0) 2147483647 (nI 0) 1 (hf_secret (hf_okP (by decide))) (by decide)) (vx_cwSW 7 hts gL_refuses_L_act rfl rfl rfl (by decide +kernel) ⟨Nat.le_of_ble_eq_true rfl, Nat.le_of_ble_eq_true rfl⟩) ⟨b_blind, fun U9 hU9 hW9 => ⟨rfl, hs_pre E Z9 w hm9 U9 hU9 hW9⟩⟩ rfl rfl hl.1 rfl (lv_room (Nat.le_of_ble_eq_true rfl)) dL_refuses_498 ⟨Nat.le_of_ble_eq_true rfl, Nat.le_of_ble_eq_true rfl⟩) hm9 (fun r i H locs hr w => ?_)
  obtain ⟨hI, hr9⟩ := hr
  refine b_tp (hr9.trans (show hs_r 1 = -71 from by decide)) ?_
  refine lv_bipush (v := -71) hx hb dL_refuses_501 (by decide) ?_
  refine lv_icmp_ne (tgt := 510) hx hb dL_refuses_503 (by decide) (fun c9 => absurd rfl c9) (fun c9 => ?_)
  refine lv_iconst (v := nI 1) hx hb dL_refuses_506 (by decide) ?_
  refine lv_goto (tgt := 511) hx hb dL_refuses_507 (by decide) ?_
  refine lv_istore (lv' := [(15, .int (nI 1)), (16, .int (nI 6)), (14, .int (-1)), (13, .int 2147483647), (12, .int 2147483647), (11, .int 2147483647), (10, .int 2147483647), (9, .int 2147483647), (8, .int 2147483647), (0, .ref (a 0)), (1, .int (nI (hs_nA x))), (2, .int (nI (hs_nJ x))), (3, .int (nI (hs_td x))), (4, .int 2147483647), (5, .int (hV_hidden x (nI 5))), (6, .int (hV_find x (-1) (-1) (nI 0) (nI 11) (nI 0) (nI 0))), (7, .int (nI 2))]) hx hb dL_refuses_511 hl (by decide) rfl (fun ls hl => ?_)
  refine lv_iinc (v := nI 7) (lv' := [(16, .int (nI 7)), (15, .int (nI 1)), (14, .int (-1)), (13, .int 2147483647), (12, .int 2147483647), (11, .int 2147483647), (10, .int 2147483647), (9, .int 2147483647), (8, .int 2147483647), (0, .ref (a 0)), (1, .int (nI (hs_nA x))), (2, .int (nI (hs_nJ x))), (3, .int (nI (hs_td x))), (4, .int 2147483647), (5, .int (hV_hidden x (nI 5))), (6, .int (hV_find x (-1) (-1) (nI 0) (nI 11) (nI 0) (nI 0))), (7, .int (nI 2))]) hx hb dL_refuses_513 hl (k := 1) rfl (by decide) (by decide) rfl (fun ls hl => ?_)
  refine lv_goto (tgt := 436) hx hb dL_refuses_516 (by decide) ?_
  refine lv_iload hx hb dL_refuses_436 (lv_at hl 0 rfl) ?_
  refine lv_bipush (v := nI 14) hx hb dL_refuses_438 (by decide) ?_
  refine lv_icmp_ge (tgt := 519) hx hb dL_refuses_440 (by decide) (fun c9 => absurd c9 (by decide)) (fun c9 => ?_)
  refine lv_iload hx hb dL_refuses_443 (lv_at hl 1 rfl) ?_
  refine lv_if_eq (tgt := 519) hx hb dL_refuses_445 (by decide) (fun c9 => absurd c9 (by decide)) (fun c9 => ?_)
  refine lv_iload hx hb dL_refuses_448 (lv_at hl 0 rfl) ?_
  refine lv_bipush (v := nI 7) hx hb dL_refuses_450 (by decide) ?_
  refine lv_icmp_eq (tgt := 506) hx hb dL_refuses_452 (by decide) (fun c9 => ?_) (fun c9 => absurd rfl c9)
  refine lv_iconst (v := nI 1) hx hb dL_refuses_506 (by decide) ?_
  refine lv_goto (tgt := 511) hx hb dL_refuses_507 (by decide) ?_
  refine lv_istore (lv' := [(15, .int (nI 1)), (16, .int (nI 7)), (14, .int (-1)), (13, .int 2147483647), (12, .int 2147483647), (11, .int 2147483647), (10, .int 2147483647), (9, .int 2147483647), (8, .int 2147483647), (0, .ref (a 0)), (1, .int (nI (hs_nA x))), (2, .int (nI (hs_nJ x))), (3, .int (nI (hs_td x))), (4, .int 2147483647), (5, .int (hV_hidden x (nI 5))), (6, .int (hV_find x (-1) (-1) (nI 0) (nI 11) (nI 0) (nI 0))), (7, .int (nI 2))]) hx hb dL_refuses_511 hl (by decide) rfl (fun ls hl => ?_)
  refine lv_iinc (v := nI 8) (lv' := [(16, .int (nI 8)), (15, .int (nI 1)), (14, .int (-1)), (13, .int 2147483647), (12, .int 2147483647), (11, .int 2147483647), (10, .int 2147483647), (9, .int 2147483647), (8, .int 2147483647), (0, .ref (a 0)), (1, .int (nI (hs_nA x))), (2, .int (nI (hs_nJ x))), (3, .int (nI (hs_td x))), (4, .int 2147483647), (5, .int (hV_hidden x (nI 5))), (6, .int (hV_find x (-1) (-1) (nI 0) (nI 11) (nI 0) (nI 0))), (7, .int (nI 2))]) hx hb dL_refuses_513 hl (k := 1) rfl (by decide) (by decide) rfl (fun ls hl => ?_)
  refine lv_goto (tgt := 436) hx hb dL_refuses_516 (by decide) ?_
  refine lv_iload hx hb dL_refuses_436 (lv_at hl 0 rfl) ?_
  refine lv_bipush (v := nI 14) hx hb dL_refuses_438 (by decide) ?_
  refine lv_icmp_ge (tgt := 519) hx hb dL_refuses_440 (by decide) (fun c9 => absurd c9 (by decide)) (fun c9 => ?_)
  refine lv_iload hx hb dL_refuses_443 (lv_at hl 1 rfl) ?_
  refine lv_if_eq (tgt := 519) hx hb dL_refuses_445 (by decide) (fun c9 => absurd c9 (by decide)) (fun c9 => ?_)
  refine lv_iload hx hb dL_refuses_448 (lv_at hl 0 rfl) ?_
  refine lv_bipush (v := nI 7) hx hb dL_refuses_450 (by decide) ?_
  refine lv_icmp_eq (tgt := 506) hx hb dL_refuses_452 (by decide) (fun c9 => absurd c9 (by decide)) (fun c9 => ?_)
  refine lv_aload_n hx hb dL_refuses_455 rfl (lv_at hl 9 rfl) ?_
  refine lv_iload hx hb dL_refuses_456 (lv_at hl 0 rfl) ?_
  refine lv_iload hx hb dL_refuses_458 (lv_at hl 7 rfl) ?_
  refine lv_iconst (v := nI 0) hx hb dL_refuses_460 (by decide) ?_
  refine lv_iconst (v := nI 0) hx hb dL_refuses_461 (by decide) ?_
  refine lv_iconst (v := -1) hx hb dL_refuses_462 (by decide) ?_
  refine lv_iconst (v := nI 0) hx hb dL_refuses_463 (by decide) ?_
  refine hs_calli w (vx_runSW (As := [.ref (a 0), .int (nI 8), .int 2147483647, .int (nI 0), .int (nI 0), .int (-1), .int (nI 0)]) (rest := []) X (aF_figure l hl0 G _ a _ _ hI 2147483647 (nI 0) (nI 0) (-1) (nI 0) 1 (hf_figure1 (hf_okA (hn_max (Nat.le_trans hnA (by decide))))) (by decide)) (vx_cwSW 7 hts gL_refuses_L_act rfl rfl rfl (by decide +kernel) ⟨Nat.le_of_ble_eq_true rfl, Nat.le_of_ble_eq_true rfl⟩) ⟨b_blind, fun U9 hU9 hW9 => ⟨rfl, hs_pre E Z9 w hm9 U9 hU9 hW9⟩⟩ rfl rfl hl.1 rfl (lv_room (Nat.le_of_ble_eq_true rfl)) dL_refuses_464 ⟨Nat.le_of_ble_eq_true rfl, Nat.le_of_ble_eq_true rfl⟩) hm9 (fun r i H locs hr w => ?_)
  obtain ⟨hI, hr9⟩ := hr
  refine b_tp (hr9.trans (show hs_r 1 = -71 from by decide)) ?_
  refine lv_bipush (v := -71) hx hb dL_refuses_467 (by decide) ?_
  refine lv_icmp_ne (tgt := 510) hx hb dL_refuses_469 (by decide) (fun c9 => absurd rfl c9) (fun c9 => ?_)
  refine lv_aload_n hx hb dL_refuses_472 rfl (lv_at hl 9 rfl) ?_
  refine lv_iload hx hb dL_refuses_473 (lv_at hl 0 rfl) ?_
  refine lv_iconst (v := nI 0) hx hb dL_refuses_475 (by decide) ?_
  refine lv_iload hx hb dL_refuses_476 (lv_at hl 6 rfl) ?_
  refine lv_iconst (v := nI 0) hx hb dL_refuses_478 (by decide) ?_
  refine lv_iconst (v := -1) hx hb dL_refuses_479 (by decide) ?_
  refine lv_iconst (v := nI 0) hx hb dL_refuses_480 (by decide) ?_
  refine hs_calli w (vx_runSW (As := [.ref (a 0), .int (nI 8), .int (nI 0), .int 2147483647, .int (nI 0), .int (-1), .int (nI 0)]) (rest := []) X (aF_figure l hl0 G _ a _ _ hI (nI 0) 2147483647 (nI 0) (-1) (nI 0) 1 (hf_figure1 (hf_okJ (hn_max (Nat.le_trans hnJ (by decide))))) (by decide)) (vx_cwSW 7 hts gL_refuses_L_act rfl rfl rfl (by decide +kernel) ⟨Nat.le_of_ble_eq_true rfl, Nat.le_of_ble_eq_true rfl⟩) ⟨b_blind, fun U9 hU9 hW9 => ⟨rfl, hs_pre E Z9 w hm9 U9 hU9 hW9⟩⟩ rfl rfl hl.1 rfl (lv_room (Nat.le_of_ble_eq_true rfl)) dL_refuses_481 ⟨Nat.le_of_ble_eq_true rfl, Nat.le_of_ble_eq_true rfl⟩) hm9 (fun r i H locs hr w => ?_)
  obtain ⟨hI, hr9⟩ := hr
  refine b_tp (hr9.trans (show hs_r 1 = -71 from by decide)) ?_
  refine lv_bipush (v := -71) hx hb dL_refuses_484 (by decide) ?_
  refine lv_icmp_ne (tgt := 510) hx hb dL_refuses_486 (by decide) (fun c9 => absurd rfl c9) (fun c9 => ?_)
  refine lv_aload_n hx hb dL_refuses_489 rfl (lv_at hl 9 rfl) ?_
  refine lv_iload hx hb dL_refuses_490 (lv_at hl 0 rfl) ?_
  refine lv_iconst (v := nI 0) hx hb dL_refuses_492 (by decide) ?_
  refine lv_iconst (v := nI 0) hx hb dL_refuses_493 (by decide) ?_
  refine lv_iload hx hb dL_refuses_494 (lv_at hl 5 rfl) ?_
  refine lv_iconst (v := -1) hx hb dL_refuses_496 (by decide) ?_
  refine lv_iconst (v := nI 0) hx hb dL_refuses_497 (by decide) ?_
  refine hs_calli w (vx_runSW (As := [.ref (a 0), .int (nI 8), .int (nI 0), .int (nI 0), .int 2147483647, .int (-1), .int (nI 0)]) (rest := []) X (aF_figure l hl0 G _ a _ _ hI (nI 0) (nI 0) 2147483647 (-1) (nI 0) 1 (hf_figure1 (hf_okP (by decide))) (by decide)) (vx_cwSW 7 hts gL_refuses_L_act rfl rfl rfl (by decide +kernel) ⟨Nat.le_of_ble_eq_true rfl, Nat.le_of_ble_eq_true rfl⟩) ⟨b_blind, fun U9 hU9 hW9 => ⟨rfl, hs_pre E Z9 w hm9 U9 hU9 hW9⟩⟩ rfl rfl hl.1 rfl (lv_room (Nat.le_of_ble_eq_true rfl)) dL_refuses_498 ⟨Nat.le_of_ble_eq_true rfl, Nat.le_of_ble_eq_true rfl⟩) hm9 (fun r i H locs hr w => ?_)
  obtain ⟨hI, hr9⟩ := hr
  refine b_tp (hr9.trans (show hs_r 1 = -71 from by decide)) ?_
  refine lv_bipush (v := -71) hx hb dL_refuses_501 (by decide) ?_
  refine lv_icmp_ne (tgt := 510) hx hb dL_refuses_503 (by decide) (fun c9 => absurd rfl c9) (fun c9 => ?_)
  refine lv_iconst (v := nI 1) hx hb dL_refuses_506 (by decide) ?_
  refine lv_goto (tgt := 511) hx hb dL_refuses_507 (by decide) ?_
  refine lv_istore (lv' := [(15, .int (nI 1)), (16, .int (nI 8)), (14, .int (-1)), (13, .int 2147483647), (12, .int 2147483647), (11, .int 2147483647), (10, .int 2147483647), (9, .int 2147483647), (8, .int 2147483647), (0, .ref (a 0)), (1, .int (nI (hs_nA x))), (2, .int (nI (hs_nJ x))), (3, .int (nI (hs_td x))), (4, .int 2147483647), (5, .int (hV_hidden x (nI 5))), (6, .int (hV_find x (-1) (-1) (nI 0) (nI 11) (nI 0) (nI 0))), (7, .int (nI 2))]) hx hb dL_refuses_511 hl (by decide) rfl (fun ls hl => ?_)
  refine lv_iinc (v := nI 9) (lv' := [(16, .int (nI 9)), (15, .int (nI 1)), (14, .int (-1)), (13, .int 2147483647), (12, .int 2147483647), (11, .int 2147483647), (10, .int 2147483647), (9, .int 2147483647), (8, .int 2147483647), (0, .ref (a 0)), (1, .int (nI (hs_nA x))), (2, .int (nI (hs_nJ x))), (3, .int (nI (hs_td x))), (4, .int 2147483647), (5, .int (hV_hidden x (nI 5))), (6, .int (hV_find x (-1) (-1) (nI 0) (nI 11) (nI 0) (nI 0))), (7, .int (nI 2))]) hx hb dL_refuses_513 hl (k := 1) rfl (by decide) (by decide) rfl (fun ls hl => ?_)
  refine lv_goto (tgt := 436) hx hb dL_refuses_516 (by decide) ?_
  refine lv_iload hx hb dL_refuses_436 (lv_at hl 0 rfl) ?_
  refine lv_bipush (v := nI 14) hx hb dL_refuses_438 (by decide) ?_
  refine lv_icmp_ge (tgt := 519) hx hb dL_refuses_440 (by decide) (fun c9 => absurd c9 (by decide)) (fun c9 => ?_)
  refine lv_iload hx hb dL_refuses_443 (lv_at hl 1 rfl) ?_
  refine lv_if_eq (tgt := 519) hx hb dL_refuses_445 (by decide) (fun c9 => absurd c9 (by decide)) (fun c9 => ?_)
  refine lv_iload hx hb dL_refuses_448 (lv_at hl 0 rfl) ?_
  refine lv_bipush (v := nI 7) hx hb dL_refuses_450 (by decide) ?_
  refine lv_icmp_eq (tgt := 506) hx hb dL_refuses_452 (by decide) (fun c9 => absurd c9 (by decide)) (fun c9 => ?_)
  refine lv_aload_n hx hb dL_refuses_455 rfl (lv_at hl 9 rfl) ?_
  refine lv_iload hx hb dL_refuses_456 (lv_at hl 0 rfl) ?_
  refine lv_iload hx hb dL_refuses_458 (lv_at hl 7 rfl) ?_
  refine lv_iconst (v := nI 0) hx hb dL_refuses_460 (by decide) ?_
  refine lv_iconst (v := nI 0) hx hb dL_refuses_461 (by decide) ?_
  refine lv_iconst (v := -1) hx hb dL_refuses_462 (by decide) ?_
  refine lv_iconst (v := nI 0) hx hb dL_refuses_463 (by decide) ?_
  refine hs_calli w (vx_runSW (As := [.ref (a 0), .int (nI 9), .int 2147483647, .int (nI 0), .int (nI 0), .int (-1), .int (nI 0)]) (rest := []) X (aF_value l hl0 G _ a _ _ hI 2147483647 (nI 0) (nI 0) (-1) (nI 0) 1 (hf_value1 (hf_okA (hn_max (Nat.le_trans hnA (by decide))))) (by decide)) (vx_cwSW 7 hts gL_refuses_L_act rfl rfl rfl (by decide +kernel) ⟨Nat.le_of_ble_eq_true rfl, Nat.le_of_ble_eq_true rfl⟩) ⟨b_blind, fun U9 hU9 hW9 => ⟨rfl, hs_pre E Z9 w hm9 U9 hU9 hW9⟩⟩ rfl rfl hl.1 rfl (lv_room (Nat.le_of_ble_eq_true rfl)) dL_refuses_464 ⟨Nat.le_of_ble_eq_true rfl, Nat.le_of_ble_eq_true rfl⟩) hm9 (fun r i H locs hr w => ?_)
  obtain ⟨hI, hr9⟩ := hr
  refine b_tp (hr9.trans (show hs_r 1 = -71 from by decide)) ?_
  refine lv_bipush (v := -71) hx hb dL_refuses_467 (by decide) ?_
  refine lv_icmp_ne (tgt := 510) hx hb dL_refuses_469 (by decide) (fun c9 => absurd rfl c9) (fun c9 => ?_)
  refine lv_aload_n hx hb dL_refuses_472 rfl (lv_at hl 9 rfl) ?_
  refine lv_iload hx hb dL_refuses_473 (lv_at hl 0 rfl) ?_
  refine lv_iconst (v := nI 0) hx hb dL_refuses_475 (by decide) ?_
  refine lv_iload hx hb dL_refuses_476 (lv_at hl 6 rfl) ?_
  refine lv_iconst (v := nI 0) hx hb dL_refuses_478 (by decide) ?_
  refine lv_iconst (v := -1) hx hb dL_refuses_479 (by decide) ?_
  refine lv_iconst (v := nI 0) hx hb dL_refuses_480 (by decide) ?_
  refine hs_calli w (vx_runSW (As := [.ref (a 0), .int (nI 9), .int (nI 0), .int 2147483647, .int (nI 0), .int (-1), .int (nI 0)]) (rest := []) X (aF_value l hl0 G _ a _ _ hI (nI 0) 2147483647 (nI 0) (-1) (nI 0) 1 (hf_value1 (hf_okJ (hn_max (Nat.le_trans hnJ (by decide))))) (by decide)) (vx_cwSW 7 hts gL_refuses_L_act rfl rfl rfl (by decide +kernel) ⟨Nat.le_of_ble_eq_true rfl, Nat.le_of_ble_eq_true rfl⟩) ⟨b_blind, fun U9 hU9 hW9 => ⟨rfl, hs_pre E Z9 w hm9 U9 hU9 hW9⟩⟩ rfl rfl hl.1 rfl (lv_room (Nat.le_of_ble_eq_true rfl)) dL_refuses_481 ⟨Nat.le_of_ble_eq_true rfl, Nat.le_of_ble_eq_true rfl⟩) hm9 (fun r i H locs hr w => ?_)
  obtain ⟨hI, hr9⟩ := hr
  refine b_tp (hr9.trans (show hs_r 1 = -71 from by decide)) ?_
  refine lv_bipush (v := -71) hx hb dL_refuses_484 (by decide) ?_
  refine lv_icmp_ne (tgt := 510) hx hb dL_refuses_486 (by decide) (fun c9 => absurd rfl c9) (fun c9 => ?_)
  refine lv_aload_n hx hb dL_refuses_489 rfl (lv_at hl 9 rfl) ?_
  refine lv_iload hx hb dL_refuses_490 (lv_at hl 0 rfl) ?_
  refine lv_iconst (v := nI 0) hx hb dL_refuses_492 (by decide) ?_
  refine lv_iconst (v := nI 0) hx hb dL_refuses_493 (by decide) ?_
  refine lv_iload hx hb dL_refuses_494 (lv_at hl 5 rfl) ?_
  refine lv_iconst (v := -1) hx hb dL_refuses_496 (by decide) ?_
  refine lv_iconst (v := nI 0) hx hb dL_refuses_497 (by decide) ?_
  refine hs_calli w (vx_runSW (As := [.ref (a 0), .int (nI 9), .int (nI 0), .int (nI 0), .int 2147483647, .int (-1), .int (nI 0)]) (rest := []) X (aF_value l hl0 G _ a _ _ hI (nI 0) (nI 0) 2147483647 (-1) (nI 0) 1 (hf_value1 (hf_okP (by decide))) (by decide)) (vx_cwSW 7 hts gL_refuses_L_act rfl rfl rfl (by decide +kernel) ⟨Nat.le_of_ble_eq_true rfl, Nat.le_of_ble_eq_true rfl⟩) ⟨b_blind, fun U9 hU9 hW9 => ⟨rfl, hs_pre E Z9 w hm9 U9 hU9 hW9⟩⟩ rfl rfl hl.1 rfl (lv_room (Nat.le_of_ble_eq_true rfl)) dL_refuses_498 ⟨Nat.le_of_ble_eq_true rfl, Nat.le_of_ble_eq_true rfl⟩) hm9 (fun r i H locs hr w => ?_)
  obtain ⟨hI, hr9⟩ := hr
  refine b_tp (hr9.trans (show hs_r 1 = -71 from by decide)) ?_
  refine lv_bipush (v := -71) hx hb dL_refuses_501 (by decide) ?_
  refine lv_icmp_ne (tgt := 510) hx hb dL_refuses_503 (by decide) (fun c9 => absurd rfl c9) (fun c9 => ?_)
  exact kk i _ _ _ hI w (lv_sub hl [9, 10, 11, 12, 13, 14, 15, 16, 8, 7, 6, 5, 4, 3, 2, 1, 0] rfl)
set_option maxHeartbeats 4000000 in
set_option maxRecDepth 100000 in
theorem sg_refuses_6 {p : Program} {l : Launch} (hl0 : l.stackTraces = false) {e : Env} {s : State} {m : MethodId} {below : List Frame} {meth : Method} {c : Code} {G : bG} {args : Array Value} {Q : State → Prop} (X : CallFix p m c cL_refuses 17 s args wsL_refuses RL) (E : bE G vwCl bNW bSW s) {a : Nat → Nat} (Z9 : bZ (hs_M a) s) (hm9 : ∀ q ∈ hs_M a, Aw (hs_M a) s.heap.size q) {x : hs_E} {i : hs_I} {H : Heap} {locs : List Loc} {ls : Array Slot} (hI : hs_Inv x i) (w : bSt G vwCl (hs_M a) s (hs_W G a x i) H locs) (hl : lv_has ls 17 [(0, .ref (a 0)), (1, .int (nI (hs_nA x))), (2, .int (nI (hs_nJ x))), (3, .int (nI (hs_td x))), (4, .int 2147483647), (5, .int (hV_hidden x (nI 5))), (6, .int (hV_find x (-1) (-1) (nI 0) (nI 11) (nI 0) (nI 0))), (7, .int (nI 2)), (8, .int 2147483647), (9, .int 2147483647), (10, .int 2147483647), (11, .int 2147483647), (12, .int 2147483647), (13, .int 2147483647), (14, .int (-1)), (15, .int (nI 1)), (16, .int (nI 9))])
    (kk : ∀ (i : hs_I) (H : Heap) (locs : List Loc) (ls : Array Slot), hs_Inv x i → bSt G vwCl (hs_M a) s (hs_W G a x i) H locs → lv_has ls 17 [(0, .ref (a 0)), (1, .int (nI (hs_nA x))), (2, .int (nI (hs_nJ x))), (3, .int (nI (hs_td x))), (4, .int 2147483647), (5, .int (hV_hidden x (nI 5))), (6, .int (hV_find x (-1) (-1) (nI 0) (nI 11) (nI 0) (nI 0))), (7, .int (nI 3))] → W p l e ({ frames := 9, cells := 324, slots := 1944, locals := 201 }) s m args below meth c H locs 241 1446 Q (F0 m 27 ls [])) : W p l e ({ frames := 9, cells := 324, slots := 1944, locals := 201 }) s m args below meth c H locs 200 1200 Q (F0 m 506 ls []) := by
  have hx := X.1
  have hb := X.2.1
  have hml := X.2.2.1
  have hown := X.2.2.2.1
  have hts := X.2.2.2.2
  obtain ⟨⟨hnA, hnJ, hTA, hTJ, htd, hst, hbs, hjd, hdn⟩, hbk, hdr, hK⟩ := id hI
  refine lv_iconst (v := nI 1) hx hb dL_refuses_506 (by decide) ?_
  refine lv_goto (tgt := 511) hx hb dL_refuses_507 (by decide) ?_
  refine lv_istore (lv' := [(15, .int (nI 1)), (0, .ref (a 0)), (1, .int (nI (hs_nA x))), (2, .int (nI (hs_nJ x))), (3, .int (nI (hs_td x))), (4, .int 2147483647), (5, .int (hV_hidden x (nI 5))), (6, .int (hV_find x (-1) (-1) (nI 0) (nI 11) (nI 0) (nI 0))), (7, .int (nI 2)), (8, .int 2147483647), (9, .int 2147483647), (10, .int 2147483647), (11, .int 2147483647), (12, .int 2147483647), (13, .int 2147483647), (14, .int (-1)), (16, .int (nI 9))]) hx hb dL_refuses_511 hl (by decide) rfl (fun ls hl => ?_)
  refine lv_iinc (v := nI 10) (lv' := [(16, .int (nI 10)), (15, .int (nI 1)), (0, .ref (a 0)), (1, .int (nI (hs_nA x))), (2, .int (nI (hs_nJ x))), (3, .int (nI (hs_td x))), (4, .int 2147483647), (5, .int (hV_hidden x (nI 5))), (6, .int (hV_find x (-1) (-1) (nI 0) (nI 11) (nI 0) (nI 0))), (7, .int (nI 2)), (8, .int 2147483647), (9, .int 2147483647), (10, .int 2147483647), (11, .int 2147483647), (12, .int 2147483647), (13, .int 2147483647), (14, .int (-1))]) hx hb dL_refuses_513 hl (k := 16) rfl (by decide) (by decide) rfl (fun ls hl => ?_)
  refine lv_goto (tgt := 436) hx hb dL_refuses_516 (by decide) ?_
  refine lv_iload hx hb dL_refuses_436 (lv_at hl 0 rfl) ?_
  refine lv_bipush (v := nI 14) hx hb dL_refuses_438 (by decide) ?_
  refine lv_icmp_ge (tgt := 519) hx hb dL_refuses_440 (by decide) (fun c9 => absurd c9 (by decide)) (fun c9 => ?_)
  refine lv_iload hx hb dL_refuses_443 (lv_at hl 1 rfl) ?_
  refine lv_if_eq (tgt := 519) hx hb dL_refuses_445 (by decide) (fun c9 => absurd c9 (by decide)) (fun c9 => ?_)
  refine lv_iload hx hb dL_refuses_448 (lv_at hl 0 rfl) ?_
  refine lv_bipush (v := nI 7) hx hb dL_refuses_450 (by decide) ?_
  refine lv_icmp_eq (tgt := 506) hx hb dL_refuses_452 (by decide) (fun c9 => absurd c9 (by decide)) (fun c9 => ?_)
  refine lv_aload_n hx hb dL_refuses_455 rfl (lv_at hl 2 rfl) ?_
  refine lv_iload hx hb dL_refuses_456 (lv_at hl 0 rfl) ?_
  refine lv_iload hx hb dL_refuses_458 (lv_at hl 11 rfl) ?_
  refine lv_iconst (v := nI 0) hx hb dL_refuses_460 (by decide) ?_
  refine lv_iconst (v := nI 0) hx hb dL_refuses_461 (by decide) ?_
  refine lv_iconst (v := -1) hx hb dL_refuses_462 (by decide) ?_
  refine lv_iconst (v := nI 0) hx hb dL_refuses_463 (by decide) ?_
  refine hs_calli w (vx_runSW (As := [.ref (a 0), .int (nI 10), .int 2147483647, .int (nI 0), .int (nI 0), .int (-1), .int (nI 0)]) (rest := []) X (aF_first l hl0 G _ a _ _ hI 2147483647 (nI 0) (nI 0) (-1) (nI 0) 1 (hf_first (hf_okA (hn_max (Nat.le_trans hnA (by decide))))) (by decide)) (vx_cwSW 7 hts gL_refuses_L_act rfl rfl rfl (by decide +kernel) ⟨Nat.le_of_ble_eq_true rfl, Nat.le_of_ble_eq_true rfl⟩) ⟨b_blind, fun U9 hU9 hW9 => ⟨rfl, hs_pre E Z9 w hm9 U9 hU9 hW9⟩⟩ rfl rfl hl.1 rfl (lv_room (Nat.le_of_ble_eq_true rfl)) dL_refuses_464 ⟨Nat.le_of_ble_eq_true rfl, Nat.le_of_ble_eq_true rfl⟩) hm9 (fun r i H locs hr w => ?_)
  obtain ⟨hI, hr9⟩ := hr
  refine b_tp (hr9.trans (show hs_r 1 = -71 from by decide)) ?_
  refine lv_bipush (v := -71) hx hb dL_refuses_467 (by decide) ?_
  refine lv_icmp_ne (tgt := 510) hx hb dL_refuses_469 (by decide) (fun c9 => absurd rfl c9) (fun c9 => ?_)
  refine lv_aload_n hx hb dL_refuses_472 rfl (lv_at hl 2 rfl) ?_
  refine lv_iload hx hb dL_refuses_473 (lv_at hl 0 rfl) ?_
  refine lv_iconst (v := nI 0) hx hb dL_refuses_475 (by decide) ?_
  refine lv_iload hx hb dL_refuses_476 (lv_at hl 12 rfl) ?_
  refine lv_iconst (v := nI 0) hx hb dL_refuses_478 (by decide) ?_
  refine lv_iconst (v := -1) hx hb dL_refuses_479 (by decide) ?_
  refine lv_iconst (v := nI 0) hx hb dL_refuses_480 (by decide) ?_
  refine hs_calli w (vx_runSW (As := [.ref (a 0), .int (nI 10), .int (nI 0), .int 2147483647, .int (nI 0), .int (-1), .int (nI 0)]) (rest := []) X (aF_first l hl0 G _ a _ _ hI (nI 0) 2147483647 (nI 0) (-1) (nI 0) 1 (hf_first (hf_okJ (hn_max (Nat.le_trans hnJ (by decide))))) (by decide)) (vx_cwSW 7 hts gL_refuses_L_act rfl rfl rfl (by decide +kernel) ⟨Nat.le_of_ble_eq_true rfl, Nat.le_of_ble_eq_true rfl⟩) ⟨b_blind, fun U9 hU9 hW9 => ⟨rfl, hs_pre E Z9 w hm9 U9 hU9 hW9⟩⟩ rfl rfl hl.1 rfl (lv_room (Nat.le_of_ble_eq_true rfl)) dL_refuses_481 ⟨Nat.le_of_ble_eq_true rfl, Nat.le_of_ble_eq_true rfl⟩) hm9 (fun r i H locs hr w => ?_)
  obtain ⟨hI, hr9⟩ := hr
  refine b_tp (hr9.trans (show hs_r 1 = -71 from by decide)) ?_
  refine lv_bipush (v := -71) hx hb dL_refuses_484 (by decide) ?_
  refine lv_icmp_ne (tgt := 510) hx hb dL_refuses_486 (by decide) (fun c9 => absurd rfl c9) (fun c9 => ?_)
  refine lv_aload_n hx hb dL_refuses_489 rfl (lv_at hl 2 rfl) ?_
  refine lv_iload hx hb dL_refuses_490 (lv_at hl 0 rfl) ?_
  refine lv_iconst (v := nI 0) hx hb dL_refuses_492 (by decide) ?_
  refine lv_iconst (v := nI 0) hx hb dL_refuses_493 (by decide) ?_
  refine lv_iload hx hb dL_refuses_494 (lv_at hl 13 rfl) ?_
  refine lv_iconst (v := -1) hx hb dL_refuses_496 (by decide) ?_
  refine lv_iconst (v := nI 0) hx hb dL_refuses_497 (by decide) ?_
  refine hs_calli w (vx_runSW (As := [.ref (a 0), .int (nI 10), .int (nI 0), .int (nI 0), .int 2147483647, .int (-1), .int (nI 0)]) (rest := []) X (aF_first l hl0 G _ a _ _ hI (nI 0) (nI 0) 2147483647 (-1) (nI 0) 1 (hf_first (hf_okP (by decide))) (by decide)) (vx_cwSW 7 hts gL_refuses_L_act rfl rfl rfl (by decide +kernel) ⟨Nat.le_of_ble_eq_true rfl, Nat.le_of_ble_eq_true rfl⟩) ⟨b_blind, fun U9 hU9 hW9 => ⟨rfl, hs_pre E Z9 w hm9 U9 hU9 hW9⟩⟩ rfl rfl hl.1 rfl (lv_room (Nat.le_of_ble_eq_true rfl)) dL_refuses_498 ⟨Nat.le_of_ble_eq_true rfl, Nat.le_of_ble_eq_true rfl⟩) hm9 (fun r i H locs hr w => ?_)
  obtain ⟨hI, hr9⟩ := hr
  refine b_tp (hr9.trans (show hs_r 1 = -71 from by decide)) ?_
  refine lv_bipush (v := -71) hx hb dL_refuses_501 (by decide) ?_
  refine lv_icmp_ne (tgt := 510) hx hb dL_refuses_503 (by decide) (fun c9 => absurd rfl c9) (fun c9 => ?_)
  refine lv_iconst (v := nI 1) hx hb dL_refuses_506 (by decide) ?_
  refine lv_goto (tgt := 511) hx hb dL_refuses_507 (by decide) ?_
  refine lv_istore (lv' := [(15, .int (nI 1)), (16, .int (nI 10)), (0, .ref (a 0)), (1, .int (nI (hs_nA x))), (2, .int (nI (hs_nJ x))), (3, .int (nI (hs_td x))), (4, .int 2147483647), (5, .int (hV_hidden x (nI 5))), (6, .int (hV_find x (-1) (-1) (nI 0) (nI 11) (nI 0) (nI 0))), (7, .int (nI 2)), (8, .int 2147483647), (9, .int 2147483647), (10, .int 2147483647), (11, .int 2147483647), (12, .int 2147483647), (13, .int 2147483647), (14, .int (-1))]) hx hb dL_refuses_511 hl (by decide) rfl (fun ls hl => ?_)
  refine lv_iinc (v := nI 11) (lv' := [(16, .int (nI 11)), (15, .int (nI 1)), (0, .ref (a 0)), (1, .int (nI (hs_nA x))), (2, .int (nI (hs_nJ x))), (3, .int (nI (hs_td x))), (4, .int 2147483647), (5, .int (hV_hidden x (nI 5))), (6, .int (hV_find x (-1) (-1) (nI 0) (nI 11) (nI 0) (nI 0))), (7, .int (nI 2)), (8, .int 2147483647), (9, .int 2147483647), (10, .int 2147483647), (11, .int 2147483647), (12, .int 2147483647), (13, .int 2147483647), (14, .int (-1))]) hx hb dL_refuses_513 hl (k := 1) rfl (by decide) (by decide) rfl (fun ls hl => ?_)
  refine lv_goto (tgt := 436) hx hb dL_refuses_516 (by decide) ?_
  refine lv_iload hx hb dL_refuses_436 (lv_at hl 0 rfl) ?_
  refine lv_bipush (v := nI 14) hx hb dL_refuses_438 (by decide) ?_
  refine lv_icmp_ge (tgt := 519) hx hb dL_refuses_440 (by decide) (fun c9 => absurd c9 (by decide)) (fun c9 => ?_)
  refine lv_iload hx hb dL_refuses_443 (lv_at hl 1 rfl) ?_
  refine lv_if_eq (tgt := 519) hx hb dL_refuses_445 (by decide) (fun c9 => absurd c9 (by decide)) (fun c9 => ?_)
  refine lv_iload hx hb dL_refuses_448 (lv_at hl 0 rfl) ?_
  refine lv_bipush (v := nI 7) hx hb dL_refuses_450 (by decide) ?_
  refine lv_icmp_eq (tgt := 506) hx hb dL_refuses_452 (by decide) (fun c9 => absurd c9 (by decide)) (fun c9 => ?_)
  refine lv_aload_n hx hb dL_refuses_455 rfl (lv_at hl 2 rfl) ?_
  refine lv_iload hx hb dL_refuses_456 (lv_at hl 0 rfl) ?_
  refine lv_iload hx hb dL_refuses_458 (lv_at hl 11 rfl) ?_
  refine lv_iconst (v := nI 0) hx hb dL_refuses_460 (by decide) ?_
  refine lv_iconst (v := nI 0) hx hb dL_refuses_461 (by decide) ?_
  refine lv_iconst (v := -1) hx hb dL_refuses_462 (by decide) ?_
  refine lv_iconst (v := nI 0) hx hb dL_refuses_463 (by decide) ?_
  refine hs_calli w (vx_runSW (As := [.ref (a 0), .int (nI 11), .int 2147483647, .int (nI 0), .int (nI 0), .int (-1), .int (nI 0)]) (rest := []) X (aF_revisions l hl0 G _ a _ _ hI 2147483647 (nI 0) (nI 0) (-1) (nI 0) 1 (hf_revisions (hf_okA (hn_max (Nat.le_trans hnA (by decide))))) (by decide)) (vx_cwSW 7 hts gL_refuses_L_act rfl rfl rfl (by decide +kernel) ⟨Nat.le_of_ble_eq_true rfl, Nat.le_of_ble_eq_true rfl⟩) ⟨b_blind, fun U9 hU9 hW9 => ⟨rfl, hs_pre E Z9 w hm9 U9 hU9 hW9⟩⟩ rfl rfl hl.1 rfl (lv_room (Nat.le_of_ble_eq_true rfl)) dL_refuses_464 ⟨Nat.le_of_ble_eq_true rfl, Nat.le_of_ble_eq_true rfl⟩) hm9 (fun r i H locs hr w => ?_)
  obtain ⟨hI, hr9⟩ := hr
  refine b_tp (hr9.trans (show hs_r 1 = -71 from by decide)) ?_
  refine lv_bipush (v := -71) hx hb dL_refuses_467 (by decide) ?_
  refine lv_icmp_ne (tgt := 510) hx hb dL_refuses_469 (by decide) (fun c9 => absurd rfl c9) (fun c9 => ?_)
  refine lv_aload_n hx hb dL_refuses_472 rfl (lv_at hl 2 rfl) ?_
  refine lv_iload hx hb dL_refuses_473 (lv_at hl 0 rfl) ?_
  refine lv_iconst (v := nI 0) hx hb dL_refuses_475 (by decide) ?_
  refine lv_iload hx hb dL_refuses_476 (lv_at hl 12 rfl) ?_
  refine lv_iconst (v := nI 0) hx hb dL_refuses_478 (by decide) ?_
  refine lv_iconst (v := -1) hx hb dL_refuses_479 (by decide) ?_
  refine lv_iconst (v := nI 0) hx hb dL_refuses_480 (by decide) ?_
  refine hs_calli w (vx_runSW (As := [.ref (a 0), .int (nI 11), .int (nI 0), .int 2147483647, .int (nI 0), .int (-1), .int (nI 0)]) (rest := []) X (aF_revisions l hl0 G _ a _ _ hI (nI 0) 2147483647 (nI 0) (-1) (nI 0) 1 (hf_revisions (hf_okJ (hn_max (Nat.le_trans hnJ (by decide))))) (by decide)) (vx_cwSW 7 hts gL_refuses_L_act rfl rfl rfl (by decide +kernel) ⟨Nat.le_of_ble_eq_true rfl, Nat.le_of_ble_eq_true rfl⟩) ⟨b_blind, fun U9 hU9 hW9 => ⟨rfl, hs_pre E Z9 w hm9 U9 hU9 hW9⟩⟩ rfl rfl hl.1 rfl (lv_room (Nat.le_of_ble_eq_true rfl)) dL_refuses_481 ⟨Nat.le_of_ble_eq_true rfl, Nat.le_of_ble_eq_true rfl⟩) hm9 (fun r i H locs hr w => ?_)
  obtain ⟨hI, hr9⟩ := hr
  refine b_tp (hr9.trans (show hs_r 1 = -71 from by decide)) ?_
  refine lv_bipush (v := -71) hx hb dL_refuses_484 (by decide) ?_
  refine lv_icmp_ne (tgt := 510) hx hb dL_refuses_486 (by decide) (fun c9 => absurd rfl c9) (fun c9 => ?_)
  refine lv_aload_n hx hb dL_refuses_489 rfl (lv_at hl 2 rfl) ?_
  refine lv_iload hx hb dL_refuses_490 (lv_at hl 0 rfl) ?_
  refine lv_iconst (v := nI 0) hx hb dL_refuses_492 (by decide) ?_
  refine lv_iconst (v := nI 0) hx hb dL_refuses_493 (by decide) ?_
  refine lv_iload hx hb dL_refuses_494 (lv_at hl 13 rfl) ?_
  refine lv_iconst (v := -1) hx hb dL_refuses_496 (by decide) ?_
  refine lv_iconst (v := nI 0) hx hb dL_refuses_497 (by decide) ?_
  refine hs_calli w (vx_runSW (As := [.ref (a 0), .int (nI 11), .int (nI 0), .int (nI 0), .int 2147483647, .int (-1), .int (nI 0)]) (rest := []) X (aF_revisions l hl0 G _ a _ _ hI (nI 0) (nI 0) 2147483647 (-1) (nI 0) 1 (hf_revisions (hf_okP (by decide))) (by decide)) (vx_cwSW 7 hts gL_refuses_L_act rfl rfl rfl (by decide +kernel) ⟨Nat.le_of_ble_eq_true rfl, Nat.le_of_ble_eq_true rfl⟩) ⟨b_blind, fun U9 hU9 hW9 => ⟨rfl, hs_pre E Z9 w hm9 U9 hU9 hW9⟩⟩ rfl rfl hl.1 rfl (lv_room (Nat.le_of_ble_eq_true rfl)) dL_refuses_498 ⟨Nat.le_of_ble_eq_true rfl, Nat.le_of_ble_eq_true rfl⟩) hm9 (fun r i H locs hr w => ?_)
  obtain ⟨hI, hr9⟩ := hr
  refine b_tp (hr9.trans (show hs_r 1 = -71 from by decide)) ?_
  refine lv_bipush (v := -71) hx hb dL_refuses_501 (by decide) ?_
  refine lv_icmp_ne (tgt := 510) hx hb dL_refuses_503 (by decide) (fun c9 => absurd rfl c9) (fun c9 => ?_)
  refine lv_iconst (v := nI 1) hx hb dL_refuses_506 (by decide) ?_
  refine lv_goto (tgt := 511) hx hb dL_refuses_507 (by decide) ?_
  refine lv_istore (lv' := [(15, .int (nI 1)), (16, .int (nI 11)), (0, .ref (a 0)), (1, .int (nI (hs_nA x))), (2, .int (nI (hs_nJ x))), (3, .int (nI (hs_td x))), (4, .int 2147483647), (5, .int (hV_hidden x (nI 5))), (6, .int (hV_find x (-1) (-1) (nI 0) (nI 11) (nI 0) (nI 0))), (7, .int (nI 2)), (8, .int 2147483647), (9, .int 2147483647), (10, .int 2147483647), (11, .int 2147483647), (12, .int 2147483647), (13, .int 2147483647), (14, .int (-1))]) hx hb dL_refuses_511 hl (by decide) rfl (fun ls hl => ?_)
  refine lv_iinc (v := nI 12) (lv' := [(16, .int (nI 12)), (15, .int (nI 1)), (0, .ref (a 0)), (1, .int (nI (hs_nA x))), (2, .int (nI (hs_nJ x))), (3, .int (nI (hs_td x))), (4, .int 2147483647), (5, .int (hV_hidden x (nI 5))), (6, .int (hV_find x (-1) (-1) (nI 0) (nI 11) (nI 0) (nI 0))), (7, .int (nI 2)), (8, .int 2147483647), (9, .int 2147483647), (10, .int 2147483647), (11, .int 2147483647), (12, .int 2147483647), (13, .int 2147483647), (14, .int (-1))]) hx hb dL_refuses_513 hl (k := 1) rfl (by decide) (by decide) rfl (fun ls hl => ?_)
  refine lv_goto (tgt := 436) hx hb dL_refuses_516 (by decide) ?_
  refine lv_iload hx hb dL_refuses_436 (lv_at hl 0 rfl) ?_
  refine lv_bipush (v := nI 14) hx hb dL_refuses_438 (by decide) ?_
  refine lv_icmp_ge (tgt := 519) hx hb dL_refuses_440 (by decide) (fun c9 => absurd c9 (by decide)) (fun c9 => ?_)
  refine lv_iload hx hb dL_refuses_443 (lv_at hl 1 rfl) ?_
  refine lv_if_eq (tgt := 519) hx hb dL_refuses_445 (by decide) (fun c9 => absurd c9 (by decide)) (fun c9 => ?_)
  refine lv_iload hx hb dL_refuses_448 (lv_at hl 0 rfl) ?_
  refine lv_bipush (v := nI 7) hx hb dL_refuses_450 (by decide) ?_
  refine lv_icmp_eq (tgt := 506) hx hb dL_refuses_452 (by decide) (fun c9 => absurd c9 (by decide)) (fun c9 => ?_)
  refine lv_aload_n hx hb dL_refuses_455 rfl (lv_at hl 2 rfl) ?_
  refine lv_iload hx hb dL_refuses_456 (lv_at hl 0 rfl) ?_
  refine lv_iload hx hb dL_refuses_458 (lv_at hl 11 rfl) ?_
  refine lv_iconst (v := nI 0) hx hb dL_refuses_460 (by decide) ?_
  refine lv_iconst (v := nI 0) hx hb dL_refuses_461 (by decide) ?_
  refine lv_iconst (v := -1) hx hb dL_refuses_462 (by decide) ?_
  refine lv_iconst (v := nI 0) hx hb dL_refuses_463 (by decide) ?_
  refine hs_calli w (vx_runSW (As := [.ref (a 0), .int (nI 12), .int 2147483647, .int (nI 0), .int (nI 0), .int (-1), .int (nI 0)]) (rest := []) X (aF_hasFault l hl0 G _ a _ _ hI 2147483647 (nI 0) (nI 0) (-1) (nI 0) 1 (hf_hasFault (hf_okA (hn_max (Nat.le_trans hnA (by decide))))) (by decide)) (vx_cwSW 7 hts gL_refuses_L_act rfl rfl rfl (by decide +kernel) ⟨Nat.le_of_ble_eq_true rfl, Nat.le_of_ble_eq_true rfl⟩) ⟨b_blind, fun U9 hU9 hW9 => ⟨rfl, hs_pre E Z9 w hm9 U9 hU9 hW9⟩⟩ rfl rfl hl.1 rfl (lv_room (Nat.le_of_ble_eq_true rfl)) dL_refuses_464 ⟨Nat.le_of_ble_eq_true rfl, Nat.le_of_ble_eq_true rfl⟩) hm9 (fun r i H locs hr w => ?_)
  obtain ⟨hI, hr9⟩ := hr
  refine b_tp (hr9.trans (show hs_r 1 = -71 from by decide)) ?_
  refine lv_bipush (v := -71) hx hb dL_refuses_467 (by decide) ?_
  refine lv_icmp_ne (tgt := 510) hx hb dL_refuses_469 (by decide) (fun c9 => absurd rfl c9) (fun c9 => ?_)
  refine lv_aload_n hx hb dL_refuses_472 rfl (lv_at hl 2 rfl) ?_
  refine lv_iload hx hb dL_refuses_473 (lv_at hl 0 rfl) ?_
  refine lv_iconst (v := nI 0) hx hb dL_refuses_475 (by decide) ?_
  refine lv_iload hx hb dL_refuses_476 (lv_at hl 12 rfl) ?_
  refine lv_iconst (v := nI 0) hx hb dL_refuses_478 (by decide) ?_
  refine lv_iconst (v := -1) hx hb dL_refuses_479 (by decide) ?_
  refine lv_iconst (v := nI 0) hx hb dL_refuses_480 (by decide) ?_
  refine hs_calli w (vx_runSW (As := [.ref (a 0), .int (nI 12), .int (nI 0), .int 2147483647, .int (nI 0), .int (-1), .int (nI 0)]) (rest := []) X (aF_hasFault l hl0 G _ a _ _ hI (nI 0) 2147483647 (nI 0) (-1) (nI 0) 1 (hf_hasFault (hf_okJ (hn_max (Nat.le_trans hnJ (by decide))))) (by decide)) (vx_cwSW 7 hts gL_refuses_L_act rfl rfl rfl (by decide +kernel) ⟨Nat.le_of_ble_eq_true rfl, Nat.le_of_ble_eq_true rfl⟩) ⟨b_blind, fun U9 hU9 hW9 => ⟨rfl, hs_pre E Z9 w hm9 U9 hU9 hW9⟩⟩ rfl rfl hl.1 rfl (lv_room (Nat.le_of_ble_eq_true rfl)) dL_refuses_481 ⟨Nat.le_of_ble_eq_true rfl, Nat.le_of_ble_eq_true rfl⟩) hm9 (fun r i H locs hr w => ?_)
  obtain ⟨hI, hr9⟩ := hr
  refine b_tp (hr9.trans (show hs_r 1 = -71 from by decide)) ?_
  refine lv_bipush (v := -71) hx hb dL_refuses_484 (by decide) ?_
  refine lv_icmp_ne (tgt := 510) hx hb dL_refuses_486 (by decide) (fun c9 => absurd rfl c9) (fun c9 => ?_)
  refine lv_aload_n hx hb dL_refuses_489 rfl (lv_at hl 2 rfl) ?_
  refine lv_iload hx hb dL_refuses_490 (lv_at hl 0 rfl) ?_
  refine lv_iconst (v := nI 0) hx hb dL_refuses_492 (by decide) ?_
  refine lv_iconst (v := nI 0) hx hb dL_refuses_493 (by decide) ?_
  refine lv_iload hx hb dL_refuses_494 (lv_at hl 13 rfl) ?_
  refine lv_iconst (v := -1) hx hb dL_refuses_496 (by decide) ?_
  refine lv_iconst (v := nI 0) hx hb dL_refuses_497 (by decide) ?_
  refine hs_calli w (vx_runSW (As := [.ref (a 0), .int (nI 12), .int (nI 0), .int (nI 0), .int 2147483647, .int (-1), .int (nI 0)]) (rest := []) X (aF_hasFault l hl0 G _ a _ _ hI (nI 0) (nI 0) 2147483647 (-1) (nI 0) 1 (hf_hasFault (hf_okP (by decide))) (by decide)) (vx_cwSW 7 hts gL_refuses_L_act rfl rfl rfl (by decide +kernel) ⟨Nat.le_of_ble_eq_true rfl, Nat.le_of_ble_eq_true rfl⟩) ⟨b_blind, fun U9 hU9 hW9 => ⟨rfl, hs_pre E Z9 w hm9 U9 hU9 hW9⟩⟩ rfl rfl hl.1 rfl (lv_room (Nat.le_of_ble_eq_true rfl)) dL_refuses_498 ⟨Nat.le_of_ble_eq_true rfl, Nat.le_of_ble_eq_true rfl⟩) hm9 (fun r i H locs hr w => ?_)
  obtain ⟨hI, hr9⟩ := hr
  refine b_tp (hr9.trans (show hs_r 1 = -71 from by decide)) ?_
  refine lv_bipush (v := -71) hx hb dL_refuses_501 (by decide) ?_
  refine lv_icmp_ne (tgt := 510) hx hb dL_refuses_503 (by decide) (fun c9 => absurd rfl c9) (fun c9 => ?_)
  refine lv_iconst (v := nI 1) hx hb dL_refuses_506 (by decide) ?_
  refine lv_goto (tgt := 511) hx hb dL_refuses_507 (by decide) ?_
  refine lv_istore (lv' := [(15, .int (nI 1)), (16, .int (nI 12)), (0, .ref (a 0)), (1, .int (nI (hs_nA x))), (2, .int (nI (hs_nJ x))), (3, .int (nI (hs_td x))), (4, .int 2147483647), (5, .int (hV_hidden x (nI 5))), (6, .int (hV_find x (-1) (-1) (nI 0) (nI 11) (nI 0) (nI 0))), (7, .int (nI 2)), (8, .int 2147483647), (9, .int 2147483647), (10, .int 2147483647), (11, .int 2147483647), (12, .int 2147483647), (13, .int 2147483647), (14, .int (-1))]) hx hb dL_refuses_511 hl (by decide) rfl (fun ls hl => ?_)
  refine lv_iinc (v := nI 13) (lv' := [(16, .int (nI 13)), (15, .int (nI 1)), (0, .ref (a 0)), (1, .int (nI (hs_nA x))), (2, .int (nI (hs_nJ x))), (3, .int (nI (hs_td x))), (4, .int 2147483647), (5, .int (hV_hidden x (nI 5))), (6, .int (hV_find x (-1) (-1) (nI 0) (nI 11) (nI 0) (nI 0))), (7, .int (nI 2)), (8, .int 2147483647), (9, .int 2147483647), (10, .int 2147483647), (11, .int 2147483647), (12, .int 2147483647), (13, .int 2147483647), (14, .int (-1))]) hx hb dL_refuses_513 hl (k := 1) rfl (by decide) (by decide) rfl (fun ls hl => ?_)
  refine lv_goto (tgt := 436) hx hb dL_refuses_516 (by decide) ?_
  refine lv_iload hx hb dL_refuses_436 (lv_at hl 0 rfl) ?_
  refine lv_bipush (v := nI 14) hx hb dL_refuses_438 (by decide) ?_
  refine lv_icmp_ge (tgt := 519) hx hb dL_refuses_440 (by decide) (fun c9 => absurd c9 (by decide)) (fun c9 => ?_)
  refine lv_iload hx hb dL_refuses_443 (lv_at hl 1 rfl) ?_
  refine lv_if_eq (tgt := 519) hx hb dL_refuses_445 (by decide) (fun c9 => absurd c9 (by decide)) (fun c9 => ?_)
  refine lv_iload hx hb dL_refuses_448 (lv_at hl 0 rfl) ?_
  refine lv_bipush (v := nI 7) hx hb dL_refuses_450 (by decide) ?_
  refine lv_icmp_eq (tgt := 506) hx hb dL_refuses_452 (by decide) (fun c9 => absurd c9 (by decide)) (fun c9 => ?_)
  refine lv_aload_n hx hb dL_refuses_455 rfl (lv_at hl 2 rfl) ?_
  refine lv_iload hx hb dL_refuses_456 (lv_at hl 0 rfl) ?_
  refine lv_iload hx hb dL_refuses_458 (lv_at hl 11 rfl) ?_
  refine lv_iconst (v := nI 0) hx hb dL_refuses_460 (by decide) ?_
  refine lv_iconst (v := nI 0) hx hb dL_refuses_461 (by decide) ?_
  refine lv_iconst (v := -1) hx hb dL_refuses_462 (by decide) ?_
  refine lv_iconst (v := nI 0) hx hb dL_refuses_463 (by decide) ?_
  refine hs_calli w (vx_runSW (As := [.ref (a 0), .int (nI 13), .int 2147483647, .int (nI 0), .int (nI 0), .int (-1), .int (nI 0)]) (rest := []) X (aF_shown l hl0 G _ a _ _ hI 2147483647 (nI 0) (nI 0) (-1) (nI 0) 1 (hf_shown (hf_okA (hn_max (Nat.le_trans hnA (by decide))))) (by decide)) (vx_cwSW 7 hts gL_refuses_L_act rfl rfl rfl (by decide +kernel) ⟨Nat.le_of_ble_eq_true rfl, Nat.le_of_ble_eq_true rfl⟩) ⟨b_blind, fun U9 hU9 hW9 => ⟨rfl, hs_pre E Z9 w hm9 U9 hU9 hW9⟩⟩ rfl rfl hl.1 rfl (lv_room (Nat.le_of_ble_eq_true rfl)) dL_refuses_464 ⟨Nat.le_of_ble_eq_true rfl, Nat.le_of_ble_eq_true rfl⟩) hm9 (fun r i H locs hr w => ?_)
  obtain ⟨hI, hr9⟩ := hr
  refine b_tp (hr9.trans (show hs_r 1 = -71 from by decide)) ?_
  refine lv_bipush (v := -71) hx hb dL_refuses_467 (by decide) ?_
  refine lv_icmp_ne (tgt := 510) hx hb dL_refuses_469 (by decide) (fun c9 => absurd rfl c9) (fun c9 => ?_)
  refine lv_aload_n hx hb dL_refuses_472 rfl (lv_at hl 2 rfl) ?_
  refine lv_iload hx hb dL_refuses_473 (lv_at hl 0 rfl) ?_
  refine lv_iconst (v := nI 0) hx hb dL_refuses_475 (by decide) ?_
  refine lv_iload hx hb dL_refuses_476 (lv_at hl 12 rfl) ?_
  refine lv_iconst (v := nI 0) hx hb dL_refuses_478 (by decide) ?_
  refine lv_iconst (v := -1) hx hb dL_refuses_479 (by decide) ?_
  refine lv_iconst (v := nI 0) hx hb dL_refuses_480 (by decide) ?_
  refine hs_calli w (vx_runSW (As := [.ref (a 0), .int (nI 13), .int (nI 0), .int 2147483647, .int (nI 0), .int (-1), .int (nI 0)]) (rest := []) X (aF_shown l hl0 G _ a _ _ hI (nI 0) 2147483647 (nI 0) (-1) (nI 0) 1 (hf_shown (hf_okJ (hn_max (Nat.le_trans hnJ (by decide))))) (by decide)) (vx_cwSW 7 hts gL_refuses_L_act rfl rfl rfl (by decide +kernel) ⟨Nat.le_of_ble_eq_true rfl, Nat.le_of_ble_eq_true rfl⟩) ⟨b_blind, fun U9 hU9 hW9 => ⟨rfl, hs_pre E Z9 w hm9 U9 hU9 hW9⟩⟩ rfl rfl hl.1 rfl (lv_room (Nat.le_of_ble_eq_true rfl)) dL_refuses_481 ⟨Nat.le_of_ble_eq_true rfl, Nat.le_of_ble_eq_true rfl⟩) hm9 (fun r i H locs hr w => ?_)
  obtain ⟨hI, hr9⟩ := hr
  refine b_tp (hr9.trans (show hs_r 1 = -71 from by decide)) ?_
  refine lv_bipush (v := -71) hx hb dL_refuses_484 (by decide) ?_
  refine lv_icmp_ne (tgt := 510) hx hb dL_refuses_486 (by decide) (fun c9 => absurd rfl c9) (fun c9 => ?_)
  refine lv_aload_n hx hb dL_refuses_489 rfl (lv_at hl 2 rfl) ?_
  refine lv_iload hx hb dL_refuses_490 (lv_at hl 0 rfl) ?_
  refine lv_iconst (v := nI 0) hx hb dL_refuses_492 (by decide) ?_
  refine lv_iconst (v := nI 0) hx hb dL_refuses_493 (by decide) ?_
  refine lv_iload hx hb dL_refuses_494 (lv_at hl 13 rfl) ?_
  refine lv_iconst (v := -1) hx hb dL_refuses_496 (by decide) ?_
  refine lv_iconst (v := nI 0) hx hb dL_refuses_497 (by decide) ?_
  refine hs_calli w (vx_runSW (As := [.ref (a 0), .int (nI 13), .int (nI 0), .int (nI 0), .int 2147483647, .int (-1), .int (nI 0)]) (rest := []) X (aF_shown l hl0 G _ a _ _ hI (nI 0) (nI 0) 2147483647 (-1) (nI 0) 1 (hf_shown (hf_okP (by decide))) (by decide)) (vx_cwSW 7 hts gL_refuses_L_act rfl rfl rfl (by decide +kernel) ⟨Nat.le_of_ble_eq_true rfl, Nat.le_of_ble_eq_true rfl⟩) ⟨b_blind, fun U9 hU9 hW9 => ⟨rfl, hs_pre E Z9 w hm9 U9 hU9 hW9⟩⟩ rfl rfl hl.1 rfl (lv_room (Nat.le_of_ble_eq_true rfl)) dL_refuses_498 ⟨Nat.le_of_ble_eq_true rfl, Nat.le_of_ble_eq_true rfl⟩) hm9 (fun r i H locs hr w => ?_)
  obtain ⟨hI, hr9⟩ := hr
  refine b_tp (hr9.trans (show hs_r 1 = -71 from by decide)) ?_
  refine lv_bipush (v := -71) hx hb dL_refuses_501 (by decide) ?_
  refine lv_icmp_ne (tgt := 510) hx hb dL_refuses_503 (by decide) (fun c9 => absurd rfl c9) (fun c9 => ?_)
  refine lv_iconst (v := nI 1) hx hb dL_refuses_506 (by decide) ?_
  refine lv_goto (tgt := 511) hx hb dL_refuses_507 (by decide) ?_
  refine lv_istore (lv' := [(15, .int (nI 1)), (16, .int (nI 13)), (0, .ref (a 0)), (1, .int (nI (hs_nA x))), (2, .int (nI (hs_nJ x))), (3, .int (nI (hs_td x))), (4, .int 2147483647), (5, .int (hV_hidden x (nI 5))), (6, .int (hV_find x (-1) (-1) (nI 0) (nI 11) (nI 0) (nI 0))), (7, .int (nI 2)), (8, .int 2147483647), (9, .int 2147483647), (10, .int 2147483647), (11, .int 2147483647), (12, .int 2147483647), (13, .int 2147483647), (14, .int (-1))]) hx hb dL_refuses_511 hl (by decide) rfl (fun ls hl => ?_)
  refine lv_iinc (v := nI 14) (lv' := [(16, .int (nI 14)), (15, .int (nI 1)), (0, .ref (a 0)), (1, .int (nI (hs_nA x))), (2, .int (nI (hs_nJ x))), (3, .int (nI (hs_td x))), (4, .int 2147483647), (5, .int (hV_hidden x (nI 5))), (6, .int (hV_find x (-1) (-1) (nI 0) (nI 11) (nI 0) (nI 0))), (7, .int (nI 2)), (8, .int 2147483647), (9, .int 2147483647), (10, .int 2147483647), (11, .int 2147483647), (12, .int 2147483647), (13, .int 2147483647), (14, .int (-1))]) hx hb dL_refuses_513 hl (k := 1) rfl (by decide) (by decide) rfl (fun ls hl => ?_)
  refine lv_goto (tgt := 436) hx hb dL_refuses_516 (by decide) ?_
  refine lv_iload hx hb dL_refuses_436 (lv_at hl 0 rfl) ?_
  refine lv_bipush (v := nI 14) hx hb dL_refuses_438 (by decide) ?_
  refine lv_icmp_ge (tgt := 519) hx hb dL_refuses_440 (by decide) (fun c9 => ?_) (fun c9 => absurd (by decide) c9)
  refine lv_iload hx hb dL_refuses_519 (lv_at hl 1 rfl) ?_
  refine lv_if_eq (tgt := 675) hx hb dL_refuses_521 (by decide) (fun c9 => absurd c9 (by decide)) (fun c9 => ?_)
  refine lv_aload_n hx hb dL_refuses_524 rfl (lv_at hl 2 rfl) ?_
  refine lv_iload hx hb dL_refuses_525 (lv_at hl 9 rfl) ?_
  refine lv_if_ne (tgt := 535) hx hb dL_refuses_527 (by decide) (fun c9 => ?_) (fun c9 => absurd c9 (by decide))
  refine lv_iload hx hb dL_refuses_535 (lv_at hl 11 rfl) ?_
  refine lv_iconst (v := -1) hx hb dL_refuses_537 (by decide) ?_
  refine lv_bipush (v := nI 9) hx hb dL_refuses_538 (by decide) ?_
  refine lv_iconst (v := nI 0) hx hb dL_refuses_540 (by decide) ?_
  refine lv_iconst (v := nI 0) hx hb dL_refuses_541 (by decide) ?_
  refine lv_iconst (v := nI 0) hx hb dL_refuses_542 (by decide) ?_
  refine hs_calli w (vx_runSW (As := [.ref (a 0), .int 2147483647, .int (-1), .int (nI 9), .int (nI 0), .int (nI 0), .int (nI 0)]) (rest := []) X (fF l hl0 G _ a _ _ hI 2147483647 (-1) (nI 9) (nI 0) (nI 0) (nI 0) 1 (hf_find1 (Or.inl (hn_pat (hn_max (Nat.le_trans hnA (by decide))) (by decide)))) (by decide)) (vx_cwSW 7 hts gL_refuses_L_find rfl rfl rfl (by decide +kernel) ⟨Nat.le_of_ble_eq_true rfl, Nat.le_of_ble_eq_true rfl⟩) ⟨b_blind, fun U9 hU9 hW9 => ⟨rfl, hs_pre E Z9 w hm9 U9 hU9 hW9⟩⟩ rfl rfl hl.1 rfl (lv_room (Nat.le_of_ble_eq_true rfl)) dL_refuses_543 ⟨Nat.le_of_ble_eq_true rfl, Nat.le_of_ble_eq_true rfl⟩) hm9 (fun r i H locs hr w => ?_)
  obtain ⟨hI, hr9⟩ := hr
  refine b_tp (hr9.trans (show hs_r 1 = -71 from by decide)) ?_
  refine lv_bipush (v := -71) hx hb dL_refuses_546 (by decide) ?_
  refine lv_icmp_ne (tgt := 675) hx hb dL_refuses_548 (by decide) (fun c9 => absurd rfl c9) (fun c9 => ?_)
  refine lv_aload_n hx hb dL_refuses_551 rfl (lv_at hl 2 rfl) ?_
  refine lv_iconst (v := -1) hx hb dL_refuses_552 (by decide) ?_
  refine lv_iload hx hb dL_refuses_553 (lv_at hl 9 rfl) ?_
  refine lv_if_ne (tgt := 563) hx hb dL_refuses_555 (by decide) (fun c9 => ?_) (fun c9 => absurd c9 (by decide))
  refine lv_iload hx hb dL_refuses_563 (lv_at hl 12 rfl) ?_
  refine lv_bipush (v := nI 9) hx hb dL_refuses_565 (by decide) ?_
  refine lv_iconst (v := nI 0) hx hb dL_refuses_567 (by decide) ?_
  refine lv_iconst (v := nI 0) hx hb dL_refuses_568 (by decide) ?_
  refine lv_iconst (v := nI 0) hx hb dL_refuses_569 (by decide) ?_
  refine hs_calli w (vx_runSW (As := [.ref (a 0), .int (-1), .int 2147483647, .int (nI 9), .int (nI 0), .int (nI 0), .int (nI 0)]) (rest := []) X (fF l hl0 G _ a _ _ hI (-1) 2147483647 (nI 9) (nI 0) (nI 0) (nI 0) 1 (hf_find1 (Or.inr (Or.inl (hn_pat (hn_max (Nat.le_trans hnJ (by decide))) (by decide))))) (by decide)) (vx_cwSW 7 hts gL_refuses_L_find rfl rfl rfl (by decide +kernel) ⟨Nat.le_of_ble_eq_true rfl, Nat.le_of_ble_eq_true rfl⟩) ⟨b_blind, fun U9 hU9 hW9 => ⟨rfl, hs_pre E Z9 w hm9 U9 hU9 hW9⟩⟩ rfl rfl hl.1 rfl (lv_room (Nat.le_of_ble_eq_true rfl)) dL_refuses_570 ⟨Nat.le_of_ble_eq_true rfl, Nat.le_of_ble_eq_true rfl⟩) hm9 (fun r i H locs hr w => ?_)
  obtain ⟨hI, hr9⟩ := hr
  refine b_tp (hr9.trans (show hs_r 1 = -71 from by decide)) ?_
  refine lv_bipush (v := -71) hx hb dL_refuses_573 (by decide) ?_
  refine lv_icmp_ne (tgt := 675) hx hb dL_refuses_575 (by decide) (fun c9 => absurd rfl c9) (fun c9 => ?_)
  refine lv_aload_n hx hb dL_refuses_578 rfl (lv_at hl 2 rfl) ?_
  refine lv_iconst (v := -1) hx hb dL_refuses_579 (by decide) ?_
  refine lv_iconst (v := -1) hx hb dL_refuses_580 (by decide) ?_
  refine lv_bipush (v := nI 9) hx hb dL_refuses_581 (by decide) ?_
  refine lv_iconst (v := nI 0) hx hb dL_refuses_583 (by decide) ?_
  refine lv_iconst (v := nI 0) hx hb dL_refuses_584 (by decide) ?_
  refine lv_iload hx hb dL_refuses_585 (lv_at hl 16 rfl) ?_
  refine hs_calli w (vx_runSW (As := [.ref (a 0), .int (-1), .int (-1), .int (nI 9), .int (nI 0), .int (nI 0), .int (-1)]) (rest := []) X (fF l hl0 G _ a _ _ hI (-1) (-1) (nI 9) (nI 0) (nI 0) (-1) 1 (hf_find1 (Or.inr (Or.inr (by decide)))) (by decide)) (vx_cwSW 7 hts gL_refuses_L_find rfl rfl rfl (by decide +kernel) ⟨Nat.le_of_ble_eq_true rfl, Nat.le_of_ble_eq_true rfl⟩) ⟨b_blind, fun U9 hU9 hW9 => ⟨rfl, hs_pre E Z9 w hm9 U9 hU9 hW9⟩⟩ rfl rfl hl.1 rfl (lv_room (Nat.le_of_ble_eq_true rfl)) dL_refuses_587 ⟨Nat.le_of_ble_eq_true rfl, Nat.le_of_ble_eq_true rfl⟩) hm9 (fun r i H locs hr w => ?_)
  obtain ⟨hI, hr9⟩ := hr
  refine b_tp (hr9.trans (show hs_r 1 = -71 from by decide)) ?_
  refine lv_bipush (v := -71) hx hb dL_refuses_590 (by decide) ?_
  refine lv_icmp_ne (tgt := 675) hx hb dL_refuses_592 (by decide) (fun c9 => absurd rfl c9) (fun c9 => ?_)
  refine lv_aload_n hx hb dL_refuses_595 rfl (lv_at hl 2 rfl) ?_
  refine lv_iconst (v := -1) hx hb dL_refuses_596 (by decide) ?_
  refine lv_iconst (v := -1) hx hb dL_refuses_597 (by decide) ?_
  refine lv_iload hx hb dL_refuses_598 (lv_at hl 13 rfl) ?_
  refine lv_bipush (v := nI 11) hx hb dL_refuses_600 (by decide) ?_
  refine lv_iconst (v := nI 0) hx hb dL_refuses_602 (by decide) ?_
  refine lv_iconst (v := nI 0) hx hb dL_refuses_603 (by decide) ?_
  refine hs_calli w (vx_runSW (As := [.ref (a 0), .int (-1), .int (-1), .int 2147483647, .int (nI 11), .int (nI 0), .int (nI 0)]) (rest := []) X (fF l hl0 G _ a _ _ hI (-1) (-1) 2147483647 (nI 11) (nI 0) (nI 0) 2 (hf_find2 (by decide) (by decide)) (by decide)) (vx_cwSW 7 hts gL_refuses_L_find rfl rfl rfl (by decide +kernel) ⟨Nat.le_of_ble_eq_true rfl, Nat.le_of_ble_eq_true rfl⟩) ⟨b_blind, fun U9 hU9 hW9 => ⟨rfl, hs_pre E Z9 w hm9 U9 hU9 hW9⟩⟩ rfl rfl hl.1 rfl (lv_room (Nat.le_of_ble_eq_true rfl)) dL_refuses_604 ⟨Nat.le_of_ble_eq_true rfl, Nat.le_of_ble_eq_true rfl⟩) hm9 (fun r i H locs hr w => ?_)
  obtain ⟨hI, hr9⟩ := hr
  refine b_tp (hr9.trans (show hs_r 2 = -72 from by decide)) ?_
  refine lv_bipush (v := -72) hx hb dL_refuses_607 (by decide) ?_
  refine lv_icmp_ne (tgt := 675) hx hb dL_refuses_609 (by decide) (fun c9 => absurd rfl c9) (fun c9 => ?_)
  refine lv_aload_n hx hb dL_refuses_612 rfl (lv_at hl 2 rfl) ?_
  refine lv_iconst (v := -1) hx hb dL_refuses_613 (by decide) ?_
  refine lv_iconst (v := -1) hx hb dL_refuses_614 (by decide) ?_
  refine lv_iconst (v := nI 0) hx hb dL_refuses_615 (by decide) ?_
  refine lv_iload hx hb dL_refuses_616 (lv_at hl 13 rfl) ?_
  refine lv_iconst (v := nI 0) hx hb dL_refuses_618 (by decide) ?_
  refine lv_iconst (v := nI 0) hx hb dL_refuses_619 (by decide) ?_
  refine hs_calli w (vx_runSW (As := [.ref (a 0), .int (-1), .int (-1), .int (nI 0), .int 2147483647, .int (nI 0), .int (nI 0)]) (rest := []) X (fF l hl0 G _ a _ _ hI (-1) (-1) (nI 0) 2147483647 (nI 0) (nI 0) 2 (hf_find2 (by decide) (by decide)) (by decide)) (vx_cwSW 7 hts gL_refuses_L_find rfl rfl rfl (by decide +kernel) ⟨Nat.le_of_ble_eq_true rfl, Nat.le_of_ble_eq_true rfl⟩) ⟨b_blind, fun U9 hU9 hW9 => ⟨rfl, hs_pre E Z9 w hm9 U9 hU9 hW9⟩⟩ rfl rfl hl.1 rfl (lv_room (Nat.le_of_ble_eq_true rfl)) dL_refuses_620 ⟨Nat.le_of_ble_eq_true rfl, Nat.le_of_ble_eq_true rfl⟩) hm9 (fun r i H locs hr w => ?_)
  obtain ⟨hI, hr9⟩ := hr
  refine b_tp (hr9.trans (show hs_r 2 = -72 from by decide)) ?_
  refine lv_bipush (v := -72) hx hb dL_refuses_623 (by decide) ?_
  refine lv_icmp_ne (tgt := 675) hx hb dL_refuses_625 (by decide) (fun c9 => absurd rfl c9) (fun c9 => ?_)
  refine lv_aload_n hx hb dL_refuses_628 rfl (lv_at hl 2 rfl) ?_
  refine lv_iconst (v := -1) hx hb dL_refuses_629 (by decide) ?_
  refine lv_iconst (v := -1) hx hb dL_refuses_630 (by decide) ?_
  refine lv_iconst (v := nI 5) hx hb dL_refuses_631 (by decide) ?_
  refine lv_iconst (v := nI 4) hx hb dL_refuses_632 (by decide) ?_
  refine lv_iconst (v := nI 0) hx hb dL_refuses_633 (by decide) ?_
  refine lv_iconst (v := nI 0) hx hb dL_refuses_634 (by decide) ?_
  refine hs_calli w (vx_runSW (As := [.ref (a 0), .int (-1), .int (-1), .int (nI 5), .int (nI 4), .int (nI 0), .int (nI 0)]) (rest := []) X (fF l hl0 G _ a _ _ hI (-1) (-1) (nI 5) (nI 4) (nI 0) (nI 0) 2 (hf_find2 (by decide) (by decide)) (by decide)) (vx_cwSW 7 hts gL_refuses_L_find rfl rfl rfl (by decide +kernel) ⟨Nat.le_of_ble_eq_true rfl, Nat.le_of_ble_eq_true rfl⟩) ⟨b_blind, fun U9 hU9 hW9 => ⟨rfl, hs_pre E Z9 w hm9 U9 hU9 hW9⟩⟩ rfl rfl hl.1 rfl (lv_room (Nat.le_of_ble_eq_true rfl)) dL_refuses_635 ⟨Nat.le_of_ble_eq_true rfl, Nat.le_of_ble_eq_true rfl⟩) hm9 (fun r i H locs hr w => ?_)
  obtain ⟨hI, hr9⟩ := hr
  refine b_tp (hr9.trans (show hs_r 2 = -72 from by decide)) ?_
  refine lv_bipush (v := -72) hx hb dL_refuses_638 (by decide) ?_
  refine lv_icmp_ne (tgt := 675) hx hb dL_refuses_640 (by decide) (fun c9 => absurd rfl c9) (fun c9 => ?_)
  refine lv_aload_n hx hb dL_refuses_643 rfl (lv_at hl 2 rfl) ?_
  refine lv_iconst (v := -1) hx hb dL_refuses_644 (by decide) ?_
  refine lv_iconst (v := -1) hx hb dL_refuses_645 (by decide) ?_
  refine lv_iconst (v := nI 0) hx hb dL_refuses_646 (by decide) ?_
  refine lv_iconst (v := nI 0) hx hb dL_refuses_647 (by decide) ?_
  refine lv_iload hx hb dL_refuses_648 (lv_at hl 9 rfl) ?_
  refine lv_iconst (v := nI 1) hx hb dL_refuses_650 (by decide) ?_
  refine lv_icmp_ne (tgt := 660) hx hb dL_refuses_651 (by decide) (fun c9 => ?_) (fun c9 => absurd c9 (by decide))
  refine lv_iload hx hb dL_refuses_660 (lv_at hl 10 rfl) ?_
  refine lv_iconst (v := nI 0) hx hb dL_refuses_662 (by decide) ?_
  refine hs_calli w (vx_runSW (As := [.ref (a 0), .int (-1), .int (-1), .int (nI 0), .int (nI 0), .int 2147483647, .int (nI 0)]) (rest := []) X (fF l hl0 G _ a _ _ hI (-1) (-1) (nI 0) (nI 0) 2147483647 (nI 0) 2 (hf_find2 (by decide) (by decide)) (by decide)) (vx_cwSW 7 hts gL_refuses_L_find rfl rfl rfl (by decide +kernel) ⟨Nat.le_of_ble_eq_true rfl, Nat.le_of_ble_eq_true rfl⟩) ⟨b_blind, fun U9 hU9 hW9 => ⟨rfl, hs_pre E Z9 w hm9 U9 hU9 hW9⟩⟩ rfl rfl hl.1 rfl (lv_room (Nat.le_of_ble_eq_true rfl)) dL_refuses_663 ⟨Nat.le_of_ble_eq_true rfl, Nat.le_of_ble_eq_true rfl⟩) hm9 (fun r i H locs hr w => ?_)
  obtain ⟨hI, hr9⟩ := hr
  refine b_tp (hr9.trans (show hs_r 2 = -72 from by decide)) ?_
  refine lv_bipush (v := -72) hx hb dL_refuses_666 (by decide) ?_
  refine lv_icmp_ne (tgt := 675) hx hb dL_refuses_668 (by decide) (fun c9 => absurd rfl c9) (fun c9 => ?_)
  refine lv_iconst (v := nI 1) hx hb dL_refuses_671 (by decide) ?_
  refine lv_goto (tgt := 676) hx hb dL_refuses_672 (by decide) ?_
  refine lv_istore (lv' := [(15, .int (nI 1)), (16, .int (nI 14)), (0, .ref (a 0)), (1, .int (nI (hs_nA x))), (2, .int (nI (hs_nJ x))), (3, .int (nI (hs_td x))), (4, .int 2147483647), (5, .int (hV_hidden x (nI 5))), (6, .int (hV_find x (-1) (-1) (nI 0) (nI 11) (nI 0) (nI 0))), (7, .int (nI 2)), (8, .int 2147483647), (9, .int 2147483647), (10, .int 2147483647), (11, .int 2147483647), (12, .int 2147483647), (13, .int 2147483647), (14, .int (-1))]) hx hb dL_refuses_676 hl (by decide) rfl (fun ls hl => ?_)
  refine lv_iload hx hb dL_refuses_678 (lv_at hl 0 rfl) ?_
  refine lv_if_eq (tgt := 806) hx hb dL_refuses_680 (by decide) (fun c9 => absurd c9 (by decide)) (fun c9 => ?_)
  refine lv_iload_n hx hb dL_refuses_683 rfl (lv_at hl 3 rfl) ?_
  refine lv_if_eq (tgt := 802) hx hb dL_refuses_684 (by decide) (fun c_684_1 => ?_) (fun c_684_1 => ?_)
  · have q_684_2 : (hs_nA x) = 0 := (nI_z (by omega)).mp c_684_1
    refine lv_iconst (v := nI 1) hx hb dL_refuses_802 (by decide) ?_
    refine lv_goto (tgt := 807) hx hb dL_refuses_803 (by decide) ?_
    refine lv_istore (lv' := [(15, .int (nI 1)), (16, .int (nI 14)), (0, .ref (a 0)), (1, .int (nI (hs_nA x))), (2, .int (nI (hs_nJ x))), (3, .int (nI (hs_td x))), (4, .int 2147483647), (5, .int (hV_hidden x (nI 5))), (6, .int (hV_find x (-1) (-1) (nI 0) (nI 11) (nI 0) (nI 0))), (7, .int (nI 2)), (8, .int 2147483647), (9, .int 2147483647), (10, .int 2147483647), (11, .int 2147483647), (12, .int 2147483647), (13, .int 2147483647), (14, .int (-1))]) hx hb dL_refuses_807 hl (by decide) rfl (fun ls hl => ?_)
    refine lv_iload hx hb dL_refuses_809 (lv_at hl 0 rfl) ?_
    refine lv_if_ne (tgt := 816) hx hb dL_refuses_811 (by decide) (fun c9 => ?_) (fun c9 => absurd c9 (by decide))
    refine lv_iinc (v := nI 3) (lv' := [(7, .int (nI 3)), (15, .int (nI 1)), (16, .int (nI 14)), (0, .ref (a 0)), (1, .int (nI (hs_nA x))), (2, .int (nI (hs_nJ x))), (3, .int (nI (hs_td x))), (4, .int 2147483647), (5, .int (hV_hidden x (nI 5))), (6, .int (hV_find x (-1) (-1) (nI 0) (nI 11) (nI 0) (nI 0))), (8, .int 2147483647), (9, .int 2147483647), (10, .int 2147483647), (11, .int 2147483647), (12, .int 2147483647), (13, .int 2147483647), (14, .int (-1))]) hx hb dL_refuses_816 hl (k := 9) rfl (by decide) (by decide) rfl (fun ls hl => ?_)
    refine lv_goto (tgt := 27) hx hb dL_refuses_819 (by decide) ?_
    refine W.widen (k := 241) (n := 1446) (by decide) (by decide) ?_
    exact kk i _ _ _ hI w (lv_sub hl [3, 4, 5, 6, 7, 8, 9, 0] rfl)
  · have q_684_2 : ¬ (hs_nA x) = 0 := fun h9 => c_684_1 ((nI_z (by omega)).mpr h9)
    refine lv_iload_n hx hb dL_refuses_687 rfl (lv_at hl 4 rfl) ?_
    refine lv_if_eq (tgt := 802) hx hb dL_refuses_688 (by decide) (fun c_688_3 => ?_) (fun c_688_3 => ?_)
    · have q_688_4 : (hs_nJ x) = 0 := (nI_z (by omega)).mp c_688_3
      refine lv_iconst (v := nI 1) hx hb dL_refuses_802 (by decide) ?_
      refine lv_goto (tgt := 807) hx hb dL_refuses_803 (by decide) ?_
      refine lv_istore (lv' := [(15, .int (nI 1)), (16, .int (nI 14)), (0, .ref (a 0)), (1, .int (nI (hs_nA x))), (2, .int (nI (hs_nJ x))), (3, .int (nI (hs_td x))), (4, .int 2147483647), (5, .int (hV_hidden x (nI 5))), (6, .int (hV_find x (-1) (-1) (nI 0) (nI 11) (nI 0) (nI 0))), (7, .int (nI 2)), (8, .int 2147483647), (9, .int 2147483647), (10, .int 2147483647), (11, .int 2147483647), (12, .int 2147483647), (13, .int 2147483647), (14, .int (-1))]) hx hb dL_refuses_807 hl (by decide) rfl (fun ls hl => ?_)
      refine lv_iload hx hb dL_refuses_809 (lv_at hl 0 rfl) ?_
      refine lv_if_ne (tgt := 816) hx hb dL_refuses_811 (by decide) (fun c9 => ?_) (fun c9 => absurd c9 (by decide))
      refine lv_iinc (v := nI 3) (lv' := [(7, .int (nI 3)), (15, .int (nI 1)), (16, .int (nI 14)), (0, .ref (a 0)), (1, .int (nI (hs_nA x))), (2, .int (nI (hs_nJ x))), (3, .int (nI (hs_td x))), (4, .int 2147483647), (5, .int (hV_hidden x (nI 5))), (6, .int (hV_find x (-1) (-1) (nI 0) (nI 11) (nI 0) (nI 0))), (8, .int 2147483647), (9, .int 2147483647), (10, .int 2147483647), (11, .int 2147483647), (12, .int 2147483647), (13, .int 2147483647), (14, .int (-1))]) hx hb dL_refuses_816 hl (k := 9) rfl (by decide) (by decide) rfl (fun ls hl => ?_)
      refine lv_goto (tgt := 27) hx hb dL_refuses_819 (by decide) ?_
      refine W.widen (k := 241) (n := 1446) (by decide) (by decide) ?_
      exact kk i _ _ _ hI w (lv_sub hl [3, 4, 5, 6, 7, 8, 9, 0] rfl)
    · have q_688_4 : ¬ (hs_nJ x) = 0 := fun h9 => c_688_3 ((nI_z (by omega)).mpr h9)
      refine lv_aload_n hx hb dL_refuses_691 rfl (lv_at hl 2 rfl) ?_
      refine lv_iconst (v := nI 3) hx hb dL_refuses_692 (by decide) ?_
      refine lv_iload hx hb dL_refuses_693 (lv_at hl 15 rfl) ?_
      refine lv_iconst (v := nI 0) hx hb dL_refuses_695 (by decide) ?_
      refine lv_iconst (v := nI 0) hx hb dL_refuses_696 (by decide) ?_
      refine lv_iconst (v := nI 0) hx hb dL_refuses_697 (by decide) ?_
      refine lv_iconst (v := nI 0) hx hb dL_refuses_698 (by decide) ?_
      refine hs_calli w (vx_runSW (As := [.ref (a 0), .int (nI 3), .int 2147483647, .int (nI 0), .int (nI 0), .int (nI 0), .int (nI 0)]) (rest := []) X (aF_put l hl0 G _ a _ _ hI 2147483647 (nI 0) (nI 0) (nI 0) (nI 0) 2 (hf_put2 (hf_ok0 (Nat.pos_of_ne_zero q_684_2) (Nat.pos_of_ne_zero q_688_4) hnA hnJ) (by decide)) (by decide)) (vx_cwSW 7 hts gL_refuses_L_act rfl rfl rfl (by decide +kernel) ⟨Nat.le_of_ble_eq_true rfl, Nat.le_of_ble_eq_true rfl⟩) ⟨b_blind, fun U9 hU9 hW9 => ⟨rfl, hs_pre E Z9 w hm9 U9 hU9 hW9⟩⟩ rfl rfl hl.1 rfl (lv_room (Nat.le_of_ble_eq_true rfl)) dL_refuses_699 ⟨Nat.le_of_ble_eq_true rfl, Nat.le_of_ble_eq_true rfl⟩) hm9 (fun r i H locs hr w => ?_)
      obtain ⟨hI, hr9⟩ := hr
      refine b_tp (hr9.trans (show hs_r 2 = -72 from by decide)) ?_
      refine lv_bipush (v := -72) hx hb dL_refuses_702 (by decide) ?_
      refine lv_icmp_ne (tgt := 806) hx hb dL_refuses_704 (by decide) (fun c9 => absurd rfl c9) (fun c9 => ?_)
      refine lv_aload_n hx hb dL_refuses_707 rfl (lv_at hl 2 rfl) ?_
      refine lv_iconst (v := nI 3) hx hb dL_refuses_708 (by decide) ?_
      refine lv_iconst (v := nI 2) hx hb dL_refuses_709 (by decide) ?_
      refine lv_iconst (v := nI 0) hx hb dL_refuses_710 (by decide) ?_
      refine lv_iconst (v := nI 0) hx hb dL_refuses_711 (by decide) ?_
      refine lv_iconst (v := nI 0) hx hb dL_refuses_712 (by decide) ?_
      refine lv_iload hx hb dL_refuses_713 (lv_at hl 9 rfl) ?_
      refine lv_if_ne (tgt := 723) hx hb dL_refuses_715 (by decide) (fun c9 => ?_) (fun c9 => absurd c9 (by decide))
      refine lv_iload hx hb dL_refuses_723 (lv_at hl 9 rfl) ?_
      refine lv_iconst (v := nI 1) hx hb dL_refuses_725 (by decide) ?_
      refine lv_icmp_ne (tgt := 734) hx hb dL_refuses_726 (by decide) (fun c9 => ?_) (fun c9 => absurd c9 (by decide))
      refine lv_iload hx hb dL_refuses_734 (lv_at hl 10 rfl) ?_
      refine hs_calli w (vx_runSW (As := [.ref (a 0), .int (nI 3), .int (nI 2), .int (nI 0), .int (nI 0), .int (nI 0), .int 2147483647]) (rest := []) X (aF_put l hl0 G _ a _ _ hI (nI 2) (nI 0) (nI 0) (nI 0) 2147483647 2 (hf_put2 (hf_ok0 (Nat.pos_of_ne_zero q_684_2) (Nat.pos_of_ne_zero q_688_4) hnA hnJ) (by decide)) (by decide)) (vx_cwSW 7 hts gL_refuses_L_act rfl rfl rfl (by decide +kernel) ⟨Nat.le_of_ble_eq_true rfl, Nat.le_of_ble_eq_true rfl⟩) ⟨b_blind, fun U9 hU9 hW9 => ⟨rfl, hs_pre E Z9 w hm9 U9 hU9 hW9⟩⟩ rfl rfl hl.1 rfl (lv_room (Nat.le_of_ble_eq_true rfl)) dL_refuses_736 ⟨Nat.le_of_ble_eq_true rfl, Nat.le_of_ble_eq_true rfl⟩) hm9 (fun r i H locs hr w => ?_)
      obtain ⟨hI, hr9⟩ := hr
      refine b_tp (hr9.trans (show hs_r 2 = -72 from by decide)) ?_
      refine lv_bipush (v := -72) hx hb dL_refuses_739 (by decide) ?_
      refine lv_icmp_ne (tgt := 806) hx hb dL_refuses_741 (by decide) (fun c9 => absurd rfl c9) (fun c9 => ?_)
      refine lv_aload_n hx hb dL_refuses_744 rfl (lv_at hl 2 rfl) ?_
      refine lv_bipush (v := nI 8) hx hb dL_refuses_745 (by decide) ?_
      refine lv_iconst (v := nI 0) hx hb dL_refuses_747 (by decide) ?_
      refine lv_iconst (v := nI 0) hx hb dL_refuses_748 (by decide) ?_
      refine lv_iconst (v := nI 0) hx hb dL_refuses_749 (by decide) ?_
      refine lv_iload hx hb dL_refuses_750 (lv_at hl 9 rfl) ?_
      refine lv_iconst (v := nI 1) hx hb dL_refuses_752 (by decide) ?_
      refine lv_icmp_ne (tgt := 762) hx hb dL_refuses_753 (by decide) (fun c9 => ?_) (fun c9 => absurd c9 (by decide))
      refine lv_iload hx hb dL_refuses_762 (lv_at hl 10 rfl) ?_
      refine lv_iconst (v := nI 0) hx hb dL_refuses_764 (by decide) ?_
      refine hs_calli w (vx_runSW (As := [.ref (a 0), .int (nI 8), .int (nI 0), .int (nI 0), .int (nI 0), .int 2147483647, .int (nI 0)]) (rest := []) X (aF_figure l hl0 G _ a _ _ hI (nI 0) (nI 0) (nI 0) 2147483647 (nI 0) 2 (hf_figure2 (hf_ok0 (Nat.pos_of_ne_zero q_684_2) (Nat.pos_of_ne_zero q_688_4) hnA hnJ) (hn_dmax htd)) (by decide)) (vx_cwSW 7 hts gL_refuses_L_act rfl rfl rfl (by decide +kernel) ⟨Nat.le_of_ble_eq_true rfl, Nat.le_of_ble_eq_true rfl⟩) ⟨b_blind, fun U9 hU9 hW9 => ⟨rfl, hs_pre E Z9 w hm9 U9 hU9 hW9⟩⟩ rfl rfl hl.1 rfl (lv_room (Nat.le_of_ble_eq_true rfl)) dL_refuses_765 ⟨Nat.le_of_ble_eq_true rfl, Nat.le_of_ble_eq_true rfl⟩) hm9 (fun r i H locs hr w => ?_)
      obtain ⟨hI, hr9⟩ := hr
      refine b_tp (hr9.trans (show hs_r 2 = -72 from by decide)) ?_
      refine lv_bipush (v := -72) hx hb dL_refuses_768 (by decide) ?_
      refine lv_icmp_ne (tgt := 806) hx hb dL_refuses_770 (by decide) (fun c9 => absurd rfl c9) (fun c9 => ?_)
      refine lv_aload_n hx hb dL_refuses_773 rfl (lv_at hl 2 rfl) ?_
      refine lv_bipush (v := nI 9) hx hb dL_refuses_774 (by decide) ?_
      refine lv_iconst (v := nI 0) hx hb dL_refuses_776 (by decide) ?_
      refine lv_iconst (v := nI 0) hx hb dL_refuses_777 (by decide) ?_
      refine lv_iconst (v := nI 0) hx hb dL_refuses_778 (by decide) ?_
      refine lv_iload hx hb dL_refuses_779 (lv_at hl 9 rfl) ?_
      refine lv_iconst (v := nI 1) hx hb dL_refuses_781 (by decide) ?_
      refine lv_icmp_ne (tgt := 791) hx hb dL_refuses_782 (by decide) (fun c9 => ?_) (fun c9 => absurd c9 (by decide))
      refine lv_iload hx hb dL_refuses_791 (lv_at hl 10 rfl) ?_
      refine lv_iconst (v := nI 0) hx hb dL_refuses_793 (by decide) ?_
      refine hs_calli w (vx_runSW (As := [.ref (a 0), .int (nI 9), .int (nI 0), .int (nI 0), .int (nI 0), .int 2147483647, .int (nI 0)]) (rest := []) X (aF_value l hl0 G _ a _ _ hI (nI 0) (nI 0) (nI 0) 2147483647 (nI 0) 2 (hf_value2 (hf_ok0 (Nat.pos_of_ne_zero q_684_2) (Nat.pos_of_ne_zero q_688_4) hnA hnJ) (hn_dmax htd)) (by decide)) (vx_cwSW 7 hts gL_refuses_L_act rfl rfl rfl (by decide +kernel) ⟨Nat.le_of_ble_eq_true rfl, Nat.le_of_ble_eq_true rfl⟩) ⟨b_blind, fun U9 hU9 hW9 => ⟨rfl, hs_pre E Z9 w hm9 U9 hU9 hW9⟩⟩ rfl rfl hl.1 rfl (lv_room (Nat.le_of_ble_eq_true rfl)) dL_refuses_794 ⟨Nat.le_of_ble_eq_true rfl, Nat.le_of_ble_eq_true rfl⟩) hm9 (fun r i H locs hr w => ?_)
      obtain ⟨hI, hr9⟩ := hr
      refine b_tp (hr9.trans (show hs_r 2 = -72 from by decide)) ?_
      refine lv_bipush (v := -72) hx hb dL_refuses_797 (by decide) ?_
      refine lv_icmp_ne (tgt := 806) hx hb dL_refuses_799 (by decide) (fun c9 => absurd rfl c9) (fun c9 => ?_)
      refine lv_iconst (v := nI 1) hx hb dL_refuses_802 (by decide) ?_
      refine lv_goto (tgt := 807) hx hb dL_refuses_803 (by decide) ?_
      refine lv_istore (lv' := [(15, .int (nI 1)), (16, .int (nI 14)), (0, .ref (a 0)), (1, .int (nI (hs_nA x))), (2, .int (nI (hs_nJ x))), (3, .int (nI (hs_td x))), (4, .int 2147483647), (5, .int (hV_hidden x (nI 5))), (6, .int (hV_find x (-1) (-1) (nI 0) (nI 11) (nI 0) (nI 0))), (7, .int (nI 2)), (8, .int 2147483647), (9, .int 2147483647), (10, .int 2147483647), (11, .int 2147483647), (12, .int 2147483647), (13, .int 2147483647), (14, .int (-1))]) hx hb dL_refuses_807 hl (by decide) rfl (fun ls hl => ?_)
      refine lv_iload hx hb dL_refuses_809 (lv_at hl 0 rfl) ?_
      refine lv_if_ne (tgt := 816) hx hb dL_refuses_811 (by decide) (fun c9 => ?_) (fun c9 => absurd c9 (by decide))
      refine lv_iinc (v := nI 3) (lv' := [(7, .int (nI 3)), (15, .int (nI 1)), (16, .int (nI 14)), (0, .ref (a 0)), (1, .int (nI (hs_nA x))), (2, .int (nI (hs_nJ x))), (3, .int (nI (hs_td x))), (4, .int 2147483647), (5, .int (hV_hidden x (nI 5))), (6, .int (hV_find x (-1) (-1) (nI 0) (nI 11) (nI 0) (nI 0))), (8, .int 2147483647), (9, .int 2147483647), (10, .int 2147483647), (11, .int 2147483647), (12, .int 2147483647), (13, .int 2147483647), (14, .int (-1))]) hx hb dL_refuses_816 hl (k := 9) rfl (by decide) (by decide) rfl (fun ls hl => ?_)
      refine lv_goto (tgt := 27) hx hb dL_refuses_819 (by decide) ?_
      exact kk i _ _ _ hI w (lv_sub hl [3, 4, 5, 6, 7, 8, 9, 0] rfl)
set_option maxHeartbeats 4000000 in
set_option maxRecDepth 100000 in
theorem sg_refuses_7 {p : Program} {l : Launch} (hl0 : l.stackTraces = false) {e : Env} {s : State} {m : MethodId} {below : List Frame} {meth : Method} {c : Code} {G : bG} {args : Array Value} {Q : State → Prop} (X : CallFix p m c cL_refuses 17 s args wsL_refuses RL) (E : bE G vwCl bNW bSW s) {a : Nat → Nat} (Z9 : bZ (hs_M a) s) (hm9 : ∀ q ∈ hs_M a, Aw (hs_M a) s.heap.size q) {x : hs_E} {i : hs_I} {H : Heap} {locs : List Loc} {ls : Array Slot} (hI : hs_Inv x i) (w : bSt G vwCl (hs_M a) s (hs_W G a x i) H locs) (hl : lv_has ls 17 [(0, .ref (a 0)), (1, .int (nI (hs_nA x))), (2, .int (nI (hs_nJ x))), (3, .int (nI (hs_td x))), (4, .int 2147483647), (5, .int (hV_hidden x (nI 5))), (6, .int (hV_find x (-1) (-1) (nI 0) (nI 11) (nI 0) (nI 0))), (7, .int (nI 3))])
    (kk : ∀ (i : hs_I) (H : Heap) (locs : List Loc) (ls : Array Slot), hs_Inv x i → bSt G vwCl (hs_M a) s (hs_W G a x i) H locs → lv_has ls 17 [(0, .ref (a 0)), (1, .int (nI (hs_nA x))), (2, .int (nI (hs_nJ x))), (3, .int (nI (hs_td x))), (4, .int 2147483647), (5, .int (hV_hidden x (nI 5))), (6, .int (hV_find x (-1) (-1) (nI 0) (nI 11) (nI 0) (nI 0))), (7, .int (nI 3)), (8, .int (-2147483648)), (9, .int (-2147483648)), (10, .int (-2147483648)), (11, .int (-2147483648)), (12, .int (-2147483648)), (13, .int (-2147483648)), (14, .int (-2147483648)), (15, .int (nI 1)), (16, .int (nI 9))] → W p l e ({ frames := 9, cells := 324, slots := 1944, locals := 201 }) s m args below meth c H locs 279 1674 Q (F0 m 506 ls [])) : W p l e ({ frames := 9, cells := 324, slots := 1944, locals := 201 }) s m args below meth c H locs 241 1446 Q (F0 m 27 ls []) := by
  have hx := X.1
  have hb := X.2.1
  have hml := X.2.2.1
  have hown := X.2.2.2.1
  have hts := X.2.2.2.2
  obtain ⟨⟨hnA, hnJ, hTA, hTJ, htd, hst, hbs, hjd, hdn⟩, hbk, hdr, hK⟩ := id hI
  refine lv_iload hx hb dL_refuses_27 (lv_at hl 7 rfl) ?_
  refine lv_iconst (v := nI 4) hx hb dL_refuses_29 (by decide) ?_
  refine lv_icmp_ge (tgt := 822) hx hb dL_refuses_30 (by decide) (fun c9 => absurd c9 (by decide)) (fun c9 => ?_)
  refine lv_iload hx hb dL_refuses_33 (lv_at hl 7 rfl) ?_
  refine lv_if_ne (tgt := 42) hx hb dL_refuses_35 (by decide) (fun c9 => ?_) (fun c9 => absurd c9 (by decide))
  refine lv_iload hx hb dL_refuses_42 (lv_at hl 7 rfl) ?_
  refine lv_iconst (v := nI 2) hx hb dL_refuses_44 (by decide) ?_
  refine lv_icmp_ne (tgt := 53) hx hb dL_refuses_45 (by decide) (fun c9 => ?_) (fun c9 => absurd c9 (by decide))
  refine lv_iload hx hb dL_refuses_53 (lv_at hl 4 rfl) ?_
  refine lv_ineg hx hb dL_refuses_55 ?_
  refine b_tp (show -2147483647 = -2147483647 from by decide) ?_
  refine lv_iconst (v := nI 1) hx hb dL_refuses_56 (by decide) ?_
  refine lv_isub hx hb dL_refuses_57 ?_
  refine b_tp (show (-2147483647) - (nI 1) = -2147483648 from by decide) ?_
  refine lv_istore (lv' := [(8, .int (-2147483648)), (0, .ref (a 0)), (1, .int (nI (hs_nA x))), (2, .int (nI (hs_nJ x))), (3, .int (nI (hs_td x))), (4, .int 2147483647), (5, .int (hV_hidden x (nI 5))), (6, .int (hV_find x (-1) (-1) (nI 0) (nI 11) (nI 0) (nI 0))), (7, .int (nI 3))]) hx hb dL_refuses_58 hl (by decide) rfl (fun ls hl => ?_)
  refine lv_iload hx hb dL_refuses_60 (lv_at hl 8 rfl) ?_
  refine lv_iconst (v := nI 1) hx hb dL_refuses_62 (by decide) ?_
  refine lv_icmp_ne (tgt := 70) hx hb dL_refuses_63 (by decide) (fun c9 => ?_) (fun c9 => absurd c9 (by decide))
  refine lv_iload hx hb dL_refuses_70 (lv_at hl 0 rfl) ?_
  refine lv_istore (lv' := [(9, .int (-2147483648)), (8, .int (-2147483648)), (0, .ref (a 0)), (1, .int (nI (hs_nA x))), (2, .int (nI (hs_nJ x))), (3, .int (nI (hs_td x))), (4, .int 2147483647), (5, .int (hV_hidden x (nI 5))), (6, .int (hV_find x (-1) (-1) (nI 0) (nI 11) (nI 0) (nI 0))), (7, .int (nI 3))]) hx hb dL_refuses_72 hl (by decide) rfl (fun ls hl => ?_)
  refine lv_iload hx hb dL_refuses_74 (lv_at hl 9 rfl) ?_
  refine lv_iconst (v := nI 1) hx hb dL_refuses_76 (by decide) ?_
  refine lv_icmp_ne (tgt := 84) hx hb dL_refuses_77 (by decide) (fun c9 => ?_) (fun c9 => absurd c9 (by decide))
  refine lv_iload hx hb dL_refuses_84 (lv_at hl 1 rfl) ?_
  refine lv_istore (lv' := [(10, .int (-2147483648)), (9, .int (-2147483648)), (8, .int (-2147483648)), (0, .ref (a 0)), (1, .int (nI (hs_nA x))), (2, .int (nI (hs_nJ x))), (3, .int (nI (hs_td x))), (4, .int 2147483647), (5, .int (hV_hidden x (nI 5))), (6, .int (hV_find x (-1) (-1) (nI 0) (nI 11) (nI 0) (nI 0))), (7, .int (nI 3))]) hx hb dL_refuses_86 hl (by decide) rfl (fun ls hl => ?_)
  refine lv_iload hx hb dL_refuses_88 (lv_at hl 10 rfl) ?_
  refine lv_iconst (v := nI 1) hx hb dL_refuses_90 (by decide) ?_
  refine lv_icmp_ne (tgt := 99) hx hb dL_refuses_91 (by decide) (fun c9 => ?_) (fun c9 => absurd c9 (by decide))
  refine lv_iload hx hb dL_refuses_99 (lv_at hl 2 rfl) ?_
  refine lv_istore (lv' := [(11, .int (-2147483648)), (10, .int (-2147483648)), (9, .int (-2147483648)), (8, .int (-2147483648)), (0, .ref (a 0)), (1, .int (nI (hs_nA x))), (2, .int (nI (hs_nJ x))), (3, .int (nI (hs_td x))), (4, .int 2147483647), (5, .int (hV_hidden x (nI 5))), (6, .int (hV_find x (-1) (-1) (nI 0) (nI 11) (nI 0) (nI 0))), (7, .int (nI 3))]) hx hb dL_refuses_101 hl (by decide) rfl (fun ls hl => ?_)
  refine lv_iload hx hb dL_refuses_103 (lv_at hl 11 rfl) ?_
  refine lv_iconst (v := nI 1) hx hb dL_refuses_105 (by decide) ?_
  refine lv_icmp_ne (tgt := 113) hx hb dL_refuses_106 (by decide) (fun c9 => ?_) (fun c9 => absurd c9 (by decide))
  refine lv_iload hx hb dL_refuses_113 (lv_at hl 3 rfl) ?_
  refine lv_istore (lv' := [(12, .int (-2147483648)), (11, .int (-2147483648)), (10, .int (-2147483648)), (9, .int (-2147483648)), (8, .int (-2147483648)), (0, .ref (a 0)), (1, .int (nI (hs_nA x))), (2, .int (nI (hs_nJ x))), (3, .int (nI (hs_td x))), (4, .int 2147483647), (5, .int (hV_hidden x (nI 5))), (6, .int (hV_find x (-1) (-1) (nI 0) (nI 11) (nI 0) (nI 0))), (7, .int (nI 3))]) hx hb dL_refuses_115 hl (by decide) rfl (fun ls hl => ?_)
  refine lv_iload hx hb dL_refuses_117 (lv_at hl 12 rfl) ?_
  refine lv_iconst (v := nI 1) hx hb dL_refuses_119 (by decide) ?_
  refine lv_icmp_ne (tgt := 127) hx hb dL_refuses_120 (by decide) (fun c9 => ?_) (fun c9 => absurd c9 (by decide))
  refine lv_iload hx hb dL_refuses_127 (lv_at hl 4 rfl) ?_
  refine lv_istore (lv' := [(13, .int (-2147483648)), (12, .int (-2147483648)), (11, .int (-2147483648)), (10, .int (-2147483648)), (9, .int (-2147483648)), (8, .int (-2147483648)), (0, .ref (a 0)), (1, .int (nI (hs_nA x))), (2, .int (nI (hs_nJ x))), (3, .int (nI (hs_td x))), (4, .int 2147483647), (5, .int (hV_hidden x (nI 5))), (6, .int (hV_find x (-1) (-1) (nI 0) (nI 11) (nI 0) (nI 0))), (7, .int (nI 3))]) hx hb dL_refuses_129 hl (by decide) rfl (fun ls hl => ?_)
  refine lv_iload hx hb dL_refuses_131 (lv_at hl 13 rfl) ?_
  refine lv_iconst (v := nI 2) hx hb dL_refuses_133 (by decide) ?_
  refine lv_icmp_ne (tgt := 141) hx hb dL_refuses_134 (by decide) (fun c9 => ?_) (fun c9 => absurd c9 (by decide))
  refine lv_iload hx hb dL_refuses_141 (lv_at hl 13 rfl) ?_
  refine lv_iconst (v := nI 1) hx hb dL_refuses_143 (by decide) ?_
  refine lv_icmp_ne (tgt := 152) hx hb dL_refuses_144 (by decide) (fun c9 => ?_) (fun c9 => absurd c9 (by decide))
  refine lv_iload hx hb dL_refuses_152 (lv_at hl 10 rfl) ?_
  refine lv_ineg hx hb dL_refuses_154 ?_
  refine b_tp (show -2147483647 = -2147483647 from by decide) ?_
  refine lv_iconst (v := nI 1) hx hb dL_refuses_155 (by decide) ?_
  refine lv_isub hx hb dL_refuses_156 ?_
  refine b_tp (show (-2147483647) - (nI 1) = -2147483648 from by decide) ?_
  refine lv_istore (lv' := [(14, .int (-2147483648)), (13, .int (-2147483648)), (12, .int (-2147483648)), (11, .int (-2147483648)), (10, .int (-2147483648)), (9, .int (-2147483648)), (8, .int (-2147483648)), (0, .ref (a 0)), (1, .int (nI (hs_nA x))), (2, .int (nI (hs_nJ x))), (3, .int (nI (hs_td x))), (4, .int 2147483647), (5, .int (hV_hidden x (nI 5))), (6, .int (hV_find x (-1) (-1) (nI 0) (nI 11) (nI 0) (nI 0))), (7, .int (nI 3))]) hx hb dL_refuses_157 hl (by decide) rfl (fun ls hl => ?_)
  refine lv_aload_n hx hb dL_refuses_159 rfl (lv_at hl 7 rfl) ?_
  refine lv_iconst (v := nI 0) hx hb dL_refuses_160 (by decide) ?_
  refine lv_iload hx hb dL_refuses_161 (lv_at hl 14 rfl) ?_
  refine lv_if_ne (tgt := 171) hx hb dL_refuses_163 (by decide) (fun c9 => ?_) (fun c9 => absurd c9 (by decide))
  refine lv_iload hx hb dL_refuses_171 (lv_at hl 5 rfl) ?_
  refine lv_iconst (v := nI 0) hx hb dL_refuses_173 (by decide) ?_
  refine lv_iconst (v := nI 0) hx hb dL_refuses_174 (by decide) ?_
  refine lv_iconst (v := nI 0) hx hb dL_refuses_175 (by decide) ?_
  refine lv_iconst (v := nI 0) hx hb dL_refuses_176 (by decide) ?_
  refine hs_calli w (vx_runSW (As := [.ref (a 0), .int (nI 0), .int (-2147483648), .int (nI 0), .int (nI 0), .int (nI 0), .int (nI 0)]) (rest := []) X (aF_area l hl0 G _ a _ _ hI (-2147483648) (nI 0) (nI 0) (nI 0) (nI 0) 1 (hf_area (hn_pat (tHas_lo (by decide)) (by decide))) (by decide)) (vx_cwSW 7 hts gL_refuses_L_act rfl rfl rfl (by decide +kernel) ⟨Nat.le_of_ble_eq_true rfl, Nat.le_of_ble_eq_true rfl⟩) ⟨b_blind, fun U9 hU9 hW9 => ⟨rfl, hs_pre E Z9 w hm9 U9 hU9 hW9⟩⟩ rfl rfl hl.1 rfl (lv_room (Nat.le_of_ble_eq_true rfl)) dL_refuses_177 ⟨Nat.le_of_ble_eq_true rfl, Nat.le_of_ble_eq_true rfl⟩) hm9 (fun r i H locs hr w => ?_)
  obtain ⟨hI, hr9⟩ := hr
  refine b_tp (hr9.trans (show hs_r 1 = -71 from by decide)) ?_
  refine lv_bipush (v := -71) hx hb dL_refuses_180 (by decide) ?_
  refine lv_icmp_ne (tgt := 429) hx hb dL_refuses_182 (by decide) (fun c9 => absurd rfl c9) (fun c9 => ?_)
  refine lv_aload_n hx hb dL_refuses_185 rfl (lv_at hl 7 rfl) ?_
  refine lv_iconst (v := nI 1) hx hb dL_refuses_186 (by decide) ?_
  refine lv_iload hx hb dL_refuses_187 (lv_at hl 14 rfl) ?_
  refine lv_if_ne (tgt := 197) hx hb dL_refuses_189 (by decide) (fun c9 => ?_) (fun c9 => absurd c9 (by decide))
  refine lv_iload hx hb dL_refuses_197 (lv_at hl 4 rfl) ?_
  refine lv_iconst (v := nI 0) hx hb dL_refuses_199 (by decide) ?_
  refine lv_iconst (v := nI 0) hx hb dL_refuses_200 (by decide) ?_
  refine lv_iconst (v := nI 0) hx hb dL_refuses_201 (by decide) ?_
  refine lv_iconst (v := nI 0) hx hb dL_refuses_202 (by decide) ?_
  refine hs_calli w (vx_runSW (As := [.ref (a 0), .int (nI 1), .int (-2147483648), .int (nI 0), .int (nI 0), .int (nI 0), .int (nI 0)]) (rest := []) X (aF_item l hl0 G _ a _ _ hI (-2147483648) (nI 0) (nI 0) (nI 0) (nI 0) 1 (hf_item (hn_pat (tHas_lo (by decide)) (by decide))) (by decide)) (vx_cwSW 7 hts gL_refuses_L_act rfl rfl rfl (by decide +kernel) ⟨Nat.le_of_ble_eq_true rfl, Nat.le_of_ble_eq_true rfl⟩) ⟨b_blind, fun U9 hU9 hW9 => ⟨rfl, hs_pre E Z9 w hm9 U9 hU9 hW9⟩⟩ rfl rfl hl.1 rfl (lv_room (Nat.le_of_ble_eq_true rfl)) dL_refuses_203 ⟨Nat.le_of_ble_eq_true rfl, Nat.le_of_ble_eq_true rfl⟩) hm9 (fun r i H locs hr w => ?_)
  obtain ⟨hI, hr9⟩ := hr
  refine b_tp (hr9.trans (show hs_r 1 = -71 from by decide)) ?_
  refine lv_bipush (v := -71) hx hb dL_refuses_206 (by decide) ?_
  refine lv_icmp_ne (tgt := 429) hx hb dL_refuses_208 (by decide) (fun c9 => absurd rfl c9) (fun c9 => ?_)
  refine lv_aload_n hx hb dL_refuses_211 rfl (lv_at hl 7 rfl) ?_
  refine lv_iconst (v := nI 2) hx hb dL_refuses_212 (by decide) ?_
  refine lv_iload hx hb dL_refuses_213 (lv_at hl 2 rfl) ?_
  refine lv_iconst (v := nI 0) hx hb dL_refuses_215 (by decide) ?_
  refine lv_iconst (v := nI 0) hx hb dL_refuses_216 (by decide) ?_
  refine lv_iconst (v := nI 0) hx hb dL_refuses_217 (by decide) ?_
  refine lv_iconst (v := nI 0) hx hb dL_refuses_218 (by decide) ?_
  refine hs_calli w (vx_runSW (As := [.ref (a 0), .int (nI 2), .int (-2147483648), .int (nI 0), .int (nI 0), .int (nI 0), .int (nI 0)]) (rest := []) X (aF_agree l hl0 G _ a _ _ hI (-2147483648) (nI 0) (nI 0) (nI 0) 1 (hf_agree1 (by decide)) (by decide)) (vx_cwSW 7 hts gL_refuses_L_act rfl rfl rfl (by decide +kernel) ⟨Nat.le_of_ble_eq_true rfl, Nat.le_of_ble_eq_true rfl⟩) ⟨b_blind, fun U9 hU9 hW9 => ⟨rfl, hs_pre E Z9 w hm9 U9 hU9 hW9⟩⟩ rfl rfl hl.1 rfl (lv_room (Nat.le_of_ble_eq_true rfl)) dL_refuses_219 ⟨Nat.le_of_ble_eq_true rfl, Nat.le_of_ble_eq_true rfl⟩) hm9 (fun r i H locs hr w => ?_)
  obtain ⟨hI, hr9⟩ := hr
  refine b_tp (hr9.trans (show hs_r 1 = -71 from by decide)) ?_
  refine lv_bipush (v := -71) hx hb dL_refuses_222 (by decide) ?_
  refine lv_icmp_ne (tgt := 429) hx hb dL_refuses_224 (by decide) (fun c9 => absurd rfl c9) (fun c9 => ?_)
  refine lv_aload_n hx hb dL_refuses_227 rfl (lv_at hl 7 rfl) ?_
  refine lv_iconst (v := nI 2) hx hb dL_refuses_228 (by decide) ?_
  refine lv_iconst (v := nI 0) hx hb dL_refuses_229 (by decide) ?_
  refine lv_iload hx hb dL_refuses_230 (lv_at hl 5 rfl) ?_
  refine lv_iconst (v := nI 0) hx hb dL_refuses_232 (by decide) ?_
  refine lv_iconst (v := nI 0) hx hb dL_refuses_233 (by decide) ?_
  refine lv_iconst (v := nI 0) hx hb dL_refuses_234 (by decide) ?_
  refine hs_calli w (vx_runSW (As := [.ref (a 0), .int (nI 2), .int (nI 0), .int (-2147483648), .int (nI 0), .int (nI 0), .int (nI 0)]) (rest := []) X (aF_agree l hl0 G _ a _ _ hI (nI 0) (-2147483648) (nI 0) (nI 0) 1 (hf_agree2 (tHas_lo (by decide))) (by decide)) (vx_cwSW 7 hts gL_refuses_L_act rfl rfl rfl (by decide +kernel) ⟨Nat.le_of_ble_eq_true rfl, Nat.le_of_ble_eq_true rfl⟩) ⟨b_blind, fun U9 hU9 hW9 => ⟨rfl, hs_pre E Z9 w hm9 U9 hU9 hW9⟩⟩ rfl rfl hl.1 rfl (lv_room (Nat.le_of_ble_eq_true rfl)) dL_refuses_235 ⟨Nat.le_of_ble_eq_true rfl, Nat.le_of_ble_eq_true rfl⟩) hm9 (fun r i H locs hr w => ?_)
  obtain ⟨hI, hr9⟩ := hr
  refine b_tp (hr9.trans (show hs_r 1 = -71 from by decide)) ?_
  refine lv_bipush (v := -71) hx hb dL_refuses_238 (by decide) ?_
  refine lv_icmp_ne (tgt := 429) hx hb dL_refuses_240 (by decide) (fun c9 => absurd rfl c9) (fun c9 => ?_)
  refine lv_aload_n hx hb dL_refuses_243 rfl (lv_at hl 7 rfl) ?_
  refine lv_iconst (v := nI 3) hx hb dL_refuses_244 (by decide) ?_
  refine lv_bipush (v := nI 9) hx hb dL_refuses_245 (by decide) ?_
  refine lv_iload hx hb dL_refuses_247 (lv_at hl 5 rfl) ?_
  refine lv_iconst (v := nI 0) hx hb dL_refuses_249 (by decide) ?_
  refine lv_iconst (v := nI 0) hx hb dL_refuses_250 (by decide) ?_
  refine lv_iconst (v := nI 0) hx hb dL_refuses_251 (by decide) ?_
  refine hs_calli w (vx_runSW (As := [.ref (a 0), .int (nI 3), .int (nI 9), .int (-2147483648), .int (nI 0), .int (nI 0), .int (nI 0)]) (rest := []) X (aF_put l hl0 G _ a _ _ hI (nI 9) (-2147483648) (nI 0) (nI 0) (nI 0) 1 (hf_put1 (hf_okA (tHas_lo (by decide)))) (by decide)) (vx_cwSW 7 hts gL_refuses_L_act rfl rfl rfl (by decide +kernel) ⟨Nat.le_of_ble_eq_true rfl, Nat.le_of_ble_eq_true rfl⟩) ⟨b_blind, fun U9 hU9 hW9 => ⟨rfl, hs_pre E Z9 w hm9 U9 hU9 hW9⟩⟩ rfl rfl hl.1 rfl (lv_room (Nat.le_of_ble_eq_true rfl)) dL_refuses_252 ⟨Nat.le_of_ble_eq_true rfl, Nat.le_of_ble_eq_true rfl⟩) hm9 (fun r i H locs hr w => ?_)
  obtain ⟨hI, hr9⟩ := hr
  refine b_tp (hr9.trans (show hs_r 1 = -71 from by decide)) ?_
  refine lv_bipush (v := -71) hx hb dL_refuses_255 (by decide) ?_
  refine lv_icmp_ne (tgt := 429) hx hb dL_refuses_257 (by decide) (fun c9 => absurd rfl c9) (fun c9 => ?_)
  refine lv_aload_n hx hb dL_refuses_260 rfl (lv_at hl 7 rfl) ?_
  refine lv_iconst (v := nI 3) hx hb dL_refuses_261 (by decide) ?_
  refine lv_bipush (v := nI 9) hx hb dL_refuses_262 (by decide) ?_
  refine lv_iconst (v := nI 0) hx hb dL_refuses_264 (by decide) ?_
  refine lv_iload hx hb dL_refuses_265 (lv_at hl 4 rfl) ?_
  refine lv_iconst (v := nI 0) hx hb dL_refuses_267 (by decide) ?_
  refine lv_iconst (v := nI 0) hx hb dL_refuses_268 (by decide) ?_
  refine hs_calli w (vx_runSW (As := [.ref (a 0), .int (nI 3), .int (nI 9), .int (nI 0), .int (-2147483648), .int (nI 0), .int (nI 0)]) (rest := []) X (aF_put l hl0 G _ a _ _ hI (nI 9) (nI 0) (-2147483648) (nI 0) (nI 0) 1 (hf_put1 (hf_okJ (tHas_lo (by decide)))) (by decide)) (vx_cwSW 7 hts gL_refuses_L_act rfl rfl rfl (by decide +kernel) ⟨Nat.le_of_ble_eq_true rfl, Nat.le_of_ble_eq_true rfl⟩) ⟨b_blind, fun U9 hU9 hW9 => ⟨rfl, hs_pre E Z9 w hm9 U9 hU9 hW9⟩⟩ rfl rfl hl.1 rfl (lv_room (Nat.le_of_ble_eq_true rfl)) dL_refuses_269 ⟨Nat.le_of_ble_eq_true rfl, Nat.le_of_ble_eq_true rfl⟩) hm9 (fun r i H locs hr w => ?_)
  obtain ⟨hI, hr9⟩ := hr
  refine b_tp (hr9.trans (show hs_r 1 = -71 from by decide)) ?_
  refine lv_bipush (v := -71) hx hb dL_refuses_272 (by decide) ?_
  refine lv_icmp_ne (tgt := 429) hx hb dL_refuses_274 (by decide) (fun c9 => absurd rfl c9) (fun c9 => ?_)
  refine lv_aload_n hx hb dL_refuses_277 rfl (lv_at hl 7 rfl) ?_
  refine lv_iconst (v := nI 3) hx hb dL_refuses_278 (by decide) ?_
  refine lv_bipush (v := nI 9) hx hb dL_refuses_279 (by decide) ?_
  refine lv_iconst (v := nI 0) hx hb dL_refuses_281 (by decide) ?_
  refine lv_iconst (v := nI 0) hx hb dL_refuses_282 (by decide) ?_
  refine lv_iload hx hb dL_refuses_283 (lv_at hl 3 rfl) ?_
  refine lv_iconst (v := nI 0) hx hb dL_refuses_285 (by decide) ?_
  refine hs_calli w (vx_runSW (As := [.ref (a 0), .int (nI 3), .int (nI 9), .int (nI 0), .int (nI 0), .int (-2147483648), .int (nI 0)]) (rest := []) X (aF_put l hl0 G _ a _ _ hI (nI 9) (nI 0) (nI 0) (-2147483648) (nI 0) 1 (hf_put1 (hf_okP (by decide))) (by decide)) (vx_cwSW 7 hts gL_refuses_L_act rfl rfl rfl (by decide +kernel) ⟨Nat.le_of_ble_eq_true rfl, Nat.le_of_ble_eq_true rfl⟩) ⟨b_blind, fun U9 hU9 hW9 => ⟨rfl, hs_pre E Z9 w hm9 U9 hU9 hW9⟩⟩ rfl rfl hl.1 rfl (lv_room (Nat.le_of_ble_eq_true rfl)) dL_refuses_286 ⟨Nat.le_of_ble_eq_true rfl, Nat.le_of_ble_eq_true rfl⟩) hm9 (fun r i H locs hr w => ?_)
  obtain ⟨hI, hr9⟩ := hr
  refine b_tp (hr9.trans (show hs_r 1 = -71 from by decide)) ?_
  refine lv_bipush (v := -71) hx hb dL_refuses_289 (by decide) ?_
  refine lv_icmp_ne (tgt := 429) hx hb dL_refuses_291 (by decide) (fun c9 => absurd rfl c9) (fun c9 => ?_)
  refine lv_aload_n hx hb dL_refuses_294 rfl (lv_at hl 7 rfl) ?_
  refine lv_iconst (v := nI 4) hx hb dL_refuses_295 (by decide) ?_
  refine lv_iload hx hb dL_refuses_296 (lv_at hl 2 rfl) ?_
  refine lv_iconst (v := nI 0) hx hb dL_refuses_298 (by decide) ?_
  refine lv_iconst (v := nI 0) hx hb dL_refuses_299 (by decide) ?_
  refine lv_iconst (v := nI 0) hx hb dL_refuses_300 (by decide) ?_
  refine lv_iconst (v := nI 0) hx hb dL_refuses_301 (by decide) ?_
  refine hs_calli w (vx_runSW (As := [.ref (a 0), .int (nI 4), .int (-2147483648), .int (nI 0), .int (nI 0), .int (nI 0), .int (nI 0)]) (rest := []) X (aF_send l hl0 G _ a _ _ hI (-2147483648) (nI 0) (nI 0) (nI 0) (nI 0) 1 (hf_send1 (by decide)) (by decide)) (vx_cwSW 7 hts gL_refuses_L_act rfl rfl rfl (by decide +kernel) ⟨Nat.le_of_ble_eq_true rfl, Nat.le_of_ble_eq_true rfl⟩) ⟨b_blind, fun U9 hU9 hW9 => ⟨rfl, hs_pre E Z9 w hm9 U9 hU9 hW9⟩⟩ rfl rfl hl.1 rfl (lv_room (Nat.le_of_ble_eq_true rfl)) dL_refuses_302 ⟨Nat.le_of_ble_eq_true rfl, Nat.le_of_ble_eq_true rfl⟩) hm9 (fun r i H locs hr w => ?_)
  obtain ⟨hI, hr9⟩ := hr
  refine b_tp (hr9.trans (show hs_r 1 = -71 from by decide)) ?_
  refine lv_bipush (v := -71) hx hb dL_refuses_305 (by decide) ?_
  refine lv_icmp_ne (tgt := 429) hx hb dL_refuses_307 (by decide) (fun c9 => absurd rfl c9) (fun c9 => ?_)
  refine lv_aload_n hx hb dL_refuses_310 rfl (lv_at hl 7 rfl) ?_
  refine lv_iconst (v := nI 5) hx hb dL_refuses_311 (by decide) ?_
  refine lv_iload hx hb dL_refuses_312 (lv_at hl 14 rfl) ?_
  refine lv_iconst (v := nI 1) hx hb dL_refuses_314 (by decide) ?_
  refine lv_icmp_ne (tgt := 323) hx hb dL_refuses_315 (by decide) (fun c9 => ?_) (fun c9 => absurd c9 (by decide))
  refine lv_iload hx hb dL_refuses_323 (lv_at hl 6 rfl) ?_
  refine lv_iconst (v := nI 0) hx hb dL_refuses_325 (by decide) ?_
  refine lv_iconst (v := nI 0) hx hb dL_refuses_326 (by decide) ?_
  refine lv_iconst (v := nI 0) hx hb dL_refuses_327 (by decide) ?_
  refine lv_iconst (v := nI 0) hx hb dL_refuses_328 (by decide) ?_
  refine hs_calli w (vx_runSW (As := [.ref (a 0), .int (nI 5), .int (-2147483648), .int (nI 0), .int (nI 0), .int (nI 0), .int (nI 0)]) (rest := []) X (aF_refusal l hl0 G _ a _ _ hI (-2147483648) (nI 0) (nI 0) (nI 0) (nI 0) 1 (hf_refusal (tHas_lo (by decide))) (by decide)) (vx_cwSW 7 hts gL_refuses_L_act rfl rfl rfl (by decide +kernel) ⟨Nat.le_of_ble_eq_true rfl, Nat.le_of_ble_eq_true rfl⟩) ⟨b_blind, fun U9 hU9 hW9 => ⟨rfl, hs_pre E Z9 w hm9 U9 hU9 hW9⟩⟩ rfl rfl hl.1 rfl (lv_room (Nat.le_of_ble_eq_true rfl)) dL_refuses_329 ⟨Nat.le_of_ble_eq_true rfl, Nat.le_of_ble_eq_true rfl⟩) hm9 (fun r i H locs hr w => ?_)
  obtain ⟨hI, hr9⟩ := hr
  refine b_tp (hr9.trans (show hs_r 1 = -71 from by decide)) ?_
  refine lv_bipush (v := -71) hx hb dL_refuses_332 (by decide) ?_
  refine lv_icmp_ne (tgt := 429) hx hb dL_refuses_334 (by decide) (fun c9 => absurd rfl c9) (fun c9 => ?_)
  refine lv_aload_n hx hb dL_refuses_337 rfl (lv_at hl 7 rfl) ?_
  refine lv_bipush (v := nI 7) hx hb dL_refuses_338 (by decide) ?_
  refine lv_iload hx hb dL_refuses_340 (lv_at hl 14 rfl) ?_
  refine lv_if_ne (tgt := 349) hx hb dL_refuses_342 (by decide) (fun c9 => ?_) (fun c9 => absurd c9 (by decide))
  refine lv_iload hx hb dL_refuses_349 (lv_at hl 14 rfl) ?_
  refine lv_iconst (v := nI 1) hx hb dL_refuses_351 (by decide) ?_
  refine lv_icmp_ne (tgt := 360) hx hb dL_refuses_352 (by decide) (fun c9 => ?_) (fun c9 => absurd c9 (by decide))
  refine lv_iload hx hb dL_refuses_360 (lv_at hl 6 rfl) ?_
  refine lv_iconst (v := nI 0) hx hb dL_refuses_362 (by decide) ?_
  refine lv_iconst (v := nI 0) hx hb dL_refuses_363 (by decide) ?_
  refine lv_iconst (v := nI 0) hx hb dL_refuses_364 (by decide) ?_
  refine lv_iconst (v := nI 0) hx hb dL_refuses_365 (by decide) ?_
  refine hs_calli w (vx_runSW (As := [.ref (a 0), .int (nI 7), .int (-2147483648), .int (nI 0), .int (nI 0), .int (nI 0), .int (nI 0)]) (rest := []) X (aF_pass l hl0 G _ a _ _ hI (-2147483648) (nI 0) (nI 0) (nI 0) (nI 0) 2 (hf_pass (by decide)) (by decide)) (vx_cwSW 7 hts gL_refuses_L_act rfl rfl rfl (by decide +kernel) ⟨Nat.le_of_ble_eq_true rfl, Nat.le_of_ble_eq_true rfl⟩) ⟨b_blind, fun U9 hU9 hW9 => ⟨rfl, hs_pre E Z9 w hm9 U9 hU9 hW9⟩⟩ rfl rfl hl.1 rfl (lv_room (Nat.le_of_ble_eq_true rfl)) dL_refuses_366 ⟨Nat.le_of_ble_eq_true rfl, Nat.le_of_ble_eq_true rfl⟩) hm9 (fun r i H locs hr w => ?_)
  obtain ⟨hI, hr9⟩ := hr
  refine b_tp (hr9.trans (show hs_r 2 = -72 from by decide)) ?_
  refine lv_bipush (v := -72) hx hb dL_refuses_369 (by decide) ?_
  refine lv_icmp_ne (tgt := 429) hx hb dL_refuses_371 (by decide) (fun c9 => absurd rfl c9) (fun c9 => ?_)
  refine lv_aload_n hx hb dL_refuses_374 rfl (lv_at hl 7 rfl) ?_
  refine lv_bipush (v := nI 14) hx hb dL_refuses_375 (by decide) ?_
  refine lv_iload hx hb dL_refuses_377 (lv_at hl 3 rfl) ?_
  refine lv_iconst (v := nI 0) hx hb dL_refuses_379 (by decide) ?_
  refine lv_iconst (v := nI 0) hx hb dL_refuses_380 (by decide) ?_
  refine lv_iconst (v := nI 0) hx hb dL_refuses_381 (by decide) ?_
  refine lv_iconst (v := nI 0) hx hb dL_refuses_382 (by decide) ?_
  refine hs_calli w (vx_runSW (As := [.ref (a 0), .int (nI 14), .int (-2147483648), .int (nI 0), .int (nI 0), .int (nI 0), .int (nI 0)]) (rest := []) X (aF_hidden l hl0 G _ a _ _ hI (-2147483648) (nI 0) (nI 0) (nI 0) (nI 0) 1 (hf_hidden (by decide)) (by decide)) (vx_cwSW 7 hts gL_refuses_L_act rfl rfl rfl (by decide +kernel) ⟨Nat.le_of_ble_eq_true rfl, Nat.le_of_ble_eq_true rfl⟩) ⟨b_blind, fun U9 hU9 hW9 => ⟨rfl, hs_pre E Z9 w hm9 U9 hU9 hW9⟩⟩ rfl rfl hl.1 rfl (lv_room (Nat.le_of_ble_eq_true rfl)) dL_refuses_383 ⟨Nat.le_of_ble_eq_true rfl, Nat.le_of_ble_eq_true rfl⟩) hm9 (fun r i H locs hr w => ?_)
  obtain ⟨hI, hr9⟩ := hr
  refine b_tp (hr9.trans (show hs_r 1 = -71 from by decide)) ?_
  refine lv_bipush (v := -71) hx hb dL_refuses_386 (by decide) ?_
  refine lv_icmp_ne (tgt := 429) hx hb dL_refuses_388 (by decide) (fun c9 => absurd rfl c9) (fun c9 => ?_)
  refine lv_aload_n hx hb dL_refuses_391 rfl (lv_at hl 7 rfl) ?_
  refine lv_bipush (v := nI 15) hx hb dL_refuses_392 (by decide) ?_
  refine lv_iload hx hb dL_refuses_394 (lv_at hl 2 rfl) ?_
  refine lv_iconst (v := nI 0) hx hb dL_refuses_396 (by decide) ?_
  refine lv_iconst (v := nI 0) hx hb dL_refuses_397 (by decide) ?_
  refine lv_iconst (v := nI 0) hx hb dL_refuses_398 (by decide) ?_
  refine lv_iconst (v := nI 0) hx hb dL_refuses_399 (by decide) ?_
  refine hs_calli w (vx_runSW (As := [.ref (a 0), .int (nI 15), .int (-2147483648), .int (nI 0), .int (nI 0), .int (nI 0), .int (nI 0)]) (rest := []) X (aF_mayTell l hl0 G _ a _ _ hI (-2147483648) (nI 0) (nI 0) (nI 0) (nI 0) 1 (hf_may1 (by decide)) (by decide)) (vx_cwSW 7 hts gL_refuses_L_act rfl rfl rfl (by decide +kernel) ⟨Nat.le_of_ble_eq_true rfl, Nat.le_of_ble_eq_true rfl⟩) ⟨b_blind, fun U9 hU9 hW9 => ⟨rfl, hs_pre E Z9 w hm9 U9 hU9 hW9⟩⟩ rfl rfl hl.1 rfl (lv_room (Nat.le_of_ble_eq_true rfl)) dL_refuses_400 ⟨Nat.le_of_ble_eq_true rfl, Nat.le_of_ble_eq_true rfl⟩) hm9 (fun r i H locs hr w => ?_)
  obtain ⟨hI, hr9⟩ := hr
  refine b_tp (hr9.trans (show hs_r 1 = -71 from by decide)) ?_
  refine lv_bipush (v := -71) hx hb dL_refuses_403 (by decide) ?_
  refine lv_icmp_ne (tgt := 429) hx hb dL_refuses_405 (by decide) (fun c9 => absurd rfl c9) (fun c9 => ?_)
  refine lv_aload_n hx hb dL_refuses_408 rfl (lv_at hl 7 rfl) ?_
  refine lv_bipush (v := nI 15) hx hb dL_refuses_409 (by decide) ?_
  refine lv_iconst (v := nI 0) hx hb dL_refuses_411 (by decide) ?_
  refine lv_iload hx hb dL_refuses_412 (lv_at hl 5 rfl) ?_
  refine lv_iconst (v := nI 0) hx hb dL_refuses_414 (by decide) ?_
  refine lv_iconst (v := nI 0) hx hb dL_refuses_415 (by decide) ?_
  refine lv_iconst (v := nI 0) hx hb dL_refuses_416 (by decide) ?_
  refine hs_calli w (vx_runSW (As := [.ref (a 0), .int (nI 15), .int (nI 0), .int (-2147483648), .int (nI 0), .int (nI 0), .int (nI 0)]) (rest := []) X (aF_mayTell l hl0 G _ a _ _ hI (nI 0) (-2147483648) (nI 0) (nI 0) (nI 0) 1 (hf_may2 (tHas_lo (by decide))) (by decide)) (vx_cwSW 7 hts gL_refuses_L_act rfl rfl rfl (by decide +kernel) ⟨Nat.le_of_ble_eq_true rfl, Nat.le_of_ble_eq_true rfl⟩) ⟨b_blind, fun U9 hU9 hW9 => ⟨rfl, hs_pre E Z9 w hm9 U9 hU9 hW9⟩⟩ rfl rfl hl.1 rfl (lv_room (Nat.le_of_ble_eq_true rfl)) dL_refuses_417 ⟨Nat.le_of_ble_eq_true rfl, Nat.le_of_ble_eq_true rfl⟩) hm9 (fun r i H locs hr w => ?_)
  obtain ⟨hI, hr9⟩ := hr
  refine b_tp (hr9.trans (show hs_r 1 = -71 from by decide)) ?_
  refine lv_bipush (v := -71) hx hb dL_refuses_420 (by decide) ?_
  refine lv_icmp_ne (tgt := 429) hx hb dL_refuses_422 (by decide) (fun c9 => absurd rfl c9) (fun c9 => ?_)
  refine lv_iconst (v := nI 1) hx hb dL_refuses_425 (by decide) ?_
  refine lv_goto (tgt := 430) hx hb dL_refuses_426 (by decide) ?_
  refine lv_istore (lv' := [(15, .int (nI 1)), (14, .int (-2147483648)), (13, .int (-2147483648)), (12, .int (-2147483648)), (11, .int (-2147483648)), (10, .int (-2147483648)), (9, .int (-2147483648)), (8, .int (-2147483648)), (0, .ref (a 0)), (1, .int (nI (hs_nA x))), (2, .int (nI (hs_nJ x))), (3, .int (nI (hs_td x))), (4, .int 2147483647), (5, .int (hV_hidden x (nI 5))), (6, .int (hV_find x (-1) (-1) (nI 0) (nI 11) (nI 0) (nI 0))), (7, .int (nI 3))]) hx hb dL_refuses_430 hl (by decide) rfl (fun ls hl => ?_)
  refine lv_bipush (v := nI 6) hx hb dL_refuses_432 (by decide) ?_
  refine lv_istore (lv' := [(16, .int (nI 6)), (15, .int (nI 1)), (14, .int (-2147483648)), (13, .int (-2147483648)), (12, .int (-2147483648)), (11, .int (-2147483648)), (10, .int (-2147483648)), (9, .int (-2147483648)), (8, .int (-2147483648)), (0, .ref (a 0)), (1, .int (nI (hs_nA x))), (2, .int (nI (hs_nJ x))), (3, .int (nI (hs_td x))), (4, .int 2147483647), (5, .int (hV_hidden x (nI 5))), (6, .int (hV_find x (-1) (-1) (nI 0) (nI 11) (nI 0) (nI 0))), (7, .int (nI 3))]) hx hb dL_refuses_434 hl (by decide) rfl (fun ls hl => ?_)
  refine lv_iload hx hb dL_refuses_436 (lv_at hl 0 rfl) ?_
  refine lv_bipush (v := nI 14) hx hb dL_refuses_438 (by decide) ?_
  refine lv_icmp_ge (tgt := 519) hx hb dL_refuses_440 (by decide) (fun c9 => absurd c9 (by decide)) (fun c9 => ?_)
  refine lv_iload hx hb dL_refuses_443 (lv_at hl 1 rfl) ?_
  refine lv_if_eq (tgt := 519) hx hb dL_refuses_445 (by decide) (fun c9 => absurd c9 (by decide)) (fun c9 => ?_)
  refine lv_iload hx hb dL_refuses_448 (lv_at hl 0 rfl) ?_
  refine lv_bipush (v := nI 7) hx hb dL_refuses_450 (by decide) ?_
  refine lv_icmp_eq (tgt := 506) hx hb dL_refuses_452 (by decide) (fun c9 => absurd c9 (by decide)) (fun c9 => ?_)
  refine lv_aload_n hx hb dL_refuses_455 rfl (lv_at hl 9 rfl) ?_
  refine lv_iload hx hb dL_refuses_456 (lv_at hl 0 rfl) ?_
  refine lv_iload hx hb dL_refuses_458 (lv_at hl 7 rfl) ?_
  refine lv_iconst (v := nI 0) hx hb dL_refuses_460 (by decide) ?_
  refine lv_iconst (v := nI 0) hx hb dL_refuses_461 (by decide) ?_
  refine lv_iconst (v := -1) hx hb dL_refuses_462 (by decide) ?_
  refine lv_iconst (v := nI 0) hx hb dL_refuses_463 (by decide) ?_
  refine hs_calli w (vx_runSW (As := [.ref (a 0), .int (nI 6), .int (-2147483648), .int (nI 0), .int (nI 0), .int (-1), .int (nI 0)]) (rest := []) X (aF_secret l hl0 G _ a _ _ hI (-2147483648) (nI 0) (nI 0) (nI 0) 1 (hf_secret (hf_okA (tHas_lo (by decide)))) (by decide)) (vx_cwSW 7 hts gL_refuses_L_act rfl rfl rfl (by decide +kernel) ⟨Nat.le_of_ble_eq_true rfl, Nat.le_of_ble_eq_true rfl⟩) ⟨b_blind, fun U9 hU9 hW9 => ⟨rfl, hs_pre E Z9 w hm9 U9 hU9 hW9⟩⟩ rfl rfl hl.1 rfl (lv_room (Nat.le_of_ble_eq_true rfl)) dL_refuses_464 ⟨Nat.le_of_ble_eq_true rfl, Nat.le_of_ble_eq_true rfl⟩) hm9 (fun r i H locs hr w => ?_)
  obtain ⟨hI, hr9⟩ := hr
  refine b_tp (hr9.trans (show hs_r 1 = -71 from by decide)) ?_
  refine lv_bipush (v := -71) hx hb dL_refuses_467 (by decide) ?_
  refine lv_icmp_ne (tgt := 510) hx hb dL_refuses_469 (by decide) (fun c9 => absurd rfl c9) (fun c9 => ?_)
  refine lv_aload_n hx hb dL_refuses_472 rfl (lv_at hl 9 rfl) ?_
  refine lv_iload hx hb dL_refuses_473 (lv_at hl 0 rfl) ?_
  refine lv_iconst (v := nI 0) hx hb dL_refuses_475 (by decide) ?_
  refine lv_iload hx hb dL_refuses_476 (lv_at hl 6 rfl) ?_
  refine lv_iconst (v := nI 0) hx hb dL_refuses_478 (by decide) ?_
  refine lv_iconst (v := -1) hx hb dL_refuses_479 (by decide) ?_
  refine lv_iconst (v := nI 0) hx hb dL_refuses_480 (by decide) ?_
  refine hs_calli w (vx_runSW (As := [.ref (a 0), .int (nI 6), .int (nI 0), .int (-2147483648), .int (nI 0), .int (-1), .int (nI 0)]) (rest := []) X (aF_secret l hl0 G _ a _ _ hI (nI 0) (-2147483648) (nI 0) (nI 0) 1 (hf_secret (hf_okJ (tHas_lo (by decide)))) (by decide)) (vx_cwSW 7 hts gL_refuses_L_act rfl rfl rfl (by decide +kernel) ⟨Nat.le_of_ble_eq_true rfl, Nat.le_of_ble_eq_true rfl⟩) ⟨b_blind, fun U9 hU9 hW9 => ⟨rfl, hs_pre E Z9 w hm9 U9 hU9 hW9⟩⟩ rfl rfl hl.1 rfl (lv_room (Nat.le_of_ble_eq_true rfl)) dL_refuses_481 ⟨Nat.le_of_ble_eq_true rfl, Nat.le_of_ble_eq_true rfl⟩) hm9 (fun r i H locs hr w => ?_)
  obtain ⟨hI, hr9⟩ := hr
  refine b_tp (hr9.trans (show hs_r 1 = -71 from by decide)) ?_
  refine lv_bipush (v := -71) hx hb dL_refuses_484 (by decide) ?_
  refine lv_icmp_ne (tgt := 510) hx hb dL_refuses_486 (by decide) (fun c9 => absurd rfl c9) (fun c9 => ?_)
  refine lv_aload_n hx hb dL_refuses_489 rfl (lv_at hl 9 rfl) ?_
  refine lv_iload hx hb dL_refuses_490 (lv_at hl 0 rfl) ?_
  refine lv_iconst (v := nI 0) hx hb dL_refuses_492 (by decide) ?_
  refine lv_iconst (v := nI 0) hx hb dL_refuses_493 (by decide) ?_
  refine lv_iload hx hb dL_refuses_494 (lv_at hl 5 rfl) ?_
  refine lv_iconst (v := -1) hx hb dL_refuses_496 (by decide) ?_
  refine lv_iconst (v := nI 0) hx hb dL_refuses_497 (by decide) ?_
  refine hs_calli w (vx_runSW (As := [.ref (a 0), .int (nI 6), .int (nI 0), .int (nI 0), .int (-2147483648), .int (-1), .int (nI 0)]) (rest := []) X (aF_secret l hl0 G _ a _ _ hI (nI 0) (nI 0) (-2147483648) (nI 0) 1 (hf_secret (hf_okP (by decide))) (by decide)) (vx_cwSW 7 hts gL_refuses_L_act rfl rfl rfl (by decide +kernel) ⟨Nat.le_of_ble_eq_true rfl, Nat.le_of_ble_eq_true rfl⟩) ⟨b_blind, fun U9 hU9 hW9 => ⟨rfl, hs_pre E Z9 w hm9 U9 hU9 hW9⟩⟩ rfl rfl hl.1 rfl (lv_room (Nat.le_of_ble_eq_true rfl)) dL_refuses_498 ⟨Nat.le_of_ble_eq_true rfl, Nat.le_of_ble_eq_true rfl⟩) hm9 (fun r i H locs hr w => ?_)
  obtain ⟨hI, hr9⟩ := hr
  refine b_tp (hr9.trans (show hs_r 1 = -71 from by decide)) ?_
  refine lv_bipush (v := -71) hx hb dL_refuses_501 (by decide) ?_
  refine lv_icmp_ne (tgt := 510) hx hb dL_refuses_503 (by decide) (fun c9 => absurd rfl c9) (fun c9 => ?_)
  refine lv_iconst (v := nI 1) hx hb dL_refuses_506 (by decide) ?_
  refine lv_goto (tgt := 511) hx hb dL_refuses_507 (by decide) ?_
  refine lv_istore (lv' := [(15, .int (nI 1)), (16, .int (nI 6)), (14, .int (-2147483648)), (13, .int (-2147483648)), (12, .int (-2147483648)), (11, .int (-2147483648)), (10, .int (-2147483648)), (9, .int (-2147483648)), (8, .int (-2147483648)), (0, .ref (a 0)), (1, .int (nI (hs_nA x))), (2, .int (nI (hs_nJ x))), (3, .int (nI (hs_td x))), (4, .int 2147483647), (5, .int (hV_hidden x (nI 5))), (6, .int (hV_find x (-1) (-1) (nI 0) (nI 11) (nI 0) (nI 0))), (7, .int (nI 3))]) hx hb dL_refuses_511 hl (by decide) rfl (fun ls hl => ?_)
  refine lv_iinc (v := nI 7) (lv' := [(16, .int (nI 7)), (15, .int (nI 1)), (14, .int (-2147483648)), (13, .int (-2147483648)), (12, .int (-2147483648)), (11, .int (-2147483648)), (10, .int (-2147483648)), (9, .int (-2147483648)), (8, .int (-2147483648)), (0, .ref (a 0)), (1, .int (nI (hs_nA x))), (2, .int (nI (hs_nJ x))), (3, .int (nI (hs_td x))), (4, .int 2147483647), (5, .int (hV_hidden x (nI 5))), (6, .int (hV_find x (-1) (-1) (nI 0) (nI 11) (nI 0) (nI 0))), (7, .int (nI 3))]) hx hb dL_refuses_513 hl (k := 1) rfl (by decide) (by decide) rfl (fun ls hl => ?_)
  refine lv_goto (tgt := 436) hx hb dL_refuses_516 (by decide) ?_
  refine lv_iload hx hb dL_refuses_436 (lv_at hl 0 rfl) ?_
  refine lv_bipush (v := nI 14) hx hb dL_refuses_438 (by decide) ?_
  refine lv_icmp_ge (tgt := 519) hx hb dL_refuses_440 (by decide) (fun c9 => absurd c9 (by decide)) (fun c9 => ?_)
  refine lv_iload hx hb dL_refuses_443 (lv_at hl 1 rfl) ?_
  refine lv_if_eq (tgt := 519) hx hb dL_refuses_445 (by decide) (fun c9 => absurd c9 (by decide)) (fun c9 => ?_)
  refine lv_iload hx hb dL_refuses_448 (lv_at hl 0 rfl) ?_
  refine lv_bipush (v := nI 7) hx hb dL_refuses_450 (by decide) ?_
  refine lv_icmp_eq (tgt := 506) hx hb dL_refuses_452 (by decide) (fun c9 => ?_) (fun c9 => absurd rfl c9)
  refine lv_iconst (v := nI 1) hx hb dL_refuses_506 (by decide) ?_
  refine lv_goto (tgt := 511) hx hb dL_refuses_507 (by decide) ?_
  refine lv_istore (lv' := [(15, .int (nI 1)), (16, .int (nI 7)), (14, .int (-2147483648)), (13, .int (-2147483648)), (12, .int (-2147483648)), (11, .int (-2147483648)), (10, .int (-2147483648)), (9, .int (-2147483648)), (8, .int (-2147483648)), (0, .ref (a 0)), (1, .int (nI (hs_nA x))), (2, .int (nI (hs_nJ x))), (3, .int (nI (hs_td x))), (4, .int 2147483647), (5, .int (hV_hidden x (nI 5))), (6, .int (hV_find x (-1) (-1) (nI 0) (nI 11) (nI 0) (nI 0))), (7, .int (nI 3))]) hx hb dL_refuses_511 hl (by decide) rfl (fun ls hl => ?_)
  refine lv_iinc (v := nI 8) (lv' := [(16, .int (nI 8)), (15, .int (nI 1)), (14, .int (-2147483648)), (13, .int (-2147483648)), (12, .int (-2147483648)), (11, .int (-2147483648)), (10, .int (-2147483648)), (9, .int (-2147483648)), (8, .int (-2147483648)), (0, .ref (a 0)), (1, .int (nI (hs_nA x))), (2, .int (nI (hs_nJ x))), (3, .int (nI (hs_td x))), (4, .int 2147483647), (5, .int (hV_hidden x (nI 5))), (6, .int (hV_find x (-1) (-1) (nI 0) (nI 11) (nI 0) (nI 0))), (7, .int (nI 3))]) hx hb dL_refuses_513 hl (k := 1) rfl (by decide) (by decide) rfl (fun ls hl => ?_)
  refine lv_goto (tgt := 436) hx hb dL_refuses_516 (by decide) ?_
  refine lv_iload hx hb dL_refuses_436 (lv_at hl 0 rfl) ?_
  refine lv_bipush (v := nI 14) hx hb dL_refuses_438 (by decide) ?_
  refine lv_icmp_ge (tgt := 519) hx hb dL_refuses_440 (by decide) (fun c9 => absurd c9 (by decide)) (fun c9 => ?_)
  refine lv_iload hx hb dL_refuses_443 (lv_at hl 1 rfl) ?_
  refine lv_if_eq (tgt := 519) hx hb dL_refuses_445 (by decide) (fun c9 => absurd c9 (by decide)) (fun c9 => ?_)
  refine lv_iload hx hb dL_refuses_448 (lv_at hl 0 rfl) ?_
  refine lv_bipush (v := nI 7) hx hb dL_refuses_450 (by decide) ?_
  refine lv_icmp_eq (tgt := 506) hx hb dL_refuses_452 (by decide) (fun c9 => absurd c9 (by decide)) (fun c9 => ?_)
  refine lv_aload_n hx hb dL_refuses_455 rfl (lv_at hl 9 rfl) ?_
  refine lv_iload hx hb dL_refuses_456 (lv_at hl 0 rfl) ?_
  refine lv_iload hx hb dL_refuses_458 (lv_at hl 7 rfl) ?_
  refine lv_iconst (v := nI 0) hx hb dL_refuses_460 (by decide) ?_
  refine lv_iconst (v := nI 0) hx hb dL_refuses_461 (by decide) ?_
  refine lv_iconst (v := -1) hx hb dL_refuses_462 (by decide) ?_
  refine lv_iconst (v := nI 0) hx hb dL_refuses_463 (by decide) ?_
  refine hs_calli w (vx_runSW (As := [.ref (a 0), .int (nI 8), .int (-2147483648), .int (nI 0), .int (nI 0), .int (-1), .int (nI 0)]) (rest := []) X (aF_figure l hl0 G _ a _ _ hI (-2147483648) (nI 0) (nI 0) (-1) (nI 0) 1 (hf_figure1 (hf_okA (tHas_lo (by decide)))) (by decide)) (vx_cwSW 7 hts gL_refuses_L_act rfl rfl rfl (by decide +kernel) ⟨Nat.le_of_ble_eq_true rfl, Nat.le_of_ble_eq_true rfl⟩) ⟨b_blind, fun U9 hU9 hW9 => ⟨rfl, hs_pre E Z9 w hm9 U9 hU9 hW9⟩⟩ rfl rfl hl.1 rfl (lv_room (Nat.le_of_ble_eq_true rfl)) dL_refuses_464 ⟨Nat.le_of_ble_eq_true rfl, Nat.le_of_ble_eq_true rfl⟩) hm9 (fun r i H locs hr w => ?_)
  obtain ⟨hI, hr9⟩ := hr
  refine b_tp (hr9.trans (show hs_r 1 = -71 from by decide)) ?_
  refine lv_bipush (v := -71) hx hb dL_refuses_467 (by decide) ?_
  refine lv_icmp_ne (tgt := 510) hx hb dL_refuses_469 (by decide) (fun c9 => absurd rfl c9) (fun c9 => ?_)
  refine lv_aload_n hx hb dL_refuses_472 rfl (lv_at hl 9 rfl) ?_
  refine lv_iload hx hb dL_refuses_473 (lv_at hl 0 rfl) ?_
  refine lv_iconst (v := nI 0) hx hb dL_refuses_475 (by decide) ?_
  refine lv_iload hx hb dL_refuses_476 (lv_at hl 6 rfl) ?_
  refine lv_iconst (v := nI 0) hx hb dL_refuses_478 (by decide) ?_
  refine lv_iconst (v := -1) hx hb dL_refuses_479 (by decide) ?_
  refine lv_iconst (v := nI 0) hx hb dL_refuses_480 (by decide) ?_
  refine hs_calli w (vx_runSW (As := [.ref (a 0), .int (nI 8), .int (nI 0), .int (-2147483648), .int (nI 0), .int (-1), .int (nI 0)]) (rest := []) X (aF_figure l hl0 G _ a _ _ hI (nI 0) (-2147483648) (nI 0) (-1) (nI 0) 1 (hf_figure1 (hf_okJ (tHas_lo (by decide)))) (by decide)) (vx_cwSW 7 hts gL_refuses_L_act rfl rfl rfl (by decide +kernel) ⟨Nat.le_of_ble_eq_true rfl, Nat.le_of_ble_eq_true rfl⟩) ⟨b_blind, fun U9 hU9 hW9 => ⟨rfl, hs_pre E Z9 w hm9 U9 hU9 hW9⟩⟩ rfl rfl hl.1 rfl (lv_room (Nat.le_of_ble_eq_true rfl)) dL_refuses_481 ⟨Nat.le_of_ble_eq_true rfl, Nat.le_of_ble_eq_true rfl⟩) hm9 (fun r i H locs hr w => ?_)
  obtain ⟨hI, hr9⟩ := hr
  refine b_tp (hr9.trans (show hs_r 1 = -71 from by decide)) ?_
  refine lv_bipush (v := -71) hx hb dL_refuses_484 (by decide) ?_
  refine lv_icmp_ne (tgt := 510) hx hb dL_refuses_486 (by decide) (fun c9 => absurd rfl c9) (fun c9 => ?_)
  refine lv_aload_n hx hb dL_refuses_489 rfl (lv_at hl 9 rfl) ?_
  refine lv_iload hx hb dL_refuses_490 (lv_at hl 0 rfl) ?_
  refine lv_iconst (v := nI 0) hx hb dL_refuses_492 (by decide) ?_
  refine lv_iconst (v := nI 0) hx hb dL_refuses_493 (by decide) ?_
  refine lv_iload hx hb dL_refuses_494 (lv_at hl 5 rfl) ?_
  refine lv_iconst (v := -1) hx hb dL_refuses_496 (by decide) ?_
  refine lv_iconst (v := nI 0) hx hb dL_refuses_497 (by decide) ?_
  refine hs_calli w (vx_runSW (As := [.ref (a 0), .int (nI 8), .int (nI 0), .int (nI 0), .int (-2147483648), .int (-1), .int (nI 0)]) (rest := []) X (aF_figure l hl0 G _ a _ _ hI (nI 0) (nI 0) (-2147483648) (-1) (nI 0) 1 (hf_figure1 (hf_okP (by decide))) (by decide)) (vx_cwSW 7 hts gL_refuses_L_act rfl rfl rfl (by decide +kernel) ⟨Nat.le_of_ble_eq_true rfl, Nat.le_of_ble_eq_true rfl⟩) ⟨b_blind, fun U9 hU9 hW9 => ⟨rfl, hs_pre E Z9 w hm9 U9 hU9 hW9⟩⟩ rfl rfl hl.1 rfl (lv_room (Nat.le_of_ble_eq_true rfl)) dL_refuses_498 ⟨Nat.le_of_ble_eq_true rfl, Nat.le_of_ble_eq_true rfl⟩) hm9 (fun r i H locs hr w => ?_)
  obtain ⟨hI, hr9⟩ := hr
  refine b_tp (hr9.trans (show hs_r 1 = -71 from by decide)) ?_
  refine lv_bipush (v := -71) hx hb dL_refuses_501 (by decide) ?_
  refine lv_icmp_ne (tgt := 510) hx hb dL_refuses_503 (by decide) (fun c9 => absurd rfl c9) (fun c9 => ?_)
  refine lv_iconst (v := nI 1) hx hb dL_refuses_506 (by decide) ?_
  refine lv_goto (tgt := 511) hx hb dL_refuses_507 (by decide) ?_
  refine lv_istore (lv' := [(15, .int (nI 1)), (16, .int (nI 8)), (14, .int (-2147483648)), (13, .int (-2147483648)), (12, .int (-2147483648)), (11, .int (-2147483648)), (10, .int (-2147483648)), (9, .int (-2147483648)), (8, .int (-2147483648)), (0, .ref (a 0)), (1, .int (nI (hs_nA x))), (2, .int (nI (hs_nJ x))), (3, .int (nI (hs_td x))), (4, .int 2147483647), (5, .int (hV_hidden x (nI 5))), (6, .int (hV_find x (-1) (-1) (nI 0) (nI 11) (nI 0) (nI 0))), (7, .int (nI 3))]) hx hb dL_refuses_511 hl (by decide) rfl (fun ls hl => ?_)
  refine lv_iinc (v := nI 9) (lv' := [(16, .int (nI 9)), (15, .int (nI 1)), (14, .int (-2147483648)), (13, .int (-2147483648)), (12, .int (-2147483648)), (11, .int (-2147483648)), (10, .int (-2147483648)), (9, .int (-2147483648)), (8, .int (-2147483648)), (0, .ref (a 0)), (1, .int (nI (hs_nA x))), (2, .int (nI (hs_nJ x))), (3, .int (nI (hs_td x))), (4, .int 2147483647), (5, .int (hV_hidden x (nI 5))), (6, .int (hV_find x (-1) (-1) (nI 0) (nI 11) (nI 0) (nI 0))), (7, .int (nI 3))]) hx hb dL_refuses_513 hl (k := 1) rfl (by decide) (by decide) rfl (fun ls hl => ?_)
  refine lv_goto (tgt := 436) hx hb dL_refuses_516 (by decide) ?_
  refine lv_iload hx hb dL_refuses_436 (lv_at hl 0 rfl) ?_
  refine lv_bipush (v := nI 14) hx hb dL_refuses_438 (by decide) ?_
  refine lv_icmp_ge (tgt := 519) hx hb dL_refuses_440 (by decide) (fun c9 => absurd c9 (by decide)) (fun c9 => ?_)
  refine lv_iload hx hb dL_refuses_443 (lv_at hl 1 rfl) ?_
  refine lv_if_eq (tgt := 519) hx hb dL_refuses_445 (by decide) (fun c9 => absurd c9 (by decide)) (fun c9 => ?_)
  refine lv_iload hx hb dL_refuses_448 (lv_at hl 0 rfl) ?_
  refine lv_bipush (v := nI 7) hx hb dL_refuses_450 (by decide) ?_
  refine lv_icmp_eq (tgt := 506) hx hb dL_refuses_452 (by decide) (fun c9 => absurd c9 (by decide)) (fun c9 => ?_)
  refine lv_aload_n hx hb dL_refuses_455 rfl (lv_at hl 9 rfl) ?_
  refine lv_iload hx hb dL_refuses_456 (lv_at hl 0 rfl) ?_
  refine lv_iload hx hb dL_refuses_458 (lv_at hl 7 rfl) ?_
  refine lv_iconst (v := nI 0) hx hb dL_refuses_460 (by decide) ?_
  refine lv_iconst (v := nI 0) hx hb dL_refuses_461 (by decide) ?_
  refine lv_iconst (v := -1) hx hb dL_refuses_462 (by decide) ?_
  refine lv_iconst (v := nI 0) hx hb dL_refuses_463 (by decide) ?_
  refine hs_calli w (vx_runSW (As := [.ref (a 0), .int (nI 9), .int (-2147483648), .int (nI 0), .int (nI 0), .int (-1), .int (nI 0)]) (rest := []) X (aF_value l hl0 G _ a _ _ hI (-2147483648) (nI 0) (nI 0) (-1) (nI 0) 1 (hf_value1 (hf_okA (tHas_lo (by decide)))) (by decide)) (vx_cwSW 7 hts gL_refuses_L_act rfl rfl rfl (by decide +kernel) ⟨Nat.le_of_ble_eq_true rfl, Nat.le_of_ble_eq_true rfl⟩) ⟨b_blind, fun U9 hU9 hW9 => ⟨rfl, hs_pre E Z9 w hm9 U9 hU9 hW9⟩⟩ rfl rfl hl.1 rfl (lv_room (Nat.le_of_ble_eq_true rfl)) dL_refuses_464 ⟨Nat.le_of_ble_eq_true rfl, Nat.le_of_ble_eq_true rfl⟩) hm9 (fun r i H locs hr w => ?_)
  obtain ⟨hI, hr9⟩ := hr
  refine b_tp (hr9.trans (show hs_r 1 = -71 from by decide)) ?_
  refine lv_bipush (v := -71) hx hb dL_refuses_467 (by decide) ?_
  refine lv_icmp_ne (tgt := 510) hx hb dL_refuses_469 (by decide) (fun c9 => absurd rfl c9) (fun c9 => ?_)
  refine lv_aload_n hx hb dL_refuses_472 rfl (lv_at hl 9 rfl) ?_
  refine lv_iload hx hb dL_refuses_473 (lv_at hl 0 rfl) ?_
  refine lv_iconst (v := nI 0) hx hb dL_refuses_475 (by decide) ?_
  refine lv_iload hx hb dL_refuses_476 (lv_at hl 6 rfl) ?_
  refine lv_iconst (v := nI 0) hx hb dL_refuses_478 (by decide) ?_
  refine lv_iconst (v := -1) hx hb dL_refuses_479 (by decide) ?_
  refine lv_iconst (v := nI 0) hx hb dL_refuses_480 (by decide) ?_
  refine hs_calli w (vx_runSW (As := [.ref (a 0), .int (nI 9), .int (nI 0), .int (-2147483648), .int (nI 0), .int (-1), .int (nI 0)]) (rest := []) X (aF_value l hl0 G _ a _ _ hI (nI 0) (-2147483648) (nI 0) (-1) (nI 0) 1 (hf_value1 (hf_okJ (tHas_lo (by decide)))) (by decide)) (vx_cwSW 7 hts gL_refuses_L_act rfl rfl rfl (by decide +kernel) ⟨Nat.le_of_ble_eq_true rfl, Nat.le_of_ble_eq_true rfl⟩) ⟨b_blind, fun U9 hU9 hW9 => ⟨rfl, hs_pre E Z9 w hm9 U9 hU9 hW9⟩⟩ rfl rfl hl.1 rfl (lv_room (Nat.le_of_ble_eq_true rfl)) dL_refuses_481 ⟨Nat.le_of_ble_eq_true rfl, Nat.le_of_ble_eq_true rfl⟩) hm9 (fun r i H locs hr w => ?_)
  obtain ⟨hI, hr9⟩ := hr
  refine b_tp (hr9.trans (show hs_r 1 = -71 from by decide)) ?_
  refine lv_bipush (v := -71) hx hb dL_refuses_484 (by decide) ?_
  refine lv_icmp_ne (tgt := 510) hx hb dL_refuses_486 (by decide) (fun c9 => absurd rfl c9) (fun c9 => ?_)
  refine lv_aload_n hx hb dL_refuses_489 rfl (lv_at hl 9 rfl) ?_
  refine lv_iload hx hb dL_refuses_490 (lv_at hl 0 rfl) ?_
  refine lv_iconst (v := nI 0) hx hb dL_refuses_492 (by decide) ?_
  refine lv_iconst (v := nI 0) hx hb dL_refuses_493 (by decide) ?_
  refine lv_iload hx hb dL_refuses_494 (lv_at hl 5 rfl) ?_
  refine lv_iconst (v := -1) hx hb dL_refuses_496 (by decide) ?_
  refine lv_iconst (v := nI 0) hx hb dL_refuses_497 (by decide) ?_
  refine hs_calli w (vx_runSW (As := [.ref (a 0), .int (nI 9), .int (nI 0), .int (nI 0), .int (-2147483648), .int (-1), .int (nI 0)]) (rest := []) X (aF_value l hl0 G _ a _ _ hI (nI 0) (nI 0) (-2147483648) (-1) (nI 0) 1 (hf_value1 (hf_okP (by decide))) (by decide)) (vx_cwSW 7 hts gL_refuses_L_act rfl rfl rfl (by decide +kernel) ⟨Nat.le_of_ble_eq_true rfl, Nat.le_of_ble_eq_true rfl⟩) ⟨b_blind, fun U9 hU9 hW9 => ⟨rfl, hs_pre E Z9 w hm9 U9 hU9 hW9⟩⟩ rfl rfl hl.1 rfl (lv_room (Nat.le_of_ble_eq_true rfl)) dL_refuses_498 ⟨Nat.le_of_ble_eq_true rfl, Nat.le_of_ble_eq_true rfl⟩) hm9 (fun r i H locs hr w => ?_)
  obtain ⟨hI, hr9⟩ := hr
  refine b_tp (hr9.trans (show hs_r 1 = -71 from by decide)) ?_
  refine lv_bipush (v := -71) hx hb dL_refuses_501 (by decide) ?_
  refine lv_icmp_ne (tgt := 510) hx hb dL_refuses_503 (by decide) (fun c9 => absurd rfl c9) (fun c9 => ?_)
  exact kk i _ _ _ hI w (lv_sub hl [9, 10, 11, 12, 13, 14, 15, 16, 8, 7, 6, 5, 4, 3, 2, 1, 0] rfl)
set_option maxHeartbeats 4000000 in
set_option maxRecDepth 100000 in
theorem sg_refuses_8 {p : Program} {l : Launch} (hl0 : l.stackTraces = false) {e : Env} {s : State} {m : MethodId} {below : List Frame} {meth : Method} {c : Code} {G : bG} {args : Array Value} {Q : State → Prop} (X : CallFix p m c cL_refuses 17 s args wsL_refuses RL) (E : bE G vwCl bNW bSW s) {a : Nat → Nat} (Z9 : bZ (hs_M a) s) (hm9 : ∀ q ∈ hs_M a, Aw (hs_M a) s.heap.size q) {x : hs_E} {i : hs_I} {H : Heap} {locs : List Loc} {ls : Array Slot} (hI : hs_Inv x i) (w : bSt G vwCl (hs_M a) s (hs_W G a x i) H locs) (hl : lv_has ls 17 [(0, .ref (a 0)), (1, .int (nI (hs_nA x))), (2, .int (nI (hs_nJ x))), (3, .int (nI (hs_td x))), (4, .int 2147483647), (5, .int (hV_hidden x (nI 5))), (6, .int (hV_find x (-1) (-1) (nI 0) (nI 11) (nI 0) (nI 0))), (7, .int (nI 3)), (8, .int (-2147483648)), (9, .int (-2147483648)), (10, .int (-2147483648)), (11, .int (-2147483648)), (12, .int (-2147483648)), (13, .int (-2147483648)), (14, .int (-2147483648)), (15, .int (nI 1)), (16, .int (nI 9))])
    (kk : ∀ (i : hs_I) (H : Heap) (locs : List Loc) (ls : Array Slot), hs_Inv x i → bSt G vwCl (hs_M a) s (hs_W G a x i) H locs → lv_has ls 17 [(0, .ref (a 0)), (1, .int (nI (hs_nA x))), (2, .int (nI (hs_nJ x))), (3, .int (nI (hs_td x))), (4, .int 2147483647), (5, .int (hV_hidden x (nI 5))), (6, .int (hV_find x (-1) (-1) (nI 0) (nI 11) (nI 0) (nI 0))), (7, .int (nI 4))] → W p l e ({ frames := 9, cells := 324, slots := 1944, locals := 201 }) s m args below meth c H locs 320 1920 Q (F0 m 27 ls [])) : W p l e ({ frames := 9, cells := 324, slots := 1944, locals := 201 }) s m args below meth c H locs 279 1674 Q (F0 m 506 ls []) := by
  have hx := X.1
  have hb := X.2.1
  have hml := X.2.2.1
  have hown := X.2.2.2.1
  have hts := X.2.2.2.2
  obtain ⟨⟨hnA, hnJ, hTA, hTJ, htd, hst, hbs, hjd, hdn⟩, hbk, hdr, hK⟩ := id hI
  refine lv_iconst (v := nI 1) hx hb dL_refuses_506 (by decide) ?_
  refine lv_goto (tgt := 511) hx hb dL_refuses_507 (by decide) ?_
  refine lv_istore (lv' := [(15, .int (nI 1)), (0, .ref (a 0)), (1, .int (nI (hs_nA x))), (2, .int (nI (hs_nJ x))), (3, .int (nI (hs_td x))), (4, .int 2147483647), (5, .int (hV_hidden x (nI 5))), (6, .int (hV_find x (-1) (-1) (nI 0) (nI 11) (nI 0) (nI 0))), (7, .int (nI 3)), (8, .int (-2147483648)), (9, .int (-2147483648)), (10, .int (-2147483648)), (11, .int (-2147483648)), (12, .int (-2147483648)), (13, .int (-2147483648)), (14, .int (-2147483648)), (16, .int (nI 9))]) hx hb dL_refuses_511 hl (by decide) rfl (fun ls hl => ?_)
  refine lv_iinc (v := nI 10) (lv' := [(16, .int (nI 10)), (15, .int (nI 1)), (0, .ref (a 0)), (1, .int (nI (hs_nA x))), (2, .int (nI (hs_nJ x))), (3, .int (nI (hs_td x))), (4, .int 2147483647), (5, .int (hV_hidden x (nI 5))), (6, .int (hV_find x (-1) (-1) (nI 0) (nI 11) (nI 0) (nI 0))), (7, .int (nI 3)), (8, .int (-2147483648)), (9, .int (-2147483648)), (10, .int (-2147483648)), (11, .int (-2147483648)), (12, .int (-2147483648)), (13, .int (-2147483648)), (14, .int (-2147483648))]) hx hb dL_refuses_513 hl (k := 16) rfl (by decide) (by decide) rfl (fun ls hl => ?_)
  refine lv_goto (tgt := 436) hx hb dL_refuses_516 (by decide) ?_
  refine lv_iload hx hb dL_refuses_436 (lv_at hl 0 rfl) ?_
  refine lv_bipush (v := nI 14) hx hb dL_refuses_438 (by decide) ?_
  refine lv_icmp_ge (tgt := 519) hx hb dL_refuses_440 (by decide) (fun c9 => absurd c9 (by decide)) (fun c9 => ?_)
  refine lv_iload hx hb dL_refuses_443 (lv_at hl 1 rfl) ?_
  refine lv_if_eq (tgt := 519) hx hb dL_refuses_445 (by decide) (fun c9 => absurd c9 (by decide)) (fun c9 => ?_)
  refine lv_iload hx hb dL_refuses_448 (lv_at hl 0 rfl) ?_
  refine lv_bipush (v := nI 7) hx hb dL_refuses_450 (by decide) ?_
  refine lv_icmp_eq (tgt := 506) hx hb dL_refuses_452 (by decide) (fun c9 => absurd c9 (by decide)) (fun c9 => ?_)
  refine lv_aload_n hx hb dL_refuses_455 rfl (lv_at hl 2 rfl) ?_
  refine lv_iload hx hb dL_refuses_456 (lv_at hl 0 rfl) ?_
  refine lv_iload hx hb dL_refuses_458 (lv_at hl 11 rfl) ?_
  refine lv_iconst (v := nI 0) hx hb dL_refuses_460 (by decide) ?_
  refine lv_iconst (v := nI 0) hx hb dL_refuses_461 (by decide) ?_
  refine lv_iconst (v := -1) hx hb dL_refuses_462 (by decide) ?_
  refine lv_iconst (v := nI 0) hx hb dL_refuses_463 (by decide) ?_
  refine hs_calli w (vx_runSW (As := [.ref (a 0), .int (nI 10), .int (-2147483648), .int (nI 0), .int (nI 0), .int (-1), .int (nI 0)]) (rest := []) X (aF_first l hl0 G _ a _ _ hI (-2147483648) (nI 0) (nI 0) (-1) (nI 0) 1 (hf_first (hf_okA (tHas_lo (by decide)))) (by decide)) (vx_cwSW 7 hts gL_refuses_L_act rfl rfl rfl (by decide +kernel) ⟨Nat.le_of_ble_eq_true rfl, Nat.le_of_ble_eq_true rfl⟩) ⟨b_blind, fun U9 hU9 hW9 => ⟨rfl, hs_pre E Z9 w hm9 U9 hU9 hW9⟩⟩ rfl rfl hl.1 rfl (lv_room (Nat.le_of_ble_eq_true rfl)) dL_refuses_464 ⟨Nat.le_of_ble_eq_true rfl, Nat.le_of_ble_eq_true rfl⟩) hm9 (fun r i H locs hr w => ?_)
  obtain ⟨hI, hr9⟩ := hr
  refine b_tp (hr9.trans (show hs_r 1 = -71 from by decide)) ?_
  refine lv_bipush (v := -71) hx hb dL_refuses_467 (by decide) ?_
  refine lv_icmp_ne (tgt := 510) hx hb dL_refuses_469 (by decide) (fun c9 => absurd rfl c9) (fun c9 => ?_)
  refine lv_aload_n hx hb dL_refuses_472 rfl (lv_at hl 2 rfl) ?_
  refine lv_iload hx hb dL_refuses_473 (lv_at hl 0 rfl) ?_
  refine lv_iconst (v := nI 0) hx hb dL_refuses_475 (by decide) ?_
  refine lv_iload hx hb dL_refuses_476 (lv_at hl 12 rfl) ?_
  refine lv_iconst (v := nI 0) hx hb dL_refuses_478 (by decide) ?_
  refine lv_iconst (v := -1) hx hb dL_refuses_479 (by decide) ?_
  refine lv_iconst (v := nI 0) hx hb dL_refuses_480 (by decide) ?_
  refine hs_calli w (vx_runSW (As := [.ref (a 0), .int (nI 10), .int (nI 0), .int (-2147483648), .int (nI 0), .int (-1), .int (nI 0)]) (rest := []) X (aF_first l hl0 G _ a _ _ hI (nI 0) (-2147483648) (nI 0) (-1) (nI 0) 1 (hf_first (hf_okJ (tHas_lo (by decide)))) (by decide)) (vx_cwSW 7 hts gL_refuses_L_act rfl rfl rfl (by decide +kernel) ⟨Nat.le_of_ble_eq_true rfl, Nat.le_of_ble_eq_true rfl⟩) ⟨b_blind, fun U9 hU9 hW9 => ⟨rfl, hs_pre E Z9 w hm9 U9 hU9 hW9⟩⟩ rfl rfl hl.1 rfl (lv_room (Nat.le_of_ble_eq_true rfl)) dL_refuses_481 ⟨Nat.le_of_ble_eq_true rfl, Nat.le_of_ble_eq_true rfl⟩) hm9 (fun r i H locs hr w => ?_)
  obtain ⟨hI, hr9⟩ := hr
  refine b_tp (hr9.trans (show hs_r 1 = -71 from by decide)) ?_
  refine lv_bipush (v := -71) hx hb dL_refuses_484 (by decide) ?_
  refine lv_icmp_ne (tgt := 510) hx hb dL_refuses_486 (by decide) (fun c9 => absurd rfl c9) (fun c9 => ?_)
  refine lv_aload_n hx hb dL_refuses_489 rfl (lv_at hl 2 rfl) ?_
  refine lv_iload hx hb dL_refuses_490 (lv_at hl 0 rfl) ?_
  refine lv_iconst (v := nI 0) hx hb dL_refuses_492 (by decide) ?_
  refine lv_iconst (v := nI 0) hx hb dL_refuses_493 (by decide) ?_
  refine lv_iload hx hb dL_refuses_494 (lv_at hl 13 rfl) ?_
  refine lv_iconst (v := -1) hx hb dL_refuses_496 (by decide) ?_
  refine lv_iconst (v := nI 0) hx hb dL_refuses_497 (by decide) ?_
  refine hs_calli w (vx_runSW (As := [.ref (a 0), .int (nI 10), .int (nI 0), .int (nI 0), .int (-2147483648), .int (-1), .int (nI 0)]) (rest := []) X (aF_first l hl0 G _ a _ _ hI (nI 0) (nI 0) (-2147483648) (-1) (nI 0) 1 (hf_first (hf_okP (by decide))) (by decide)) (vx_cwSW 7 hts gL_refuses_L_act rfl rfl rfl (by decide +kernel) ⟨Nat.le_of_ble_eq_true rfl, Nat.le_of_ble_eq_true rfl⟩) ⟨b_blind, fun U9 hU9 hW9 => ⟨rfl, hs_pre E Z9 w hm9 U9 hU9 hW9⟩⟩ rfl rfl hl.1 rfl (lv_room (Nat.le_of_ble_eq_true rfl)) dL_refuses_498 ⟨Nat.le_of_ble_eq_true rfl, Nat.le_of_ble_eq_true rfl⟩) hm9 (fun r i H locs hr w => ?_)
  obtain ⟨hI, hr9⟩ := hr
  refine b_tp (hr9.trans (show hs_r 1 = -71 from by decide)) ?_
  refine lv_bipush (v := -71) hx hb dL_refuses_501 (by decide) ?_
  refine lv_icmp_ne (tgt := 510) hx hb dL_refuses_503 (by decide) (fun c9 => absurd rfl c9) (fun c9 => ?_)
  refine lv_iconst (v := nI 1) hx hb dL_refuses_506 (by decide) ?_
  refine lv_goto (tgt := 511) hx hb dL_refuses_507 (by decide) ?_
  refine lv_istore (lv' := [(15, .int (nI 1)), (16, .int (nI 10)), (0, .ref (a 0)), (1, .int (nI (hs_nA x))), (2, .int (nI (hs_nJ x))), (3, .int (nI (hs_td x))), (4, .int 2147483647), (5, .int (hV_hidden x (nI 5))), (6, .int (hV_find x (-1) (-1) (nI 0) (nI 11) (nI 0) (nI 0))), (7, .int (nI 3)), (8, .int (-2147483648)), (9, .int (-2147483648)), (10, .int (-2147483648)), (11, .int (-2147483648)), (12, .int (-2147483648)), (13, .int (-2147483648)), (14, .int (-2147483648))]) hx hb dL_refuses_511 hl (by decide) rfl (fun ls hl => ?_)
  refine lv_iinc (v := nI 11) (lv' := [(16, .int (nI 11)), (15, .int (nI 1)), (0, .ref (a 0)), (1, .int (nI (hs_nA x))), (2, .int (nI (hs_nJ x))), (3, .int (nI (hs_td x))), (4, .int 2147483647), (5, .int (hV_hidden x (nI 5))), (6, .int (hV_find x (-1) (-1) (nI 0) (nI 11) (nI 0) (nI 0))), (7, .int (nI 3)), (8, .int (-2147483648)), (9, .int (-2147483648)), (10, .int (-2147483648)), (11, .int (-2147483648)), (12, .int (-2147483648)), (13, .int (-2147483648)), (14, .int (-2147483648))]) hx hb dL_refuses_513 hl (k := 1) rfl (by decide) (by decide) rfl (fun ls hl => ?_)
  refine lv_goto (tgt := 436) hx hb dL_refuses_516 (by decide) ?_
  refine lv_iload hx hb dL_refuses_436 (lv_at hl 0 rfl) ?_
  refine lv_bipush (v := nI 14) hx hb dL_refuses_438 (by decide) ?_
  refine lv_icmp_ge (tgt := 519) hx hb dL_refuses_440 (by decide) (fun c9 => absurd c9 (by decide)) (fun c9 => ?_)
  refine lv_iload hx hb dL_refuses_443 (lv_at hl 1 rfl) ?_
  refine lv_if_eq (tgt := 519) hx hb dL_refuses_445 (by decide) (fun c9 => absurd c9 (by decide)) (fun c9 => ?_)
  refine lv_iload hx hb dL_refuses_448 (lv_at hl 0 rfl) ?_
  refine lv_bipush (v := nI 7) hx hb dL_refuses_450 (by decide) ?_
  refine lv_icmp_eq (tgt := 506) hx hb dL_refuses_452 (by decide) (fun c9 => absurd c9 (by decide)) (fun c9 => ?_)
  refine lv_aload_n hx hb dL_refuses_455 rfl (lv_at hl 2 rfl) ?_
  refine lv_iload hx hb dL_refuses_456 (lv_at hl 0 rfl) ?_
  refine lv_iload hx hb dL_refuses_458 (lv_at hl 11 rfl) ?_
  refine lv_iconst (v := nI 0) hx hb dL_refuses_460 (by decide) ?_
  refine lv_iconst (v := nI 0) hx hb dL_refuses_461 (by decide) ?_
  refine lv_iconst (v := -1) hx hb dL_refuses_462 (by decide) ?_
  refine lv_iconst (v := nI 0) hx hb dL_refuses_463 (by decide) ?_
  refine hs_calli w (vx_runSW (As := [.ref (a 0), .int (nI 11), .int (-2147483648), .int (nI 0), .int (nI 0), .int (-1), .int (nI 0)]) (rest := []) X (aF_revisions l hl0 G _ a _ _ hI (-2147483648) (nI 0) (nI 0) (-1) (nI 0) 1 (hf_revisions (hf_okA (tHas_lo (by decide)))) (by decide)) (vx_cwSW 7 hts gL_refuses_L_act rfl rfl rfl (by decide +kernel) ⟨Nat.le_of_ble_eq_true rfl, Nat.le_of_ble_eq_true rfl⟩) ⟨b_blind, fun U9 hU9 hW9 => ⟨rfl, hs_pre E Z9 w hm9 U9 hU9 hW9⟩⟩ rfl rfl hl.1 rfl (lv_room (Nat.le_of_ble_eq_true rfl)) dL_refuses_464 ⟨Nat.le_of_ble_eq_true rfl, Nat.le_of_ble_eq_true rfl⟩) hm9 (fun r i H locs hr w => ?_)
  obtain ⟨hI, hr9⟩ := hr
  refine b_tp (hr9.trans (show hs_r 1 = -71 from by decide)) ?_
  refine lv_bipush (v := -71) hx hb dL_refuses_467 (by decide) ?_
  refine lv_icmp_ne (tgt := 510) hx hb dL_refuses_469 (by decide) (fun c9 => absurd rfl c9) (fun c9 => ?_)
  refine lv_aload_n hx hb dL_refuses_472 rfl (lv_at hl 2 rfl) ?_
  refine lv_iload hx hb dL_refuses_473 (lv_at hl 0 rfl) ?_
  refine lv_iconst (v := nI 0) hx hb dL_refuses_475 (by decide) ?_
  refine lv_iload hx hb dL_refuses_476 (lv_at hl 12 rfl) ?_
  refine lv_iconst (v := nI 0) hx hb dL_refuses_478 (by decide) ?_
  refine lv_iconst (v := -1) hx hb dL_refuses_479 (by decide) ?_
  refine lv_iconst (v := nI 0) hx hb dL_refuses_480 (by decide) ?_
  refine hs_calli w (vx_runSW (As := [.ref (a 0), .int (nI 11), .int (nI 0), .int (-2147483648), .int (nI 0), .int (-1), .int (nI 0)]) (rest := []) X (aF_revisions l hl0 G _ a _ _ hI (nI 0) (-2147483648) (nI 0) (-1) (nI 0) 1 (hf_revisions (hf_okJ (tHas_lo (by decide)))) (by decide)) (vx_cwSW 7 hts gL_refuses_L_act rfl rfl rfl (by decide +kernel) ⟨Nat.le_of_ble_eq_true rfl, Nat.le_of_ble_eq_true rfl⟩) ⟨b_blind, fun U9 hU9 hW9 => ⟨rfl, hs_pre E Z9 w hm9 U9 hU9 hW9⟩⟩ rfl rfl hl.1 rfl (lv_room (Nat.le_of_ble_eq_true rfl)) dL_refuses_481 ⟨Nat.le_of_ble_eq_true rfl, Nat.le_of_ble_eq_true rfl⟩) hm9 (fun r i H locs hr w => ?_)
  obtain ⟨hI, hr9⟩ := hr
  refine b_tp (hr9.trans (show hs_r 1 = -71 from by decide)) ?_
  refine lv_bipush (v := -71) hx hb dL_refuses_484 (by decide) ?_
  refine lv_icmp_ne (tgt := 510) hx hb dL_refuses_486 (by decide) (fun c9 => absurd rfl c9) (fun c9 => ?_)
  refine lv_aload_n hx hb dL_refuses_489 rfl (lv_at hl 2 rfl) ?_
  refine lv_iload hx hb dL_refuses_490 (lv_at hl 0 rfl) ?_
  refine lv_iconst (v := nI 0) hx hb dL_refuses_492 (by decide) ?_
  refine lv_iconst (v := nI 0) hx hb dL_refuses_493 (by decide) ?_
  refine lv_iload hx hb dL_refuses_494 (lv_at hl 13 rfl) ?_
  refine lv_iconst (v := -1) hx hb dL_refuses_496 (by decide) ?_
  refine lv_iconst (v := nI 0) hx hb dL_refuses_497 (by decide) ?_
  refine hs_calli w (vx_runSW (As := [.ref (a 0), .int (nI 11), .int (nI 0), .int (nI 0), .int (-2147483648), .int (-1), .int (nI 0)]) (rest := []) X (aF_revisions l hl0 G _ a _ _ hI (nI 0) (nI 0) (-2147483648) (-1) (nI 0) 1 (hf_revisions (hf_okP (by decide))) (by decide)) (vx_cwSW 7 hts gL_refuses_L_act rfl rfl rfl (by decide +kernel) ⟨Nat.le_of_ble_eq_true rfl, Nat.le_of_ble_eq_true rfl⟩) ⟨b_blind, fun U9 hU9 hW9 => ⟨rfl, hs_pre E Z9 w hm9 U9 hU9 hW9⟩⟩ rfl rfl hl.1 rfl (lv_room (Nat.le_of_ble_eq_true rfl)) dL_refuses_498 ⟨Nat.le_of_ble_eq_true rfl, Nat.le_of_ble_eq_true rfl⟩) hm9 (fun r i H locs hr w => ?_)
  obtain ⟨hI, hr9⟩ := hr
  refine b_tp (hr9.trans (show hs_r 1 = -71 from by decide)) ?_
  refine lv_bipush (v := -71) hx hb dL_refuses_501 (by decide) ?_
  refine lv_icmp_ne (tgt := 510) hx hb dL_refuses_503 (by decide) (fun c9 => absurd rfl c9) (fun c9 => ?_)
  refine lv_iconst (v := nI 1) hx hb dL_refuses_506 (by decide) ?_
  refine lv_goto (tgt := 511) hx hb dL_refuses_507 (by decide) ?_
  refine lv_istore (lv' := [(15, .int (nI 1)), (16, .int (nI 11)), (0, .ref (a 0)), (1, .int (nI (hs_nA x))), (2, .int (nI (hs_nJ x))), (3, .int (nI (hs_td x))), (4, .int 2147483647), (5, .int (hV_hidden x (nI 5))), (6, .int (hV_find x (-1) (-1) (nI 0) (nI 11) (nI 0) (nI 0))), (7, .int (nI 3)), (8, .int (-2147483648)), (9, .int (-2147483648)), (10, .int (-2147483648)), (11, .int (-2147483648)), (12, .int (-2147483648)), (13, .int (-2147483648)), (14, .int (-2147483648))]) hx hb dL_refuses_511 hl (by decide) rfl (fun ls hl => ?_)
  refine lv_iinc (v := nI 12) (lv' := [(16, .int (nI 12)), (15, .int (nI 1)), (0, .ref (a 0)), (1, .int (nI (hs_nA x))), (2, .int (nI (hs_nJ x))), (3, .int (nI (hs_td x))), (4, .int 2147483647), (5, .int (hV_hidden x (nI 5))), (6, .int (hV_find x (-1) (-1) (nI 0) (nI 11) (nI 0) (nI 0))), (7, .int (nI 3)), (8, .int (-2147483648)), (9, .int (-2147483648)), (10, .int (-2147483648)), (11, .int (-2147483648)), (12, .int (-2147483648)), (13, .int (-2147483648)), (14, .int (-2147483648))]) hx hb dL_refuses_513 hl (k := 1) rfl (by decide) (by decide) rfl (fun ls hl => ?_)
  refine lv_goto (tgt := 436) hx hb dL_refuses_516 (by decide) ?_
  refine lv_iload hx hb dL_refuses_436 (lv_at hl 0 rfl) ?_
  refine lv_bipush (v := nI 14) hx hb dL_refuses_438 (by decide) ?_
  refine lv_icmp_ge (tgt := 519) hx hb dL_refuses_440 (by decide) (fun c9 => absurd c9 (by decide)) (fun c9 => ?_)
  refine lv_iload hx hb dL_refuses_443 (lv_at hl 1 rfl) ?_
  refine lv_if_eq (tgt := 519) hx hb dL_refuses_445 (by decide) (fun c9 => absurd c9 (by decide)) (fun c9 => ?_)
  refine lv_iload hx hb dL_refuses_448 (lv_at hl 0 rfl) ?_
  refine lv_bipush (v := nI 7) hx hb dL_refuses_450 (by decide) ?_
  refine lv_icmp_eq (tgt := 506) hx hb dL_refuses_452 (by decide) (fun c9 => absurd c9 (by decide)) (fun c9 => ?_)
  refine lv_aload_n hx hb dL_refuses_455 rfl (lv_at hl 2 rfl) ?_
  refine lv_iload hx hb dL_refuses_456 (lv_at hl 0 rfl) ?_
  refine lv_iload hx hb dL_refuses_458 (lv_at hl 11 rfl) ?_
  refine lv_iconst (v := nI 0) hx hb dL_refuses_460 (by decide) ?_
  refine lv_iconst (v := nI 0) hx hb dL_refuses_461 (by decide) ?_
  refine lv_iconst (v := -1) hx hb dL_refuses_462 (by decide) ?_
  refine lv_iconst (v := nI 0) hx hb dL_refuses_463 (by decide) ?_
  refine hs_calli w (vx_runSW (As := [.ref (a 0), .int (nI 12), .int (-2147483648), .int (nI 0), .int (nI 0), .int (-1), .int (nI 0)]) (rest := []) X (aF_hasFault l hl0 G _ a _ _ hI (-2147483648) (nI 0) (nI 0) (-1) (nI 0) 1 (hf_hasFault (hf_okA (tHas_lo (by decide)))) (by decide)) (vx_cwSW 7 hts gL_refuses_L_act rfl rfl rfl (by decide +kernel) ⟨Nat.le_of_ble_eq_true rfl, Nat.le_of_ble_eq_true rfl⟩) ⟨b_blind, fun U9 hU9 hW9 => ⟨rfl, hs_pre E Z9 w hm9 U9 hU9 hW9⟩⟩ rfl rfl hl.1 rfl (lv_room (Nat.le_of_ble_eq_true rfl)) dL_refuses_464 ⟨Nat.le_of_ble_eq_true rfl, Nat.le_of_ble_eq_true rfl⟩) hm9 (fun r i H locs hr w => ?_)
  obtain ⟨hI, hr9⟩ := hr
  refine b_tp (hr9.trans (show hs_r 1 = -71 from by decide)) ?_
  refine lv_bipush (v := -71) hx hb dL_refuses_467 (by decide) ?_
  refine lv_icmp_ne (tgt := 510) hx hb dL_refuses_469 (by decide) (fun c9 => absurd rfl c9) (fun c9 => ?_)
  refine lv_aload_n hx hb dL_refuses_472 rfl (lv_at hl 2 rfl) ?_
  refine lv_iload hx hb dL_refuses_473 (lv_at hl 0 rfl) ?_
  refine lv_iconst (v := nI 0) hx hb dL_refuses_475 (by decide) ?_
  refine lv_iload hx hb dL_refuses_476 (lv_at hl 12 rfl) ?_
  refine lv_iconst (v := nI 0) hx hb dL_refuses_478 (by decide) ?_
  refine lv_iconst (v := -1) hx hb dL_refuses_479 (by decide) ?_
  refine lv_iconst (v := nI 0) hx hb dL_refuses_480 (by decide) ?_
  refine hs_calli w (vx_runSW (As := [.ref (a 0), .int (nI 12), .int (nI 0), .int (-2147483648), .int (nI 0), .int (-1), .int (nI 0)]) (rest := []) X (aF_hasFault l hl0 G _ a _ _ hI (nI 0) (-2147483648) (nI 0) (-1) (nI 0) 1 (hf_hasFault (hf_okJ (tHas_lo (by decide)))) (by decide)) (vx_cwSW 7 hts gL_refuses_L_act rfl rfl rfl (by decide +kernel) ⟨Nat.le_of_ble_eq_true rfl, Nat.le_of_ble_eq_true rfl⟩) ⟨b_blind, fun U9 hU9 hW9 => ⟨rfl, hs_pre E Z9 w hm9 U9 hU9 hW9⟩⟩ rfl rfl hl.1 rfl (lv_room (Nat.le_of_ble_eq_true rfl)) dL_refuses_481 ⟨Nat.le_of_ble_eq_true rfl, Nat.le_of_ble_eq_true rfl⟩) hm9 (fun r i H locs hr w => ?_)
  obtain ⟨hI, hr9⟩ := hr
  refine b_tp (hr9.trans (show hs_r 1 = -71 from by decide)) ?_
  refine lv_bipush (v := -71) hx hb dL_refuses_484 (by decide) ?_
  refine lv_icmp_ne (tgt := 510) hx hb dL_refuses_486 (by decide) (fun c9 => absurd rfl c9) (fun c9 => ?_)
  refine lv_aload_n hx hb dL_refuses_489 rfl (lv_at hl 2 rfl) ?_
  refine lv_iload hx hb dL_refuses_490 (lv_at hl 0 rfl) ?_
  refine lv_iconst (v := nI 0) hx hb dL_refuses_492 (by decide) ?_
  refine lv_iconst (v := nI 0) hx hb dL_refuses_493 (by decide) ?_
  refine lv_iload hx hb dL_refuses_494 (lv_at hl 13 rfl) ?_
  refine lv_iconst (v := -1) hx hb dL_refuses_496 (by decide) ?_
  refine lv_iconst (v := nI 0) hx hb dL_refuses_497 (by decide) ?_
  refine hs_calli w (vx_runSW (As := [.ref (a 0), .int (nI 12), .int (nI 0), .int (nI 0), .int (-2147483648), .int (-1), .int (nI 0)]) (rest := []) X (aF_hasFault l hl0 G _ a _ _ hI (nI 0) (nI 0) (-2147483648) (-1) (nI 0) 1 (hf_hasFault (hf_okP (by decide))) (by decide)) (vx_cwSW 7 hts gL_refuses_L_act rfl rfl rfl (by decide +kernel) ⟨Nat.le_of_ble_eq_true rfl, Nat.le_of_ble_eq_true rfl⟩) ⟨b_blind, fun U9 hU9 hW9 => ⟨rfl, hs_pre E Z9 w hm9 U9 hU9 hW9⟩⟩ rfl rfl hl.1 rfl (lv_room (Nat.le_of_ble_eq_true rfl)) dL_refuses_498 ⟨Nat.le_of_ble_eq_true rfl, Nat.le_of_ble_eq_true rfl⟩) hm9 (fun r i H locs hr w => ?_)
  obtain ⟨hI, hr9⟩ := hr
  refine b_tp (hr9.trans (show hs_r 1 = -71 from by decide)) ?_
  refine lv_bipush (v := -71) hx hb dL_refuses_501 (by decide) ?_
  refine lv_icmp_ne (tgt := 510) hx hb dL_refuses_503 (by decide) (fun c9 => absurd rfl c9) (fun c9 => ?_)
  refine lv_iconst (v := nI 1) hx hb dL_refuses_506 (by decide) ?_
  refine lv_goto (tgt := 511) hx hb dL_refuses_507 (by decide) ?_
  refine lv_istore (lv' := [(15, .int (nI 1)), (16, .int (nI 12)), (0, .ref (a 0)), (1, .int (nI (hs_nA x))), (2, .int (nI (hs_nJ x))), (3, .int (nI (hs_td x))), (4, .int 2147483647), (5, .int (hV_hidden x (nI 5))), (6, .int (hV_find x (-1) (-1) (nI 0) (nI 11) (nI 0) (nI 0))), (7, .int (nI 3)), (8, .int (-2147483648)), (9, .int (-2147483648)), (10, .int (-2147483648)), (11, .int (-2147483648)), (12, .int (-2147483648)), (13, .int (-2147483648)), (14, .int (-2147483648))]) hx hb dL_refuses_511 hl (by decide) rfl (fun ls hl => ?_)
  refine lv_iinc (v := nI 13) (lv' := [(16, .int (nI 13)), (15, .int (nI 1)), (0, .ref (a 0)), (1, .int (nI (hs_nA x))), (2, .int (nI (hs_nJ x))), (3, .int (nI (hs_td x))), (4, .int 2147483647), (5, .int (hV_hidden x (nI 5))), (6, .int (hV_find x (-1) (-1) (nI 0) (nI 11) (nI 0) (nI 0))), (7, .int (nI 3)), (8, .int (-2147483648)), (9, .int (-2147483648)), (10, .int (-2147483648)), (11, .int (-2147483648)), (12, .int (-2147483648)), (13, .int (-2147483648)), (14, .int (-2147483648))]) hx hb dL_refuses_513 hl (k := 1) rfl (by decide) (by decide) rfl (fun ls hl => ?_)
  refine lv_goto (tgt := 436) hx hb dL_refuses_516 (by decide) ?_
  refine lv_iload hx hb dL_refuses_436 (lv_at hl 0 rfl) ?_
  refine lv_bipush (v := nI 14) hx hb dL_refuses_438 (by decide) ?_
  refine lv_icmp_ge (tgt := 519) hx hb dL_refuses_440 (by decide) (fun c9 => absurd c9 (by decide)) (fun c9 => ?_)
  refine lv_iload hx hb dL_refuses_443 (lv_at hl 1 rfl) ?_
  refine lv_if_eq (tgt := 519) hx hb dL_refuses_445 (by decide) (fun c9 => absurd c9 (by decide)) (fun c9 => ?_)
  refine lv_iload hx hb dL_refuses_448 (lv_at hl 0 rfl) ?_
  refine lv_bipush (v := nI 7) hx hb dL_refuses_450 (by decide) ?_
  refine lv_icmp_eq (tgt := 506) hx hb dL_refuses_452 (by decide) (fun c9 => absurd c9 (by decide)) (fun c9 => ?_)
  refine lv_aload_n hx hb dL_refuses_455 rfl (lv_at hl 2 rfl) ?_
  refine lv_iload hx hb dL_refuses_456 (lv_at hl 0 rfl) ?_
  refine lv_iload hx hb dL_refuses_458 (lv_at hl 11 rfl) ?_
  refine lv_iconst (v := nI 0) hx hb dL_refuses_460 (by decide) ?_
  refine lv_iconst (v := nI 0) hx hb dL_refuses_461 (by decide) ?_
  refine lv_iconst (v := -1) hx hb dL_refuses_462 (by decide) ?_
  refine lv_iconst (v := nI 0) hx hb dL_refuses_463 (by decide) ?_
  refine hs_calli w (vx_runSW (As := [.ref (a 0), .int (nI 13), .int (-2147483648), .int (nI 0), .int (nI 0), .int (-1), .int (nI 0)]) (rest := []) X (aF_shown l hl0 G _ a _ _ hI (-2147483648) (nI 0) (nI 0) (-1) (nI 0) 1 (hf_shown (hf_okA (tHas_lo (by decide)))) (by decide)) (vx_cwSW 7 hts gL_refuses_L_act rfl rfl rfl (by decide +kernel) ⟨Nat.le_of_ble_eq_true rfl, Nat.le_of_ble_eq_true rfl⟩) ⟨b_blind, fun U9 hU9 hW9 => ⟨rfl, hs_pre E Z9 w hm9 U9 hU9 hW9⟩⟩ rfl rfl hl.1 rfl (lv_room (Nat.le_of_ble_eq_true rfl)) dL_refuses_464 ⟨Nat.le_of_ble_eq_true rfl, Nat.le_of_ble_eq_true rfl⟩) hm9 (fun r i H locs hr w => ?_)
  obtain ⟨hI, hr9⟩ := hr
  refine b_tp (hr9.trans (show hs_r 1 = -71 from by decide)) ?_
  refine lv_bipush (v := -71) hx hb dL_refuses_467 (by decide) ?_
  refine lv_icmp_ne (tgt := 510) hx hb dL_refuses_469 (by decide) (fun c9 => absurd rfl c9) (fun c9 => ?_)
  refine lv_aload_n hx hb dL_refuses_472 rfl (lv_at hl 2 rfl) ?_
  refine lv_iload hx hb dL_refuses_473 (lv_at hl 0 rfl) ?_
  refine lv_iconst (v := nI 0) hx hb dL_refuses_475 (by decide) ?_
  refine lv_iload hx hb dL_refuses_476 (lv_at hl 12 rfl) ?_
  refine lv_iconst (v := nI 0) hx hb dL_refuses_478 (by decide) ?_
  refine lv_iconst (v := -1) hx hb dL_refuses_479 (by decide) ?_
  refine lv_iconst (v := nI 0) hx hb dL_refuses_480 (by decide) ?_
  refine hs_calli w (vx_runSW (As := [.ref (a 0), .int (nI 13), .int (nI 0), .int (-2147483648), .int (nI 0), .int (-1), .int (nI 0)]) (rest := []) X (aF_shown l hl0 G _ a _ _ hI (nI 0) (-2147483648) (nI 0) (-1) (nI 0) 1 (hf_shown (hf_okJ (tHas_lo (by decide)))) (by decide)) (vx_cwSW 7 hts gL_refuses_L_act rfl rfl rfl (by decide +kernel) ⟨Nat.le_of_ble_eq_true rfl, Nat.le_of_ble_eq_true rfl⟩) ⟨b_blind, fun U9 hU9 hW9 => ⟨rfl, hs_pre E Z9 w hm9 U9 hU9 hW9⟩⟩ rfl rfl hl.1 rfl (lv_room (Nat.le_of_ble_eq_true rfl)) dL_refuses_481 ⟨Nat.le_of_ble_eq_true rfl, Nat.le_of_ble_eq_true rfl⟩) hm9 (fun r i H locs hr w => ?_)
  obtain ⟨hI, hr9⟩ := hr
  refine b_tp (hr9.trans (show hs_r 1 = -71 from by decide)) ?_
  refine lv_bipush (v := -71) hx hb dL_refuses_484 (by decide) ?_
  refine lv_icmp_ne (tgt := 510) hx hb dL_refuses_486 (by decide) (fun c9 => absurd rfl c9) (fun c9 => ?_)
  refine lv_aload_n hx hb dL_refuses_489 rfl (lv_at hl 2 rfl) ?_
  refine lv_iload hx hb dL_refuses_490 (lv_at hl 0 rfl) ?_
  refine lv_iconst (v := nI 0) hx hb dL_refuses_492 (by decide) ?_
  refine lv_iconst (v := nI 0) hx hb dL_refuses_493 (by decide) ?_
  refine lv_iload hx hb dL_refuses_494 (lv_at hl 13 rfl) ?_
  refine lv_iconst (v := -1) hx hb dL_refuses_496 (by decide) ?_
  refine lv_iconst (v := nI 0) hx hb dL_refuses_497 (by decide) ?_
  refine hs_calli w (vx_runSW (As := [.ref (a 0), .int (nI 13), .int (nI 0), .int (nI 0), .int (-2147483648), .int (-1), .int (nI 0)]) (rest := []) X (aF_shown l hl0 G _ a _ _ hI (nI 0) (nI 0) (-2147483648) (-1) (nI 0) 1 (hf_shown (hf_okP (by decide))) (by decide)) (vx_cwSW 7 hts gL_refuses_L_act rfl rfl rfl (by decide +kernel) ⟨Nat.le_of_ble_eq_true rfl, Nat.le_of_ble_eq_true rfl⟩) ⟨b_blind, fun U9 hU9 hW9 => ⟨rfl, hs_pre E Z9 w hm9 U9 hU9 hW9⟩⟩ rfl rfl hl.1 rfl (lv_room (Nat.le_of_ble_eq_true rfl)) dL_refuses_498 ⟨Nat.le_of_ble_eq_true rfl, Nat.le_of_ble_eq_true rfl⟩) hm9 (fun r i H locs hr w => ?_)
  obtain ⟨hI, hr9⟩ := hr
  refine b_tp (hr9.trans (show hs_r 1 = -71 from by decide)) ?_
  refine lv_bipush (v := -71) hx hb dL_refuses_501 (by decide) ?_
  refine lv_icmp_ne (tgt := 510) hx hb dL_refuses_503 (by decide) (fun c9 => absurd rfl c9) (fun c9 => ?_)
  refine lv_iconst (v := nI 1) hx hb dL_refuses_506 (by decide) ?_
  refine lv_goto (tgt := 511) hx hb dL_refuses_507 (by decide) ?_
  refine lv_istore (lv' := [(15, .int (nI 1)), (16, .int (nI 13)), (0, .ref (a 0)), (1, .int (nI (hs_nA x))), (2, .int (nI (hs_nJ x))), (3, .int (nI (hs_td x))), (4, .int 2147483647), (5, .int (hV_hidden x (nI 5))), (6, .int (hV_find x (-1) (-1) (nI 0) (nI 11) (nI 0) (nI 0))), (7, .int (nI 3)), (8, .int (-2147483648)), (9, .int (-2147483648)), (10, .int (-2147483648)), (11, .int (-2147483648)), (12, .int (-2147483648)), (13, .int (-2147483648)), (14, .int (-2147483648))]) hx hb dL_refuses_511 hl (by decide) rfl (fun ls hl => ?_)
  refine lv_iinc (v := nI 14) (lv' := [(16, .int (nI 14)), (15, .int (nI 1)), (0, .ref (a 0)), (1, .int (nI (hs_nA x))), (2, .int (nI (hs_nJ x))), (3, .int (nI (hs_td x))), (4, .int 2147483647), (5, .int (hV_hidden x (nI 5))), (6, .int (hV_find x (-1) (-1) (nI 0) (nI 11) (nI 0) (nI 0))), (7, .int (nI 3)), (8, .int (-2147483648)), (9, .int (-2147483648)), (10, .int (-2147483648)), (11, .int (-2147483648)), (12, .int (-2147483648)), (13, .int (-2147483648)), (14, .int (-2147483648))]) hx hb dL_refuses_513 hl (k := 1) rfl (by decide) (by decide) rfl (fun ls hl => ?_)
  refine lv_goto (tgt := 436) hx hb dL_refuses_516 (by decide) ?_
  refine lv_iload hx hb dL_refuses_436 (lv_at hl 0 rfl) ?_
  refine lv_bipush (v := nI 14) hx hb dL_refuses_438 (by decide) ?_
  refine lv_icmp_ge (tgt := 519) hx hb dL_refuses_440 (by decide) (fun c9 => ?_) (fun c9 => absurd (by decide) c9)
  refine lv_iload hx hb dL_refuses_519 (lv_at hl 1 rfl) ?_
  refine lv_if_eq (tgt := 675) hx hb dL_refuses_521 (by decide) (fun c9 => absurd c9 (by decide)) (fun c9 => ?_)
  refine lv_aload_n hx hb dL_refuses_524 rfl (lv_at hl 2 rfl) ?_
  refine lv_iload hx hb dL_refuses_525 (lv_at hl 9 rfl) ?_
  refine lv_if_ne (tgt := 535) hx hb dL_refuses_527 (by decide) (fun c9 => ?_) (fun c9 => absurd c9 (by decide))
  refine lv_iload hx hb dL_refuses_535 (lv_at hl 11 rfl) ?_
  refine lv_iconst (v := -1) hx hb dL_refuses_537 (by decide) ?_
  refine lv_bipush (v := nI 9) hx hb dL_refuses_538 (by decide) ?_
  refine lv_iconst (v := nI 0) hx hb dL_refuses_540 (by decide) ?_
  refine lv_iconst (v := nI 0) hx hb dL_refuses_541 (by decide) ?_
  refine lv_iconst (v := nI 0) hx hb dL_refuses_542 (by decide) ?_
  refine hs_calli w (vx_runSW (As := [.ref (a 0), .int (-2147483648), .int (-1), .int (nI 9), .int (nI 0), .int (nI 0), .int (nI 0)]) (rest := []) X (fF l hl0 G _ a _ _ hI (-2147483648) (-1) (nI 9) (nI 0) (nI 0) (nI 0) 1 (hf_find1 (Or.inl (hn_pat (tHas_lo (by decide)) (by decide)))) (by decide)) (vx_cwSW 7 hts gL_refuses_L_find rfl rfl rfl (by decide +kernel) ⟨Nat.le_of_ble_eq_true rfl, Nat.le_of_ble_eq_true rfl⟩) ⟨b_blind, fun U9 hU9 hW9 => ⟨rfl, hs_pre E Z9 w hm9 U9 hU9 hW9⟩⟩ rfl rfl hl.1 rfl (lv_room (Nat.le_of_ble_eq_true rfl)) dL_refuses_543 ⟨Nat.le_of_ble_eq_true rfl, Nat.le_of_ble_eq_true rfl⟩) hm9 (fun r i H locs hr w => ?_)
  obtain ⟨hI, hr9⟩ := hr
  refine b_tp (hr9.trans (show hs_r 1 = -71 from by decide)) ?_
  refine lv_bipush (v := -71) hx hb dL_refuses_546 (by decide) ?_
  refine lv_icmp_ne (tgt := 675) hx hb dL_refuses_548 (by decide) (fun c9 => absurd rfl c9) (fun c9 => ?_)
  refine lv_aload_n hx hb dL_refuses_551 rfl (lv_at hl 2 rfl) ?_
  refine lv_iconst (v := -1) hx hb dL_refuses_552 (by decide) ?_
  refine lv_iload hx hb dL_refuses_553 (lv_at hl 9 rfl) ?_
  refine lv_if_ne (tgt := 563) hx hb dL_refuses_555 (by decide) (fun c9 => ?_) (fun c9 => absurd c9 (by decide))
  refine lv_iload hx hb dL_refuses_563 (lv_at hl 12 rfl) ?_
  refine lv_bipush (v := nI 9) hx hb dL_refuses_565 (by decide) ?_
  refine lv_iconst (v := nI 0) hx hb dL_refuses_567 (by decide) ?_
  refine lv_iconst (v := nI 0) hx hb dL_refuses_568 (by decide) ?_
  refine lv_iconst (v := nI 0) hx hb dL_refuses_569 (by decide) ?_
  refine hs_calli w (vx_runSW (As := [.ref (a 0), .int (-1), .int (-2147483648), .int (nI 9), .int (nI 0), .int (nI 0), .int (nI 0)]) (rest := []) X (fF l hl0 G _ a _ _ hI (-1) (-2147483648) (nI 9) (nI 0) (nI 0) (nI 0) 1 (hf_find1 (Or.inr (Or.inl (hn_pat (tHas_lo (by decide)) (by decide))))) (by decide)) (vx_cwSW 7 hts gL_refuses_L_find rfl rfl rfl (by decide +kernel) ⟨Nat.le_of_ble_eq_true rfl, Nat.le_of_ble_eq_true rfl⟩) ⟨b_blind, fun U9 hU9 hW9 => ⟨rfl, hs_pre E Z9 w hm9 U9 hU9 hW9⟩⟩ rfl rfl hl.1 rfl (lv_room (Nat.le_of_ble_eq_true rfl)) dL_refuses_570 ⟨Nat.le_of_ble_eq_true rfl, Nat.le_of_ble_eq_true rfl⟩) hm9 (fun r i H locs hr w => ?_)
  obtain ⟨hI, hr9⟩ := hr
  refine b_tp (hr9.trans (show hs_r 1 = -71 from by decide)) ?_
  refine lv_bipush (v := -71) hx hb dL_refuses_573 (by decide) ?_
  refine lv_icmp_ne (tgt := 675) hx hb dL_refuses_575 (by decide) (fun c9 => absurd rfl c9) (fun c9 => ?_)
  refine lv_aload_n hx hb dL_refuses_578 rfl (lv_at hl 2 rfl) ?_
  refine lv_iconst (v := -1) hx hb dL_refuses_579 (by decide) ?_
  refine lv_iconst (v := -1) hx hb dL_refuses_580 (by decide) ?_
  refine lv_bipush (v := nI 9) hx hb dL_refuses_581 (by decide) ?_
  refine lv_iconst (v := nI 0) hx hb dL_refuses_583 (by decide) ?_
  refine lv_iconst (v := nI 0) hx hb dL_refuses_584 (by decide) ?_
  refine lv_iload hx hb dL_refuses_585 (lv_at hl 16 rfl) ?_
  refine hs_calli w (vx_runSW (As := [.ref (a 0), .int (-1), .int (-1), .int (nI 9), .int (nI 0), .int (nI 0), .int (-2147483648)]) (rest := []) X (fF l hl0 G _ a _ _ hI (-1) (-1) (nI 9) (nI 0) (nI 0) (-2147483648) 1 (hf_find1 (Or.inr (Or.inr (by decide)))) (by decide)) (vx_cwSW 7 hts gL_refuses_L_find rfl rfl rfl (by decide +kernel) ⟨Nat.le_of_ble_eq_true rfl, Nat.le_of_ble_eq_true rfl⟩) ⟨b_blind, fun U9 hU9 hW9 => ⟨rfl, hs_pre E Z9 w hm9 U9 hU9 hW9⟩⟩ rfl rfl hl.1 rfl (lv_room (Nat.le_of_ble_eq_true rfl)) dL_refuses_587 ⟨Nat.le_of_ble_eq_true rfl, Nat.le_of_ble_eq_true rfl⟩) hm9 (fun r i H locs hr w => ?_)
  obtain ⟨hI, hr9⟩ := hr
  refine b_tp (hr9.trans (show hs_r 1 = -71 from by decide)) ?_
  refine lv_bipush (v := -71) hx hb dL_refuses_590 (by decide) ?_
  refine lv_icmp_ne (tgt := 675) hx hb dL_refuses_592 (by decide) (fun c9 => absurd rfl c9) (fun c9 => ?_)
  refine lv_aload_n hx hb dL_refuses_595 rfl (lv_at hl 2 rfl) ?_
  refine lv_iconst (v := -1) hx hb dL_refuses_596 (by decide) ?_
  refine lv_iconst (v := -1) hx hb dL_refuses_597 (by decide) ?_
  refine lv_iload hx hb dL_refuses_598 (lv_at hl 13 rfl) ?_
  refine lv_bipush (v := nI 11) hx hb dL_refuses_600 (by decide) ?_
  refine lv_iconst (v := nI 0) hx hb dL_refuses_602 (by decide) ?_
  refine lv_iconst (v := nI 0) hx hb dL_refuses_603 (by decide) ?_
  refine hs_calli w (vx_runSW (As := [.ref (a 0), .int (-1), .int (-1), .int (-2147483648), .int (nI 11), .int (nI 0), .int (nI 0)]) (rest := []) X (fF l hl0 G _ a _ _ hI (-1) (-1) (-2147483648) (nI 11) (nI 0) (nI 0) 2 (hf_find2 (by decide) (by decide)) (by decide)) (vx_cwSW 7 hts gL_refuses_L_find rfl rfl rfl (by decide +kernel) ⟨Nat.le_of_ble_eq_true rfl, Nat.le_of_ble_eq_true rfl⟩) ⟨b_blind, fun U9 hU9 hW9 => ⟨rfl, hs_pre E Z9 w hm9 U9 hU9 hW9⟩⟩ rfl rfl hl.1 rfl (lv_room (Nat.le_of_ble_eq_true rfl)) dL_refuses_604 ⟨Nat.le_of_ble_eq_true rfl, Nat.le_of_ble_eq_true rfl⟩) hm9 (fun r i H locs hr w => ?_)
  obtain ⟨hI, hr9⟩ := hr
  refine b_tp (hr9.trans (show hs_r 2 = -72 from by decide)) ?_
  refine lv_bipush (v := -72) hx hb dL_refuses_607 (by decide) ?_
  refine lv_icmp_ne (tgt := 675) hx hb dL_refuses_609 (by decide) (fun c9 => absurd rfl c9) (fun c9 => ?_)
  refine lv_aload_n hx hb dL_refuses_612 rfl (lv_at hl 2 rfl) ?_
  refine lv_iconst (v := -1) hx hb dL_refuses_613 (by decide) ?_
  refine lv_iconst (v := -1) hx hb dL_refuses_614 (by decide) ?_
  refine lv_iconst (v := nI 0) hx hb dL_refuses_615 (by decide) ?_
  refine lv_iload hx hb dL_refuses_616 (lv_at hl 13 rfl) ?_
  refine lv_iconst (v := nI 0) hx hb dL_refuses_618 (by decide) ?_
  refine lv_iconst (v := nI 0) hx hb dL_refuses_619 (by decide) ?_
  refine hs_calli w (vx_runSW (As := [.ref (a 0), .int (-1), .int (-1), .int (nI 0), .int (-2147483648), .int (nI 0), .int (nI 0)]) (rest := []) X (fF l hl0 G _ a _ _ hI (-1) (-1) (nI 0) (-2147483648) (nI 0) (nI 0) 2 (hf_find2 (by decide) (by decide)) (by decide)) (vx_cwSW 7 hts gL_refuses_L_find rfl rfl rfl (by decide +kernel) ⟨Nat.le_of_ble_eq_true rfl, Nat.le_of_ble_eq_true rfl⟩) ⟨b_blind, fun U9 hU9 hW9 => ⟨rfl, hs_pre E Z9 w hm9 U9 hU9 hW9⟩⟩ rfl rfl hl.1 rfl (lv_room (Nat.le_of_ble_eq_true rfl)) dL_refuses_620 ⟨Nat.le_of_ble_eq_true rfl, Nat.le_of_ble_eq_true rfl⟩) hm9 (fun r i H locs hr w => ?_)
  obtain ⟨hI, hr9⟩ := hr
  refine b_tp (hr9.trans (show hs_r 2 = -72 from by decide)) ?_
  refine lv_bipush (v := -72) hx hb dL_refuses_623 (by decide) ?_
  refine lv_icmp_ne (tgt := 675) hx hb dL_refuses_625 (by decide) (fun c9 => absurd rfl c9) (fun c9 => ?_)
  refine lv_aload_n hx hb dL_refuses_628 rfl (lv_at hl 2 rfl) ?_
  refine lv_iconst (v := -1) hx hb dL_refuses_629 (by decide) ?_
  refine lv_iconst (v := -1) hx hb dL_refuses_630 (by decide) ?_
  refine lv_iconst (v := nI 5) hx hb dL_refuses_631 (by decide) ?_
  refine lv_iconst (v := nI 4) hx hb dL_refuses_632 (by decide) ?_
  refine lv_iconst (v := nI 0) hx hb dL_refuses_633 (by decide) ?_
  refine lv_iconst (v := nI 0) hx hb dL_refuses_634 (by decide) ?_
  refine hs_calli w (vx_runSW (As := [.ref (a 0), .int (-1), .int (-1), .int (nI 5), .int (nI 4), .int (nI 0), .int (nI 0)]) (rest := []) X (fF l hl0 G _ a _ _ hI (-1) (-1) (nI 5) (nI 4) (nI 0) (nI 0) 2 (hf_find2 (by decide) (by decide)) (by decide)) (vx_cwSW 7 hts gL_refuses_L_find rfl rfl rfl (by decide +kernel) ⟨Nat.le_of_ble_eq_true rfl, Nat.le_of_ble_eq_true rfl⟩) ⟨b_blind, fun U9 hU9 hW9 => ⟨rfl, hs_pre E Z9 w hm9 U9 hU9 hW9⟩⟩ rfl rfl hl.1 rfl (lv_room (Nat.le_of_ble_eq_true rfl)) dL_refuses_635 ⟨Nat.le_of_ble_eq_true rfl, Nat.le_of_ble_eq_true rfl⟩) hm9 (fun r i H locs hr w => ?_)
  obtain ⟨hI, hr9⟩ := hr
  refine b_tp (hr9.trans (show hs_r 2 = -72 from by decide)) ?_
  refine lv_bipush (v := -72) hx hb dL_refuses_638 (by decide) ?_
  refine lv_icmp_ne (tgt := 675) hx hb dL_refuses_640 (by decide) (fun c9 => absurd rfl c9) (fun c9 => ?_)
  refine lv_aload_n hx hb dL_refuses_643 rfl (lv_at hl 2 rfl) ?_
  refine lv_iconst (v := -1) hx hb dL_refuses_644 (by decide) ?_
  refine lv_iconst (v := -1) hx hb dL_refuses_645 (by decide) ?_
  refine lv_iconst (v := nI 0) hx hb dL_refuses_646 (by decide) ?_
  refine lv_iconst (v := nI 0) hx hb dL_refuses_647 (by decide) ?_
  refine lv_iload hx hb dL_refuses_648 (lv_at hl 9 rfl) ?_
  refine lv_iconst (v := nI 1) hx hb dL_refuses_650 (by decide) ?_
  refine lv_icmp_ne (tgt := 660) hx hb dL_refuses_651 (by decide) (fun c9 => ?_) (fun c9 => absurd c9 (by decide))
  refine lv_iload hx hb dL_refuses_660 (lv_at hl 10 rfl) ?_
  refine lv_iconst (v := nI 0) hx hb dL_refuses_662 (by decide) ?_
  refine hs_calli w (vx_runSW (As := [.ref (a 0), .int (-1), .int (-1), .int (nI 0), .int (nI 0), .int (-2147483648), .int (nI 0)]) (rest := []) X (fF l hl0 G _ a _ _ hI (-1) (-1) (nI 0) (nI 0) (-2147483648) (nI 0) 2 (hf_find2 (by decide) (by decide)) (by decide)) (vx_cwSW 7 hts gL_refuses_L_find rfl rfl rfl (by decide +kernel) ⟨Nat.le_of_ble_eq_true rfl, Nat.le_of_ble_eq_true rfl⟩) ⟨b_blind, fun U9 hU9 hW9 => ⟨rfl, hs_pre E Z9 w hm9 U9 hU9 hW9⟩⟩ rfl rfl hl.1 rfl (lv_room (Nat.le_of_ble_eq_true rfl)) dL_refuses_663 ⟨Nat.le_of_ble_eq_true rfl, Nat.le_of_ble_eq_true rfl⟩) hm9 (fun r i H locs hr w => ?_)
  obtain ⟨hI, hr9⟩ := hr
  refine b_tp (hr9.trans (show hs_r 2 = -72 from by decide)) ?_
  refine lv_bipush (v := -72) hx hb dL_refuses_666 (by decide) ?_
  refine lv_icmp_ne (tgt := 675) hx hb dL_refuses_668 (by decide) (fun c9 => absurd rfl c9) (fun c9 => ?_)
  refine lv_iconst (v := nI 1) hx hb dL_refuses_671 (by decide) ?_
  refine lv_goto (tgt := 676) hx hb dL_refuses_672 (by decide) ?_
  refine lv_istore (lv' := [(15, .int (nI 1)), (16, .int (nI 14)), (0, .ref (a 0)), (1, .int (nI (hs_nA x))), (2, .int (nI (hs_nJ x))), (3, .int (nI (hs_td x))), (4, .int 2147483647), (5, .int (hV_hidden x (nI 5))), (6, .int (hV_find x (-1) (-1) (nI 0) (nI 11) (nI 0) (nI 0))), (7, .int (nI 3)), (8, .int (-2147483648)), (9, .int (-2147483648)), (10, .int (-2147483648)), (11, .int (-2147483648)), (12, .int (-2147483648)), (13, .int (-2147483648)), (14, .int (-2147483648))]) hx hb dL_refuses_676 hl (by decide) rfl (fun ls hl => ?_)
  refine lv_iload hx hb dL_refuses_678 (lv_at hl 0 rfl) ?_
  refine lv_if_eq (tgt := 806) hx hb dL_refuses_680 (by decide) (fun c9 => absurd c9 (by decide)) (fun c9 => ?_)
  refine lv_iload_n hx hb dL_refuses_683 rfl (lv_at hl 3 rfl) ?_
  refine lv_if_eq (tgt := 802) hx hb dL_refuses_684 (by decide) (fun c_684_1 => ?_) (fun c_684_1 => ?_)
  · have q_684_2 : (hs_nA x) = 0 := (nI_z (by omega)).mp c_684_1
    refine lv_iconst (v := nI 1) hx hb dL_refuses_802 (by decide) ?_
    refine lv_goto (tgt := 807) hx hb dL_refuses_803 (by decide) ?_
    refine lv_istore (lv' := [(15, .int (nI 1)), (16, .int (nI 14)), (0, .ref (a 0)), (1, .int (nI (hs_nA x))), (2, .int (nI (hs_nJ x))), (3, .int (nI (hs_td x))), (4, .int 2147483647), (5, .int (hV_hidden x (nI 5))), (6, .int (hV_find x (-1) (-1) (nI 0) (nI 11) (nI 0) (nI 0))), (7, .int (nI 3)), (8, .int (-2147483648)), (9, .int (-2147483648)), (10, .int (-2147483648)), (11, .int (-2147483648)), (12, .int (-2147483648)), (13, .int (-2147483648)), (14, .int (-2147483648))]) hx hb dL_refuses_807 hl (by decide) rfl (fun ls hl => ?_)
    refine lv_iload hx hb dL_refuses_809 (lv_at hl 0 rfl) ?_
    refine lv_if_ne (tgt := 816) hx hb dL_refuses_811 (by decide) (fun c9 => ?_) (fun c9 => absurd c9 (by decide))
    refine lv_iinc (v := nI 4) (lv' := [(7, .int (nI 4)), (15, .int (nI 1)), (16, .int (nI 14)), (0, .ref (a 0)), (1, .int (nI (hs_nA x))), (2, .int (nI (hs_nJ x))), (3, .int (nI (hs_td x))), (4, .int 2147483647), (5, .int (hV_hidden x (nI 5))), (6, .int (hV_find x (-1) (-1) (nI 0) (nI 11) (nI 0) (nI 0))), (8, .int (-2147483648)), (9, .int (-2147483648)), (10, .int (-2147483648)), (11, .int (-2147483648)), (12, .int (-2147483648)), (13, .int (-2147483648)), (14, .int (-2147483648))]) hx hb dL_refuses_816 hl (k := 9) rfl (by decide) (by decide) rfl (fun ls hl => ?_)
    refine lv_goto (tgt := 27) hx hb dL_refuses_819 (by decide) ?_
    refine W.widen (k := 320) (n := 1920) (by decide) (by decide) ?_
    exact kk i _ _ _ hI w (lv_sub hl [3, 4, 5, 6, 7, 8, 9, 0] rfl)
  · have q_684_2 : ¬ (hs_nA x) = 0 := fun h9 => c_684_1 ((nI_z (by omega)).mpr h9)
    refine lv_iload_n hx hb dL_refuses_687 rfl (lv_at hl 4 rfl) ?_
    refine lv_if_eq (tgt := 802) hx hb dL_refuses_688 (by decide) (fun c_688_3 => ?_) (fun c_688_3 => ?_)
    · have q_688_4 : (hs_nJ x) = 0 := (nI_z (by omega)).mp c_688_3
      refine lv_iconst (v := nI 1) hx hb dL_refuses_802 (by decide) ?_
      refine lv_goto (tgt := 807) hx hb dL_refuses_803 (by decide) ?_
      refine lv_istore (lv' := [(15, .int (nI 1)), (16, .int (nI 14)), (0, .ref (a 0)), (1, .int (nI (hs_nA x))), (2, .int (nI (hs_nJ x))), (3, .int (nI (hs_td x))), (4, .int 2147483647), (5, .int (hV_hidden x (nI 5))), (6, .int (hV_find x (-1) (-1) (nI 0) (nI 11) (nI 0) (nI 0))), (7, .int (nI 3)), (8, .int (-2147483648)), (9, .int (-2147483648)), (10, .int (-2147483648)), (11, .int (-2147483648)), (12, .int (-2147483648)), (13, .int (-2147483648)), (14, .int (-2147483648))]) hx hb dL_refuses_807 hl (by decide) rfl (fun ls hl => ?_)
      refine lv_iload hx hb dL_refuses_809 (lv_at hl 0 rfl) ?_
      refine lv_if_ne (tgt := 816) hx hb dL_refuses_811 (by decide) (fun c9 => ?_) (fun c9 => absurd c9 (by decide))
      refine lv_iinc (v := nI 4) (lv' := [(7, .int (nI 4)), (15, .int (nI 1)), (16, .int (nI 14)), (0, .ref (a 0)), (1, .int (nI (hs_nA x))), (2, .int (nI (hs_nJ x))), (3, .int (nI (hs_td x))), (4, .int 2147483647), (5, .int (hV_hidden x (nI 5))), (6, .int (hV_find x (-1) (-1) (nI 0) (nI 11) (nI 0) (nI 0))), (8, .int (-2147483648)), (9, .int (-2147483648)), (10, .int (-2147483648)), (11, .int (-2147483648)), (12, .int (-2147483648)), (13, .int (-2147483648)), (14, .int (-2147483648))]) hx hb dL_refuses_816 hl (k := 9) rfl (by decide) (by decide) rfl (fun ls hl => ?_)
      refine lv_goto (tgt := 27) hx hb dL_refuses_819 (by decide) ?_
      refine W.widen (k := 320) (n := 1920) (by decide) (by decide) ?_
      exact kk i _ _ _ hI w (lv_sub hl [3, 4, 5, 6, 7, 8, 9, 0] rfl)
    · have q_688_4 : ¬ (hs_nJ x) = 0 := fun h9 => c_688_3 ((nI_z (by omega)).mpr h9)
      refine lv_aload_n hx hb dL_refuses_691 rfl (lv_at hl 2 rfl) ?_
      refine lv_iconst (v := nI 3) hx hb dL_refuses_692 (by decide) ?_
      refine lv_iload hx hb dL_refuses_693 (lv_at hl 15 rfl) ?_
      refine lv_iconst (v := nI 0) hx hb dL_refuses_695 (by decide) ?_
      refine lv_iconst (v := nI 0) hx hb dL_refuses_696 (by decide) ?_
      refine lv_iconst (v := nI 0) hx hb dL_refuses_697 (by decide) ?_
      refine lv_iconst (v := nI 0) hx hb dL_refuses_698 (by decide) ?_
      refine hs_calli w (vx_runSW (As := [.ref (a 0), .int (nI 3), .int (-2147483648), .int (nI 0), .int (nI 0), .int (nI 0), .int (nI 0)]) (rest := []) X (aF_put l hl0 G _ a _ _ hI (-2147483648) (nI 0) (nI 0) (nI 0) (nI 0) 2 (hf_put2 (hf_ok0 (Nat.pos_of_ne_zero q_684_2) (Nat.pos_of_ne_zero q_688_4) hnA hnJ) (by decide)) (by decide)) (vx_cwSW 7 hts gL_refuses_L_act rfl rfl rfl (by decide +kernel) ⟨Nat.le_of_ble_eq_true rfl, Nat.le_of_ble_eq_true rfl⟩) ⟨b_blind, fun U9 hU9 hW9 => ⟨rfl, hs_pre E Z9 w hm9 U9 hU9 hW9⟩⟩ rfl rfl hl.1 rfl (lv_room (Nat.le_of_ble_eq_true rfl)) dL_refuses_699 ⟨Nat.le_of_ble_eq_true rfl, Nat.le_of_ble_eq_true rfl⟩) hm9 (fun r i H locs hr w => ?_)
      obtain ⟨hI, hr9⟩ := hr
      refine b_tp (hr9.trans (show hs_r 2 = -72 from by decide)) ?_
      refine lv_bipush (v := -72) hx hb dL_refuses_702 (by decide) ?_
      refine lv_icmp_ne (tgt := 806) hx hb dL_refuses_704 (by decide) (fun c9 => absurd rfl c9) (fun c9 => ?_)
      refine lv_aload_n hx hb dL_refuses_707 rfl (lv_at hl 2 rfl) ?_
      refine lv_iconst (v := nI 3) hx hb dL_refuses_708 (by decide) ?_
      refine lv_iconst (v := nI 2) hx hb dL_refuses_709 (by decide) ?_
      refine lv_iconst (v := nI 0) hx hb dL_refuses_710 (by decide) ?_
      refine lv_iconst (v := nI 0) hx hb dL_refuses_711 (by decide) ?_
      refine lv_iconst (v := nI 0) hx hb dL_refuses_712 (by decide) ?_
      refine lv_iload hx hb dL_refuses_713 (lv_at hl 9 rfl) ?_
      refine lv_if_ne (tgt := 723) hx hb dL_refuses_715 (by decide) (fun c9 => ?_) (fun c9 => absurd c9 (by decide))
      refine lv_iload hx hb dL_refuses_723 (lv_at hl 9 rfl) ?_
      refine lv_iconst (v := nI 1) hx hb dL_refuses_725 (by decide) ?_
      refine lv_icmp_ne (tgt := 734) hx hb dL_refuses_726 (by decide) (fun c9 => ?_) (fun c9 => absurd c9 (by decide))
      refine lv_iload hx hb dL_refuses_734 (lv_at hl 10 rfl) ?_
      refine hs_calli w (vx_runSW (As := [.ref (a 0), .int (nI 3), .int (nI 2), .int (nI 0), .int (nI 0), .int (nI 0), .int (-2147483648)]) (rest := []) X (aF_put l hl0 G _ a _ _ hI (nI 2) (nI 0) (nI 0) (nI 0) (-2147483648) 2 (hf_put2 (hf_ok0 (Nat.pos_of_ne_zero q_684_2) (Nat.pos_of_ne_zero q_688_4) hnA hnJ) (by decide)) (by decide)) (vx_cwSW 7 hts gL_refuses_L_act rfl rfl rfl (by decide +kernel) ⟨Nat.le_of_ble_eq_true rfl, Nat.le_of_ble_eq_true rfl⟩) ⟨b_blind, fun U9 hU9 hW9 => ⟨rfl, hs_pre E Z9 w hm9 U9 hU9 hW9⟩⟩ rfl rfl hl.1 rfl (lv_room (Nat.le_of_ble_eq_true rfl)) dL_refuses_736 ⟨Nat.le_of_ble_eq_true rfl, Nat.le_of_ble_eq_true rfl⟩) hm9 (fun r i H locs hr w => ?_)
      obtain ⟨hI, hr9⟩ := hr
      refine b_tp (hr9.trans (show hs_r 2 = -72 from by decide)) ?_
      refine lv_bipush (v := -72) hx hb dL_refuses_739 (by decide) ?_
      refine lv_icmp_ne (tgt := 806) hx hb dL_refuses_741 (by decide) (fun c9 => absurd rfl c9) (fun c9 => ?_)
      refine lv_aload_n hx hb dL_refuses_744 rfl (lv_at hl 2 rfl) ?_
      refine lv_bipush (v := nI 8) hx hb dL_refuses_745 (by decide) ?_
      refine lv_iconst (v := nI 0) hx hb dL_refuses_747 (by decide) ?_
      refine lv_iconst (v := nI 0) hx hb dL_refuses_748 (by decide) ?_
      refine lv_iconst (v := nI 0) hx hb dL_refuses_749 (by decide) ?_
      refine lv_iload hx hb dL_refuses_750 (lv_at hl 9 rfl) ?_
      refine lv_iconst (v := nI 1) hx hb dL_refuses_752 (by decide) ?_
      refine lv_icmp_ne (tgt := 762) hx hb dL_refuses_753 (by decide) (fun c9 => ?_) (fun c9 => absurd c9 (by decide))
      refine lv_iload hx hb dL_refuses_762 (lv_at hl 10 rfl) ?_
      refine lv_iconst (v := nI 0) hx hb dL_refuses_764 (by decide) ?_
      refine hs_calli w (vx_runSW (As := [.ref (a 0), .int (nI 8), .int (nI 0), .int (nI 0), .int (nI 0), .int (-2147483648), .int (nI 0)]) (rest := []) X (aF_figure l hl0 G _ a _ _ hI (nI 0) (nI 0) (nI 0) (-2147483648) (nI 0) 2 (hf_figure2 (hf_ok0 (Nat.pos_of_ne_zero q_684_2) (Nat.pos_of_ne_zero q_688_4) hnA hnJ) (hn_dlo (by decide))) (by decide)) (vx_cwSW 7 hts gL_refuses_L_act rfl rfl rfl (by decide +kernel) ⟨Nat.le_of_ble_eq_true rfl, Nat.le_of_ble_eq_true rfl⟩) ⟨b_blind, fun U9 hU9 hW9 => ⟨rfl, hs_pre E Z9 w hm9 U9 hU9 hW9⟩⟩ rfl rfl hl.1 rfl (lv_room (Nat.le_of_ble_eq_true rfl)) dL_refuses_765 ⟨Nat.le_of_ble_eq_true rfl, Nat.le_of_ble_eq_true rfl⟩) hm9 (fun r i H locs hr w => ?_)
      obtain ⟨hI, hr9⟩ := hr
      refine b_tp (hr9.trans (show hs_r 2 = -72 from by decide)) ?_
      refine lv_bipush (v := -72) hx hb dL_refuses_768 (by decide) ?_
      refine lv_icmp_ne (tgt := 806) hx hb dL_refuses_770 (by decide) (fun c9 => absurd rfl c9) (fun c9 => ?_)
      refine lv_aload_n hx hb dL_refuses_773 rfl (lv_at hl 2 rfl) ?_
      refine lv_bipush (v := nI 9) hx hb dL_refuses_774 (by decide) ?_
      refine lv_iconst (v := nI 0) hx hb dL_refuses_776 (by decide) ?_
      refine lv_iconst (v := nI 0) hx hb dL_refuses_777 (by decide) ?_
      refine lv_iconst (v := nI 0) hx hb dL_refuses_778 (by decide) ?_
      refine lv_iload hx hb dL_refuses_779 (lv_at hl 9 rfl) ?_
      refine lv_iconst (v := nI 1) hx hb dL_refuses_781 (by decide) ?_
      refine lv_icmp_ne (tgt := 791) hx hb dL_refuses_782 (by decide) (fun c9 => ?_) (fun c9 => absurd c9 (by decide))
      refine lv_iload hx hb dL_refuses_791 (lv_at hl 10 rfl) ?_
      refine lv_iconst (v := nI 0) hx hb dL_refuses_793 (by decide) ?_
      refine hs_calli w (vx_runSW (As := [.ref (a 0), .int (nI 9), .int (nI 0), .int (nI 0), .int (nI 0), .int (-2147483648), .int (nI 0)]) (rest := []) X (aF_value l hl0 G _ a _ _ hI (nI 0) (nI 0) (nI 0) (-2147483648) (nI 0) 2 (hf_value2 (hf_ok0 (Nat.pos_of_ne_zero q_684_2) (Nat.pos_of_ne_zero q_688_4) hnA hnJ) (hn_dlo (by decide))) (by decide)) (vx_cwSW 7 hts gL_refuses_L_act rfl rfl rfl (by decide +kernel) ⟨Nat.le_of_ble_eq_true rfl, Nat.le_of_ble_eq_true rfl⟩) ⟨b_blind, fun U9 hU9 hW9 => ⟨rfl, hs_pre E Z9 w hm9 U9 hU9 hW9⟩⟩ rfl rfl hl.1 rfl (lv_room (Nat.le_of_ble_eq_true rfl)) dL_refuses_794 ⟨Nat.le_of_ble_eq_true rfl, Nat.le_of_ble_eq_true rfl⟩) hm9 (fun r i H locs hr w => ?_)
      obtain ⟨hI, hr9⟩ := hr
      refine b_tp (hr9.trans (show hs_r 2 = -72 from by decide)) ?_
      refine lv_bipush (v := -72) hx hb dL_refuses_797 (by decide) ?_
      refine lv_icmp_ne (tgt := 806) hx hb dL_refuses_799 (by decide) (fun c9 => absurd rfl c9) (fun c9 => ?_)
      refine lv_iconst (v := nI 1) hx hb dL_refuses_802 (by decide) ?_
      refine lv_goto (tgt := 807) hx hb dL_refuses_803 (by decide) ?_
      refine lv_istore (lv' := [(15, .int (nI 1)), (16, .int (nI 14)), (0, .ref (a 0)), (1, .int (nI (hs_nA x))), (2, .int (nI (hs_nJ x))), (3, .int (nI (hs_td x))), (4, .int 2147483647), (5, .int (hV_hidden x (nI 5))), (6, .int (hV_find x (-1) (-1) (nI 0) (nI 11) (nI 0) (nI 0))), (7, .int (nI 3)), (8, .int (-2147483648)), (9, .int (-2147483648)), (10, .int (-2147483648)), (11, .int (-2147483648)), (12, .int (-2147483648)), (13, .int (-2147483648)), (14, .int (-2147483648))]) hx hb dL_refuses_807 hl (by decide) rfl (fun ls hl => ?_)
      refine lv_iload hx hb dL_refuses_809 (lv_at hl 0 rfl) ?_
      refine lv_if_ne (tgt := 816) hx hb dL_refuses_811 (by decide) (fun c9 => ?_) (fun c9 => absurd c9 (by decide))
      refine lv_iinc (v := nI 4) (lv' := [(7, .int (nI 4)), (15, .int (nI 1)), (16, .int (nI 14)), (0, .ref (a 0)), (1, .int (nI (hs_nA x))), (2, .int (nI (hs_nJ x))), (3, .int (nI (hs_td x))), (4, .int 2147483647), (5, .int (hV_hidden x (nI 5))), (6, .int (hV_find x (-1) (-1) (nI 0) (nI 11) (nI 0) (nI 0))), (8, .int (-2147483648)), (9, .int (-2147483648)), (10, .int (-2147483648)), (11, .int (-2147483648)), (12, .int (-2147483648)), (13, .int (-2147483648)), (14, .int (-2147483648))]) hx hb dL_refuses_816 hl (k := 9) rfl (by decide) (by decide) rfl (fun ls hl => ?_)
      refine lv_goto (tgt := 27) hx hb dL_refuses_819 (by decide) ?_
      exact kk i _ _ _ hI w (lv_sub hl [3, 4, 5, 6, 7, 8, 9, 0] rfl)
set_option maxHeartbeats 4000000 in
set_option maxRecDepth 100000 in
theorem c_refuses (l : Launch) (hl0 : l.stackTraces = false) (G : bG) (sz : Nat) (a : Nat → Nat) (x : hs_E) (i : hs_I) (hi : hs_Inv x i) (n1 n2 n3 : Nat) (hn : n1 = hs_nA x ∧ n2 = hs_nJ x ∧ n3 = hs_td x)  : Met l yL_refuses wsL_refuses ({ frames := 9, cells := 324, slots := 1944, locals := 201 }) (va_Pc [.ref (a 0), .int (nI n1), .int (nI n2), .int (nI n3)] (bPre G vwCl bNW bSW sz (hs_W G a x i) (hs_M a))) (va_Qi (fun (r : Int32) (j : hs_I) => hs_Inv x j ∧ r = nI 1) (fun (j : hs_I) (tS : State) => va_P G.1 vwCl (hs_W G a x j) tS.heap) (Aw (hs_M a) sz)) 324 1944 (Aw (hs_M a) sz) := by
  obtain ⟨rfl, rfl, rfl⟩ := hn
  refine Met.ofW (cc := cL_refuses) (maxL := 17) (ret := (some .boolean)) (by decide) rfl ?_
  intro p e s m args below meth c s₁ B hml hv
  obtain ⟨rfl, hsz, hP, hD, E, Z⟩ := hv
  have hts := atoms_spec (ws := wsL_refuses) B.pre
  have hown : s.vm.findClass RL = some m.cls := findClass_of_methodNamed B.named
  have X : CallFix p m c cL_refuses 17 s _ wsL_refuses RL := ⟨B.exec, B.bytes, hml, hown, hts⟩
  have hx := B.exec
  have hb := B.bytes
  have hr0 := B.returns
  have hlocks := B.notSynchronized
  have hts2 : ∀ w, w ∈ wsL_refuses → w ∈ wsL_refuses := fun _ h9 => h9
  subst hsz
  have w : bSt G vwCl [] s (hs_W G a x i) s.heap [] := ⟨hP, va_S.rf, hD⟩
  have w := b_wide (hs_M a) b_nil w
  have hm9 : ∀ q ∈ hs_M a, Aw (hs_M a) s.heap.size q := fun q h => Or.inl h
  have Z9 : bZ (hs_M a) s := Z
  have hI := hi
  have hl := lv_entry ([.ref (a 0), .int (nI (hs_nA x)), .int (nI (hs_nJ x)), .int (nI (hs_td x))]) (n := 17) (Nat.le_of_ble_eq_true rfl)
  rw [lg_entry_eq]
  generalize (lg_sl ([.ref (a 0), .int (nI (hs_nA x)), .int (nI (hs_nJ x)), .int (nI (hs_td x))]) ++ List.replicate (17 - (lg_sl ([.ref (a 0), .int (nI (hs_nA x)), .int (nI (hs_nJ x)), .int (nI (hs_td x))])).length) Slot.unset).toArray = ls at hl ⊢
  have hl : lv_has ls 17 [(0, .ref (a 0)), (1, .int (nI (hs_nA x))), (2, .int (nI (hs_nJ x))), (3, .int (nI (hs_td x)))] := hl
  refine sg_refuses_0 hl0 X E Z9 hm9 hI w hl (fun i H locs ls hI w hl => ?_)
  refine sg_refuses_1 hl0 X E Z9 hm9 hI w hl (fun i H locs ls hI w hl => ?_)
  refine sg_refuses_2 hl0 X E Z9 hm9 hI w hl (fun i H locs ls hI w hl => ?_)
  refine sg_refuses_3 hl0 X E Z9 hm9 hI w hl (fun i H locs ls hI w hl => ?_)
  refine sg_refuses_4 hl0 X E Z9 hm9 hI w hl (fun i H locs ls hI w hl => ?_)
  refine sg_refuses_5 hl0 X E Z9 hm9 hI w hl (fun i H locs ls hI w hl => ?_)
  refine sg_refuses_6 hl0 X E Z9 hm9 hI w hl (fun i H locs ls hI w hl => ?_)
  refine sg_refuses_7 hl0 X E Z9 hm9 hI w hl (fun i H locs ls hI w hl => ?_)
  refine sg_refuses_8 hl0 X E Z9 hm9 hI w hl (fun i H locs ls hI w hl => ?_)
  refine lv_iload hx hb dL_refuses_27 (lv_at hl 7 rfl) ?_
  refine lv_iconst (v := nI 4) hx hb dL_refuses_29 (by decide) ?_
  refine lv_icmp_ge (tgt := 822) hx hb dL_refuses_30 (by decide) (fun c9 => ?_) (fun c9 => absurd (by decide) c9)
  refine lv_aload_n hx hb dL_refuses_822 rfl (lv_at hl 0 rfl) ?_
  refine lv_iconst (v := nI 5) hx hb dL_refuses_823 (by decide) ?_
  refine hs_calli w (va_runV (As := [.int (nI 5)]) (rest := []) X (n_hidden l hl0 G _ a _ _ _ _ hI (nI 5) ⟨(show hs_t1 1 (tHas 12 (nI 5)) = 0 from by decide), rfl, rfl⟩) (cwV 1 hts gL_refuses_X5_hidden rfl rfl rfl (by decide +kernel) ⟨Nat.le_of_ble_eq_true rfl, Nat.le_of_ble_eq_true rfl⟩) ⟨b_blind, hs_recv E w, fun U9 hU9 hW9 => ⟨rfl, hs_pre E Z9 w hm9 U9 hU9 hW9⟩⟩ rfl rfl hl.1 rfl (lv_room (Nat.le_of_ble_eq_true rfl)) dL_refuses_824 ⟨Nat.le_of_ble_eq_true rfl, Nat.le_of_ble_eq_true rfl⟩) hm9 (fun r i H locs hr w => ?_)
  obtain ⟨hI, hr9, -⟩ := hr
  refine b_tp hr9 ?_
  refine lv_iload hx hb dL_refuses_827 (lv_at hl 5 rfl) ?_
  refine lv_icmp_ne (tgt := 852) hx hb dL_refuses_829 (by decide) (fun c9 => absurd rfl c9) (fun c9 => ?_)
  refine lv_aload_n hx hb dL_refuses_832 rfl (lv_at hl 0 rfl) ?_
  refine lv_iconst (v := -1) hx hb dL_refuses_833 (by decide) ?_
  refine lv_iconst (v := -1) hx hb dL_refuses_834 (by decide) ?_
  refine lv_iconst (v := nI 0) hx hb dL_refuses_835 (by decide) ?_
  refine lv_bipush (v := nI 11) hx hb dL_refuses_836 (by decide) ?_
  refine lv_iconst (v := nI 0) hx hb dL_refuses_838 (by decide) ?_
  refine lv_iconst (v := nI 0) hx hb dL_refuses_839 (by decide) ?_
  refine hs_calli w (vx_runSW (As := [.ref (a 0), .int (-1), .int (-1), .int (nI 0), .int (nI 11), .int (nI 0), .int (nI 0)]) (rest := []) X (fS l hl0 G _ a _ _ hI (-1) (-1) (nI 0) (nI 11) (nI 0) (nI 0) _ ⟨hf_find0 (by decide) (by decide), rfl, rfl⟩) (vx_cwSW 7 hts gL_refuses_L_find rfl rfl rfl (by decide +kernel) ⟨Nat.le_of_ble_eq_true rfl, Nat.le_of_ble_eq_true rfl⟩) ⟨b_blind, fun U9 hU9 hW9 => ⟨rfl, hs_pre E Z9 w hm9 U9 hU9 hW9⟩⟩ rfl rfl hl.1 rfl (lv_room (Nat.le_of_ble_eq_true rfl)) dL_refuses_840 ⟨Nat.le_of_ble_eq_true rfl, Nat.le_of_ble_eq_true rfl⟩) hm9 (fun r i H locs hr w => ?_)
  obtain ⟨hI, hr9⟩ := hr
  refine b_tp hr9 ?_
  refine lv_iload hx hb dL_refuses_843 (lv_at hl 6 rfl) ?_
  refine lv_icmp_ne (tgt := 852) hx hb dL_refuses_845 (by decide) (fun c9 => absurd rfl c9) (fun c9 => ?_)
  refine lv_iconst (v := nI 1) hx hb dL_refuses_848 (by decide) ?_
  refine lv_goto (tgt := 853) hx hb dL_refuses_849 (by decide) ?_
  exact W.zret (v := nI 1) hx hb hr0 rfl (fun t9 ht9 hW9 => ⟨⟨nI 1, i, rfl, ⟨hI, rfl⟩, (by show va_P G.1 vwCl (hs_W G a x i) t9.heap; rw [ht9]; exact w.1)⟩, w.2.1.F ht9⟩) w.2.1.2.2 dL_refuses_853
