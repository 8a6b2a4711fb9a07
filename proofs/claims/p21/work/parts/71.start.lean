set_option maxHeartbeats 4000000 in
set_option maxRecDepth 100000 in
theorem law_loop {p : Program} {l : Launch} (hl0 : l.stackTraces = false) {e : Env} {s : State} {m : MethodId} {below : List Frame} {meth : Method} {c : Code} {G : bG} {b : Nat} {Q : State → Prop} (X : CallFix p m c cL_law 16 s #[Value.ref b] wsL_law RL) (E : bE G vwCl bNW bSW s) {a : Nat → Nat} (Z9 : bZ [] s) (hm9 : ∀ q ∈ hs_M a, Aw [] s.heap.size q) {L : Nat} {xs : Nat → Int32} (hX : va_X b L xs s s.heap) (hbl : b < s.heap.size) (hL9 : L ≤ 260) (hr : meth.sig.returnType = ret) (hlocks : meth.locks = false) (hQ : Q = lw_Z below #[Value.ref b] s) : ∀ (n k cells slots : Nat) (x : hs_E) (i : hs_I) (H : Heap) (locs : List Loc) (ls : Array Slot), k + n = 60 → cells + 1000 * n ≤ 400000 → slots + 6000 * n ≤ 6000000 → hs_L x → hs_Inv x i → bSt G vwCl [] s (hs_W G a x i) H locs → lv_has ls 16 [(0, .ref b), (1, .ref (a 0)), (2, .int (nI (hs_nA x))), (3, .int (nI (hs_nJ x))), (4, .int (nI (hs_td x))), (5, .int (nI k))] → W p l e room_1 s m #[Value.ref b] below meth c H locs cells slots Q (F0 m 26 ls []) := by
  have hx := X.1
  have hb := X.2.1
  subst hQ
  intro n
  induction n with
  | zero =>
    intro k cells slots x i H locs ls h1 h2 h3 hL hI w hl
    have hk : k = 60 := by omega
    subst hk
    have hS := w.2.1
    refine lv_iload hx hb dL_law_26 (lv_at hl 5 rfl) ?_
    refine lv_bipush (v := nI 60) hx hb dL_law_28 (by decide) ?_
    refine lv_icmp_ge (tgt := 856) hx hb dL_law_30 (by decide) (fun c9 => ?_) (fun c9 => absurd (by decide) c9)
    refine lv_iconst (v := 1) hx hb dL_law_856 (by decide) ?_
    refine va_forget (fun q hq => (hS.2.2 q hq).elim (fun h => nomatch h) id) ?_
    refine W.widen (k := 600074) (n := 7301550) (by omega) (by omega) ?_
    exact lw_ret hx hb hr hlocks dL_law_857
  | succ n ih =>
    intro k cells slots x i H locs ls h1 h2 h3 hL hI w hl
    have hk : k < 60 := by omega
    refine lv_iload hx hb dL_law_26 (lv_at hl 5 rfl) ?_
    refine lv_bipush (v := nI 60) hx hb dL_law_28 (by decide) ?_
    refine lv_icmp_ge (tgt := 856) hx hb dL_law_30 (by decide) (fun c9 => absurd (q_le (by omega) (by omega) c9) (by omega)) (fun c9 => ?_)
    refine lp_head hl0 X E Z9 hm9 hX hbl hL9 hk w hl (fun q ls hq hl => ?_)
    refine lp_ops hl0 X E Z9 hm9 hq hL (by omega) (by omega) hI w hl (fun y hy x' i H locs ls hL hI w hl => ?_)
    refine lp_tail hl0 X E Z9 hm9 hy hk hL (by omega) (by omega) hI w hl (fun i H locs ls hI w hl => ?_)
    refine W.widen (k := cells + 1000) (n := slots + 6000) (by omega) (by omega) ?_
    exact ih (k + 1) (cells + 1000) (slots + 6000) x' i H locs ls (by omega) (by omega) (by omega) hL hI w hl
set_option maxHeartbeats 4000000 in
set_option maxRecDepth 100000 in
theorem whole_start {p : Program} {e : Env} {s : State} {m : MethodId} {below : List Frame} {meth : Method} {c : Code} (l : Launch) (hflags : l.flags = flags0) {b L : Nat} {xs : Nat → Int32} (hL : L ≤ 260) (C0 : lw_At p s m meth c b L xs) : W p l e room_1 s m #[Value.ref b] below meth c s.heap [] 0 0 (lw_Z below #[Value.ref b] s) (entryFrame m ([Value.ref b] : List Value).toArray 16) := by
  obtain ⟨hx, hb, hret9, hml, hown, htsT, hX, hbl, hlocks, hgv⟩ := C0
  have hl0 : l.stackTraces = false := by rw [Launch.stackTraces, hflags]; decide +kernel
  have hts : ∀ w ∈ wsL_law, w.before #[Value.ref b] s = true := fun w h => htsT w (wsL_law_in w h)
  have hts2 : ∀ w, w ∈ wsL_law → w ∈ wsL_law := fun _ h9 => h9
  obtain ⟨G, hK⟩ := en_K htsT hts
  have E : bE G vwCl bNW bSW s := ⟨hK, en_nw htsT hgv, en_sw htsT hgv⟩
  have Z0 : bZ [] s := en_z htsT hgv
  have Z9 : bZ [] s := Z0
  have hown : s.vm.findClass RL = some m.cls := hown
  have X : CallFix p m c cL_law 16 s #[Value.ref b] wsL_law RL := ⟨hx, hb, hml, hown, hts⟩
  have w : bSt G vwCl [] s [] s.heap [] := ⟨fun k q h => by simp at h, va_S.rf, fun i j a h => by simp at h⟩
  have iX5 : ∀ w ∈ wsX50, w ∈ wsL_law := en_sub5
  have hl := lv_entry ([.ref b]) (n := 16) (Nat.le_of_ble_eq_true rfl)
  rw [lg_entry_eq]
  generalize (lg_sl ([.ref b]) ++ List.replicate (16 - (lg_sl ([.ref b])).length) Slot.unset).toArray = ls at hl ⊢
  have hl : lv_has ls 16 [(0, .ref b)] := hl
  refine b_calli w (va_runS (As := []) (rest := []) X (c_house l hl0 G _) (va_cwS 0 hts gL_law_L_house rfl rfl rfl (by decide +kernel) ⟨Nat.le_of_ble_eq_true rfl, Nat.le_of_ble_eq_true rfl⟩) ⟨b_blind, fun U9 hU9 hW9 => ⟨rfl, b_pre E Z9 w [] (by decide) rfl b_nil U9 hU9 hW9⟩⟩ rfl rfl hl.1 rfl (lv_room (Nat.le_of_ble_eq_true rfl)) dL_law_0 ⟨Nat.le_of_ble_eq_true rfl, Nat.le_of_ble_eq_true rfl⟩) b_nil [] (fun _ => rfl) rfl (fun r _ H locs hr w => ?_)
  have w : bSt G vwCl [] s [] _ _ := w
  have hr9 := hr
  refine b_tp hr9 ?_
  refine lv_if_ne (tgt := 8) hx hb dL_law_3 (by decide) (fun c9 => ?_) (fun c9 => absurd c9 (by decide))
  refine b_new X E w (fs := [.null, .null, .null, .null, .null, .null, .null, .null, .int (nI 0), .int (nI 0), .int (nI 0)]) (ci := 5) iX5 tyX5 tyX5_ok (hts2 (.classLink RL 8 RX5) (by decide +kernel)) (hts2 (.instantiable RX5 11) (by decide +kernel)) (hts2 (.initialized RX5) (by decide +kernel)) rfl (by decide) (Nat.le_of_ble_eq_true rfl) (Nat.le_of_ble_eq_true rfl) dL_law_8 (fun q8 H hq8 w => ?_)
  have w : bSt G vwCl [] s [(q8, .inr (5, [.null, .null, .null, .null, .null, .null, .null, .null, .int (nI 0), .int (nI 0), .int (nI 0)]))] _ _ := w
  refine lv_dup hx hb dL_law_11 rfl ?_
  refine b_callc w (va_runI (As := []) (rest := [.ref q8]) X (c_X5_init l hl0 G _ (h := q8)) (cwI 0 hts gL_law_X5_init rfl rfl rfl (hts (.initialized RX5) (by decide +kernel)) (hts (.methodLink RL 86 yX5_init) (by decide +kernel)) (hts (.instanceMethod yX5_init) (by decide +kernel)) rfl (by decide +kernel) ⟨Nat.le_of_ble_eq_true rfl, Nat.le_of_ble_eq_true rfl⟩) ⟨b_blind, fun U9 hU9 hW9 => ⟨rfl, b_pre E Z0 w [0] (by decide) rfl (b_inc (Or.inr hq8) b_inn) U9 hU9 hW9⟩⟩ rfl rfl hl.1 rfl (lv_room (Nat.le_of_ble_eq_true rfl)) dL_law_12 ⟨Nat.le_of_ble_eq_true rfl, Nat.le_of_ble_eq_true rfl⟩) (Or.inr hq8) 0 (fun _ => rfl) rfl (fun u12 H locs _ hnu12 w => ?_)
  have w : bSt G vwCl [] s [(q8, .inr (5, [.ref (u12 0), .ref (u12 2), .ref (u12 4), .ref (u12 6), .ref (u12 11), .ref (u12 19), .ref (u12 22), .ref (u12 23), .int (nI 0), .int (nI 0), .int (nI 0)])), ((u12 0), .inr (4, [.ref (u12 1), .int (nI 10), .int (nI 0)])), ((u12 1), .inl (G.2.1, 14, .inl (fun _ => 0))), ((u12 2), .inr (4, [.ref (u12 3), .int (nI 1), .int (nI 0)])), ((u12 3), .inl (G.2.1, 10, .inl (fun _ => 0))), ((u12 4), .inr (0, [.ref (u12 5)])), ((u12 5), .inl (G.2.2.1, 56, .inl (zB (fun _ => false)))), ((u12 6), .inr (2, [.ref (u12 7), .ref (u12 8), .ref (u12 9), .ref (u12 10), .int (nI 0)])), ((u12 7), .inl (G.2.1, 16, .inl (fun _ => 0))), ((u12 8), .inl (G.2.1, 16, .inl (fun _ => 0))), ((u12 9), .inl (G.2.1, 16, .inl (fun _ => 0))), ((u12 10), .inl (G.2.1, 16, .inl (fun _ => 0))), ((u12 11), .inr (1, [.ref (u12 12), .ref (u12 13), .ref (u12 14), .ref (u12 15), .ref (u12 16), .ref (u12 17), .ref (u12 18), .int (nI 0)])), ((u12 12), .inl (G.2.1, 1680, .inl (fillF (fun _ => 0) MIS 1680))), ((u12 13), .inl (G.2.1, 1680, .inl (fillF (fun _ => 0) MIS 1680))), ((u12 14), .inl (G.2.1, 1680, .inl (fun _ => 0))), ((u12 15), .inl (G.2.1, 1680, .inl (fun _ => 0))), ((u12 16), .inl (G.2.1, 300, .inl (fun _ => 0))), ((u12 17), .inl (G.2.1, 300, .inl (fun _ => 0))), ((u12 18), .inl (G.2.1, 300, .inl (fun _ => 0))), ((u12 19), .inr (3, [.ref (u12 20), .ref (u12 21)])), ((u12 20), .inl (G.2.1, 140, .inl (fun _ => 0))), ((u12 21), .inl (G.2.2.1, 140, .inl (zB (fun _ => false)))), ((u12 22), .inl (G.2.2.1, 1680, .inl (zB (fun _ => false)))), ((u12 23), .inl (G.2.1, 16, .inl (fun _ => 0)))] _ _ := w
  refine lv_astore_n (lv' := [(1, .ref q8), (0, .ref b)]) hx hb dL_law_15 rfl hl (by decide) rfl (fun ls hl => ?_)
  have h5 : ∀ k, k < 24 → s.heap.size ≤ u12 k := fun k hk => hnu12 _ (List.mem_of_getElem? (i := k) (by rcases (show k = 0 ∨ k = 1 ∨ k = 2 ∨ k = 3 ∨ k = 4 ∨ k = 5 ∨ k = 6 ∨ k = 7 ∨ k = 8 ∨ k = 9 ∨ k = 10 ∨ k = 11 ∨ k = 12 ∨ k = 13 ∨ k = 14 ∨ k = 15 ∨ k = 16 ∨ k = 17 ∨ k = 18 ∨ k = 19 ∨ k = 20 ∨ k = 21 ∨ k = 22 ∨ k = 23 by omega) with rfl | rfl | rfl | rfl | rfl | rfl | rfl | rfl | rfl | rfl | rfl | rfl | rfl | rfl | rfl | rfl | rfl | rfl | rfl | rfl | rfl | rfl | rfl | rfl <;> rfl))
  have hm9 : ∀ z ∈ hs_M (hs_ad q8 u12), Aw [] s.heap.size z := hs_new hq8 h5
  have w : bSt G vwCl [] s (hs_W G (hs_ad q8 u12) hs_e0 hs_i0) _ _ := w
  have hI := hs_inv0
  have hl : lv_has ls 16 [(1, .ref (hs_ad q8 u12 0)), (0, .ref b)] := hl
  obtain ⟨a, ha9⟩ : ∃ a, a = hs_ad q8 u12 := ⟨_, rfl⟩
  rw [← ha9] at hm9 w hl
  refine lv_iconst (v := nI 0) hx hb dL_law_16 (by decide) ?_
  refine lv_istore_n (lv' := [(2, .int (nI 0)), (1, .ref (a 0)), (0, .ref b)]) hx hb dL_law_17 rfl hl (by decide) rfl (fun ls hl => ?_)
  refine lv_iconst (v := nI 0) hx hb dL_law_18 (by decide) ?_
  refine lv_istore_n (lv' := [(3, .int (nI 0)), (2, .int (nI 0)), (1, .ref (a 0)), (0, .ref b)]) hx hb dL_law_19 rfl hl (by decide) rfl (fun ls hl => ?_)
  refine lv_iconst (v := nI 0) hx hb dL_law_20 (by decide) ?_
  refine lv_istore (lv' := [(4, .int (nI 0)), (3, .int (nI 0)), (2, .int (nI 0)), (1, .ref (a 0)), (0, .ref b)]) hx hb dL_law_21 hl (by decide) rfl (fun ls hl => ?_)
  refine lv_iconst (v := nI 0) hx hb dL_law_23 (by decide) ?_
  refine lv_istore (lv' := [(5, .int (nI 0)), (4, .int (nI 0)), (3, .int (nI 0)), (2, .int (nI 0)), (1, .ref (a 0)), (0, .ref b)]) hx hb dL_law_24 hl (by decide) rfl (fun ls hl => ?_)
  exact law_loop hl0 X E Z9 hm9 hX hbl hL hret9 hlocks rfl 60 0 _ _ hs_e0 hs_i0 _ _ _ rfl (Nat.le_of_ble_eq_true rfl) (Nat.le_of_ble_eq_true rfl) (fun j hj => absurd hj (Nat.not_lt_zero j)) hI w (lv_sub hl [5, 4, 3, 2, 1, 0] rfl)
