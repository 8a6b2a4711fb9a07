set_option maxHeartbeats 4000000 in
set_option maxRecDepth 100000 in
theorem lp_line {p : Program} {l : Launch} (hl0 : l.stackTraces = false) {e : Env} {s : State} {m : MethodId} {below : List Frame} {meth : Method} {c : Code} {G : bG} {b : Nat} {Q : State → Prop} (X : CallFix p m c cL_law 16 s #[Value.ref b] wsL_law RL) (E : bE G vwCl bNW bSW s) {a : Nat → Nat} (Z9 : bZ [] s) (hm9 : ∀ q ∈ hs_M a, Aw [] s.heap.size q) {x u : hs_E} {k y z l9 j : Nat} (hy : y < 16777216) (hz : z < 16777216) (hA0 : 0 < hs_nA x) (hJ0 : 0 < hs_nJ x) (hnA : hs_nA x ≤ 14) (hnJ : hs_nJ x ≤ 10) (hP : hs_P x u j) (hj : j < 16) {i : hs_I} {H : Heap} {locs : List Loc} {ls : Array Slot} {cells slots : Nat} (hc : cells ≤ 500000) (hs : slots ≤ 7000000) (hI : hs_Inv u i) (w : bSt G vwCl [] s (hs_W G a u i) H locs) (hl : lv_has ls 16 [(0, .ref b), (1, .ref (a 0)), (2, .int (nI (hs_nA x))), (3, .int (nI (hs_nJ x))), (4, .int (nI (hs_td x))), (5, .int (nI k)), (8, .int (nI y)), (9, .int (nI z)), (10, .int (nI l9)), (11, .int (nI j))]) 
    (kk : ∀ (u : hs_E) (i : hs_I) (H : Heap) (locs : List Loc) (ls : Array Slot), hs_P x u (j + 1) → hs_Inv u i → bSt G vwCl [] s (hs_W G a u i) H locs → lv_has ls 16 [(0, .ref b), (1, .ref (a 0)), (2, .int (nI (hs_nA x))), (3, .int (nI (hs_nJ x))), (4, .int (nI (hs_td x))), (5, .int (nI k)), (8, .int (nI y)), (9, .int (nI z)), (10, .int (nI l9)), (11, .int (nI (j + 1)))] → W p l e room_1 s m #[Value.ref b] below meth c H locs (cells + 2) (slots + 12) Q (F0 m 240 ls [])) : W p l e room_1 s m #[Value.ref b] below meth c H locs cells slots Q (F0 m 247 ls []) := by
  have hx := X.1
  have hb := X.2.1
  have hml := X.2.2.1
  have hown := X.2.2.2.1
  have hts := X.2.2.2.2
  refine lv_aload_n hx hb dL_law_247 rfl (lv_at hl 1 rfl) ?_
  refine lv_iload hx hb dL_law_248 (lv_at hl 6 rfl) ?_
  refine lv_iload hx hb dL_law_250 (lv_at hl 9 rfl) ?_
  obtain ⟨us252_1, hus252_1, eus252_1⟩ := us_q (k := y) (j := j) (by omega) (by omega)
  refine lv_iushr (v := nI us252_1) hx hb dL_law_252 eus252_1 ?_
  refine lv_bipush (v := nI 8) hx hb dL_law_253 (by decide) ?_
  refine lv_irem hx hb dL_law_255 (by decide) ?_
  refine b_tp (pk_rem (by omega) (by decide) (by decide)) ?_
  refine lv_bipush (v := nI 6) hx hb dL_law_256 (by decide) ?_
  refine lv_icmp_ge (tgt := 265) hx hb dL_law_258 (by decide) (fun c_258_1 => ?_) (fun c_258_1 => ?_)
  · have q_258_2 : 6 ≤ us252_1 % 8 := q_le (by omega) (by omega) c_258_1
    refine lv_iload hx hb dL_law_265 (lv_at hl 6 rfl) ?_
    refine lv_iload hx hb dL_law_267 (lv_at hl 9 rfl) ?_
    obtain ⟨us269_2, hus269_2, eus269_2⟩ := us_q (k := y) (j := j) (by omega) (by omega)
    refine lv_iushr (v := nI us269_2) hx hb dL_law_269 eus269_2 ?_
    refine lv_iconst (v := nI 3) hx hb dL_law_270 (by decide) ?_
    refine lv_irem hx hb dL_law_271 (by decide) ?_
    refine b_tp (pk_rem (by omega) (by decide) (by decide)) ?_
    refine lv_iload hx hb dL_law_272 (lv_at hl 7 rfl) ?_
    refine lv_iconst (v := nI 3) hx hb dL_law_274 (by decide) ?_
    refine lv_iload hx hb dL_law_275 (lv_at hl 9 rfl) ?_
    refine lv_imul hx hb dL_law_277 ?_
    refine b_tp (show (nI 3) * (nI j) = nI (3 * j) from pk_mul 3 j) ?_
    refine lv_iadd hx hb dL_law_278 ?_
    refine b_tp (show (nI z) + (nI (3 * j)) = nI (z + 3 * j) from nI_add z (3 * j)) ?_
    refine lv_iload_n hx hb dL_law_279 rfl (lv_at hl 2 rfl) ?_
    refine lv_irem hx hb dL_law_280 (fun h9 => absurd ((nI_z (by omega)).mp h9) (by omega)) ?_
    refine b_tp (pk_rem (by omega) (by omega) (by omega)) ?_
    refine lv_iload hx hb dL_law_281 (lv_at hl 6 rfl) ?_
    refine lv_iconst (v := nI 5) hx hb dL_law_283 (by decide) ?_
    refine lv_iload hx hb dL_law_284 (lv_at hl 9 rfl) ?_
    refine lv_imul hx hb dL_law_286 ?_
    refine b_tp (show (nI 5) * (nI j) = nI (5 * j) from pk_mul 5 j) ?_
    refine lv_iadd hx hb dL_law_287 ?_
    refine b_tp (show (nI y) + (nI (5 * j)) = nI (y + 5 * j) from nI_add y (5 * j)) ?_
    refine lv_iload_n hx hb dL_law_288 rfl (lv_at hl 3 rfl) ?_
    refine lv_irem hx hb dL_law_289 (fun h9 => absurd ((nI_z (by omega)).mp h9) (by omega)) ?_
    refine b_tp (pk_rem (by omega) (by omega) (by omega)) ?_
    refine lv_iconst (v := nI 5) hx hb dL_law_290 (by decide) ?_
    refine lv_iload hx hb dL_law_291 (lv_at hl 6 rfl) ?_
    refine lv_iload hx hb dL_law_293 (lv_at hl 9 rfl) ?_
    obtain ⟨us295_3, hus295_3, eus295_3⟩ := us_q (k := y) (j := j) (by omega) (by omega)
    refine lv_iushr (v := nI us295_3) hx hb dL_law_295 eus295_3 ?_
    refine lv_iconst (v := nI 2) hx hb dL_law_296 (by decide) ?_
    refine lv_irem hx hb dL_law_297 (by decide) ?_
    refine b_tp (pk_rem (by omega) (by decide) (by decide)) ?_
    refine lv_iadd hx hb dL_law_298 ?_
    refine b_tp (show (nI 5) + (nI (us295_3 % 2)) = nI (5 + us295_3 % 2) from nI_add 5 (us295_3 % 2)) ?_
    refine lv_iload hx hb dL_law_299 (lv_at hl 7 rfl) ?_
    refine lv_bipush (v := nI 37) hx hb dL_law_301 (by decide) ?_
    refine lv_iload hx hb dL_law_303 (lv_at hl 9 rfl) ?_
    refine lv_imul hx hb dL_law_305 ?_
    refine b_tp (show (nI 37) * (nI j) = nI (37 * j) from pk_mul 37 j) ?_
    refine lv_iadd hx hb dL_law_306 ?_
    refine b_tp (show (nI z) + (nI (37 * j)) = nI (z + 37 * j) from nI_add z (37 * j)) ?_
    refine lv_bipush (v := nI 41) hx hb dL_law_307 (by decide) ?_
    refine lv_irem hx hb dL_law_309 (by decide) ?_
    refine b_tp (pk_rem (by omega) (by decide) (by decide)) ?_
    refine lv_bipush (v := nI 20) hx hb dL_law_310 (by decide) ?_
    refine lv_isub hx hb dL_law_312 ?_
    refine hs_calli w (va_runV (As := [.int (nI (us269_2 % 3)), .int (nI ((z + 3 * j) % (hs_nA x))), .int (nI ((y + 5 * j) % (hs_nJ x))), .int (nI (5 + us295_3 % 2)), .int ((nI ((z + 37 * j) % 41)) - (nI 20))]) (rest := []) X (n_put l hl0 G _ a _ _ _ _ hI (nI (us269_2 % 3)) (nI ((z + 3 * j) % (hs_nA x))) (nI ((y + 5 * j) % (hs_nJ x))) (nI (5 + us295_3 % 2)) ((nI ((z + 37 * j) % 41)) - (nI 20)) (la_put hP hj (by omega) (Nat.mod_lt _ hA0) (Nat.mod_lt _ hJ0) (by omega) (Nat.mod_lt _ (by decide)) hnA hnJ)) (cwV 5 hts gL_law_X5_put rfl rfl rfl (by decide +kernel) ⟨Nat.le_of_ble_eq_true rfl, Nat.le_of_ble_eq_true rfl⟩) ⟨b_blind, hs_recv E w, fun U9 hU9 hW9 => ⟨rfl, hs_pre E Z9 w hm9 U9 hU9 hW9⟩⟩ rfl rfl hl.1 rfl (lv_room (Nat.le_of_ble_eq_true rfl)) dL_law_313 ⟨by show _ ≤ 600074; omega, by show _ ≤ 7301550; omega⟩) hm9 (fun r i H locs hr w => ?_)
    obtain ⟨hI, hr9⟩ := hr
    refine b_tp hr9 ?_
    refine lv_iload hx hb dL_law_316 (lv_at hl 9 rfl) ?_
    refine lv_iconst (v := nI 1) hx hb dL_law_318 (by decide) ?_
    refine lv_iadd hx hb dL_law_319 ?_
    refine b_tp (show (nI j) + (nI 1) = nI (j + 1) from nI_add j 1) ?_
    refine lv_icmp_eq (tgt := 325) hx hb dL_law_320 (by decide) (fun c9 => ?_) (fun c9 => absurd rfl c9)
    refine lv_iinc (v := nI (j + 1)) (lv' := [(11, .int (nI (j + 1))), (0, .ref b), (1, .ref (a 0)), (2, .int (nI (hs_nA x))), (3, .int (nI (hs_nJ x))), (4, .int (nI (hs_td x))), (5, .int (nI k)), (8, .int (nI y)), (9, .int (nI z)), (10, .int (nI l9))]) hx hb dL_law_325 hl (k := 9) rfl (nI_add j 1) (by decide) rfl (fun ls hl => ?_)
    refine lv_goto (tgt := 240) hx hb dL_law_328 (by decide) ?_
    exact kk (hX_put u (nI (us269_2 % 3)) (nI ((z + 3 * j) % (hs_nA x))) (nI ((y + 5 * j) % (hs_nJ x))) (nI (5 + us295_3 % 2)) ((nI ((z + 37 * j) % 41)) - (nI 20))) i _ _ _ (la_P hP (Nat.mod_lt _ (by decide))) hI w (lv_sub hl [1, 2, 3, 4, 5, 6, 7, 8, 9, 0] rfl)
  · have q_258_2 : us252_1 % 8 < 6 := q_nle (by omega) (by omega) c_258_1
    refine lv_iconst (v := nI 0) hx hb dL_law_261 (by decide) ?_
    refine lv_goto (tgt := 272) hx hb dL_law_262 (by decide) ?_
    refine lv_iload hx hb dL_law_272 (lv_at hl 7 rfl) ?_
    refine lv_iconst (v := nI 3) hx hb dL_law_274 (by decide) ?_
    refine lv_iload hx hb dL_law_275 (lv_at hl 9 rfl) ?_
    refine lv_imul hx hb dL_law_277 ?_
    refine b_tp (show (nI 3) * (nI j) = nI (3 * j) from pk_mul 3 j) ?_
    refine lv_iadd hx hb dL_law_278 ?_
    refine b_tp (show (nI z) + (nI (3 * j)) = nI (z + 3 * j) from nI_add z (3 * j)) ?_
    refine lv_iload_n hx hb dL_law_279 rfl (lv_at hl 2 rfl) ?_
    refine lv_irem hx hb dL_law_280 (fun h9 => absurd ((nI_z (by omega)).mp h9) (by omega)) ?_
    refine b_tp (pk_rem (by omega) (by omega) (by omega)) ?_
    refine lv_iload hx hb dL_law_281 (lv_at hl 6 rfl) ?_
    refine lv_iconst (v := nI 5) hx hb dL_law_283 (by decide) ?_
    refine lv_iload hx hb dL_law_284 (lv_at hl 9 rfl) ?_
    refine lv_imul hx hb dL_law_286 ?_
    refine b_tp (show (nI 5) * (nI j) = nI (5 * j) from pk_mul 5 j) ?_
    refine lv_iadd hx hb dL_law_287 ?_
    refine b_tp (show (nI y) + (nI (5 * j)) = nI (y + 5 * j) from nI_add y (5 * j)) ?_
    refine lv_iload_n hx hb dL_law_288 rfl (lv_at hl 3 rfl) ?_
    refine lv_irem hx hb dL_law_289 (fun h9 => absurd ((nI_z (by omega)).mp h9) (by omega)) ?_
    refine b_tp (pk_rem (by omega) (by omega) (by omega)) ?_
    refine lv_iconst (v := nI 5) hx hb dL_law_290 (by decide) ?_
    refine lv_iload hx hb dL_law_291 (lv_at hl 6 rfl) ?_
    refine lv_iload hx hb dL_law_293 (lv_at hl 9 rfl) ?_
    obtain ⟨us295_4, hus295_4, eus295_4⟩ := us_q (k := y) (j := j) (by omega) (by omega)
    refine lv_iushr (v := nI us295_4) hx hb dL_law_295 eus295_4 ?_
    refine lv_iconst (v := nI 2) hx hb dL_law_296 (by decide) ?_
    refine lv_irem hx hb dL_law_297 (by decide) ?_
    refine b_tp (pk_rem (by omega) (by decide) (by decide)) ?_
    refine lv_iadd hx hb dL_law_298 ?_
    refine b_tp (show (nI 5) + (nI (us295_4 % 2)) = nI (5 + us295_4 % 2) from nI_add 5 (us295_4 % 2)) ?_
    refine lv_iload hx hb dL_law_299 (lv_at hl 7 rfl) ?_
    refine lv_bipush (v := nI 37) hx hb dL_law_301 (by decide) ?_
    refine lv_iload hx hb dL_law_303 (lv_at hl 9 rfl) ?_
    refine lv_imul hx hb dL_law_305 ?_
    refine b_tp (show (nI 37) * (nI j) = nI (37 * j) from pk_mul 37 j) ?_
    refine lv_iadd hx hb dL_law_306 ?_
    refine b_tp (show (nI z) + (nI (37 * j)) = nI (z + 37 * j) from nI_add z (37 * j)) ?_
    refine lv_bipush (v := nI 41) hx hb dL_law_307 (by decide) ?_
    refine lv_irem hx hb dL_law_309 (by decide) ?_
    refine b_tp (pk_rem (by omega) (by decide) (by decide)) ?_
    refine lv_bipush (v := nI 20) hx hb dL_law_310 (by decide) ?_
    refine lv_isub hx hb dL_law_312 ?_
    refine hs_calli w (va_runV (As := [.int (nI 0), .int (nI ((z + 3 * j) % (hs_nA x))), .int (nI ((y + 5 * j) % (hs_nJ x))), .int (nI (5 + us295_4 % 2)), .int ((nI ((z + 37 * j) % 41)) - (nI 20))]) (rest := []) X (n_put l hl0 G _ a _ _ _ _ hI (nI 0) (nI ((z + 3 * j) % (hs_nA x))) (nI ((y + 5 * j) % (hs_nJ x))) (nI (5 + us295_4 % 2)) ((nI ((z + 37 * j) % 41)) - (nI 20)) (la_put hP hj (by omega) (Nat.mod_lt _ hA0) (Nat.mod_lt _ hJ0) (by omega) (Nat.mod_lt _ (by decide)) hnA hnJ)) (cwV 5 hts gL_law_X5_put rfl rfl rfl (by decide +kernel) ⟨Nat.le_of_ble_eq_true rfl, Nat.le_of_ble_eq_true rfl⟩) ⟨b_blind, hs_recv E w, fun U9 hU9 hW9 => ⟨rfl, hs_pre E Z9 w hm9 U9 hU9 hW9⟩⟩ rfl rfl hl.1 rfl (lv_room (Nat.le_of_ble_eq_true rfl)) dL_law_313 ⟨by show _ ≤ 600074; omega, by show _ ≤ 7301550; omega⟩) hm9 (fun r i H locs hr w => ?_)
    obtain ⟨hI, hr9⟩ := hr
    refine b_tp hr9 ?_
    refine lv_iload hx hb dL_law_316 (lv_at hl 9 rfl) ?_
    refine lv_iconst (v := nI 1) hx hb dL_law_318 (by decide) ?_
    refine lv_iadd hx hb dL_law_319 ?_
    refine b_tp (show (nI j) + (nI 1) = nI (j + 1) from nI_add j 1) ?_
    refine lv_icmp_eq (tgt := 325) hx hb dL_law_320 (by decide) (fun c9 => ?_) (fun c9 => absurd rfl c9)
    refine lv_iinc (v := nI (j + 1)) (lv' := [(11, .int (nI (j + 1))), (0, .ref b), (1, .ref (a 0)), (2, .int (nI (hs_nA x))), (3, .int (nI (hs_nJ x))), (4, .int (nI (hs_td x))), (5, .int (nI k)), (8, .int (nI y)), (9, .int (nI z)), (10, .int (nI l9))]) hx hb dL_law_325 hl (k := 9) rfl (nI_add j 1) (by decide) rfl (fun ls hl => ?_)
    refine lv_goto (tgt := 240) hx hb dL_law_328 (by decide) ?_
    exact kk (hX_put u (nI 0) (nI ((z + 3 * j) % (hs_nA x))) (nI ((y + 5 * j) % (hs_nJ x))) (nI (5 + us295_4 % 2)) ((nI ((z + 37 * j) % 41)) - (nI 20))) i _ _ _ (la_P hP (Nat.mod_lt _ (by decide))) hI w (lv_sub hl [1, 2, 3, 4, 5, 6, 7, 8, 9, 0] rfl)
set_option maxHeartbeats 4000000 in
set_option maxRecDepth 100000 in
theorem lp_lines {p : Program} {l : Launch} (hl0 : l.stackTraces = false) {e : Env} {s : State} {m : MethodId} {below : List Frame} {meth : Method} {c : Code} {G : bG} {b : Nat} {Q : State → Prop} (X : CallFix p m c cL_law 16 s #[Value.ref b] wsL_law RL) (E : bE G vwCl bNW bSW s) {a : Nat → Nat} (Z9 : bZ [] s) (hm9 : ∀ q ∈ hs_M a, Aw [] s.heap.size q) {x : hs_E} {k y z l9 : Nat} (hy : y < 16777216) (hz : z < 16777216) (hA0 : 0 < hs_nA x) (hJ0 : 0 < hs_nJ x) (hnA : hs_nA x ≤ 14) (hnJ : hs_nJ x ≤ 10) (hl9 : l9 ≤ 8) : ∀ (n j cells slots : Nat) (u : hs_E) (i : hs_I) (H : Heap) (locs : List Loc) (ls : Array Slot), j + n = l9 → cells + 2 * n ≤ 500000 → slots + 12 * n ≤ 7000000 → hs_P x u j → hs_Inv u i → bSt G vwCl [] s (hs_W G a u i) H locs → lv_has ls 16 [(0, .ref b), (1, .ref (a 0)), (2, .int (nI (hs_nA x))), (3, .int (nI (hs_nJ x))), (4, .int (nI (hs_td x))), (5, .int (nI k)), (8, .int (nI y)), (9, .int (nI z)), (10, .int (nI l9)), (11, .int (nI j))] →
    (∀ (u : hs_E) (i : hs_I) (H : Heap) (locs : List Loc) (ls : Array Slot), hs_P x u l9 → hs_Inv u i → bSt G vwCl [] s (hs_W G a u i) H locs → lv_has ls 16 [(0, .ref b), (1, .ref (a 0)), (2, .int (nI (hs_nA x))), (3, .int (nI (hs_nJ x))), (4, .int (nI (hs_td x))), (5, .int (nI k)), (8, .int (nI y)), (9, .int (nI z)), (10, .int (nI l9))] → W p l e room_1 s m #[Value.ref b] below meth c H locs (cells + 2 * n) (slots + 12 * n) Q (F0 m 331 ls [])) → W p l e room_1 s m #[Value.ref b] below meth c H locs cells slots Q (F0 m 240 ls []) := by
  have hx := X.1
  have hb := X.2.1
  intro n
  induction n with
  | zero =>
    intro j cells slots u i H locs ls h1 h2 h3 hP hI w hl kk
    have hj : j = l9 := by omega
    subst hj
    refine lv_iload hx hb dL_law_240 (lv_at hl 9 rfl) ?_
    refine lv_iload hx hb dL_law_242 (lv_at hl 8 rfl) ?_
    refine lv_icmp_ge (tgt := 331) hx hb dL_law_244 (by decide) (fun c9 => ?_) (fun c9 => absurd ((nI_leI (by omega) (by omega)).mpr (Nat.le_refl j)) c9)
    exact kk u i _ _ _ hP hI w (lv_sub hl [0, 1, 2, 3, 4, 5, 6, 7, 8] rfl)
  | succ n ih =>
    intro j cells slots u i H locs ls h1 h2 h3 hP hI w hl kk
    refine lv_iload hx hb dL_law_240 (lv_at hl 9 rfl) ?_
    refine lv_iload hx hb dL_law_242 (lv_at hl 8 rfl) ?_
    refine lv_icmp_ge (tgt := 331) hx hb dL_law_244 (by decide) (fun c9 => absurd (q_le (by omega) (by omega) c9) (by omega)) (fun c9 => ?_)
    refine lp_line hl0 X E Z9 hm9 hy hz hA0 hJ0 hnA hnJ hP (by omega) (by omega) (by omega) hI w hl (fun u i H locs ls hP hI w hl => ?_)
    refine ih (j + 1) (cells + 2) (slots + 12) u i H locs ls (by omega) (by omega) (by omega) hP hI w hl (fun u i H locs ls hP hI w hl => ?_)
    rw [show cells + 2 + 2 * n = cells + 2 * (n + 1) by omega, show slots + 12 + 12 * n = slots + 12 * (n + 1) by omega]
    exact kk u i H locs ls hP hI w hl
set_option maxHeartbeats 4000000 in
set_option maxRecDepth 100000 in
theorem lp_ref {p : Program} {l : Launch} (hl0 : l.stackTraces = false) {e : Env} {s : State} {m : MethodId} {below : List Frame} {meth : Method} {c : Code} {G : bG} {b : Nat} {Q : State → Prop} (X : CallFix p m c cL_law 16 s #[Value.ref b] wsL_law RL) (E : bE G vwCl bNW bSW s) {a : Nat → Nat} (Z9 : bZ [] s) (hm9 : ∀ q ∈ hs_M a, Aw [] s.heap.size q) {x u : hs_E} {k y l9 j : Nat} (hjd : hs_jd u = l9) (hj : j < l9) (hl9 : l9 ≤ 16) {i : hs_I} {H : Heap} {locs : List Loc} {ls : Array Slot} {cells slots : Nat} (hc : cells ≤ 500000) (hs : slots ≤ 7000000) (hI : hs_Inv u i) (w : bSt G vwCl [] s (hs_W G a u i) H locs) (hl : lv_has ls 16 [(0, .ref b), (1, .ref (a 0)), (2, .int (nI (hs_nA x))), (3, .int (nI (hs_nJ x))), (4, .int (nI (hs_td x))), (5, .int (nI k)), (8, .int (nI y)), (10, .int (nI l9)), (11, .int (nI (hs_cnt u j))), (12, .int (nI (hs_cnt u l9))), (13, .int (nI j))]) 
    (kk : ∀ (i : hs_I) (H : Heap) (locs : List Loc) (ls : Array Slot), hs_Inv u i → bSt G vwCl [] s (hs_W G a u i) H locs → lv_has ls 16 [(0, .ref b), (1, .ref (a 0)), (2, .int (nI (hs_nA x))), (3, .int (nI (hs_nJ x))), (4, .int (nI (hs_td x))), (5, .int (nI k)), (8, .int (nI y)), (10, .int (nI l9)), (11, .int (nI (hs_cnt u (j + 1)))), (12, .int (nI (hs_cnt u l9))), (13, .int (nI (j + 1)))] → W p l e room_1 s m #[Value.ref b] below meth c H locs (cells + 1) (slots + 6) Q (F0 m 352 ls [])) : W p l e room_1 s m #[Value.ref b] below meth c H locs cells slots Q (F0 m 364 ls []) := by
  have hx := X.1
  have hb := X.2.1
  have hml := X.2.2.1
  have hown := X.2.2.2.1
  have hts := X.2.2.2.2
  refine lv_iload hx hb dL_law_364 (lv_at hl 8 rfl) ?_
  refine lv_aload_n hx hb dL_law_366 rfl (lv_at hl 1 rfl) ?_
  refine lv_iload hx hb dL_law_367 (lv_at hl 10 rfl) ?_
  refine hs_calli w (va_runV (As := [.int (nI j)]) (rest := [.int (nI (hs_cnt u j))]) X (n_refusal l hl0 G _ a _ _ _ _ hI (nI j) (la_ref hjd hj hl9)) (cwV 1 hts gL_law_X5_refusal rfl rfl rfl (by decide +kernel) ⟨Nat.le_of_ble_eq_true rfl, Nat.le_of_ble_eq_true rfl⟩) ⟨b_blind, hs_recv E w, fun U9 hU9 hW9 => ⟨rfl, hs_pre E Z9 w hm9 U9 hU9 hW9⟩⟩ rfl rfl hl.1 rfl (lv_room (Nat.le_of_ble_eq_true rfl)) dL_law_369 ⟨by show _ ≤ 600074; omega, by show _ ≤ 7301550; omega⟩) hm9 (fun r i H locs hr w => ?_)
  obtain ⟨hI, hr9⟩ := hr
  refine b_tp hr9 ?_
  refine lv_if_ne (tgt := 379) hx hb dL_law_372 (by decide) (fun c_372_1 => ?_) (fun c_372_1 => ?_)
  · refine lv_iconst (v := nI 0) hx hb dL_law_379 (by decide) ?_
    refine lv_iadd hx hb dL_law_380 ?_
    refine b_tp (show (nI (hs_cnt u j)) + (nI 0) = nI ((hs_cnt u j) + 0) from nI_add (hs_cnt u j) 0) ?_
    refine b_tp (congrArg nI (hs_cnt_0 (by assumption))) ?_
    refine lv_istore (lv' := [(11, .int (nI (hs_cnt u (j + 1)))), (0, .ref b), (1, .ref (a 0)), (2, .int (nI (hs_nA x))), (3, .int (nI (hs_nJ x))), (4, .int (nI (hs_td x))), (5, .int (nI k)), (8, .int (nI y)), (10, .int (nI l9)), (12, .int (nI (hs_cnt u l9))), (13, .int (nI j))]) hx hb dL_law_381 hl (by decide) rfl (fun ls hl => ?_)
    refine lv_iinc (v := nI (j + 1)) (lv' := [(13, .int (nI (j + 1))), (11, .int (nI (hs_cnt u (j + 1)))), (0, .ref b), (1, .ref (a 0)), (2, .int (nI (hs_nA x))), (3, .int (nI (hs_nJ x))), (4, .int (nI (hs_td x))), (5, .int (nI k)), (8, .int (nI y)), (10, .int (nI l9)), (12, .int (nI (hs_cnt u l9)))]) hx hb dL_law_383 hl (k := 10) rfl (nI_add j 1) (by decide) rfl (fun ls hl => ?_)
    refine lv_goto (tgt := 352) hx hb dL_law_386 (by decide) ?_
    exact kk i _ _ _ hI w (lv_sub hl [2, 3, 4, 5, 6, 7, 8, 9, 1, 10, 0] rfl)
  · refine lv_iconst (v := nI 1) hx hb dL_law_375 (by decide) ?_
    refine lv_goto (tgt := 380) hx hb dL_law_376 (by decide) ?_
    refine lv_iadd hx hb dL_law_380 ?_
    refine b_tp (show (nI (hs_cnt u j)) + (nI 1) = nI ((hs_cnt u j) + 1) from nI_add (hs_cnt u j) 1) ?_
    refine b_tp (congrArg nI (hs_cnt_1 (by assumption))) ?_
    refine lv_istore (lv' := [(11, .int (nI (hs_cnt u (j + 1)))), (0, .ref b), (1, .ref (a 0)), (2, .int (nI (hs_nA x))), (3, .int (nI (hs_nJ x))), (4, .int (nI (hs_td x))), (5, .int (nI k)), (8, .int (nI y)), (10, .int (nI l9)), (12, .int (nI (hs_cnt u l9))), (13, .int (nI j))]) hx hb dL_law_381 hl (by decide) rfl (fun ls hl => ?_)
    refine lv_iinc (v := nI (j + 1)) (lv' := [(13, .int (nI (j + 1))), (11, .int (nI (hs_cnt u (j + 1)))), (0, .ref b), (1, .ref (a 0)), (2, .int (nI (hs_nA x))), (3, .int (nI (hs_nJ x))), (4, .int (nI (hs_td x))), (5, .int (nI k)), (8, .int (nI y)), (10, .int (nI l9)), (12, .int (nI (hs_cnt u l9)))]) hx hb dL_law_383 hl (k := 10) rfl (nI_add j 1) (by decide) rfl (fun ls hl => ?_)
    refine lv_goto (tgt := 352) hx hb dL_law_386 (by decide) ?_
    exact kk i _ _ _ hI w (lv_sub hl [2, 3, 4, 5, 6, 7, 8, 9, 1, 10, 0] rfl)
set_option maxHeartbeats 4000000 in
set_option maxRecDepth 100000 in
theorem lp_refs {p : Program} {l : Launch} (hl0 : l.stackTraces = false) {e : Env} {s : State} {m : MethodId} {below : List Frame} {meth : Method} {c : Code} {G : bG} {b : Nat} {Q : State → Prop} (X : CallFix p m c cL_law 16 s #[Value.ref b] wsL_law RL) (E : bE G vwCl bNW bSW s) {a : Nat → Nat} (Z9 : bZ [] s) (hm9 : ∀ q ∈ hs_M a, Aw [] s.heap.size q) {x u : hs_E} {k y l9 : Nat} (hjd : hs_jd u = l9) (hl9 : l9 ≤ 16) : ∀ (n j cells slots : Nat) (i : hs_I) (H : Heap) (locs : List Loc) (ls : Array Slot), j + n = l9 → cells + n ≤ 500000 → slots + 6 * n ≤ 7000000 → hs_Inv u i → bSt G vwCl [] s (hs_W G a u i) H locs → lv_has ls 16 [(0, .ref b), (1, .ref (a 0)), (2, .int (nI (hs_nA x))), (3, .int (nI (hs_nJ x))), (4, .int (nI (hs_td x))), (5, .int (nI k)), (8, .int (nI y)), (10, .int (nI l9)), (11, .int (nI (hs_cnt u j))), (12, .int (nI (hs_cnt u l9))), (13, .int (nI j))] →
    (∀ (i : hs_I) (H : Heap) (locs : List Loc) (ls : Array Slot), hs_Inv u i → bSt G vwCl [] s (hs_W G a u i) H locs → lv_has ls 16 [(0, .ref b), (1, .ref (a 0)), (2, .int (nI (hs_nA x))), (3, .int (nI (hs_nJ x))), (4, .int (nI (hs_td x))), (5, .int (nI k)), (8, .int (nI y)), (11, .int (nI (hs_cnt u l9))), (12, .int (nI (hs_cnt u l9)))] → W p l e room_1 s m #[Value.ref b] below meth c H locs (cells + n) (slots + 6 * n) Q (F0 m 389 ls [])) → W p l e room_1 s m #[Value.ref b] below meth c H locs cells slots Q (F0 m 352 ls []) := by
  have hx := X.1
  have hb := X.2.1
  intro n
  induction n with
  | zero =>
    intro j cells slots i H locs ls h1 h2 h3 hI w hl kk
    have hj : j = l9 := by omega
    subst hj
    refine lv_iload hx hb dL_law_352 (lv_at hl 10 rfl) ?_
    refine lv_iload hx hb dL_law_354 (lv_at hl 7 rfl) ?_
    refine lv_icmp_ge (tgt := 389) hx hb dL_law_356 (by decide) (fun c9 => ?_) (fun c9 => absurd ((nI_leI (by omega) (by omega)).mpr (Nat.le_refl j)) c9)
    exact kk i _ _ _ hI w (lv_sub hl [0, 1, 2, 3, 4, 5, 6, 8, 9] rfl)
  | succ n ih =>
    intro j cells slots i H locs ls h1 h2 h3 hI w hl kk
    have hcl : hs_cnt u l9 ≤ l9 := hs_cnt_le
    refine lv_iload hx hb dL_law_352 (lv_at hl 10 rfl) ?_
    refine lv_iload hx hb dL_law_354 (lv_at hl 7 rfl) ?_
    refine lv_icmp_ge (tgt := 389) hx hb dL_law_356 (by decide) (fun c9 => absurd (q_le (by omega) (by omega) c9) (by omega)) (fun c9 => ?_)
    refine lv_iload hx hb dL_law_359 (lv_at hl 9 rfl) ?_
    refine lv_if_lt (tgt := 389) hx hb dL_law_361 (by decide) (fun c9 => absurd c9 (nI_pos (by omega))) (fun c9 => ?_)
    refine lp_ref hl0 X E Z9 hm9 hjd (by omega) hl9 (by omega) (by omega) hI w hl (fun i H locs ls hI w hl => ?_)
    refine ih (j + 1) (cells + 1) (slots + 6) i H locs ls (by omega) (by omega) (by omega) hI w hl (fun i H locs ls hI w hl => ?_)
    rw [show cells + 1 + n = cells + (n + 1) by omega, show slots + 6 + 6 * n = slots + 6 * (n + 1) by omega]
    exact kk i H locs ls hI w hl
set_option maxHeartbeats 4000000 in
set_option maxRecDepth 100000 in
theorem lp_sent {p : Program} {l : Launch} (hl0 : l.stackTraces = false) {e : Env} {s : State} {m : MethodId} {below : List Frame} {meth : Method} {c : Code} {G : bG} {b : Nat} {Q : State → Prop} (X : CallFix p m c cL_law 16 s #[Value.ref b] wsL_law RL) (E : bE G vwCl bNW bSW s) {a : Nat → Nat} (Z9 : bZ [] s) (hm9 : ∀ q ∈ hs_M a, Aw [] s.heap.size q) {x u : hs_E} {k y z l9 : Nat} (hz : z < 16777216) (hP : hs_P x u l9) (h0 : 0 < l9) (hl9 : l9 ≤ 8) {i : hs_I} {H : Heap} {locs : List Loc} {ls : Array Slot} {cells slots : Nat} (hc : cells ≤ 495000) (hs : slots ≤ 6950000) (hI : hs_Inv u i) (w : bSt G vwCl [] s (hs_W G a u i) H locs) (hl : lv_has ls 16 [(0, .ref b), (1, .ref (a 0)), (2, .int (nI (hs_nA x))), (3, .int (nI (hs_nJ x))), (4, .int (nI (hs_td x))), (5, .int (nI k)), (8, .int (nI y)), (9, .int (nI z)), (10, .int (nI l9))]) 
    (kk : ∀ (x' : hs_E) (i : hs_I) (H : Heap) (locs : List Loc) (ls : Array Slot), hs_L x' → hs_Inv x' i → bSt G vwCl [] s (hs_W G a x' i) H locs → lv_has ls 16 [(0, .ref b), (1, .ref (a 0)), (2, .int (nI (hs_nA x'))), (3, .int (nI (hs_nJ x'))), (4, .int (nI (hs_td x'))), (5, .int (nI k)), (8, .int (nI y))] → W p l e room_1 s m #[Value.ref b] below meth c H locs (cells + 60) (slots + 400) Q (F0 m 611 ls [])) : W p l e room_1 s m #[Value.ref b] below meth c H locs cells slots Q (F0 m 331 ls []) := by
  have hx := X.1
  have hb := X.2.1
  have hml := X.2.2.1
  have hown := X.2.2.2.1
  have hts := X.2.2.2.2
  have hPd : hs_jd (hX_send u (nI (z % 3))) = l9 := hP.2.2.1
  have hcl9 : hs_cnt (hX_send u (nI (z % 3))) l9 ≤ l9 := hs_cnt_le
  refine lv_iconst (v := nI 0) hx hb dL_law_331 (by decide) ?_
  refine lv_istore (lv' := [(11, .int (nI 0)), (0, .ref b), (1, .ref (a 0)), (2, .int (nI (hs_nA x))), (3, .int (nI (hs_nJ x))), (4, .int (nI (hs_td x))), (5, .int (nI k)), (8, .int (nI y)), (9, .int (nI z)), (10, .int (nI l9))]) hx hb dL_law_332 hl (by decide) rfl (fun ls hl => ?_)
  rcases (Nat.lt_or_ge 300 (hs_snt u + l9)) with h30 | h30
  · refine lv_aload_n hx hb dL_law_334 rfl (lv_at hl 2 rfl) ?_
    refine lv_iconst (v := nI 4) hx hb dL_law_335 (by decide) ?_
    refine lv_iload hx hb dL_law_336 (lv_at hl 8 rfl) ?_
    refine lv_iconst (v := nI 3) hx hb dL_law_338 (by decide) ?_
    refine lv_irem hx hb dL_law_339 (by decide) ?_
    refine b_tp (pk_rem (by omega) (by decide) (by decide)) ?_
    refine lv_iconst (v := nI 0) hx hb dL_law_340 (by decide) ?_
    refine lv_iconst (v := nI 0) hx hb dL_law_341 (by decide) ?_
    refine lv_iconst (v := nI 0) hx hb dL_law_342 (by decide) ?_
    refine lv_iconst (v := nI 0) hx hb dL_law_343 (by decide) ?_
    refine hs_calli w (vx_runSW (As := [.ref (a 0), .int (nI 4), .int (nI (z % 3)), .int (nI 0), .int (nI 0), .int (nI 0), .int (nI 0)]) (rest := []) X (aF_send l hl0 G _ a _ _ hI (nI (z % 3)) (nI 0) (nI 0) (nI 0) (nI 0) 3 (la_sendF hP (Nat.lt_of_lt_of_le (Nat.mod_lt z (by decide)) (by decide)) (Nat.not_le.mpr h30)) (by decide)) (vx_cwSW 7 hts gL_law_L_act rfl rfl rfl (by decide +kernel) ⟨Nat.le_of_ble_eq_true rfl, Nat.le_of_ble_eq_true rfl⟩) ⟨b_blind, fun U9 hU9 hW9 => ⟨rfl, hs_pre E Z9 w hm9 U9 hU9 hW9⟩⟩ rfl rfl hl.1 rfl (lv_room (Nat.le_of_ble_eq_true rfl)) dL_law_344 ⟨by show _ ≤ 600074; omega, by show _ ≤ 7301550; omega⟩) hm9 (fun r i H locs hr w => ?_)
    obtain ⟨hI, hr9⟩ := hr
    refine b_tp (hr9.trans (show hs_r 3 = -73 from by decide)) ?_
    refine lv_istore (lv' := [(12, .int (-73)), (11, .int (nI 0)), (0, .ref b), (1, .ref (a 0)), (2, .int (nI (hs_nA x))), (3, .int (nI (hs_nJ x))), (4, .int (nI (hs_td x))), (5, .int (nI k)), (8, .int (nI y)), (9, .int (nI z)), (10, .int (nI l9))]) hx hb dL_law_347 hl (by decide) rfl (fun ls hl => ?_)
    refine lv_iconst (v := nI 0) hx hb dL_law_349 (by decide) ?_
    refine lv_istore (lv' := [(13, .int (nI 0)), (12, .int (-73)), (11, .int (nI 0)), (0, .ref b), (1, .ref (a 0)), (2, .int (nI (hs_nA x))), (3, .int (nI (hs_nJ x))), (4, .int (nI (hs_td x))), (5, .int (nI k)), (8, .int (nI y)), (9, .int (nI z)), (10, .int (nI l9))]) hx hb dL_law_350 hl (by decide) rfl (fun ls hl => ?_)
    refine lv_iload hx hb dL_law_352 (lv_at hl 0 rfl) ?_
    refine lv_iload hx hb dL_law_354 (lv_at hl 11 rfl) ?_
    refine lv_icmp_ge (tgt := 389) hx hb dL_law_356 (by decide) (fun c_356_1 => ?_) (fun c_356_1 => ?_)
    · exact absurd (q_le (by omega) (by omega) c_356_1) (by omega)
    · have q_356_2 : 0 < l9 := q_nle (by omega) (by omega) c_356_1
      refine lv_iload hx hb dL_law_359 (lv_at hl 1 rfl) ?_
      refine lv_if_lt (tgt := 389) hx hb dL_law_361 (by decide) (fun c9 => ?_) (fun c9 => absurd (by decide) c9)
      refine lv_iload hx hb dL_law_389 (lv_at hl 1 rfl) ?_
      refine lv_if_lt (tgt := 401) hx hb dL_law_391 (by decide) (fun c9 => ?_) (fun c9 => absurd (by decide) c9)
      refine lv_iload hx hb dL_law_401 (lv_at hl 1 rfl) ?_
      refine lv_if_ge (tgt := 415) hx hb dL_law_403 (by decide) (fun c9 => absurd c9 (by decide)) (fun c9 => ?_)
      refine lv_iload hx hb dL_law_406 (lv_at hl 1 rfl) ?_
      refine lv_bipush (v := -73) hx hb dL_law_408 (by decide) ?_
      refine lv_icmp_eq (tgt := 415) hx hb dL_law_410 (by decide) (fun c9 => ?_) (fun c9 => absurd rfl c9)
      refine lv_goto (tgt := 611) hx hb dL_law_415 (by decide) ?_
      refine W.widen (k := cells + 60) (n := slots + 400) (by omega) (by omega) ?_
      exact kk u i _ _ _ hP.2.1 hI w (by rw [show hs_nA u = hs_nA x from hP.1.1, show hs_nJ u = hs_nJ x from hP.1.2.1, show hs_td u = hs_td x from hP.1.2.2]; exact lv_sub hl [3, 4, 5, 6, 7, 8, 9] rfl)
  · refine lv_aload_n hx hb dL_law_334 rfl (lv_at hl 2 rfl) ?_
    refine lv_iconst (v := nI 4) hx hb dL_law_335 (by decide) ?_
    refine lv_iload hx hb dL_law_336 (lv_at hl 8 rfl) ?_
    refine lv_iconst (v := nI 3) hx hb dL_law_338 (by decide) ?_
    refine lv_irem hx hb dL_law_339 (by decide) ?_
    refine b_tp (pk_rem (by omega) (by decide) (by decide)) ?_
    refine lv_iconst (v := nI 0) hx hb dL_law_340 (by decide) ?_
    refine lv_iconst (v := nI 0) hx hb dL_law_341 (by decide) ?_
    refine lv_iconst (v := nI 0) hx hb dL_law_342 (by decide) ?_
    refine lv_iconst (v := nI 0) hx hb dL_law_343 (by decide) ?_
    refine hs_calli w (vx_runSW (As := [.ref (a 0), .int (nI 4), .int (nI (z % 3)), .int (nI 0), .int (nI 0), .int (nI 0), .int (nI 0)]) (rest := []) X (aS_send l hl0 G _ a _ _ hI (nI (z % 3)) (nI 0) (nI 0) (nI 0) (nI 0) _ _ (la_send hP h0 (Nat.lt_of_lt_of_le (Nat.mod_lt z (by decide)) (by decide)) h30)) (vx_cwSW 7 hts gL_law_L_act rfl rfl rfl (by decide +kernel) ⟨Nat.le_of_ble_eq_true rfl, Nat.le_of_ble_eq_true rfl⟩) ⟨b_blind, fun U9 hU9 hW9 => ⟨rfl, hs_pre E Z9 w hm9 U9 hU9 hW9⟩⟩ rfl rfl hl.1 rfl (lv_room (Nat.le_of_ble_eq_true rfl)) dL_law_344 ⟨by show _ ≤ 600074; omega, by show _ ≤ 7301550; omega⟩) hm9 (fun r i H locs hr w => ?_)
    obtain ⟨hI, hr9⟩ := hr
    refine b_tp hr9 ?_
    refine lv_istore (lv' := [(12, .int (nI (hs_cnt (hX_send u (nI (z % 3))) l9))), (11, .int (nI 0)), (0, .ref b), (1, .ref (a 0)), (2, .int (nI (hs_nA x))), (3, .int (nI (hs_nJ x))), (4, .int (nI (hs_td x))), (5, .int (nI k)), (8, .int (nI y)), (9, .int (nI z)), (10, .int (nI l9))]) hx hb dL_law_347 hl (by decide) rfl (fun ls hl => ?_)
    refine lv_iconst (v := nI 0) hx hb dL_law_349 (by decide) ?_
    refine lv_istore (lv' := [(13, .int (nI 0)), (12, .int (nI (hs_cnt (hX_send u (nI (z % 3))) l9))), (11, .int (nI 0)), (0, .ref b), (1, .ref (a 0)), (2, .int (nI (hs_nA x))), (3, .int (nI (hs_nJ x))), (4, .int (nI (hs_td x))), (5, .int (nI k)), (8, .int (nI y)), (9, .int (nI z)), (10, .int (nI l9))]) hx hb dL_law_350 hl (by decide) rfl (fun ls hl => ?_)
    refine lp_refs hl0 X E Z9 hm9 (x := x) (u := (hX_send u (nI (z % 3)))) hPd (by omega) l9 0 _ _ i _ _ _ (Nat.zero_add l9) (by omega) (by omega) hI w (lv_sub hl [3, 4, 5, 6, 7, 8, 9, 11, 2, 1, 0] rfl) (fun i H locs ls hI w hl => ?_)
    refine W.widen (k := cells + 2 + 8) (n := slots + 12 + 48) (by omega) (by omega) ?_
    refine lv_iload hx hb dL_law_389 (lv_at hl 8 rfl) ?_
    refine lv_if_lt (tgt := 401) hx hb dL_law_391 (by decide) (fun c_391_3 => ?_) (fun c_391_3 => ?_)
    · exact absurd c_391_3 (nI_pos (by omega))
    · refine lv_iload hx hb dL_law_394 (lv_at hl 8 rfl) ?_
      refine lv_iload hx hb dL_law_396 (lv_at hl 7 rfl) ?_
      refine lv_icmp_ne (tgt := 413) hx hb dL_law_398 (by decide) (fun c9 => absurd rfl c9) (fun c9 => ?_)
      refine lv_iload hx hb dL_law_401 (lv_at hl 8 rfl) ?_
      refine lv_if_ge (tgt := 415) hx hb dL_law_403 (by decide) (fun c_403_5 => ?_) (fun c_403_5 => ?_)
      · refine lv_goto (tgt := 611) hx hb dL_law_415 (by decide) ?_
        refine W.widen (k := cells + 60) (n := slots + 400) (by omega) (by omega) ?_
        exact kk (hX_send u (nI (z % 3))) i _ _ _ (la_sendL hP) hI w (by rw [show hs_nA (hX_send u (nI (z % 3))) = hs_nA x from hP.1.1, show hs_nJ (hX_send u (nI (z % 3))) = hs_nJ x from hP.1.2.1, show hs_td (hX_send u (nI (z % 3))) = hs_td x from hP.1.2.2]; exact lv_sub hl [0, 1, 2, 3, 4, 5, 6] rfl)
      · exact absurd (nI_pos' (by omega)) c_403_5
set_option maxHeartbeats 4000000 in
set_option maxRecDepth 100000 in
theorem lp_msg {p : Program} {l : Launch} (hl0 : l.stackTraces = false) {e : Env} {s : State} {m : MethodId} {below : List Frame} {meth : Method} {c : Code} {G : bG} {b : Nat} {Q : State → Prop} (X : CallFix p m c cL_law 16 s #[Value.ref b] wsL_law RL) (E : bE G vwCl bNW bSW s) {a : Nat → Nat} (Z9 : bZ [] s) (hm9 : ∀ q ∈ hs_M a, Aw [] s.heap.size q) {x : hs_E} {k y z : Nat} (hy : y < 16777216) (hz : z < 16777216) (hA0 : 0 < hs_nA x) (hJ0 : 0 < hs_nJ x) (hL : hs_L x) {i : hs_I} {H : Heap} {locs : List Loc} {ls : Array Slot} {cells slots : Nat} (hc : cells ≤ 490000) (hs : slots ≤ 6900000) (hI : hs_Inv x i) (w : bSt G vwCl [] s (hs_W G a x i) H locs) (hl : lv_has ls 16 [(0, .ref b), (1, .ref (a 0)), (2, .int (nI (hs_nA x))), (3, .int (nI (hs_nJ x))), (4, .int (nI (hs_td x))), (5, .int (nI k)), (8, .int (nI y)), (9, .int (nI z))]) 
    (kk : ∀ (x' : hs_E) (i : hs_I) (H : Heap) (locs : List Loc) (ls : Array Slot), hs_L x' → hs_Inv x' i → bSt G vwCl [] s (hs_W G a x' i) H locs → lv_has ls 16 [(0, .ref b), (1, .ref (a 0)), (2, .int (nI (hs_nA x'))), (3, .int (nI (hs_nJ x'))), (4, .int (nI (hs_td x'))), (5, .int (nI k)), (8, .int (nI y))] → W p l e room_1 s m #[Value.ref b] below meth c H locs (cells + 120) (slots + 800) Q (F0 m 611 ls [])) : W p l e room_1 s m #[Value.ref b] below meth c H locs cells slots Q (F0 m 223 ls []) := by
  have hx := X.1
  have hb := X.2.1
  have hml := X.2.2.1
  have hown := X.2.2.2.1
  have hts := X.2.2.2.2
  obtain ⟨⟨hnA, hnJ, hTA, hTJ, htd, hst, hbs, hjd, hdn⟩, hbk, hdr, hK⟩ := id hI
  refine lv_aload_n hx hb dL_law_223 rfl (lv_at hl 1 rfl) ?_
  refine hs_calli w (va_runV (As := []) (rest := []) X (n_wipe l hl0 G _ a _ _ _ _ hI ⟨rfl, rfl, rfl⟩) (cwV 0 hts gL_law_X5_wipe rfl rfl rfl (by decide +kernel) ⟨Nat.le_of_ble_eq_true rfl, Nat.le_of_ble_eq_true rfl⟩) ⟨b_blind, hs_recv E w, fun U9 hU9 hW9 => ⟨rfl, hs_pre E Z9 w hm9 U9 hU9 hW9⟩⟩ rfl rfl hl.1 rfl (lv_room (Nat.le_of_ble_eq_true rfl)) dL_law_224 ⟨by show _ ≤ 600074; omega, by show _ ≤ 7301550; omega⟩) hm9 (fun r i H locs hr w => ?_)
  obtain ⟨hI, hr9⟩ := hr
  refine b_tp hr9 ?_
  refine lv_pop hx hb dL_law_227 rfl ?_
  refine lv_iconst (v := nI 1) hx hb dL_law_228 (by decide) ?_
  refine lv_iload hx hb dL_law_229 (lv_at hl 6 rfl) ?_
  refine lv_bipush (v := nI 8) hx hb dL_law_231 (by decide) ?_
  refine lv_irem hx hb dL_law_233 (by decide) ?_
  refine b_tp (pk_rem (by omega) (by decide) (by decide)) ?_
  refine lv_iadd hx hb dL_law_234 ?_
  refine b_tp (show (nI 1) + (nI (y % 8)) = nI (1 + y % 8) from nI_add 1 (y % 8)) ?_
  refine lv_istore (lv' := [(10, .int (nI (1 + y % 8))), (0, .ref b), (1, .ref (a 0)), (2, .int (nI (hs_nA x))), (3, .int (nI (hs_nJ x))), (4, .int (nI (hs_td x))), (5, .int (nI k)), (8, .int (nI y)), (9, .int (nI z))]) hx hb dL_law_235 hl (by decide) rfl (fun ls hl => ?_)
  refine lv_iconst (v := nI 0) hx hb dL_law_237 (by decide) ?_
  refine lv_istore (lv' := [(11, .int (nI 0)), (10, .int (nI (1 + y % 8))), (0, .ref b), (1, .ref (a 0)), (2, .int (nI (hs_nA x))), (3, .int (nI (hs_nJ x))), (4, .int (nI (hs_td x))), (5, .int (nI k)), (8, .int (nI y)), (9, .int (nI z))]) hx hb dL_law_238 hl (by decide) rfl (fun ls hl => ?_)
  refine lp_lines hl0 X E Z9 hm9 (x := x) hy hz hA0 hJ0 hnA hnJ (l9 := 1 + y % 8) (by omega) (1 + y % 8) 0 _ _ (hX_wipe x) i _ _ _ (Nat.zero_add _) (by omega) (by omega) ⟨⟨rfl, rfl, rfl⟩, hL, rfl, fun t ht => absurd ht (Nat.not_lt_zero t)⟩ hI w (lv_sub hl [2, 3, 4, 5, 6, 7, 8, 9, 1, 0] rfl) (fun u i H locs ls hP hI w hl => ?_)
  refine lp_sent hl0 X E Z9 hm9 hz hP (by omega) (by omega) (by omega) (by omega) hI w hl (fun x' i H locs ls hL hI w hl => ?_)
  refine W.widen (k := cells + 120) (n := slots + 800) (by omega) (by omega) ?_
  exact kk _ i _ _ _ hL hI w hl
