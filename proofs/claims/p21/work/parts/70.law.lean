set_option maxHeartbeats 4000000 in
set_option maxRecDepth 100000 in
theorem lp_head {p : Program} {l : Launch} (hl0 : l.stackTraces = false) {e : Env} {s : State} {m : MethodId} {below : List Frame} {meth : Method} {c : Code} {G : bG} {b : Nat} {Q : State → Prop} (X : CallFix p m c cL_law 16 s #[Value.ref b] wsL_law RL) (E : bE G vwCl bNW bSW s) {a : Nat → Nat} (Z9 : bZ [] s) (hm9 : ∀ q ∈ hs_M a, Aw [] s.heap.size q) {L : Nat} {xs : Nat → Int32} (hX : va_X b L xs s s.heap) (hbl : b < s.heap.size) (hL9 : L ≤ 260) {x : hs_E} {k : Nat} (hk : k < 60) {i : hs_I} {H : Heap} {locs : List Loc} {ls : Array Slot} {cells slots : Nat} (w : bSt G vwCl [] s (hs_W G a x i) H locs) (hl : lv_has ls 16 [(0, .ref b), (1, .ref (a 0)), (2, .int (nI (hs_nA x))), (3, .int (nI (hs_nJ x))), (4, .int (nI (hs_td x))), (5, .int (nI k))])
    (kk : ∀ (n : Nat) (ls : Array Slot), n < 16777216 → lv_has ls 16 [(0, .ref b), (1, .ref (a 0)), (2, .int (nI (hs_nA x))), (3, .int (nI (hs_nJ x))), (4, .int (nI (hs_td x))), (5, .int (nI k))] → W p l e room_1 s m #[Value.ref b] below meth c H locs cells slots Q (F0 m 56 ls [.int (nI n)])) : W p l e room_1 s m #[Value.ref b] below meth c H locs cells slots Q (F0 m 33 ls []) := by
  have hx := X.1
  have hb := X.2.1
  have hml := X.2.2.1
  have hown := X.2.2.2.1
  have hts := X.2.2.2.2
  have hbA : ¬ Aw [] s.heap.size b := fun h => h.elim (fun h => nomatch h) (fun h => absurd hbl (Nat.not_lt.mpr h))
  refine lv_aload_n hx hb dL_law_33 rfl (lv_at hl 0 rfl) ?_
  refine va_slen hx hb hX hbl hbA w.2.1 dL_law_34 ?_
  refine b_tp (show Int32.ofNat L = nI L from rfl) ?_
  refine lv_if_ne (tgt := 46) hx hb dL_law_35 (by decide) (fun c_35_1 => ?_) (fun c_35_1 => ?_)
  · have q_35_2 : ¬ L = 0 := fun h9 => c_35_1 ((nI_z (by omega)).mpr h9)
    refine lv_aload_n hx hb dL_law_46 rfl (lv_at hl 0 rfl) ?_
    refine lv_iload hx hb dL_law_47 (lv_at hl 5 rfl) ?_
    refine lv_aload_n hx hb dL_law_49 rfl (lv_at hl 0 rfl) ?_
    refine va_slen hx hb hX hbl hbA w.2.1 dL_law_50 ?_
    refine b_tp (show Int32.ofNat L = nI L from rfl) ?_
    refine lv_irem hx hb dL_law_51 (fun h9 => absurd ((nI_z (by omega)).mp h9) (by omega)) ?_
    refine b_tp (pk_rem (by omega) (by omega) (by omega)) ?_
    refine va_sld hx hb hX hbl hbA w.2.1 (vp_in_nI (Nat.mod_lt k (by omega)) (by omega)) dL_law_52 ?_
    refine lv_bipush (v := nI 8) hx hb dL_law_53 (by decide) ?_
    obtain ⟨us, hus, eus⟩ := us_8 (xs (nI (k % L)).toNatClampNeg)
    refine lv_iushr (v := nI us) hx hb dL_law_55 eus ?_
    exact kk (us) ls (by omega) (lv_sub hl [0, 1, 2, 3, 4, 5] rfl)
  · have q_35_2 : L = 0 := (nI_z (by omega)).mp c_35_1
    refine lv_bipush (v := nI 101) hx hb dL_law_38 (by decide) ?_
    refine lv_iload hx hb dL_law_40 (lv_at hl 5 rfl) ?_
    refine lv_imul hx hb dL_law_42 ?_
    refine b_tp (show (nI 101) * (nI k) = nI (101 * k) from pk_mul 101 k) ?_
    refine lv_goto (tgt := 56) hx hb dL_law_43 (by decide) ?_
    exact kk (101 * k) ls (by omega) (lv_sub hl [0, 1, 2, 3, 4, 5] rfl)
set_option maxHeartbeats 4000000 in
set_option maxRecDepth 100000 in
theorem lp_ops {p : Program} {l : Launch} (hl0 : l.stackTraces = false) {e : Env} {s : State} {m : MethodId} {below : List Frame} {meth : Method} {c : Code} {G : bG} {b : Nat} {Q : State → Prop} (X : CallFix p m c cL_law 16 s #[Value.ref b] wsL_law RL) (E : bE G vwCl bNW bSW s) {a : Nat → Nat} (Z9 : bZ [] s) (hm9 : ∀ q ∈ hs_M a, Aw [] s.heap.size q) {x : hs_E} {k n : Nat} (hn : n < 16777216) (hL : hs_L x) {i : hs_I} {H : Heap} {locs : List Loc} {ls : Array Slot} {cells slots : Nat} (hc : cells ≤ 480000) (hs : slots ≤ 6800000) (hI : hs_Inv x i) (w : bSt G vwCl [] s (hs_W G a x i) H locs) (hl : lv_has ls 16 [(0, .ref b), (1, .ref (a 0)), (2, .int (nI (hs_nA x))), (3, .int (nI (hs_nJ x))), (4, .int (nI (hs_td x))), (5, .int (nI k))])
    (kk : ∀ (y : Nat), y < 16777216 → ∀ (x' : hs_E) (i : hs_I) (H : Heap) (locs : List Loc) (ls : Array Slot), hs_L x' → hs_Inv x' i → bSt G vwCl [] s (hs_W G a x' i) H locs → lv_has ls 16 [(0, .ref b), (1, .ref (a 0)), (2, .int (nI (hs_nA x'))), (3, .int (nI (hs_nJ x'))), (4, .int (nI (hs_td x'))), (5, .int (nI k)), (8, .int (nI y))] → W p l e room_1 s m #[Value.ref b] below meth c H locs (cells + 120) (slots + 800) Q (F0 m 611 ls [])) : W p l e room_1 s m #[Value.ref b] below meth c H locs cells slots Q (F0 m 56 ls [.int (nI n)]) := by
  have hx := X.1
  have hb := X.2.1
  have hml := X.2.2.1
  have hown := X.2.2.2.1
  have hts := X.2.2.2.2
  obtain ⟨⟨hnA, hnJ, hTA, hTJ, htd, hst, hbs, hjd, hdn⟩, hbk, hdr, hK⟩ := id hI
  have wd : ∀ (y : Nat), y < 16777216 → ∀ (x' : hs_E) (i : hs_I) (H : Heap) (locs : List Loc) (ls : Array Slot), hs_L x' → hs_Inv x' i → bSt G vwCl [] s (hs_W G a x' i) H locs → lv_has ls 16 [(0, .ref b), (1, .ref (a 0)), (2, .int (nI (hs_nA x'))), (3, .int (nI (hs_nJ x'))), (4, .int (nI (hs_td x'))), (5, .int (nI k)), (8, .int (nI y))] → W p l e room_1 s m #[Value.ref b] below meth c H locs (cells + 60) (slots + 400) Q (F0 m 611 ls []) := by
    intro y hy x' i H locs ls hL hI w hl
    exact W.widen (k := cells + 120) (n := slots + 800) (by omega) (by omega) (kk y hy x' i H locs ls hL hI w hl)
  refine lv_istore (lv' := [(6, .int (nI n)), (0, .ref b), (1, .ref (a 0)), (2, .int (nI (hs_nA x))), (3, .int (nI (hs_nJ x))), (4, .int (nI (hs_td x))), (5, .int (nI k))]) hx hb dL_law_56 hl (by decide) rfl (fun ls hl => ?_)
  refine lv_iload hx hb dL_law_58 (lv_at hl 0 rfl) ?_
  refine lv_bipush (v := nI 12) hx hb dL_law_60 (by decide) ?_
  refine lv_irem hx hb dL_law_62 (by decide) ?_
  refine b_tp (pk_rem (by omega) (by decide) (by decide)) ?_
  refine lv_istore (lv' := [(7, .int (nI (n % 12))), (6, .int (nI n)), (0, .ref b), (1, .ref (a 0)), (2, .int (nI (hs_nA x))), (3, .int (nI (hs_nJ x))), (4, .int (nI (hs_td x))), (5, .int (nI k))]) hx hb dL_law_63 hl (by decide) rfl (fun ls hl => ?_)
  refine lv_iload hx hb dL_law_65 (lv_at hl 1 rfl) ?_
  refine lv_bipush (v := nI 12) hx hb dL_law_67 (by decide) ?_
  refine lv_idiv hx hb dL_law_69 (by decide) ?_
  refine b_tp (show (nI n) / (nI 12) = nI (n / 12) from pk_div (by omega) (by decide) (by decide)) ?_
  refine lv_istore (lv' := [(8, .int (nI (n / 12))), (7, .int (nI (n % 12))), (6, .int (nI n)), (0, .ref b), (1, .ref (a 0)), (2, .int (nI (hs_nA x))), (3, .int (nI (hs_nJ x))), (4, .int (nI (hs_td x))), (5, .int (nI k))]) hx hb dL_law_70 hl (by decide) rfl (fun ls hl => ?_)
  refine lv_iload hx hb dL_law_72 (lv_at hl 0 rfl) ?_
  refine lv_bipush (v := nI 14) hx hb dL_law_74 (by decide) ?_
  refine lv_idiv hx hb dL_law_76 (by decide) ?_
  refine b_tp (show (nI (n / 12)) / (nI 14) = nI ((n / 12) / 14) from pk_div (by omega) (by decide) (by decide)) ?_
  refine lv_istore (lv' := [(9, .int (nI ((n / 12) / 14))), (8, .int (nI (n / 12))), (7, .int (nI (n % 12))), (6, .int (nI n)), (0, .ref b), (1, .ref (a 0)), (2, .int (nI (hs_nA x))), (3, .int (nI (hs_nJ x))), (4, .int (nI (hs_td x))), (5, .int (nI k))]) hx hb dL_law_77 hl (by decide) rfl (fun ls hl => ?_)
  refine lv_iload hx hb dL_law_79 (lv_at hl 2 rfl) ?_
  refine lv_if_eq (tgt := 88) hx hb dL_law_81 (by decide) (fun c_81_1 => ?_) (fun c_81_1 => ?_)
  · have q_81_2 : (n % 12) = 0 := (nI_z (by omega)).mp c_81_1
    exact lp_area hl0 X E Z9 hm9 (y := n / 12) (z := n / 12 / 14) (by omega) hL (by omega) (by omega) hI w (lv_sub hl [4, 5, 6, 7, 8, 9, 1, 0] rfl) (wd (n / 12) (by omega))
  · have q_81_2 : ¬ (n % 12) = 0 := fun h9 => c_81_1 ((nI_z (by omega)).mpr h9)
    refine lv_iload_n hx hb dL_law_84 rfl (lv_at hl 6 rfl) ?_
    refine lv_if_ne (tgt := 151) hx hb dL_law_85 (by decide) (fun c_85_3 => ?_) (fun c_85_3 => ?_)
    · have q_85_4 : ¬ (hs_nA x) = 0 := fun h9 => c_85_3 ((nI_z (by omega)).mpr h9)
      refine lv_iload hx hb dL_law_151 (lv_at hl 2 rfl) ?_
      refine lv_iconst (v := nI 1) hx hb dL_law_153 (by decide) ?_
      refine lv_icmp_eq (tgt := 161) hx hb dL_law_154 (by decide) (fun c_154_5 => ?_) (fun c_154_5 => ?_)
      · have q_154_6 : n % 12 = 1 := (nI_eq (by omega) (by omega)).mp c_154_5
        exact lp_item hl0 X E Z9 hm9 (y := n / 12) (z := n / 12 / 14) (by omega) hL (by omega) (by omega) hI w (lv_sub hl [4, 5, 6, 7, 8, 9, 1, 0] rfl) (wd (n / 12) (by omega))
      · have q_154_6 : ¬ n % 12 = 1 := fun h9 => c_154_5 ((nI_eq (by omega) (by omega)).mpr h9)
        refine lv_iload_n hx hb dL_law_157 rfl (lv_at hl 7 rfl) ?_
        refine lv_if_ne (tgt := 216) hx hb dL_law_158 (by decide) (fun c_158_7 => ?_) (fun c_158_7 => ?_)
        · have q_158_8 : ¬ (hs_nJ x) = 0 := fun h9 => c_158_7 ((nI_z (by omega)).mpr h9)
          refine lv_iload hx hb dL_law_216 (lv_at hl 2 rfl) ?_
          refine lv_bipush (v := nI 8) hx hb dL_law_218 (by decide) ?_
          refine lv_icmp_ge (tgt := 418) hx hb dL_law_220 (by decide) (fun c_220_9 => ?_) (fun c_220_9 => ?_)
          · have q_220_10 : 8 ≤ n % 12 := q_le (by omega) (by omega) c_220_9
            refine lv_iload hx hb dL_law_418 (lv_at hl 2 rfl) ?_
            refine lv_bipush (v := nI 8) hx hb dL_law_420 (by decide) ?_
            refine lv_icmp_ne (tgt := 524) hx hb dL_law_422 (by decide) (fun c_422_11 => ?_) (fun c_422_11 => ?_)
            · have q_422_12 : ¬ n % 12 = 8 := fun h9 => c_422_11 ((nI_eq (by omega) (by omega)).mpr h9)
              refine lv_iload hx hb dL_law_524 (lv_at hl 2 rfl) ?_
              refine lv_bipush (v := nI 11) hx hb dL_law_526 (by decide) ?_
              refine lv_icmp_ge (tgt := 573) hx hb dL_law_528 (by decide) (fun c_528_13 => ?_) (fun c_528_13 => ?_)
              · have q_528_14 : 11 ≤ n % 12 := q_le (by omega) (by omega) c_528_13
                exact lp_pass hl0 X E Z9 hm9 (y := n / 12) (z := n / 12 / 14) (by omega) hL (by omega) (by omega) hI w (lv_sub hl [4, 5, 6, 7, 8, 9, 1, 0] rfl) (wd (n / 12) (by omega))
              · have q_528_14 : n % 12 < 11 := q_nle (by omega) (by omega) c_528_13
                exact lp_secret hl0 X E Z9 hm9 (y := n / 12) (z := n / 12 / 14) (by omega) (by omega) (by omega) (by omega) hL (by omega) (by omega) hI w (lv_sub hl [4, 5, 6, 7, 8, 9, 1, 0] rfl) (wd (n / 12) (by omega))
            · have q_422_12 : n % 12 = 8 := (nI_eq (by omega) (by omega)).mp c_422_11
              exact lp_agree hl0 X E Z9 hm9 (y := n / 12) (z := n / 12 / 14) (by omega) (by omega) (by omega) (by omega) hL (by omega) (by omega) hI w (lv_sub hl [4, 5, 6, 7, 8, 9, 1, 0] rfl) (wd (n / 12) (by omega))
          · have q_220_10 : n % 12 < 8 := q_nle (by omega) (by omega) c_220_9
            exact lp_msg hl0 X E Z9 hm9 (y := n / 12) (z := n / 12 / 14) (by omega) (by omega) (by omega) (by omega) hL (by omega) (by omega) hI w (lv_sub hl [4, 5, 6, 7, 8, 9, 1, 0] rfl) (kk (n / 12) (by omega))
        · have q_158_8 : (hs_nJ x) = 0 := (nI_z (by omega)).mp c_158_7
          exact lp_item hl0 X E Z9 hm9 (y := n / 12) (z := n / 12 / 14) (by omega) hL (by omega) (by omega) hI w (lv_sub hl [4, 5, 6, 7, 8, 9, 1, 0] rfl) (wd (n / 12) (by omega))
    · have q_85_4 : (hs_nA x) = 0 := (nI_z (by omega)).mp c_85_3
      exact lp_area hl0 X E Z9 hm9 (y := n / 12) (z := n / 12 / 14) (by omega) hL (by omega) (by omega) hI w (lv_sub hl [4, 5, 6, 7, 8, 9, 1, 0] rfl) (wd (n / 12) (by omega))
set_option maxHeartbeats 4000000 in
set_option maxRecDepth 100000 in
theorem lp_tail {p : Program} {l : Launch} (hl0 : l.stackTraces = false) {e : Env} {s : State} {m : MethodId} {below : List Frame} {meth : Method} {c : Code} {G : bG} {b : Nat} {Q : State → Prop} (X : CallFix p m c cL_law 16 s #[Value.ref b] wsL_law RL) (E : bE G vwCl bNW bSW s) {a : Nat → Nat} (Z9 : bZ [] s) (hm9 : ∀ q ∈ hs_M a, Aw [] s.heap.size q) {x : hs_E} {k y : Nat} (hy : y < 16777216) (hk : k < 60) (hL : hs_L x) {i : hs_I} {H : Heap} {locs : List Loc} {ls : Array Slot} {cells slots : Nat} (hc : cells ≤ 480000) (hs : slots ≤ 6800000) (hI : hs_Inv x i) (w : bSt G vwCl [] s (hs_W G a x i) H locs) (hl : lv_has ls 16 [(0, .ref b), (1, .ref (a 0)), (2, .int (nI (hs_nA x))), (3, .int (nI (hs_nJ x))), (4, .int (nI (hs_td x))), (5, .int (nI k)), (8, .int (nI y))])
    (kk : ∀ (i : hs_I) (H : Heap) (locs : List Loc) (ls : Array Slot), hs_Inv x i → bSt G vwCl [] s (hs_W G a x i) H locs → lv_has ls 16 [(0, .ref b), (1, .ref (a 0)), (2, .int (nI (hs_nA x))), (3, .int (nI (hs_nJ x))), (4, .int (nI (hs_td x))), (5, .int (nI (k + 1)))] → W p l e room_1 s m #[Value.ref b] below meth c H locs (cells + 820) (slots + 4920) Q (F0 m 26 ls [])) : W p l e room_1 s m #[Value.ref b] below meth c H locs cells slots Q (F0 m 611 ls []) := by
  have hx := X.1
  have hb := X.2.1
  have hml := X.2.2.1
  have hown := X.2.2.2.1
  have hts := X.2.2.2.2
  obtain ⟨⟨hnA, hnJ, hTA, hTJ, htd, hst, hbs, hjd, hdn⟩, hbk, hdr, hK⟩ := id hI
  have k850 : ∀ (i : hs_I) (H : Heap) (locs : List Loc) (ls : Array Slot), hs_Inv x i → bSt G vwCl [] s (hs_W G a x i) H locs → lv_has ls 16 [(0, .ref b), (1, .ref (a 0)), (2, .int (nI (hs_nA x))), (3, .int (nI (hs_nJ x))), (4, .int (nI (hs_td x))), (5, .int (nI k))] → W p l e room_1 s m #[Value.ref b] below meth c H locs (cells + 820) (slots + 4920) Q (F0 m 850 ls []) := by
    intro i H locs ls hI w hl
    refine lv_iinc (v := nI (k + 1)) (lv' := [(5, .int (nI (k + 1))), (0, .ref b), (1, .ref (a 0)), (2, .int (nI (hs_nA x))), (3, .int (nI (hs_nJ x))), (4, .int (nI (hs_td x)))]) hx hb dL_law_850 hl (k := 5) rfl (nI_add k 1) (by decide) rfl (fun ls hl => ?_)
    refine lv_goto (tgt := 26) hx hb dL_law_853 (by decide) ?_
    exact kk i _ _ _ hI w (lv_sub hl [1, 2, 3, 4, 5, 0] rfl)
  refine lv_iload_n hx hb dL_law_611 rfl (lv_at hl 2 rfl) ?_
  refine lv_if_eq (tgt := 850) hx hb dL_law_612 (by decide) (fun c_612_1 => ?_) (fun c_612_1 => ?_)
  · have q_612_2 : (hs_nA x) = 0 := (nI_z (by omega)).mp c_612_1
    refine W.widen (k := cells + 820) (n := slots + 4920) (by omega) (by omega) ?_
    exact k850 i _ _ _ hI w (lv_sub hl [0, 1, 2, 3, 4, 5] rfl)
  · have q_612_2 : ¬ (hs_nA x) = 0 := fun h9 => c_612_1 ((nI_z (by omega)).mpr h9)
    refine lv_iload_n hx hb dL_law_615 rfl (lv_at hl 3 rfl) ?_
    refine lv_if_ne (tgt := 622) hx hb dL_law_616 (by decide) (fun c_616_3 => ?_) (fun c_616_3 => ?_)
    · have q_616_4 : ¬ (hs_nJ x) = 0 := fun h9 => c_616_3 ((nI_z (by omega)).mpr h9)
      refine lv_iload hx hb dL_law_622 (lv_at hl 5 rfl) ?_
      refine lv_bipush (v := nI 10) hx hb dL_law_624 (by decide) ?_
      refine lv_irem hx hb dL_law_626 (by decide) ?_
      refine b_tp (pk_rem (by omega) (by decide) (by decide)) ?_
      refine lv_bipush (v := nI 9) hx hb dL_law_627 (by decide) ?_
      refine lv_icmp_ne (tgt := 636) hx hb dL_law_629 (by decide) (fun c_629_5 => ?_) (fun c_629_5 => ?_)
      · have q_629_6 : ¬ k % 10 = 9 := fun h9 => c_629_5 ((nI_eq (by omega) (by omega)).mpr h9)
        refine lv_iconst (v := nI 0) hx hb dL_law_636 (by decide) ?_
        refine lv_istore (lv' := [(10, .int (nI 0)), (0, .ref b), (1, .ref (a 0)), (2, .int (nI (hs_nA x))), (3, .int (nI (hs_nJ x))), (4, .int (nI (hs_td x))), (5, .int (nI k)), (8, .int (nI y))]) hx hb dL_law_637 hl (by decide) rfl (fun ls hl => ?_)
        refine lv_iconst (v := nI 0) hx hb dL_law_639 (by decide) ?_
        refine lv_istore (lv' := [(11, .int (nI 0)), (10, .int (nI 0)), (0, .ref b), (1, .ref (a 0)), (2, .int (nI (hs_nA x))), (3, .int (nI (hs_nJ x))), (4, .int (nI (hs_td x))), (5, .int (nI k)), (8, .int (nI y))]) hx hb dL_law_640 hl (by decide) rfl (fun ls hl => ?_)
        refine lv_iconst (v := nI 0) hx hb dL_law_642 (by decide) ?_
        refine lv_istore (lv' := [(12, .int (nI 0)), (11, .int (nI 0)), (10, .int (nI 0)), (0, .ref b), (1, .ref (a 0)), (2, .int (nI (hs_nA x))), (3, .int (nI (hs_nJ x))), (4, .int (nI (hs_td x))), (5, .int (nI k)), (8, .int (nI y))]) hx hb dL_law_643 hl (by decide) rfl (fun ls hl => ?_)
        refine lp_rows hl0 X E Z9 hm9 (al := false) hy hk hL hnA hnJ (by omega) (hs_nA x) 0 0 cells slots i _ _ _ (Nat.zero_add _) (by omega) (by omega) (fun _ => rfl) hI w (lv_sub hl [3, 4, 5, 6, 7, 8, 9, 2, 1, 0] rfl) (fun h i H locs ls hh hI w hl => ?_)
        refine W.widen (k := cells + 420) (n := slots + 2520) (by omega) (by omega) ?_
        refine lp_after hl0 X E Z9 hm9 hk (al := false) hh (by omega) (by omega) hI w hl (fun i H locs ls hI w hl => ?_)
        exact k850 i _ _ _ hI w hl
      · have q_629_6 : k % 10 = 9 := (nI_eq (by omega) (by omega)).mp c_629_5
        refine lv_iconst (v := nI 1) hx hb dL_law_632 (by decide) ?_
        refine lv_goto (tgt := 637) hx hb dL_law_633 (by decide) ?_
        refine lv_istore (lv' := [(10, .int (nI 1)), (0, .ref b), (1, .ref (a 0)), (2, .int (nI (hs_nA x))), (3, .int (nI (hs_nJ x))), (4, .int (nI (hs_td x))), (5, .int (nI k)), (8, .int (nI y))]) hx hb dL_law_637 hl (by decide) rfl (fun ls hl => ?_)
        refine lv_iconst (v := nI 0) hx hb dL_law_639 (by decide) ?_
        refine lv_istore (lv' := [(11, .int (nI 0)), (10, .int (nI 1)), (0, .ref b), (1, .ref (a 0)), (2, .int (nI (hs_nA x))), (3, .int (nI (hs_nJ x))), (4, .int (nI (hs_td x))), (5, .int (nI k)), (8, .int (nI y))]) hx hb dL_law_640 hl (by decide) rfl (fun ls hl => ?_)
        refine lv_iconst (v := nI 0) hx hb dL_law_642 (by decide) ?_
        refine lv_istore (lv' := [(12, .int (nI 0)), (11, .int (nI 0)), (10, .int (nI 1)), (0, .ref b), (1, .ref (a 0)), (2, .int (nI (hs_nA x))), (3, .int (nI (hs_nJ x))), (4, .int (nI (hs_td x))), (5, .int (nI k)), (8, .int (nI y))]) hx hb dL_law_643 hl (by decide) rfl (fun ls hl => ?_)
        refine lp_rows hl0 X E Z9 hm9 (al := true) hy hk hL hnA hnJ (by omega) (hs_nA x) 0 0 cells slots i _ _ _ (Nat.zero_add _) (by omega) (by omega) (fun _ => rfl) hI w (lv_sub hl [3, 4, 5, 6, 7, 8, 9, 2, 1, 0] rfl) (fun h i H locs ls hh hI w hl => ?_)
        refine W.widen (k := cells + 420) (n := slots + 2520) (by omega) (by omega) ?_
        refine lp_after hl0 X E Z9 hm9 hk (al := true) hh (by omega) (by omega) hI w hl (fun i H locs ls hI w hl => ?_)
        exact k850 i _ _ _ hI w hl
    · have q_616_4 : (hs_nJ x) = 0 := (nI_z (by omega)).mp c_616_3
      refine lv_goto (tgt := 850) hx hb dL_law_619 (by decide) ?_
      refine W.widen (k := cells + 820) (n := slots + 4920) (by omega) (by omega) ?_
      exact k850 i _ _ _ hI w (lv_sub hl [0, 1, 2, 3, 4, 5] rfl)
