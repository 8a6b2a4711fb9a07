/-! the law's entry: what the tables and the Statement give -/
section EN
theorem en_sub0 : ∀ w ∈ wsX00, w ∈ wsL_law := by decide +kernel
theorem en_sub1 : ∀ w ∈ wsX10, w ∈ wsL_law := by decide +kernel
theorem en_sub2 : ∀ w ∈ wsX20, w ∈ wsL_law := by decide +kernel
theorem en_sub3 : ∀ w ∈ wsX30, w ∈ wsL_law := by decide +kernel
theorem en_sub4 : ∀ w ∈ wsX40, w ∈ wsL_law := by decide +kernel
theorem en_sub5 : ∀ w ∈ wsX50, w ∈ wsL_law := by decide +kernel
theorem en_sub6 : ∀ w ∈ wsX60, w ∈ wsL_law := by decide +kernel
variable {s : State} {b : Nat}
theorem en_nw (hts : ∀ w ∈ lw_tbl, w.before #[Value.ref b] s = true) (hgv : (Jvm.Cond.and given_1 narrow_1).before #[Value.ref b] s = true) : ∀ w ∈ bNW, bStable w = true ∧ va_Nw w s := by
  have hq := flat_of_before _ hgv
  have t : ∀ (w : Cond) (i : Nat), lw_tbl[i]? = some w → bStable w = true → w.onTables = true → bStable w = true ∧ va_Nw w s := fun w i h1 h2 h3 => ⟨h2, va_Nw.of h3 (hts w (List.mem_of_getElem? h1))⟩
  have n : ∀ C T : String, (Cond.not (.castable C T)).before #[Value.ref b] s = true → bStable (Cond.not (.castable C T)) = true ∧ va_Nw (Cond.not (.castable C T)) s := fun C T h => ⟨rfl, h⟩
  unfold bNW
  exact (b_pc (t _ 97 (by decide +kernel) rfl rfl) (b_pc (t _ 122 (by decide +kernel) rfl rfl) (b_pc (t _ 124 (by decide +kernel) rfl rfl) (b_pc (t _ 120 (by decide +kernel) rfl rfl) (b_pc (t _ 93 (by decide +kernel) rfl rfl) (b_pc (t _ 91 (by decide +kernel) rfl rfl) (b_pc (t _ 89 (by decide +kernel) rfl rfl) (b_pc (t _ 95 (by decide +kernel) rfl rfl) (b_pc (t _ 62 (by decide +kernel) rfl rfl) (b_pc (t _ 60 (by decide +kernel) rfl rfl) (b_pc (t _ 61 (by decide +kernel) rfl rfl) (b_pc (t _ 133 (by decide +kernel) rfl rfl) (b_pc (t _ 129 (by decide +kernel) rfl rfl) (b_pc (t _ 127 (by decide +kernel) rfl rfl) (b_pc (t _ 131 (by decide +kernel) rfl rfl) (b_pc (t _ 58 (by decide +kernel) rfl rfl) (b_pc (t _ 73 (by decide +kernel) rfl rfl) (b_pc (t _ 84 (by decide +kernel) rfl rfl) (b_pc (t _ 153 (by decide +kernel) rfl rfl) (b_pc (t _ 459 (by decide +kernel) rfl rfl) (b_pc (t _ 224 (by decide +kernel) rfl rfl) (b_pc (t _ 368 (by decide +kernel) rfl rfl) (b_pc (t _ 299 (by decide +kernel) rfl rfl) (b_pc (t _ 226 (by decide +kernel) rfl rfl) (b_pc (t _ 228 (by decide +kernel) rfl rfl) (b_pc (t _ 230 (by decide +kernel) rfl rfl) (b_pc (n _ _ (hq _ (by decide +kernel))) (b_pc (n _ _ (hq _ (by decide +kernel))) (b_pc (n _ _ (hq _ (by decide +kernel))) (b_pc (n _ _ (hq _ (by decide +kernel))) (b_pc (n _ _ (hq _ (by decide +kernel))) (b_pc (n _ _ (hq _ (by decide +kernel))) b_pn))))))))))))))))))))))))))))))))
theorem en_sw (hts : ∀ w ∈ lw_tbl, w.before #[Value.ref b] s = true) (hgv : (Jvm.Cond.and given_1 narrow_1).before #[Value.ref b] s = true) : ∀ q ∈ bSW, ∃ sa : Nat, vk_R q.1 q.2.1 q.2.2 sa s := by
  have hq := flat_of_before _ hgv
  have t : ∀ (q : String × Nat × String) (i : Nat), lw_tbl[i]? = some (Cond.stringRef q.1 q.2.1 q.2.2) → (Cond.exactly (.string q.1 q.2.1) "java/lang/String").before #[Value.ref b] s = true → ∃ sa : Nat, vk_R q.1 q.2.1 q.2.2 sa s := fun q i h1 h2 => by
    obtain ⟨a, _, _, _, e1, -⟩ := Cond.exactly_spec h2
    exact ⟨a, (vk_R.of (A := #[Value.ref b]) (hts _ (List.mem_of_getElem? h1)) e1).same rfl⟩
  unfold bSW
  exact (b_pc (t _ 389 (by decide +kernel) (hq _ (by decide +kernel))) (b_pc (t _ 401 (by decide +kernel) (hq _ (by decide +kernel))) (b_pc (t _ 402 (by decide +kernel) (hq _ (by decide +kernel))) (b_pc (t _ 437 (by decide +kernel) (hq _ (by decide +kernel))) (b_pc (t _ 513 (by decide +kernel) (hq _ (by decide +kernel))) (b_pc (t _ 514 (by decide +kernel) (hq _ (by decide +kernel))) (b_pc (t _ 580 (by decide +kernel) (hq _ (by decide +kernel))) (b_pc (t _ 588 (by decide +kernel) (hq _ (by decide +kernel))) (b_pc (t _ 589 (by decide +kernel) (hq _ (by decide +kernel))) (b_pc (t _ 590 (by decide +kernel) (hq _ (by decide +kernel))) (b_pc (t _ 334 (by decide +kernel) (hq _ (by decide +kernel))) (b_pc (t _ 263 (by decide +kernel) (hq _ (by decide +kernel))) (b_pc (t _ 306 (by decide +kernel) (hq _ (by decide +kernel))) (b_pc (t _ 339 (by decide +kernel) (hq _ (by decide +kernel))) (b_pc (t _ 359 (by decide +kernel) (hq _ (by decide +kernel))) (b_pc (t _ 526 (by decide +kernel) (hq _ (by decide +kernel))) (b_pc (t _ 375 (by decide +kernel) (hq _ (by decide +kernel))) (b_pc (t _ 384 (by decide +kernel) (hq _ (by decide +kernel))) b_pn))))))))))))))))))
theorem en_z (hts : ∀ w ∈ lw_tbl, w.before #[Value.ref b] s = true) (hgv : (Jvm.Cond.and given_1 narrow_1).before #[Value.ref b] s = true) : bZ [] s := by
  have hq := flat_of_before _ hgv
  have hA : ∀ a : Nat, a < s.heap.size → ¬ Aw [] s.heap.size a := fun a h h9 => h9.elim (fun h => nomatch h) (fun h9 => absurd h (Nat.not_lt.mpr h9))
  have hi := hts (.initialized Bundle.tN) (List.mem_of_getElem? (i := 35) (by decide +kernel))
  exact ⟨vx_Zqof (hts (.laysStatic Bundle.tN "UNASSIGNED_STACK" Bundle.steD) (List.mem_of_getElem? (i := 249) (by decide +kernel))) hi (hq _ (by decide +kernel)) hA, vx_Zqof (hts (.laysStatic Bundle.tN "SUPPRESSED_SENTINEL" Bundle.listD) (List.mem_of_getElem? (i := 251) (by decide +kernel))) hi (hq _ (by decide +kernel)) hA⟩
theorem en_arr {ty : FieldType} (h : (Cond.arrayClass ty).before #[Value.ref b] s = true) (ht : ∀ C, ty ≠ .object C) : ∃ c : ClassId, ArrOfT s c ty ∧ va_RA s c ty := by
  obtain ⟨c, k, comp, h1, h2, h3⟩ := Cond.arrayClass_spec h
  refine ⟨c, fun n z => ⟨fun k h => (by cases h), k, h2, comp, h3⟩, ?_⟩
  cases ty <;> first | exact h1 | exact absurd rfl (ht _)
theorem en_K (hts : ∀ w ∈ lw_tbl, w.before #[Value.ref b] s = true) (hts' : ∀ w ∈ wsL_law, w.before #[Value.ref b] s = true) : ∃ G : bG, va_K G.1 vwCl (bT G) s := by
  obtain ⟨c0, i0, hKn0⟩ := u_known (C := RX0) (T := TX0) (N := 1) (n := 1) hts' (fun w h => en_sub0 w h) (hts' (.instantiable RX0 1) (by decide +kernel))
  obtain ⟨c1, i1, hKn1⟩ := u_known (C := RX1) (T := TX1) (N := 8) (n := 8) hts' (fun w h => en_sub1 w h) (hts' (.instantiable RX1 8) (by decide +kernel))
  obtain ⟨c2, i2, hKn2⟩ := u_known (C := RX2) (T := TX2) (N := 5) (n := 5) hts' (fun w h => en_sub2 w h) (hts' (.instantiable RX2 5) (by decide +kernel))
  obtain ⟨c3, i3, hKn3⟩ := u_known (C := RX3) (T := TX3) (N := 2) (n := 2) hts' (fun w h => en_sub3 w h) (hts' (.instantiable RX3 2) (by decide +kernel))
  obtain ⟨c4, i4, hKn4⟩ := u_known (C := RX4) (T := TX4) (N := 3) (n := 3) hts' (fun w h => en_sub4 w h) (hts' (.instantiable RX4 3) (by decide +kernel))
  obtain ⟨c5, i5, hKn5⟩ := u_known (C := RX5) (T := TX5) (N := 11) (n := 11) hts' (fun w h => en_sub5 w h) (hts' (.instantiable RX5 11) (by decide +kernel))
  obtain ⟨c6, i6, hKn6⟩ := u_known (C := RX6) (T := TX6) (N := 21) (n := 21) hts' (fun w h => en_sub6 w h) (hts' (.instantiable RX6 21) (by decide +kernel))
  obtain ⟨a0, hI1, hI2⟩ := en_arr (hts (.arrayClass .int) (List.mem_of_getElem? (i := 70) (by decide +kernel))) (fun _ h => nomatch h)
  obtain ⟨a1, hZ1, hZ2⟩ := en_arr (hts (.arrayClass .boolean) (List.mem_of_getElem? (i := 81) (by decide +kernel))) (fun _ h => nomatch h)
  obtain ⟨a2, hJ1, hJ2⟩ := en_arr (hts (.arrayClass .long) (List.mem_of_getElem? (i := 821) (by decide +kernel))) (fun _ h => nomatch h)
  refine ⟨((fun k => match k with | 0 => c0 | 1 => c1 | 2 => c2 | 3 => c3 | 4 => c4 | 5 => c5 | _ => c6, fun k => match k with | 0 => i0 | 1 => i1 | 2 => i2 | 3 => i3 | 4 => i4 | 5 => i5 | _ => i6), a0, a1, a2), ?_, ?_⟩
  · intro k q hq
    match k, hq with
    | 0, hq => cases hq; exact hKn0
    | 1, hq => cases hq; exact hKn1
    | 2, hq => cases hq; exact hKn2
    | 3, hq => cases hq; exact hKn3
    | 4, hq => cases hq; exact hKn4
    | 5, hq => cases hq; exact hKn5
    | 6, hq => cases hq; exact hKn6
    | k + 7, hq => simp [vwCl] at hq
  · intro k q hq
    match k, hq with
    | 0, hq => cases hq; exact ⟨hI1, hI2⟩
    | 1, hq => cases hq; exact ⟨hZ1, hZ2⟩
    | 2, hq => cases hq; exact ⟨hJ1, hJ2⟩
    | k + 3, hq => simp [bT] at hq
end EN
