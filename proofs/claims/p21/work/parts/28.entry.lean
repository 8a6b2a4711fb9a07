/-! the law's entry: what the tables and the Statement give -/
section EN
theorem en_sub0 : ∀ w ∈ wsX00, w ∈ wsL_law := by decide +kernel
theorem en_sub1 : ∀ w ∈ wsX10, w ∈ wsL_law := by decide +kernel
theorem en_sub2 : ∀ w ∈ wsX20, w ∈ wsL_law := by decide +kernel
theorem en_sub3 : ∀ w ∈ wsX30, w ∈ wsL_law := by decide +kernel
theorem en_sub4 : ∀ w ∈ wsX40, w ∈ wsL_law := by decide +kernel
theorem en_sub5 : ∀ w ∈ wsX50, w ∈ wsL_law := by decide +kernel
variable {s : State} {b : Nat}
theorem en_nw (hts : ∀ w ∈ lw_tbl, w.before #[Value.ref b] s = true) (hgv : (Jvm.Cond.and given_1 narrow_1).before #[Value.ref b] s = true) : ∀ w ∈ bNW, bStable w = true ∧ va_Nw w s := by
  have hq := flat_of_before _ hgv
  have t : ∀ (w : Cond) (i : Nat), lw_tbl[i]? = some w → bStable w = true → w.onTables = true → bStable w = true ∧ va_Nw w s := fun w i h1 h2 h3 => ⟨h2, va_Nw.of h3 (hts w (List.mem_of_getElem? h1))⟩
  have n : ∀ C T : String, (Cond.not (.castable C T)).before #[Value.ref b] s = true → bStable (Cond.not (.castable C T)) = true ∧ va_Nw (Cond.not (.castable C T)) s := fun C T h => ⟨rfl, h⟩
  unfold bNW
  exact (b_pc (t _ 83 (by decide +kernel) rfl rfl) (b_pc (t _ 108 (by decide +kernel) rfl rfl) (b_pc (t _ 110 (by decide +kernel) rfl rfl) (b_pc (t _ 106 (by decide +kernel) rfl rfl) (b_pc (t _ 79 (by decide +kernel) rfl rfl) (b_pc (t _ 77 (by decide +kernel) rfl rfl) (b_pc (t _ 75 (by decide +kernel) rfl rfl) (b_pc (t _ 81 (by decide +kernel) rfl rfl) (b_pc (t _ 48 (by decide +kernel) rfl rfl) (b_pc (t _ 46 (by decide +kernel) rfl rfl) (b_pc (t _ 47 (by decide +kernel) rfl rfl) (b_pc (t _ 119 (by decide +kernel) rfl rfl) (b_pc (t _ 115 (by decide +kernel) rfl rfl) (b_pc (t _ 113 (by decide +kernel) rfl rfl) (b_pc (t _ 117 (by decide +kernel) rfl rfl) (b_pc (t _ 44 (by decide +kernel) rfl rfl) (b_pc (t _ 59 (by decide +kernel) rfl rfl) (b_pc (t _ 70 (by decide +kernel) rfl rfl) (b_pc (t _ 139 (by decide +kernel) rfl rfl) (b_pc (t _ 364 (by decide +kernel) rfl rfl) (b_pc (t _ 193 (by decide +kernel) rfl rfl) (b_pc (t _ 292 (by decide +kernel) rfl rfl) (b_pc (t _ 315 (by decide +kernel) rfl rfl) (b_pc (t _ 195 (by decide +kernel) rfl rfl) (b_pc (t _ 197 (by decide +kernel) rfl rfl) (b_pc (t _ 199 (by decide +kernel) rfl rfl) (b_pc (n _ _ (hq _ (by decide +kernel))) (b_pc (n _ _ (hq _ (by decide +kernel))) (b_pc (n _ _ (hq _ (by decide +kernel))) (b_pc (n _ _ (hq _ (by decide +kernel))) (b_pc (n _ _ (hq _ (by decide +kernel))) (b_pc (n _ _ (hq _ (by decide +kernel))) b_pn))))))))))))))))))))))))))))))))
theorem en_sw (hts : ∀ w ∈ lw_tbl, w.before #[Value.ref b] s = true) (hgv : (Jvm.Cond.and given_1 narrow_1).before #[Value.ref b] s = true) : ∀ q ∈ bSW, ∃ sa : Nat, vk_R q.1 q.2.1 q.2.2 sa s := by
  have hq := flat_of_before _ hgv
  have t : ∀ (q : String × Nat × String) (i : Nat), lw_tbl[i]? = some (Cond.stringRef q.1 q.2.1 q.2.2) → (Cond.exactly (.string q.1 q.2.1) "java/lang/String").before #[Value.ref b] s = true → ∃ sa : Nat, vk_R q.1 q.2.1 q.2.2 sa s := fun q i h1 h2 => by
    obtain ⟨a, _, _, _, e1, -⟩ := Cond.exactly_spec h2
    exact ⟨a, (vk_R.of (A := #[Value.ref b]) (hts _ (List.mem_of_getElem? h1)) e1).same rfl⟩
  unfold bSW
  exact (b_pc (t _ 322 (by decide +kernel) (hq _ (by decide +kernel))) (b_pc (t _ 493 (by decide +kernel) (hq _ (by decide +kernel))) (b_pc (t _ 494 (by decide +kernel) (hq _ (by decide +kernel))) (b_pc (t _ 345 (by decide +kernel) (hq _ (by decide +kernel))) (b_pc (t _ 415 (by decide +kernel) (hq _ (by decide +kernel))) (b_pc (t _ 416 (by decide +kernel) (hq _ (by decide +kernel))) (b_pc (t _ 445 (by decide +kernel) (hq _ (by decide +kernel))) (b_pc (t _ 536 (by decide +kernel) (hq _ (by decide +kernel))) (b_pc (t _ 537 (by decide +kernel) (hq _ (by decide +kernel))) (b_pc (t _ 538 (by decide +kernel) (hq _ (by decide +kernel))) (b_pc (t _ 232 (by decide +kernel) (hq _ (by decide +kernel))) (b_pc (t _ 472 (by decide +kernel) (hq _ (by decide +kernel))) (b_pc (t _ 480 (by decide +kernel) (hq _ (by decide +kernel))) (b_pc (t _ 267 (by decide +kernel) (hq _ (by decide +kernel))) (b_pc (t _ 283 (by decide +kernel) (hq _ (by decide +kernel))) (b_pc (t _ 425 (by decide +kernel) (hq _ (by decide +kernel))) (b_pc (t _ 299 (by decide +kernel) (hq _ (by decide +kernel))) (b_pc (t _ 308 (by decide +kernel) (hq _ (by decide +kernel))) b_pn))))))))))))))))))
theorem en_z (hts : ∀ w ∈ lw_tbl, w.before #[Value.ref b] s = true) (hgv : (Jvm.Cond.and given_1 narrow_1).before #[Value.ref b] s = true) : bZ [] s := by
  have hq := flat_of_before _ hgv
  have hA : ∀ a : Nat, a < s.heap.size → ¬ Aw [] s.heap.size a := fun a h h9 => h9.elim (fun h => nomatch h) (fun h9 => absurd h (Nat.not_lt.mpr h9))
  have hi := hts (.initialized Bundle.tN) (List.mem_of_getElem? (i := 21) (by decide +kernel))
  exact ⟨vx_Zqof (hts (.laysStatic Bundle.tN "UNASSIGNED_STACK" Bundle.steD) (List.mem_of_getElem? (i := 218) (by decide +kernel))) hi (hq _ (by decide +kernel)) hA, vx_Zqof (hts (.laysStatic Bundle.tN "SUPPRESSED_SENTINEL" Bundle.listD) (List.mem_of_getElem? (i := 220) (by decide +kernel))) hi (hq _ (by decide +kernel)) hA⟩
theorem en_arr {ty : FieldType} (h : (Cond.arrayClass ty).before #[Value.ref b] s = true) (ht : ∀ C, ty ≠ .object C) : ∃ c : ClassId, ArrOfT s c ty ∧ va_RA s c ty := by
  obtain ⟨c, k, comp, h1, h2, h3⟩ := Cond.arrayClass_spec h
  refine ⟨c, fun n z => ⟨fun k h => (by cases h), k, h2, comp, h3⟩, ?_⟩
  cases ty <;> first | exact h1 | exact absurd rfl (ht _)
theorem en_K (hts : ∀ w ∈ lw_tbl, w.before #[Value.ref b] s = true) (hts' : ∀ w ∈ wsL_law, w.before #[Value.ref b] s = true) : ∃ G : bG, va_K G.1 vwCl (bT G) s := by
  obtain ⟨c0, i0, hKn0⟩ := u_known (C := RX0) (T := TX0) (N := 1) (n := 1) hts' (fun w h => en_sub0 w h) (hts' (.instantiable RX0 1) (by decide +kernel))
  obtain ⟨c1, i1, hKn1⟩ := u_known (C := RX1) (T := TX1) (N := 8) (n := 8) hts' (fun w h => en_sub1 w h) (hts' (.instantiable RX1 8) (by decide +kernel))
  obtain ⟨c2, i2, hKn2⟩ := u_known (C := RX2) (T := TX2) (N := 5) (n := 5) hts' (fun w h => en_sub2 w h) (hts' (.instantiable RX2 5) (by decide +kernel))
  obtain ⟨c3, i3, hKn3⟩ := u_known (C := RX3) (T := TX3) (N := 2) (n := 2) hts' (fun w h => en_sub3 w h) (hts' (.instantiable RX3 2) (by decide +kernel))
  obtain ⟨c4, i4, hKn4⟩ := u_known (C := RX4) (T := TX4) (N := 3) (n := 3) hts' (fun w h => en_sub4 w h) (hts' (.instantiable RX4 3) (by decide +kernel))
  obtain ⟨c5, i5, hKn5⟩ := u_known (C := RX5) (T := TX5) (N := 11) (n := 11) hts' (fun w h => en_sub5 w h) (hts' (.instantiable RX5 11) (by decide +kernel))
  obtain ⟨a0, hI1, hI2⟩ := en_arr (hts (.arrayClass .int) (List.mem_of_getElem? (i := 56) (by decide +kernel))) (fun _ h => nomatch h)
  obtain ⟨a1, hZ1, hZ2⟩ := en_arr (hts (.arrayClass .boolean) (List.mem_of_getElem? (i := 67) (by decide +kernel))) (fun _ h => nomatch h)
  refine ⟨((fun k => match k with | 0 => c0 | 1 => c1 | 2 => c2 | 3 => c3 | 4 => c4 | _ => c5, fun k => match k with | 0 => i0 | 1 => i1 | 2 => i2 | 3 => i3 | 4 => i4 | _ => i5), a0, a1, a0), ?_, ?_⟩
  · intro k q hq
    match k, hq with
    | 0, hq => cases hq; exact hKn0
    | 1, hq => cases hq; exact hKn1
    | 2, hq => cases hq; exact hKn2
    | 3, hq => cases hq; exact hKn3
    | 4, hq => cases hq; exact hKn4
    | 5, hq => cases hq; exact hKn5
    | k + 6, hq => simp [vwCl] at hq
  · intro k q hq
    match k, hq with
    | 0, hq => cases hq; exact ⟨hI1, hI2⟩
    | 1, hq => cases hq; exact ⟨hZ1, hZ2⟩
    | k + 2, hq => simp [bT] at hq
end EN
