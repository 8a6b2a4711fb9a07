/-! the house's answers and the reference's: the same -/
def EqH (b b' : Nat → Bool) : Prop := ∀ t, t < 140 → b t = b' t
def EqV (nA nJ : Nat) (v v' : Nat → Int32) : Prop := ∀ a i, a < nA → i < nJ → v (10 * a + i) = v' (10 * a + i)
section MH
variable {fA fJ : Nat → Int32} {nA nJ : Nat} {v v' : Nat → Int32} {by_ : Bool}
theorem gRow_cg {b b' : Nat → Bool} (hA : nA ≤ 14) (hJ : nJ ≤ 10) (hv : EqV nA nJ v v') (hb : EqH b b') {a i : Nat} (ha : a < nA) (hi : i < nJ) : gRow fA nA fJ nJ v by_ b a i = gRow fA nA fJ nJ v' by_ b' a i := by
  unfold gRow
  cases by_ with
  | true =>
    rw [if_pos rfl, if_pos rfl, hb (10 * a + i) (by omega)]
    exact pR_congr (fun k hk _ => ⟨hb _ (by omega), hv k i hk hi, rfl⟩)
  | false =>
    rw [if_neg (by decide), if_neg (by decide), hb (10 * a + i) (by omega)]
    exact pR_congr (fun k hk _ => ⟨hb _ (by omega), hv a k ha hk, rfl⟩)
theorem uO_cg {b b' : Nat → Bool} (h : EqH b b') (o : Option Nat) : EqH (uO b o) (uO b' o) := by
  intro t ht
  cases o with
  | none => exact h t ht
  | some j =>
    show uB b j true t = uB b' j true t
    by_cases hj : t = j <;> simp [uB, hj, h t ht]
theorem gI_cg {S S' : (Nat → Bool) × Bool} (hA : nA ≤ 14) (hJ : nJ ≤ 10) (hv : EqV nA nJ v v') (h1 : EqH S.1 S'.1) (h2 : S.2 = S'.2) {a : Nat} (ha : a < nA) : ∀ {i : Nat}, i ≤ nJ → EqH (gI fA nA fJ nJ v by_ S a i).1 (gI fA nA fJ nJ v' by_ S' a i).1 ∧ (gI fA nA fJ nJ v by_ S a i).2 = (gI fA nA fJ nJ v' by_ S' a i).2
  | 0, _ => ⟨h1, h2⟩
  | i + 1, hi => by
    obtain ⟨k1, k2⟩ := gI_cg (S := S) (S' := S') hA hJ hv h1 h2 ha (i := i) (by omega)
    have hr := gRow_cg (fA := fA) (fJ := fJ) (by_ := by_) hA hJ hv k1 ha (show i < nJ by omega)
    refine ⟨?_, ?_⟩
    · show EqH (uO (gI fA nA fJ nJ v by_ S a i).1 (gRow fA nA fJ nJ v by_ (gI fA nA fJ nJ v by_ S a i).1 a i)) (uO (gI fA nA fJ nJ v' by_ S' a i).1 (gRow fA nA fJ nJ v' by_ (gI fA nA fJ nJ v' by_ S' a i).1 a i))
      rw [hr]
      exact uO_cg k1 _
    · show ((gI fA nA fJ nJ v by_ S a i).2 || (gRow fA nA fJ nJ v by_ (gI fA nA fJ nJ v by_ S a i).1 a i).isSome) = ((gI fA nA fJ nJ v' by_ S' a i).2 || (gRow fA nA fJ nJ v' by_ (gI fA nA fJ nJ v' by_ S' a i).1 a i).isSome)
      rw [hr, k2]
theorem gA_cg {S S' : (Nat → Bool) × Bool} (hA : nA ≤ 14) (hJ : nJ ≤ 10) (hv : EqV nA nJ v v') (h1 : EqH S.1 S'.1) (h2 : S.2 = S'.2) : ∀ {a : Nat}, a ≤ nA → EqH (gA fA nA fJ nJ v by_ S a).1 (gA fA nA fJ nJ v' by_ S' a).1 ∧ (gA fA nA fJ nJ v by_ S a).2 = (gA fA nA fJ nJ v' by_ S' a).2
  | 0, _ => ⟨h1, h2⟩
  | a + 1, ha => by
    obtain ⟨k1, k2⟩ := gA_cg (S := S) (S' := S') hA hJ hv h1 h2 (a := a) (by omega)
    exact gI_cg hA hJ hv k1 k2 (by omega) (Nat.le_refl nJ)
theorem stp_cg {b b' : Nat → Bool} (hA : nA ≤ 14) (hJ : nJ ≤ 10) (hv : EqV nA nJ v v') (h : EqH b b') : EqH (stp fA nA fJ nJ v b).1 (stp fA nA fJ nJ v' b').1 ∧ (stp fA nA fJ nJ v b).2 = (stp fA nA fJ nJ v' b').2 := by
  obtain ⟨k1, k2⟩ := gA_cg (fA := fA) (fJ := fJ) (by_ := true) (S := (b, false)) (S' := (b', false)) hA hJ hv h rfl (Nat.le_refl nA)
  obtain ⟨k3, k4⟩ := gA_cg (fA := fA) (fJ := fJ) (by_ := false) (S := ((gA fA nA fJ nJ v true (b, false) nA).1, false)) (S' := ((gA fA nA fJ nJ v' true (b', false) nA).1, false)) hA hJ hv k1 rfl (Nat.le_refl nA)
  refine ⟨k3, ?_⟩
  show ((gA fA nA fJ nJ v true (b, false) nA).2 || _) = ((gA fA nA fJ nJ v' true (b', false) nA).2 || _)
  rw [k2, k4]
theorem itR_cg (hA : nA ≤ 14) (hJ : nJ ≤ 10) (hv : EqV nA nJ v v') : ∀ {m : Nat} {b b' : Nat → Bool}, EqH b b' → EqH (itR (stp fA nA fJ nJ v) m b) (itR (stp fA nA fJ nJ v') m b')
  | 0, _, _, h => h
  | m + 1, b, b', h => by
    obtain ⟨k1, k2⟩ := stp_cg (fA := fA) (fJ := fJ) hA hJ hv h
    show EqH (if (stp fA nA fJ nJ v b).2 = true then itR (stp fA nA fJ nJ v) m (stp fA nA fJ nJ v b).1 else (stp fA nA fJ nJ v b).1) (if (stp fA nA fJ nJ v' b').2 = true then itR (stp fA nA fJ nJ v') m (stp fA nA fJ nJ v' b').1 else (stp fA nA fJ nJ v' b').1)
    rw [k2]
    split
    · exact itR_cg hA hJ hv k1
    · exact k1
theorem hd_eq {sc : Nat → Bool} {p : Nat} {hid hid' : Nat → Bool} (hA : nA ≤ 14) (hJ : nJ ≤ 10) (hv : EqV nA nJ v v') (ho : vOut nA nJ v) : EqH (hdn fA nA fJ nJ sc p v hid) (hdM fA nA fJ nJ sc p v' hid') := by
  refine itR_cg hA hJ hv (fun t ht => ?_)
  show (if t < 140 then (sc (140 * p + t) && !decide (v t = MIS)) else hid t) = (if t < 140 then h0M nA nJ p sc v' t else hid' t)
  rw [if_pos ht, if_pos ht]
  unfold h0M
  by_cases hc : t / 10 < nA ∧ t % 10 < nJ
  · have e := hv (t / 10) (t % 10) hc.1 hc.2
    rw [show 10 * (t / 10) + t % 10 = t by omega] at e
    rw [e]; simp [hc.1, hc.2]
  · rw [ho t ht hc]
    by_cases h1 : t / 10 < nA
    · have h2 : ¬ t % 10 < nJ := fun h => hc ⟨h1, h⟩
      simp [h2]
    · simp [h1]
theorem hd_cnt {b b' : Nat → Bool} (h : EqH b b') : cH (fun _ => true) b 140 = cH (fun _ => true) b' 140 := cH_congr (fun k hk _ => h k hk)
end MH
/-! walks outwards -/
theorem tW_wk {f : Nat → Int32} {n : Nat} {x : Int32} (hT : TI f n) (hn : n ≤ 14) : ∀ {m : Nat} {y : Int32}, (y = -1 ∨ ∃ j, j < m ∧ j < n ∧ y = nI j) → tW f x m y = (decide (x = -1) || wkB f (fun j => decide (nI j = x)) m y)
  | 0, y, h => by
    rcases h with rfl | ⟨j, hj, -, -⟩
    · show decide ((-1 : Int32) = x) = (decide (x = -1) || false)
      rw [Bool.or_false]
      exact decide_eq_decide.mpr ⟨fun h => h.symm, fun h => h.symm⟩
    · omega
  | m + 1, y, h => by
    rcases h with rfl | ⟨j, hj, hjn, rfl⟩
    · rw [tW_out rfl, wkB_end, Bool.or_false]
      exact decide_eq_decide.mpr ⟨fun h => h.symm, fun h => h.symm⟩
    · rw [wkB_s (by omega)]
      by_cases hx : nI j = x
      · rw [tW_hit hx]; simp [hx]
      · rw [tW_next rfl hx (by omega), tW_wk hT hn (tI_next2 hT hjn hj)]
        simp [hx]
theorem wk_any {f : Nat → Int32} {n : Nat} {P : Nat → Bool} (hT : TI f n) (hn : n ≤ 14) : ∀ {m : Nat} {y : Int32}, (y = -1 ∨ ∃ j, j < m ∧ j < n ∧ y = nI j) → (wkB f P m y = true ↔ ∃ k, k < n ∧ P k = true ∧ wkB f (fun j => decide (nI j = nI k)) m y = true)
  | 0, y, _ => by
    constructor
    · intro h; exact absurd h (by simp [wkB])
    · rintro ⟨k, -, -, h⟩; exact absurd h (by simp [wkB])
  | m + 1, y, h => by
    rcases h with rfl | ⟨j, hj, hjn, rfl⟩
    · constructor
      · intro h; rw [wkB_end] at h; cases h
      · rintro ⟨k, -, -, h⟩; rw [wkB_end] at h; cases h
    · rw [wkB_s (by omega)]
      have ih := wk_any (P := P) hT hn (tI_next2 hT hjn hj)
      constructor
      · intro h
        rcases Bool.or_eq_true_iff.mp h with h1 | h1
        · exact ⟨j, hjn, h1, by rw [wkB_s (by omega)]; simp⟩
        · obtain ⟨k, k1, k2, k3⟩ := ih.mp h1
          exact ⟨k, k1, k2, by rw [wkB_s (by omega), k3, Bool.or_true]⟩
      · rintro ⟨k, k1, k2, k3⟩
        rw [wkB_s (by omega)] at k3
        rcases Bool.or_eq_true_iff.mp k3 with h1 | h1
        · have e := (nI_eq (by omega) (by omega)).mp (of_decide_eq_true h1)
          subst e
          rw [k2, Bool.true_or]
        · rw [ih.mpr ⟨k, k1, k2, h1⟩, Bool.or_true]
theorem cov_eq {on : Nat → Bool} {fA : Nat → Int32} {nA sd a : Nat} (hT : TI fA nA) (hn : nA ≤ 14) (ha : a < nA) : covR on fA nA sd a = wkB fA (fun k => on (14 * sd + k)) nA (nI a) := by
  have hy : nI a = -1 ∨ ∃ j, j < nA ∧ j < nA ∧ nI a = nI j := Or.inr ⟨a, ha, ha, rfl⟩
  apply Bool.eq_iff_iff.mpr
  unfold covR
  rw [anyB_iff, wk_any hT hn hy]
  constructor
  · rintro ⟨k, k1, k2⟩
    rw [Bool.and_eq_true, tW_wk hT hn hy] at k2
    have h9 : ¬ nI k = -1 := b_m1 (by omega)
    simp only [h9, decide_false, Bool.false_or] at k2
    exact ⟨k, k1, k2.1, k2.2⟩
  · rintro ⟨k, k1, k2, k3⟩
    refine ⟨k, k1, ?_⟩
    rw [Bool.and_eq_true, tW_wk hT hn hy, k3, Bool.or_true]
    exact ⟨k2, rfl⟩
/-! searches -/
theorem srI_cg {M M' : Nat → Bool} {code : Nat → Int32} {N : Nat} (h : ∀ i, i < N → M i = M' i) : ∀ {m l : Nat}, m ≤ N → srI M code N m l = srI M' code N m l
  | 0, _, _ => rfl
  | m + 1, l, hm => by
    show (if M (N - (m + 1)) = true then _ else _) = (if M' (N - (m + 1)) = true then _ else _)
    rw [h _ (by omega), srI_cg h (show m ≤ N by omega), srI_cg h (show m ≤ N by omega)]
theorem srA_cg {S S' : Nat → Nat → Nat ⊕ Int32} {N f0 : Nat} (h : ∀ a l, a < N → S a l = S' a l) : ∀ {m l : Nat}, m ≤ N → srA S N m l = srA S' N m l
  | 0, _, _ => rfl
  | m + 1, l, hm => by
    show (match S (N - (m + 1)) l with | Sum.inr c => Sum.inr c | Sum.inl l' => srA S N m l') = (match S' (N - (m + 1)) l with | Sum.inr c => Sum.inr c | Sum.inl l' => srA S' N m l')
    rw [h _ _ (by omega)]
    cases S' (N - (m + 1)) l with
    | inr c => rfl
    | inl l' => exact srA_cg (f0 := f0) h (by omega)
theorem srT_cg {M M' : Nat → Nat → Nat → Bool} {nA nJ f0 t0 pl : Nat} (ht : t0 < 12) (h : ∀ p a i, p < 12 → a < nA → i < nJ → M p a i = M' p a i) : srT M nA nJ f0 t0 pl = srT M' nA nJ f0 t0 pl := by
  unfold srT
  refine srA_cg (f0 := f0) (fun p l hp => srA_cg (f0 := f0) (fun a l ha => srI_cg (fun i hi => h p a i (by omega) ha hi) (Nat.le_refl _)) (Nat.le_refl _)) (by omega)
