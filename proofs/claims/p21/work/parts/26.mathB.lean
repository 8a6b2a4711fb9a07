/-! the book and what the house keeps beside it -/
def toldB (bc : Nat → Int32) (bn c : Nat) : Bool := anyB (fun k => decide (bc k = nI c)) bn
def BK (bc bd bf : Nat → Int32) (bn td : Nat) (lat ear cnt ld : Nat → Int32) : Prop := ∀ c, c < 1680 → lat c = fo bc bd bf (nI c) (nI td) bn ∧ ear c = fst9 bc bf (nI c) bn ∧ cnt c = nI (cnt9 bc (nI c) bn) ∧ (toldB bc bn c = true → ld c = tdO bc bd (nI c) bn)
theorem fo_cg {bc bd bf bc' bd' bf' : Nat → Int32} {x d d' : Int32} : ∀ {n : Nat}, (∀ k, k < n → bc k = bc' k ∧ bd k = bd' k ∧ bf k = bf' k ∧ (bd k ≤ d ↔ bd k ≤ d')) → fo bc bd bf x d n = fo bc' bd' bf' x d' n
  | 0, _ => rfl
  | n + 1, h => by
    obtain ⟨h1, h2, h3, h4⟩ := h n (Nat.lt_succ_self n)
    show (if bc n = x ∧ bd n ≤ d then bf n else fo bc bd bf x d n) = (if bc' n = x ∧ bd' n ≤ d' then bf' n else fo bc' bd' bf' x d' n)
    rw [fo_cg (fun k hk => h k (Nat.lt_succ_of_lt hk)), ← h1, ← h2, ← h3]
    by_cases h5 : bc n = x
    · by_cases h6 : bd n ≤ d
      · rw [if_pos ⟨h5, h6⟩, if_pos ⟨h5, h4.mp h6⟩]
      · rw [if_neg (fun h => h6 h.2), if_neg (fun h => h6 (h4.mpr h.2))]
    · rw [if_neg (fun h => h5 h.1), if_neg (fun h => h5 h.1)]
theorem any_cg {p p' : Nat → Bool} : ∀ {n : Nat}, (∀ k, k < n → p k = p' k) → anyB p n = anyB p' n
  | 0, _ => rfl
  | n + 1, h => by
    show (anyB p n || p n) = (anyB p' n || p' n)
    rw [any_cg (fun k hk => h k (Nat.lt_succ_of_lt hk)), h n (Nat.lt_succ_self n)]
theorem fst9_cg {bc bf bc' bf' : Nat → Int32} {x : Int32} : ∀ {n : Nat}, (∀ k, k < n → bc k = bc' k ∧ bf k = bf' k) → fst9 bc bf x n = fst9 bc' bf' x n
  | 0, _ => rfl
  | n + 1, h => by
    show (if anyB (fun k => decide (bc k = x)) n = true then fst9 bc bf x n else if bc n = x then bf n else MIS) = (if anyB (fun k => decide (bc' k = x)) n = true then fst9 bc' bf' x n else if bc' n = x then bf' n else MIS)
    rw [any_cg (p := fun k => decide (bc k = x)) (p' := fun k => decide (bc' k = x)) (fun k hk => by show decide (bc k = x) = decide (bc' k = x); rw [(h k (Nat.lt_succ_of_lt hk)).1]), fst9_cg (fun k hk => h k (Nat.lt_succ_of_lt hk)), (h n (Nat.lt_succ_self n)).1, (h n (Nat.lt_succ_self n)).2]
theorem cnt9_cg {bc bc' : Nat → Int32} {x : Int32} {n : Nat} (h : ∀ k, k < n → bc k = bc' k) : cnt9 bc x n = cnt9 bc' x n :=
  cH_congr (fun k hk _ => by show decide (bc k = x) = decide (bc' k = x); rw [h k hk])
theorem tdO_cg {bc bd bc' bd' : Nat → Int32} {x : Int32} : ∀ {n : Nat}, (∀ k, k < n → bc k = bc' k ∧ bd k = bd' k) → tdO bc bd x n = tdO bc' bd' x n
  | 0, _ => rfl
  | n + 1, h => by
    show (if bc n = x then bd n else tdO bc bd x n) = (if bc' n = x then bd' n else tdO bc' bd' x n)
    rw [tdO_cg (fun k hk => h k (Nat.lt_succ_of_lt hk)), (h n (Nat.lt_succ_self n)).1, (h n (Nat.lt_succ_self n)).2]
theorem cnt9_0 {bc : Nat → Int32} {x : Int32} : ∀ {n : Nat}, cnt9 bc x n = 0 ↔ anyB (fun k => decide (bc k = x)) n = false
  | 0 => ⟨fun _ => rfl, fun _ => rfl⟩
  | n + 1 => by
    have ih := cnt9_0 (bc := bc) (x := x) (n := n)
    show cnt9 bc x n + (if (true && decide (bc n = x)) = true then 1 else 0) = 0 ↔ (anyB (fun k => decide (bc k = x)) n || decide (bc n = x)) = false
    by_cases h : bc n = x
    · simp [h]
    · simp [h, ih]
theorem cnt9_le {bc : Nat → Int32} {x : Int32} {n : Nat} : cnt9 bc x n ≤ n := cH_le n
theorem fo_told {bc bd bf : Nat → Int32} {d : Int32} {n c : Nat} (h : ¬ fo bc bd bf (nI c) d n = MIS) : toldB bc n c = true := by
  cases e : toldB bc n c with
  | true => rfl
  | false =>
    exfalso
    apply h
    refine fo_none (fun j hj h9 => ?_)
    have : toldB bc n c = true := anyB_iff.mpr ⟨j, hj, by simp [h9]⟩
    rw [e] at this; cases this
theorem nI_le_td {k td : Nat} (h : k ≤ td) (ht : td ≤ 1000) : nI k ≤ nI td := (nI_leI (by omega) (by omega)).mpr h
/-- one line more -/
theorem BK_add {bc bd bf lat ear cnt ld : Nat → Int32} {bn td c0 : Nat} {fig : Int32} (h : BK bc bd bf bn td lat ear cnt ld) (hbn : bn ≤ 300) (hc0 : c0 < 1680) :
    BK (upd bc bn (nI c0)) (upd bd bn (nI td)) (upd bf bn fig) (bn + 1) td (upd lat c0 fig) (if cnt c0 = 0 then upd ear c0 fig else ear) (upd cnt c0 (cnt c0 + nI 1)) (upd ld c0 (nI td)) := by
  intro c hc
  obtain ⟨h1, h2, h3, h4⟩ := h c hc
  have q1 : ∀ k, k < bn → upd bc bn (nI c0) k = bc k := fun k hk => pk_un (by omega)
  have q2 : ∀ k, k < bn → upd bd bn (nI td) k = bd k := fun k hk => pk_un (by omega)
  have q3 : ∀ k, k < bn → upd bf bn fig k = bf k := fun k hk => pk_un (by omega)
  have e1 : upd bc bn (nI c0) bn = nI c0 := pk_us
  have e2 : upd bd bn (nI td) bn = nI td := pk_us
  have e3 : upd bf bn fig bn = fig := pk_us
  have r1 : fo (upd bc bn (nI c0)) (upd bd bn (nI td)) (upd bf bn fig) (nI c) (nI td) bn = fo bc bd bf (nI c) (nI td) bn := fo_cg (fun k hk => ⟨q1 k hk, q2 k hk, q3 k hk, Iff.rfl⟩)
  have r2 : fst9 (upd bc bn (nI c0)) (upd bf bn fig) (nI c) bn = fst9 bc bf (nI c) bn := fst9_cg (fun k hk => ⟨q1 k hk, q3 k hk⟩)
  have r3 : cnt9 (upd bc bn (nI c0)) (nI c) bn = cnt9 bc (nI c) bn := cnt9_cg q1
  have r4 : tdO (upd bc bn (nI c0)) (upd bd bn (nI td)) (nI c) bn = tdO bc bd (nI c) bn := tdO_cg (fun k hk => ⟨q1 k hk, q2 k hk⟩)
  have r5 : anyB (fun k => decide (upd bc bn (nI c0) k = nI c)) bn = anyB (fun k => decide (bc k = nI c)) bn := any_cg (fun k hk => by show decide (upd bc bn (nI c0) k = nI c) = _; rw [q1 k hk])
  by_cases hcc : c = c0
  · subst hcc
    refine ⟨?_, ?_, ?_, ?_⟩
    · rw [show upd lat c fig c = fig from pk_us, fo_hit e1 (by rw [e2]; rw [Int32.lt_iff_toInt_lt]; omega), e3]
    · show _ = (if anyB (fun k => decide (upd bc bn (nI c) k = nI c)) bn = true then fst9 (upd bc bn (nI c)) (upd bf bn fig) (nI c) bn else if upd bc bn (nI c) bn = nI c then upd bf bn fig bn else MIS)
      rw [r5, r2, e1, e3, if_pos (rfl : nI c = nI c)]
      by_cases hz : cnt9 bc (nI c) bn = 0
      · rw [if_pos (by rw [h3, hz]; rfl), cnt9_0.mp hz, if_neg (by decide)]
        exact pk_us
      · have hz2 : ¬ cnt c = 0 := by
          rw [h3]
          have := cnt9_le (bc := bc) (x := nI c) (n := bn)
          exact fun h9 => hz ((nI_z (by omega)).mp h9)
        have hz3 : anyB (fun k => decide (bc k = nI c)) bn = true := by
          cases e : anyB (fun k => decide (bc k = nI c)) bn with
          | true => rfl
          | false => exact absurd (cnt9_0.mpr e) hz
        rw [if_neg hz2, hz3, if_pos rfl, h2]
    · rw [show upd cnt c (cnt c + nI 1) c = cnt c + nI 1 from pk_us, h3]
      show nI _ + nI 1 = nI (cnt9 (upd bc bn (nI c)) (nI c) bn + (if (true && decide (upd bc bn (nI c) bn = nI c)) = true then 1 else 0))
      rw [r3, e1]
      simp only [decide_true, Bool.and_self, if_true]
      exact nI_add _ 1
    · intro _
      rw [show upd ld c (nI td) c = nI td from pk_us, tdO_y e1, e2]
  · have hne : ¬ nI c0 = nI c := fun h9 => hcc ((nI_eq (by omega) (by omega)).mp h9).symm
    have hb : ¬ upd bc bn (nI c0) bn = nI c := by rw [e1]; exact hne
    refine ⟨?_, ?_, ?_, ?_⟩
    · rw [show upd lat c0 fig c = lat c from pk_un hcc, fo_miss1 hb, r1, h1]
    · have g : (if cnt c0 = 0 then upd ear c0 fig else ear) c = ear c := by
        split
        · exact pk_un hcc
        · rfl
      rw [g, h2]
      show _ = (if anyB (fun k => decide (upd bc bn (nI c0) k = nI c)) bn = true then fst9 (upd bc bn (nI c0)) (upd bf bn fig) (nI c) bn else if upd bc bn (nI c0) bn = nI c then upd bf bn fig bn else MIS)
      rw [r5, r2, if_neg hb]
      cases e : anyB (fun k => decide (bc k = nI c)) bn with
      | true => rw [if_pos rfl]
      | false =>
        rw [if_neg (by decide)]
        refine fst9_none (fun j hj => ?_)
        cases e9 : decide (bc j = nI c) with
        | false => rfl
        | true =>
          have := (anyB_iff (p := fun k => decide (bc k = nI c))).mpr ⟨j, hj, e9⟩
          rw [e] at this; cases this
    · rw [show upd cnt c0 (cnt c0 + nI 1) c = cnt c from pk_un hcc, h3]
      show nI _ = nI (cnt9 (upd bc bn (nI c0)) (nI c) bn + (if (true && decide (upd bc bn (nI c0) bn = nI c)) = true then 1 else 0))
      rw [r3]
      simp [hb]
    · intro ht
      have ht' : (anyB (fun k => decide (upd bc bn (nI c0) k = nI c)) bn || decide (upd bc bn (nI c0) bn = nI c)) = true := ht
      rw [r5] at ht'
      simp only [hb, decide_false, Bool.or_false] at ht'
      rw [show upd ld c0 (nI td) c = ld c from pk_un hcc, tdO_n hb, r4]
      exact h4 ht'
theorem bOk_add {nA nJ bn td : Nat} {bc bd : Nat → Int32} (h : bOk nA nJ bn td bc bd) (ht : td ≤ 1000) {a i p : Nat} (ha : a < nA) (hi : i < nJ) (hp : p < 12) : bOk nA nJ (bn + 1) td (upd bc bn (nI (140 * p + (10 * a + i)))) (upd bd bn (nI td)) := by
  obtain ⟨h1, h2, h3⟩ := h
  refine ⟨fun j hj => ?_, fun x y hxy hy => ?_, fun j hj => ?_⟩
  · by_cases e : j = bn
    · subst e; exact ⟨a, i, p, ha, hi, hp, pk_us⟩
    · rw [show upd bc bn (nI (140 * p + (10 * a + i))) j = bc j from pk_un e]; exact h1 j (by omega)
  · by_cases e : y = bn
    · subst e
      rw [show upd bd y (nI td) y = nI td from pk_us]
      by_cases e2 : x = y
      · subst e2
        rw [show upd bd x (nI td) x = nI td from pk_us, Int32.le_iff_toInt_le]; omega
      · rw [show upd bd y (nI td) x = bd x from pk_un e2]
        obtain ⟨k, hk, ek⟩ := h3 x (by omega)
        rw [ek]; exact nI_le_td hk ht
    · rw [show upd bd bn (nI td) y = bd y from pk_un e, show upd bd bn (nI td) x = bd x from pk_un (by omega)]
      exact h2 x y hxy (by omega)
  · by_cases e : j = bn
    · subst e; exact ⟨td, Nat.le_refl _, pk_us⟩
    · rw [show upd bd bn (nI td) j = bd j from pk_un e]; exact h3 j (by omega)
theorem bOk_mono {nA nJ nA' nJ' bn td td' : Nat} {bc bd : Nat → Int32} (h : bOk nA nJ bn td bc bd) (hA : nA ≤ nA') (hJ : nJ ≤ nJ') (ht : td ≤ td') : bOk nA' nJ' bn td' bc bd := by
  obtain ⟨h1, h2, h3⟩ := h
  refine ⟨fun j hj => ?_, h2, fun j hj => ?_⟩
  · obtain ⟨a, i, p, k1, k2, k3, k4⟩ := h1 j hj
    exact ⟨a, i, p, by omega, by omega, k3, k4⟩
  · obtain ⟨k, k1, k2⟩ := h3 j hj
    exact ⟨k, by omega, k2⟩
theorem BK_td {nA nJ bn td td' : Nat} {bc bd bf lat ear cnt ld : Nat → Int32} (hB : bOk nA nJ bn td bc bd) (h : BK bc bd bf bn td lat ear cnt ld) (ht : td ≤ td') (ht' : td' ≤ 1000) : BK bc bd bf bn td' lat ear cnt ld := by
  intro c hc
  obtain ⟨h1, h2, h3, h4⟩ := h c hc
  refine ⟨h1.trans (fo_cg (fun k hk => ⟨rfl, rfl, rfl, ?_⟩)), h2, h3, h4⟩
  obtain ⟨j, j1, j2⟩ := hB.2.2 k hk
  rw [j2]
  exact ⟨fun _ => nI_le_td (by omega) ht', fun _ => nI_le_td j1 (by omega)⟩
/-! a message: the house and the reference judge it alike -/
def DR (nA nJ dn : Nat) (da dc : Nat → Int32) : Prop := ∀ k, k < dn → ∃ a i p, a < nA ∧ i < nJ ∧ p < 12 ∧ da k = nI a ∧ dc k = nI (140 * p + (10 * a + i))
theorem run_eq {on : Nat → Bool} {fA rf dw dv da dc bc bd bf lat ear cnt ld : Nat → Int32} {nA nJ sd dn td bn : Nat} (hA : nA ≤ 14) (hJ : nJ ≤ 10) (hT : TI fA nA) (ht : td ≤ 1000) (hdr : DR nA nJ dn da dc) (hB : bOk nA nJ bn td bc bd) (hK : BK bc bd bf bn td lat ear cnt ld) (hbn : bn + dn ≤ 300) :
    ∀ k, k ≤ dn → ∀ (z : zT) (z' : mT), z = jRun (fun k => covR on fA nA sd (cl (da k))) dw dv (fun k => cl (dc k)) (nI td) (0, rf, bn, bc, bd, bf, lat, ear, cnt, ld) k → z' = mRun (fun k => wkB fA (fun j => on (14 * sd + j)) nA (nI (cl (dc k) % 140 / 10))) dw dv (fun k => cl (dc k)) (nI td) (0, rf, bn, bc, bd, bf) k →
      zD z = mD z' ∧ zR z = mR z' ∧ zN z = mN z' ∧ zC z = mC z' ∧ zY z = mY z' ∧ zF z = mF z' ∧ bOk nA nJ (zN z) td (zC z) (zY z) ∧ BK (zC z) (zY z) (zF z) (zN z) td (zL z) (zE z) (zM z) (zS z) ∧ zN z ≤ bn + k := by
  intro k
  induction k with
  | zero =>
    intro _ z z' hz hz'
    subst hz; subst hz'
    exact ⟨rfl, rfl, rfl, rfl, rfl, rfl, hB, hK, Nat.le_refl _⟩
  | succ k ih =>
    intro hk z z' hz hz'
    obtain ⟨h1, h2, h3, h4, h5, h6, h7, h8, h9⟩ := ih (by omega) _ _ rfl rfl
    obtain ⟨a, i, p, ha, hi, hp, hda, hdc⟩ := hdr k (by omega)
    have hz2 : z = jS (fun k => covR on fA nA sd (cl (da k))) dw dv (fun k => cl (dc k)) (nI td) k (jRun (fun k => covR on fA nA sd (cl (da k))) dw dv (fun k => cl (dc k)) (nI td) (0, rf, bn, bc, bd, bf, lat, ear, cnt, ld) k) := hz
    have hz3 : z' = mS (fun k => wkB fA (fun j => on (14 * sd + j)) nA (nI (cl (dc k) % 140 / 10))) dw dv (fun k => cl (dc k)) (nI td) k (mRun (fun k => wkB fA (fun j => on (14 * sd + j)) nA (nI (cl (dc k) % 140 / 10))) dw dv (fun k => cl (dc k)) (nI td) (0, rf, bn, bc, bd, bf) k) := hz'
    generalize jRun (fun k => covR on fA nA sd (cl (da k))) dw dv (fun k => cl (dc k)) (nI td) (0, rf, bn, bc, bd, bf, lat, ear, cnt, ld) k = y at h1 h2 h3 h4 h5 h6 h7 h8 h9 hz2
    generalize mRun (fun k => wkB fA (fun j => on (14 * sd + j)) nA (nI (cl (dc k) % 140 / 10))) dw dv (fun k => cl (dc k)) (nI td) (0, rf, bn, bc, bd, bf) k = y' at h1 h2 h3 h4 h5 h6 h7 h8 h9 hz3
    have hc0 : 140 * p + (10 * a + i) < 1680 := by omega
    have ec : cl (dc k) = 140 * p + (10 * a + i) := by rw [hdc]; exact cl_nI (by omega)
    have ea : cl (da k) = a := by rw [hda]; exact cl_nI (by omega)
    have em : (140 * p + (10 * a + i)) % 140 / 10 = a := by omega
    have hcov : covR on fA nA sd (cl (da k)) = wkB fA (fun j => on (14 * sd + j)) nA (nI (cl (dc k) % 140 / 10)) := by
      rw [ea, ec, em]; exact cov_eq hT hA ha
    have hlat : zL y (cl (dc k)) = fo (mC y') (mY y') (mF y') (nI (cl (dc k))) (nI td) (mN y') := by
      rw [← h3, ← h4, ← h5, ← h6]
      exact (h8 _ (by rw [ec]; omega)).1
    have hr : jR (covR on fA nA sd (cl (da k))) (dw k) (dv k) (zL y (cl (dc k))) = jR (wkB fA (fun j => on (14 * sd + j)) nA (nI (cl (dc k) % 140 / 10))) (dw k) (dv k) (fo (mC y') (mY y') (mF y') (nI (cl (dc k))) (nI td) (mN y')) := by rw [hcov, hlat]
    unfold jS at hz2
    unfold mS at hz3
    rw [hr] at hz2
    generalize jR (wkB fA (fun j => on (14 * sd + j)) nA (nI (cl (dc k) % 140 / 10))) (dw k) (dv k) (fo (mC y') (mY y') (mF y') (nI (cl (dc k))) (nI td) (mN y')) = r at hz2 hz3
    by_cases h0 : r = 0
    · rw [if_pos h0] at hz2
      rw [if_pos h0] at hz3
      subst hz2; subst hz3
      refine ⟨congrArg (· + 1) h1, ?_, congrArg (· + 1) h3, ?_, ?_, ?_, ?_, ?_, ?_⟩
      · show upd (zR y) k r = upd (mR y') k r
        rw [h2]
      · show upd (zC y) (zN y) _ = upd (mC y') (mN y') _
        rw [h3, h4]
      · show upd (zY y) (zN y) _ = upd (mY y') (mN y') _
        rw [h3, h5]
      · show upd (zF y) (zN y) _ = upd (mF y') (mN y') _
        rw [h3, h6]
      · show bOk nA nJ (zN y + 1) td (upd (zC y) (zN y) (nI (cl (dc k)))) (upd (zY y) (zN y) (nI td))
        rw [ec]
        exact bOk_add h7 ht ha hi hp
      · exact BK_add (c0 := cl (dc k)) h8 (by omega) (by rw [ec]; omega)
      · show zN y + 1 ≤ bn + (k + 1)
        omega
    · rw [if_neg h0] at hz2
      rw [if_neg h0] at hz3
      subst hz2; subst hz3
      refine ⟨h1, ?_, h3, h4, h5, h6, h7, h8, ?_⟩
      · show upd (zR y) k r = upd (mR y') k r
        rw [h2]
      · show zN y ≤ bn + (k + 1)
        omega
