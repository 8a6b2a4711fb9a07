/-! what holds in every house: what is hidden has a value; values are small where figures are; how many are hidden; what a search finds; a message's count -/
theorem hg_pR {p b : Nat → Bool} {v : Nat → Int32} {n hs : Nat} {b0 : Bool} {sl : Nat → Nat} {t : Nat} (h : pR p b v n hs b0 sl = some t) : ¬ rSum p v n = MIS ∧ ((∃ j, j < n ∧ p j = true ∧ t = sl j) ∨ t = hs) := by
  unfold pR at h
  split at h
  · next hc =>
    have h1 := Option.some.inj h
    subst h1
    refine ⟨hc.2, ?_⟩
    cases e : nr p b v n with
    | some j =>
      obtain ⟨j1, j2, -⟩ := nr_some e
      exact Or.inl ⟨j, j1, j2, rfl⟩
    | none => exact Or.inr rfl
  · cases h
section HG
variable {F : Nat → Nat → Int32} {fA fJ : Nat → Int32} {nA nJ : Nat} {v : Nat → Int32} {by_ : Bool}
/-- a cell with a value -/
def hg_c (nA nJ : Nat) (v : Nat → Int32) (t : Nat) : Prop := ¬ v t = MIS ∧ ∃ a i, a < nA ∧ i < nJ ∧ t = 10 * a + i
theorem hg_row {hb : Nat → Bool} {a i t : Nat} (hF : Fx F fA nA fJ nJ v) (ha : a < nA) (hi : i < nJ) (h : gRow fA nA fJ nJ v by_ hb a i = some t) : hg_c nA nJ v t := by
  cases by_ with
  | true =>
    obtain ⟨h1, h2⟩ := hg_pR (p := fun k => decide (fA k = nI a)) (v := fun k => v (10 * k + i)) (sl := fun k => 10 * k + i) h
    rcases h2 with ⟨j, j1, j2, rfl⟩ | rfl
    · exact ⟨fun h9 => h1 (rSum_miss (k := j) j2 h9 j1), j, i, j1, hi, rfl⟩
    · exact ⟨fun h9 => h1 (Fx_head hF ha hi h9).2.1, a, i, ha, hi, rfl⟩
  | false =>
    obtain ⟨h1, h2⟩ := hg_pR (p := fun k => decide (fJ k = nI i)) (v := fun k => v (10 * a + k)) (sl := fun k => 10 * a + k) h
    rcases h2 with ⟨j, j1, j2, rfl⟩ | rfl
    · exact ⟨fun h9 => h1 (rSum_miss (k := j) j2 h9 j1), a, j, ha, j1, rfl⟩
    · exact ⟨fun h9 => h1 (Fx_head hF ha hi h9).2.2, a, i, ha, hi, rfl⟩
theorem hg_uO {hb : Nat → Bool} {o : Option Nat} (h : ∀ t, hb t = true → hg_c nA nJ v t) (ho : ∀ t, o = some t → hg_c nA nJ v t) : ∀ t, uO hb o t = true → hg_c nA nJ v t := by
  intro t ht
  cases o with
  | none => exact h t ht
  | some j =>
    have h1 : (if t = j then true else hb t) = true := ht
    by_cases e : t = j
    · subst e; exact ho t rfl
    · rw [if_neg e] at h1; exact h t h1
theorem hg_I (hF : Fx F fA nA fJ nJ v) {S : (Nat → Bool) × Bool} (h : ∀ t, S.1 t = true → hg_c nA nJ v t) {a : Nat} (ha : a < nA) : ∀ {i : Nat}, i ≤ nJ → ∀ t, (gI fA nA fJ nJ v by_ S a i).1 t = true → hg_c nA nJ v t
  | 0, _ => h
  | i + 1, hi => hg_uO (hg_I hF h ha (i := i) (by omega)) (fun t ht => hg_row hF ha (show i < nJ by omega) ht)
theorem hg_A (hF : Fx F fA nA fJ nJ v) {S : (Nat → Bool) × Bool} (h : ∀ t, S.1 t = true → hg_c nA nJ v t) : ∀ {a : Nat}, a ≤ nA → ∀ t, (gA fA nA fJ nJ v by_ S a).1 t = true → hg_c nA nJ v t
  | 0, _ => h
  | a + 1, ha => hg_I hF (hg_A hF h (a := a) (by omega)) (by omega) (Nat.le_refl nJ)
theorem hg_R (hF : Fx F fA nA fJ nJ v) : ∀ {k : Nat} {hb : Nat → Bool}, (∀ t, hb t = true → hg_c nA nJ v t) → ∀ t, itR (stp fA nA fJ nJ v) k hb t = true → hg_c nA nJ v t
  | 0, _, h => h
  | k + 1, hb, h => by
    have h1 : ∀ t, (stp fA nA fJ nJ v hb).1 t = true → hg_c nA nJ v t := hg_A hF (S := ((gA fA nA fJ nJ v true (hb, false) nA).1, false)) (hg_A hF (S := (hb, false)) h (Nat.le_refl nA)) (Nat.le_refl nA)
    show ∀ t, (if (stp fA nA fJ nJ v hb).2 = true then itR (stp fA nA fJ nJ v) k (stp fA nA fJ nJ v hb).1 else (stp fA nA fJ nJ v hb).1) t = true → hg_c nA nJ v t
    split
    · exact hg_R hF h1
    · exact h1
end HG
theorem hs_Hc {x : hs_E} {p : Nat} (hF : hs_Fx x p (nI (hs_td x))) : ∀ t, hs_H x p t = true → hg_c (hs_nA x) (hs_nJ x) (hs_V x p (nI (hs_td x))) t := by
  refine hg_R hF (fun t ht => ?_)
  have h1 : (if t < 140 then h0M (hs_nA x) (hs_nJ x) p (hs_sc x) (hs_V x p (nI (hs_td x))) t else false) = true := ht
  by_cases e : t < 140
  · rw [if_pos e] at h1
    simp only [h0M, Bool.and_eq_true, decide_eq_true_eq, Bool.not_eq_true', decide_eq_false_iff_not] at h1
    exact ⟨h1.2.2.2, t / 10, t % 10, h1.1, h1.2.1, by omega⟩
  · rw [if_neg e] at h1; cases h1
/-! sizes -/
def hb_in (x : Int32) (n : Nat) : Prop := -(n : Int) ≤ x.toInt ∧ x.toInt ≤ (n : Int)
theorem hb_add {x y : Int32} {m n : Nat} (h1 : hb_in x m) (h2 : hb_in y n) (h : m + n ≤ 1073741824) : hb_in (x + y) (m + n) := by
  obtain ⟨a1, a2⟩ := h1
  obtain ⟨b1', b2'⟩ := h2
  unfold hb_in
  rw [Int32.toInt_add, Int.bmod_eq_of_le (by omega) (by omega)]
  constructor <;> omega
theorem hb_mono {x : Int32} {m n : Nat} (h : hb_in x m) (hm : m ≤ n) : hb_in x n := ⟨by have := h.1; omega, by have := h.2; omega⟩
theorem hb_sum {p : Nat → Bool} {v : Nat → Int32} {N a : Nat} (w : Nat → Nat) (hw : ∀ k, k < N → w k = 2 * w (k + 1)) (hbig : w (a + 1) ≤ 1073741824) (hp : ∀ k, k < N → p k = true → a < k) (hv : ∀ k, k < N → p k = true → hb_in (v k) (w (k + 1))) :
    ∀ n, n ≤ N → ∃ S : Nat, hb_in (rS p v n).1 S ∧ (n ≤ a + 1 → S = 0) ∧ (a + 1 ≤ n → S + w n ≤ w (a + 1))
  | 0, _ => ⟨0, ⟨(by decide : -((0 : Nat) : Int) ≤ (0 : Int32).toInt), (by decide : (0 : Int32).toInt ≤ ((0 : Nat) : Int))⟩, fun _ => rfl, fun h => absurd h (by omega)⟩
  | n + 1, hn => by
    obtain ⟨S, h1, h2, h3⟩ := hb_sum w hw hbig hp hv n (by omega)
    have e := hw n (by omega)
    cases hpn : p n with
    | false =>
      refine ⟨S, by rw [rS_no hpn]; exact h1, fun h => h2 (by omega), fun h => ?_⟩
      rcases Nat.lt_or_ge n (a + 1) with h4 | h4
      · have h5 := h2 (by omega)
        have h6 : n = a := by omega
        subst h6; omega
      · have := h3 h4; omega
    | true =>
      have ha := hp n (by omega) hpn
      have h5 := h3 (by omega)
      refine ⟨S + w (n + 1), ?_, fun h => absurd h (by omega), fun _ => by omega⟩
      rw [rS_yes hpn]
      exact hb_add h1 (hv n (by omega) hpn) (by omega)
def hb_W (nA nJ a i : Nat) : Nat := 20 * 2 ^ ((nA - a) + (nJ - i))
theorem hb_W2 {m n : Nat} (h : m = n + 1) : 20 * 2 ^ m = 2 * (20 * 2 ^ n) := by
  subst h
  rw [Nat.pow_succ]
  omega
theorem hb_Wle {e : Nat} (h : e ≤ 22) : 20 * 2 ^ e ≤ 1073741824 := by
  have h1 : 2 ^ e ≤ 2 ^ 22 := Nat.pow_le_pow_right (by decide) h
  have h2 : (2 : Nat) ^ 22 = 4194304 := by decide
  omega
theorem hb_20 (e : Nat) : 20 ≤ 20 * 2 ^ e := by
  have h1 : 0 < 2 ^ e := Nat.pow_pos (by decide)
  omega
theorem hb_rSum {p : Nat → Bool} {v : Nat → Int32} {N a : Nat} (w : Nat → Nat) (hw : ∀ k, k < N → w k = 2 * w (k + 1)) (hbig : w (a + 1) ≤ 1073741824) (ha : a < N) (hp : ∀ k, k < N → p k = true → a < k) (hv : ∀ k, k < N → p k = true → v k = MIS ∨ hb_in (v k) (w (k + 1))) : rSum p v N = MIS ∨ hb_in (rSum p v N) (w (a + 1)) := by
  by_cases h : rSum p v N = MIS
  · exact Or.inl h
  · refine Or.inr ?_
    have hv' : ∀ k, k < N → p k = true → hb_in (v k) (w (k + 1)) := fun k hk hpk => (hv k hk hpk).elim (fun h9 => absurd (rSum_miss hpk h9 hk) h) id
    obtain ⟨S, h1, -, h3⟩ := hb_sum w hw hbig hp hv' N (Nat.le_refl N)
    have h4 := h3 (by omega)
    unfold rSum at h ⊢
    split at h
    · next hc => rw [if_pos hc]; exact hb_mono h1 (by omega)
    · exact absurd rfl h
theorem hb_Fx {F : Nat → Nat → Int32} {fA fJ : Nat → Int32} {nA nJ : Nat} {v : Nat → Int32} (hA : TI fA nA) (hJ : TI fJ nJ) (hnA : nA ≤ 14) (hnJ : nJ ≤ 10) (hF : Fx F fA nA fJ nJ v) (hB : ∀ a i, F a i = MIS ∨ hb_in (F a i) 20) : ∀ (d a i : Nat), a < nA → i < nJ → (nA - a) + (nJ - i) ≤ d → v (10 * a + i) = MIS ∨ hb_in (v (10 * a + i)) (hb_W nA nJ (a + 1) (i + 1)) := by
  intro d
  induction d with
  | zero => intro a i h1 h2 h3; omega
  | succ d ih =>
    intro a i ha hi hd
    have e := hF a i ha hi (by omega)
    have eA : sA fA nA v a i = MIS ∨ hb_in (sA fA nA v a i) (hb_W nA nJ (a + 1) (i + 1)) := by
      refine hb_rSum (a := a) (fun k => hb_W nA nJ k (i + 1)) (fun k hk => hb_W2 (by omega)) (hb_Wle (by omega)) ha (fun k hk hp => tI_up hA (by omega) hk hp ha) (fun k hk hp => ?_)
      have := tI_up hA (by omega) hk hp ha
      exact ih k i hk hi (by omega)
    have eJ : sJ fJ nJ v a i = MIS ∨ hb_in (sJ fJ nJ v a i) (hb_W nA nJ (a + 1) (i + 1)) := by
      refine hb_rSum (a := i) (fun k => hb_W nA nJ (a + 1) k) (fun k hk => hb_W2 (by omega)) (hb_Wle (by omega)) hi (fun k hk hp => tI_up hJ (by omega) hk hp hi) (fun k hk hp => ?_)
      have := tI_up hJ (by omega) hk hp hi
      exact ih a k ha hk (by omega)
    rw [e]
    unfold fxv
    by_cases h1 : F a i = MIS
    · rw [if_pos h1]
      by_cases h2 : sA fA nA v a i = MIS
      · rw [if_pos h2]; exact eJ
      · rw [if_neg h2]; exact eA
    · rw [if_neg h1, if_neg h1]
      exact (hB a i).elim (fun h9 => absurd h9 h1) (fun h9 => Or.inr (hb_mono h9 (hb_20 _)))
theorem fo_mem {bc bd bf : Nat → Int32} {x d : Int32} : ∀ n, fo bc bd bf x d n = MIS ∨ ∃ j, j < n ∧ fo bc bd bf x d n = bf j
  | 0 => Or.inl rfl
  | n + 1 => by
    show (if bc n = x ∧ bd n ≤ d then bf n else fo bc bd bf x d n) = MIS ∨ ∃ j, j < n + 1 ∧ (if bc n = x ∧ bd n ≤ d then bf n else fo bc bd bf x d n) = bf j
    by_cases h : bc n = x ∧ bd n ≤ d
    · rw [if_pos h]; exact Or.inr ⟨n, Nat.lt_succ_self n, rfl⟩
    · rw [if_neg h]
      rcases fo_mem (bc := bc) (bd := bd) (bf := bf) (x := x) (d := d) n with h1 | ⟨j, hj, h1⟩
      · exact Or.inl h1
      · exact Or.inr ⟨j, Nat.lt_succ_of_lt hj, h1⟩
/-- figures told are small -/
def hs_L (x : hs_E) : Prop := ∀ j, j < hs_bn x → hs_bf x j = MIS ∨ hb_in (hs_bf x j) 20
theorem hs_nH {x : hs_E} {i : hs_I} {p : Nat} {d : Int32} (hi : hs_Inv x i) (hL : hs_L x) (hF : hs_Fx x p d) {a j : Nat} (ha : a < hs_nA x) (hj : j < hs_nJ x) : ¬ hs_V x p d (10 * a + j) = HID := by
  obtain ⟨⟨hnA, hnJ, hTA, hTJ, -⟩, -⟩ := id hi
  have hB : ∀ a i, figs (hs_bc x) (hs_bd x) (hs_bf x) (hs_bn x) p d a i = MIS ∨ hb_in (figs (hs_bc x) (hs_bd x) (hs_bf x) (hs_bn x) p d a i) 20 := by
    intro a i
    unfold figs
    rcases fo_mem (bc := hs_bc x) (bd := hs_bd x) (bf := hs_bf x) (x := nI (140 * p + (10 * a + i))) (d := d) (hs_bn x) with h | ⟨j, hj, e⟩
    · exact Or.inl h
    · rw [e]; exact hL j hj
  have h1 := hb_Fx hTA hTJ hnA hnJ hF hB _ a j ha hj (Nat.le_refl _)
  intro h9
  rw [h9] at h1
  rcases h1 with h1 | h1
  · exact absurd h1 (by decide)
  · have h2 := h1.1
    have h3 : (HID : Int32).toInt = -2000000002 := by decide
    have h4 : hb_W (hs_nA x) (hs_nJ x) (a + 1) (j + 1) ≤ 1073741824 := hb_Wle (by omega)
    rw [h3] at h2
    omega
/-! counting what is hidden -/
theorem cH_zero {b : Nat → Bool} {n : Nat} : ∀ {m : Nat}, n ≤ m → (∀ k, n ≤ k → k < m → b k = false) → cH (fun _ => true) b m = cH (fun _ => true) b n
  | 0, h, _ => by rw [Nat.le_zero.mp h]
  | m + 1, h, hz => by
    rcases Nat.lt_or_ge n (m + 1) with h1 | h1
    · rw [cH_no (by rw [hz m (by omega) (Nat.lt_succ_self m)]; rfl)]
      exact cH_zero (by omega) (fun k g1 g2 => hz k g1 (by omega))
    · rw [show m + 1 = n by omega]
theorem cH_app {b : Nat → Bool} {m : Nat} : ∀ n, cH (fun _ => true) b (m + n) = cH (fun _ => true) b m + cH (fun _ => true) (fun i => b (m + i)) n
  | 0 => rfl
  | n + 1 => by
    show cH (fun _ => true) b (m + n) + (if (true && b (m + n)) = true then 1 else 0) = cH (fun _ => true) b m + (cH (fun _ => true) (fun i => b (m + i)) n + (if (true && b (m + n)) = true then 1 else 0))
    rw [cH_app n]
    omega
def hg_n (b : Nat → Bool) (nJ : Nat) : Nat → Nat
  | 0 => 0
  | a + 1 => hg_n b nJ a + cH (fun _ => true) (fun i => b (10 * a + i)) nJ
theorem hg_n_eq {b : Nat → Bool} {nA nJ : Nat} (hA : nA ≤ 14) (hJ : nJ ≤ 10) (h : ∀ t, b t = true → ∃ a i, a < nA ∧ i < nJ ∧ t = 10 * a + i) : cH (fun _ => true) b 140 = hg_n b nJ nA := by
  have key : ∀ a, a ≤ nA → cH (fun _ => true) b (10 * a) = hg_n b nJ a := by
    intro a
    induction a with
    | zero => intro _; rfl
    | succ a ih =>
      intro ha
      rw [show 10 * (a + 1) = 10 * a + 10 by omega, cH_app, ih (by omega)]
      show _ = hg_n b nJ a + _
      congr 1
      refine cH_zero hJ (fun k g1 g2 => ?_)
      cases e : b (10 * a + k) with
      | false => rfl
      | true =>
        obtain ⟨a', i', h1, h2, h3⟩ := h _ e
        omega
  rw [← key nA (Nat.le_refl nA)]
  refine cH_zero (by omega) (fun k g1 g2 => ?_)
  cases e : b k with
  | false => rfl
  | true =>
    obtain ⟨a', i', h1, h2, h3⟩ := h _ e
    omega
/-! what a search finds -/
theorem srI_r {M : Nat → Bool} {code : Nat → Int32} {N : Nat} {c : Int32} : ∀ {m l : Nat}, m ≤ N → srI M code N m l = .inr c → ∃ i, i < N ∧ M i = true ∧ c = code i
  | 0, l, _, h => absurd (show (Sum.inl l : Nat ⊕ Int32) = Sum.inr c from h) (fun h9 => by cases h9)
  | m + 1, l, hm, h => by
    unfold srI at h
    split at h
    · next hM =>
      split at h
      · exact ⟨N - (m + 1), by omega, hM, by cases h; rfl⟩
      · exact srI_r (by omega) h
    · exact srI_r (by omega) h
theorem srA_in {S : Nat → Nat → Nat ⊕ Int32} {N : Nat} {c : Int32} : ∀ {m l : Nat}, m ≤ N → srA S N m l = .inr c → ∃ a l', N - m ≤ a ∧ a < N ∧ S a l' = .inr c
  | 0, l, _, h => absurd (show (Sum.inl l : Nat ⊕ Int32) = Sum.inr c from h) (fun h9 => by cases h9)
  | m + 1, l, hm, h => by
    unfold srA at h
    split at h
    · next c' e =>
      have h1 : c' = c := by cases h; rfl
      subst h1
      exact ⟨N - (m + 1), l, Nat.le_refl _, by omega, e⟩
    · next l' e =>
      obtain ⟨a, l2, g1, g2, g3⟩ := srA_in (m := m) (by omega) h
      exact ⟨a, l2, by omega, g2, g3⟩
theorem srT_in {M : Nat → Nat → Nat → Bool} {nA nJ f0 t0 pl : Nat} : srR (srT M nA nJ f0 t0 pl) = -1 ∨ ∃ p a i, f0 ≤ p ∧ p ≤ t0 ∧ a < nA ∧ i < nJ ∧ M p a i = true ∧ srR (srT M nA nJ f0 t0 pl) = codeN p a i := by
  cases e : srT M nA nJ f0 t0 pl with
  | inl l => exact Or.inl rfl
  | inr c =>
    refine Or.inr ?_
    unfold srT at e
    obtain ⟨p, l1, g1, g2, g3⟩ := srA_in (by omega) e
    obtain ⟨a, l2, -, k2, k3⟩ := srA_in (Nat.le_refl nA) g3
    obtain ⟨i, j1, j2, j3⟩ := srI_r (Nat.le_refl nJ) k3
    refine ⟨p, a, i, by omega, by omega, k2, j1, j2, ?_⟩
    exact j3
/-! a message: its count, its figures -/
theorem mRun_D {cov : Nat → Bool} {dw dv : Nat → Int32} {c9 : Nat → Nat} {td : Int32} {rf bc bd bf : Nat → Int32} {bn : Nat} : ∀ n, mD (mRun cov dw dv c9 td (0, rf, bn, bc, bd, bf) n) = cH (fun _ => true) (fun j => decide (mR (mRun cov dw dv c9 td (0, rf, bn, bc, bd, bf) n) j = 0)) n
  | 0 => rfl
  | n + 1 => by
    have ih := mRun_D (cov := cov) (dw := dw) (dv := dv) (c9 := c9) (td := td) (rf := rf) (bc := bc) (bd := bd) (bf := bf) (bn := bn) n
    show mD (mS cov dw dv c9 td n (mRun cov dw dv c9 td (0, rf, bn, bc, bd, bf) n)) = cH (fun _ => true) (fun j => decide (mR (mS cov dw dv c9 td n (mRun cov dw dv c9 td (0, rf, bn, bc, bd, bf) n)) j = 0)) (n + 1)
    generalize mRun cov dw dv c9 td (0, rf, bn, bc, bd, bf) n = z at ih
    have hc : ∀ r : Int32, cH (fun _ => true) (fun j => decide (upd (mR z) n r j = 0)) n = cH (fun _ => true) (fun j => decide (mR z j = 0)) n := fun r => cH_congr (fun k hk _ => by
      show decide (upd (mR z) n r k = 0) = _
      rw [show upd (mR z) n r k = mR z k from pk_un (by omega)])
    have hs : ∀ r : Int32, upd (mR z) n r n = r := fun r => pk_us
    unfold mS
    generalize jR (cov n) (dw n) (dv n) (fo (mC z) (mY z) (mF z) (nI (c9 n)) td (mN z)) = r
    by_cases h : r = 0
    · rw [if_pos h]
      show mD z + 1 = cH (fun _ => true) (fun j => decide (upd (mR z) n r j = 0)) n + (if (true && decide (upd (mR z) n r n = 0)) = true then 1 else 0)
      rw [hc, hs, ih]
      simp [h]
    · rw [if_neg h]
      show mD z = cH (fun _ => true) (fun j => decide (upd (mR z) n r j = 0)) n + (if (true && decide (upd (mR z) n r n = 0)) = true then 1 else 0)
      rw [hc, hs, ih]
      simp [h]
theorem mRun_L {cov : Nat → Bool} {dw dv : Nat → Int32} {c9 : Nat → Nat} {td : Int32} {rf bc bd bf : Nat → Int32} {bn : Nat} (hb : ∀ j, j < bn → bf j = MIS ∨ hb_in (bf j) 20) : ∀ n, (∀ j, j < n → hb_in (dv j) 20) → ∀ j, j < mN (mRun cov dw dv c9 td (0, rf, bn, bc, bd, bf) n) → mF (mRun cov dw dv c9 td (0, rf, bn, bc, bd, bf) n) j = MIS ∨ hb_in (mF (mRun cov dw dv c9 td (0, rf, bn, bc, bd, bf) n) j) 20
  | 0, _ => hb
  | n + 1, hd => by
    have ih := mRun_L (cov := cov) (dw := dw) (dv := dv) (c9 := c9) (td := td) (rf := rf) (bc := bc) (bd := bd) hb n (fun j hj => hd j (Nat.lt_succ_of_lt hj))
    show ∀ j, j < mN (mS cov dw dv c9 td n (mRun cov dw dv c9 td (0, rf, bn, bc, bd, bf) n)) → mF (mS cov dw dv c9 td n (mRun cov dw dv c9 td (0, rf, bn, bc, bd, bf) n)) j = MIS ∨ hb_in (mF (mS cov dw dv c9 td n (mRun cov dw dv c9 td (0, rf, bn, bc, bd, bf) n)) j) 20
    generalize mRun cov dw dv c9 td (0, rf, bn, bc, bd, bf) n = z at ih
    unfold mS
    by_cases h : jR (cov n) (dw n) (dv n) (fo (mC z) (mY z) (mF z) (nI (c9 n)) td (mN z)) = 0
    · rw [if_pos h]
      intro j hj
      have hj : j < mN z + 1 := hj
      show upd (mF z) (mN z) (fgB (dw n) (dv n)) j = MIS ∨ hb_in (upd (mF z) (mN z) (fgB (dw n) (dv n)) j) 20
      by_cases e : j = mN z
      · rw [e, show upd (mF z) (mN z) (fgB (dw n) (dv n)) (mN z) = fgB (dw n) (dv n) from pk_us]
        unfold fgB
        split
        · exact Or.inl rfl
        · exact Or.inr (hd n (Nat.lt_succ_self n))
      · rw [show upd (mF z) (mN z) (fgB (dw n) (dv n)) j = mF z j from pk_un e]
        exact ih j (by omega)
    · rw [if_neg h]
      exact ih
/-! numbers out of the script -/
theorem us_cnt : ∀ j : Fin 32, (UInt32.ofNat j.val &&& Int32.toUInt32 31).toNat % 32 = j.val := by decide +kernel
theorem us_n {k j : Nat} (hk : k < 2 ^ 31) (hj : j < 32) : ((nI k).toUInt32 >>> ((nI j).toUInt32 &&& Int32.toUInt32 31)).toInt32 = nI (k >>> j) := by
  have hs : k >>> j ≤ k := by
    rw [Nat.shiftRight_eq_div_pow]
    exact Nat.div_le_self _ _
  have e2 : UInt32.ofNat k >>> (UInt32.ofNat j &&& Int32.toUInt32 31) = UInt32.ofNat (k >>> j) := by
    apply UInt32.toNat_inj.1
    have h1 : (UInt32.ofNat k).toNat = k := Nat.mod_eq_of_lt (by omega)
    have h2 : (UInt32.ofNat (k >>> j)).toNat = k >>> j := Nat.mod_eq_of_lt (by omega)
    rw [UInt32.toNat_shiftRight, us_cnt ⟨j, hj⟩, h1, h2]
  show (UInt32.ofNat k >>> (UInt32.ofNat j &&& Int32.toUInt32 31)).toInt32 = _
  rw [e2]
  rfl
theorem us_q {k j : Nat} (hk : k < 16777216) (hj : j < 32) : ∃ q, q < 16777216 ∧ ((nI k).toUInt32 >>> ((nI j).toUInt32 &&& Int32.toUInt32 31)).toInt32 = nI q :=
  ⟨k >>> j, Nat.lt_of_le_of_lt (by rw [Nat.shiftRight_eq_div_pow]; exact Nat.div_le_self _ _) hk, us_n (by omega) hj⟩
theorem us_8 (x : Int32) : ∃ q, q < 16777216 ∧ (x.toUInt32 >>> ((nI 8).toUInt32 &&& Int32.toUInt32 31)).toInt32 = nI q := by
  refine ⟨x.toUInt32.toNat >>> 8, ?_, ?_⟩
  · rw [Nat.shiftRight_eq_div_pow]
    have := x.toUInt32.toNat_lt
    omega
  · have hlt := x.toUInt32.toNat_lt
    have e2 : x.toUInt32 >>> (UInt32.ofNat 8 &&& Int32.toUInt32 31) = UInt32.ofNat (x.toUInt32.toNat >>> 8) := by
      apply UInt32.toNat_inj.1
      have hs : x.toUInt32.toNat >>> 8 ≤ x.toUInt32.toNat := by
        rw [Nat.shiftRight_eq_div_pow]
        exact Nat.div_le_self _ _
      have h2 : (UInt32.ofNat (x.toUInt32.toNat >>> 8)).toNat = x.toUInt32.toNat >>> 8 := Nat.mod_eq_of_lt (by omega)
      rw [UInt32.toNat_shiftRight, us_cnt ⟨8, by decide⟩, h2]
    show (x.toUInt32 >>> (UInt32.ofNat 8 &&& Int32.toUInt32 31)).toInt32 = _
    rw [e2]
    rfl
theorem hb_nI {n : Nat} (h : n < 41) : hb_in (nI n - nI 20) 20 := by
  unfold hb_in
  rw [pk_sub_toInt (by omega) (by decide)]
  constructor <;> omega
theorem vOk_20 {n : Nat} (h : n < 41) : vOk (nI n - nI 20) = true := by
  have h1 := pk_sub_toInt (a := n) (b := 20) (by omega) (by decide)
  have e1 : (-1000000 : Int32).toInt = -1000000 := by decide
  have e2 : (1000000 : Int32).toInt = 1000000 := by decide
  have g1 : ¬ nI n - nI 20 < -1000000 := by rw [Int32.lt_iff_toInt_lt, h1, e1]; omega
  have g2 : nI n - nI 20 ≤ 1000000 := by rw [Int32.le_iff_toInt_le, h1, e2]; omega
  simp [vOk, g1, g2]
