/-! loading a sheet: figures of a period, then sums -/
theorem dec_i (k : Nat) : nI k + Int32.ofInt (-1) = nI k - nI 1 := by
  rw [Int32.sub_eq_add_neg]; rfl
theorem sub_lt0 {a b : Nat} (ha : a < 2 ^ 30) (hb : b < 2 ^ 30) (h : nI a - nI b < 0) : a < b := by
  rw [Int32.lt_iff_toInt_lt, pk_sub_toInt ha hb] at h
  have e : (0 : Int32).toInt = 0 := by decide
  omega
theorem sub_ge0 {a b : Nat} (ha : a < 2 ^ 30) (hb : b < 2 ^ 30) (h : ¬ nI a - nI b < 0) : b ≤ a := by
  rw [Int32.lt_iff_toInt_lt, pk_sub_toInt ha hb] at h
  have e : (0 : Int32).toInt = 0 := by decide
  omega
theorem i_lt_trans {x y z : Int32} (h : x < y) (h2 : y ≤ z) : x < z := by
  rw [Int32.lt_iff_toInt_lt] at h ⊢
  rw [Int32.le_iff_toInt_le] at h2
  omega
theorem ld_skip {bc bd bf g : Nat → Int32} {d : Int32} {k c p : Nat} (hg : ∀ t, t < 140 → g t = fo bc bd bf (nI (140 * p + t)) d k) (ec : bc k = nI c) (hc : c < 2 ^ 30) (hp : p < 12) (h : c < 140 * p ∨ 140 ≤ c - 140 * p) : ∀ t, t < 140 → g t = fo bc bd bf (nI (140 * p + t)) d (k + 1) := fun t ht =>
  (hg t ht).trans (fo_miss1 (fun h9 => by rw [ec] at h9; have := (nI_eq (by omega) (by omega)).mp h9; omega)).symm
theorem ld_put {bc bd bf g : Nat → Int32} {d : Int32} {k c p : Nat} (hg : ∀ t, t < 140 → g t = fo bc bd bf (nI (140 * p + t)) d k) (ec : bc k = nI c) (hc : c < 2 ^ 30) (hp : p < 12) (h : 140 * p ≤ c) (hd : ¬ d < bd k) : ∀ t, t < 140 → upd g (c - 140 * p) (bf k) t = fo bc bd bf (nI (140 * p + t)) d (k + 1) := by
  intro t ht
  by_cases h1 : t = c - 140 * p
  · subst h1
    have e : upd g (c - 140 * p) (bf k) (c - 140 * p) = bf k := pk_us
    rw [e]
    exact (fo_hit (by rw [ec]; congr 1; omega) hd).symm
  · have e : upd g (c - 140 * p) (bf k) t = g t := pk_un h1
    rw [e]
    exact (hg t ht).trans (fo_miss1 (fun h9 => by rw [ec] at h9; have := (nI_eq (by omega) (by omega)).mp h9; omega)).symm
theorem fo_none {bc bd bf : Nat → Int32} {x d : Int32} : ∀ {n : Nat}, (∀ j, j < n → ¬ bc j = x) → fo bc bd bf x d n = MIS
  | 0, _ => rfl
  | n + 1, h => by rw [fo_miss1 (h n (Nat.lt_succ_self n))]; exact fo_none (fun j hj => h j (Nat.lt_succ_of_lt hj))
theorem bOk_c {nA nJ bn td : Nat} {bc bd : Nat → Int32} (h : bOk nA nJ bn td bc bd) (hA : nA ≤ 14) (hJ : nJ ≤ 10) {j : Nat} (hj : j < bn) : ∃ c, c < 1680 ∧ bc j = nI c := by
  obtain ⟨a, i, p, h1, h2, h3, h4⟩ := h.1 j hj
  exact ⟨_, by omega, h4⟩
/-- nothing was told of what is no cell -/
theorem ld_out {nA nJ bn td p : Nat} {bc bd bf : Nat → Int32} {d : Int32} {g : Nat → Int32} (h : bOk nA nJ bn td bc bd) (hA : nA ≤ 14) (hJ : nJ ≤ 10) (hp : p < 12) (hg : ∀ t, t < 140 → g t = fo bc bd bf (nI (140 * p + t)) d bn) : vOut nA nJ g := by
  intro t ht hn
  rw [hg t ht]
  refine fo_none (fun j hj h9 => ?_)
  obtain ⟨a, i, q, h1, h2, h3, h4⟩ := h.1 j hj
  rw [h4] at h9
  have := (nI_eq (by omega) (by omega)).mp h9
  exact hn (by omega)
theorem sJ_upd {fJ : Nat → Int32} {nJ : Nat} {g : Nat → Int32} {x : Int32} {a i : Nat} (hT : TI fJ nJ) (hn : nJ < 2 ^ 31) (hi : i < nJ) : sJ fJ nJ (upd g (10 * a + i) x) a i = sJ fJ nJ g a i :=
  sJ_congr hT hn hi (fun k g1 _ => pk_un (by omega))
theorem fx1 {F : Nat → Nat → Int32} {fA fJ g : Nat → Int32} {nA nJ a i : Nat} (hx : g (10 * a + i) = F a i) (c : ¬ g (10 * a + i) = MIS) : g (10 * a + i) = fxv F fA nA fJ nJ g a i := by
  rw [hx] at c ⊢
  unfold fxv
  rw [if_neg c, if_neg c]
theorem fx2 {F : Nat → Nat → Int32} {fA fJ g : Nat → Int32} {nA nJ a i : Nat} (hx : g (10 * a + i) = F a i) (c : g (10 * a + i) = MIS) (c2 : ¬ sA fA nA g a i = MIS) : sA fA nA g a i = fxv F fA nA fJ nJ g a i := by
  rw [hx] at c
  unfold fxv
  rw [if_pos c, if_neg c2]
theorem fx3 {F : Nat → Nat → Int32} {fA fJ g : Nat → Int32} {nA nJ a i : Nat} (hx : g (10 * a + i) = F a i) (c : g (10 * a + i) = MIS) (c2 : sA fA nA g a i = MIS) : sJ fJ nJ g a i = fxv F fA nA fJ nJ g a i := by
  rw [hx] at c
  unfold fxv
  rw [if_pos c, if_pos c2]
theorem ld_next {F : Nat → Nat → Int32} {fA fJ g v' : Nat → Int32} {nA nJ a0 i0 : Nat} (hA : TI fA nA) (hJ : TI fJ nJ) (hnA : nA ≤ 14) (hnJ : nJ ≤ 10) (ha : a0 < nA) (hi : i0 < nJ) (h : Pz F fA nA fJ nJ a0 (i0 + 1) g)
    (hun : ∀ a i, a < nA → i < nJ → (a < a0 ∨ (a = a0 ∧ i < i0 + 1)) → g (10 * a + i) = F a i) (hout : vOut nA nJ g) (hv : ∀ t, t ≠ 10 * a0 + i0 → v' t = g t) (hs : v' (10 * a0 + i0) = fxv F fA nA fJ nJ g a0 i0) :
    Pz F fA nA fJ nJ a0 i0 v' ∧ (∀ a i, a < nA → i < nJ → (a < a0 ∨ (a = a0 ∧ i < i0)) → v' (10 * a + i) = F a i) ∧ vOut nA nJ v' :=
  ⟨Pz_step hA hJ hnA hnJ ha hi h hv hs, fun a i h1 h2 h3 => (hv _ (by omega)).trans (hun a i h1 h2 (by omega)), fun t h1 h2 => (hv t (fun e => h2 (by omega))).trans (hout t h1 h2)⟩
theorem up1 {g : Nat → Int32} {s : Nat} {x : Int32} : ∀ t, t ≠ s → upd g s x t = g t := fun _ h => pk_un h
theorem up2 {g : Nat → Int32} {s : Nat} {x y : Int32} : ∀ t, t ≠ s → upd (upd g s x) s y t = g t := fun t h => (pk_un h).trans (pk_un h)
