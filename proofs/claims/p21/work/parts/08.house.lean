/-! the house's own checks and answers, as functions -/
abbrev xIO : String := "java/lang/IndexOutOfBoundsException"
abbrev xIA : String := "java/lang/IllegalArgumentException"
abbrev xIS : String := "java/lang/IllegalStateException"
abbrev cl (x : Int32) : Nat := x.toNatClampNeg
theorem cl_nI {k : Nat} (h : k < 2 ^ 31) : cl (nI k) = k := nI_clamp h
def tPat (n : Nat) (x : Int32) : Bool := decide (x = -1) || tHas n x
theorem tPat_iff {n : Nat} {x : Int32} (hn : n < 2 ^ 31) : tPat n x = true ↔ x = -1 ∨ ∃ j, j < n ∧ x = nI j := by
  simp only [tPat, Bool.or_eq_true, decide_eq_true_eq, tHas_iff hn]
def okC (nA nJ : Nat) (x y z : Int32) : Bool := tHas nA x && tHas nJ y && tHas 12 z
def cellI (x y z : Int32) : Int32 := z * nI 140 + (x * nI 10 + y)
def cN (x y z : Int32) : Nat := 140 * cl z + (10 * cl x + cl y)
theorem cellI_nI (a i p : Nat) : cellI (nI a) (nI i) (nI p) = nI (140 * p + (10 * a + i)) := by
  unfold cellI
  rw [mulc, mulc, nI_add, nI_add]
theorem okC_yes {nA nJ : Nat} {x y z : Int32} (hA : nA < 2 ^ 31) (hJ : nJ < 2 ^ 31) (h : okC nA nJ x y z = true) : ∃ a, a < nA ∧ ∃ i, i < nJ ∧ ∃ p, p < 12 ∧ x = nI a ∧ y = nI i ∧ z = nI p := by
  simp only [okC, Bool.and_eq_true] at h
  obtain ⟨a, h1, h2⟩ := (tHas_iff hA).mp h.1.1
  obtain ⟨i, h3, h4⟩ := (tHas_iff hJ).mp h.1.2
  obtain ⟨p, h5, h6⟩ := (tHas_iff (by decide)).mp h.2
  exact ⟨a, h1, i, h3, p, h5, h2, h4, h6⟩
theorem cN_nI {a i p nA nJ : Nat} (ha : a < nA) (hi : i < nJ) (hp : p < 12) (hA : nA ≤ 14) (hJ : nJ ≤ 10) : cN (nI a) (nI i) (nI p) = 140 * p + (10 * a + i) := by
  unfold cN
  rw [cl_nI (by omega), cl_nI (by omega), cl_nI (by omega)]
def dOk (td : Nat) (x : Int32) : Bool := !decide (x < 0) && decide (x ≤ nI td)
def iOS (sum told : Int32) : Bool := !decide (sum = MIS) && !decide (sum = told)
theorem tHas_lo {n : Nat} {x : Int32} (h : x < 0) : tHas n x = false := by simp [tHas, h]
theorem i_le_of_lt {x y : Int32} (h : x < y) : ¬ y ≤ x := by rw [Int32.le_iff_toInt_le]; rw [Int32.lt_iff_toInt_lt] at h; omega
theorem i_le_of_nlt {x y : Int32} (h : ¬ x < y) : y ≤ x := by rw [Int32.le_iff_toInt_le]; rw [Int32.lt_iff_toInt_lt] at h; omega
theorem i_lt_of_nle {x y : Int32} (h : ¬ x ≤ y) : y < x := by rw [Int32.lt_iff_toInt_lt]; rw [Int32.le_iff_toInt_le] at h; omega
theorem tHas_lt {n : Nat} {x : Int32} (h1 : ¬ x < 0) (h : x < nI n) : tHas n x = true := by simp [tHas, h1, i_le_of_lt h]
theorem tHas_hi {n : Nat} {x : Int32} (h : ¬ x < nI n) : tHas n x = false := by simp [tHas, i_le_of_nlt h]
def wOk (w : Int32) : Bool := !decide (w < 0) && decide (w ≤ nI 2)
def vOk (v : Int32) : Bool := !decide (v < -1000000) && decide (v ≤ 1000000)
def figs (bc bd bf : Nat → Int32) (bn p : Nat) (d : Int32) (a i : Nat) : Int32 := fo bc bd bf (nI (140 * p + (10 * a + i))) d bn
/-- what is loaded besides: nothing where no cell is -/
def vOut (nA nJ : Nat) (u : Nat → Int32) : Prop := ∀ t, t < 140 → ¬ (t / 10 < nA ∧ t % 10 < nJ) → u t = MIS
/-- the lines that were done speak of cells, by days that go up -/
def bOk (nA nJ bn td : Nat) (bc bd : Nat → Int32) : Prop := (∀ j, j < bn → ∃ a i p, a < nA ∧ i < nJ ∧ p < 12 ∧ bc j = nI (140 * p + (10 * a + i))) ∧ (∀ i j, i ≤ j → j < bn → bd i ≤ bd j) ∧ ∀ j, j < bn → ∃ k, k ≤ td ∧ bd j = nI k
/-- why a line is refused -/
def jR (cov : Bool) (w v told : Int32) : Int32 := if cov = false then nI 1 else if w = 0 then (if told = MIS then nI 0 else nI 2) else if told = MIS then nI 3 else if w = nI 1 ∧ v = told then nI 4 else nI 0
def covR (on : Nat → Bool) (fA : Nat → Int32) (nA sd a : Nat) : Bool := anyB (fun k => on (14 * sd + k) && tW fA (nI k) nA (nI a)) nA
theorem pOk_yes {x : Int32} (h1 : ¬ x < nI 1) (h2 : x ≤ nI 100) : ∃ k, 1 ≤ k ∧ k ≤ 100 ∧ x = nI k := by
  have h3 : ¬ x < 0 := by
    intro h
    apply h1
    rw [Int32.lt_iff_toInt_lt] at h ⊢
    have e1 : (nI 1).toInt = 1 := by decide
    have e2 : (0 : Int32).toInt = 0 := by decide
    omega
  obtain ⟨j, hj, rfl⟩ := nI_of2 (M := nI 100) (n := 100) (by decide) h3 h2
  refine ⟨j, ?_, hj, rfl⟩
  rcases Nat.eq_zero_or_pos j with h | h
  · subst h; exact absurd (by decide) h1
  · exact h
def pOk (x : Int32) : Bool := !decide (x < nI 1) && decide (x ≤ nI 100)
