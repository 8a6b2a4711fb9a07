/-! words that are not good ones: nest mates, casts; String constants -/
def bNW : List Cond := [.fieldLinkNest "Figurehouse" 112 "Figurehouse$Draft" "size" "I" "Figurehouse", .fieldLinkNest "Figurehouse" 164 "Figurehouse$Book" "earliest" "[I" "Figurehouse", .fieldLinkNest "Figurehouse" 167 "Figurehouse$Book" "linesDone" "[I" "Figurehouse", .fieldLinkNest "Figurehouse" 170 "Figurehouse$Book" "latest" "[I" "Figurehouse", .fieldLinkNest "Figurehouse" 228 "Figurehouse$Draft" "cells" "[I" "Figurehouse", .fieldLinkNest "Figurehouse" 238 "Figurehouse$Draft" "areas" "[I" "Figurehouse", .fieldLinkNest "Figurehouse" 240 "Figurehouse$Draft" "whats" "[I" "Figurehouse", .fieldLinkNest "Figurehouse" 243 "Figurehouse$Draft" "values" "[I" "Figurehouse", .fieldLinkNest "Figurehouse" 250 "Figurehouse$Tree" "size" "I" "Figurehouse", .fieldLinkNest "Figurehouse$Agreements" 15 "Figurehouse$Tree" "size" "I" "Figurehouse", .fieldLinkNest "Figurehouse$Sheet" 24 "Figurehouse$Tree" "size" "I" "Figurehouse", .fieldLinkNest "Figurehouse$Sheet" 44 "Figurehouse$Book" "size" "I" "Figurehouse", .fieldLinkNest "Figurehouse$Sheet" 47 "Figurehouse$Book" "days" "[I" "Figurehouse", .fieldLinkNest "Figurehouse$Sheet" 50 "Figurehouse$Book" "cells" "[I" "Figurehouse", .fieldLinkNest "Figurehouse$Sheet" 53 "Figurehouse$Book" "figures" "[I" "Figurehouse", .fieldLinkNest "Figurehouse$Sheet" 68 "Figurehouse$Tree" "stride" "I" "Figurehouse",
  .methodLinkNest "Figurehouse" 23 yX0_init "Figurehouse", .methodLinkNest "Figurehouse" 30 yX2_init "Figurehouse", .methodLinkNest "Figurehouse" 44 yX3_init "Figurehouse", .methodLinkNest "Figurehouse$Sheet" 30 yX5_slotOf "Figurehouse",
  .castable "java/lang/IndexOutOfBoundsException" "java/lang/IndexOutOfBoundsException", .castable "java/lang/IllegalArgumentException" "java/lang/IllegalArgumentException", .castable "java/lang/IllegalStateException" "java/lang/IllegalStateException",
  .declares (Bundle.initS "java/lang/RuntimeException"), .declares (Bundle.initS "java/lang/Exception"), .declares (Bundle.initS "java/lang/Throwable"),
  .not (.castable "java/lang/IllegalArgumentException" "java/lang/IndexOutOfBoundsException"), .not (.castable "java/lang/IllegalArgumentException" "java/lang/IllegalStateException"), .not (.castable "java/lang/IllegalStateException" "java/lang/IndexOutOfBoundsException"), .not (.castable "java/lang/IllegalStateException" "java/lang/IllegalArgumentException"), .not (.castable "java/lang/IndexOutOfBoundsException" "java/lang/IllegalArgumentException"), .not (.castable "java/lang/IndexOutOfBoundsException" "java/lang/IllegalStateException")]
def bSW : List (String × Nat × String) := [("Figurehouse", 101, "the draft is full"), ("Figurehouse", 116, "the draft is empty"), ("Figurehouse", 121, "too many lines would have been sent"), ("Figurehouse", 131, "no such line"), ("Figurehouse", 140, "days is out of range"), ("Figurehouse", 145, "today would be behind the last day"), ("Figurehouse", 190, "no such period"), ("Figurehouse", 192, "place is below 0"), ("Figurehouse", 194, "from or to is out of range"), ("Figurehouse", 196, "since is out of range"), ("Figurehouse", 206, "no such sender"), ("Figurehouse", 211, "no such area or item"), ("Figurehouse", 214, "no more areas or items"), ("Figurehouse", 216, "no such area"), ("Figurehouse", 218, "no such area, item or period"), ("Figurehouse", 223, "day is out of range"), ("Figurehouse", 86, "what is out of range"), ("Figurehouse", 93, "value is out of range")]
theorem bI_one {b : Bool} (h : b = true) : nI 1 = bI b := by subst h; rfl
theorem bI_zero {b : Bool} (h : b = false) : nI 0 = bI b := by subst h; rfl
def b_abs (x : Int32) : Int32 := if 0 ≤ x then x else 0 - x
/-! trees: numbers that lie in an earlier one or in none -/
def TI (f : Nat → Int32) (n : Nat) : Prop := ∀ k, k < n → f k = -1 ∨ ∃ j, j < k ∧ f k = nI j
def tHas (n : Nat) (x : Int32) : Bool := !decide (x < 0) && !decide (nI n ≤ x)
theorem tHas_iff {n : Nat} {x : Int32} (hn : n < 2 ^ 31) : tHas n x = true ↔ ∃ j, j < n ∧ x = nI j := by
  constructor
  · intro h
    simp only [tHas, Bool.and_eq_true, Bool.not_eq_true', decide_eq_false_iff_not] at h
    rcases pk_ix x hn with h1 | h1 | h1
    · exact absurd h1 h.1
    · exact absurd h1 h.2
    · exact h1
  · rintro ⟨j, hj, rfl⟩
    simp only [tHas, Bool.and_eq_true, Bool.not_eq_true', decide_eq_false_iff_not]
    exact ⟨nI_pos (by omega), nI_ge hj hn⟩
theorem tHas_nI {n j : Nat} (hj : j < n) (hn : n < 2 ^ 31) : tHas n (nI j) = true := (tHas_iff hn).mpr ⟨j, hj, rfl⟩
theorem tHas_m1 {n : Nat} : tHas n (-1) = false := by
  have h : decide ((-1 : Int32) < 0) = true := by decide
  simp [tHas, h]
theorem tHas_yes {n : Nat} {y : Int32} (hy : y = -1 ∨ ∃ j, j < n ∧ y = nI j) (h : tHas n y = true) : ∃ j, j < n ∧ y = nI j := by
  rcases hy with rfl | hy
  · rw [tHas_m1] at h; cases h
  · exact hy
theorem tHas_not {n : Nat} {y : Int32} (hn : n < 2 ^ 31) (hy : y = -1 ∨ ∃ j, j < n ∧ y = nI j) (h : tHas n y = false) : y = -1 := by
  rcases hy with rfl | ⟨j, hj, rfl⟩
  · rfl
  · rw [tHas_nI hj hn] at h; cases h
theorem tI_next {f : Nat → Int32} {n j : Nat} (hT : TI f n) (hj : j < n) : f j = -1 ∨ ∃ i, i < n ∧ f j = nI i := by
  rcases hT j hj with h | ⟨i, hi, h⟩
  · exact Or.inl h
  · exact Or.inr ⟨i, Nat.lt_trans hi hj, h⟩
/-- whether the walk from y outwards meets x -/
def tW (f : Nat → Int32) (x : Int32) : Nat → Int32 → Bool
  | 0, y => decide (y = x)
  | m + 1, y => if y = x then true else if y < 0 then false else tW f x m (f y.toNatClampNeg)
theorem tW_end {f : Nat → Int32} {x y : Int32} {m : Nat} (h : m = 0) : tW f x m y = decide (y = x) := by subst h; rfl
theorem tW_out {f : Nat → Int32} {x y : Int32} {m : Nat} (h : y = -1) : tW f x m y = decide (y = x) := by
  subst h
  cases m with
  | zero => rfl
  | succ m =>
    have h9 : (-1 : Int32) < 0 := by decide
    by_cases hx : (-1 : Int32) = x <;> simp [tW, hx, h9]
theorem tW_hit {f : Nat → Int32} {x y : Int32} {m : Nat} (h : y = x) : tW f x m y = decide (y = x) := by
  cases m <;> simp [tW, h]
theorem tW_next {f : Nat → Int32} {x : Int32} {m m' j : Nat} (hm : m = m' + 1) (hx : ¬ nI j = x) (hj : j < 2 ^ 31) : tW f x m (nI j) = tW f x m' (f j) := by
  subst hm
  show (if nI j = x then true else if nI j < 0 then false else tW f x m' (f (nI j).toNatClampNeg)) = _
  rw [if_neg hx, if_neg (nI_pos hj), nI_clamp hj]
/-- some number below n -/
def anyB (p : Nat → Bool) : Nat → Bool
  | 0 => false
  | n + 1 => anyB p n || p n
theorem anyB_iff {p : Nat → Bool} : ∀ {n : Nat}, anyB p n = true ↔ ∃ k, k < n ∧ p k = true
  | 0 => ⟨fun h => (by cases h), fun ⟨k, hk, _⟩ => absurd hk (Nat.not_lt_zero k)⟩
  | n + 1 => by
    simp only [anyB, Bool.or_eq_true, anyB_iff (n := n)]
    constructor
    · rintro (⟨k, hk, h⟩ | h)
      · exact ⟨k, Nat.lt_succ_of_lt hk, h⟩
      · exact ⟨n, Nat.lt_succ_self n, h⟩
    · rintro ⟨k, hk, h⟩
      rcases Nat.lt_succ_iff_lt_or_eq.mp hk with h1 | h1
      · exact Or.inl ⟨k, h1, h⟩
      · subst h1; exact Or.inr h
theorem anyB_no {p : Nat → Bool} {n : Nat} (h : ∀ k, k < n → p k = false) : anyB p n = false := by
  cases e : anyB p n with
  | false => rfl
  | true =>
    obtain ⟨k, hk, h1⟩ := anyB_iff.mp e
    rw [h k hk] at h1; cases h1
/-- the last figure told of a cell by a day, among the first n lines -/
def fo (bc bd bf : Nat → Int32) (x d : Int32) : Nat → Int32
  | 0 => MIS
  | n + 1 => if bc n = x ∧ bd n ≤ d then bf n else fo bc bd bf x d n
theorem pred_0 {m : Nat} (hm : m < 2 ^ 31) (h : nI m - nI 1 < 0) : m = 0 := by
  cases m with
  | zero => rfl
  | succ m =>
    exfalso
    have h2 : nI (m + 1) - nI 1 = nI m := nI_pred m
    rw [h2] at h
    exact nI_pos (by omega) h
theorem pred_s {m : Nat} (hm : m < 2 ^ 31) (h : ¬ nI m - nI 1 < 0) : ∃ k, m = k + 1 := by
  cases m with
  | zero => exact absurd (by decide) h
  | succ m => exact ⟨m, rfl⟩
theorem pred_e (m : Nat) : nI (m + 1) - nI 1 = nI m := nI_pred m
theorem pred_i (k : Nat) : nI (k + 1) - nI 1 + Int32.ofInt (-1) = nI k - nI 1 := by
  rw [pred_e, Int32.sub_eq_add_neg]
  rfl
theorem fo_hit {bc bd bf : Nat → Int32} {x d : Int32} {k : Nat} (h1 : bc k = x) (h2 : ¬ d < bd k) : fo bc bd bf x d (k + 1) = bf k := by
  have h3 : bd k ≤ d := by
    rw [Int32.le_iff_toInt_le]
    rw [Int32.lt_iff_toInt_lt] at h2
    omega
  show (if bc k = x ∧ bd k ≤ d then bf k else fo bc bd bf x d k) = _
  rw [if_pos ⟨h1, h3⟩]
theorem fo_miss1 {bc bd bf : Nat → Int32} {x d : Int32} {k : Nat} (h1 : ¬ bc k = x) : fo bc bd bf x d (k + 1) = fo bc bd bf x d k := by
  show (if bc k = x ∧ bd k ≤ d then bf k else fo bc bd bf x d k) = _
  rw [if_neg (fun h => h1 h.1)]
theorem fo_miss2 {bc bd bf : Nat → Int32} {x d : Int32} {k : Nat} (h1 : d < bd k) : fo bc bd bf x d (k + 1) = fo bc bd bf x d k := by
  have h3 : ¬ bd k ≤ d := by
    rw [Int32.le_iff_toInt_le]
    rw [Int32.lt_iff_toInt_lt] at h1
    omega
  show (if bc k = x ∧ bd k ≤ d then bf k else fo bc bd bf x d k) = _
  rw [if_neg (fun h => h3 h.2)]
theorem allN_s {p : Nat → Bool} {k : Nat} (h : ∀ j, j < k → p j = false) (hk : p k = false) : ∀ j, j < k + 1 → p j = false := fun j hj => (Nat.lt_succ_iff_lt_or_eq.mp hj).elim (h j) (fun e => by subst e; exact hk)
