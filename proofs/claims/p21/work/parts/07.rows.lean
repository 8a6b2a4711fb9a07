/-! sums of a row, counts, the nearest open one: functions of which numbers lie right in the head, and of their values -/
def rS (p : Nat → Bool) (v : Nat → Int32) : Nat → Int32 × Bool × Nat
  | 0 => (0, true, 0)
  | k + 1 => if p k then ((rS p v k).1 + v k, (rS p v k).2.1 && !decide (v k = MIS), (rS p v k).2.2 + 1) else rS p v k
def rSum (p : Nat → Bool) (v : Nat → Int32) (n : Nat) : Int32 := if 0 < (rS p v n).2.2 ∧ (rS p v n).2.1 = true then (rS p v n).1 else MIS
theorem rS_no {p : Nat → Bool} {v : Nat → Int32} {k : Nat} (h : p k = false) : rS p v (k + 1) = rS p v k := by simp [rS, h]
theorem rS_yes {p : Nat → Bool} {v : Nat → Int32} {k : Nat} (h : p k = true) : rS p v (k + 1) = ((rS p v k).1 + v k, (rS p v k).2.1 && !decide (v k = MIS), (rS p v k).2.2 + 1) := by simp [rS, h]
theorem rS_0 {p : Nat → Bool} {v : Nat → Int32} : ∀ {n : Nat}, (∀ k, k < n → p k = false) → rS p v n = (0, true, 0)
  | 0, _ => rfl
  | n + 1, h => by rw [rS_no (h n (Nat.lt_succ_self n))]; exact rS_0 (fun k hk => h k (Nat.lt_succ_of_lt hk))
theorem rS_miss {p : Nat → Bool} {v : Nat → Int32} {k : Nat} (h : p k = true) (hv : v k = MIS) : ∀ {n : Nat}, k < n → (rS p v n).2.1 = false
  | n + 1, hk => by
    rcases Nat.lt_succ_iff_lt_or_eq.mp hk with h1 | h1
    · have ih := rS_miss h hv h1
      cases hp : p n with
      | false => rw [rS_no hp]; exact ih
      | true => rw [rS_yes hp]; simp [ih]
    · subst h1
      rw [rS_yes h]; simp [hv]
theorem rSum_miss {p : Nat → Bool} {v : Nat → Int32} {k n : Nat} (h : p k = true) (hv : v k = MIS) (hk : k < n) : rSum p v n = MIS := by
  unfold rSum
  rw [if_neg]
  rintro ⟨-, h2⟩
  rw [rS_miss h hv hk] at h2; cases h2
theorem rS_congr {p : Nat → Bool} {v v' : Nat → Int32} : ∀ {n : Nat}, (∀ k, k < n → p k = true → v k = v' k) → rS p v n = rS p v' n
  | 0, _ => rfl
  | n + 1, h => by
    have ih := rS_congr (fun k hk => h k (Nat.lt_succ_of_lt hk))
    cases hp : p n with
    | false => rw [rS_no hp, rS_no hp]; exact ih
    | true => rw [rS_yes hp, rS_yes hp, ih, h n (Nat.lt_succ_self n) hp]
theorem rSum_congr {p : Nat → Bool} {v v' : Nat → Int32} {n : Nat} (h : ∀ k, k < n → p k = true → v k = v' k) : rSum p v n = rSum p v' n := by
  unfold rSum; rw [rS_congr h]
def cH (p b : Nat → Bool) : Nat → Nat
  | 0 => 0
  | k + 1 => cH p b k + if p k && b k then 1 else 0
theorem cH_no {p b : Nat → Bool} {k : Nat} (h : (p k && b k) = false) : cH p b (k + 1) = cH p b k := by simp [cH, h]
theorem cH_yes {p b : Nat → Bool} {k : Nat} (h : (p k && b k) = true) : cH p b (k + 1) = cH p b k + 1 := by simp [cH, h]
theorem cH_0 {p b : Nat → Bool} : ∀ {n : Nat}, (∀ k, k < n → p k = false) → cH p b n = 0
  | 0, _ => rfl
  | n + 1, h => by rw [cH_no (by rw [h n (Nat.lt_succ_self n)]; rfl)]; exact cH_0 (fun k hk => h k (Nat.lt_succ_of_lt hk))
theorem cH_le {p b : Nat → Bool} : ∀ n : Nat, cH p b n ≤ n
  | 0 => Nat.le_refl 0
  | n + 1 => by
    have ih := cH_le (p := p) (b := b) n
    show cH p b n + _ ≤ _
    split <;> omega
theorem cH_congr {p b b' : Nat → Bool} : ∀ {n : Nat}, (∀ k, k < n → p k = true → b k = b' k) → cH p b n = cH p b' n
  | 0, _ => rfl
  | n + 1, h => by
    have ih := cH_congr (fun k hk => h k (Nat.lt_succ_of_lt hk))
    show cH p b n + _ = cH p b' n + _
    rw [ih]
    cases hp : p n with
    | false => rfl
    | true => rw [h n (Nat.lt_succ_self n) hp]
/-- the open one with the value nearest to 0, the first of several -/
def nrB (v : Nat → Int32) (x : Int32) : Option Nat → Bool
  | none => true
  | some j => decide (b_abs x < b_abs (v j))
def nr (p b : Nat → Bool) (v : Nat → Int32) : Nat → Option Nat
  | 0 => none
  | k + 1 => if (p k && !b k) && nrB v (v k) (nr p b v k) then some k else nr p b v k
theorem nr_no {p b : Nat → Bool} {v : Nat → Int32} {k : Nat} (h : (p k && !b k) = false) : nr p b v (k + 1) = nr p b v k := by simp [nr, h]
theorem nr_first {p b : Nat → Bool} {v : Nat → Int32} {k : Nat} (h : (p k && !b k) = true) (h2 : nr p b v k = none) : nr p b v (k + 1) = some k := by simp [nr, h, h2, nrB]
theorem nr_less {p b : Nat → Bool} {v : Nat → Int32} {k j : Nat} (h : (p k && !b k) = true) (h2 : nr p b v k = some j) (h3 : b_abs (v k) < b_abs (v j)) : nr p b v (k + 1) = some k := by simp [nr, h, h2, h3, nrB]
theorem nr_not {p b : Nat → Bool} {v : Nat → Int32} {k j : Nat} (h2 : nr p b v k = some j) (h3 : ¬ b_abs (v k) < b_abs (v j)) : nr p b v (k + 1) = nr p b v k := by
  simp [nr, h2, h3, nrB]
theorem nr_0 {p b : Nat → Bool} {v : Nat → Int32} : ∀ {n : Nat}, (∀ k, k < n → p k = false) → nr p b v n = none
  | 0, _ => rfl
  | n + 1, h => by rw [nr_no (by rw [h n (Nat.lt_succ_self n)]; rfl)]; exact nr_0 (fun k hk => h k (Nat.lt_succ_of_lt hk))
theorem nr_some {p b : Nat → Bool} {v : Nat → Int32} : ∀ {n j : Nat}, nr p b v n = some j → j < n ∧ p j = true ∧ b j = false
  | 0, j, h => by cases h
  | n + 1, j, h => by
    unfold nr at h
    split at h
    · next hc =>
      cases h
      simp only [Bool.and_eq_true, Bool.not_eq_true'] at hc
      exact ⟨Nat.lt_succ_self n, hc.1.1, hc.1.2⟩
    · obtain ⟨h1, h2⟩ := nr_some h
      exact ⟨Nat.lt_succ_of_lt h1, h2⟩
theorem nr_none {p b : Nat → Bool} {v : Nat → Int32} : ∀ {n : Nat}, nr p b v n = none → ∀ k, k < n → (p k && !b k) = false
  | n + 1, h, k, hk => by
    unfold nr at h
    split at h
    · cases h
    · next hc =>
      rcases Nat.lt_succ_iff_lt_or_eq.mp hk with h1 | h1
      · exact nr_none h k h1
      · subst h1
        rw [h] at hc
        simpa [nrB] using hc
theorem nr_congr {p b b' : Nat → Bool} {v v' : Nat → Int32} : ∀ {n : Nat}, (∀ k, k < n → p k = true → b k = b' k ∧ v k = v' k) → nr p b v n = nr p b' v' n
  | 0, _ => rfl
  | n + 1, h => by
    have ih := nr_congr (fun k hk => h k (Nat.lt_succ_of_lt hk))
    cases hp : p n with
    | false => rw [nr_no (by rw [hp]; rfl), nr_no (by rw [hp]; rfl)]; exact ih
    | true =>
      obtain ⟨h1, h2⟩ := h n (Nat.lt_succ_self n) hp
      unfold nr
      rw [ih, h1, h2]
      have hb : nrB v (v' n) (nr p b' v' n) = nrB v' (v' n) (nr p b' v' n) := by
        cases e : nr p b' v' n with
        | none => rfl
        | some j =>
          obtain ⟨j1, j2, -⟩ := nr_some e
          show decide (b_abs (v' n) < b_abs (v j)) = decide (b_abs (v' n) < b_abs (v' j))
          rw [(h j (Nat.lt_succ_of_lt j1) j2).2]
      rw [hb]
/-- its place, -1 without -/
def oS (sl : Nat → Nat) : Option Nat → Int32
  | none => -1
  | some j => nI (sl j)
def oN (sl : Nat → Nat) (d : Nat) : Option Nat → Nat
  | none => d
  | some j => sl j
/-- the children of hd come behind it -/
theorem tI_low {f : Nat → Int32} {n hd : Nat} (hT : TI f n) (hn : n < 2 ^ 31) (hh : hd < n) : ∀ k, k < hd + 1 → decide (f k = nI hd) = false := by
  intro k hk
  rw [decide_eq_false_iff_not]
  intro h
  rcases hT k (by omega) with h1 | ⟨j, hj, h1⟩
  · rw [h1] at h; exact b_m1 (a := hd) (by omega) h.symm
  · rw [h1] at h
    have := (nI_eq (a := j) (b := hd) (by omega) (by omega)).mp h
    omega
theorem tI_up {f : Nat → Int32} {n hd k : Nat} (hT : TI f n) (hn : n < 2 ^ 31) (hk : k < n) (h : decide (f k = nI hd) = true) (hh : hd < n) : hd < k := by
  rcases Nat.lt_or_ge hd k with h1 | h1
  · exact h1
  · rw [tI_low hT hn hh k (by omega)] at h; cases h
def fillF (f : Nat → Int32) (x : Int32) (n : Nat) : Nat → Int32 := fun j => if j < n then x else f j
theorem fillF_0 (f : Nat → Int32) (x : Int32) : fillF f x 0 = f := by funext j; simp [fillF]
theorem fillF_s (f : Nat → Int32) (x : Int32) (k : Nat) : upd (fillF f x k) k x = fillF f x (k + 1) := by
  funext j
  by_cases h : j = k
  · subst h; simp [upd, fillF]
  · by_cases h2 : j < k
    · have h3 : j < k + 1 := by omega
      simp [upd, fillF, h, h2, h3]
    · have h3 : ¬ j < k + 1 := by omega
      simp [upd, fillF, h, h2, h3]
theorem mulc (a b : Nat) : nI a * nI b = nI (b * a) := (pk_mul a b).trans (congrArg nI (Nat.mul_comm a b))
/-! the values of a period -/
def sA (fA : Nat → Int32) (nA : Nat) (v : Nat → Int32) (a i : Nat) : Int32 := rSum (fun k => decide (fA k = nI a)) (fun k => v (10 * k + i)) nA
def sJ (fJ : Nat → Int32) (nJ : Nat) (v : Nat → Int32) (a i : Nat) : Int32 := rSum (fun k => decide (fJ k = nI i)) (fun k => v (10 * a + k)) nJ
def fxv (fig : Nat → Nat → Int32) (fA : Nat → Int32) (nA : Nat) (fJ : Nat → Int32) (nJ : Nat) (v : Nat → Int32) (a i : Nat) : Int32 :=
  if (if fig a i = MIS then sA fA nA v a i else fig a i) = MIS then sJ fJ nJ v a i else (if fig a i = MIS then sA fA nA v a i else fig a i)
/-- the values of the cells from (a0, J) on are as they must be -/
def Pz (fig : Nat → Nat → Int32) (fA : Nat → Int32) (nA : Nat) (fJ : Nat → Int32) (nJ a0 J : Nat) (v : Nat → Int32) : Prop := ∀ a i, a < nA → i < nJ → (a0 < a ∨ (a = a0 ∧ J ≤ i)) → v (10 * a + i) = fxv fig fA nA fJ nJ v a i
abbrev Fx (fig : Nat → Nat → Int32) (fA : Nat → Int32) (nA : Nat) (fJ : Nat → Int32) (nJ : Nat) (v : Nat → Int32) : Prop := Pz fig fA nA fJ nJ 0 0 v
theorem sA_congr {fA : Nat → Int32} {nA : Nat} {v v' : Nat → Int32} {a i : Nat} (hT : TI fA nA) (hn : nA < 2 ^ 31) (ha : a < nA) (h : ∀ k, a < k → k < nA → v (10 * k + i) = v' (10 * k + i)) : sA fA nA v a i = sA fA nA v' a i :=
  rSum_congr (fun k hk hp => h k (tI_up hT hn hk hp ha) hk)
theorem sJ_congr {fJ : Nat → Int32} {nJ : Nat} {v v' : Nat → Int32} {a i : Nat} (hT : TI fJ nJ) (hn : nJ < 2 ^ 31) (hi : i < nJ) (h : ∀ k, i < k → k < nJ → v (10 * a + k) = v' (10 * a + k)) : sJ fJ nJ v a i = sJ fJ nJ v' a i :=
  rSum_congr (fun k hk hp => h k (tI_up hT hn hk hp hi) hk)
theorem Pz_step {fig : Nat → Nat → Int32} {fA fJ : Nat → Int32} {nA nJ a0 i0 : Nat} {v v' : Nat → Int32} (hA : TI fA nA) (hJ : TI fJ nJ) (hnA : nA ≤ 14) (hnJ : nJ ≤ 10) (ha : a0 < nA) (hi : i0 < nJ) (h : Pz fig fA nA fJ nJ a0 (i0 + 1) v)
    (hv : ∀ t, t ≠ 10 * a0 + i0 → v' t = v t) (hs : v' (10 * a0 + i0) = fxv fig fA nA fJ nJ v a0 i0) : Pz fig fA nA fJ nJ a0 i0 v' := by
  intro a i h1 h2 h3
  have eA : sA fA nA v' a i = sA fA nA v a i := sA_congr hA (by omega) h1 (fun k g1 g2 => hv _ (by omega))
  have eJ : sJ fJ nJ v' a i = sJ fJ nJ v a i := sJ_congr hJ (by omega) h2 (fun k g1 g2 => hv _ (by omega))
  unfold fxv
  rw [eA, eJ]
  by_cases hc : a = a0 ∧ i = i0
  · obtain ⟨rfl, rfl⟩ := hc
    exact hs
  · rw [hv _ (by omega)]
    exact h a i h1 h2 (by omega)
theorem Pz_row {fig : Nat → Nat → Int32} {fA fJ : Nat → Int32} {nA nJ a0 : Nat} {v : Nat → Int32} (h : Pz fig fA nA fJ nJ (a0 + 1) 0 v) : Pz fig fA nA fJ nJ a0 nJ v := fun a i h1 h2 h3 => h a i h1 h2 (by omega)
theorem Pz_top {fig : Nat → Nat → Int32} {fA fJ : Nat → Int32} {nA nJ : Nat} {v : Nat → Int32} : Pz fig fA nA fJ nJ nA 0 v := fun a i h1 _ h3 => absurd h1 (by omega)
/-- two tables of values that are as they must be agree -/
theorem Fx_one {fig : Nat → Nat → Int32} {fA fJ : Nat → Int32} {nA nJ : Nat} {v v' : Nat → Int32} (hA : TI fA nA) (hJ : TI fJ nJ) (hnA : nA < 2 ^ 31) (hnJ : nJ < 2 ^ 31) (h : Fx fig fA nA fJ nJ v) (h' : Fx fig fA nA fJ nJ v') : ∀ a i, a < nA → i < nJ → v (10 * a + i) = v' (10 * a + i) := by
  have key : ∀ (m : Nat) (a i : Nat), a < nA → i < nJ → (nA - a) + (nJ - i) ≤ m → v (10 * a + i) = v' (10 * a + i) := by
    intro m
    induction m with
    | zero => intro a i h1 h2 h3; omega
    | succ m ih =>
      intro a i h1 h2 h3
      rw [h a i h1 h2 (by omega), h' a i h1 h2 (by omega)]
      have eA : sA fA nA v a i = sA fA nA v' a i := sA_congr hA hnA h1 (fun k g1 g2 => ih k i g2 h2 (by omega))
      have eJ : sJ fJ nJ v a i = sJ fJ nJ v' a i := sJ_congr hJ hnJ h2 (fun k g1 g2 => ih a k h1 g2 (by omega))
      unfold fxv
      rw [eA, eJ]
  exact fun a i h1 h2 => key _ a i h1 h2 (Nat.le_refl _)
/-- where sums are there, the head has a value too -/
theorem Fx_head {fig : Nat → Nat → Int32} {fA fJ : Nat → Int32} {nA nJ : Nat} {v : Nat → Int32} (h : Fx fig fA nA fJ nJ v) {a i : Nat} (ha : a < nA) (hi : i < nJ) (hm : v (10 * a + i) = MIS) : fig a i = MIS ∧ sA fA nA v a i = MIS ∧ sJ fJ nJ v a i = MIS := by
  have e := h a i ha hi (by omega)
  rw [hm] at e
  unfold fxv at e
  by_cases h1 : fig a i = MIS
  · rw [if_pos h1] at e
    by_cases h2 : sA fA nA v a i = MIS
    · rw [if_pos h2] at e
      exact ⟨h1, h2, e.symm⟩
    · rw [if_neg h2] at e
      exact absurd e.symm h2
  · rw [if_neg h1, if_neg h1] at e
    exact absurd e.symm h1
/-- the sum right in an area, in an item, as the sheet finds it -/
theorem sumA_eq {fA : Nat → Int32} {nA : Nat} {v : Nat → Int32} {a i : Nat} (hT : TI fA nA) (hn : nA < 2 ^ 31) (ha : a < nA) : rSum (fun k => decide (fA k = nI a)) (fun k => v (10 * a + i + 10 * (k - a))) nA = sA fA nA v a i :=
  rSum_congr (fun k hk hp => by have := tI_up hT hn hk hp ha; exact congrArg v (by omega))
theorem sumJ_eq {fJ : Nat → Int32} {nJ : Nat} {v : Nat → Int32} {a i : Nat} (hT : TI fJ nJ) (hn : nJ < 2 ^ 31) (hi : i < nJ) : rSum (fun k => decide (fJ k = nI i)) (fun k => v (10 * a + i + 1 * (k - i))) nJ = sJ fJ nJ v a i :=
  rSum_congr (fun k hk hp => by have := tI_up hT hn hk hp hi; exact congrArg v (by omega))
/-- the figures that a sheet loads -/
theorem fo_sorted {bc bd bf : Nat → Int32} {x d : Int32} {k : Nat} : ∀ {n : Nat}, k ≤ n → (∀ j, k ≤ j → j < n → d < bd j) → fo bc bd bf x d n = fo bc bd bf x d k
  | 0, hk, _ => by rw [Nat.le_zero.mp hk]
  | n + 1, hk, h => by
    rcases Nat.lt_or_ge k (n + 1) with h1 | h1
    · rw [fo_miss2 (h n (by omega) (Nat.lt_succ_self n))]
      exact fo_sorted (by omega) (fun j g1 g2 => h j g1 (by omega))
    · rw [show n + 1 = k by omega]
theorem rSum_pos {p : Nat → Bool} {v : Nat → Int32} {n : Nat} {e : Bool} (ha : (rS p v n).2.1 = true) (he : e = decide ((rS p v n).2.2 = 0)) (q : e = false) : rSum p v n = (rS p v n).1 := by
  unfold rSum
  rw [if_pos]
  rw [q] at he
  have h1 : ¬ (rS p v n).2.2 = 0 := of_decide_eq_false he.symm
  exact ⟨Nat.pos_of_ne_zero h1, ha⟩
theorem rSum_neg {p : Nat → Bool} {v : Nat → Int32} {n : Nat} {e : Bool} (he : e = decide ((rS p v n).2.2 = 0)) (q : e = true) : rSum p v n = MIS := by
  unfold rSum
  rw [if_neg]
  rw [q] at he
  have h1 : (rS p v n).2.2 = 0 := of_decide_eq_true he.symm
  rw [h1]
  exact fun h => absurd h.1 (Nat.lt_irrefl 0)
theorem cH_noP {p b : Nat → Bool} {k : Nat} (h : p k = false) : cH p b (k + 1) = cH p b k := cH_no (by rw [h]; rfl)
theorem cH_noB {p b : Nat → Bool} {k : Nat} (h : p k = true) (h2 : b k = false) : cH p b (k + 1) = cH p b k := cH_no (by rw [h, h2]; rfl)
theorem cH_yes2 {p b : Nat → Bool} {k : Nat} (h : p k = true) (h2 : b k = true) : cH p b (k + 1) = cH p b k + 1 := cH_yes (by rw [h, h2]; rfl)
theorem nr_noP {p b : Nat → Bool} {v : Nat → Int32} {k : Nat} (h : p k = false) : nr p b v (k + 1) = nr p b v k := nr_no (by rw [h]; rfl)
theorem nr_noB {p b : Nat → Bool} {v : Nat → Int32} {k : Nat} (h : b k = true) : nr p b v (k + 1) = nr p b v k := nr_no (by rw [h]; simp)
theorem nr_first2 {p b : Nat → Bool} {v : Nat → Int32} {k : Nat} (h : p k = true) (hb : b k = false) (h2 : nr p b v k = none) : nr p b v (k + 1) = some k := nr_first (by rw [h, hb]; rfl) h2
theorem nr_less2 {p b : Nat → Bool} {v : Nat → Int32} {k j : Nat} (h : p k = true) (hb : b k = false) (h2 : nr p b v k = some j) (h3 : ¬ b_abs (v j) ≤ b_abs (v k)) : nr p b v (k + 1) = some k := nr_less (by rw [h, hb]; rfl) h2 (by rw [Int32.lt_iff_toInt_lt]; rw [Int32.le_iff_toInt_le] at h3; omega)
theorem nr_not2 {p b : Nat → Bool} {v : Nat → Int32} {k j : Nat} (h2 : nr p b v k = some j) (h3 : b_abs (v j) ≤ b_abs (v k)) : nr p b v (k + 1) = nr p b v k := nr_not h2 (by rw [Int32.lt_iff_toInt_lt]; rw [Int32.le_iff_toInt_le] at h3; omega)
theorem oS_none {sl : Nat → Nat} {o : Option Nat} (h : oS sl o = -1) (hs : ∀ j, o = some j → sl j < 2 ^ 31) : o = none := by
  cases o with
  | none => rfl
  | some j => exact absurd h (b_m1 (hs j rfl))
theorem oS_some {sl : Nat → Nat} {o : Option Nat} (h : ¬ oS sl o = -1) : ∃ j, o = some j := by
  cases o with
  | none => exact absurd rfl h
  | some j => exact ⟨j, rfl⟩
def b1 (b : Bool) : Nat := if b then 1 else 0
theorem b1_le (b : Bool) : b1 b ≤ 1 := by cases b <;> simp [b1]
theorem b1_t {b : Bool} (h : b = true) : b1 b = 1 := by subst h; rfl
theorem b1_f {b : Bool} (h : b = false) : b1 b = 0 := by subst h; rfl
/-- what a row hides besides -/
def pR (p b : Nat → Bool) (v : Nat → Int32) (n hs : Nat) (b0 : Bool) (sl : Nat → Nat) : Option Nat :=
  if b1 b0 + cH p b n = 1 ∧ ¬ rSum p v n = MIS then some (oN sl hs (nr p b v n)) else none
def uO (hb : Nat → Bool) : Option Nat → Nat → Bool
  | none => hb
  | some t => uB hb t true
theorem pR_congr {p b b' : Nat → Bool} {v v' : Nat → Int32} {n hs : Nat} {b0 : Bool} {sl sl' : Nat → Nat} (h : ∀ k, k < n → p k = true → b k = b' k ∧ v k = v' k ∧ sl k = sl' k) : pR p b v n hs b0 sl = pR p b' v' n hs b0 sl' := by
  unfold pR
  rw [cH_congr (fun k h1 h2 => (h k h1 h2).1), rSum_congr (fun k h1 h2 => (h k h1 h2).2.1), nr_congr (fun k h1 h2 => ⟨(h k h1 h2).1, (h k h1 h2).2.1⟩)]
  have e : oN sl hs (nr p b' v' n) = oN sl' hs (nr p b' v' n) := by
    cases e : nr p b' v' n with
    | none => rfl
    | some j =>
      obtain ⟨j1, j2, -⟩ := nr_some e
      exact (h j j1 j2).2.2
  rw [e]
/-- the row of the cell (a, i), by areas or by items -/
def gRow (fA : Nat → Int32) (nA : Nat) (fJ : Nat → Int32) (nJ : Nat) (v : Nat → Int32) (by_ : Bool) (hb : Nat → Bool) (a i : Nat) : Option Nat :=
  if by_ then pR (fun k => decide (fA k = nI a)) (fun k => hb (10 * k + i)) (fun k => v (10 * k + i)) nA (10 * a + i) (hb (10 * a + i)) (fun k => 10 * k + i)
  else pR (fun k => decide (fJ k = nI i)) (fun k => hb (10 * a + k)) (fun k => v (10 * a + k)) nJ (10 * a + i) (hb (10 * a + i)) (fun k => 10 * a + k)
def gI (fA : Nat → Int32) (nA : Nat) (fJ : Nat → Int32) (nJ : Nat) (v : Nat → Int32) (by_ : Bool) (st : (Nat → Bool) × Bool) (a : Nat) : Nat → (Nat → Bool) × Bool
  | 0 => st
  | i + 1 => (uO (gI fA nA fJ nJ v by_ st a i).1 (gRow fA nA fJ nJ v by_ (gI fA nA fJ nJ v by_ st a i).1 a i), (gI fA nA fJ nJ v by_ st a i).2 || (gRow fA nA fJ nJ v by_ (gI fA nA fJ nJ v by_ st a i).1 a i).isSome)
def gA (fA : Nat → Int32) (nA : Nat) (fJ : Nat → Int32) (nJ : Nat) (v : Nat → Int32) (by_ : Bool) (st : (Nat → Bool) × Bool) : Nat → (Nat → Bool) × Bool
  | 0 => st
  | a + 1 => gI fA nA fJ nJ v by_ (gA fA nA fJ nJ v by_ st a) a nJ
theorem pRA {fA : Nat → Int32} {nA : Nat} {fJ : Nat → Int32} {nJ : Nat} {v : Nat → Int32} {hb : Nat → Bool} {a i : Nat} (hT : TI fA nA) (hn : nA < 2 ^ 31) (ha : a < nA) : pR (fun k => decide (fA k = nI a)) (fun k => hb (10 * a + i + 10 * (k - a))) (fun k => v (10 * a + i + 10 * (k - a))) nA (10 * a + i) (hb (10 * a + i)) (fun k => 10 * a + i + 10 * (k - a)) = gRow fA nA fJ nJ v true hb a i :=
  pR_congr (fun k hk hp => by
    have := tI_up hT hn hk hp ha
    have e : 10 * a + i + 10 * (k - a) = 10 * k + i := by omega
    exact ⟨congrArg hb e, congrArg v e, e⟩)
theorem pRJ {fA : Nat → Int32} {nA : Nat} {fJ : Nat → Int32} {nJ : Nat} {v : Nat → Int32} {hb : Nat → Bool} {a i : Nat} (hT : TI fJ nJ) (hn : nJ < 2 ^ 31) (hi : i < nJ) : pR (fun k => decide (fJ k = nI i)) (fun k => hb (10 * a + i + 1 * (k - i))) (fun k => v (10 * a + i + 1 * (k - i))) nJ (10 * a + i) (hb (10 * a + i)) (fun k => 10 * a + i + 1 * (k - i)) = gRow fA nA fJ nJ v false hb a i :=
  pR_congr (fun k hk hp => by
    have := tI_up hT hn hk hp hi
    have e : 10 * a + i + 1 * (k - i) = 10 * a + k := by omega
    exact ⟨congrArg hb e, congrArg v e, e⟩)
/-- one pass over all rows: by areas, then by items; again and again -/
def stp (fA : Nat → Int32) (nA : Nat) (fJ : Nat → Int32) (nJ : Nat) (v : Nat → Int32) (hb : Nat → Bool) : (Nat → Bool) × Bool :=
  ((gA fA nA fJ nJ v false ((gA fA nA fJ nJ v true (hb, false) nA).1, false) nA).1, (gA fA nA fJ nJ v true (hb, false) nA).2 || (gA fA nA fJ nJ v false ((gA fA nA fJ nJ v true (hb, false) nA).1, false) nA).2)
def itR (step : (Nat → Bool) → (Nat → Bool) × Bool) : Nat → (Nat → Bool) → Nat → Bool
  | 0, b => b
  | m + 1, b => if (step b).2 then itR step m (step b).1 else (step b).1
theorem itR_t {step : (Nat → Bool) → (Nat → Bool) × Bool} {m : Nat} {b : Nat → Bool} (h : (step b).2 = true) : itR step (m + 1) b = itR step m (step b).1 := by simp [itR, h]
theorem itR_f {step : (Nat → Bool) → (Nat → Bool) × Bool} {m : Nat} {b : Nat → Bool} (h : (step b).2 = false) : itR step (m + 1) b = (step b).1 := by simp [itR, h]
def hF (hb h0 : Nat → Bool) (k : Nat) : Nat → Bool := fun t => if t < k then h0 t else hb t
theorem hF_0 (hb h0 : Nat → Bool) : hF hb h0 0 = hb := by funext j; simp [hF]
theorem hF_s (hb h0 : Nat → Bool) (k : Nat) {x : Bool} (hx : x = h0 k) : uB (hF hb h0 k) k x = hF hb h0 (k + 1) := by
  funext j
  by_cases h : j = k
  · subst h; simp [uB, hF, hx]
  · by_cases h2 : j < k
    · have h3 : j < k + 1 := by omega
      simp [uB, hF, h, h2, h3]
    · have h3 : ¬ j < k + 1 := by omega
      simp [uB, hF, h, h2, h3]
theorem pR_n1 {p b : Nat → Bool} {v : Nat → Int32} {n hs : Nat} {b0 : Bool} {sl : Nat → Nat} (h : ¬ b1 b0 + cH p b n = 1) : pR p b v n hs b0 sl = none := by
  unfold pR; rw [if_neg (fun z => h z.1)]
theorem pR_n2 {p b : Nat → Bool} {v : Nat → Int32} {n hs : Nat} {b0 : Bool} {sl : Nat → Nat} (h : rSum p v n = MIS) : pR p b v n hs b0 sl = none := by
  unfold pR; rw [if_neg (fun z => z.2 h)]
theorem pR_y {p b : Nat → Bool} {v : Nat → Int32} {n hs : Nat} {b0 : Bool} {sl : Nat → Nat} (h : b1 b0 + cH p b n = 1) (h2 : ¬ rSum p v n = MIS) : pR p b v n hs b0 sl = some (oN sl hs (nr p b v n)) := by
  unfold pR; rw [if_pos ⟨h, h2⟩]
theorem oN_lt {p b : Nat → Bool} {v : Nat → Int32} {n hs N : Nat} {sl : Nat → Nat} (h0 : hs < N) (h : ∀ k, k < n → p k = true → sl k < N) : oN sl hs (nr p b v n) < N := by
  cases e : nr p b v n with
  | none => exact h0
  | some j =>
    obtain ⟨j1, j2, -⟩ := nr_some e
    exact h j j1 j2
theorem gI_step {fA fJ : Nat → Int32} {nA nJ : Nat} {v : Nat → Int32} {by_ : Bool} {S0 S1 : (Nat → Bool) × Bool} {a i : Nat} {o : Option Nat} {b : Bool} (hS : S1 = gI fA nA fJ nJ v by_ S0 a i) (ho : o = gRow fA nA fJ nJ v by_ S1.1 a i) (hb : b = (S1.2 || o.isSome)) : (uO S1.1 o, b) = gI fA nA fJ nJ v by_ S0 a (i + 1) := by
  subst hb; subst ho; subst hS; rfl
theorem itR_0 {step : (Nat → Bool) → (Nat → Bool) × Bool} {m : Nat} {b : Nat → Bool} {more : Bool} (h : m = 0) : (if more = true then itR step m b else b) = b := by
  subst h; simp [itR]
theorem itR_n {step : (Nat → Bool) → (Nat → Bool) × Bool} {M r : Nat} {b b0 : Nat → Bool} {more m2 : Bool} (h : itR step M b0 = if more = true then itR step (M - r) b else b) (hm : more = true) (hr : r < M) (h2 : (step b).2 = m2) : itR step M b0 = if m2 = true then itR step (M - (r + 1)) (step b).1 else (step b).1 := by
  rw [h, if_pos hm, show M - r = M - (r + 1) + 1 by omega]
  cases m2 with
  | true => rw [itR_t h2, if_pos rfl]
  | false => rw [itR_f h2]; simp
