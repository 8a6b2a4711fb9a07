/-! the reference's own checks, as functions -/
def tIn (x lo hi : Int32) : Bool := !decide (x < lo) && !decide (hi < x)
theorem nI_pred_toInt {n : Nat} (h : n < 2 ^ 30) : (nI n - nI 1).toInt = (n : Int) - 1 := pk_sub_toInt h (by decide)
theorem tIn_has {n : Nat} {x : Int32} (h : n < 2 ^ 30) : tIn x (nI 0) (nI n - nI 1) = tHas n x := by
  unfold tIn tHas
  have e1 : decide (x < nI 0) = decide (x < 0) := rfl
  have e2 : decide (nI n - nI 1 < x) = decide (nI n ≤ x) := by
    apply decide_eq_decide.mpr
    rw [Int32.lt_iff_toInt_lt, Int32.le_iff_toInt_le, nI_pred_toInt h, nI_toInt (by omega)]
    omega
  rw [e1, e2]
theorem tIn_lit {n : Nat} {x : Int32} (h : n + 1 < 2 ^ 30) : tIn x (nI 0) (nI n) = tHas (n + 1) x := by
  unfold tIn tHas
  have e1 : decide (x < nI 0) = decide (x < 0) := rfl
  have e2 : decide (nI n < x) = decide (nI (n + 1) ≤ x) := by
    apply decide_eq_decide.mpr
    rw [Int32.lt_iff_toInt_lt, Int32.le_iff_toInt_le, nI_toInt (by omega), nI_toInt (by omega)]
    omega
  rw [e1, e2]
theorem tIn_dOk {td : Nat} {x : Int32} : tIn x (nI 0) (nI td) = dOk td x := by
  unfold tIn dOk
  have e1 : decide (x < nI 0) = decide (x < 0) := rfl
  have e2 : (!decide (nI td < x)) = decide (x ≤ nI td) := by
    rw [← decide_not]
    apply decide_eq_decide.mpr
    rw [Int32.lt_iff_toInt_lt, Int32.le_iff_toInt_le]
    omega
  rw [e1, e2]
theorem tIn_of {x lo hi : Int32} : tIn x lo hi = (!decide (x < lo) && decide (x ≤ hi)) := by
  unfold tIn
  have e2 : (!decide (hi < x)) = decide (x ≤ hi) := by
    rw [← decide_not]
    apply decide_eq_decide.mpr
    rw [Int32.lt_iff_toInt_lt, Int32.le_iff_toInt_le]
    omega
  rw [e2]
theorem tIn_w {x : Int32} : tIn x (nI 0) (nI 2) = wOk x := tIn_of
theorem tIn_v {x : Int32} : tIn x (-1000000) 1000000 = vOk x := tIn_of
theorem tIn_p {x : Int32} : tIn x (nI 1) (nI 100) = pOk x := tIn_of
theorem tIn_s {x : Int32} : tIn x (nI 0) (nI 1000) = sOk x := tIn_of
theorem tIn_to {x f : Int32} (hf : tHas 12 f = true) : tIn x f (nI 11) = (tHas 12 x && !decide (x < f)) := by
  obtain ⟨k, hk, rfl⟩ := (tHas_iff (by decide)).mp hf
  have hk0 := nI_toInt (n := k) (by omega)
  have h11 := nI_toInt (n := 11) (by decide)
  have h12 := nI_toInt (n := 12) (by decide)
  unfold tIn tHas
  have e0 : (0 : Int32).toInt = 0 := by decide
  by_cases h1 : x < nI k
  · simp [h1]
  · have h2 : ¬ x < 0 := by
      rw [Int32.lt_iff_toInt_lt] at h1 ⊢
      omega
    have e2 : decide (nI 11 < x) = decide (nI 12 ≤ x) := by
      apply decide_eq_decide.mpr
      rw [Int32.lt_iff_toInt_lt, Int32.le_iff_toInt_le]
      omega
    rw [e2]; simp [h1, h2]
/-- which exception, by two or three tests -/
def th1 (a : Bool) : Nat := if a then 0 else 1
def th2 (a b : Bool) : Nat := if a then (if b then 0 else 2) else 1
def th3 (a b d : Bool) : Nat := if a then (if b then (if d then 0 else 3) else 2) else 1
def gN (t n k : Nat) : Nat := if t = 0 then k else n
def gF {α : Type} (t : Nat) (f g : α) : α := if t = 0 then g else f
theorem gN_0 {n k : Nat} : gN 0 n k = k := rfl
theorem gF_0 {α : Type} {f g : α} : gF 0 f g = g := rfl
/-- the walk outwards from y: whether something is so of one on it -/
def wkB (f : Nat → Int32) (P : Nat → Bool) : Nat → Int32 → Bool
  | 0, _ => false
  | m + 1, y => if y = -1 then false else P (cl y) || wkB f P m (f (cl y))
theorem wkB_end {f : Nat → Int32} {P : Nat → Bool} {m : Nat} : wkB f P m (-1) = false := by
  cases m <;> simp [wkB]
theorem wkB_s {f : Nat → Int32} {P : Nat → Bool} {m j : Nat} (hj : j < 2 ^ 31) : wkB f P (m + 1) (nI j) = (P j || wkB f P m (f j)) := by
  show (if nI j = -1 then false else P (cl (nI j)) || wkB f P m (f (cl (nI j)))) = _
  rw [if_neg (b_m1 hj), cl_nI hj]
theorem tI_next2 {f : Nat → Int32} {n j m : Nat} (hT : TI f n) (hj : j < n) (hm : j < m + 1) : f j = -1 ∨ ∃ i, i < m ∧ i < n ∧ f j = nI i := by
  rcases hT j hj with h | ⟨i, hi, h⟩
  · exact Or.inl h
  · exact Or.inr ⟨i, by omega, by omega, h⟩
/-- the last day on which a cell was told of; -1 without -/
def tdO (bc bd : Nat → Int32) (x : Int32) : Nat → Int32
  | 0 => -1
  | n + 1 => if bc n = x then bd n else tdO bc bd x n
theorem tdO_y {bc bd : Nat → Int32} {x : Int32} {k : Nat} (h : bc k = x) : tdO bc bd x (k + 1) = bd k := by simp [tdO, h]
theorem tdO_n {bc bd : Nat → Int32} {x : Int32} {k : Nat} (h : ¬ bc k = x) : tdO bc bd x (k + 1) = tdO bc bd x k := by simp [tdO, h]
/-- the first figure told of a cell -/
def fst9 (bc bf : Nat → Int32) (x : Int32) : Nat → Int32
  | 0 => MIS
  | n + 1 => if anyB (fun k => decide (bc k = x)) n then fst9 bc bf x n else if bc n = x then bf n else MIS
def cnt9 (bc : Nat → Int32) (x : Int32) (n : Nat) : Nat := cH (fun _ => true) (fun k => decide (bc k = x)) n
theorem fst9_none {bc bf : Nat → Int32} {x : Int32} : ∀ {n : Nat}, (∀ j, j < n → decide (bc j = x) = false) → fst9 bc bf x n = MIS
  | 0, _ => rfl
  | n + 1, h => by
    unfold fst9
    rw [anyB_no (fun k hk => h k (Nat.lt_succ_of_lt hk)), if_neg (by simp), if_neg (of_decide_eq_false (h n (Nat.lt_succ_self n)))]
theorem fst9_hit {bc bf : Nat → Int32} {x : Int32} {k : Nat} (h : bc k = x) (hno : ∀ j, j < k → decide (bc j = x) = false) : ∀ {n : Nat}, k < n → fst9 bc bf x n = bf k
  | n + 1, hk => by
    rcases Nat.lt_succ_iff_lt_or_eq.mp hk with h1 | h1
    · have h2 : anyB (fun k => decide (bc k = x)) n = true := anyB_iff.mpr ⟨k, h1, by simp [h]⟩
      unfold fst9
      rw [h2, if_pos rfl]
      exact fst9_hit h hno h1
    · subst h1
      unfold fst9
      rw [anyB_no hno, if_neg (by simp), if_pos h]
theorem rSum_mk {p : Nat → Bool} {v : Nat → Int32} {n mn : Nat} {al : Bool} {sm : Int32} (h1 : mn = (rS p v n).2.2) (h2 : al = (rS p v n).2.1) (h3 : al = true → sm = (rS p v n).1) : rSum p v n = if 0 < mn ∧ al = true then sm else MIS := by
  unfold rSum
  rw [← h1, ← h2]
  by_cases h : 0 < mn ∧ al = true
  · rw [if_pos h, if_pos h, h3 h.2]
  · rw [if_neg h, if_neg h]
theorem b_abs_neg {x : Int32} (h : ¬ 0 ≤ x) : -x = b_abs x := by
  unfold b_abs
  rw [if_neg h, Int32.zero_sub]
theorem b_abs_pos {x : Int32} (h : 0 ≤ x) : x = b_abs x := by
  unfold b_abs
  rw [if_pos h]
/-! the reference's run over a message -/
abbrev mT : Type := Nat × (Nat → Int32) × Nat × (Nat → Int32) × (Nat → Int32) × (Nat → Int32)
def mD (z : mT) : Nat := z.1
def mR (z : mT) : Nat → Int32 := z.2.1
def mN (z : mT) : Nat := z.2.2.1
def mC (z : mT) : Nat → Int32 := z.2.2.2.1
def mY (z : mT) : Nat → Int32 := z.2.2.2.2.1
def mF (z : mT) : Nat → Int32 := z.2.2.2.2.2
def mS (cov : Nat → Bool) (dw dv : Nat → Int32) (cN_ : Nat → Nat) (td : Int32) (k : Nat) (z : mT) : mT :=
  if jR (cov k) (dw k) (dv k) (fo (mC z) (mY z) (mF z) (nI (cN_ k)) td (mN z)) = 0 then
    (mD z + 1, upd (mR z) k (jR (cov k) (dw k) (dv k) (fo (mC z) (mY z) (mF z) (nI (cN_ k)) td (mN z))), mN z + 1, upd (mC z) (mN z) (nI (cN_ k)), upd (mY z) (mN z) td, upd (mF z) (mN z) (fgB (dw k) (dv k)))
  else (mD z, upd (mR z) k (jR (cov k) (dw k) (dv k) (fo (mC z) (mY z) (mF z) (nI (cN_ k)) td (mN z))), mN z, mC z, mY z, mF z)
def mRun (cov : Nat → Bool) (dw dv : Nat → Int32) (cN_ : Nat → Nat) (td : Int32) (z0 : mT) : Nat → mT
  | 0 => z0
  | k + 1 => mS cov dw dv cN_ td k (mRun cov dw dv cN_ td z0 k)
theorem mRun_y {cov : Nat → Bool} {dw dv : Nat → Int32} {cN_ : Nat → Nat} {td : Int32} {z0 z : mT} {k : Nat} (hz : z = mRun cov dw dv cN_ td z0 k) {c : Nat} (hc : cN_ k = c) {r : Int32} (hr : jR (cov k) (dw k) (dv k) (fo (mC z) (mY z) (mF z) (nI c) td (mN z)) = r) (h0 : r = 0) :
    (mD z + 1, upd (mR z) k r, mN z + 1, upd (mC z) (mN z) (nI c), upd (mY z) (mN z) td, upd (mF z) (mN z) (fgB (dw k) (dv k))) = mRun cov dw dv cN_ td z0 (k + 1) := by
  subst hc
  show _ = mS cov dw dv cN_ td k (mRun cov dw dv cN_ td z0 k)
  rw [← hz]
  unfold mS
  rw [hr]
  exact (if_pos h0).symm
theorem mRun_n {cov : Nat → Bool} {dw dv : Nat → Int32} {cN_ : Nat → Nat} {td : Int32} {z0 z : mT} {k : Nat} (hz : z = mRun cov dw dv cN_ td z0 k) {c : Nat} (hc : cN_ k = c) {r : Int32} (hr : jR (cov k) (dw k) (dv k) (fo (mC z) (mY z) (mF z) (nI c) td (mN z)) = r) (h0 : ¬ r = 0) :
    (mD z, upd (mR z) k r, mN z, mC z, mY z, mF z) = mRun cov dw dv cN_ td z0 (k + 1) := by
  subst hc
  show _ = mS cov dw dv cN_ td k (mRun cov dw dv cN_ td z0 k)
  rw [← hz]
  unfold mS
  rw [hr]
  exact (if_neg h0).symm
theorem fy1 {F : Nat → Nat → Int32} {fA fJ g : Nat → Int32} {nA nJ a i : Nat} (c : ¬ F a i = MIS) : F a i = fxv F fA nA fJ nJ g a i := by
  unfold fxv
  rw [if_neg c, if_neg c]
theorem fy2 {F : Nat → Nat → Int32} {fA fJ g : Nat → Int32} {nA nJ a i : Nat} (c : F a i = MIS) (c2 : ¬ sA fA nA g a i = MIS) : sA fA nA g a i = fxv F fA nA fJ nJ g a i := by
  unfold fxv
  rw [if_pos c, if_neg c2]
theorem fy3 {F : Nat → Nat → Int32} {fA fJ g : Nat → Int32} {nA nJ a i : Nat} (c : F a i = MIS) (c2 : sA fA nA g a i = MIS) : sJ fJ nJ g a i = fxv F fA nA fJ nJ g a i := by
  unfold fxv
  rw [if_pos c, if_pos c2]
/-! counting what is hidden -/
theorem uB_same {b : Nat → Bool} {k : Nat} {x : Bool} : uB b k x k = x := by simp [uB]
theorem cT_up {b : Nat → Bool} {t : Nat} (h : b t = false) : ∀ {n : Nat}, t < n → cH (fun _ => true) (uB b t true) n = cH (fun _ => true) b n + 1
  | n + 1, hn => by
    rcases Nat.lt_succ_iff_lt_or_eq.mp hn with h1 | h1
    · have ih := cT_up h h1
      have e : uB b t true n = b n := by simp [uB, Nat.ne_of_gt h1]
      show cH _ _ n + _ = cH _ _ n + _ + 1
      rw [ih, e]
      omega
    · subst h1
      have e1 : cH (fun _ => true) (uB b t true) t = cH (fun _ => true) b t := cH_congr (fun k hk _ => by simp [uB, Nat.ne_of_lt hk])
      have e2 : uB b t true t = true := uB_same
      show cH _ _ t + _ = cH _ _ t + _ + 1
      rw [e1, e2, h]
      rfl
theorem pR_fresh {p b : Nat → Bool} {v : Nat → Int32} {n hs N : Nat} {hid : Nat → Bool} {sl : Nat → Nat} {t : Nat} (hbs : ∀ k, k < n → p k = true → b k = hid (sl k)) (h0 : hs < N) (hsl : ∀ k, k < n → p k = true → sl k < N) (h : pR p b v n hs (hid hs) sl = some t) : t < N ∧ hid t = false := by
  unfold pR at h
  split at h
  · next hc =>
    cases h
    obtain ⟨h1, h2⟩ := hc
    refine ⟨oN_lt h0 hsl, ?_⟩
    cases e : nr p b v n with
    | some j =>
      obtain ⟨j1, j2, j3⟩ := nr_some e
      show hid (sl j) = false
      rw [← hbs j j1 j2]; exact j3
    | none =>
      show hid hs = false
      cases e0 : hid hs with
      | false => rfl
      | true =>
        exfalso
        have hz : cH p b n = 0 := by
          rw [e0, b1_t rfl] at h1; omega
        have hno : ∀ k, k < n → p k = false := by
          intro k hk
          cases ep : p k with
          | false => rfl
          | true =>
            have g1 := nr_none e k hk
            rw [ep] at g1
            have g2 : b k = true := by simpa using g1
            have g3 : 0 < cH p b n := by
              have key : ∀ m, k < m → 0 < cH p b m := by
                intro m
                induction m with
                | zero => intro h; omega
                | succ m ih =>
                  intro h
                  rcases Nat.lt_succ_iff_lt_or_eq.mp h with h5 | h5
                  · have := ih h5
                    show 0 < cH p b m + _
                    omega
                  · subst h5
                    rw [cH_yes2 ep g2]; omega
              exact key n hk
            omega
        apply h2
        unfold rSum
        rw [rS_0 hno]
        simp
  · cases h
theorem gRow_fresh {fA fJ : Nat → Int32} {nA nJ : Nat} {v : Nat → Int32} {by_ : Bool} {hid : Nat → Bool} {a i t : Nat} (hA : nA ≤ 14) (hJ : nJ ≤ 10) (ha : a < nA) (hi : i < nJ) (h : gRow fA nA fJ nJ v by_ hid a i = some t) : t < 140 ∧ hid t = false := by
  cases by_ with
  | true => exact pR_fresh (sl := fun k => 10 * k + i) (fun _ _ _ => rfl) (by omega) (fun k hk _ => by show 10 * k + i < 140; omega) h
  | false => exact pR_fresh (sl := fun k => 10 * a + k) (fun _ _ _ => rfl) (by omega) (fun k hk _ => by show 10 * a + k < 140; omega) h
theorem gI_cnt {fA fJ : Nat → Int32} {nA nJ : Nat} {v : Nat → Int32} {by_ : Bool} {S0 S1 : (Nat → Bool) × Bool} {a i n0 n1 : Nat} (hA : nA ≤ 14) (hJ : nJ ≤ 10) (ha : a < nA) (hi : i < nJ) (hS : S1 = gI fA nA fJ nJ v by_ S0 a i) (hn : n1 = cH (fun _ => true) S1.1 140) (h0 : n0 ≤ n1) (hf : S1.2 = decide (n0 < n1)) {o : Option Nat} (ho : o = gRow fA nA fJ nJ v by_ S1.1 a i) {q : Bool} (hq : o.isSome = q) :
    ∃ S2, S2 = gI fA nA fJ nJ v by_ S0 a (i + 1) ∧ S2.1 = uO S1.1 o ∧ n1 + b1 q = cH (fun _ => true) S2.1 140 ∧ n0 ≤ n1 + b1 q ∧ S2.2 = decide (n0 < n1 + b1 q) := by
  refine ⟨_, rfl, ?_, ?_, by omega, ?_⟩
  · show uO (gI fA nA fJ nJ v by_ S0 a i).1 (gRow fA nA fJ nJ v by_ (gI fA nA fJ nJ v by_ S0 a i).1 a i) = _
    rw [← hS, ← ho]
  · show _ = cH (fun _ => true) (uO (gI fA nA fJ nJ v by_ S0 a i).1 (gRow fA nA fJ nJ v by_ (gI fA nA fJ nJ v by_ S0 a i).1 a i)) 140
    rw [← hS, ← ho]
    cases e : o with
    | none =>
      rw [e] at hq
      rw [← hq]
      show n1 + 0 = _
      exact hn
    | some t =>
      rw [e] at hq
      rw [← hq]
      obtain ⟨t1, t2⟩ := gRow_fresh hA hJ ha hi (ho.symm.trans e)
      show n1 + 1 = cH _ (uB S1.1 t true) 140
      rw [cT_up t2 t1, hn]
  · show ((gI fA nA fJ nJ v by_ S0 a i).2 || (gRow fA nA fJ nJ v by_ (gI fA nA fJ nJ v by_ S0 a i).1 a i).isSome) = _
    rw [← hS, ← ho, hq, hf]
    cases q with
    | true =>
      have : n0 < n1 + b1 true := by show n0 < n1 + 1; omega
      simp [this]
    | false =>
      have e : n1 + b1 false = n1 := rfl
      rw [e]; simp
/-- what is hidden at first, as the reference has it -/
def h0M (nA nJ p : Nat) (sc : Nat → Bool) (u : Nat → Int32) (t : Nat) : Bool := decide (t / 10 < nA) && (decide (t % 10 < nJ) && (sc (140 * p + t) && !decide (u t = MIS)))
def hdM (fA : Nat → Int32) (nA : Nat) (fJ : Nat → Int32) (nJ : Nat) (sc : Nat → Bool) (p : Nat) (u : Nat → Int32) (hid : Nat → Bool) : Nat → Bool := itR (stp fA nA fJ nJ u) 141 (hF hid (h0M nA nJ p sc u) 140)
theorem cF_140 {hid h0 : Nat → Bool} : cH (fun _ => true) (hF hid h0 140) 140 = cH (fun _ => true) h0 140 := cH_congr (fun k hk _ => by simp [hF, hk])
theorem cT_zero {b : Nat → Bool} : ∀ {n : Nat}, cH (fun _ => true) b n = 0 → ∀ t, t < n → b t = false
  | n + 1, h, t, ht => by
    have h1 : cH (fun _ => true) b n + (if (true && b n) = true then 1 else 0) = 0 := h
    rcases Nat.lt_succ_iff_lt_or_eq.mp ht with h2 | h2
    · exact cT_zero (by omega) t h2
    · subst h2
      cases e : b t with
      | false => rfl
      | true => rw [e] at h1; simp at h1
/-- one round of the loop: b is what is hidden, n how many, more whether it goes on -/
theorem mW_next {S : (Nat → Bool) → (Nat → Bool) × Bool} {b0 b b2 : Nat → Bool} {r n n2 : Nat} {more : Bool} (hIt : itR S 141 b0 = if more = true then itR S (141 - r) b else b) (hm : more = true) (hr : r ≤ n) (hn : n ≤ 140) (hn2 : n2 ≤ 140) (hS : S b = (b2, decide (n < n2))) (hle : n ≤ n2) :
    itR S 141 b0 = (if decide (n < n2) = true then itR S (141 - (r + 1)) b2 else b2) ∧ decide (n < n2) = !decide (nI n = nI n2) ∧ (decide (n < n2) = true → r + 1 ≤ n2) := by
  refine ⟨?_, ?_, ?_⟩
  · have h := itR_n hIt hm (by omega) (congrArg Prod.snd hS)
    rw [show (S b).1 = b2 from congrArg Prod.fst hS] at h
    exact h
  · rw [← decide_not]
    apply decide_eq_decide.mpr
    rw [nI_eq (by omega) (by omega)]
    omega
  · intro h
    have := of_decide_eq_true h
    omega
/-- the reference's search -/
def mMm (fA : Nat → Int32) (nA : Nat) (fJ : Nat → Int32) (nJ : Nat) (bc bd bf : Nat → Int32) (bn td : Nat) (x y sn : Int32) (p a i : Nat) : Bool :=
  (decide (x = -1) || wkB fA (fun j => decide (nI j = x)) nA (nI a)) && ((decide (y = -1) || wkB fJ (fun j => decide (nI j = y)) nJ (nI i)) && (!decide (fo bc bd bf (nI (140 * p + (10 * a + i))) (nI td) bn = MIS) && !decide (tdO bc bd (nI (140 * p + (10 * a + i))) bn < sn)))
theorem stp_mk {fA fJ : Nat → Int32} {nA nJ : Nat} {v : Nat → Int32} {b : Nat → Bool} {S0 S1 : (Nat → Bool) × Bool} {n n1 n2 : Nat} (hA : S0 = gA fA nA fJ nJ v true (b, false) nA) (hdA : S0.2 = decide (n < n1)) (hB : S1 = gA fA nA fJ nJ v false ((gA fA nA fJ nJ v true (b, false) nA).1, false) nA) (hdB : S1.2 = decide (n1 < n2)) (h1 : n ≤ n1) (h2 : n1 ≤ n2) : stp fA nA fJ nJ v b = (S1.1, decide (n < n2)) := by
  unfold stp
  rw [← hB, ← hA, hdA, hdB]
  have e : (decide (n < n1) || decide (n1 < n2)) = decide (n < n2) := by
    by_cases g1 : n < n1 <;> by_cases g2 : n1 < n2 <;> by_cases g3 : n < n2 <;> simp [g1, g2, g3] <;> omega
  rw [e]
