/-! the full house: its birth -/
def em_1 : hs_E := hX_area hs_e0 (-1)
def em_2 : hs_E := hX_area em_1 (nI 0)
def em_3 : hs_E := hX_area em_2 (nI 1)
def em_4 : hs_E := hX_area em_3 (nI 2)
def em_5 : hs_E := hX_area em_4 (nI 3)
def em_6 : hs_E := hX_area em_5 (nI 4)
def em_7 : hs_E := hX_area em_6 (nI 5)
def em_8 : hs_E := hX_area em_7 (nI 6)
def em_9 : hs_E := hX_area em_8 (nI 7)
def em_10 : hs_E := hX_area em_9 (nI 8)
def em_11 : hs_E := hX_area em_10 (nI 9)
def em_12 : hs_E := hX_area em_11 (nI 10)
def em_13 : hs_E := hX_area em_12 (nI 11)
def em_14 : hs_E := hX_area em_13 (nI 12)
def em_15 : hs_E := hX_item em_14 (-1)
def em_16 : hs_E := hX_item em_15 (nI 0)
def em_17 : hs_E := hX_item em_16 (nI 1)
def em_18 : hs_E := hX_item em_17 (nI 2)
def em_19 : hs_E := hX_item em_18 (nI 3)
def em_20 : hs_E := hX_item em_19 (nI 4)
def em_21 : hs_E := hX_item em_20 (nI 5)
def em_22 : hs_E := hX_item em_21 (nI 6)
def em_23 : hs_E := hX_item em_22 (nI 7)
def em_24 : hs_E := hX_item em_23 (nI 8)
def em_25 : hs_E := hX_agree em_24 (nI 2) (nI 7) true
theorem emq_1 : hT_area hs_e0 (-1) = 0 ∧ hX_area hs_e0 (-1) = em_1 ∧ hV_area hs_e0 (-1) = nI 0 := ⟨(by decide +kernel), rfl, (by decide +kernel)⟩
theorem emq_2 : hT_area em_1 (nI 0) = 0 ∧ hX_area em_1 (nI 0) = em_2 ∧ hV_area em_1 (nI 0) = nI 1 := ⟨(by decide +kernel), rfl, (by decide +kernel)⟩
theorem emq_3 : hT_area em_2 (nI 1) = 0 ∧ hX_area em_2 (nI 1) = em_3 ∧ hV_area em_2 (nI 1) = nI 2 := ⟨(by decide +kernel), rfl, (by decide +kernel)⟩
theorem emq_4 : hT_area em_3 (nI 2) = 0 ∧ hX_area em_3 (nI 2) = em_4 ∧ hV_area em_3 (nI 2) = nI 3 := ⟨(by decide +kernel), rfl, (by decide +kernel)⟩
theorem emq_5 : hT_area em_4 (nI 3) = 0 ∧ hX_area em_4 (nI 3) = em_5 ∧ hV_area em_4 (nI 3) = nI 4 := ⟨(by decide +kernel), rfl, (by decide +kernel)⟩
theorem emq_6 : hT_area em_5 (nI 4) = 0 ∧ hX_area em_5 (nI 4) = em_6 ∧ hV_area em_5 (nI 4) = nI 5 := ⟨(by decide +kernel), rfl, (by decide +kernel)⟩
theorem emq_7 : hT_area em_6 (nI 5) = 0 ∧ hX_area em_6 (nI 5) = em_7 ∧ hV_area em_6 (nI 5) = nI 6 := ⟨(by decide +kernel), rfl, (by decide +kernel)⟩
theorem emq_8 : hT_area em_7 (nI 6) = 0 ∧ hX_area em_7 (nI 6) = em_8 ∧ hV_area em_7 (nI 6) = nI 7 := ⟨(by decide +kernel), rfl, (by decide +kernel)⟩
theorem emq_9 : hT_area em_8 (nI 7) = 0 ∧ hX_area em_8 (nI 7) = em_9 ∧ hV_area em_8 (nI 7) = nI 8 := ⟨(by decide +kernel), rfl, (by decide +kernel)⟩
theorem emq_10 : hT_area em_9 (nI 8) = 0 ∧ hX_area em_9 (nI 8) = em_10 ∧ hV_area em_9 (nI 8) = nI 9 := ⟨(by decide +kernel), rfl, (by decide +kernel)⟩
theorem emq_11 : hT_area em_10 (nI 9) = 0 ∧ hX_area em_10 (nI 9) = em_11 ∧ hV_area em_10 (nI 9) = nI 10 := ⟨(by decide +kernel), rfl, (by decide +kernel)⟩
theorem emq_12 : hT_area em_11 (nI 10) = 0 ∧ hX_area em_11 (nI 10) = em_12 ∧ hV_area em_11 (nI 10) = nI 11 := ⟨(by decide +kernel), rfl, (by decide +kernel)⟩
theorem emq_13 : hT_area em_12 (nI 11) = 0 ∧ hX_area em_12 (nI 11) = em_13 ∧ hV_area em_12 (nI 11) = nI 12 := ⟨(by decide +kernel), rfl, (by decide +kernel)⟩
theorem emq_14 : hT_area em_13 (nI 12) = 0 ∧ hX_area em_13 (nI 12) = em_14 ∧ hV_area em_13 (nI 12) = nI 13 := ⟨(by decide +kernel), rfl, (by decide +kernel)⟩
theorem emq_15 : hT_area em_14 (nI 13) = 3 := by decide +kernel
theorem emq_16 : hT_item em_14 (-1) = 0 ∧ hX_item em_14 (-1) = em_15 ∧ hV_item em_14 (-1) = nI 0 := ⟨(by decide +kernel), rfl, (by decide +kernel)⟩
theorem emq_17 : hT_item em_15 (nI 0) = 0 ∧ hX_item em_15 (nI 0) = em_16 ∧ hV_item em_15 (nI 0) = nI 1 := ⟨(by decide +kernel), rfl, (by decide +kernel)⟩
theorem emq_18 : hT_item em_16 (nI 1) = 0 ∧ hX_item em_16 (nI 1) = em_17 ∧ hV_item em_16 (nI 1) = nI 2 := ⟨(by decide +kernel), rfl, (by decide +kernel)⟩
theorem emq_19 : hT_item em_17 (nI 2) = 0 ∧ hX_item em_17 (nI 2) = em_18 ∧ hV_item em_17 (nI 2) = nI 3 := ⟨(by decide +kernel), rfl, (by decide +kernel)⟩
theorem emq_20 : hT_item em_18 (nI 3) = 0 ∧ hX_item em_18 (nI 3) = em_19 ∧ hV_item em_18 (nI 3) = nI 4 := ⟨(by decide +kernel), rfl, (by decide +kernel)⟩
theorem emq_21 : hT_item em_19 (nI 4) = 0 ∧ hX_item em_19 (nI 4) = em_20 ∧ hV_item em_19 (nI 4) = nI 5 := ⟨(by decide +kernel), rfl, (by decide +kernel)⟩
theorem emq_22 : hT_item em_20 (nI 5) = 0 ∧ hX_item em_20 (nI 5) = em_21 ∧ hV_item em_20 (nI 5) = nI 6 := ⟨(by decide +kernel), rfl, (by decide +kernel)⟩
theorem emq_23 : hT_item em_21 (nI 6) = 0 ∧ hX_item em_21 (nI 6) = em_22 ∧ hV_item em_21 (nI 6) = nI 7 := ⟨(by decide +kernel), rfl, (by decide +kernel)⟩
theorem emq_24 : hT_item em_22 (nI 7) = 0 ∧ hX_item em_22 (nI 7) = em_23 ∧ hV_item em_22 (nI 7) = nI 8 := ⟨(by decide +kernel), rfl, (by decide +kernel)⟩
theorem emq_25 : hT_item em_23 (nI 8) = 0 ∧ hX_item em_23 (nI 8) = em_24 ∧ hV_item em_23 (nI 8) = nI 9 := ⟨(by decide +kernel), rfl, (by decide +kernel)⟩
theorem emq_26 : hT_item em_24 (nI 9) = 3 := by decide +kernel
theorem emq_27 : hT_agree em_24 (nI 2) (nI 7) true = 0 ∧ hX_agree em_24 (nI 2) (nI 7) true = em_25 ∧ hV_agree em_24 (nI 2) (nI 7) true = bI true := ⟨(by decide +kernel), rfl, (by decide +kernel)⟩
theorem emq_28 : hT_mayTell em_25 (nI 2) (nI 6) = 0 ∧ hX_mayTell em_25 (nI 2) (nI 6) = em_25 ∧ hV_mayTell em_25 (nI 2) (nI 6) = bI false := ⟨(by decide +kernel), rfl, (by decide +kernel)⟩
theorem emq_29 : hT_mayTell em_25 (nI 2) (nI 13) = 0 ∧ hX_mayTell em_25 (nI 2) (nI 13) = em_25 ∧ hV_mayTell em_25 (nI 2) (nI 13) = bI true := ⟨(by decide +kernel), rfl, (by decide +kernel)⟩
/-! the house that is full: messages, one after the other -/
def eP (x : hs_E) (k : Nat) : Nat → hs_E
  | 0 => x
  | m + 1 => hX_put (eP x k m) (nI 0) (nI 13) (nI 9) (nI (m % 12)) (1000000 - nI k)
def eN (k : Nat) : Nat := if k = 18 then 12 else 16
def eK : Nat → hs_E
  | 0 => em_25
  | k + 1 => hX_send (eP (eK k) k (eN k)) (nI 2)
section EP
variable {x : hs_E} {k : Nat}
theorem eP_a : ∀ m, hs_nA (eP x k m) = hs_nA x ∧ hs_nJ (eP x k m) = hs_nJ x ∧ hs_td (eP x k m) = hs_td x ∧ hs_snt (eP x k m) = hs_snt x ∧ hs_bn (eP x k m) = hs_bn x ∧ hs_dn (eP x k m) = hs_dn x + m
  | 0 => ⟨rfl, rfl, rfl, rfl, rfl, rfl⟩
  | m + 1 => by
    obtain ⟨h1, h2, h3, h4, h5, h6⟩ := eP_a m
    exact ⟨h1, h2, h3, h4, h5, congrArg (· + 1) h6⟩
theorem eP_f : ∀ m, hs_fA (eP x k m) = hs_fA x ∧ hs_fJ (eP x k m) = hs_fJ x ∧ hs_on (eP x k m) = hs_on x ∧ hs_sc (eP x k m) = hs_sc x ∧ hs_bc (eP x k m) = hs_bc x ∧ hs_bd (eP x k m) = hs_bd x ∧ hs_bf (eP x k m) = hs_bf x
  | 0 => ⟨rfl, rfl, rfl, rfl, rfl, rfl, rfl⟩
  | m + 1 => eP_f m
theorem eP_d (h0 : hs_dn x = 0) : ∀ m j, j < m → hs_dw (eP x k m) j = nI 0 ∧ hs_dc (eP x k m) j = cellI (nI 13) (nI 9) (nI (j % 12))
  | 0, j, h => absurd h (Nat.not_lt_zero j)
  | m + 1, j, h => by
    have hn : hs_dn (eP x k m) = m := by rw [(eP_a m).2.2.2.2.2, h0, Nat.zero_add]
    show upd (hs_dw (eP x k m)) (hs_dn (eP x k m)) (nI 0) j = nI 0 ∧ upd (hs_dc (eP x k m)) (hs_dn (eP x k m)) (cellI (nI 13) (nI 9) (nI (m % 12))) j = cellI (nI 13) (nI 9) (nI (j % 12))
    rw [hn]
    rcases Nat.lt_succ_iff_lt_or_eq.mp h with h1 | h1
    · rw [show upd (hs_dw (eP x k m)) m (nI 0) j = hs_dw (eP x k m) j from pk_un (by omega), show upd (hs_dc (eP x k m)) m (cellI (nI 13) (nI 9) (nI (m % 12))) j = hs_dc (eP x k m) j from pk_un (by omega)]
      exact eP_d h0 m j h1
    · subst h1
      exact ⟨pk_us, pk_us⟩
end EP
/-- a message of which every line is refused -/
theorem mRun_no {cov : Nat → Bool} {dw dv : Nat → Int32} {c9 : Nat → Nat} {td : Int32} {rf bc bd bf : Nat → Int32} {bn : Nat} : ∀ n, (∀ j, j < n → ¬ jR (cov j) (dw j) (dv j) (fo bc bd bf (nI (c9 j)) td bn) = 0) → ∃ rf', mRun cov dw dv c9 td (0, rf, bn, bc, bd, bf) n = (0, rf', bn, bc, bd, bf)
  | 0, _ => ⟨rf, rfl⟩
  | n + 1, h => by
    obtain ⟨rf', h1⟩ := mRun_no n (fun j hj => h j (Nat.lt_succ_of_lt hj))
    refine ⟨upd rf' n (jR (cov n) (dw n) (dv n) (fo bc bd bf (nI (c9 n)) td bn)), ?_⟩
    show mS cov dw dv c9 td n (mRun cov dw dv c9 td (0, rf, bn, bc, bd, bf) n) = _
    rw [h1]
    exact if_neg (h n (Nat.lt_succ_self n))
theorem jR_no {cov : Bool} {w v told : Int32} (hw : w = nI 0) (ht : ¬ told = MIS) : ¬ jR cov w v told = 0 := by
  subst hw
  have h0 : nI 0 = 0 := rfl
  cases cov with
  | false => exact (by decide : ¬ nI 1 = 0)
  | true =>
    unfold jR
    rw [if_neg (by decide), if_pos h0, if_neg ht]
    decide
theorem e0_num : hs_nA (eK 0) = 14 ∧ hs_nJ (eK 0) = 10 ∧ hs_td (eK 0) = 0 ∧ hs_snt (eK 0) = 0 ∧ hs_bn (eK 0) = 0 ∧ hs_dn (eK 0) = 0 := by decide +kernel
theorem e1_told : he_all (fun p => !decide (fo (hs_bc (eK 1)) (hs_bd (eK 1)) (hs_bf (eK 1)) (nI (140 * p + (10 * 13 + 9))) (nI 0) 12 = MIS)) 12 = true := by decide +kernel
theorem e1_bn : hs_bn (eK 1) = 12 := by decide +kernel
theorem e0_send : hV_send (eP (eK 0) 0 (eN 0)) (nI 2) = nI 12 := by decide +kernel
theorem eK_a : ∀ k, hs_nA (eK k) = 14 ∧ hs_nJ (eK k) = 10 ∧ hs_td (eK k) = 0 ∧ hs_dn (eK k) = 0
  | 0 => ⟨e0_num.1, e0_num.2.1, e0_num.2.2.1, e0_num.2.2.2.2.2⟩
  | k + 1 => by
    obtain ⟨h1, h2, h3, h4⟩ := eK_a k
    obtain ⟨g1, g2, g3, g4, g5, g6⟩ := eP_a (x := eK k) (k := k) (eN k)
    exact ⟨g1.trans h1, g2.trans h2, g3.trans h3, rfl⟩
theorem eK_s : ∀ k, k ≤ 18 → hs_snt (eK k) = 16 * k
  | 0, _ => e0_num.2.2.2.1
  | k + 1, hk => by
    obtain ⟨g1, g2, g3, g4, g5, g6⟩ := eP_a (x := eK k) (k := k) (eN k)
    have e : eN k = 16 := if_neg (by omega)
    show hs_snt (eP (eK k) k (eN k)) + hs_dn (eP (eK k) k (eN k)) = _
    rw [g4, g6, eK_s k (by omega), (eK_a k).2.2.2, e]
    omega
theorem eK_f : ∀ k, hs_fA (eK k) = hs_fA (eK 0) ∧ hs_fJ (eK k) = hs_fJ (eK 0) ∧ hs_on (eK k) = hs_on (eK 0) ∧ hs_sc (eK k) = hs_sc (eK 0)
  | 0 => ⟨rfl, rfl, rfl, rfl⟩
  | k + 1 => by
    obtain ⟨h1, h2, h3, h4⟩ := eK_f k
    obtain ⟨g1, g2, g3, g4, -⟩ := eP_f (x := eK k) (k := k) (eN k)
    exact ⟨g1.trans h1, g2.trans h2, g3.trans h3, g4.trans h4⟩
theorem eN_le (k : Nat) : eN k ≤ 16 ∧ 0 < eN k := by
  unfold eN
  split <;> omega
theorem eK_run {k : Nat} (hk : hs_bc (eK k) = hs_bc (eK 1) ∧ hs_bd (eK k) = hs_bd (eK 1) ∧ hs_bf (eK k) = hs_bf (eK 1) ∧ hs_bn (eK k) = 12) : ∃ rf', hs_run (eP (eK k) k (eN k)) (nI 2) = (0, rf', 12, hs_bc (eK 1), hs_bd (eK 1), hs_bf (eK 1)) := by
  obtain ⟨g1, g2, g3, g4, g5, g6⟩ := eP_a (x := eK k) (k := k) (eN k)
  obtain ⟨f1, f2, f3, f4, f5, f6, f7⟩ := eP_f (x := eK k) (k := k) (eN k)
  obtain ⟨a1, a2, a3, a4⟩ := eK_a k
  unfold hs_run
  rw [g5, f5, f6, f7, hk.1, hk.2.1, hk.2.2.1, hk.2.2.2, g6, a4, Nat.zero_add]
  refine mRun_no (eN k) (fun j hj => ?_)
  obtain ⟨d1, d2⟩ := eP_d (k := k) a4 (eN k) j hj
  refine jR_no d1 ?_
  rw [g3, a3]
  show ¬ fo (hs_bc (eK 1)) (hs_bd (eK 1)) (hs_bf (eK 1)) (nI (cl (hs_dc (eP (eK k) k (eN k)) j))) (nI 0) 12 = MIS
  rw [d2, cellI_nI, cl_nI (by omega)]
  have h9 := he_all_iff e1_told (j % 12) (Nat.mod_lt _ (by decide))
  simpa using h9
theorem mk_C {d n : Nat} {r c9 y9 f : Nat → Int32} : mC (d, r, n, c9, y9, f) = c9 := rfl
theorem mk_Y {d n : Nat} {r c9 y9 f : Nat → Int32} : mY (d, r, n, c9, y9, f) = y9 := rfl
theorem mk_F {d n : Nat} {r c9 y9 f : Nat → Int32} : mF (d, r, n, c9, y9, f) = f := rfl
theorem mk_N {d n : Nat} {r c9 y9 f : Nat → Int32} : mN (d, r, n, c9, y9, f) = n := rfl
theorem mk_D {d n : Nat} {r c9 y9 f : Nat → Int32} : mD (d, r, n, c9, y9, f) = d := rfl
theorem eK_b : ∀ k, hs_bc (eK (k + 1)) = hs_bc (eK 1) ∧ hs_bd (eK (k + 1)) = hs_bd (eK 1) ∧ hs_bf (eK (k + 1)) = hs_bf (eK 1) ∧ hs_bn (eK (k + 1)) = 12
  | 0 => ⟨rfl, rfl, rfl, e1_bn⟩
  | k + 1 => by
    obtain ⟨rf', h⟩ := eK_run (eK_b k)
    refine ⟨?_, ?_, ?_, ?_⟩
    · exact (congrArg mC h).trans mk_C
    · exact (congrArg mY h).trans mk_Y
    · exact (congrArg mF h).trans mk_F
    · exact (congrArg mN h).trans mk_N
theorem eK_v (k : Nat) : hV_send (eP (eK (k + 1)) (k + 1) (eN (k + 1))) (nI 2) = nI 0 := by
  obtain ⟨rf', h⟩ := eK_run (eK_b k)
  exact congrArg nI ((congrArg mD h).trans mk_D)
theorem e_vok : he_all (fun k => vOk (1000000 - nI k)) 19 = true := by decide +kernel
theorem e_putT {k m : Nat} (hk : k < 19) : hT_put (eP (eK k) k m) (nI 0) (nI 13) (nI 9) (nI (m % 12)) (1000000 - nI k) = hs_t1 3 (decide (m < 16)) := by
  obtain ⟨g1, g2, g3, g4, g5, g6⟩ := eP_a (x := eK k) (k := k) m
  obtain ⟨a1, a2, a3, a4⟩ := eK_a k
  have hv : vOk (1000000 - nI k) = true := he_all_iff e_vok k hk
  have ho : okC 14 10 (nI 13) (nI 9) (nI (m % 12)) = true := by
    unfold okC
    rw [tHas_nI (n := 12) (Nat.mod_lt m (by decide)) (by decide)]
    decide
  unfold hT_put
  rw [g1, g2, g6, a1, a2, a4, Nat.zero_add, ho, hv]
  cases decide (m < 16) <;> rfl
theorem e_put {k m : Nat} (hk : k < 19) (hm : m < 16) : hT_put (eP (eK k) k m) (nI 0) (nI 13) (nI 9) (nI (m % 12)) (1000000 - nI k) = 0 ∧ hX_put (eP (eK k) k m) (nI 0) (nI 13) (nI 9) (nI (m % 12)) (1000000 - nI k) = eP (eK k) k (m + 1) ∧ hV_put (eP (eK k) k m) (nI 0) (nI 13) (nI 9) (nI (m % 12)) (1000000 - nI k) = nI (m + 1) := by
  refine ⟨by rw [e_putT hk, decide_eq_true hm]; rfl, rfl, ?_⟩
  show nI (hs_dn (eP (eK k) k m) + 1) = _
  rw [(eP_a m).2.2.2.2.2, (eK_a k).2.2.2, Nat.zero_add]
theorem e_putF {k : Nat} (hk : k < 19) : hT_put (eP (eK k) k 16) (nI 0) (nI 13) (nI 9) (nI (16 % 12)) (1000000 - nI k) = 3 := by
  rw [e_putT hk]; rfl
theorem e_sendT {k : Nat} (hk : k < 19) : hT_send (eP (eK k) k (eN k)) (nI 2) = 0 := by
  obtain ⟨g1, g2, g3, g4, g5, g6⟩ := eP_a (x := eK k) (k := k) (eN k)
  have e := eN_le k
  have h9 : 16 * k + eN k ≤ 300 := by
    unfold eN
    split <;> omega
  unfold hT_send
  rw [g4, g6, (eK_a k).2.2.2, eK_s k (by omega), Nat.zero_add, decide_eq_true (And.intro e.2 h9)]
  rfl
theorem e_send0 : hT_send (eP (eK 0) 0 (eN 0)) (nI 2) = 0 ∧ hX_send (eP (eK 0) 0 (eN 0)) (nI 2) = eK 1 ∧ hV_send (eP (eK 0) 0 (eN 0)) (nI 2) = nI 12 := ⟨e_sendT (by decide), rfl, e0_send⟩
theorem e_sendS {k : Nat} (hk : k + 1 < 19) : hT_send (eP (eK (k + 1)) (k + 1) (eN (k + 1))) (nI 2) = 0 ∧ hX_send (eP (eK (k + 1)) (k + 1) (eN (k + 1))) (nI 2) = eK (k + 1 + 1) ∧ hV_send (eP (eK (k + 1)) (k + 1) (eN (k + 1))) (nI 2) = nI 0 := ⟨e_sendT hk, rfl, eK_v k⟩
/-- the house when all has been sent -/
def em_L : hs_E := (12, 300, 0, 14, 10, 0, 12, hs_fA (eK 0), hs_fJ (eK 0), hs_da (eK 19), hs_dw (eK 19), hs_dc (eK 19), hs_dv (eK 19), hs_bc (eK 1), hs_bd (eK 1), hs_bf (eK 1), hs_rf (eK 19), hs_on (eK 0), hs_sc (eK 0))
theorem eK_sn (k : Nat) : hs_snt (eK (k + 1)) = hs_snt (eP (eK k) k (eN k)) + hs_dn (eP (eK k) k (eN k)) := rfl
theorem eK_jd (k : Nat) : hs_jd (eK (k + 1)) = hs_dn (eP (eK k) k (eN k)) := rfl
theorem hs_eta (x : hs_E) : x = (hs_jd x, hs_snt x, hs_td x, hs_nA x, hs_nJ x, hs_dn x, hs_bn x, hs_fA x, hs_fJ x, hs_da x, hs_dw x, hs_dc x, hs_dv x, hs_bc x, hs_bd x, hs_bf x, hs_rf x, hs_on x, hs_sc x) := rfl
theorem eN_18 : eN 18 = 12 := rfl
theorem em_Ls : hs_snt (eK 19) = 300 := by
  obtain ⟨g1, g2, g3, g4, g5, g6⟩ := eP_a (x := eK 18) (k := 18) (eN 18)
  have h : hs_snt (eK 19) = hs_snt (eP (eK 18) 18 (eN 18)) + hs_dn (eP (eK 18) 18 (eN 18)) := eK_sn 18
  rw [h, g4, g6, eK_s 18 (by decide), (eK_a 18).2.2.2, eN_18]
theorem em_Lj : hs_jd (eK 19) = 12 := by
  obtain ⟨g1, g2, g3, g4, g5, g6⟩ := eP_a (x := eK 18) (k := 18) (eN 18)
  have h : hs_jd (eK 19) = hs_dn (eP (eK 18) 18 (eN 18)) := eK_jd 18
  rw [h, g6, (eK_a 18).2.2.2, eN_18]
theorem em_Leq : eK 19 = em_L := by
  obtain ⟨a1, a2, a3, a4⟩ := eK_a 19
  obtain ⟨f1, f2, f3, f4⟩ := eK_f 19
  have b1 : hs_bc (eK 19) = hs_bc (eK 1) := (eK_b 18).1
  have b2 : hs_bd (eK 19) = hs_bd (eK 1) := (eK_b 18).2.1
  have b3 : hs_bf (eK 19) = hs_bf (eK 1) := (eK_b 18).2.2.1
  have b4 : hs_bn (eK 19) = 12 := (eK_b 18).2.2.2
  refine (hs_eta (eK 19)).trans ?_
  rw [em_Lj, em_Ls, a1, a2, a3, a4, f1, f2, f3, f4, b1, b2, b3, b4]
  rfl
