/-! what holds between two records of the script -/
def Inv (nA nJ td snt jd dn bn : Nat) (fA fJ da dc bc bd bf lat ear cnt ld : Nat → Int32) : Prop :=
  (nA ≤ 14 ∧ nJ ≤ 10 ∧ TI fA nA ∧ TI fJ nJ ∧ td ≤ 1000 ∧ snt ≤ 300 ∧ bn ≤ snt ∧ jd ≤ 16 ∧ dn ≤ 16) ∧ bOk nA nJ bn td bc bd ∧ DR nA nJ dn da dc ∧ BK bc bd bf bn td lat ear cnt ld
theorem th1_lt {a : Bool} : th1 a < 4 := by cases a <;> decide
theorem th2_lt {a b : Bool} : th2 a b < 4 := by cases a <;> cases b <;> decide
theorem th3_lt {a b d : Bool} : th3 a b d < 4 := by cases a <;> cases b <;> cases d <;> decide
theorem b_T0 {t : Nat} (h : t < 4) (c : nI t = 0) : t = 0 := (nI_z (by omega)).mp c
theorem th1_0 {a : Bool} (h : th1 a = 0) : a = true := by cases a <;> simp [th1] at h ⊢
theorem th2_0 {a b : Bool} (h : th2 a b = 0) : a = true ∧ b = true := by cases a <;> cases b <;> simp [th2] at h ⊢
theorem th3_0 {a b d : Bool} (h : th3 a b d = 0) : a = true ∧ b = true ∧ d = true := by cases a <;> cases b <;> cases d <;> simp [th3] at h ⊢
theorem gN_n {t n k : Nat} (h : ¬ t = 0) : gN t n k = n := if_neg h
theorem gF_n {α : Type} {t : Nat} {f g : α} (h : ¬ t = 0) : gF t f g = f := if_neg h
theorem b_lc {x y : Int64} (h : x = y) : lg_cmp x y = nI 0 := by
  subst h
  unfold lg_cmp
  rw [if_neg (by rw [gt_iff_lt, Int64.lt_iff_toInt_lt]; omega), if_pos rfl]; rfl
theorem kL_0 {r : Int32} (h : r = 0) : kL r = 0 := if_pos h
theorem kL_1 {r : Int32} (h : ¬ r = 0) : kL r = 1 := if_neg h
theorem TI_up {f : Nat → Int32} {n : Nat} {x : Int32} (h : TI f n) (hn : n ≤ 14) (hx : tPat n x = true) : TI (upd f n x) (n + 1) := by
  intro k hk
  by_cases e : k = n
  · subst e
    rw [show upd f k x k = x from pk_us]
    exact (tPat_iff (by omega)).mp hx
  · rw [show upd f n x k = f k from pk_un e]
    exact h k (by omega)
section INV
variable {nA nJ td snt jd dn bn : Nat} {fA fJ da dc bc bd bf lat ear cnt ld : Nat → Int32}
theorem DR_mono {nA' nJ' : Nat} (h : DR nA nJ dn da dc) (hA : nA ≤ nA') (hJ : nJ ≤ nJ') : DR nA' nJ' dn da dc := by
  intro k hk
  obtain ⟨a, i, p, h1, h2, h3, h4, h5⟩ := h k hk
  exact ⟨a, i, p, by omega, by omega, h3, h4, h5⟩
theorem inv_area {x : Int32} {T : Nat} (hT : T = th2 (tPat nA x) (decide (nA < 14))) (h : Inv nA nJ td snt jd dn bn fA fJ da dc bc bd bf lat ear cnt ld) : Inv (gN T nA (nA + 1)) nJ td snt jd dn bn (gF T fA (upd fA nA x)) fJ da dc bc bd bf lat ear cnt ld := by
  by_cases h0 : T = 0
  · obtain ⟨⟨h1, h2, h3, h4, h5, h6, h7, h8, h9⟩, k1, k2, k3⟩ := h
    rw [h0, gN_0, gF_0]
    obtain ⟨q1, q2⟩ := th2_0 (hT.symm.trans h0)
    have q3 := of_decide_eq_true q2
    exact ⟨⟨by omega, h2, TI_up h3 h1 q1, h4, h5, h6, h7, h8, h9⟩, bOk_mono k1 (by omega) (Nat.le_refl _) (Nat.le_refl _), DR_mono k2 (by omega) (Nat.le_refl _), k3⟩
  · rw [gN_n h0, gF_n h0]; exact h
theorem inv_item {x : Int32} {T : Nat} (hT : T = th2 (tPat nJ x) (decide (nJ < 10))) (h : Inv nA nJ td snt jd dn bn fA fJ da dc bc bd bf lat ear cnt ld) : Inv nA (gN T nJ (nJ + 1)) td snt jd dn bn fA (gF T fJ (upd fJ nJ x)) da dc bc bd bf lat ear cnt ld := by
  by_cases h0 : T = 0
  · obtain ⟨⟨h1, h2, h3, h4, h5, h6, h7, h8, h9⟩, k1, k2, k3⟩ := h
    rw [h0, gN_0, gF_0]
    obtain ⟨q1, q2⟩ := th2_0 (hT.symm.trans h0)
    have q3 := of_decide_eq_true q2
    exact ⟨⟨h1, by omega, h3, TI_up h4 (by omega) q1, h5, h6, h7, h8, h9⟩, bOk_mono k1 (Nat.le_refl _) (by omega) (Nat.le_refl _), DR_mono k2 (Nat.le_refl _) (by omega), k3⟩
  · rw [gN_n h0, gF_n h0]; exact h
theorem inv_put {x y z : Int32} {b : Bool} {T : Nat} (hT : T = th3 (okC nA nJ x y z) b (decide (dn < 16))) (h : Inv nA nJ td snt jd dn bn fA fJ da dc bc bd bf lat ear cnt ld) : Inv nA nJ td snt jd (gN T dn (dn + 1)) bn fA fJ (gF T da (upd da dn x)) (gF T dc (upd dc dn (cellI x y z))) bc bd bf lat ear cnt ld := by
  by_cases h0 : T = 0
  · obtain ⟨⟨h1, h2, h3, h4, h5, h6, h7, h8, h9⟩, k1, k2, k3⟩ := h
    rw [h0, gN_0, gF_0, gF_0]
    obtain ⟨q1, -, q2⟩ := th3_0 (hT.symm.trans h0)
    have q3 := of_decide_eq_true q2
    refine ⟨⟨h1, h2, h3, h4, h5, h6, h7, h8, by omega⟩, k1, fun k hk => ?_, k3⟩
    obtain ⟨a, ha, i, hi, p, hp, e1, e2, e3⟩ := okC_yes (by omega) (by omega) q1
    by_cases e : k = dn
    · subst e
      exact ⟨a, i, p, ha, hi, hp, by rw [show upd da k x k = x from pk_us, e1], by rw [show upd dc k (cellI x y z) k = cellI x y z from pk_us, e1, e2, e3, cellI_nI]⟩
    · rw [show upd da dn x k = da k from pk_un e, show upd dc dn (cellI x y z) k = dc k from pk_un e]
      exact k2 k (by omega)
  · rw [gN_n h0, gF_n h0, gF_n h0]; exact h
theorem inv_wipe (h : Inv nA nJ td snt jd dn bn fA fJ da dc bc bd bf lat ear cnt ld) : Inv nA nJ td snt jd 0 bn fA fJ da dc bc bd bf lat ear cnt ld := by
  obtain ⟨⟨h1, h2, h3, h4, h5, h6, h7, h8, h9⟩, k1, k2, k3⟩ := h
  exact ⟨⟨h1, h2, h3, h4, h5, h6, h7, h8, by omega⟩, k1, fun k hk => absurd hk (Nat.not_lt_zero k), k3⟩
theorem inv_pass {x : Int32} {T : Nat} (hT : T = th2 (pOk x) (decide (td + cl x ≤ 1000))) (h : Inv nA nJ td snt jd dn bn fA fJ da dc bc bd bf lat ear cnt ld) : Inv nA nJ (gN T td (td + cl x)) snt jd dn bn fA fJ da dc bc bd bf lat ear cnt ld := by
  by_cases h0 : T = 0
  · obtain ⟨⟨h1, h2, h3, h4, h5, h6, h7, h8, h9⟩, k1, k2, k3⟩ := h
    rw [h0, gN_0]
    obtain ⟨-, q2⟩ := th2_0 (hT.symm.trans h0)
    have q3 := of_decide_eq_true q2
    exact ⟨⟨h1, h2, h3, h4, q3, h6, h7, h8, h9⟩, bOk_mono k1 (Nat.le_refl _) (Nat.le_refl _) (by omega), k2, BK_td k1 k3 (by omega) q3⟩
  · rw [gN_n h0]; exact h
/-- a message sent -/
theorem inv_send {on : Nat → Bool} {rf dw dv : Nat → Int32} {x : Int32} {T : Nat} {z : zT} {z' : mT} (hT : T = th2 (tHas 4 x) (decide (0 < dn ∧ snt + dn ≤ 300))) (h : Inv nA nJ td snt jd dn bn fA fJ da dc bc bd bf lat ear cnt ld)
    (hz : z = jRun (fun k => covR on fA nA (cl x) (cl (da k))) dw dv (fun k => cl (dc k)) (nI td) (0, rf, bn, bc, bd, bf, lat, ear, cnt, ld) dn) (hz' : z' = mRun (fun k => wkB fA (fun j => on (14 * cl x + j)) nA (nI (cl (dc k) % 140 / 10))) dw dv (fun k => cl (dc k)) (nI td) (0, rf, bn, bc, bd, bf) dn) :
    (T = 0 → zD z = mD z') ∧ gF T rf (zR z) = gF T rf (mR z') ∧ gN T bn (zN z) = gN T bn (mN z') ∧ gF T bc (zC z) = gF T bc (mC z') ∧ gF T bd (zY z) = gF T bd (mY z') ∧ gF T bf (zF z) = gF T bf (mF z') ∧
      Inv nA nJ td (gN T snt (snt + dn)) (gN T jd dn) (gN T dn 0) (gN T bn (mN z')) fA fJ da dc (gF T bc (mC z')) (gF T bd (mY z')) (gF T bf (mF z')) (gF T lat (zL z)) (gF T ear (zE z)) (gF T cnt (zM z)) (gF T ld (zS z)) := by
  by_cases h0 : T = 0
  · obtain ⟨⟨h1, h2, h3, h4, h5, h6, h7, h8, h9⟩, k1, k2, k3⟩ := h
    obtain ⟨-, q2⟩ := th2_0 (hT.symm.trans h0)
    have q3 := of_decide_eq_true q2
    obtain ⟨g1, g2, g3, g4, g5, g6, g7, g8, g9⟩ := run_eq (rf := rf) (on := on) (sd := cl x) (dw := dw) (dv := dv) (bf := bf) h1 h2 h3 h5 k2 k1 k3 (by omega) dn (Nat.le_refl dn) z z' hz hz'
    rw [h0]
    refine ⟨fun _ => g1, g2, g3, g4, g5, g6, ⟨h1, h2, h3, h4, h5, q3.2, ?_, h9, Nat.zero_le _⟩, ?_, fun k hk => absurd hk (Nat.not_lt_zero k), ?_⟩
    · show mN z' ≤ snt + dn
      omega
    · show bOk nA nJ (mN z') td (mC z') (mY z')
      rw [← g3, ← g4, ← g5]; exact g7
    · show BK (mC z') (mY z') (mF z') (mN z') td (zL z) (zE z) (zM z) (zS z)
      rw [← g3, ← g4, ← g5, ← g6]; exact g8
  · simp only [gN_n h0, gF_n h0]
    exact ⟨fun h9 => absurd h9 h0, trivial, trivial, trivial, trivial, trivial, h⟩
/-! answers -/
theorem cN_lt {x y z : Int32} (h : Inv nA nJ td snt jd dn bn fA fJ da dc bc bd bf lat ear cnt ld) (ho : okC nA nJ x y z = true) : cl x < nA ∧ cl y < nJ ∧ cl z < 12 ∧ cN x y z < 1680 := by
  obtain ⟨h1, h2, -⟩ := h.1
  obtain ⟨a, ha, i, hi, p, hp, e1, e2, e3⟩ := okC_yes (by omega) (by omega) ho
  have ea : cl x = a := by rw [e1]; exact cl_nI (by omega)
  have ei : cl y = i := by rw [e2]; exact cl_nI (by omega)
  have ep : cl z = p := by rw [e3]; exact cl_nI (by omega)
  refine ⟨by omega, by omega, by omega, ?_⟩
  unfold cN
  omega
theorem an_first {x y z : Int32} (h : Inv nA nJ td snt jd dn bn fA fJ da dc bc bd bf lat ear cnt ld) (ho : okC nA nJ x y z = true) : ear (cN x y z) = fst9 bc bf (nI (cN x y z)) bn := (h.2.2.2 _ (cN_lt h ho).2.2.2).2.1
theorem an_rev {x y z : Int32} (h : Inv nA nJ td snt jd dn bn fA fJ da dc bc bd bf lat ear cnt ld) (ho : okC nA nJ x y z = true) : cnt (cN x y z) = nI (cnt9 bc (nI (cN x y z)) bn) := (h.2.2.2 _ (cN_lt h ho).2.2.2).2.2.1
theorem an_lat {x y z : Int32} (h : Inv nA nJ td snt jd dn bn fA fJ da dc bc bd bf lat ear cnt ld) (ho : okC nA nJ x y z = true) : lat (cN x y z) = fo bc bd bf (nI (cN x y z)) (nI td) bn := (h.2.2.2 _ (cN_lt h ho).2.2.2).1
theorem an_ev {F : Nat → Nat → Int32} {u u' : Nat → Int32} (h : Inv nA nJ td snt jd dn bn fA fJ da dc bc bd bf lat ear cnt ld) (h1 : Fx F fA nA fJ nJ u) (h2 : Fx F fA nA fJ nJ u') : EqV nA nJ u u' := by
  obtain ⟨g1, g2, g3, g4, -⟩ := h.1
  exact Fx_one g3 g4 (by omega) (by omega) h1 h2
theorem an_sA {u u' : Nat → Int32} (h : Inv nA nJ td snt jd dn bn fA fJ da dc bc bd bf lat ear cnt ld) (hv : EqV nA nJ u u') {a i : Nat} (ha : a < nA) (hi : i < nJ) : sA fA nA u a i = sA fA nA u' a i := by
  obtain ⟨g1, g2, g3, g4, -⟩ := h.1
  exact sA_congr g3 (by omega) ha (fun k _ hk => hv k i hk hi)
theorem an_sJ {u u' : Nat → Int32} (h : Inv nA nJ td snt jd dn bn fA fJ da dc bc bd bf lat ear cnt ld) (hv : EqV nA nJ u u') {a i : Nat} (ha : a < nA) (hi : i < nJ) : sJ fJ nJ u a i = sJ fJ nJ u' a i := by
  obtain ⟨g1, g2, g3, g4, -⟩ := h.1
  exact sJ_congr g4 (by omega) hi (fun k _ hk => hv a k ha hk)
theorem an_fault {x y z r r' : Int32} {F : Nat → Nat → Int32} {u u' : Nat → Int32} (h : Inv nA nJ td snt jd dn bn fA fJ da dc bc bd bf lat ear cnt ld)
    (h1 : okC nA nJ x y z = true ∧ ((lat (cN x y z) = MIS ∧ r = nI 0) ∨ (¬ lat (cN x y z) = MIS ∧ (Fx F fA nA fJ nJ u ∧ vOut nA nJ u) ∧ r = bI (iOS (sA fA nA u (cl x) (cl y)) (lat (cN x y z)) || iOS (sJ fJ nJ u (cl x) (cl y)) (lat (cN x y z))))))
    (h2 : Fx F fA nA fJ nJ u' ∧ r' = bI (!decide (fo bc bd bf (nI (cN x y z)) (nI td) bn = MIS) && (iOS (sA fA nA u' (cl x) (cl y)) (fo bc bd bf (nI (cN x y z)) (nI td) bn) || iOS (sJ fJ nJ u' (cl x) (cl y)) (fo bc bd bf (nI (cN x y z)) (nI td) bn)))) : r = r' := by
  obtain ⟨ho, h1⟩ := h1
  obtain ⟨l1, l2, l3, l4⟩ := cN_lt h ho
  rw [h2.2, ← an_lat h ho]
  rcases h1 with ⟨e1, e2⟩ | ⟨e1, e2, e3⟩
  · rw [e2, e1]; simp; rfl
  · have hv := an_ev h e2.1 h2.1
    rw [e3, an_sA h hv l1 l2, an_sJ h hv l1 l2]; simp [e1]
theorem an_shown {x y z r r' : Int32} {F : Nat → Nat → Int32} {u u' : Nat → Int32} {sc hid hid' : Nat → Bool} (h : Inv nA nJ td snt jd dn bn fA fJ da dc bc bd bf lat ear cnt ld)
    (h1 : okC nA nJ x y z = true ∧ (Fx F fA nA fJ nJ u ∧ vOut nA nJ u) ∧ r = if hdn fA nA fJ nJ sc (cl z) u hid (10 * cl x + cl y) = true then HID else u (10 * cl x + cl y))
    (h2 : Fx F fA nA fJ nJ u' ∧ r' = if hdM fA nA fJ nJ sc (cl z) u' hid' (10 * cl x + cl y) = true then HID else u' (10 * cl x + cl y)) : r = r' := by
  obtain ⟨ho, h3, h4⟩ := h1
  obtain ⟨l1, l2, l3, l4⟩ := cN_lt h ho
  have hv := an_ev h h3.1 h2.1
  have hq := hd_eq (fA := fA) (fJ := fJ) (sc := sc) (p := cl z) (hid := hid) (hid' := hid') h.1.1 h.1.2.1 hv h3.2
  have g1 := h.1.1
  have g2 := h.1.2.1
  rw [h4, h2.2, hq _ (by omega), hv _ _ l1 l2]
theorem an_hid {p : Nat} {r r' : Int32} {F : Nat → Nat → Int32} {u u' : Nat → Int32} {sc hid hid' : Nat → Bool} (h : Inv nA nJ td snt jd dn bn fA fJ da dc bc bd bf lat ear cnt ld)
    (h1 : (Fx F fA nA fJ nJ u ∧ vOut nA nJ u) ∧ r = nI (cH (fun _ => true) (hdn fA nA fJ nJ sc p u hid) 140)) (h2 : Fx F fA nA fJ nJ u' ∧ r' = nI (cH (fun _ => true) (hdM fA nA fJ nJ sc p u' hid') 140)) : r = r' := by
  have hv := an_ev h h1.1.1 h2.1
  rw [h1.2, h2.2, hd_cnt (hd_eq (hid' := hid') h.1.1 h.1.2.1 hv h1.1.2)]
theorem an_value {x y z d r r' : Int32} {F : Nat → Nat → Int32} {u u' : Nat → Int32} (h : Inv nA nJ td snt jd dn bn fA fJ da dc bc bd bf lat ear cnt ld)
    (h1 : okC nA nJ x y z = true ∧ dOk td d = true ∧ r = u (10 * cl x + cl y) ∧ Fx F fA nA fJ nJ u ∧ vOut nA nJ u) (h2 : r' = u' (10 * cl x + cl y) ∧ Fx F fA nA fJ nJ u') : r = r' := by
  obtain ⟨ho, -, h3, h4, -⟩ := h1
  obtain ⟨l1, l2, l3, l4⟩ := cN_lt h ho
  rw [h3, h2.1, an_ev h h4 h2.2 _ _ l1 l2]
theorem an_may {on : Nat → Bool} {x y : Int32} (h : Inv nA nJ td snt jd dn bn fA fJ da dc bc bd bf lat ear cnt ld) (ho : (tHas 4 x && tHas nA y) = true) : covR on fA nA (cl x) (cl y) = wkB fA (fun k => on (14 * cl x + k)) nA y := by
  obtain ⟨g1, g2, g3, -⟩ := h.1
  obtain ⟨a, ha, rfl⟩ := (tHas_iff (by omega)).mp (Bool.and_eq_true_iff.mp ho).2
  rw [cl_nI (k := a) (by omega)]
  exact cov_eq g3 g1 ha
theorem an_find {x y sn : Int32} {f0 t0 pl : Nat} (h : Inv nA nJ td snt jd dn bn fA fJ da dc bc bd bf lat ear cnt ld) (ht : t0 < 12) : srT (mM fA nA fJ nJ lat ld x y sn) nA nJ f0 t0 pl = srT (mMm fA nA fJ nJ bc bd bf bn td x y sn) nA nJ f0 t0 pl := by
  obtain ⟨g1, g2, g3, g4, -⟩ := h.1
  refine srT_cg ht (fun p a i hp ha hi => ?_)
  obtain ⟨b1', b2', b3', b4'⟩ := h.2.2.2 (140 * p + (10 * a + i)) (by omega)
  unfold mM mMm
  rw [tW_wk g3 g1 (Or.inr ⟨a, ha, ha, rfl⟩), tW_wk g4 (by omega) (Or.inr ⟨i, hi, hi, rfl⟩), b1']
  by_cases e : fo bc bd bf (nI (140 * p + (10 * a + i))) (nI td) bn = MIS
  · simp [e]
  · rw [b4' (fo_told e)]
    generalize (decide (x = -1) || wkB fA (fun j => decide (nI j = x)) nA (nI a)) = A1
    generalize (decide (y = -1) || wkB fJ (fun j => decide (nI j = y)) nJ (nI i)) = A2
    generalize (!decide (fo bc bd bf (nI (140 * p + (10 * a + i))) (nI td) bn = MIS)) = A3
    generalize (!decide (tdO bc bd (nI (140 * p + (10 * a + i))) bn < sn)) = A4
    cases A1 <;> cases A2 <;> cases A3 <;> cases A4 <;> rfl
end INV
theorem b_t12 {f t : Int32} {b d : Bool} (h : (tHas 12 f && tHas 12 t && b && d) = true) : cl t < 12 := by
  simp only [Bool.and_eq_true] at h
  obtain ⟨j, hj, rfl⟩ := (tHas_iff (by decide)).mp h.1.1.2
  rw [cl_nI (by omega)]; exact hj
