/-! the drawn calls: what each piece of the law's loop needs -/
def hs_mkT (x : hs_E) (t : Nat) : hs_E := (hs_jd x, hs_snt x, t, hs_nA x, hs_nJ x, hs_dn x, hs_bn x, hs_fA x, hs_fJ x, hs_da x, hs_dw x, hs_dc x, hs_dv x, hs_bc x, hs_bd x, hs_bf x, hs_rf x, hs_on x, hs_sc x)
theorem la_pat {y n : Nat} (hn : n ≤ 14) : tPat n (nI (y % (n + 1)) - nI 1) = true := by
  have hlt : y % (n + 1) < n + 1 := Nat.mod_lt _ (Nat.succ_pos n)
  generalize y % (n + 1) = q at hlt
  cases q with
  | zero => exact (show tPat n (nI 0 - nI 1) = true from (tPat_iff (by omega)).mpr (Or.inl (by decide)))
  | succ q => exact (tPat_iff (by omega)).mpr (Or.inr ⟨q, by omega, nI_pred q⟩)
theorem la_area {x : hs_E} {p : Int32} (hp : tPat (hs_nA x) p = true) (h : hs_nA x < 14) : hT_area x p = 0 := by unfold hT_area; rw [hp, decide_eq_true h]; rfl
theorem la_areaF {x : hs_E} {p : Int32} (hp : tPat (hs_nA x) p = true) (h : 14 ≤ hs_nA x) : hT_area x p = 3 := by unfold hT_area; rw [hp, decide_eq_false (Nat.not_lt.mpr h)]; rfl
theorem la_item {x : hs_E} {p : Int32} (hp : tPat (hs_nJ x) p = true) (h : hs_nJ x < 10) : hT_item x p = 0 := by unfold hT_item; rw [hp, decide_eq_true h]; rfl
theorem la_itemF {x : hs_E} {p : Int32} (hp : tPat (hs_nJ x) p = true) (h : 10 ≤ hs_nJ x) : hT_item x p = 3 := by unfold hT_item; rw [hp, decide_eq_false (Nat.not_lt.mpr h)]; rfl
theorem la_has {n q : Nat} (h : q < n) (hn : n ≤ 2000) : tHas n (nI q) = true := tHas_nI h (by omega)
theorem la_ag {x : hs_E} {s q : Nat} {b : Bool} (hs : s < 4) (h : q < hs_nA x) (hn : hs_nA x ≤ 2000) : hT_agree x (nI s) (nI q) b = 0 := by unfold hT_agree; rw [la_has hs (by decide), la_has h hn]; rfl
theorem la_mt {x : hs_E} {s q : Nat} (hs : s < 4) (h : q < hs_nA x) (hn : hs_nA x ≤ 2000) : hT_mayTell x (nI s) (nI q) = 0 := by unfold hT_mayTell; rw [la_has hs (by decide), la_has h hn]; rfl
theorem la_ok {nA nJ a i p : Nat} (ha : a < nA) (hi : i < nJ) (hp : p < 12) (hA : nA ≤ 14) (hJ : nJ ≤ 10) : okC nA nJ (nI a) (nI i) (nI p) = true := by
  unfold okC
  rw [la_has ha (by omega), la_has hi (by omega), la_has hp (by decide)]; rfl
theorem la_w {n : Nat} (h : n ≤ 2) : wOk (nI n) = true := by
  have h1 : nI n ≤ nI 2 := (nI_leI (by omega) (by decide)).mpr h
  have h2 : ¬ nI n < 0 := nI_pos (by omega)
  simp [wOk, h1, h2]
theorem la_may {x : hs_E} {s q : Nat} (hn : hs_nA x ≤ 14) (hs : s < 4) (h : q < hs_nA x) : hV_mayTell (hX_agree x (nI s) (nI q) true) (nI s) (nI q) = bI true := by
  have h1 : wkB (hs_fA x) (fun k => uB (hs_on x) (14 * cl (nI s) + cl (nI q)) true (14 * cl (nI s) + k)) (hs_nA x) (nI q) = true := by
    obtain ⟨m, hm⟩ : ∃ m, hs_nA x = m + 1 := ⟨hs_nA x - 1, by omega⟩
    rw [hm, wkB_s (by omega), cl_nI (k := q) (by omega)]
    have e : uB (hs_on x) (14 * cl (nI s) + q) true (14 * cl (nI s) + q) = true := uB_same
    rw [e]; rfl
  exact congrArg bI h1
theorem la_pass {x : hs_E} {d : Nat} (h1 : 1 ≤ d) (h2 : d ≤ 9) (h3 : hs_td x < 900) : hT_pass x (nI d) = 0 ∧ hX_pass x (nI d) = hs_mkT x (hs_td x + d) ∧ hV_pass x (nI d) = nI (hs_td x + d) := by
  have e : cl (nI d) = d := cl_nI (by omega)
  have g1 : ¬ nI d < nI 1 := fun h9 => by have := (nI_ltI (by omega) (by decide)).mp h9; omega
  have g2 : nI d ≤ nI 100 := (nI_leI (by omega) (by decide)).mpr (by omega)
  have hp : pOk (nI d) = true := by simp [pOk, g1, g2]
  refine ⟨?_, ?_, ?_⟩
  · unfold hT_pass
    rw [hp, e, decide_eq_true (show hs_td x + d ≤ 1000 by omega)]; rfl
  · show hs_mkT x (hs_td x + cl (nI d)) = _
    rw [e]
  · show nI (hs_td x + cl (nI d)) = _
    rw [e]
theorem la_dOk {n : Nat} (h : n ≤ 1000) : dOk n (nI n) = true := by
  have h2 : ¬ nI n < 0 := nI_pos (by omega)
  have h3 : nI n ≤ nI n := (nI_leI (by omega) (by omega)).mpr (Nat.le_refl n)
  simp [dOk, h2, h3]
/-- while a message is written -/
def hs_P (x u : hs_E) (j : Nat) : Prop := (hs_nA u = hs_nA x ∧ hs_nJ u = hs_nJ x ∧ hs_td u = hs_td x) ∧ hs_L u ∧ hs_dn u = j ∧ ∀ t, t < j → hb_in (hs_dv u t) 20
theorem la_put {x u : hs_E} {j w a i p v : Nat} (hP : hs_P x u j) (hj : j < 16) (hw : w ≤ 2) (ha : a < hs_nA x) (hi : i < hs_nJ x) (hp : p < 12) (hv : v < 41) (hA : hs_nA x ≤ 14) (hJ : hs_nJ x ≤ 10) : hT_put u (nI w) (nI a) (nI i) (nI p) (nI v - nI 20) = 0 ∧ hX_put u (nI w) (nI a) (nI i) (nI p) (nI v - nI 20) = hX_put u (nI w) (nI a) (nI i) (nI p) (nI v - nI 20) ∧ hV_put u (nI w) (nI a) (nI i) (nI p) (nI v - nI 20) = nI (j + 1) := by
  obtain ⟨⟨h1, h2, h3⟩, h4, h5, h6⟩ := hP
  refine ⟨?_, rfl, ?_⟩
  · unfold hT_put
    rw [h1, h2, h5, la_ok ha hi hp hA hJ, la_w hw, vOk_20 hv, decide_eq_true hj]; rfl
  · show nI (hs_dn u + 1) = _
    rw [h5]
theorem la_P {x u : hs_E} {j v : Nat} {w a i p : Int32} (hP : hs_P x u j) (hv : v < 41) : hs_P x (hX_put u w a i p (nI v - nI 20)) (j + 1) := by
  obtain ⟨h1, h4, h5, h6⟩ := hP
  refine ⟨h1, h4, congrArg (· + 1) h5, fun t ht => ?_⟩
  show hb_in (upd (hs_dv u) (hs_dn u) (nI v - nI 20) t) 20
  rw [h5]
  by_cases e : t = j
  · subst e
    rw [show upd (hs_dv u) t (nI v - nI 20) t = nI v - nI 20 from pk_us]
    exact hb_nI hv
  · rw [show upd (hs_dv u) j (nI v - nI 20) t = hs_dv u t from pk_un e]
    exact h6 t (by omega)
def hs_cnt (u : hs_E) (j : Nat) : Nat := cH (fun _ => true) (fun t => decide (hs_rf u t = 0)) j
theorem hs_cnt_1 {u : hs_E} {j : Nat} (h : hs_rf u j = 0) : hs_cnt u j + 1 = hs_cnt u (j + 1) := (cH_yes2 (p := fun _ => true) (b := fun t => decide (hs_rf u t = 0)) rfl (decide_eq_true h)).symm
theorem hs_cnt_0 {u : hs_E} {j : Nat} (h : ¬ hs_rf u j = 0) : hs_cnt u j + 0 = hs_cnt u (j + 1) := (cH_noB (p := fun _ => true) (b := fun t => decide (hs_rf u t = 0)) rfl (decide_eq_false h)).symm
theorem hs_cnt_le {u : hs_E} {j : Nat} : hs_cnt u j ≤ j := cH_le j
theorem la_send {x u : hs_E} {j s : Nat} (hP : hs_P x u j) (h0 : 0 < j) (hs : s < 4) (h : hs_snt u + j ≤ 300) : hT_send u (nI s) = 0 ∧ hX_send u (nI s) = hX_send u (nI s) ∧ hV_send u (nI s) = nI (hs_cnt (hX_send u (nI s)) j) := by
  obtain ⟨h1, h4, h5, h6⟩ := hP
  refine ⟨?_, rfl, ?_⟩
  · unfold hT_send
    rw [la_has hs (by decide), h5, decide_eq_true (And.intro h0 h)]; rfl
  · unfold hV_send
    refine congrArg nI ?_
    show mD (hs_run u (nI s)) = cH (fun _ => true) (fun t => decide (mR (hs_run u (nI s)) t = 0)) j
    unfold hs_run
    rw [h5]
    exact mRun_D j
theorem la_sendF {x u : hs_E} {j s : Nat} (hP : hs_P x u j) (hs : s < 4) (h : ¬ hs_snt u + j ≤ 300) : hT_send u (nI s) = 3 := by
  obtain ⟨h1, h4, h5, h6⟩ := hP
  unfold hT_send
  rw [la_has hs (by decide), h5, decide_eq_false (fun h9 => h h9.2)]; rfl
theorem la_sendL {x u : hs_E} {j : Nat} {s : Int32} (hP : hs_P x u j) : hs_L (hX_send u s) := by
  obtain ⟨h1, h4, h5, h6⟩ := hP
  show ∀ t, t < mN (hs_run u s) → mF (hs_run u s) t = MIS ∨ hb_in (mF (hs_run u s) t) 20
  unfold hs_run
  refine mRun_L h4 _ (fun t ht => h6 t ?_)
  rw [h5] at ht; exact ht
theorem la_ref {u : hs_E} {j l : Nat} (hj : hs_jd u = l) (h : j < l) (hl : l ≤ 16) : hT_refusal u (nI j) = 0 ∧ hX_refusal u (nI j) = u ∧ hV_refusal u (nI j) = hs_rf u j := by
  refine ⟨?_, rfl, ?_⟩
  · unfold hT_refusal
    rw [hj, la_has h (by omega)]; rfl
  · show hs_rf u (cl (nI j)) = _
    rw [cl_nI (by omega)]
theorem la_cl5 : cl (nI 5) = 5 := by decide
theorem la_cell {x : hs_E} {A j : Nat} (hA : A < hs_nA x) (hj : j < hs_nJ x) (hA2 : hs_nA x ≤ 14) (hJ2 : hs_nJ x ≤ 10) : hT_shown x (nI A) (nI j) (nI 5) = 0 := by unfold hT_shown; rw [la_ok hA hj (by decide) hA2 hJ2]; rfl
theorem la_sh1 {x : hs_E} {A j : Nat} (hA : A < 14) (hj : j < 10) (h : hs_H x 5 (10 * A + j) = true) : hV_shown x (nI A) (nI j) (nI 5) = HID := by
  unfold hV_shown
  rw [la_cl5, cl_nI (k := A) (by omega), cl_nI (k := j) (by omega), h]; rfl
theorem la_sh0 {x : hs_E} {A j : Nat} (hA : A < 14) (hj : j < 10) (h : hs_H x 5 (10 * A + j) = false) : hV_shown x (nI A) (nI j) (nI 5) = hs_V x 5 (nI (hs_td x)) (10 * A + j) := by
  unfold hV_shown
  rw [la_cl5, cl_nI (k := A) (by omega), cl_nI (k := j) (by omega), h]; rfl
theorem la_val {x : hs_E} {A j : Nat} (hA : A < hs_nA x) (hj : j < hs_nJ x) (hA2 : hs_nA x ≤ 14) (hJ2 : hs_nJ x ≤ 10) (ht : hs_td x ≤ 1000) : hT_value x (nI A) (nI j) (nI 5) (nI (hs_td x)) = 0 ∧ hX_value x (nI A) (nI j) (nI 5) (nI (hs_td x)) = x ∧ hV_value x (nI A) (nI j) (nI 5) (nI (hs_td x)) = hs_V x 5 (nI (hs_td x)) (10 * A + j) := by
  refine ⟨?_, rfl, ?_⟩
  · unfold hT_value; rw [la_ok hA hj (by decide) hA2 hJ2, la_dOk ht]; rfl
  · unfold hV_value
    rw [la_cl5, cl_nI (k := A) (by omega), cl_nI (k := j) (by omega)]
theorem la_hid {x : hs_E} {h : Nat} (hh : h = hs_C x 5) : hT_hidden x (nI 5) = 0 ∧ hX_hidden x (nI 5) = x ∧ hV_hidden x (nI 5) = nI h := by
  subst hh
  refine ⟨(show hs_t1 1 (tHas 12 (nI 5)) = 0 from by decide), rfl, ?_⟩
  unfold hV_hidden
  rw [la_cl5]
theorem la_find {x : hs_E} {i : hs_I} (hi : hs_Inv x i) {q : Int32} {f : Int32} (hf : hV_find x (-1) (-1) (nI 5) (nI 6) (nI 0) q = f) : f = -1 ∨ ∃ p A j, p < 12 ∧ A < hs_nA x ∧ j < hs_nJ x ∧ f = nI (1000 * p + 20 * A + j) ∧ ¬ fo (hs_bc x) (hs_bd x) (hs_bf x) (nI (140 * p + (10 * A + j))) (nI (hs_td x)) (hs_bn x) = MIS := by
  subst hf
  unfold hV_find
  rcases srT_in (M := mMm (hs_fA x) (hs_nA x) (hs_fJ x) (hs_nJ x) (hs_bc x) (hs_bd x) (hs_bf x) (hs_bn x) (hs_td x) (-1) (-1) (nI 0)) (nA := hs_nA x) (nJ := hs_nJ x) (f0 := cl (nI 5)) (t0 := cl (nI 6)) (pl := cl q) with h | ⟨p, A, j, h1, h2, h3, h4, h5, h6⟩
  · exact Or.inl h
  · refine Or.inr ⟨p, A, j, ?_, h3, h4, h6, ?_⟩
    · have e : cl (nI 6) = 6 := by decide
      rw [e] at h2
      omega
    · simp only [mMm, Bool.and_eq_true, Bool.not_eq_true', decide_eq_false_iff_not] at h5
      exact h5.2.2.1
theorem la_fig {x : hs_E} {p A j F : Nat} (hp : p < 12) (hA : A < hs_nA x) (hj : j < hs_nJ x) (hA2 : hs_nA x ≤ 14) (hJ2 : hs_nJ x ≤ 10) (ht : hs_td x ≤ 1000) (hF : F = 1000 * p + 20 * A + j) : hT_figure x (nI (F / 20 % 50)) (nI (F % 20)) (nI (F / 1000)) (nI (hs_td x)) = 0 ∧ hV_figure x (nI (F / 20 % 50)) (nI (F % 20)) (nI (F / 1000)) (nI (hs_td x)) = fo (hs_bc x) (hs_bd x) (hs_bf x) (nI (140 * p + (10 * A + j))) (nI (hs_td x)) (hs_bn x) := by
  have e1 : F / 20 % 50 = A := by omega
  have e2 : F % 20 = j := by omega
  have e3 : F / 1000 = p := by omega
  rw [e1, e2, e3]
  refine ⟨?_, ?_⟩
  · unfold hT_figure; rw [la_ok hA hj hp hA2 hJ2, la_dOk ht]; rfl
  · unfold hV_figure
    rw [cN_nI hA hj hp hA2 hJ2]
theorem la_C {x : hs_E} {i : hs_I} (hi : hs_Inv x i) (hF : hs_Fx x 5 (nI (hs_td x))) : hs_C x 5 = hg_n (hs_H x 5) (hs_nJ x) (hs_nA x) := by
  obtain ⟨⟨hnA, hnJ, -⟩, -⟩ := id hi
  exact hg_n_eq hnA hnJ (fun t ht => (hs_Hc hF t ht).2)
