/-! values and hidden cells of a given house, counted -/
def he_all (p : Nat → Bool) : Nat → Bool
  | 0 => true
  | n + 1 => he_all p n && p n
theorem he_all_iff {p : Nat → Bool} : ∀ {n : Nat}, he_all p n = true → ∀ k, k < n → p k = true
  | n + 1, h, k, hk => by
    have h' : he_all p n = true ∧ p n = true := by simpa [he_all] using h
    rcases Nat.lt_succ_iff_lt_or_eq.mp hk with h1 | h1
    · exact he_all_iff h'.1 k h1
    · subst h1; exact h'.2
/-- a table of values in one number, 32 bits each -/
def he_lk (T : Nat) (t : Nat) : Int32 := nI ((T >>> (32 * t)) % 4294967296)
def he_ti (f : Nat → Int32) (n : Nat) : Bool := he_all (fun k => decide (f k = -1) || anyB (fun j => decide (f k = nI j)) k) n
theorem he_ti_TI {f : Nat → Int32} {n : Nat} (h : he_ti f n = true) : TI f n := by
  intro k hk
  have h1 := he_all_iff h k hk
  simp only [Bool.or_eq_true, decide_eq_true_eq] at h1
  rcases h1 with h1 | h1
  · exact Or.inl h1
  · obtain ⟨j, hj, h2⟩ := anyB_iff.mp h1
    exact Or.inr ⟨j, hj, of_decide_eq_true h2⟩
def he_fx (x : hs_E) (p : Nat) (d : Int32) (T : Nat) : Bool := he_all (fun a => he_all (fun i => decide (he_lk T (10 * a + i) = fxv (figs (hs_bc x) (hs_bd x) (hs_bf x) (hs_bn x) p d) (hs_fA x) (hs_nA x) (hs_fJ x) (hs_nJ x) (he_lk T) a i)) (hs_nJ x)) (hs_nA x)
def he_ck (x : hs_E) (p : Nat) (d : Int32) (T : Nat) : Bool := ((he_ti (hs_fA x) (hs_nA x) && he_ti (hs_fJ x) (hs_nJ x)) && (decide (hs_nA x ≤ 14) && decide (hs_nJ x ≤ 10))) && he_fx x p d T
theorem he_ckF {x : hs_E} {p : Nat} {d : Int32} {T : Nat} (h : he_ck x p d T = true) : (TI (hs_fA x) (hs_nA x) ∧ TI (hs_fJ x) (hs_nJ x) ∧ hs_nA x ≤ 14 ∧ hs_nJ x ≤ 10) ∧ Fx (figs (hs_bc x) (hs_bd x) (hs_bf x) (hs_bn x) p d) (hs_fA x) (hs_nA x) (hs_fJ x) (hs_nJ x) (he_lk T) := by
  simp only [he_ck, Bool.and_eq_true, decide_eq_true_eq] at h
  obtain ⟨⟨⟨h1, h2⟩, h3, h4⟩, h5⟩ := h
  refine ⟨⟨he_ti_TI h1, he_ti_TI h2, h3, h4⟩, fun a i ha hi _ => ?_⟩
  exact of_decide_eq_true (he_all_iff (he_all_iff h5 a ha) i hi)
theorem he_V {x : hs_E} {p : Nat} {d : Int32} {T : Nat} (h : he_ck x p d T = true) : EqV (hs_nA x) (hs_nJ x) (hs_V x p d) (he_lk T) := by
  obtain ⟨⟨h1, h2, h3, h4⟩, h5⟩ := he_ckF h
  exact Fx_one h1 h2 (by omega) (by omega) (hs_Fxi h5) h5
/-- what is hidden, as the bits of a number -/
def he_o (m : Nat) : Option Nat → Nat
  | none => m
  | some t => m ||| (1 <<< t)
theorem he_ob {m t j : Nat} : (he_o m (some t)).testBit j = (if j = t then true else m.testBit j) := by
  show (m ||| (1 <<< t)).testBit j = _
  rw [Nat.testBit_or, Nat.one_shiftLeft, Nat.testBit_two_pow]
  by_cases h : t = j
  · subst h; simp
  · simp [h, Ne.symm h]
section HEM
variable (fA : Nat → Int32) (nA : Nat) (fJ : Nat → Int32) (nJ : Nat) (v : Nat → Int32)
def he_I (b : Bool) (S : Nat × Bool) (a : Nat) : Nat → Nat × Bool
  | 0 => S
  | i + 1 => (he_o (he_I b S a i).1 (gRow fA nA fJ nJ v b (Nat.testBit (he_I b S a i).1) a i), (he_I b S a i).2 || (gRow fA nA fJ nJ v b (Nat.testBit (he_I b S a i).1) a i).isSome)
def he_A (b : Bool) (S : Nat × Bool) : Nat → Nat × Bool
  | 0 => S
  | a + 1 => he_I fA nA fJ nJ v b (he_A b S a) a nJ
def he_S (m : Nat) : Nat × Bool := ((he_A fA nA fJ nJ v false ((he_A fA nA fJ nJ v true (m, false) nA).1, false) nA).1, (he_A fA nA fJ nJ v true (m, false) nA).2 || (he_A fA nA fJ nJ v false ((he_A fA nA fJ nJ v true (m, false) nA).1, false) nA).2)
def he_R : Nat → Nat → Nat
  | 0, m => m
  | k + 1, m => if (he_S fA nA fJ nJ v m).2 then he_R k (he_S fA nA fJ nJ v m).1 else (he_S fA nA fJ nJ v m).1
end HEM
section HEN
variable {fA fJ : Nat → Int32} {nA nJ : Nat} {v : Nat → Int32} {b : Bool}
theorem he_oq {hb : Nat → Bool} {m : Nat} (h : EqH hb (Nat.testBit m)) (o : Option Nat) : EqH (uO hb o) (Nat.testBit (he_o m o)) := by
  intro t ht
  cases o with
  | none => exact h t ht
  | some j =>
    rw [he_ob]
    show (if t = j then true else hb t) = _
    rw [h t ht]
theorem he_Iq (hA : nA ≤ 14) (hJ : nJ ≤ 10) {S : (Nat → Bool) × Bool} {S' : Nat × Bool} (h1 : EqH S.1 (Nat.testBit S'.1)) (h2 : S.2 = S'.2) {a : Nat} (ha : a < nA) : ∀ {i : Nat}, i ≤ nJ → EqH (gI fA nA fJ nJ v b S a i).1 (Nat.testBit (he_I fA nA fJ nJ v b S' a i).1) ∧ (gI fA nA fJ nJ v b S a i).2 = (he_I fA nA fJ nJ v b S' a i).2
  | 0, _ => ⟨h1, h2⟩
  | i + 1, hi => by
    obtain ⟨k1, k2⟩ := he_Iq hA hJ h1 h2 ha (i := i) (by omega)
    have hr := gRow_cg (fA := fA) (fJ := fJ) (by_ := b) (v := v) (v' := v) hA hJ (fun _ _ _ _ => rfl) k1 ha (show i < nJ by omega)
    refine ⟨?_, ?_⟩
    · show EqH (uO (gI fA nA fJ nJ v b S a i).1 (gRow fA nA fJ nJ v b (gI fA nA fJ nJ v b S a i).1 a i)) (Nat.testBit (he_o (he_I fA nA fJ nJ v b S' a i).1 (gRow fA nA fJ nJ v b (Nat.testBit (he_I fA nA fJ nJ v b S' a i).1) a i)))
      rw [hr]
      exact he_oq k1 _
    · show ((gI fA nA fJ nJ v b S a i).2 || (gRow fA nA fJ nJ v b (gI fA nA fJ nJ v b S a i).1 a i).isSome) = ((he_I fA nA fJ nJ v b S' a i).2 || (gRow fA nA fJ nJ v b (Nat.testBit (he_I fA nA fJ nJ v b S' a i).1) a i).isSome)
      rw [hr, k2]
theorem he_Aq (hA : nA ≤ 14) (hJ : nJ ≤ 10) {S : (Nat → Bool) × Bool} {S' : Nat × Bool} (h1 : EqH S.1 (Nat.testBit S'.1)) (h2 : S.2 = S'.2) : ∀ {a : Nat}, a ≤ nA → EqH (gA fA nA fJ nJ v b S a).1 (Nat.testBit (he_A fA nA fJ nJ v b S' a).1) ∧ (gA fA nA fJ nJ v b S a).2 = (he_A fA nA fJ nJ v b S' a).2
  | 0, _ => ⟨h1, h2⟩
  | a + 1, ha => by
    obtain ⟨k1, k2⟩ := he_Aq hA hJ h1 h2 (a := a) (by omega)
    exact he_Iq hA hJ k1 k2 (by omega) (Nat.le_refl nJ)
theorem he_Sq (hA : nA ≤ 14) (hJ : nJ ≤ 10) {hb : Nat → Bool} {m : Nat} (h : EqH hb (Nat.testBit m)) : EqH (stp fA nA fJ nJ v hb).1 (Nat.testBit (he_S fA nA fJ nJ v m).1) ∧ (stp fA nA fJ nJ v hb).2 = (he_S fA nA fJ nJ v m).2 := by
  obtain ⟨k1, k2⟩ := he_Aq (fA := fA) (fJ := fJ) (v := v) (b := true) (S := (hb, false)) (S' := (m, false)) hA hJ h rfl (Nat.le_refl nA)
  obtain ⟨k3, k4⟩ := he_Aq (fA := fA) (fJ := fJ) (v := v) (b := false) (S := ((gA fA nA fJ nJ v true (hb, false) nA).1, false)) (S' := ((he_A fA nA fJ nJ v true (m, false) nA).1, false)) hA hJ k1 rfl (Nat.le_refl nA)
  refine ⟨k3, ?_⟩
  show ((gA fA nA fJ nJ v true (hb, false) nA).2 || _) = ((he_A fA nA fJ nJ v true (m, false) nA).2 || _)
  rw [k2, k4]
theorem he_Rq (hA : nA ≤ 14) (hJ : nJ ≤ 10) : ∀ {k : Nat} {hb : Nat → Bool} {m : Nat}, EqH hb (Nat.testBit m) → EqH (itR (stp fA nA fJ nJ v) k hb) (Nat.testBit (he_R fA nA fJ nJ v k m))
  | 0, _, _, h => h
  | k + 1, hb, m, h => by
    obtain ⟨k1, k2⟩ := he_Sq (fA := fA) (fJ := fJ) (v := v) hA hJ h
    show EqH (if (stp fA nA fJ nJ v hb).2 = true then itR (stp fA nA fJ nJ v) k (stp fA nA fJ nJ v hb).1 else (stp fA nA fJ nJ v hb).1) (Nat.testBit (if (he_S fA nA fJ nJ v m).2 = true then he_R fA nA fJ nJ v k (he_S fA nA fJ nJ v m).1 else (he_S fA nA fJ nJ v m).1))
    rw [k2]
    split
    · exact he_Rq hA hJ k1
    · exact k1
end HEN
/-- the bits of what is hidden at first -/
def he_b (p : Nat → Bool) : Nat → Nat
  | 0 => 0
  | n + 1 => if p n then he_b p n ||| (1 <<< n) else he_b p n
theorem he_b_lt {p : Nat → Bool} : ∀ {n t : Nat}, n ≤ t → (he_b p n).testBit t = false
  | 0, t, _ => by simp [he_b]
  | n + 1, t, h => by
    unfold he_b
    split
    · have := he_ob (m := he_b p n) (t := n) (j := t)
      rw [show he_b p n ||| (1 <<< n) = he_o (he_b p n) (some n) from rfl, this, if_neg (by omega)]
      exact he_b_lt (by omega)
    · exact he_b_lt (by omega)
theorem he_b_bit {p : Nat → Bool} : ∀ {n t : Nat}, t < n → (he_b p n).testBit t = p t
  | n + 1, t, h => by
    unfold he_b
    split
    · next hp =>
      rw [show he_b p n ||| (1 <<< n) = he_o (he_b p n) (some n) from rfl, he_ob]
      by_cases e : t = n
      · subst e; rw [if_pos rfl, hp]
      · rw [if_neg e]; exact he_b_bit (by omega)
    · next hp =>
      by_cases e : t = n
      · subst e
        rw [he_b_lt (Nat.le_refl _)]
        cases e2 : p t with
        | false => rfl
        | true => exact absurd e2 hp
      · exact he_b_bit (by omega)
def he_end (x : hs_E) (p T : Nat) : Nat := he_R (hs_fA x) (hs_nA x) (hs_fJ x) (hs_nJ x) (he_lk T) 141 (he_b (h0M (hs_nA x) (hs_nJ x) p (hs_sc x) (he_lk T)) 140)
theorem he_H {x : hs_E} {p T M : Nat} (h : he_ck x p (nI (hs_td x)) T = true) (hm : he_end x p T = M) : EqH (hs_H x p) (Nat.testBit M) := by
  subst hm
  obtain ⟨⟨h1, h2, h3, h4⟩, h5⟩ := he_ckF h
  have hv := he_V h
  have e1 : EqH (hF (fun _ => false) (h0M (hs_nA x) (hs_nJ x) p (hs_sc x) (hs_V x p (nI (hs_td x)))) 140) (hF (fun _ => false) (h0M (hs_nA x) (hs_nJ x) p (hs_sc x) (he_lk T)) 140) := by
    intro t ht
    show (if t < 140 then h0M _ _ _ _ _ t else false) = (if t < 140 then h0M _ _ _ _ _ t else false)
    rw [if_pos ht, if_pos ht]
    unfold h0M
    by_cases hc : t / 10 < hs_nA x ∧ t % 10 < hs_nJ x
    · have e := hv (t / 10) (t % 10) hc.1 hc.2
      rw [show 10 * (t / 10) + t % 10 = t by omega] at e
      rw [e]
    · by_cases g1 : t / 10 < hs_nA x
      · have g2 : ¬ t % 10 < hs_nJ x := fun h => hc ⟨g1, h⟩
        simp [g2]
      · simp [g1]
  have e2 := itR_cg (fA := hs_fA x) (fJ := hs_fJ x) h3 h4 hv e1 (m := 141)
  have e3 : EqH (hF (fun _ => false) (h0M (hs_nA x) (hs_nJ x) p (hs_sc x) (he_lk T)) 140) (Nat.testBit (he_b (h0M (hs_nA x) (hs_nJ x) p (hs_sc x) (he_lk T)) 140)) := by
    intro t ht
    show (if t < 140 then h0M _ _ _ _ _ t else false) = _
    rw [if_pos ht, he_b_bit ht]
  have e4 := he_Rq (fA := hs_fA x) (fJ := hs_fJ x) (v := he_lk T) h3 h4 e3 (k := 141)
  intro t ht
  exact (e2 t ht).trans (e4 t ht)
/-- answers by a table of values and the bits of what is hidden -/
theorem he_value {x : hs_E} {p1 p2 p3 p4 v : Int32} {T : Nat} (h : he_ck x (cl p3) p4 T = true) (hv : (decide (cl p1 < hs_nA x) && decide (cl p2 < hs_nJ x) && decide (he_lk T (10 * cl p1 + cl p2) = v)) = true) : hV_value x p1 p2 p3 p4 = v := by
  simp only [Bool.and_eq_true, decide_eq_true_eq] at hv
  exact (he_V h _ _ hv.1.1 hv.1.2).trans hv.2
theorem he_shown {x : hs_E} {p1 p2 p3 v : Int32} {T M : Nat} (h : he_ck x (cl p3) (nI (hs_td x)) T = true) (hm : he_end x (cl p3) T = M) (hv : (decide (cl p1 < hs_nA x) && decide (cl p2 < hs_nJ x) && decide ((if M.testBit (10 * cl p1 + cl p2) then HID else he_lk T (10 * cl p1 + cl p2)) = v)) = true) : hV_shown x p1 p2 p3 = v := by
  simp only [Bool.and_eq_true, decide_eq_true_eq] at hv
  obtain ⟨⟨-, -, h3, h4⟩, -⟩ := he_ckF h
  unfold hV_shown
  rw [he_H h hm _ (by omega), he_V h _ _ hv.1.1 hv.1.2]
  exact hv.2
theorem he_C {x : hs_E} {p T M n : Nat} (h : he_ck x p (nI (hs_td x)) T = true) (hm : he_end x p T = M) (hn : cH (fun _ => true) (Nat.testBit M) 140 = n) : hs_C x p = n := (hd_cnt (he_H h hm)).trans hn
theorem he_hidden {x : hs_E} {p1 v : Int32} {T M : Nat} (h : he_ck x (cl p1) (nI (hs_td x)) T = true) (hm : he_end x (cl p1) T = M) (hv : nI (cH (fun _ => true) (Nat.testBit M) 140) = v) : hV_hidden x p1 = v := (congrArg nI (he_C h hm rfl)).trans hv
theorem he_secret {x x' : hs_E} {p1 p2 p3 v : Int32} {p4 : Bool} {T M : Nat} (hx : hX_secret x p1 p2 p3 p4 = x') (h : he_ck x' (cl p3) (nI (hs_td x')) T = true) (hm : he_end x' (cl p3) T = M) (hv : nI (cH (fun _ => true) (Nat.testBit M) 140) = v) : hV_secret x p1 p2 p3 p4 = v := by
  unfold hV_secret
  rw [hx]
  exact (congrArg nI (he_C h hm rfl)).trans hv
theorem he_fault {x : hs_E} {p1 p2 p3 v : Int32} {T : Nat} (h : he_ck x (cl p3) (nI (hs_td x)) T = true) (hv : (decide (cl p1 < hs_nA x) && decide (cl p2 < hs_nJ x) && decide (bI (!decide (fo (hs_bc x) (hs_bd x) (hs_bf x) (nI (cN p1 p2 p3)) (nI (hs_td x)) (hs_bn x) = MIS) && (iOS (sA (hs_fA x) (hs_nA x) (he_lk T) (cl p1) (cl p2)) (fo (hs_bc x) (hs_bd x) (hs_bf x) (nI (cN p1 p2 p3)) (nI (hs_td x)) (hs_bn x)) || iOS (sJ (hs_fJ x) (hs_nJ x) (he_lk T) (cl p1) (cl p2)) (fo (hs_bc x) (hs_bd x) (hs_bf x) (nI (cN p1 p2 p3)) (nI (hs_td x)) (hs_bn x)))) = v)) = true) : hV_hasFault x p1 p2 p3 = v := by
  simp only [Bool.and_eq_true, decide_eq_true_eq] at hv
  obtain ⟨⟨h1, h2, h3, h4⟩, -⟩ := he_ckF h
  have e1 := sA_congr (i := cl p2) h1 (by omega) hv.1.1 (fun k _ hk => he_V h k _ hk hv.1.2)
  have e2 := sJ_congr (a := cl p1) h2 (by omega) hv.1.2 (fun k _ hk => he_V h _ k hv.1.1 hk)
  unfold hV_hasFault
  rw [e1, e2]
  exact hv.2
