/-! what each call answers, what it leaves, which exception it throws (1, 2, 3: of place, argument, state; 0: none) -/
def hs_t1 (c : Nat) (p : Bool) : Nat := if p then 0 else c
def hs_t2 (c d : Nat) (p q : Bool) : Nat := if p then (if q then 0 else d) else c
def hs_t3 (c d e : Nat) (p q r : Bool) : Nat := if p then (if q then (if r then 0 else e) else d) else c
abbrev hs_X (T : Nat) (E : String) : Prop := (E = xIO ∧ T = 1) ∨ (E = xIA ∧ T = 2) ∨ (E = xIS ∧ T = 3)
theorem hs_X0 {T : Nat} (h : T = 0) : ∀ E, hs_X T E → False := by
  rintro E (⟨-, h1⟩ | ⟨-, h1⟩ | ⟨-, h1⟩) <;> rw [h] at h1 <;> cases h1
/-- the values of a period by a day; what is hidden; how many -/
noncomputable def hs_V (x : hs_E) (p : Nat) (d : Int32) : Nat → Int32 := Classical.epsilon (fun u : Nat → Int32 => Fx (figs (hs_bc x) (hs_bd x) (hs_bf x) (hs_bn x) p d) (hs_fA x) (hs_nA x) (hs_fJ x) (hs_nJ x) u)
def hs_Fx (x : hs_E) (p : Nat) (d : Int32) : Prop := Fx (figs (hs_bc x) (hs_bd x) (hs_bf x) (hs_bn x) p d) (hs_fA x) (hs_nA x) (hs_fJ x) (hs_nJ x) (hs_V x p d)
theorem hs_Fxi {x : hs_E} {p : Nat} {d : Int32} {u : Nat → Int32} (h : Fx (figs (hs_bc x) (hs_bd x) (hs_bf x) (hs_bn x) p d) (hs_fA x) (hs_nA x) (hs_fJ x) (hs_nJ x) u) : hs_Fx x p d := Classical.epsilon_spec (p := fun u : Nat → Int32 => Fx (figs (hs_bc x) (hs_bd x) (hs_bf x) (hs_bn x) p d) (hs_fA x) (hs_nA x) (hs_fJ x) (hs_nJ x) u) ⟨u, h⟩
noncomputable def hs_H (x : hs_E) (p : Nat) : Nat → Bool := hdM (hs_fA x) (hs_nA x) (hs_fJ x) (hs_nJ x) (hs_sc x) p (hs_V x p (nI (hs_td x))) (fun _ => false)
noncomputable def hs_C (x : hs_E) (p : Nat) : Nat := cH (fun _ => true) (hs_H x p) 140
/-- a message judged -/
def hs_run (x : hs_E) (p1 : Int32) : mT := mRun (fun k => wkB (hs_fA x) (fun j => hs_on x (14 * cl p1 + j)) (hs_nA x) (nI (cl (hs_dc x k) % 140 / 10))) (hs_dw x) (hs_dv x) (fun k => cl (hs_dc x k)) (nI (hs_td x)) (0, hs_rf x, hs_bn x, hs_bc x, hs_bd x, hs_bf x) (hs_dn x)
def hs_mkS (x : hs_E) (n : Nat) (rf bc bd bf : Nat → Int32) : hs_E := (hs_dn x, hs_snt x + hs_dn x, hs_td x, hs_nA x, hs_nJ x, 0, n, hs_fA x, hs_fJ x, hs_da x, hs_dw x, hs_dc x, hs_dv x, bc, bd, bf, rf, hs_on x, hs_sc x)
def hT_area (x : hs_E) (p1 : Int32) : Nat := hs_t2 1 3 (tPat (hs_nA x) p1) (decide (hs_nA x < 14))
def hX_area (x : hs_E) (p1 : Int32) : hs_E := (hs_jd x, hs_snt x, hs_td x, hs_nA x + 1, hs_nJ x, hs_dn x, hs_bn x, upd (hs_fA x) (hs_nA x) p1, hs_fJ x, hs_da x, hs_dw x, hs_dc x, hs_dv x, hs_bc x, hs_bd x, hs_bf x, hs_rf x, hs_on x, hs_sc x)
def hV_area (x : hs_E) (p1 : Int32) : Int32 := nI (hs_nA x)
def hT_item (x : hs_E) (p1 : Int32) : Nat := hs_t2 1 3 (tPat (hs_nJ x) p1) (decide (hs_nJ x < 10))
def hX_item (x : hs_E) (p1 : Int32) : hs_E := (hs_jd x, hs_snt x, hs_td x, hs_nA x, hs_nJ x + 1, hs_dn x, hs_bn x, hs_fA x, upd (hs_fJ x) (hs_nJ x) p1, hs_da x, hs_dw x, hs_dc x, hs_dv x, hs_bc x, hs_bd x, hs_bf x, hs_rf x, hs_on x, hs_sc x)
def hV_item (x : hs_E) (p1 : Int32) : Int32 := nI (hs_nJ x)
def hT_agree (x : hs_E) (p1 : Int32) (p2 : Int32) (p3 : Bool) : Nat := hs_t1 1 (tHas 4 p1 && tHas (hs_nA x) p2)
def hX_agree (x : hs_E) (p1 : Int32) (p2 : Int32) (p3 : Bool) : hs_E := (hs_jd x, hs_snt x, hs_td x, hs_nA x, hs_nJ x, hs_dn x, hs_bn x, hs_fA x, hs_fJ x, hs_da x, hs_dw x, hs_dc x, hs_dv x, hs_bc x, hs_bd x, hs_bf x, hs_rf x, uB (hs_on x) (14 * cl p1 + cl p2) p3, hs_sc x)
def hV_agree (x : hs_E) (p1 : Int32) (p2 : Int32) (p3 : Bool) : Int32 := bI (hs_on x (14 * cl p1 + cl p2) != p3)
def hT_put (x : hs_E) (p1 : Int32) (p2 : Int32) (p3 : Int32) (p4 : Int32) (p5 : Int32) : Nat := hs_t3 1 2 3 (okC (hs_nA x) (hs_nJ x) p2 p3 p4) (wOk p1 && vOk p5) (decide (hs_dn x < 16))
def hX_put (x : hs_E) (p1 : Int32) (p2 : Int32) (p3 : Int32) (p4 : Int32) (p5 : Int32) : hs_E := (hs_jd x, hs_snt x, hs_td x, hs_nA x, hs_nJ x, hs_dn x + 1, hs_bn x, hs_fA x, hs_fJ x, upd (hs_da x) (hs_dn x) p2, upd (hs_dw x) (hs_dn x) p1, upd (hs_dc x) (hs_dn x) (cellI p2 p3 p4), upd (hs_dv x) (hs_dn x) p5, hs_bc x, hs_bd x, hs_bf x, hs_rf x, hs_on x, hs_sc x)
def hV_put (x : hs_E) (p1 : Int32) (p2 : Int32) (p3 : Int32) (p4 : Int32) (p5 : Int32) : Int32 := nI (hs_dn x + 1)
def hT_wipe (x : hs_E)  : Nat := 0
def hX_wipe (x : hs_E)  : hs_E := (hs_jd x, hs_snt x, hs_td x, hs_nA x, hs_nJ x, 0, hs_bn x, hs_fA x, hs_fJ x, hs_da x, hs_dw x, hs_dc x, hs_dv x, hs_bc x, hs_bd x, hs_bf x, hs_rf x, hs_on x, hs_sc x)
def hV_wipe (x : hs_E)  : Int32 := nI (hs_dn x)
def hT_send (x : hs_E) (p1 : Int32) : Nat := hs_t2 1 3 (tHas 4 p1) (decide (0 < hs_dn x ∧ hs_snt x + hs_dn x ≤ 300))
def hX_send (x : hs_E) (p1 : Int32) : hs_E := hs_mkS x (mN (hs_run x p1)) (mR (hs_run x p1)) (mC (hs_run x p1)) (mY (hs_run x p1)) (mF (hs_run x p1))
def hV_send (x : hs_E) (p1 : Int32) : Int32 := nI (mD (hs_run x p1))
def hT_refusal (x : hs_E) (p1 : Int32) : Nat := hs_t1 1 (tHas (hs_jd x) p1)
def hX_refusal (x : hs_E) (p1 : Int32) : hs_E := x
def hV_refusal (x : hs_E) (p1 : Int32) : Int32 := hs_rf x (cl p1)
def hT_secret (x : hs_E) (p1 : Int32) (p2 : Int32) (p3 : Int32) (p4 : Bool) : Nat := hs_t1 1 (okC (hs_nA x) (hs_nJ x) p1 p2 p3)
def hX_secret (x : hs_E) (p1 : Int32) (p2 : Int32) (p3 : Int32) (p4 : Bool) : hs_E := (hs_jd x, hs_snt x, hs_td x, hs_nA x, hs_nJ x, hs_dn x, hs_bn x, hs_fA x, hs_fJ x, hs_da x, hs_dw x, hs_dc x, hs_dv x, hs_bc x, hs_bd x, hs_bf x, hs_rf x, hs_on x, uB (hs_sc x) (cN p1 p2 p3) p4)
noncomputable def hV_secret (x : hs_E) (p1 : Int32) (p2 : Int32) (p3 : Int32) (p4 : Bool) : Int32 := nI (hs_C (hX_secret x p1 p2 p3 p4) (cl p3))
def hT_pass (x : hs_E) (p1 : Int32) : Nat := hs_t2 2 3 (pOk p1) (decide (hs_td x + cl p1 ≤ 1000))
def hX_pass (x : hs_E) (p1 : Int32) : hs_E := (hs_jd x, hs_snt x, hs_td x + cl p1, hs_nA x, hs_nJ x, hs_dn x, hs_bn x, hs_fA x, hs_fJ x, hs_da x, hs_dw x, hs_dc x, hs_dv x, hs_bc x, hs_bd x, hs_bf x, hs_rf x, hs_on x, hs_sc x)
def hV_pass (x : hs_E) (p1 : Int32) : Int32 := nI (hs_td x + cl p1)
def hT_figure (x : hs_E) (p1 : Int32) (p2 : Int32) (p3 : Int32) (p4 : Int32) : Nat := hs_t2 1 2 (okC (hs_nA x) (hs_nJ x) p1 p2 p3) (dOk (hs_td x) p4)
def hX_figure (x : hs_E) (p1 : Int32) (p2 : Int32) (p3 : Int32) (p4 : Int32) : hs_E := x
def hV_figure (x : hs_E) (p1 : Int32) (p2 : Int32) (p3 : Int32) (p4 : Int32) : Int32 := fo (hs_bc x) (hs_bd x) (hs_bf x) (nI (cN p1 p2 p3)) p4 (hs_bn x)
def hT_value (x : hs_E) (p1 : Int32) (p2 : Int32) (p3 : Int32) (p4 : Int32) : Nat := hs_t2 1 2 (okC (hs_nA x) (hs_nJ x) p1 p2 p3) (dOk (hs_td x) p4)
def hX_value (x : hs_E) (p1 : Int32) (p2 : Int32) (p3 : Int32) (p4 : Int32) : hs_E := x
noncomputable def hV_value (x : hs_E) (p1 : Int32) (p2 : Int32) (p3 : Int32) (p4 : Int32) : Int32 := hs_V x (cl p3) p4 (10 * cl p1 + cl p2)
def hT_first (x : hs_E) (p1 : Int32) (p2 : Int32) (p3 : Int32) : Nat := hs_t1 1 (okC (hs_nA x) (hs_nJ x) p1 p2 p3)
def hX_first (x : hs_E) (p1 : Int32) (p2 : Int32) (p3 : Int32) : hs_E := x
def hV_first (x : hs_E) (p1 : Int32) (p2 : Int32) (p3 : Int32) : Int32 := fst9 (hs_bc x) (hs_bf x) (nI (cN p1 p2 p3)) (hs_bn x)
def hT_revisions (x : hs_E) (p1 : Int32) (p2 : Int32) (p3 : Int32) : Nat := hs_t1 1 (okC (hs_nA x) (hs_nJ x) p1 p2 p3)
def hX_revisions (x : hs_E) (p1 : Int32) (p2 : Int32) (p3 : Int32) : hs_E := x
def hV_revisions (x : hs_E) (p1 : Int32) (p2 : Int32) (p3 : Int32) : Int32 := nI (cnt9 (hs_bc x) (nI (cN p1 p2 p3)) (hs_bn x))
def hT_hasFault (x : hs_E) (p1 : Int32) (p2 : Int32) (p3 : Int32) : Nat := hs_t1 1 (okC (hs_nA x) (hs_nJ x) p1 p2 p3)
def hX_hasFault (x : hs_E) (p1 : Int32) (p2 : Int32) (p3 : Int32) : hs_E := x
noncomputable def hV_hasFault (x : hs_E) (p1 : Int32) (p2 : Int32) (p3 : Int32) : Int32 := bI (!decide ((fo (hs_bc x) (hs_bd x) (hs_bf x) (nI (cN p1 p2 p3)) (nI (hs_td x)) (hs_bn x)) = MIS) && (iOS (sA (hs_fA x) (hs_nA x) (hs_V x (cl p3) (nI (hs_td x))) (cl p1) (cl p2)) (fo (hs_bc x) (hs_bd x) (hs_bf x) (nI (cN p1 p2 p3)) (nI (hs_td x)) (hs_bn x)) || iOS (sJ (hs_fJ x) (hs_nJ x) (hs_V x (cl p3) (nI (hs_td x))) (cl p1) (cl p2)) (fo (hs_bc x) (hs_bd x) (hs_bf x) (nI (cN p1 p2 p3)) (nI (hs_td x)) (hs_bn x))))
def hT_shown (x : hs_E) (p1 : Int32) (p2 : Int32) (p3 : Int32) : Nat := hs_t1 1 (okC (hs_nA x) (hs_nJ x) p1 p2 p3)
def hX_shown (x : hs_E) (p1 : Int32) (p2 : Int32) (p3 : Int32) : hs_E := x
noncomputable def hV_shown (x : hs_E) (p1 : Int32) (p2 : Int32) (p3 : Int32) : Int32 := if hs_H x (cl p3) (10 * cl p1 + cl p2) = true then HID else (hs_V x (cl p3) (nI (hs_td x))) (10 * cl p1 + cl p2)
def hT_hidden (x : hs_E) (p1 : Int32) : Nat := hs_t1 1 (tHas 12 p1)
def hX_hidden (x : hs_E) (p1 : Int32) : hs_E := x
noncomputable def hV_hidden (x : hs_E) (p1 : Int32) : Int32 := nI (hs_C x (cl p1))
def hT_find (x : hs_E) (p1 : Int32) (p2 : Int32) (p3 : Int32) (p4 : Int32) (p5 : Int32) (p6 : Int32) : Nat := hs_t2 1 2 (tPat (hs_nA x) p1 && tPat (hs_nJ x) p2 && !decide (p6 < 0)) (tHas 12 p3 && tHas 12 p4 && !decide (p4 < p3) && sOk p5)
def hX_find (x : hs_E) (p1 : Int32) (p2 : Int32) (p3 : Int32) (p4 : Int32) (p5 : Int32) (p6 : Int32) : hs_E := x
def hV_find (x : hs_E) (p1 : Int32) (p2 : Int32) (p3 : Int32) (p4 : Int32) (p5 : Int32) (p6 : Int32) : Int32 := srR (srT (mMm (hs_fA x) (hs_nA x) (hs_fJ x) (hs_nJ x) (hs_bc x) (hs_bd x) (hs_bf x) (hs_bn x) (hs_td x) p1 p2 p5) (hs_nA x) (hs_nJ x) (cl p3) (cl p4) (cl p6))
def hT_mayTell (x : hs_E) (p1 : Int32) (p2 : Int32) : Nat := hs_t1 1 (tHas 4 p1 && tHas (hs_nA x) p2)
def hX_mayTell (x : hs_E) (p1 : Int32) (p2 : Int32) : hs_E := x
def hV_mayTell (x : hs_E) (p1 : Int32) (p2 : Int32) : Int32 := bI (wkB (hs_fA x) (fun k => hs_on x (14 * cl p1 + k)) (hs_nA x) p2)
theorem hs_wk {l : Launch} {y : MethodName} {wl : List Cond} {rm : Room} {Pc : Array Value → State → Prop} {mc sc : Nat} {S : Type} {post post' : Int32 → S → Prop} {B : S → State → Prop} {A free : Nat → Prop} (h : Met l y wl rm Pc (va_Qi post B A) mc sc free) (hp : ∀ r u, post r u → post' r u) : Met l y wl rm Pc (va_Qi post' B A) mc sc free := by
  unfold Met at h ⊢
  refine MetFree.mono h (fun _ _ z => z) (fun _ _ _ _ _ z => z) (fun a s o t _ hQ => ?_)
  obtain ⟨⟨⟨r, u, e1, e2, e3⟩, hF⟩, hL⟩ := hQ
  exact ⟨⟨⟨r, u, e1, hp r u e2, e3⟩, hF⟩, hL⟩
