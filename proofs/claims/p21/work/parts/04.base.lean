/-! my own layer: worlds of fixed order, contracts by which cells are written, one row a call -/
abbrev bG : Type := va_G × ClassId × ClassId × ClassId
abbrev bT (G : bG) : List (ClassId × FieldType) := [(G.2.1, .int), (G.2.2.1, .boolean)]
/-- addresses that differ pairwise -/
def apL (l : List Nat) : Prop := ∀ (i j a : Nat), l[i]? = some a → l[j]? = some a → i = j
/-- what may be written: the cells ms, and what is new -/
def Aw (ms : List Nat) (sz : Nat) : Nat → Prop := fun q => q ∈ ms ∨ sz ≤ q
def bSt (G : bG) (cl : List vw_C) (ms : List Nat) (s : State) (ws : va_W) (H : Heap) (locs : List Loc) : Prop := va_P G.1 cl ws H ∧ va_S (Aw ms s.heap.size) s.heap H locs ∧ apL (ws.map Prod.fst)
theorem b_D {ws : va_W} (h : apL (ws.map Prod.fst)) : va_D (fun _ => True) ws :=
  ⟨fun i j p q hi hj e => h i j p.1 (by simp [List.getElem?_map, hi]) (by simp [List.getElem?_map, hj, e]), fun _ _ _ => trivial⟩
theorem b_ap {A : Nat → Prop} {ws : va_W} (h : va_D A ws) : apL (ws.map Prod.fst) := by
  intro i j a hi hj
  rw [List.getElem?_map] at hi hj
  cases e1 : ws[i]? with
  | none => rw [e1] at hi; cases hi
  | some p =>
    cases e2 : ws[j]? with
    | none => rw [e2] at hj; cases hj
    | some q =>
      rw [e1] at hi; rw [e2] at hj
      exact h.1 i j p q e1 e2 ((Option.some.inj hi).trans (Option.some.inj hj).symm)
theorem b_mset {ws : va_W} {k a : Nat} {e0 e : va_E} (h : ws[k]? = some (a, e0)) : (ws.set k (a, e)).map Prod.fst = ws.map Prod.fst := by
  apply List.ext_getElem?
  intro i
  rw [List.getElem?_map, List.getElem?_map]
  by_cases hi : i = k
  · subst hi
    rw [List.getElem?_set_self (List.getElem?_eq_some_iff.mp h).1, h]
    rfl
  · rw [List.getElem?_set_ne (Ne.symm hi)]
theorem b_mset2 {ws : va_W} {k : Nat} {c : Nat × va_E} (h : (ws.map Prod.fst)[k]? = some c.1) : (ws.set k c).map Prod.fst = ws.map Prod.fst := by
  rw [List.getElem?_map] at h
  cases e1 : ws[k]? with
  | none => rw [e1] at h; cases h
  | some p =>
    rw [e1] at h
    have e2 : p.1 = c.1 := Option.some.inj h
    obtain ⟨a, e0⟩ := p
    obtain ⟨b, e⟩ := c
    have e3 : a = b := e2
    subst e3
    exact b_mset e1
def bSets : va_W → List Nat → va_W → va_W
  | ws, k :: ks, c :: cs => bSets (ws.set k c) ks cs
  | ws, _, _ => ws
theorem b_setsM : ∀ (ks : List Nat) (w1 ws : va_W), ks.map (fun k => (ws.map Prod.fst)[k]?) = w1.map (fun c => some c.1) → (bSets ws ks w1).map Prod.fst = ws.map Prod.fst
  | [], w1, ws, _ => by simp [bSets]
  | k :: ks, [], ws, h => by simp at h
  | k :: ks, c :: cs, ws, h => by
    have h1 : (ws.map Prod.fst)[k]? = some c.1 := (List.cons.inj h).1
    have h2 := (List.cons.inj h).2
    have e := b_mset2 (c := c) h1
    show (bSets (ws.set k c) ks cs).map Prod.fst = _
    rw [b_setsM ks cs (ws.set k c) (by rw [e]; exact h2), e]
theorem b_setsE : ∀ (ks : List Nat) (w1 ws : va_W) (i : Nat) (q : Nat × va_E), ks.length = w1.length → (bSets ws ks w1)[i]? = some q → q ∈ w1 ∨ (ws[i]? = some q ∧ i ∉ ks)
  | [], w1, ws, i, q, _, h => Or.inr ⟨by simpa [bSets] using h, by simp⟩
  | k :: ks, [], ws, i, q, hl, h => by simp at hl
  | k :: ks, c :: cs, ws, i, q, hl, h => by
    rcases b_setsE ks cs (ws.set k c) i q (by simpa using hl) h with h1 | ⟨h1, h2⟩
    · exact Or.inl (List.mem_cons_of_mem _ h1)
    · by_cases hi : i = k
      · subst hi
        rw [List.getElem?_set] at h1
        simp only [if_true] at h1
        split at h1
        · exact Or.inl (by rw [← Option.some.inj h1]; exact List.mem_cons_self)
        · cases h1
      · rw [List.getElem?_set_ne (Ne.symm hi)] at h1
        exact Or.inr ⟨h1, by simp [hi, h2]⟩
theorem b_sets {D : va_G} {cl : List vw_C} {ws w1 : va_W} {H H1 : Heap} {mz : List Nat} (hP : va_P D cl ws H) (hD : apL (ws.map Prod.fst)) (ks : List Nat) (hm : w1.map Prod.fst = mz) (hks : ks.map (fun k => (ws.map Prod.fst)[k]?) = mz.map some)
    (hk : ∀ q : Nat, q < H.size → ¬ Aw mz H.size q → H1[q]? = H[q]?) (hP1 : va_P D cl w1 H1) : va_P D cl (bSets ws ks w1) H1 ∧ apL ((bSets ws ks w1).map Prod.fst) := by
  have hks' : ks.map (fun k => (ws.map Prod.fst)[k]?) = w1.map (fun c => some c.1) := by rw [hks, ← hm, List.map_map]; rfl
  have hlen : ks.length = w1.length := by simpa using congrArg List.length hks'
  refine ⟨fun i q hi => ?_, by rw [b_setsM ks w1 ws hks']; exact hD⟩
  rcases b_setsE ks w1 ws i q hlen hi with h | ⟨h, hn⟩
  · obtain ⟨j, hj⟩ := List.getElem?_of_mem h
    exact hP1 j q hj
  · have hlt := (hP i q h).lt
    refine (hP i q h).kept (hk q.1 hlt ?_)
    rintro (hm1 | hm1)
    · rw [← hm] at hm1
      obtain ⟨j, hj⟩ := List.getElem?_of_mem hm1
      rw [List.getElem?_map] at hj
      have h9 : (w1.map (fun c => some c.1))[j]? = some (some q.1) := by
        rw [List.getElem?_map]
        cases e1 : w1[j]? with
        | none => rw [e1] at hj; cases hj
        | some z => rw [e1] at hj; exact congrArg (fun x => some x) hj
      rw [← hks', List.getElem?_map] at h9
      cases e2 : ks[j]? with
      | none => rw [e2] at h9; cases h9
      | some k =>
        rw [e2] at h9
        have h10 : (ws.map Prod.fst)[k]? = some q.1 := Option.some.inj h9
        have h11 : (ws.map Prod.fst)[i]? = some q.1 := by rw [List.getElem?_map, h]; rfl
        have := hD i k q.1 h11 h10
        subst this
        exact hn (List.mem_of_getElem? e2)
    · omega
theorem b_wide {G : bG} {cl : List vw_C} {m1 : List Nat} (m2 : List Nat) {s : State} {ws : va_W} {H : Heap} {locs : List Loc} (hm : ∀ a ∈ m1, a ∈ m2) (w : bSt G cl m1 s ws H locs) : bSt G cl m2 s ws H locs :=
  ⟨w.1, ⟨w.2.1.1, fun q h1 h2 => w.2.1.2.1 q h1 (fun z => h2 (z.elim (fun z => Or.inl (hm q z)) Or.inr)), fun l hl => (w.2.1.2.2 l hl).elim (fun z => Or.inl (hm _ z)) Or.inr⟩, w.2.2⟩
theorem b_nil {P : Nat → Prop} : ∀ a ∈ ([] : List Nat), P a := fun _ h => nomatch h
theorem b_subL {m2 mz : List Nat} (is : List Nat) (h : is.map (fun i => m2[i]?) = mz.map some) : ∀ a ∈ mz, a ∈ m2 := by
  intro a ha
  have h1 : some a ∈ mz.map some := List.mem_map.mpr ⟨a, ha, rfl⟩
  rw [← h] at h1
  obtain ⟨i, -, hi⟩ := List.mem_map.mp h1
  exact List.mem_of_getElem? hi
theorem b_subA {m2 mz : List Nat} {sz : Nat} (is : List Nat) (h : is.map (fun i => m2[i]?) = mz.map some) : ∀ a ∈ mz, Aw m2 sz a := fun a ha => Or.inl (b_subL is h a ha)
/-- words that the tables decide, of nest mates, casts: kept by every warming -/
def bStable : Cond → Bool
  | .fieldLinkNest .. => true
  | .methodLinkNest .. => true
  | .castable .. => true
  | .not (.castable ..) => true
  | .declares _ => true
  | _ => false
theorem b_stable {s U : State} (hW : s.WarmedH U.vm) : ∀ (w : Cond), bStable w = true → va_Nw w s → va_Nw w U := by
  intro w hw h
  match w, hw with
  | .fieldLinkNest .., _ => exact va_Nw.warmF hW h
  | .methodLinkNest .., _ => exact va_Nw.warmM hW h
  | .declares _, _ => exact va_tabs rfl (rfl : (s.setVm U.vm).vm = U.vm) (by rw [Cond.declares_setVm hW.alike]; exact h)
  | .castable .., _ =>
    have hv := hW.alike
    simp only [va_Nw, Cond.before, Cond.holds, Cond.value, hv.findClass] at h ⊢
    simpa only [hv.assignable] using h
  | .not (.castable ..), _ =>
    have hv := hW.alike
    simp only [va_Nw, Cond.before, Cond.holds, Cond.value, hv.findClass] at h ⊢
    simpa only [hv.assignable] using h
/-- nest words, casts, String constants -/
def bN (nw : List Cond) (sw : List (String × Nat × String)) (U : State) : Prop := (∀ w ∈ nw, bStable w = true ∧ va_Nw w U) ∧ ∀ q ∈ sw, ∃ sa : Nat, vk_R q.1 q.2.1 q.2.2 sa U
theorem bN.moved {nw : List Cond} {sw : List (String × Nat × String)} {s U : State} (hW : s.WarmedH U.vm) (h : bN nw sw s) : bN nw sw U :=
  ⟨fun w hw => ⟨(h.1 w hw).1, b_stable hW w (h.1 w hw).1 (h.1 w hw).2⟩, fun q hq => by obtain ⟨sa, h1⟩ := h.2 q hq; exact ⟨sa, vk_R.warm hW h1⟩⟩
/-- the two statics that every exception takes along -/
def bZ (ms : List Nat) (U : State) : Prop := vx_Zq Bundle.tN "UNASSIGNED_STACK" Bundle.steD (Aw ms U.heap.size) U U.heap ∧ vx_Zq Bundle.tN "SUPPRESSED_SENTINEL" Bundle.listD (Aw ms U.heap.size) U U.heap
def bE (G : bG) (cl : List vw_C) (nw : List Cond) (sw : List (String × Nat × String)) (U : State) : Prop := va_K G.1 cl (bT G) U ∧ bN nw sw U
def bPre (G : bG) (cl : List vw_C) (nw : List Cond) (sw : List (String × Nat × String)) (sz : Nat) (ws : va_W) (ms : List Nat) (U : State) : Prop := U.heap.size = sz ∧ va_P G.1 cl ws U.heap ∧ apL (ws.map Prod.fst) ∧ bE G cl nw sw U ∧ bZ ms U
theorem b_blind {av : List Value} {G : bG} {cl : List vw_C} {nw : List Cond} {sw : List (String × Nat × String)} {sz : Nat} {ws : va_W} {ms : List Nat} : FrameBlind (va_Pc av (bPre G cl nw sw sz ws ms)) := by
  intro a U g mk h
  obtain ⟨h0, h1, h2, h3, ⟨h4, h5⟩, h6, h7⟩ := h
  have hW : U.WarmedH (U.calling g mk a).vm := State.WarmedH.refl U
  exact ⟨h0, h1, h2, h3, ⟨va_K.moved (u := U) (U := U.calling g mk a) (Vm.Alike.refl U.vm) h4, bN.moved hW h5⟩, vx_Zq.moved (u := U) (U := U.calling g mk a) (Vm.Alike.refl U.vm) h6, vx_Zq.moved (u := U) (U := U.calling g mk a) (Vm.Alike.refl U.vm) h7⟩
theorem b_pre {G : bG} {cl : List vw_C} {nw : List Cond} {sw : List (String × Nat × String)} {ms mz : List Nat} {s : State} {ws ws0 : va_W} {H : Heap} {locs : List Loc} (E : bE G cl nw sw s) (Z : bZ ms s) (w : bSt G cl ms s ws H locs) (is : List Nat) (hn : va_nd is = true) (hsub : is.map (fun i => ws[i]?) = ws0.map some) (hmz : ∀ a ∈ mz, Aw ms s.heap.size a) (U : State) (hU : U.heap = H) (hW : s.WarmedH U.vm) : bPre G cl nw sw H.size ws0 mz U := by
  obtain ⟨hP, hS, hD⟩ := w
  have hn0 : ∀ q : Nat, Aw mz U.heap.size q → Aw ms s.heap.size q := fun q h => h.elim (hmz q) (fun z => Or.inr (Nat.le_trans hS.1 (by rw [← hU]; exact z)))
  refine ⟨by rw [hU], ?_, b_ap ((b_D hD).sub is hn hsub), ⟨va_K.moved hW.alike E.1, E.2.moved hW⟩, ?_, ?_⟩
  · rw [hU]
    intro k q hk
    have h1 : (is.map (fun i => ws[i]?))[k]? = some (some q) := by rw [hsub, List.getElem?_map, hk]; rfl
    rw [List.getElem?_map] at h1
    cases hi : is[k]? with
    | none => rw [hi] at h1; cases h1
    | some i => rw [hi] at h1; exact hP i q (Option.some.inj h1)
  · have h1 := vx_Zq.moved (U := U) hW.alike Z.1
    have h2 : vx_Zq Bundle.tN "UNASSIGNED_STACK" Bundle.steD (Aw ms s.heap.size) U U.heap := by rw [hU]; exact h1.kept hS.2.1
    exact h2.narrow hn0
  · have h1 := vx_Zq.moved (U := U) hW.alike Z.2
    have h2 : vx_Zq Bundle.tN "SUPPRESSED_SENTINEL" Bundle.listD (Aw ms s.heap.size) U U.heap := by rw [hU]; exact h1.kept hS.2.1
    exact h2.narrow hn0
section BR
variable {p : Program} {l : Launch} {e : Env} {R : Room} {s : State} {m : MethodId} {args : Array Value} {below : List Frame} {meth : Method} {c : Code} {H : Heap} {locs : List Loc} {cells slots : Nat} {Q : State → Prop}
variable {cc : ByteArray} {pc nL : Nat} {ls : Array Slot} {rest st0 : List Value} {G : bG} {cl : List vw_C} {nw : List Cond} {sw : List (String × Nat × String)} {ms mz : List Nat} {ws ws0 : va_W} {Ts : List Cond} {own : String} {a : Nat}
/-- the top of the stack under another name -/
theorem b_tp {x y : Int32} (h : x = y) (k : W p l e R s m args below meth c H locs cells slots Q (F0 m pc ls (.int y :: rest))) : W p l e R s m args below meth c H locs cells slots Q (F0 m pc ls (.int x :: rest)) := by
  rw [h]; exact k
theorem b_get (X : CallFix p m c cc nL s args Ts own) (E : bE G cl nw sw s) (w : bSt G cl ms s ws H locs) (q0 : Nat) {C : String} {T : u_T} {N ci index : Nat} {fs : List Value} (he : ws[q0]? = some (a, .inr (ci, fs))) (hc : cl[ci]? = some (C, T, N)) (k : Nat) (hk : k < N) (hin : ∀ w ∈ u_ws C T N, w ∈ Ts)
    (hlink : Cond.fieldLink own index C (T k).2.1 (T k).2.2.1 ∈ Ts) (hd : (T k).1 = C) {v : Value} (hv : fs[k]? = some v) (hdg : decode cc pc = .ok (.getfield index, 3))
    (kk : W p l e R s m args below meth c H locs cells slots Q (F0 m (pc + 3) ls (v :: rest))) : W p l e R s m args below meth c H locs cells slots Q (F0 m pc ls (.ref a :: rest)) :=
  va_get (D := G.1) X.1 X.2.1 X.2.2.2.2 hin X.2.2.2.1 E.1 w.1 q0 he hc k hk (X.2.2.2.2 _ hlink) (fun x h => by rw [hd] at h; exact h) hv hdg kk
theorem b_getN (X : CallFix p m c cc nL s args Ts own) (E : bE G cl nw sw s) (w : bSt G cl ms s ws H locs) (q0 : Nat) {C host : String} {T : u_T} {N ci index : Nat} {fs : List Value} (he : ws[q0]? = some (a, .inr (ci, fs))) (hc : cl[ci]? = some (C, T, N)) (k : Nat) (hk : k < N) (hin : ∀ w ∈ u_ws C T N, w ∈ Ts)
    (hlink : Cond.fieldLinkNest own index C (T k).2.1 (T k).2.2.1 host ∈ nw) (hd : (T k).1 = C) {v : Value} (hv : fs[k]? = some v) (hdg : decode cc pc = .ok (.getfield index, 3))
    (kk : W p l e R s m args below meth c H locs cells slots Q (F0 m (pc + 3) ls (v :: rest))) : W p l e R s m args below meth c H locs cells slots Q (F0 m pc ls (.ref a :: rest)) :=
  va_getN (D := G.1) (host := host) X.1 X.2.1 X.2.2.2.2 hin X.2.2.2.1 E.1 w.1 q0 he hc k hk (va_Nw.use rfl (E.2.1 _ hlink).2) (fun x h => by rw [hd] at h; exact h) hv hdg kk
theorem b_put (X : CallFix p m c cc nL s args Ts own) (E : bE G cl nw sw s) (w : bSt G cl ms s ws H locs) (ha : Aw ms s.heap.size a) (q0 : Nat) {C : String} {T : u_T} {N ci index : Nat} {fs : List Value} (he : ws[q0]? = some (a, .inr (ci, fs))) (hc : cl[ci]? = some (C, T, N)) (k : Nat) (hk : k < N) (hin : ∀ w ∈ u_ws C T N, w ∈ Ts)
    (ty0 : Nat → FieldType) (hty : ∀ k, k < N → parseFieldDescriptor (T k).2.2.1 = some (ty0 k)) (hnm : ∀ a, a < N → ∀ b, b < N → a ≠ b → (T a).2.1 ≠ (T b).2.1)
    (hlink : Cond.fieldLink own index C (T k).2.1 (T k).2.2.1 ∈ Ts) (hd0 : (T k).1 = C) (hfin : (T k).2.2.2 = false) {ty : FieldType} {v : Value} (hd : parseFieldDescriptor (T k).2.2.1 = some ty) (hn : narrow ty v = v) (hfit : fits ty v = true) (hl : k < fs.length) (hdg : decode cc pc = .ok (.putfield index, 3))
    (kk : ∀ (H1 : Heap) (locs1 : List Loc), bSt G cl ms s (ws.set q0 (a, .inr (ci, fs.set k v))) H1 locs1 → W p l e R s m args below meth c H1 locs1 cells slots Q (F0 m (pc + 3) ls rest)) : W p l e R s m args below meth c H locs cells slots Q (F0 m pc ls (v :: .ref a :: rest)) := by
  obtain ⟨hP, hS0, hD⟩ := w
  have hx := X.1
  have hb := X.2.1
  have hts := X.2.2.2.2
  have hown := X.2.2.2.1
  have hK := E.1
  have hap := va_apart (own := own) hts hin ty0 hty hnm hK hc
  obtain ⟨r, h1, cell, q1, q2, q3, q4⟩ := hP q0 _ he
  have hr : r = (C, T, N) := Option.some.inj (h1.symm.trans hc)
  subst hr
  obtain ⟨hS, hfc, kC, hkC, hkind⟩ := hK.1 ci _ hc
  obtain ⟨cf, kf, fi, f, hi, hsl⟩ := hS k hk
  have hlay := hts _ (hin _ (u_in_lay hk))
  unfold u_lay at hlay
  rw [if_neg (by rw [hfin]; decide)] at hlay
  have hst := (u_facts hfc hkC (u_lays hts hin hk) hi).1
  have h6 := u_store hfc hkC hkind hlay hi hd hn hfit
  have hi' : s.fieldFound? C (T k).2.1 (T k).2.2.1 = some (cf, kf, fi, f) := by rw [hd0] at hi; exact hi
  refine W.putK hx hb (f := f) ⟨hown, hts _ hlink, ⟨_, _, _, hi'⟩, hst⟩ (by rw [q2]; exact h6) q1 q3 (by rw [hsl]; exact k2_hasslot (q4 k hk)) rfl rfl hdg fun H' e1 e2 e3 => ?_
  rw [hsl] at e1 ⊢
  exact kk H' _ ⟨hP.set (b_D hD) he ⟨_, hc, t_OB.to (V := updV (vp_V fs) k v) ⟨_, e1, q2, q3, t_set q4 hap hk v⟩ (fun j _ => vp_updV_set hl v j)⟩ e3, hS0.put e2 e3 ha, by rw [b_mset he]; exact hD⟩
theorem b_putF (X : CallFix p m c cc nL s args Ts own) (E : bE G cl nw sw s) (w : bSt G cl ms s ws H locs) (ha : Aw ms s.heap.size a) (hin2 : meth.name = "<init>") (q0 : Nat) {C : String} {T : u_T} {N ci index : Nat} {fs : List Value} (he : ws[q0]? = some (a, .inr (ci, fs))) (hc : cl[ci]? = some (C, T, N)) (k : Nat) (hk : k < N) (hin : ∀ w ∈ u_ws C T N, w ∈ Ts)
    (ty0 : Nat → FieldType) (hty : ∀ k, k < N → parseFieldDescriptor (T k).2.2.1 = some (ty0 k)) (hnm : ∀ a, a < N → ∀ b, b < N → a ≠ b → (T a).2.1 ≠ (T b).2.1)
    (hlink : Cond.fieldLink own index C (T k).2.1 (T k).2.2.1 ∈ Ts) (hd0 : (T k).1 = C) (hCo : C = own) (hfin : (T k).2.2.2 = true) {ty : FieldType} {v : Value} (hd : parseFieldDescriptor (T k).2.2.1 = some ty) (hn : narrow ty v = v) (hfit : fits ty v = true) (hl : k < fs.length) (hdg : decode cc pc = .ok (.putfield index, 3))
    (kk : ∀ (H1 : Heap) (locs1 : List Loc), bSt G cl ms s (ws.set q0 (a, .inr (ci, fs.set k v))) H1 locs1 → W p l e R s m args below meth c H1 locs1 cells slots Q (F0 m (pc + 3) ls rest)) : W p l e R s m args below meth c H locs cells slots Q (F0 m pc ls (v :: .ref a :: rest)) := by
  obtain ⟨hP, hS0, hD⟩ := w
  have hx := X.1
  have hb := X.2.1
  have hts := X.2.2.2.2
  have hown := X.2.2.2.1
  have hK := E.1
  have hap := va_apart (own := own) hts hin ty0 hty hnm hK hc
  obtain ⟨r, h1, cell, q1, q2, q3, q4⟩ := hP q0 _ he
  have hr : r = (C, T, N) := Option.some.inj (h1.symm.trans hc)
  subst hr
  obtain ⟨hS, hfc, kC, hkC, hkind⟩ := hK.1 ci _ hc
  obtain ⟨cf, kf, fi, f, hi, hsl⟩ := hS k hk
  have hlay := hts _ (hin _ (u_in_lay hk))
  unfold u_lay at hlay
  rw [if_pos hfin] at hlay
  have hst := (u_facts hfc hkC (u_lays hts hin hk) hi).1
  have hcf : m.cls = cf := by
    obtain ⟨_, _, c', _, _, _, -, -, hf', -, -, -, hown2, -⟩ := Cond.laysFinal_spec hlay
    have e1 : c' = cf := by have := hi.symm.trans hf'; simp at this; exact this.1.symm
    rw [hd0, hCo] at hown2
    rw [← e1]; exact Option.some.inj (hown.symm.trans hown2)
  have h6 := u_fits hfc hkC hkind (Or.inr hlay) hi hd hn hfit
  refine W.putFinK hx hb hown (hts _ hlink) (show s.fieldFound? C (T k).2.1 (T k).2.2.1 = some (cf, kf, fi, f) by rw [hd0] at hi; exact hi) hst hcf hin2 (by rw [q2]; exact h6) q1 q3 (by rw [hsl]; exact k2_hasslot (q4 k hk)) rfl rfl hdg fun H' e1 e2 e3 => ?_
  rw [hsl] at e1 ⊢
  exact kk H' _ ⟨hP.set (b_D hD) he ⟨_, hc, t_OB.to (V := updV (vp_V fs) k v) ⟨_, e1, q2, q3, t_set q4 hap hk v⟩ (fun j _ => vp_updV_set hl v j)⟩ e3, hS0.put e2 e3 ha, by rw [b_mset he]; exact hD⟩
theorem b_in {i : Int32} {j n : Nat} (hi : i = nI j) (hj : j < n) (hn : n < 2 ^ 31) : vp_in i n ∧ i.toNatClampNeg = j := by
  subst hi
  exact ⟨vp_in_nI hj hn, nI_clamp (Nat.lt_trans hj hn)⟩
theorem b_iald (X : CallFix p m c cc nL s args Ts own) (E : bE G cl nw sw s) (w : bSt G cl ms s ws H locs) (q0 : Nat) {n : Nat} {f : Nat → Int32} (ha : ws[q0]? = some (a, .inl (G.2.1, n, .inl f))) {i : Int32} (j : Nat) (hi : i = nI j) (hj : j < n) (hn : n < 2 ^ 31) (hdg : decode cc pc = .ok (.iaload, 1))
    (kk : W p l e R s m args below meth c H locs cells slots Q (F0 m (pc + 1) ls (.int (f j) :: rest))) : W p l e R s m args below meth c H locs cells slots Q (F0 m pc ls (.int i :: .ref a :: rest)) := by
  obtain ⟨h1, h2⟩ := b_in hi hj hn
  exact va_iald (D := G.1) (tys := bT G) X.1 X.2.1 E.1 w.1 q0 0 ha rfl h1 hdg (by rw [h2]; exact kk)
theorem b_zald (X : CallFix p m c cc nL s args Ts own) (E : bE G cl nw sw s) (w : bSt G cl ms s ws H locs) (q0 : Nat) {n : Nat} {f : Nat → Int32} (ha : ws[q0]? = some (a, .inl (G.2.2.1, n, .inl f))) {i : Int32} (j : Nat) (hi : i = nI j) (hj : j < n) (hn : n < 2 ^ 31) (hdg : decode cc pc = .ok (.baload, 1))
    (kk : W p l e R s m args below meth c H locs cells slots Q (F0 m (pc + 1) ls (.int (f j) :: rest))) : W p l e R s m args below meth c H locs cells slots Q (F0 m pc ls (.int i :: .ref a :: rest)) := by
  obtain ⟨h1, h2⟩ := b_in hi hj hn
  exact va_zald (D := G.1) (tys := bT G) X.1 X.2.1 E.1 w.1 q0 1 ha rfl h1 hdg (by rw [h2]; exact kk)
theorem b_alen (X : CallFix p m c cc nL s args Ts own) (E : bE G cl nw sw s) (w : bSt G cl ms s ws H locs) (q0 : Nat) {n : Nat} {f : Nat → Int32} (ha : ws[q0]? = some (a, .inl (G.2.1, n, .inl f))) (hdg : decode cc pc = .ok (.arraylength, 1))
    (kk : W p l e R s m args below meth c H locs cells slots Q (F0 m (pc + 1) ls (.int (nI n) :: rest))) : W p l e R s m args below meth c H locs cells slots Q (F0 m pc ls (.ref a :: rest)) :=
  va_alen (D := G.1) (tys := bT G) X.1 X.2.1 E.1 w.1 q0 0 ha rfl rfl hdg kk
theorem b_iast (X : CallFix p m c cc nL s args Ts own) (E : bE G cl nw sw s) (w : bSt G cl ms s ws H locs) (ha0 : Aw ms s.heap.size a) (q0 : Nat) {n : Nat} {f : Nat → Int32} (ha : ws[q0]? = some (a, .inl (G.2.1, n, .inl f))) {i x : Int32} (j : Nat) (hi : i = nI j) (hj : j < n) (hn : n < 2 ^ 31) (hdg : decode cc pc = .ok (.iastore, 1))
    (kk : ∀ (H1 : Heap) (locs1 : List Loc), bSt G cl ms s (ws.set q0 (a, .inl (G.2.1, n, .inl (upd f j x)))) H1 locs1 → W p l e R s m args below meth c H1 locs1 cells slots Q (F0 m (pc + 1) ls rest)) : W p l e R s m args below meth c H locs cells slots Q (F0 m pc ls (.int x :: .int i :: .ref a :: rest)) := by
  obtain ⟨h1, h2⟩ := b_in hi hj hn
  obtain ⟨hP, hS, hD⟩ := w
  refine W.iast X.1 X.2.1 (hP q0 _ ha) ((E.1.2 0 (G.2.1, .int) rfl).1 n (fun j => .int (f j))) (fun q => by cases q) (by show ¬ (i < 0 ∨ (arrV _ _ _).slots.size ≤ _); rw [arrV_size]; exact h1) rfl rfl hdg fun H1 e z oq => ?_
  refine kk H1 _ ⟨hP.set (b_D hD) ha ?_ oq, hS.put z oq ha0, by rw [b_mset ha]; exact hD⟩
  show H1[a]? = some (vp_cell _ _)
  rw [e]
  rw [vp_cell_i, vp_cell_i, arrV_store, h2]
  congr 2
  funext q
  by_cases hq : q = j
  · subst hq
    simp [updV, upd]
  · simp [updV, upd, hq]
theorem b_zast (X : CallFix p m c cc nL s args Ts own) (E : bE G cl nw sw s) (w : bSt G cl ms s ws H locs) (ha0 : Aw ms s.heap.size a) (q0 : Nat) {n : Nat} {f : Nat → Int32} (ha : ws[q0]? = some (a, .inl (G.2.2.1, n, .inl f))) {i x : Int32} (j : Nat) (hi : i = nI j) (hj : j < n) (hn : n < 2 ^ 31) (hx0 : x = 0 ∨ x = 1) (hdg : decode cc pc = .ok (.bastore, 1))
    (kk : ∀ (H1 : Heap) (locs1 : List Loc), bSt G cl ms s (ws.set q0 (a, .inl (G.2.2.1, n, .inl (upd f j x)))) H1 locs1 → W p l e R s m args below meth c H1 locs1 cells slots Q (F0 m (pc + 1) ls rest)) : W p l e R s m args below meth c H locs cells slots Q (F0 m pc ls (.int x :: .int i :: .ref a :: rest)) := by
  obtain ⟨h1, h2⟩ := b_in hi hj hn
  obtain ⟨hP, hS, hD⟩ := w
  refine W.zast X.1 X.2.1 (hP q0 _ ha) ((E.1.2 1 (G.2.2.1, .boolean) rfl).1 n (fun j => .int (f j))) (fun q => by cases q) (by show ¬ (i < 0 ∨ (arrV _ _ _).slots.size ≤ _); rw [arrV_size]; exact h1) rfl rfl hdg fun H1 e z oq => ?_
  refine kk H1 _ ⟨hP.set (b_D hD) ha ?_ oq, hS.put z oq ha0, by rw [b_mset ha]; exact hD⟩
  have hnar : narrow .boolean (.int x) = .int x := by rcases hx0 with h | h <;> subst h <;> rfl
  show H1[a]? = some (vp_cell _ _)
  rw [e, hnar]
  rw [vp_cell_i, vp_cell_i, arrV_store, h2]
  congr 2
  funext q
  by_cases hq : q = j
  · subst hq
    simp [updV, upd]
  · simp [updV, upd, hq]
theorem b_free {A1 : Nat → Prop} (w : bSt G cl ms s ws H locs) (hmz : ∀ a ∈ mz, Aw ms s.heap.size a) : ∀ q : Nat, Aw mz H.size q → Aw ms s.heap.size q := fun q h => h.elim (hmz q) (fun z => Or.inr (Nat.le_trans w.2.1.1 z))
/-- a call that returns an int -/
theorem b_calli {S : Type} {post : Int32 → S → Prop} {w1 : S → va_W} {av : Array Value} {mc sc : Nat} (w : bSt G cl ms s ws H locs) (hr : va_Run p l e R s m args below meth c H locs cells slots mc sc (F0 m pc ls st0) rest (va_Qi post (fun (u : S) (t : State) => va_P G.1 cl (w1 u) t.heap) (Aw mz H.size) av) (Aw mz H.size))
    (hmz : ∀ a ∈ mz, Aw ms s.heap.size a) (ks : List Nat) (hw1 : ∀ u, (w1 u).map Prod.fst = mz) (hks : ks.map (fun k => (ws.map Prod.fst)[k]?) = mz.map some)
    (kk : ∀ (r : Int32) (u : S) (H1 : Heap) (locs1 : List Loc), post r u → bSt G cl ms s (bSets ws ks (w1 u)) H1 locs1 → W p l e R s m args below meth c H1 locs1 (cells + mc) (slots + sc) Q (F0 m (pc + 3) ls (.int r :: rest))) : W p l e R s m args below meth c H locs cells slots Q (F0 m pc ls st0) :=
  va_calli hr w.2.1 (fun q _ h => b_free (A1 := fun _ => True) w hmz q h) (b_free (A1 := fun _ => True) w hmz) (fun r u t H1 locs1 ht _ hp hB hz hk hS => kk r u H1 locs1 hp (by
    have h9 := b_sets w.1 w.2.2 ks (hw1 u) hks hk (by rw [← ht]; exact hB)
    exact ⟨h9.1, hS, h9.2⟩))
theorem b_callv {S : Type} {post : S → Prop} {w1 : S → va_W} {av : Array Value} {mc sc : Nat} (w : bSt G cl ms s ws H locs) (hr : va_Run p l e R s m args below meth c H locs cells slots mc sc (F0 m pc ls st0) rest (va_Qv post (fun (u : S) (t : State) => va_P G.1 cl (w1 u) t.heap) (Aw mz H.size) av) (Aw mz H.size))
    (hmz : ∀ a ∈ mz, Aw ms s.heap.size a) (ks : List Nat) (hw1 : ∀ u, (w1 u).map Prod.fst = mz) (hks : ks.map (fun k => (ws.map Prod.fst)[k]?) = mz.map some)
    (kk : ∀ (u : S) (H1 : Heap) (locs1 : List Loc), post u → bSt G cl ms s (bSets ws ks (w1 u)) H1 locs1 → W p l e R s m args below meth c H1 locs1 (cells + mc) (slots + sc) Q (F0 m (pc + 3) ls rest)) : W p l e R s m args below meth c H locs cells slots Q (F0 m pc ls st0) :=
  va_callv hr w.2.1 (fun q _ h => b_free (A1 := fun _ => True) w hmz q h) (b_free (A1 := fun _ => True) w hmz) (fun u t H1 locs1 ht _ hp hB hz hk hS => kk u H1 locs1 hp (by
    have h9 := b_sets w.1 w.2.2 ks (hw1 u) hks hk (by rw [← ht]; exact hB)
    exact ⟨h9.1, hS, h9.2⟩))
/-- what a thrown exception leaves: nothing old has changed; the class is one of Ex -/
abbrev bX (Ex : String → Prop) (sz : Nat) : String → State → State → Prop := vx_X (fun _ : Unit => True) (fun E _ _ => Ex E) (Aw [] sz)
theorem b_xcalli {S : Type} {post : Int32 → S → Prop} {w1 : S → va_W} {av : Array Value} {mc sc : Nat} {Ex : String → Prop} (w : bSt G cl ms s ws H locs) (hr : vx_Run p l e R s m args below meth c H locs cells slots mc sc (F0 m pc ls st0) rest (va_Qi post (fun (u : S) (t : State) => va_P G.1 cl (w1 u) t.heap) (Aw mz H.size) av) (bX Ex H.size) (Aw mz H.size))
    (hmz : ∀ a ∈ mz, Aw ms s.heap.size a) (ks : List Nat) (hw1 : ∀ u, (w1 u).map Prod.fst = mz) (hks : ks.map (fun k => (ws.map Prod.fst)[k]?) = mz.map some)
    (kx : ∀ (E : String) (ce : Cell) (q9 : Addr) (H1 : Heap) (locs1 : List Loc), Ex E → bSt G cl ms s ws H1 locs1 → H1[q9]? = some ce → ce.vm = .none → s.vm.findClass E = some ce.cls → vx_W p l e R s m args below meth c H1 locs1 (cells + mc) (slots + sc) Q (F0 m pc ls rest) q9)
    (kk : ∀ (r : Int32) (u : S) (H1 : Heap) (locs1 : List Loc), post r u → bSt G cl ms s (bSets ws ks (w1 u)) H1 locs1 → W p l e R s m args below meth c H1 locs1 (cells + mc) (slots + sc) Q (F0 m (pc + 3) ls (.int r :: rest))) : W p l e R s m args below meth c H locs cells slots Q (F0 m pc ls st0) :=
  vx_calli hr w.2.1 (fun q _ h => b_free (A1 := fun _ => True) w hmz q h) (b_free (A1 := fun _ => True) w hmz) (fun q _ h => b_free (A1 := fun _ => True) w b_nil q h)
    (fun E ce q9 u t H1 locs1 ht _ _ hE hz hk hS h1 h2 h3 => kx E ce q9 H1 locs1 hE ⟨w.1.kept (fun k q hq => hk q.1 (w.1 k q hq).lt (fun z => z.elim (fun z => nomatch z) (fun z => absurd (w.1 k q hq).lt (Nat.not_lt.mpr z)))), hS, w.2.2⟩ h1 h2 h3)
    (fun r u t H1 locs1 ht _ hp hB hz hk hS => kk r u H1 locs1 hp (by
    have h9 := b_sets w.1 w.2.2 ks (hw1 u) hks hk (by rw [← ht]; exact hB)
    exact ⟨h9.1, hS, h9.2⟩))
theorem b_xcallv {S : Type} {post : S → Prop} {w1 : S → va_W} {av : Array Value} {mc sc : Nat} {Ex : String → Prop} (w : bSt G cl ms s ws H locs) (hr : vx_Run p l e R s m args below meth c H locs cells slots mc sc (F0 m pc ls st0) rest (va_Qv post (fun (u : S) (t : State) => va_P G.1 cl (w1 u) t.heap) (Aw mz H.size) av) (bX Ex H.size) (Aw mz H.size))
    (hmz : ∀ a ∈ mz, Aw ms s.heap.size a) (ks : List Nat) (hw1 : ∀ u, (w1 u).map Prod.fst = mz) (hks : ks.map (fun k => (ws.map Prod.fst)[k]?) = mz.map some)
    (kx : ∀ (E : String) (ce : Cell) (q9 : Addr) (H1 : Heap) (locs1 : List Loc), Ex E → bSt G cl ms s ws H1 locs1 → H1[q9]? = some ce → ce.vm = .none → s.vm.findClass E = some ce.cls → vx_W p l e R s m args below meth c H1 locs1 (cells + mc) (slots + sc) Q (F0 m pc ls rest) q9)
    (kk : ∀ (u : S) (H1 : Heap) (locs1 : List Loc), post u → bSt G cl ms s (bSets ws ks (w1 u)) H1 locs1 → W p l e R s m args below meth c H1 locs1 (cells + mc) (slots + sc) Q (F0 m (pc + 3) ls rest)) : W p l e R s m args below meth c H locs cells slots Q (F0 m pc ls st0) :=
  vx_callv hr w.2.1 (fun q _ h => b_free (A1 := fun _ => True) w hmz q h) (b_free (A1 := fun _ => True) w hmz) (fun q _ h => b_free (A1 := fun _ => True) w b_nil q h)
    (fun E ce q9 u t H1 locs1 ht _ _ hE hz hk hS h1 h2 h3 => kx E ce q9 H1 locs1 hE ⟨w.1.kept (fun k q hq => hk q.1 (w.1 k q hq).lt (fun z => z.elim (fun z => nomatch z) (fun z => absurd (w.1 k q hq).lt (Nat.not_lt.mpr z)))), hS, w.2.2⟩ h1 h2 h3)
    (fun u t H1 locs1 ht _ hp hB hz hk hS => kk u H1 locs1 hp (by
    have h9 := b_sets w.1 w.2.2 ks (hw1 u) hks hk (by rw [← ht]; exact hB)
    exact ⟨h9.1, hS, h9.2⟩))
/-- what goes out of this method uncaught -/
theorem b_out {Qc : Array Value → State → Outcome → State → Prop} {Ex : String → Prop} {E : String} {ce : Cell} {q : Addr} {mc sc : Nat} (ht : ∀ x ∈ c.exceptionTable.toList, False) (hlocks : meth.locks = false) (w : bSt G cl [] s ws H locs) (hE : Ex E) (hcell : H[q]? = some ce) (hv : ce.vm = .none) (hcl : s.vm.findClass E = some ce.cls) (hc : cells ≤ mc) (hs : slots ≤ sc) :
    vx_W p l e R s m args below meth c H locs cells slots (vx_MQ below Qc (bX Ex s.heap.size) args s mc sc (Aw ms s.heap.size)) (F0 m pc ls rest) q :=
  vx_out (fun x hx => (ht x hx).elim) hlocks hcell hv hcl (fun t h1 _ => ⟨(), trivial, hE, w.2.1.F h1⟩) (fun z hz => (w.2.1.2.2 z hz).elim (fun h => nomatch h) Or.inr) hc hs
/-- throw new E("text") -/
theorem b_throw {Qc : Array Value → State → Outcome → State → Prop} {Ex : String → Prop} {cls text : String} {ik is ic mc sc : Nat} (X : CallFix p m c cc nL s args Ts own) (E : bE G cl nw sw s) (Z : bZ [] s) (hl : l.stackTraces = false) (ht : ∀ x ∈ c.exceptionTable.toList, False) (hlocks : meth.locks = false) (w : bSt G cl [] s ws H locs) (hE : Ex cls) (hsize : ls.size = nL)
    (hcls : Bundle.fit cls = true) (hk : Cond.classLink own ik cls ∈ Ts) (hini : Cond.initialized cls ∈ Ts) (hat : ∀ w ∈ (vx_atS own ic cls ["java/lang/RuntimeException", "java/lang/Exception"]).filter goodWord, w ∈ Ts) (hat2 : ∀ w ∈ (vx_atS own ic cls ["java/lang/RuntimeException", "java/lang/Exception"]).filter (fun w => !goodWord w), w ∈ [Cond.castable cls cls, .declares (Bundle.initS "java/lang/RuntimeException"), .declares (Bundle.initS "java/lang/Exception"), .declares (Bundle.initS "java/lang/Throwable")]) (hcast : ∀ w ∈ [Cond.castable cls cls, .declares (Bundle.initS "java/lang/RuntimeException"), .declares (Bundle.initS "java/lang/Exception"), .declares (Bundle.initS "java/lang/Throwable")], w ∈ nw)
    (hgood : ∀ w ∈ Cond.classLink own ik cls :: Cond.initialized cls :: vx_atS own ic cls ["java/lang/RuntimeException", "java/lang/Exception"], vx_ot w = true) (hstr : (own, is, text) ∈ sw)
    (d0 : decode cc pc = .ok (.new ik, 3)) (d3 : decode cc (pc + 3) = .ok (.dup, 1)) (d4 : decode cc (pc + 4) = .ok (.ldc is, 2)) (d6 : decode cc (pc + 6) = .ok (.invokespecial ic, 3)) (d9 : decode cc (pc + 9) = .ok (.athrow, 1))
    (hRframes : 5 < R.frames) (hRlocals : (rest.map fun v => v.category).sum + 82 ≤ R.locals) (hRcells : cells + 1 ≤ R.cells) (hRslots : slots + 6 ≤ R.slots) (hc : cells + 1 ≤ mc) (hs : slots + 6 ≤ sc) :
    W p l e R s m args below meth c H locs cells slots (vx_MQ below Qc (bX Ex s.heap.size) args s mc sc (Aw ms s.heap.size)) (F0 m pc ls rest) := by
  obtain ⟨sa, hsa⟩ := E.2.2 _ hstr
  refine vx_throwS (cls := cls) (text := text) (names := ["java/lang/RuntimeException", "java/lang/Exception"]) (A := Aw [] s.heap.size) X.1 X.2.1 hl X.2.2.2.1 hcls (by decide) (X.2.2.2.2 _ hk) (X.2.2.2.2 _ hini) hsa (vx_hat (B := [Cond.castable cls cls, .declares (Bundle.initS "java/lang/RuntimeException"), .declares (Bundle.initS "java/lang/Exception"), .declares (Bundle.initS "java/lang/Throwable")]) (fun w hw => X.2.2.2.2 w (hat w hw)) hat2 (vx_c (va_Nw.use rfl (E.2.1 _ (hcast _ (by simp))).2) (vx_c (va_Nw.use rfl (E.2.1 _ (hcast _ (by simp))).2) (vx_c (va_Nw.use rfl (E.2.1 _ (hcast _ (by simp))).2) (vx_c (va_Nw.use rfl (E.2.1 _ (hcast _ (by simp))).2) vx_n))))) hgood Z.1 Z.2 w.2.1 (hsize.trans X.2.2.1.symm) d0 d3 d4 d6 d9 (fun x hx => (ht x hx).elim) hRframes hRlocals hRcells hRslots hlocks
    (fun t h1 h2 h3 => ⟨(), trivial, hE, ⟨Nat.le_trans w.2.1.1 h2, fun q g1 g2 => (h3 q (Nat.lt_of_lt_of_le g1 w.2.1.1)).trans (w.2.1.2.1 q g1 g2)⟩⟩) (fun z hz => (w.2.1.2.2 z hz).elim (fun h => nomatch h) Or.inr) hc hs
theorem b_recv {q0 ci : Nat} {q : vw_C} {fs : List Value} (E : bE G cl nw sw s) (w : bSt G cl ms s ws H locs) (hc : cl[ci]? = some q) (he : ws[q0]? = some (a, .inr (ci, fs))) : ∃ cell : Cell, H[a]? = some cell ∧ cell.vm.isStatics = false ∧ s.vm.findClass q.1 = some cell.cls := va_recv E.1 w.1 hc he
end BR
/-- booleans as the machine has them -/
def bI (b : Bool) : Int32 := if b then 1 else 0
theorem bI_0 {b : Bool} : bI b = 0 ↔ b = false := by cases b <;> simp [bI]
theorem bI_n0 {b : Bool} : ¬ bI b = 0 ↔ b = true := by cases b <;> simp [bI]
theorem bI_01 (b : Bool) : bI b = 0 ∨ bI b = 1 := by cases b <;> simp [bI]
theorem bI_t : bI true = 1 := rfl
theorem bI_f : bI false = 0 := rfl
theorem bI_inj {a b : Bool} : bI a = bI b ↔ a = b := by cases a <;> cases b <;> simp [bI]
theorem bI_nar (b : Bool) : narrow .boolean (.int (bI b)) = .int (bI b) := by cases b <;> rfl
theorem nI_z {a : Nat} (h : a < 2 ^ 31) : nI a = 0 ↔ a = 0 := by rw [← nI_0]; exact nI_eq h (by decide)
def zB (b : Nat → Bool) : Nat → Int32 := fun j => bI (b j)
def uB (b : Nat → Bool) (k : Nat) (x : Bool) : Nat → Bool := fun j => if j = k then x else b j
theorem zB_upd (b : Nat → Bool) (k : Nat) (x : Bool) : upd (zB b) k (bI x) = zB (uB b k x) := by
  funext j
  by_cases h : j = k <;> simp [upd, zB, uB, h]
theorem zB_0 : (fun _ => (0 : Int32)) = zB (fun _ => false) := rfl
theorem bI_or (a b : Bool) : bI a ||| bI b = bI (a || b) := by cases a <;> cases b <;> rfl
theorem bI_and (a b : Bool) : bI a &&& bI b = bI (a && b) := by cases a <;> cases b <;> rfl
theorem q_lt {a b : Nat} (ha : a < 2 ^ 31) (hb : b < 2 ^ 31) (c : nI a < nI b) : a < b := (nI_ltI ha hb).mp c
theorem q_nlt {a b : Nat} (ha : a < 2 ^ 31) (hb : b < 2 ^ 31) (c : ¬ nI a < nI b) : b ≤ a := Nat.not_lt.mp (fun h => c ((nI_ltI ha hb).mpr h))
theorem q_le {a b : Nat} (hb : b < 2 ^ 31) (ha : a < 2 ^ 31) (c : nI a ≤ nI b) : a ≤ b := (nI_leI ha hb).mp c
theorem q_nle {a b : Nat} (hb : b < 2 ^ 31) (ha : a < 2 ^ 31) (c : ¬ nI a ≤ nI b) : b < a := Nat.not_le.mp (fun h => c ((nI_leI ha hb).mpr h))
theorem b_dec {a d : Nat} (h : d ≤ a) : nI a + Int32.ofInt (-(d : Int)) = nI (a - d) := by
  rw [← pk_sub h, Int32.sub_eq_add_neg]
  congr 1
  rw [Int32.ofInt_neg]
  rfl
theorem b_m1 {a : Nat} (h : a < 2 ^ 31) : ¬ nI a = -1 := by
  intro h9
  have := congrArg Int32.toInt h9
  rw [nI_toInt h] at this
  have h2 : (-1 : Int32).toInt = -1 := by decide
  rw [h2] at this
  omega
abbrev MIS : Int32 := -2000000001
abbrev HID : Int32 := -2000000002
theorem b_cg {D : va_G} {cl : List vw_C} {w1 w2 : va_W} {H : Heap} (h : w1 = w2) (hP : va_P D cl w1 H) : va_P D cl w2 H := h ▸ hP
section BL
variable {p : Program} {l : Launch} {e : Env} {R : Room} {s : State} {m : MethodId} {args : Array Value} {below : List Frame} {meth : Method} {c : Code} {cells slots : Nat} {Q : State → Prop}
/-- a loop at pc: I holds at its head, with the fuel that is left -/
theorem b_loop {pc : Nat} {st : List Value} (I : Nat → Heap → List Loc → Array Slot → Prop) (h0 : ∀ (H : Heap) (locs : List Loc) (ls : Array Slot), I 0 H locs ls → False)
    (step : ∀ (n : Nat) (H : Heap) (locs : List Loc) (ls : Array Slot), I (n + 1) H locs ls → (∀ (H' : Heap) (locs' : List Loc) (ls' : Array Slot), I n H' locs' ls' → W p l e R s m args below meth c H' locs' cells slots Q (F0 m pc ls' st)) → W p l e R s m args below meth c H locs cells slots Q (F0 m pc ls st))
    (n : Nat) {H : Heap} {locs : List Loc} {ls : Array Slot} (h : I n H locs ls) : W p l e R s m args below meth c H locs cells slots Q (F0 m pc ls st) := by
  induction n generalizing H locs ls with
  | zero => exact (h0 H locs ls h).elim
  | succ n ih => exact step n H locs ls h (fun H' locs' ls' h' => ih h')
end BL
