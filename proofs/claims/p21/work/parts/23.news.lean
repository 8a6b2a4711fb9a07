/-! new objects and rows, in worlds of my form -/
section BW
variable {p : Program} {l : Launch} {e : Env} {R : Room} {s : State} {m : MethodId} {args : Array Value} {below : List Frame} {meth : Method} {c : Code} {H : Heap} {locs : List Loc} {cells slots : Nat} {Q : State → Prop}
variable {cc : ByteArray} {pc nL : Nat} {ls : Array Slot} {rest st0 : List Value} {G : bG} {cl : List vw_C} {nw : List Cond} {sw : List (String × Nat × String)} {ms : List Nat} {ws : va_W} {Ts : List Cond} {own : String} {a : Nat}
/-- a world with one more cell, the next of the heap -/
theorem b_app {H1 : Heap} {c1 : va_E} (w : bSt G cl ms s ws H locs) (z1 : H1.size = H.size + 1) (o1 : ∀ q, q < H.size → H1[q]? = H[q]?) (hat : va_at G.1 cl (H.size, c1) H1) : bSt G cl ms s (ws ++ [(H.size, c1)]) H1 locs := by
  obtain ⟨hP, hS, hD⟩ := w
  have hk : ∀ (k : Nat) (x : Nat × va_E), ws[k]? = some x → H1[x.1]? = H[x.1]? := fun k x hx => o1 x.1 ((hP k x hx).lt)
  refine ⟨(hP.kept hk).app (fun k x hx => ?_), ⟨Nat.le_trans hS.1 (by omega), fun x h1 h2 => (o1 x (Nat.lt_of_lt_of_le h1 hS.1)).trans (hS.2.1 x h1 h2), hS.2.2⟩, b_ap ((b_D hD).push hP rfl trivial)⟩
  have hz : k < 1 := (List.getElem?_eq_some_iff.mp hx).1
  rw [show k = 0 by omega] at hx
  cases hx
  exact hat
theorem b_new (X : CallFix p m c cc nL s args Ts own) (E : bE G cl nw sw s) (w : bSt G cl ms s ws H locs) {C : String} {T : u_T} {N ci index : Nat} (hin : ∀ w ∈ u_ws C T N, w ∈ Ts) (ty : Nat → FieldType) (hty : ∀ k, k < N → parseFieldDescriptor (T k).2.2.1 = some (ty k)) (hcl : Cond.classLink own index C ∈ Ts) (hinst : Cond.instantiable C N ∈ Ts) (hini : Cond.initialized C ∈ Ts)
    (hc : cl[ci]? = some (C, T, N)) {fs : List Value} (hfs : ∀ j, j < N → defaultValue (ty j) = vp_V fs j) (hcells : cells + 1 ≤ R.cells) (hslots : slots + N ≤ R.slots) (hdg : decode cc pc = .ok (.new index, 3))
    (kk : ∀ (q : Nat) (H1 : Heap), s.heap.size ≤ q → bSt G cl ms s (ws ++ [(q, .inr (ci, fs))]) H1 locs → W p l e R s m args below meth c H1 locs (cells + 1) (slots + N) Q (F0 m (pc + 3) ls (.ref q :: rest))) : W p l e R s m args below meth c H locs cells slots Q (F0 m pc ls rest) := by
  have hKn := E.1.1 ci _ hc
  refine W.newcK X.1 X.2.1 X.2.2.2.1 (X.2.2.2.2 _ hcl) (X.2.2.2.2 _ hinst) (X.2.2.2.2 _ hini) rfl hdg hcells hslots hKn.2.1 rfl fun H1 kC hkC e1 z1 o1 => ?_
  exact kk H.size H1 w.2.1.1 (b_app w z1 o1 ⟨_, hc, (u_born ty X.2.2.2.2 hin hKn hkC e1 hty).to hfs⟩)
theorem b_newI (X : CallFix p m c cc nL s args Ts own) (E : bE G cl nw sw s) (w : bSt G cl ms s ws H locs) (harr : Cond.arrayClass .int ∈ Ts) {n : Int32} (N : Nat) (hn : ¬ n < 0) (hN : n.toNatClampNeg = N) (hbytes : N * 4 ≤ 536870912) (hcells : cells + 1 ≤ R.cells) (hslots : slots + N ≤ R.slots) (hdg : decode cc pc = .ok (.newarray .int, 2))
    (kk : ∀ (q : Nat) (H1 : Heap), s.heap.size ≤ q → bSt G cl ms s (ws ++ [(q, .inl (G.2.1, N, .inl (fun _ => 0)))]) H1 locs → W p l e R s m args below meth c H1 locs (cells + 1) (slots + N) Q (F0 m (pc + 2) ls (.ref q :: rest))) : W p l e R s m args below meth c H locs cells slots Q (F0 m pc ls (.int n :: rest)) := by
  refine va_newaK (atype := .int) X.1 X.2.1 (X.2.2.2.2 _ harr) rfl hdg rfl hn hN hbytes hcells hslots rfl fun H1 cA e1 z1 o1 hAr hNm => ?_
  have hc : G.2.1 = cA := Option.some.inj ((E.1.2 0 (G.2.1, .int) rfl).2.symm.trans hNm)
  refine kk H.size H1 w.2.1.1 (b_app w z1 o1 ?_)
  show H1[H.size]? = some (vp_cell _ _)
  rw [e1, hc]; rfl
theorem b_newZ (X : CallFix p m c cc nL s args Ts own) (E : bE G cl nw sw s) (w : bSt G cl ms s ws H locs) (harr : Cond.arrayClass .boolean ∈ Ts) {n : Int32} (N : Nat) (hn : ¬ n < 0) (hN : n.toNatClampNeg = N) (hbytes : N * 1 ≤ 536870912) (hcells : cells + 1 ≤ R.cells) (hslots : slots + N ≤ R.slots) (hdg : decode cc pc = .ok (.newarray .boolean, 2))
    (kk : ∀ (q : Nat) (H1 : Heap), s.heap.size ≤ q → bSt G cl ms s (ws ++ [(q, .inl (G.2.2.1, N, .inl (zB (fun _ => false))))]) H1 locs → W p l e R s m args below meth c H1 locs (cells + 1) (slots + N) Q (F0 m (pc + 2) ls (.ref q :: rest))) : W p l e R s m args below meth c H locs cells slots Q (F0 m pc ls (.int n :: rest)) := by
  refine va_newaK (atype := .boolean) X.1 X.2.1 (X.2.2.2.2 _ harr) rfl hdg rfl hn hN hbytes hcells hslots rfl fun H1 cA e1 z1 o1 hAr hNm => ?_
  have hc : G.2.2.1 = cA := Option.some.inj ((E.1.2 1 (G.2.2.1, .boolean) rfl).2.symm.trans hNm)
  refine kk H.size H1 w.2.1.1 (b_app w z1 o1 ?_)
  show H1[H.size]? = some (vp_cell _ _)
  rw [e1, hc]; rfl
/-- what a constructor leaves: its object, and new cells behind it -/
def bCt {S : Type} (G : bG) (cl : List vw_C) (sz : Nat) (w1 : S → Nat × va_E) (nc : S → va_W) : S → State → Prop := fun u t => va_P G.1 cl (w1 u :: nc u) t.heap ∧ apL ((w1 u :: nc u).map Prod.fst) ∧ ∀ q ∈ (nc u).map Prod.fst, sz ≤ q
theorem b_callc {S : Type} {post : S → Prop} {w1 : S → Nat × va_E} {nc : S → va_W} {av : Array Value} {mc sc h : Nat} (w : bSt G cl ms s ws H locs) (hr : va_Run p l e R s m args below meth c H locs cells slots mc sc (F0 m pc ls st0) rest (va_Qv post (bCt G cl H.size w1 nc) (Aw [h] H.size) av) (Aw [h] H.size))
    (hh : Aw ms s.heap.size h) (k : Nat) (hw1 : ∀ u, (w1 u).1 = h) (hks : (ws.map Prod.fst)[k]? = some h)
    (kk : ∀ (u : S) (H1 : Heap) (locs1 : List Loc), post u → (∀ q ∈ (nc u).map Prod.fst, s.heap.size ≤ q) → bSt G cl ms s (ws.set k (w1 u) ++ nc u) H1 locs1 → W p l e R s m args below meth c H1 locs1 (cells + mc) (slots + sc) Q (F0 m (pc + 3) ls rest)) : W p l e R s m args below meth c H locs cells slots Q (F0 m pc ls st0) := by
  have hf : ∀ q : Nat, Aw [h] H.size q → Aw ms s.heap.size q := fun q z => z.elim (fun z => by rw [List.mem_singleton.mp z]; exact hh) (fun z => Or.inr (Nat.le_trans w.2.1.1 z))
  refine va_callv hr w.2.1 (fun q _ z => hf q z) hf (fun u t H1 locs1 ht _ hp hB hz hk hS => kk u H1 locs1 hp (fun q hq => Nat.le_trans w.2.1.1 (hB.2.2 q hq)) ?_)
  obtain ⟨hP1, hA1, hN1⟩ := hB
  rw [ht] at hP1
  have h1 : va_P G.1 cl [w1 u] H1 := fun k9 q hq => hP1 k9 q (by
    have hz9 : k9 < 1 := (List.getElem?_eq_some_iff.mp hq).1
    rw [show k9 = 0 by omega] at hq ⊢
    exact hq)
  have h2 : va_P G.1 cl (nc u) H1 := fun k9 q hq => hP1 (k9 + 1) q (by simpa using hq)
  have h9 := b_sets (mz := [h]) w.1 w.2.2 [k] (w1 := [w1 u]) (by simp [hw1]) (by simpa using hks) hk h1
  have h8 : va_P G.1 cl (ws.set k (w1 u)) H1 := h9.1
  have h7 : apL ((ws.set k (w1 u)).map Prod.fst) := h9.2
  refine ⟨h8.app h2, hS, b_ap ((b_D h7).app (b_D (ws := nc u) ?_) ?_)⟩
  · intro i j a9 hi hj
    have := hA1 (i + 1) (j + 1) a9 (by simpa using hi) (by simpa using hj)
    omega
  · intro i j x y hx hy hxy
    have hm : (ws.set k (w1 u)).map Prod.fst = ws.map Prod.fst := b_mset2 (by rw [hks, hw1])
    have e1 : (ws.map Prod.fst)[i]? = some x.1 := by rw [← hm, List.getElem?_map, hx]; rfl
    rw [List.getElem?_map] at e1
    cases e2 : ws[i]? with
    | none => rw [e2] at e1; cases e1
    | some z =>
      rw [e2] at e1
      have e3 : z.1 = x.1 := Option.some.inj e1
      have hlt := (w.1 i z e2).lt
      have hge := hN1 y.1 (List.mem_map.mpr ⟨y, List.mem_of_getElem? hy, rfl⟩)
      omega
end BW
theorem b_inn {P : Nat → Prop} : ∀ a ∈ ([] : List Nat), P a := fun _ h => nomatch h
theorem b_inc {P : Nat → Prop} {x : Nat} {l : List Nat} (h : P x) (t : ∀ a ∈ l, P a) : ∀ a ∈ x :: l, P a := fun a ha => (List.mem_cons.mp ha).elim (fun e => e ▸ h) (t a)
theorem b_inn2 {sz : Nat} : ∀ a ∈ ([] : List Nat), sz ≤ a := fun _ h => nomatch h
theorem b_inc2 {sz x : Nat} {l : List Nat} (h : sz ≤ x) (t : ∀ a ∈ l, sz ≤ a) : ∀ a ∈ x :: l, sz ≤ a := fun a ha => (List.mem_cons.mp ha).elim (fun e => e ▸ h) (t a)
