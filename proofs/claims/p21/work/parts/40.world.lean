/-! a house as one thing: what can be asked of it (hs_E), what lies beside (hs_I) -/
abbrev hs_F : Type := Nat → Int32
abbrev hs_B : Type := Nat → Bool
abbrev hs_E : Type := Nat × Nat × Nat × Nat × Nat × Nat × Nat × hs_F × hs_F × hs_F × hs_F × hs_F × hs_F × hs_F × hs_F × hs_F × hs_F × hs_B × hs_B
abbrev hs_I : Type := hs_F × hs_F × hs_F × hs_F × hs_F × hs_B
abbrev hs_jd (x : hs_E) : Nat := x.1
abbrev hs_snt (x : hs_E) : Nat := x.2.1
abbrev hs_td (x : hs_E) : Nat := x.2.2.1
abbrev hs_nA (x : hs_E) : Nat := x.2.2.2.1
abbrev hs_nJ (x : hs_E) : Nat := x.2.2.2.2.1
abbrev hs_dn (x : hs_E) : Nat := x.2.2.2.2.2.1
abbrev hs_bn (x : hs_E) : Nat := x.2.2.2.2.2.2.1
abbrev hs_fA (x : hs_E) : hs_F := x.2.2.2.2.2.2.2.1
abbrev hs_fJ (x : hs_E) : hs_F := x.2.2.2.2.2.2.2.2.1
abbrev hs_da (x : hs_E) : hs_F := x.2.2.2.2.2.2.2.2.2.1
abbrev hs_dw (x : hs_E) : hs_F := x.2.2.2.2.2.2.2.2.2.2.1
abbrev hs_dc (x : hs_E) : hs_F := x.2.2.2.2.2.2.2.2.2.2.2.1
abbrev hs_dv (x : hs_E) : hs_F := x.2.2.2.2.2.2.2.2.2.2.2.2.1
abbrev hs_bc (x : hs_E) : hs_F := x.2.2.2.2.2.2.2.2.2.2.2.2.2.1
abbrev hs_bd (x : hs_E) : hs_F := x.2.2.2.2.2.2.2.2.2.2.2.2.2.2.1
abbrev hs_bf (x : hs_E) : hs_F := x.2.2.2.2.2.2.2.2.2.2.2.2.2.2.2.1
abbrev hs_rf (x : hs_E) : hs_F := x.2.2.2.2.2.2.2.2.2.2.2.2.2.2.2.2.1
abbrev hs_on (x : hs_E) : hs_B := x.2.2.2.2.2.2.2.2.2.2.2.2.2.2.2.2.2.1
abbrev hs_sc (x : hs_E) : hs_B := x.2.2.2.2.2.2.2.2.2.2.2.2.2.2.2.2.2.2
abbrev hi_lat (i : hs_I) : hs_F := i.1
abbrev hi_ear (i : hs_I) : hs_F := i.2.1
abbrev hi_cnt (i : hs_I) : hs_F := i.2.2.1
abbrev hi_ld (i : hs_I) : hs_F := i.2.2.2.1
abbrev hi_v (i : hs_I) : hs_F := i.2.2.2.2.1
abbrev hi_hid (i : hs_I) : hs_B := i.2.2.2.2.2
def hs_W (G : bG) (a : Nat → Nat) (x : hs_E) (i : hs_I) : va_W := [(a 0, .inr (5, [.ref (a 1), .ref (a 3), .ref (a 5), .ref (a 7), .ref (a 12), .ref (a 20), .ref (a 23), .ref (a 24), .int (nI (hs_jd x)), .int (nI (hs_snt x)), .int (nI (hs_td x))])), (a 1, .inr (4, [.ref (a 2), .int (nI 10), .int (nI (hs_nA x))])), (a 2, .inl (G.2.1, 14, .inl (hs_fA x))), (a 3, .inr (4, [.ref (a 4), .int (nI 1), .int (nI (hs_nJ x))])), (a 4, .inl (G.2.1, 10, .inl (hs_fJ x))), (a 5, .inr (0, [.ref (a 6)])), (a 6, .inl (G.2.2.1, 56, .inl (zB (hs_on x)))), (a 7, .inr (2, [.ref (a 8), .ref (a 9), .ref (a 10), .ref (a 11), .int (nI (hs_dn x))])), (a 8, .inl (G.2.1, 16, .inl (hs_dw x))), (a 9, .inl (G.2.1, 16, .inl (hs_da x))), (a 10, .inl (G.2.1, 16, .inl (hs_dc x))), (a 11, .inl (G.2.1, 16, .inl (hs_dv x))), (a 12, .inr (1, [.ref (a 13), .ref (a 14), .ref (a 15), .ref (a 16), .ref (a 17), .ref (a 18), .ref (a 19), .int (nI (hs_bn x))])), (a 13, .inl (G.2.1, 1680, .inl (hi_lat i))), (a 14, .inl (G.2.1, 1680, .inl (hi_ear i))), (a 15, .inl (G.2.1, 1680, .inl (hi_cnt i))), (a 16, .inl (G.2.1, 1680, .inl (hi_ld i))), (a 17, .inl (G.2.1, 300, .inl (hs_bc x))), (a 18, .inl (G.2.1, 300, .inl (hs_bd x))), (a 19, .inl (G.2.1, 300, .inl (hs_bf x))), (a 20, .inr (3, [.ref (a 21), .ref (a 22)])), (a 21, .inl (G.2.1, 140, .inl (hi_v i))), (a 22, .inl (G.2.2.1, 140, .inl (zB (hi_hid i)))), (a 23, .inl (G.2.2.1, 1680, .inl (zB (hs_sc x)))), (a 24, .inl (G.2.1, 16, .inl (hs_rf x)))]
def hs_M (a : Nat → Nat) : List Nat := [a 0, a 1, a 2, a 3, a 4, a 5, a 6, a 7, a 8, a 9, a 10, a 11, a 12, a 13, a 14, a 15, a 16, a 17, a 18, a 19, a 20, a 21, a 22, a 23, a 24]
def hs_Inv (x : hs_E) (i : hs_I) : Prop := Inv (hs_nA x) (hs_nJ x) (hs_td x) (hs_snt x) (hs_jd x) (hs_dn x) (hs_bn x) (hs_fA x) (hs_fJ x) (hs_da x) (hs_dc x) (hs_bc x) (hs_bd x) (hs_bf x) (hi_lat i) (hi_ear i) (hi_cnt i) (hi_ld i)
def hs_25 : List Nat := List.range 25
theorem hs_fst {G : bG} {a : Nat → Nat} {x : hs_E} {i : hs_I} : (hs_W G a x i).map Prod.fst = hs_M a := rfl
theorem hs_ks {G : bG} {a : Nat → Nat} {x : hs_E} {i : hs_I} : hs_25.map (fun k => ((hs_W G a x i).map Prod.fst)[k]?) = (hs_M a).map some := rfl
theorem hs_sets : ∀ (w1 ws pre : va_W), ws.length = w1.length → bSets (pre ++ ws) (List.range' pre.length w1.length) w1 = pre ++ w1
  | [], ws, pre, h => by
    have h1 : ws = [] := List.length_eq_zero_iff.mp h
    subst h1; rfl
  | c :: cs, [], pre, h => by simp at h
  | c :: cs, d :: ds, pre, h => by
    have e : (pre ++ d :: ds).set pre.length c = (pre ++ [c]) ++ ds := by simp [List.set_append]
    have h2 := hs_sets cs ds (pre ++ [c]) (by simpa using h)
    have e2 : (pre ++ [c]).length = pre.length + 1 := by simp
    rw [e2] at h2
    show bSets ((pre ++ d :: ds).set pre.length c) (List.range' (pre.length + 1) cs.length) cs = _
    rw [e, h2]
    simp
theorem hs_set {G : bG} {a : Nat → Nat} {x x' : hs_E} {i i' : hs_I} : bSets (hs_W G a x i) hs_25 (hs_W G a x' i') = hs_W G a x' i' := by
  have h := hs_sets (hs_W G a x' i') (hs_W G a x i) [] rfl
  have e : List.range' ([] : va_W).length (hs_W G a x' i').length = hs_25 := rfl
  rw [e] at h
  exact h
theorem hs_self {G : bG} {a : Nat → Nat} {x : hs_E} {i : hs_I} : hs_25.map (fun k => (hs_W G a x i)[k]?) = (hs_W G a x i).map some := rfl
theorem hs_pre {G : bG} {a : Nat → Nat} {x : hs_E} {i : hs_I} {nw : List Cond} {sw : List (String × Nat × String)} {ms : List Nat} {s : State} {H : Heap} {locs : List Loc} (E : bE G vwCl nw sw s) (Z : bZ ms s) (w : bSt G vwCl ms s (hs_W G a x i) H locs) (hm : ∀ q ∈ hs_M a, Aw ms s.heap.size q) (U : State) (hU : U.heap = H) (hW : s.WarmedH U.vm) : bPre G vwCl nw sw H.size (hs_W G a x i) (hs_M a) U := b_pre E Z w hs_25 (by decide) hs_self hm U hU hW
section HSC
variable {p : Program} {l : Launch} {e : Env} {R : Room} {s : State} {m : MethodId} {args : Array Value} {below : List Frame} {meth : Method} {c : Code} {H : Heap} {locs : List Loc} {cells slots : Nat} {Q : State → Prop}
variable {pc : Nat} {ls : Array Slot} {rest st0 : List Value} {G : bG} {ms : List Nat} {a : Nat → Nat} {x x' : hs_E} {i : hs_I}
theorem hs_calli {post : Int32 → hs_I → Prop} {av : Array Value} {mc sc : Nat} (w : bSt G vwCl ms s (hs_W G a x i) H locs) (hr : va_Run p l e R s m args below meth c H locs cells slots mc sc (F0 m pc ls st0) rest (va_Qi post (fun (u : hs_I) (t : State) => va_P G.1 vwCl (hs_W G a x' u) t.heap) (Aw (hs_M a) H.size) av) (Aw (hs_M a) H.size))
    (hm : ∀ q ∈ hs_M a, Aw ms s.heap.size q)
    (kk : ∀ (r : Int32) (u : hs_I) (H1 : Heap) (locs1 : List Loc), post r u → bSt G vwCl ms s (hs_W G a x' u) H1 locs1 → W p l e R s m args below meth c H1 locs1 (cells + mc) (slots + sc) Q (F0 m (pc + 3) ls (.int r :: rest))) : W p l e R s m args below meth c H locs cells slots Q (F0 m pc ls st0) :=
  b_calli w hr hm hs_25 (fun _ => hs_fst) hs_ks (fun r u H1 locs1 h1 h2 => kk r u H1 locs1 h1 (by rw [hs_set] at h2; exact h2))
theorem hs_xcalli {post : Int32 → hs_I → Prop} {av : Array Value} {mc sc : Nat} {Ex : String → Prop} (w : bSt G vwCl ms s (hs_W G a x i) H locs) (hr : vx_Run p l e R s m args below meth c H locs cells slots mc sc (F0 m pc ls st0) rest (va_Qi post (fun (u : hs_I) (t : State) => va_P G.1 vwCl (hs_W G a x' u) t.heap) (Aw (hs_M a) H.size) av) (bX Ex H.size) (Aw (hs_M a) H.size))
    (hm : ∀ q ∈ hs_M a, Aw ms s.heap.size q)
    (kx : ∀ (E : String) (ce : Cell) (q9 : Addr) (H1 : Heap) (locs1 : List Loc), Ex E → bSt G vwCl ms s (hs_W G a x i) H1 locs1 → H1[q9]? = some ce → ce.vm = .none → s.vm.findClass E = some ce.cls → vx_W p l e R s m args below meth c H1 locs1 (cells + mc) (slots + sc) Q (F0 m pc ls rest) q9)
    (kk : ∀ (r : Int32) (u : hs_I) (H1 : Heap) (locs1 : List Loc), post r u → bSt G vwCl ms s (hs_W G a x' u) H1 locs1 → W p l e R s m args below meth c H1 locs1 (cells + mc) (slots + sc) Q (F0 m (pc + 3) ls (.int r :: rest))) : W p l e R s m args below meth c H locs cells slots Q (F0 m pc ls st0) :=
  b_xcalli w hr hm hs_25 (fun _ => hs_fst) hs_ks kx (fun r u H1 locs1 h1 h2 => kk r u H1 locs1 h1 (by rw [hs_set] at h2; exact h2))
end HSC
/-! a contract over some cells, as one over the whole house -/
section HSF
variable {l : Launch} {y : MethodName} {wl : List Cond} {rm : Room} {As : List Value} {G : bG} {nw : List Cond} {sw : List (String × Nat × String)} {sz mc sc : Nat} {ws0 wsF : va_W} {ms0 msF : List Nat} {S S' : Type} {post : Int32 → S → Prop} {post' : Int32 → S' → Prop} {w1 : S → va_W} {w1' : S' → va_W} {Ex Ex' : String → Prop}
theorem hs_sub {A B : List Nat} {n : Nat} (js : List Nat) (h : js.map (fun i => B[i]?) = A.map some) : ∀ q, Aw A n q → Aw B n q := fun q z => z.elim (fun z => Or.inl (b_subL js h q z)) Or.inr
theorem hs_prF (is : List Nat) (hn : va_nd is = true) (hsub : is.map (fun i => wsF[i]?) = ws0.map some) (js : List Nat) (hms : js.map (fun i => msF[i]?) = ms0.map some) {U : State} (h : bPre G vwCl nw sw sz wsF msF U) : bPre G vwCl nw sw sz ws0 ms0 U := by
  obtain ⟨h0, hP, hap, hE0, hZ1, hZ2⟩ := h
  refine ⟨h0, ?_, b_ap ((b_D hap).sub is hn hsub), hE0, hZ1.narrow (hs_sub js hms), hZ2.narrow (hs_sub js hms)⟩
  intro k q hk
  have h1 : (is.map (fun i => wsF[i]?))[k]? = some (some q) := by rw [hsub, List.getElem?_map, hk]; rfl
  rw [List.getElem?_map] at h1
  cases hi : is[k]? with
  | none => rw [hi] at h1; cases h1
  | some i => rw [hi] at h1; exact hP i q (Option.some.inj h1)
theorem hs_poF (js : List Nat) (hms : js.map (fun i => msF[i]?) = ms0.map some) (ks : List Nat) (hw1 : ∀ u, (w1 u).map Prod.fst = ms0) (hks : ks.map (fun k => (wsF.map Prod.fst)[k]?) = ms0.map some) (hq : ∀ r u, post r u → ∃ u', post' r u' ∧ bSets wsF ks (w1 u) = w1' u')
    {av : Array Value} {s t : State} {o : Outcome} (hp : bPre G vwCl nw sw sz wsF msF s) (h : va_Qi post (fun u (tS : State) => va_P G.1 vwCl (w1 u) tS.heap) (Aw ms0 sz) av s o t) : va_Qi post' (fun u (tS : State) => va_P G.1 vwCl (w1' u) tS.heap) (Aw msF sz) av s o t := by
  obtain ⟨h0, hP, hap, -, -⟩ := hp
  obtain ⟨⟨r, u, e1, e2, e3⟩, hF⟩ := h
  obtain ⟨u', p1, p2⟩ := hq r u e2
  refine ⟨⟨r, u', e1, p1, ?_⟩, hF.1, fun q h1 h2 => hF.2 q h1 (fun z => h2 (hs_sub js hms q z))⟩
  show va_P G.1 vwCl (w1' u') t.heap
  rw [← p2]
  exact (b_sets hP hap ks (hw1 u) hks (fun q h1 h2 => hF.2 q h1 (by rw [h0] at h2; exact h2)) e3).1
theorem hs_fr (h : vx_Met l y wl rm (va_Pc As (bPre G vwCl nw sw sz ws0 ms0)) (va_Qi post (fun u (tS : State) => va_P G.1 vwCl (w1 u) tS.heap) (Aw ms0 sz)) (bX Ex sz) mc sc (Aw ms0 sz))
    (is : List Nat) (hn : va_nd is = true) (hsub : is.map (fun i => wsF[i]?) = ws0.map some) (js : List Nat) (hms : js.map (fun i => msF[i]?) = ms0.map some) (ks : List Nat) (hw1 : ∀ u, (w1 u).map Prod.fst = ms0) (hks : ks.map (fun k => (wsF.map Prod.fst)[k]?) = ms0.map some)
    (hq : ∀ r u, post r u → ∃ u', post' r u' ∧ bSets wsF ks (w1 u) = w1' u') (hE : ∀ E, Ex E → Ex' E) :
    vx_Met l y wl rm (va_Pc As (bPre G vwCl nw sw sz wsF msF)) (va_Qi post' (fun u (tS : State) => va_P G.1 vwCl (w1' u) tS.heap) (Aw msF sz)) (bX Ex' sz) mc sc (Aw msF sz) := by
  unfold vx_Met at h ⊢
  refine MetFree.mono h (fun a s hp => ⟨hp.1, hs_prF is hn hsub js hms hp.2⟩) (fun _ _ _ _ _ z => z) (fun a s o t hp hQ => ?_)
  rcases hQ with ⟨hQ, L, f1, f2⟩ | ⟨q, e1, E, ce, L, ⟨u, -, hX, hF⟩, g1⟩
  · exact Or.inl ⟨hs_poF js hms ks hw1 hks hq hp.2 hQ, L, f1, fun z hz => hs_sub js hms _ (f2 z hz)⟩
  · obtain ⟨k1, k2, k3, k4, k5, k6⟩ := g1
    exact Or.inr ⟨q, e1, E, ce, L, ⟨u, trivial, hE E hX, hF⟩, k1, k2, k3, k4, k5, fun z hz => hs_sub js hms _ (k6 z hz)⟩
theorem hs_frM (h : Met l y wl rm (va_Pc As (bPre G vwCl nw sw sz ws0 ms0)) (va_Qi post (fun u (tS : State) => va_P G.1 vwCl (w1 u) tS.heap) (Aw ms0 sz)) mc sc (Aw ms0 sz))
    (is : List Nat) (hn : va_nd is = true) (hsub : is.map (fun i => wsF[i]?) = ws0.map some) (js : List Nat) (hms : js.map (fun i => msF[i]?) = ms0.map some) (ks : List Nat) (hw1 : ∀ u, (w1 u).map Prod.fst = ms0) (hks : ks.map (fun k => (wsF.map Prod.fst)[k]?) = ms0.map some)
    (hq : ∀ r u, post r u → ∃ u', post' r u' ∧ bSets wsF ks (w1 u) = w1' u') :
    Met l y wl rm (va_Pc As (bPre G vwCl nw sw sz wsF msF)) (va_Qi post' (fun u (tS : State) => va_P G.1 vwCl (w1' u) tS.heap) (Aw msF sz)) mc sc (Aw msF sz) := by
  unfold Met at h ⊢
  refine MetFree.mono h (fun a s hp => ⟨hp.1, hs_prF is hn hsub js hms hp.2⟩) (fun _ _ _ _ _ z => z) (fun a s o t hp hQ => ?_)
  obtain ⟨hQ, L, f1, f2⟩ := hQ
  exact ⟨hs_poF js hms ks hw1 hks hq hp.2 hQ, L, f1, fun z hz => hs_sub js hms _ (f2 z hz)⟩
/-- what can't throw -/
theorem hs_nx {Pc : Array Value → State → Prop} {Qc : Array Value → State → Outcome → State → Prop} {free : Addr → Prop} (h : vx_Met l y wl rm Pc Qc (bX Ex sz) mc sc free) (hno : ∀ E, Ex E → False) : Met l y wl rm Pc Qc mc sc free := by
  unfold vx_Met at h
  unfold Met
  refine MetFree.mono h (fun _ _ z => z) (fun _ _ _ _ _ z => z) (fun a s o t hp hQ => ?_)
  rcases hQ with hQ | ⟨q, e1, E, ce, L, ⟨u, -, hX, hF⟩, g1⟩
  · exact hQ
  · exact (hno E hX).elim
end HSF
