section
-- ===== PART A: goes FIRST, ahead of the names: the tables' words, and 'selects' of the private methods out of them =====
/-- a private method of a class that the tables say can be made, by its rows of tables_1 -/
def lw_okq (q : MethodName × Nat) : Prop := (q.1.cls ≠ "java/lang/invoke/MethodHandle" ∧ q.1.cls ≠ "java/lang/invoke/VarHandle") ∧ Cond.instantiable q.1.cls q.2 ∈ tables_1 ∧ Cond.privateMethod q.1 ∈ tables_1 ∧ Cond.instanceMethod q.1 ∈ tables_1
theorem lw_p0 : lw_okq (⟨"java/lang/Throwable", "fillInStackTrace", "(I)Ljava/lang/Throwable;"⟩, 6) := ⟨⟨by decide +kernel, by decide +kernel⟩, List.mem_of_getElem? (i := 235) (by decide +kernel), List.mem_of_getElem? (i := 233) (by decide +kernel), List.mem_of_getElem? (i := 234) (by decide +kernel)⟩
theorem lw_p1 : lw_okq (⟨"Figurehouse", "requireArea", "(I)V"⟩, 11) := ⟨⟨by decide +kernel, by decide +kernel⟩, List.mem_of_getElem? (i := 17) (by decide +kernel), List.mem_of_getElem? (i := 310) (by decide +kernel), List.mem_of_getElem? (i := 311) (by decide +kernel)⟩
theorem lw_p2 : lw_okq (⟨"Figurehouse", "requireCell", "(III)I"⟩, 11) := ⟨⟨by decide +kernel, by decide +kernel⟩, List.mem_of_getElem? (i := 17) (by decide +kernel), List.mem_of_getElem? (i := 327) (by decide +kernel), List.mem_of_getElem? (i := 328) (by decide +kernel)⟩
theorem lw_p3 : lw_okq (⟨"Figurehouse", "judgeDraft", "(I)I"⟩, 11) := ⟨⟨by decide +kernel, by decide +kernel⟩, List.mem_of_getElem? (i := 17) (by decide +kernel), List.mem_of_getElem? (i := 378) (by decide +kernel), List.mem_of_getElem? (i := 379) (by decide +kernel)⟩
theorem lw_p4 : lw_okq (⟨"Figurehouse", "judge", "(II)I"⟩, 11) := ⟨⟨by decide +kernel, by decide +kernel⟩, List.mem_of_getElem? (i := 17) (by decide +kernel), List.mem_of_getElem? (i := 382) (by decide +kernel), List.mem_of_getElem? (i := 383) (by decide +kernel)⟩
theorem lw_p5 : lw_okq (⟨"Figurehouse", "loadHidden", "(I)V"⟩, 11) := ⟨⟨by decide +kernel, by decide +kernel⟩, List.mem_of_getElem? (i := 17) (by decide +kernel), List.mem_of_getElem? (i := 420) (by decide +kernel), List.mem_of_getElem? (i := 421) (by decide +kernel)⟩
theorem lw_p6 : lw_okq (⟨"Figurehouse$Sheet", "loadFigures", "(LFigurehouse$Book;II)V"⟩, 2) := ⟨⟨by decide +kernel, by decide +kernel⟩, List.mem_of_getElem? (i := 126) (by decide +kernel), List.mem_of_getElem? (i := 428) (by decide +kernel), List.mem_of_getElem? (i := 429) (by decide +kernel)⟩
theorem lw_p7 : lw_okq (⟨"Figurehouse$Sheet", "goThroughRows", "(LFigurehouse$Tree;LFigurehouse$Tree;Z)Z"⟩, 2) := ⟨⟨by decide +kernel, by decide +kernel⟩, List.mem_of_getElem? (i := 126) (by decide +kernel), List.mem_of_getElem? (i := 454) (by decide +kernel), List.mem_of_getElem? (i := 455) (by decide +kernel)⟩
theorem lw_p8 : lw_okq (⟨"Figurehouse$Sheet", "protectRow", "(LFigurehouse$Tree;II)Z"⟩, 2) := ⟨⟨by decide +kernel, by decide +kernel⟩, List.mem_of_getElem? (i := 126) (by decide +kernel), List.mem_of_getElem? (i := 458) (by decide +kernel), List.mem_of_getElem? (i := 459) (by decide +kernel)⟩
theorem lw_p9 : lw_okq (⟨"Figurehouse$Sheet", "countHiddenInRow", "(LFigurehouse$Tree;II)I"⟩, 2) := ⟨⟨by decide +kernel, by decide +kernel⟩, List.mem_of_getElem? (i := 126) (by decide +kernel), List.mem_of_getElem? (i := 462) (by decide +kernel), List.mem_of_getElem? (i := 463) (by decide +kernel)⟩
theorem lw_p10 : lw_okq (⟨"Figurehouse$Sheet", "nearestOpenSlot", "(LFigurehouse$Tree;II)I"⟩, 2) := ⟨⟨by decide +kernel, by decide +kernel⟩, List.mem_of_getElem? (i := 126) (by decide +kernel), List.mem_of_getElem? (i := 470) (by decide +kernel), List.mem_of_getElem? (i := 471) (by decide +kernel)⟩
theorem lw_p11 : lw_okq (⟨"Figurehouse", "requireDay", "(I)V"⟩, 11) := ⟨⟨by decide +kernel, by decide +kernel⟩, List.mem_of_getElem? (i := 17) (by decide +kernel), List.mem_of_getElem? (i := 497) (by decide +kernel), List.mem_of_getElem? (i := 498) (by decide +kernel)⟩
theorem lw_p12 : lw_okq (⟨"Figurehouse", "matchAt", "(IIIIII)I"⟩, 11) := ⟨⟨by decide +kernel, by decide +kernel⟩, List.mem_of_getElem? (i := 17) (by decide +kernel), List.mem_of_getElem? (i := 566) (by decide +kernel), List.mem_of_getElem? (i := 567) (by decide +kernel)⟩
theorem lw_p13 : lw_okq (⟨"FigurehouseModel", "isArea", "(I)Z"⟩, 21) := ⟨⟨by decide +kernel, by decide +kernel⟩, List.mem_of_getElem? (i := 582) (by decide +kernel), List.mem_of_getElem? (i := 660) (by decide +kernel), List.mem_of_getElem? (i := 661) (by decide +kernel)⟩
theorem lw_p14 : lw_okq (⟨"FigurehouseModel", "isItem", "(I)Z"⟩, 21) := ⟨⟨by decide +kernel, by decide +kernel⟩, List.mem_of_getElem? (i := 582) (by decide +kernel), List.mem_of_getElem? (i := 671) (by decide +kernel), List.mem_of_getElem? (i := 672) (by decide +kernel)⟩
theorem lw_p15 : lw_okq (⟨"FigurehouseModel", "isCell", "(III)Z"⟩, 21) := ⟨⟨by decide +kernel, by decide +kernel⟩, List.mem_of_getElem? (i := 582) (by decide +kernel), List.mem_of_getElem? (i := 686) (by decide +kernel), List.mem_of_getElem? (i := 687) (by decide +kernel)⟩
def lw_privs_1 : List (MethodName × Nat) := [(⟨"java/lang/Throwable", "fillInStackTrace", "(I)Ljava/lang/Throwable;"⟩, 6), (⟨"Figurehouse", "requireArea", "(I)V"⟩, 11), (⟨"Figurehouse", "requireCell", "(III)I"⟩, 11), (⟨"Figurehouse", "judgeDraft", "(I)I"⟩, 11), (⟨"Figurehouse", "judge", "(II)I"⟩, 11), (⟨"Figurehouse", "loadHidden", "(I)V"⟩, 11), (⟨"Figurehouse$Sheet", "loadFigures", "(LFigurehouse$Book;II)V"⟩, 2), (⟨"Figurehouse$Sheet", "goThroughRows", "(LFigurehouse$Tree;LFigurehouse$Tree;Z)Z"⟩, 2), (⟨"Figurehouse$Sheet", "protectRow", "(LFigurehouse$Tree;II)Z"⟩, 2), (⟨"Figurehouse$Sheet", "countHiddenInRow", "(LFigurehouse$Tree;II)I"⟩, 2), (⟨"Figurehouse$Sheet", "nearestOpenSlot", "(LFigurehouse$Tree;II)I"⟩, 2), (⟨"Figurehouse", "requireDay", "(I)V"⟩, 11), (⟨"Figurehouse", "matchAt", "(IIIIII)I"⟩, 11), (⟨"FigurehouseModel", "isArea", "(I)Z"⟩, 21), (⟨"FigurehouseModel", "isItem", "(I)Z"⟩, 21), (⟨"FigurehouseModel", "isCell", "(III)Z"⟩, 21)]
theorem lw_r1 : ∀ q ∈ lw_privs_1, lw_okq q := List.forall_mem_cons.mpr ⟨lw_p0, List.forall_mem_cons.mpr ⟨lw_p1, List.forall_mem_cons.mpr ⟨lw_p2, List.forall_mem_cons.mpr ⟨lw_p3, List.forall_mem_cons.mpr ⟨lw_p4, List.forall_mem_cons.mpr ⟨lw_p5, List.forall_mem_cons.mpr ⟨lw_p6, List.forall_mem_cons.mpr ⟨lw_p7, List.forall_mem_cons.mpr ⟨lw_p8, List.forall_mem_cons.mpr ⟨lw_p9, List.forall_mem_cons.mpr ⟨lw_p10, List.forall_mem_cons.mpr ⟨lw_p11, List.forall_mem_cons.mpr ⟨lw_p12, List.forall_mem_cons.mpr ⟨lw_p13, List.forall_mem_cons.mpr ⟨lw_p14, List.forall_mem_cons.mpr ⟨lw_p15, fun _ h => absurd h List.not_mem_nil⟩⟩⟩⟩⟩⟩⟩⟩⟩⟩⟩⟩⟩⟩⟩⟩
theorem lw_p16 : lw_okq (⟨"FigurehouseModel", "judges", "(II)I"⟩, 21) := ⟨⟨by decide +kernel, by decide +kernel⟩, List.mem_of_getElem? (i := 582) (by decide +kernel), List.mem_of_getElem? (i := 703) (by decide +kernel), List.mem_of_getElem? (i := 704) (by decide +kernel)⟩
theorem lw_p17 : lw_okq (⟨"FigurehouseModel", "figureOn", "(II)I"⟩, 21) := ⟨⟨by decide +kernel, by decide +kernel⟩, List.mem_of_getElem? (i := 582) (by decide +kernel), List.mem_of_getElem? (i := 707) (by decide +kernel), List.mem_of_getElem? (i := 708) (by decide +kernel)⟩
theorem lw_p18 : lw_okq (⟨"FigurehouseModel", "may", "(II)Z"⟩, 21) := ⟨⟨by decide +kernel, by decide +kernel⟩, List.mem_of_getElem? (i := 582) (by decide +kernel), List.mem_of_getElem? (i := 712) (by decide +kernel), List.mem_of_getElem? (i := 713) (by decide +kernel)⟩
theorem lw_p19 : lw_okq (⟨"FigurehouseModel", "covers", "(I)I"⟩, 21) := ⟨⟨by decide +kernel, by decide +kernel⟩, List.mem_of_getElem? (i := 582) (by decide +kernel), List.mem_of_getElem? (i := 724) (by decide +kernel), List.mem_of_getElem? (i := 725) (by decide +kernel)⟩
theorem lw_p20 : lw_okq (⟨"FigurehouseModel", "finds", "(II)V"⟩, 21) := ⟨⟨by decide +kernel, by decide +kernel⟩, List.mem_of_getElem? (i := 582) (by decide +kernel), List.mem_of_getElem? (i := 728) (by decide +kernel), List.mem_of_getElem? (i := 729) (by decide +kernel)⟩
theorem lw_p21 : lw_okq (⟨"FigurehouseModel", "sumOf", "(IIZ)I"⟩, 21) := ⟨⟨by decide +kernel, by decide +kernel⟩, List.mem_of_getElem? (i := 582) (by decide +kernel), List.mem_of_getElem? (i := 732) (by decide +kernel), List.mem_of_getElem? (i := 733) (by decide +kernel)⟩
theorem lw_p22 : lw_okq (⟨"FigurehouseModel", "looks", "(IIZ)Z"⟩, 21) := ⟨⟨by decide +kernel, by decide +kernel⟩, List.mem_of_getElem? (i := 582) (by decide +kernel), List.mem_of_getElem? (i := 736) (by decide +kernel), List.mem_of_getElem? (i := 737) (by decide +kernel)⟩
theorem lw_p23 : lw_okq (⟨"FigurehouseModel", "hides", "(IIZ)I"⟩, 21) := ⟨⟨by decide +kernel, by decide +kernel⟩, List.mem_of_getElem? (i := 582) (by decide +kernel), List.mem_of_getElem? (i := 740) (by decide +kernel), List.mem_of_getElem? (i := 741) (by decide +kernel)⟩
theorem lw_p24 : lw_okq (⟨"FigurehouseModel", "isWithin", "(IIZ)Z"⟩, 21) := ⟨⟨by decide +kernel, by decide +kernel⟩, List.mem_of_getElem? (i := 582) (by decide +kernel), List.mem_of_getElem? (i := 784) (by decide +kernel), List.mem_of_getElem? (i := 785) (by decide +kernel)⟩
theorem lw_p25 : lw_okq (⟨"FigurehouseModel", "toldOn", "(I)I"⟩, 21) := ⟨⟨by decide +kernel, by decide +kernel⟩, List.mem_of_getElem? (i := 582) (by decide +kernel), List.mem_of_getElem? (i := 788) (by decide +kernel), List.mem_of_getElem? (i := 789) (by decide +kernel)⟩
def lw_privs_2 : List (MethodName × Nat) := [(⟨"FigurehouseModel", "judges", "(II)I"⟩, 21), (⟨"FigurehouseModel", "figureOn", "(II)I"⟩, 21), (⟨"FigurehouseModel", "may", "(II)Z"⟩, 21), (⟨"FigurehouseModel", "covers", "(I)I"⟩, 21), (⟨"FigurehouseModel", "finds", "(II)V"⟩, 21), (⟨"FigurehouseModel", "sumOf", "(IIZ)I"⟩, 21), (⟨"FigurehouseModel", "looks", "(IIZ)Z"⟩, 21), (⟨"FigurehouseModel", "hides", "(IIZ)I"⟩, 21), (⟨"FigurehouseModel", "isWithin", "(IIZ)Z"⟩, 21), (⟨"FigurehouseModel", "toldOn", "(I)I"⟩, 21)]
theorem lw_r2 : ∀ q ∈ lw_privs_2, lw_okq q := List.forall_mem_cons.mpr ⟨lw_p16, List.forall_mem_cons.mpr ⟨lw_p17, List.forall_mem_cons.mpr ⟨lw_p18, List.forall_mem_cons.mpr ⟨lw_p19, List.forall_mem_cons.mpr ⟨lw_p20, List.forall_mem_cons.mpr ⟨lw_p21, List.forall_mem_cons.mpr ⟨lw_p22, List.forall_mem_cons.mpr ⟨lw_p23, List.forall_mem_cons.mpr ⟨lw_p24, List.forall_mem_cons.mpr ⟨lw_p25, fun _ h => absurd h List.not_mem_nil⟩⟩⟩⟩⟩⟩⟩⟩⟩⟩
def lw_privs : List (MethodName × Nat) := lw_privs_1 ++ (lw_privs_2)
def lw_tbl : List Cond := k2_sels lw_privs ++ tables_1
theorem lw_privs_ok : ∀ q ∈ lw_privs, lw_okq q := by
  show ∀ q ∈ lw_privs_1 ++ (lw_privs_2), lw_okq q
  exact List.forall_mem_append.mpr ⟨lw_r1, lw_r2⟩
-- ===== end of PART A; then your names; then what follows =====
end
section
/-! ===== BEGIN words of one list among another's, by their places ===== -/
theorem goodIn_r {big : List Cond} (ws : List Cond) (ps : List Nat) (hp : ws = ps.filterMap (fun i => big[i]?)) (h : ws.all goodWord = true) : GoodIn big ws := by
  intro w hw
  have h1 := List.all_eq_true.mp h w hw
  rw [hp] at hw
  obtain ⟨i, -, hi⟩ := List.mem_filterMap.mp hw
  have hm : w ∈ big := by first | exact List.mem_of_getElem? hi | exact List.getElem?_mem hi
  exact ⟨hm, good_of_word h1⟩
theorem goodIn_app {big a b : List Cond} (ha : GoodIn big a) (hb : GoodIn big b) : GoodIn big (a ++ b) := fun w h => (List.mem_append.mp h).elim (ha w) (hb w)
theorem goodIn_ca {big a b : List Cond} {c : Cond} (ha : GoodIn big (c :: a)) (hb : GoodIn big b) : GoodIn big (c :: (a ++ b)) := fun w h => (List.mem_cons.mp h).elim (fun e => ha w (List.mem_cons.mpr (Or.inl e))) (fun h => (List.mem_append.mp h).elim (fun h => ha w (List.mem_cons.mpr (Or.inr h))) (hb w))
theorem goodIn_sub {big ws : List Cond} (hm : ∀ w ∈ ws, w ∈ big) (h : ws.all goodWord = true) : GoodIn big ws := fun w hw => ⟨hm w hw, good_of_word (List.all_eq_true.mp h w hw)⟩
/-! ===== END ===== -/

/-! ===== BEGIN exceptions that leave a method, and their catching by the caller (launches without stack traces) ===== -/
section VXA
/-! The laws vx_back, vx_callV, vx_callS, vx_callSW, vx_throw0, vx_throwS follow proofs of the library, with one case more: JvmDerived/Free/Laws.lean (Back.of_free), Shelf42/LK1.lean (callV, callS), Shelf/KitTraced.lean (throwNew0V, throwNewS). -/
/-- where a method has thrown q: the class by its name, the cell, what was written, the world -/
def vx_T (XC : String → State → State → Prop) (st : State) (q : Addr) (t : State) (mc ms : Nat) (free : Addr → Prop) : Prop :=
  ∃ (E : String) (ce : Cell) (L : List Loc), XC E st t ∧ t.heap[q]? = some ce ∧ ce.vm = .none ∧ st.vm.findClass E = some ce.cls ∧ st.WarmedH t.vm ∧ st.sameButNew ({ t with vm := st.vm } : State) L mc ms ∧ ∀ z ∈ L, free z.base
def vx_Q (Qc : Array Value → State → Outcome → State → Prop) (XC : String → State → State → Prop) (mc ms : Nat) (free : Addr → Prop) : Array Value → State → Outcome → State → Prop := fun a st o t =>
  (Qc a st o t ∧ ∃ L, FrameEnd st o t L mc ms ∧ ∀ q ∈ L, free q.base) ∨ ∃ q, o = .threw q ∧ vx_T XC st q t mc ms free
/-- a callee that returns or throws -/
def vx_Met (l : Launch) (y : MethodName) (ws : List Cond) (rm : Room) (Pc : Array Value → State → Prop) (Qc : Array Value → State → Outcome → State → Prop) (XC : String → State → State → Prop) (mc ms : Nat) (free : Addr → Prop) : Prop :=
  MetFree l y (headSpec ws rm) Pc (fun _ _ _ _ _ => True) (vx_Q Qc XC mc ms free)
def vx_Post (XC : String → State → State → Prop) (mc ms : Nat) (free : Addr → Prop) : Pt → Array Value → Addr → Pt → Prop := fun A a q B =>
  ∃ (g : JFrame) (mk : MethodId) (t : State) (L : List Loc) (E : String) (ce : Cell), B.U.heap = t.heap ∧ B.U.vm = t.vm ∧ XC E (A.U.calling g mk a) t ∧ t.heap[q]? = some ce ∧ ce.vm = .none ∧ A.U.vm.findClass E = some ce.cls ∧ B.locs = A.locs ++ L ∧ (∀ z ∈ L, free z.base) ∧ B.cells = A.cells + mc ∧ B.slots = A.slots + ms
def vx_Back (l : Launch) (R : Room) (p : Program) (e : Env) (below : List Frame) (s : State) (sargs : Array Value) (y : MethodName) (len W9 : Nat)
    (Pre : Pt → Array Value → Prop) (Post : Pt → Array Value → Option Value → Pt → Prop) (PostX : Pt → Array Value → Addr → Pt → Prop) : Prop :=
  ∀ (m : MethodId) (meth : Method) (c : Code) (A : Pt) (g : JFrame) (ig : Instr) (mk : MethodId) (a : Array Value),
    Stand p l e R s m sargs below meth c A.U A.locs A.cells A.slots → g.method = m → g.locals.size = c.maxLocals → decode c.code g.pc = .ok (ig, len) →
    2 * g.monitorRoom + (g.stack.map fun v => v.category).sum ≤ W9 → A.U.methodNamed? y = some mk → Pre A a →
    (∃ (v : Option Value) (B : Pt), Stand p l e R s m sargs below meth c B.U B.locs B.cells B.slots ∧ Post A a v B ∧
      Steps p.tables e below (doInvoke e (A.U.setTop g) [] mk a).1 (B.U.setTop { g with pc := g.pc + len, stack := v.toList ++ g.stack })) ∨
    (∃ (q : Addr) (B : Pt), Stand p l e R s m sargs below meth c B.U B.locs B.cells B.slots ∧ PostX A a q B ∧
      Steps p.tables e below (doInvoke e (A.U.setTop g) [] mk a).1 ((B.U.setTop g).pushFrame (.throwing q)))
section Payer
variable {l : Launch} {R : Room} {p : Program} {e : Env} {below : List Frame} {s : State} {sargs : Array Value} {y : MethodName} {len W9 : Nat}
theorem vx_back {ws : List Cond} {rm : Room} {Pc : Array Value → State → Prop} {Qc : Array Value → State → Outcome → State → Prop} {XC : String → State → State → Prop} {mc ms : Nat} {free : Addr → Prop} {bytes : ByteArray} {maxL : Nat} {ret : Option FieldType}
    (hM : vx_Met l y ws rm Pc Qc XC mc ms free) (hblind : FrameBlind Pc) (hrc : rm.cells = mc) (hrs : rm.slots = ms)
    (hframes : rm.frames + 1 ≤ R.frames) (hlocals : W9 + (maxL + 11) + rm.locals ≤ R.locals)
    (hws : ∀ w ∈ ws, ∀ a' U, s.WarmedH U.vm → w.before a' U = true) (hcode : Cond.code y bytes maxL ret ∈ ws) (hinit : ∀ a' U, s.WarmedH U.vm → (Cond.initialized y.cls).before a' U = true) :
    vx_Back l R p e below s sargs y len W9 (PreOf R mc ms Pc) (PostOf Qc mc ms free) (vx_Post XC mc ms free) := by
  intro m meth c A g ig mk a X hg hsize hdg hW hn hp
  have h1 : (headSpec ws rm).pre.before a A.U = true := atoms_intro fun w hw => hws w hw _ _ X.warmed
  have h2 : (Cond.code y bytes maxL ret).before a A.U = true := hws _ hcode _ _ X.warmed
  have h3 : (Cond.initialized y.cls).before a A.U = true := hinit _ _ X.warmed
  have h4 : A.cells + (headSpec ws rm).room.cells ≤ R.cells := by rw [show (headSpec ws rm).room.cells = mc from hrc]; exact hp.1
  have h5 : A.slots + (headSpec ws rm).room.slots ≤ R.slots := by rw [show (headSpec ws rm).room.slots = ms from hrs]; exact hp.2.1
  have hPc : Pc a (A.U.calling g mk a) := hblind _ _ _ _ hp.2.2
  obtain ⟨U, Ls, c0, s0⟩ := A
  dsimp only [Pt.U, Pt.locs, Pt.cells, Pt.slots] at h1 h2 h3 h4 h5 X hn hPc ⊢
  obtain ⟨methY, cY, hmY, hcY, -, hlY, -, -, -, -⟩ := Cond.code_spec hn h2
  obtain ⟨kY, hkY, -⟩ := className_of_methodNamed hn
  have hinitY : kY.init = .initialized := Cond.initialized_spec (findClass_of_methodNamed hn) hkY h3
  have h : At U g.method c below := by rw [hg]; exact X.here
  have hlocals9 : W9 + (maxL + 11) + (headSpec ws rm).room.locals ≤ R.locals := hlocals
  have happ : (headSpec ws rm).appliesLoose y e.platform (U.calling g mk a) = true :=
    Spec.appliesLoose_calling (g := g) h hdg hn hkY hinitY
      (X.room_calling (g := g) (R' := (headSpec ws rm).room) hsize hmY hcY hframes (by rw [hlY]; omega) h4 h5) h1
  obtain ⟨mid, hmid⟩ := h.above
  have hfr : (U.setTop g).frames = (.java g :: mid) ++ below := by rw [State.frames_setTop' g h.top, hmid]; rfl
  obtain ⟨o, s₂, hsteps, -, hend, hq⟩ := Steps.callFree hM p X.admits X.cas X.clock (acts := []) hfr happ hPc trivial
  have hq' : vx_Q Qc XC mc ms free a (U.calling g mk a) o s₂ := hq
  rw [State.frames_setTop' g h.top] at hend
  obtain ⟨g₀, hg0⟩ := Option.isSome_iff_exists.mp h.top
  obtain ⟨r, hr⟩ := State.topJava?_eq_some.mp hg0
  have hr' : (({ U with heap := s₂.heap, slotsUsed := s₂.slotsUsed } : State).setVm s₂.vm).frames = .java g₀ :: r := hr
  rcases hq' with ⟨hqc, L, hfe, hL⟩ | ⟨q, rfl, E, ce, L, hx, hce, hcv, hcl, hW₂, hsm, hL⟩
  · obtain ⟨⟨v, rfl⟩, hW₂, e2, q2, q3, q4, q5, q6⟩ := id hfe
    have e3 : s₂ = ({ (U.calling g mk a).setFrames s₂.frames with heap := s₂.heap, slotsUsed := s₂.slotsUsed } : State).setVm s₂.vm := by
      have : s₂ = ({ s₂ with vm := (U.calling g mk a).vm } : State).setVm s₂.vm := rfl
      rw [e2] at this
      exact this
    obtain ⟨c₂, i₂, len₂, hc₂, hd₂, hf₂⟩ := hend
    have hW' : U.WarmedH s₂.vm := hW₂
    have hcc : c₂ = c := by
      have h1 : s₂.code? g.method = U.code? g.method := by
        rw [State.code?_eq, State.code?_eq, hW'.alike.method?]
      exact Option.some.inj (hc₂.symm.trans (h1.trans h.code))
    subst hcc
    have hlen : len₂ = len := by rw [hdg] at hd₂; cases hd₂; rfl
    subst hlen
    have hs₂ : s₂ = (({ U with heap := s₂.heap, slotsUsed := s₂.slotsUsed } : State).setVm s₂.vm).setTop { g with pc := g.pc + len₂, stack := v.toList ++ g.stack } := by
      refine e3.trans ?_
      rw [hf₂, State.calling_eq h.top, State.setFrames_setFrames, State.setTop_of_frames _ hr', hr]
      rfl
    have hsame : U.sameButNew ({ U with heap := s₂.heap, slotsUsed := s₂.slotsUsed } : State) L mc ms := by
      refine ⟨?_, q2, q3, q4, q5, q6⟩
      obtain ⟨t, ht, -⟩ := State.frames_cons hr
      show ({ U with heap := s₂.heap, slotsUsed := s₂.slotsUsed } : State) = { U.setFrames U.frames with heap := s₂.heap, slotsUsed := s₂.slotsUsed }
      rw [State.setFrames_self ht]
    subst hg
    refine Or.inl ⟨v, ⟨(({ U with heap := s₂.heap, slotsUsed := s₂.slotsUsed } : State).setVm s₂.vm), Ls ++ L, c0 + mc, s0 + ms⟩,
      ⟨X.admits, X.cas, X.clock, X.frames, X.room, X.hears, X.method, X.code, (X.here.setHeapUsed s₂.heap s₂.slotsUsed).setVm hW'.alike, X.tail, State.WarmedH.trans X.warmed hW', X.limits, X.bytes, X.same.trans (hsame.setVm s.vm)⟩,
      ⟨g, mk, s₂, L, rfl, rfl, hqc, rfl, hL, rfl, rfl⟩, ?_⟩
    show Steps p.tables e below _ ((({ U with heap := s₂.heap, slotsUsed := s₂.slotsUsed } : State).setVm s₂.vm).setTop { g with pc := g.pc + len₂, stack := v.toList ++ g.stack })
    rw [← hs₂]
    exact hsteps
  · obtain ⟨e2, q2, q3, q4, q5, q6⟩ := id hsm
    have e3 : s₂ = ({ (U.calling g mk a).setFrames s₂.frames with heap := s₂.heap, slotsUsed := s₂.slotsUsed } : State).setVm s₂.vm := by
      have : s₂ = ({ s₂ with vm := (U.calling g mk a).vm } : State).setVm s₂.vm := rfl
      rw [e2] at this
      exact this
    have hf₂ : s₂.frames = .throwing q :: .java g :: U.frames.tail := hend
    have hW' : U.WarmedH s₂.vm := hW₂
    have hs₂ : s₂ = ((({ U with heap := s₂.heap, slotsUsed := s₂.slotsUsed } : State).setVm s₂.vm).setTop g).pushFrame (.throwing q) := by
      refine e3.trans ?_
      rw [hf₂, State.calling_eq h.top, State.setFrames_setFrames, State.pushFrame, State.frames_setTop _ hr', State.setTop_of_frames _ hr', State.setFrames_setFrames, hr]
      rfl
    have hsame : U.sameButNew ({ U with heap := s₂.heap, slotsUsed := s₂.slotsUsed } : State) L mc ms := by
      refine ⟨?_, q2, q3, q4, q5, q6⟩
      obtain ⟨t, ht, -⟩ := State.frames_cons hr
      show ({ U with heap := s₂.heap, slotsUsed := s₂.slotsUsed } : State) = { U.setFrames U.frames with heap := s₂.heap, slotsUsed := s₂.slotsUsed }
      rw [State.setFrames_self ht]
    subst hg
    refine Or.inr ⟨q, ⟨(({ U with heap := s₂.heap, slotsUsed := s₂.slotsUsed } : State).setVm s₂.vm), Ls ++ L, c0 + mc, s0 + ms⟩,
      ⟨X.admits, X.cas, X.clock, X.frames, X.room, X.hears, X.method, X.code, (X.here.setHeapUsed s₂.heap s₂.slotsUsed).setVm hW'.alike, X.tail, State.WarmedH.trans X.warmed hW', X.limits, X.bytes, X.same.trans (hsame.setVm s.vm)⟩,
      ⟨g, mk, s₂, L, E, ce, rfl, rfl, hx, hce, hcv, hcl, rfl, hL, rfl, rfl⟩, ?_⟩
    show Steps p.tables e below _ (((({ U with heap := s₂.heap, slotsUsed := s₂.slotsUsed } : State).setVm s₂.vm).setTop g).pushFrame (.throwing q))
    rw [← hs₂]
    exact hsteps
end Payer
section Calls
variable {p : Program} {l : Launch} {e : Env} {R : Room} {s : State} {m : MethodId} {args : Array Value} {below : List Frame} {meth : Method} {c : Code} {T : State} {locs : List Loc} {cells slots : Nat}
theorem vx_callV (X : Stand p l e R s m args below meth c T locs cells slots) (hexec : p.tables.exec = Jvm.exec) {own C : String} {index : Nat} {y : MethodName} {bytes : ByteArray} {maxL : Nat} {ret : Option FieldType}
    (hown : s.vm.findClass own = some m.cls) (hlink : (Cond.methodLink own index y).before args s = true) (hinst : (Cond.instanceMethod y).before args s = true) (hsel : (Cond.selects C y y).before args s = true)
    (hcode : (Cond.code y bytes maxL ret).before args s = true) (hy : y.cls ≠ "java/lang/invoke/MethodHandle" ∧ y.cls ≠ "java/lang/invoke/VarHandle")
    {W9 : Nat} {Pre : Pt → Array Value → Prop} {Post : Pt → Array Value → Option Value → Pt → Prop} {PostX : Pt → Array Value → Addr → Pt → Prop} (hK : vx_Back l R p e below s args y 3 W9 Pre Post PostX)
    {b : Addr} {cellB : Cell} (hcell : T.heap[b]? = some cellB) (hobj : cellB.vm.isStatics = false) (hcls : s.vm.findClass C = some cellB.cls)
    {g : JFrame} (hg : g.method = m) (hsize : g.locals.size = c.maxLocals) {argsL rest : List Value} (hlen : ∀ sig, parseMethodDescriptor y.desc = some sig → argsL.length = sig.parameters.length)
    (hstack : g.stack = argsL.reverse ++ .ref b :: rest) (hW : 2 * g.monitorRoom + (rest.map fun v => v.category).sum ≤ W9) (hdg : decode c.code g.pc = .ok (.invokevirtual index, 3))
    (hpre : ∀ vm₁, s.WarmedH vm₁ → Pre ⟨T.setVm vm₁, locs, cells, slots⟩ (Value.ref b :: argsL).toArray) :
    (∃ (v : Option Value) (vm₁ : Vm) (B : Pt), s.WarmedH vm₁ ∧ Stand p l e R s m args below meth c B.U B.locs B.cells B.slots ∧ Post ⟨T.setVm vm₁, locs, cells, slots⟩ (Value.ref b :: argsL).toArray v B ∧
      ∀ target, Steps p.tables e below (B.U.setTop { g with pc := g.pc + 3, stack := v.toList ++ rest }) target → Steps p.tables e below (T.setTop g) target) ∨
    (∃ (q : Addr) (vm₁ : Vm) (B : Pt), s.WarmedH vm₁ ∧ Stand p l e R s m args below meth c B.U B.locs B.cells B.slots ∧ PostX ⟨T.setVm vm₁, locs, cells, slots⟩ (Value.ref b :: argsL).toArray q B ∧
      Steps p.tables e below (T.setTop g) ((B.U.setTop { g with stack := rest }).pushFrame (.throwing q))) := by
  obtain ⟨mk, methM, hnamed, hmethM, hstM, habM⟩ := Cond.instanceMethod_spec hinst
  obtain ⟨methM', cM, hmethM', -, -, -, -, -, -, hsigM⟩ := Cond.code_spec hnamed hcode
  cases hmethM.symm.trans hmethM'
  obtain ⟨c2, r2, m2, q1, q2, q3, q4, kP, hkP, hkPi⟩ := Cond.selects_spec hsel
  cases hcls.symm.trans q1
  cases (State.methodFound?_of_named hnamed hy).symm.trans q2
  cases hnamed.symm.trans q3
  have hselP : selectMethod e.platform s.vm cellB.cls mk = .method mk := by rw [Launch.admits_selectMethod X.admits]; exact q4
  obtain ⟨vm₁, X₁, hstep₁⟩ := X.invokevirtual hexec hown hlink hnamed hmethM hstM hkP hkPi hy (a := b) (cell := cellB) hcell
    (fun z h => by rw [h] at hobj; cases hobj) hselP hmethM habM hkP hkPi (g := g) hg (argsL := argsL) (rest := rest) (hlen _ hsigM) hstack hdg
  rcases hK m meth c ⟨T.setVm vm₁, locs, cells, slots⟩ { g with stack := rest } (.invokevirtual index) mk (Value.ref b :: argsL).toArray X₁ hg hsize hdg hW (X₁.named hnamed) (hpre vm₁ X₁.warmed) with ⟨v, B, X', hpost, hsteps⟩ | ⟨q, B, X', hpost, hsteps⟩
  · exact Or.inl ⟨v, vm₁, B, X₁.warmed, X', hpost, fun target h => hstep₁ _ fun acts => by rw [doInvoke_state]; exact hsteps.trans h⟩
  · exact Or.inr ⟨q, vm₁, B, X₁.warmed, X', hpost, hstep₁ _ fun acts => by rw [doInvoke_state]; exact hsteps⟩
theorem vx_callS (X : Stand p l e R s m args below meth c T locs cells slots) (hexec : p.tables.exec = Jvm.exec) {own : String} {index : Nat} {y : MethodName} {bytes : ByteArray} {maxL : Nat} {ret : Option FieldType}
    (hown : s.vm.findClass own = some m.cls) (hlink : (Cond.methodLink own index y).before args s = true) (hstat : (Cond.static y).before args s = true) (hinit : (Cond.initialized y.cls).before args s = true)
    (hcode : (Cond.code y bytes maxL ret).before args s = true) (hy : y.cls ≠ "java/lang/invoke/MethodHandle" ∧ y.cls ≠ "java/lang/invoke/VarHandle")
    {W9 : Nat} {Pre : Pt → Array Value → Prop} {Post : Pt → Array Value → Option Value → Pt → Prop} {PostX : Pt → Array Value → Addr → Pt → Prop} (hK : vx_Back l R p e below s args y 3 W9 Pre Post PostX)
    {g : JFrame} (hg : g.method = m) (hsize : g.locals.size = c.maxLocals) {argsL rest : List Value} (hlen : ∀ sig, parseMethodDescriptor y.desc = some sig → argsL.length = sig.parameters.length)
    (hstack : g.stack = argsL.reverse ++ rest) (hW : 2 * g.monitorRoom + (rest.map fun v => v.category).sum ≤ W9) (hdg : decode c.code g.pc = .ok (.invokestatic index, 3))
    (hpre : ∀ vm₁, s.WarmedH vm₁ → Pre ⟨T.setVm vm₁, locs, cells, slots⟩ argsL.toArray) :
    (∃ (v : Option Value) (vm₁ : Vm) (B : Pt), s.WarmedH vm₁ ∧ Stand p l e R s m args below meth c B.U B.locs B.cells B.slots ∧ Post ⟨T.setVm vm₁, locs, cells, slots⟩ argsL.toArray v B ∧
      ∀ target, Steps p.tables e below (B.U.setTop { g with pc := g.pc + 3, stack := v.toList ++ rest }) target → Steps p.tables e below (T.setTop g) target) ∨
    (∃ (q : Addr) (vm₁ : Vm) (B : Pt), s.WarmedH vm₁ ∧ Stand p l e R s m args below meth c B.U B.locs B.cells B.slots ∧ PostX ⟨T.setVm vm₁, locs, cells, slots⟩ argsL.toArray q B ∧
      Steps p.tables e below (T.setTop g) ((B.U.setTop { g with stack := rest }).pushFrame (.throwing q))) := by
  obtain ⟨mk, hnamed⟩ := Cond.code_named hcode
  obtain ⟨methM, cM, hmethM, -, -, -, -, -, -, hsigM⟩ := Cond.code_spec hnamed hcode
  have hstatic : methM.isStatic = true := Cond.static_spec hnamed hmethM hstat
  obtain ⟨kP, hkP, -⟩ := className_of_methodNamed hnamed
  have hinitP : kP.init = .initialized := Cond.initialized_spec (findClass_of_methodNamed hnamed) hkP hinit
  obtain ⟨vm₁, X₁, hstep₁⟩ := X.invokestatic hexec hown hlink hnamed hmethM hstatic hkP hinitP hy (g := g) hg (argsL := argsL) (rest := rest) (hlen _ hsigM) hstack hdg
  rcases hK m meth c ⟨T.setVm vm₁, locs, cells, slots⟩ { g with stack := rest } (.invokestatic index) mk argsL.toArray X₁ hg hsize hdg hW (X₁.named hnamed) (hpre vm₁ X₁.warmed) with ⟨v, B, X', hpost, hsteps⟩ | ⟨q, B, X', hpost, hsteps⟩
  · exact Or.inl ⟨v, vm₁, B, X₁.warmed, X', hpost, fun target h => hstep₁ _ fun acts => by rw [doInvoke_state]; exact hsteps.trans h⟩
  · exact Or.inr ⟨q, vm₁, B, X₁.warmed, X', hpost, hstep₁ _ fun acts => by rw [doInvoke_state]; exact hsteps⟩
end Calls
theorem vx_cls {s : State} {T : State} {vm₁ : Vm} {E : String} {k : ClassId} (hW : s.WarmedH vm₁) (h : (T.setVm vm₁).vm.findClass E = some k) : s.vm.findClass E = some k := by
  have h1 : vm₁.findClass E = some k := h
  rw [hW.alike.findClass] at h1
  exact h1
/-- the method's frame g, with q thrown over it -/
def vx_W (p : Program) (l : Launch) (e : Env) (R : Room) (s : State) (m : MethodId) (args : Array Value) (below : List Frame) (meth : Method) (c : Code) (H : Heap) (locs : List Loc) (cells slots : Nat) (Q : State → Prop) (g : JFrame) (q : Addr) : Prop :=
  ∀ T : State, T.heap = H → Stand p l e R s m args below meth c T locs cells slots → ∃ t, Steps p.tables e below ((T.setTop g).pushFrame (.throwing q)) t ∧ Q t
def vx_Run (p : Program) (l : Launch) (e : Env) (R : Room) (s : State) (m : MethodId) (args : Array Value) (below : List Frame) (meth : Method) (c : Code) (H : Heap) (locs : List Loc) (cells slots mc ms : Nat) (g : JFrame) (rest : List Value) (Qa : State → Outcome → State → Prop) (XC : String → State → State → Prop) (free : Addr → Prop) : Prop :=
  ∀ T : State, T.heap = H → Stand p l e R s m args below meth c T locs cells slots →
    (∃ (v : Option Value) (st₀ t T' : State) (L : List Loc), st₀.heap = H ∧ Stand p l e R s m args below meth c T' (locs ++ L) (cells + mc) (slots + ms) ∧ (∀ q ∈ L, free q.base) ∧ T'.heap = t.heap ∧ T'.vm = t.vm ∧ Qa st₀ (.returned v) t ∧
      Goes p e below T g T' { g with pc := g.pc + 3, stack := v.toList ++ rest }) ∨
    (∃ (q : Addr) (st₀ t T' : State) (L : List Loc) (E : String) (ce : Cell), st₀.heap = H ∧ Stand p l e R s m args below meth c T' (locs ++ L) (cells + mc) (slots + ms) ∧ (∀ z ∈ L, free z.base) ∧ T'.heap = t.heap ∧ T'.vm = t.vm ∧ XC E st₀ t ∧ t.heap[q]? = some ce ∧ ce.vm = .none ∧ s.vm.findClass E = some ce.cls ∧
      Steps p.tables e below (T.setTop g) ((T'.setTop { g with stack := rest }).pushFrame (.throwing q)))
def vx_X {S : Type} (px : S → Prop) (B : String → S → State → Prop) (A : Nat → Prop) : String → State → State → Prop := fun E st t => ∃ u : S, px u ∧ B E u t ∧ va_F A st t
section Runs
variable {p : Program} {l : Launch} {e : Env} {R : Room} {s : State} {m : MethodId} {args : Array Value} {below : List Frame} {meth : Method} {c : Code} {H : Heap} {locs : List Loc} {cells slots : Nat}
variable {y : MethodName} {bytes cc : ByteArray} {maxL nL mc ms n index : Nat} {ret : Option FieldType} {ws : List Cond} {rm : Room} {Pc : Array Value → State → Prop} {Qc : Array Value → State → Outcome → State → Prop} {XC : String → State → State → Prop} {free : Addr → Prop} {Ts : List Cond} {own C : String} {b : Addr} {As rest : List Value} {g : JFrame}
theorem vx_callBack (cb : CallB R s args own index y bytes maxL ret ws rm mc ms n) (hM : vx_Met l y ws rm Pc Qc XC mc ms free) (hbl : FrameBlind Pc) : vx_Back l R p e below s args y 3 8 (PreOf R mc ms Pc) (PostOf Qc mc ms free) (vx_Post XC mc ms free) := by
  obtain ⟨hrc, hrs, hfr, hlo, hws, hcw, -, hini, -⟩ := cb
  exact vx_back (bytes := bytes) (maxL := maxL) (ret := ret) hM hbl hrc hrs hfr hlo hws hcw (fun a' U hW => word_at hW (Or.inl (by first | rfl | simp [Cond.onTables, Cond.keeps, Cond.steady])) hini)
theorem vx_runV (S : CallFix p m c cc nL s args Ts own) (hM : vx_Met l y ws rm Pc Qc XC mc ms free) (cw : CallW R s args own C index y bytes maxL ret ws rm mc ms n) (hp : PreV s H C b Pc As)
    (hg : g.method = m) (hn : As.length = n) (hsize : g.locals.size = nL) (hstack : g.stack = As.reverse ++ .ref b :: rest) (hW : 2 * g.monitorRoom + (rest.map fun v => v.category).sum ≤ 8) (hdg : decode cc g.pc = .ok (.invokevirtual index, 3)) (hf : cells + mc ≤ R.cells ∧ slots + ms ≤ R.slots) :
    vx_Run p l e R s m args below meth c H locs cells slots mc ms g rest (Qc (Value.ref b :: As).toArray) XC free := by
  have hK : vx_Back l R p e below s args y 3 8 (PreOf R mc ms Pc) (PostOf Qc mc ms free) (vx_Post XC mc ms free) := vx_callBack cw.1 hM hp.1
  obtain ⟨⟨-, -, -, -, -, -, hcode, -, hy, hlen, hl⟩, hin, hse⟩ := cw
  obtain ⟨hx, hb, hml, ho, -⟩ := S
  obtain ⟨-, ⟨cellB, hcB, hoB, hclB⟩, hPc⟩ := hp
  intro T hT X
  rcases vx_callV X hx (C := C) (bytes := bytes) (maxL := maxL) (ret := ret) ho hl hin hse hcode hy hK (by rw [hT]; exact hcB) hoB hclB hg (hsize.trans hml.symm) (argsL := As) (rest := rest) (fun sig h => hn.trans (hlen sig h)) hstack hW (by rw [hb]; exact hdg)
    (fun vm₁ hW₁ => ⟨hf.1, hf.2, hPc (T.setVm vm₁) hT hW₁⟩) with ⟨v, vm₁, ⟨U', l2, c2, s2⟩, hW₁, X', ⟨g', mk, t, L, e1, e2, hq, h1, hL, h2, h3⟩, st⟩ | ⟨q, vm₁, ⟨U', l2, c2, s2⟩, hW₁, X', ⟨g', mk, t, L, E, ce, e1, e2, hq, hce, hcv, hcl, h1, hL, h2, h3⟩, st⟩
  · dsimp only [Pt.U, Pt.locs, Pt.cells, Pt.slots] at X' e1 e2 h1 h2 h3 st
    subst h1; subst h2; subst h3
    exact Or.inl ⟨v, (T.setVm vm₁).calling g' mk (Value.ref b :: As).toArray, t, U', L, hT, X', hL, e1, e2, hq, st⟩
  · dsimp only [Pt.U, Pt.locs, Pt.cells, Pt.slots] at X' e1 e2 h1 h2 h3 st hcl
    subst h1; subst h2; subst h3
    exact Or.inr ⟨q, (T.setVm vm₁).calling g' mk (Value.ref b :: As).toArray, t, U', L, E, ce, hT, X', hL, e1, e2, hq, hce, hcv, vx_cls hW₁ hcl, st⟩
theorem vx_runS (S : CallFix p m c cc nL s args Ts own) (hM : vx_Met l y ws rm Pc Qc XC mc ms free) (cw : CallB R s args own index y bytes maxL ret ws rm mc ms n ∧ (Cond.static y).before args s = true) (hp : PreS s H Pc As)
    (hg : g.method = m) (hn : As.length = n) (hsize : g.locals.size = nL) (hstack : g.stack = As.reverse ++ rest) (hW : 2 * g.monitorRoom + (rest.map fun v => v.category).sum ≤ 8) (hdg : decode cc g.pc = .ok (.invokestatic index, 3)) (hf : cells + mc ≤ R.cells ∧ slots + ms ≤ R.slots) :
    vx_Run p l e R s m args below meth c H locs cells slots mc ms g rest (Qc As.toArray) XC free := by
  have hK : vx_Back l R p e below s args y 3 8 (PreOf R mc ms Pc) (PostOf Qc mc ms free) (vx_Post XC mc ms free) := vx_callBack cw.1 hM hp.1
  obtain ⟨⟨-, -, -, -, -, -, hcode, hini, hy, hlen, hl⟩, hstt⟩ := cw
  obtain ⟨hx, hb, hml, ho, -⟩ := S
  intro T hT X
  rcases vx_callS X hx (bytes := bytes) (maxL := maxL) (ret := ret) ho hl hstt hini hcode hy hK hg (hsize.trans hml.symm) (argsL := As) (rest := rest) (fun sig h => hn.trans (hlen sig h)) hstack hW (by rw [hb]; exact hdg)
    (fun vm₁ hW₁ => ⟨hf.1, hf.2, hp.2 (T.setVm vm₁) hT hW₁⟩) with ⟨v, vm₁, ⟨U', l2, c2, s2⟩, hW₁, X', ⟨g', mk, t, L, e1, e2, hq, h1, hL, h2, h3⟩, st⟩ | ⟨q, vm₁, ⟨U', l2, c2, s2⟩, hW₁, X', ⟨g', mk, t, L, E, ce, e1, e2, hq, hce, hcv, hcl, h1, hL, h2, h3⟩, st⟩
  · dsimp only [Pt.U, Pt.locs, Pt.cells, Pt.slots] at X' e1 e2 h1 h2 h3 st
    subst h1; subst h2; subst h3
    exact Or.inl ⟨v, (T.setVm vm₁).calling g' mk As.toArray, t, U', L, hT, X', hL, e1, e2, hq, st⟩
  · dsimp only [Pt.U, Pt.locs, Pt.cells, Pt.slots] at X' e1 e2 h1 h2 h3 st hcl
    subst h1; subst h2; subst h3
    exact Or.inr ⟨q, (T.setVm vm₁).calling g' mk As.toArray, t, U', L, E, ce, hT, X', hL, e1, e2, hq, hce, hcv, vx_cls hW₁ hcl, st⟩
end Runs
section Rows
variable {p : Program} {l : Launch} {e : Env} {R : Room} {s : State} {m : MethodId} {args : Array Value} {below : List Frame} {meth : Method} {c : Code} {H : Heap} {locs : List Loc} {cells slots : Nat} {Q : State → Prop}
variable {mc ms : Nat} {free : Addr → Prop} {A0 A1 : Nat → Prop} {H0 : Heap} {a : Array Value} {pc : Nat} {ls : Array Slot} {st0 rest : List Value}
theorem vx_keep {st₀ t T' : State} {L : List Loc} (h0 : st₀.heap = H) (e1 : T'.heap = t.heap) (hS : va_S A0 H0 H locs) (hA : ∀ q, q < H.size → A1 q → A0 q) (hf : ∀ q, free q → A0 q) (hL : ∀ q ∈ L, free q.base) (hF : va_F A1 st₀ t) :
    H.size ≤ T'.heap.size ∧ (∀ q : Nat, q < H.size → ¬ A1 q → T'.heap[q]? = H[q]?) ∧ va_S A0 H0 T'.heap (locs ++ L) := by
  obtain ⟨hz, hk⟩ := hF
  rw [h0] at hz hk
  exact ⟨by rw [e1]; exact hz, fun q h1 h2 => by rw [e1]; exact hk q h1 h2,
    ⟨Nat.le_trans hS.1 (by rw [e1]; exact hz), fun q h1 h2 => by rw [e1, hk q (Nat.lt_of_lt_of_le h1 hS.1) (fun z => h2 (hA q (Nat.lt_of_lt_of_le h1 hS.1) z))]; exact hS.2.1 q h1 h2, fun q hq => by
      rcases List.mem_append.mp hq with h | h
      · exact hS.2.2 q h
      · exact hf _ (hL q h)⟩⟩
theorem vx_calli {S SX : Type} {post : Int32 → S → Prop} {px : SX → Prop} {B : S → State → Prop} {BX : String → SX → State → Prop} {AX : Nat → Prop} (hr : vx_Run p l e R s m args below meth c H locs cells slots mc ms (F0 m pc ls st0) rest (va_Qi post B A1 a) (vx_X px BX AX) free) (hS : va_S A0 H0 H locs) (hA : ∀ q, q < H.size → A1 q → A0 q) (hf : ∀ q, free q → A0 q) (hAX : ∀ q, q < H.size → AX q → A0 q)
    (kx : ∀ (E : String) (ce : Cell) (q9 : Addr) (u : SX) (t : State) (H1 : Heap) (locs1 : List Loc), t.heap = H1 → s.vm.Alike t.vm → px u → BX E u t → H.size ≤ H1.size → (∀ q : Nat, q < H.size → ¬ AX q → H1[q]? = H[q]?) → va_S A0 H0 H1 locs1 → H1[q9]? = some ce → ce.vm = .none → s.vm.findClass E = some ce.cls → vx_W p l e R s m args below meth c H1 locs1 (cells + mc) (slots + ms) Q (F0 m pc ls rest) q9)
    (kk : ∀ (r : Int32) (u : S) (t : State) (H1 : Heap) (locs1 : List Loc), t.heap = H1 → s.vm.Alike t.vm → post r u → B u t → H.size ≤ H1.size → (∀ q : Nat, q < H.size → ¬ A1 q → H1[q]? = H[q]?) → va_S A0 H0 H1 locs1 → W p l e R s m args below meth c H1 locs1 (cells + mc) (slots + ms) Q (F0 m (pc + 3) ls (.int r :: rest))) : W p l e R s m args below meth c H locs cells slots Q (F0 m pc ls st0) := by
  intro T hT X
  rcases hr T hT X with ⟨v, st₀, t, T', L, h0, X', hL, e1, e2, ⟨⟨r, u, hv, hp, hb⟩, hF⟩, st⟩ | ⟨q, st₀, t, T', L, E, ce, h0, X', hL, e1, e2, ⟨u, hp, hb, hF⟩, hce, hcv, hcl, st⟩
  · cases hv
    obtain ⟨k1, k2, k3⟩ := vx_keep h0 e1 hS hA hf hL hF
    obtain ⟨t2, a1, b1⟩ := kk r u t T'.heap (locs ++ L) e1.symm (by rw [← e2]; exact X'.warmed.alike) hp hb k1 k2 k3 T' rfl X'
    exact ⟨t2, st t2 a1, b1⟩
  · obtain ⟨k1, k2, k3⟩ := vx_keep h0 e1 hS hAX hf hL hF
    obtain ⟨t2, a1, b1⟩ := kx E ce q u t T'.heap (locs ++ L) e1.symm (by rw [← e2]; exact X'.warmed.alike) hp hb k1 k2 k3 (by rw [e1]; exact hce) hcv hcl T' rfl X'
    exact ⟨t2, st.trans a1, b1⟩
theorem vx_calll {S SX : Type} {post : Int64 → S → Prop} {px : SX → Prop} {B : S → State → Prop} {BX : String → SX → State → Prop} {AX : Nat → Prop} (hr : vx_Run p l e R s m args below meth c H locs cells slots mc ms (F0 m pc ls st0) rest (va_Ql post B A1 a) (vx_X px BX AX) free) (hS : va_S A0 H0 H locs) (hA : ∀ q, q < H.size → A1 q → A0 q) (hf : ∀ q, free q → A0 q) (hAX : ∀ q, q < H.size → AX q → A0 q)
    (kx : ∀ (E : String) (ce : Cell) (q9 : Addr) (u : SX) (t : State) (H1 : Heap) (locs1 : List Loc), t.heap = H1 → s.vm.Alike t.vm → px u → BX E u t → H.size ≤ H1.size → (∀ q : Nat, q < H.size → ¬ AX q → H1[q]? = H[q]?) → va_S A0 H0 H1 locs1 → H1[q9]? = some ce → ce.vm = .none → s.vm.findClass E = some ce.cls → vx_W p l e R s m args below meth c H1 locs1 (cells + mc) (slots + ms) Q (F0 m pc ls rest) q9)
    (kk : ∀ (r : Int64) (u : S) (t : State) (H1 : Heap) (locs1 : List Loc), t.heap = H1 → s.vm.Alike t.vm → post r u → B u t → H.size ≤ H1.size → (∀ q : Nat, q < H.size → ¬ A1 q → H1[q]? = H[q]?) → va_S A0 H0 H1 locs1 → W p l e R s m args below meth c H1 locs1 (cells + mc) (slots + ms) Q (F0 m (pc + 3) ls (.long r :: rest))) : W p l e R s m args below meth c H locs cells slots Q (F0 m pc ls st0) := by
  intro T hT X
  rcases hr T hT X with ⟨v, st₀, t, T', L, h0, X', hL, e1, e2, ⟨⟨r, u, hv, hp, hb⟩, hF⟩, st⟩ | ⟨q, st₀, t, T', L, E, ce, h0, X', hL, e1, e2, ⟨u, hp, hb, hF⟩, hce, hcv, hcl, st⟩
  · cases hv
    obtain ⟨k1, k2, k3⟩ := vx_keep h0 e1 hS hA hf hL hF
    obtain ⟨t2, a1, b1⟩ := kk r u t T'.heap (locs ++ L) e1.symm (by rw [← e2]; exact X'.warmed.alike) hp hb k1 k2 k3 T' rfl X'
    exact ⟨t2, st t2 a1, b1⟩
  · obtain ⟨k1, k2, k3⟩ := vx_keep h0 e1 hS hAX hf hL hF
    obtain ⟨t2, a1, b1⟩ := kx E ce q u t T'.heap (locs ++ L) e1.symm (by rw [← e2]; exact X'.warmed.alike) hp hb k1 k2 k3 (by rw [e1]; exact hce) hcv hcl T' rfl X'
    exact ⟨t2, st.trans a1, b1⟩
theorem vx_callf {S SX : Type} {post : UInt32 → S → Prop} {px : SX → Prop} {B : S → State → Prop} {BX : String → SX → State → Prop} {AX : Nat → Prop} (hr : vx_Run p l e R s m args below meth c H locs cells slots mc ms (F0 m pc ls st0) rest (va_Qf post B A1 a) (vx_X px BX AX) free) (hS : va_S A0 H0 H locs) (hA : ∀ q, q < H.size → A1 q → A0 q) (hf : ∀ q, free q → A0 q) (hAX : ∀ q, q < H.size → AX q → A0 q)
    (kx : ∀ (E : String) (ce : Cell) (q9 : Addr) (u : SX) (t : State) (H1 : Heap) (locs1 : List Loc), t.heap = H1 → s.vm.Alike t.vm → px u → BX E u t → H.size ≤ H1.size → (∀ q : Nat, q < H.size → ¬ AX q → H1[q]? = H[q]?) → va_S A0 H0 H1 locs1 → H1[q9]? = some ce → ce.vm = .none → s.vm.findClass E = some ce.cls → vx_W p l e R s m args below meth c H1 locs1 (cells + mc) (slots + ms) Q (F0 m pc ls rest) q9)
    (kk : ∀ (r : UInt32) (u : S) (t : State) (H1 : Heap) (locs1 : List Loc), t.heap = H1 → s.vm.Alike t.vm → post r u → B u t → H.size ≤ H1.size → (∀ q : Nat, q < H.size → ¬ A1 q → H1[q]? = H[q]?) → va_S A0 H0 H1 locs1 → W p l e R s m args below meth c H1 locs1 (cells + mc) (slots + ms) Q (F0 m (pc + 3) ls (.float r :: rest))) : W p l e R s m args below meth c H locs cells slots Q (F0 m pc ls st0) := by
  intro T hT X
  rcases hr T hT X with ⟨v, st₀, t, T', L, h0, X', hL, e1, e2, ⟨⟨r, u, hv, hp, hb⟩, hF⟩, st⟩ | ⟨q, st₀, t, T', L, E, ce, h0, X', hL, e1, e2, ⟨u, hp, hb, hF⟩, hce, hcv, hcl, st⟩
  · cases hv
    obtain ⟨k1, k2, k3⟩ := vx_keep h0 e1 hS hA hf hL hF
    obtain ⟨t2, a1, b1⟩ := kk r u t T'.heap (locs ++ L) e1.symm (by rw [← e2]; exact X'.warmed.alike) hp hb k1 k2 k3 T' rfl X'
    exact ⟨t2, st t2 a1, b1⟩
  · obtain ⟨k1, k2, k3⟩ := vx_keep h0 e1 hS hAX hf hL hF
    obtain ⟨t2, a1, b1⟩ := kx E ce q u t T'.heap (locs ++ L) e1.symm (by rw [← e2]; exact X'.warmed.alike) hp hb k1 k2 k3 (by rw [e1]; exact hce) hcv hcl T' rfl X'
    exact ⟨t2, st.trans a1, b1⟩
theorem vx_calld {S SX : Type} {post : UInt64 → S → Prop} {px : SX → Prop} {B : S → State → Prop} {BX : String → SX → State → Prop} {AX : Nat → Prop} (hr : vx_Run p l e R s m args below meth c H locs cells slots mc ms (F0 m pc ls st0) rest (va_Qd post B A1 a) (vx_X px BX AX) free) (hS : va_S A0 H0 H locs) (hA : ∀ q, q < H.size → A1 q → A0 q) (hf : ∀ q, free q → A0 q) (hAX : ∀ q, q < H.size → AX q → A0 q)
    (kx : ∀ (E : String) (ce : Cell) (q9 : Addr) (u : SX) (t : State) (H1 : Heap) (locs1 : List Loc), t.heap = H1 → s.vm.Alike t.vm → px u → BX E u t → H.size ≤ H1.size → (∀ q : Nat, q < H.size → ¬ AX q → H1[q]? = H[q]?) → va_S A0 H0 H1 locs1 → H1[q9]? = some ce → ce.vm = .none → s.vm.findClass E = some ce.cls → vx_W p l e R s m args below meth c H1 locs1 (cells + mc) (slots + ms) Q (F0 m pc ls rest) q9)
    (kk : ∀ (r : UInt64) (u : S) (t : State) (H1 : Heap) (locs1 : List Loc), t.heap = H1 → s.vm.Alike t.vm → post r u → B u t → H.size ≤ H1.size → (∀ q : Nat, q < H.size → ¬ A1 q → H1[q]? = H[q]?) → va_S A0 H0 H1 locs1 → W p l e R s m args below meth c H1 locs1 (cells + mc) (slots + ms) Q (F0 m (pc + 3) ls (.double r :: rest))) : W p l e R s m args below meth c H locs cells slots Q (F0 m pc ls st0) := by
  intro T hT X
  rcases hr T hT X with ⟨v, st₀, t, T', L, h0, X', hL, e1, e2, ⟨⟨r, u, hv, hp, hb⟩, hF⟩, st⟩ | ⟨q, st₀, t, T', L, E, ce, h0, X', hL, e1, e2, ⟨u, hp, hb, hF⟩, hce, hcv, hcl, st⟩
  · cases hv
    obtain ⟨k1, k2, k3⟩ := vx_keep h0 e1 hS hA hf hL hF
    obtain ⟨t2, a1, b1⟩ := kk r u t T'.heap (locs ++ L) e1.symm (by rw [← e2]; exact X'.warmed.alike) hp hb k1 k2 k3 T' rfl X'
    exact ⟨t2, st t2 a1, b1⟩
  · obtain ⟨k1, k2, k3⟩ := vx_keep h0 e1 hS hAX hf hL hF
    obtain ⟨t2, a1, b1⟩ := kx E ce q u t T'.heap (locs ++ L) e1.symm (by rw [← e2]; exact X'.warmed.alike) hp hb k1 k2 k3 (by rw [e1]; exact hce) hcv hcl T' rfl X'
    exact ⟨t2, st.trans a1, b1⟩
theorem vx_callv {S SX : Type} {post : S → Prop} {px : SX → Prop} {B : S → State → Prop} {BX : String → SX → State → Prop} {AX : Nat → Prop} (hr : vx_Run p l e R s m args below meth c H locs cells slots mc ms (F0 m pc ls st0) rest (va_Qv post B A1 a) (vx_X px BX AX) free) (hS : va_S A0 H0 H locs) (hA : ∀ q, q < H.size → A1 q → A0 q) (hf : ∀ q, free q → A0 q) (hAX : ∀ q, q < H.size → AX q → A0 q)
    (kx : ∀ (E : String) (ce : Cell) (q9 : Addr) (u : SX) (t : State) (H1 : Heap) (locs1 : List Loc), t.heap = H1 → s.vm.Alike t.vm → px u → BX E u t → H.size ≤ H1.size → (∀ q : Nat, q < H.size → ¬ AX q → H1[q]? = H[q]?) → va_S A0 H0 H1 locs1 → H1[q9]? = some ce → ce.vm = .none → s.vm.findClass E = some ce.cls → vx_W p l e R s m args below meth c H1 locs1 (cells + mc) (slots + ms) Q (F0 m pc ls rest) q9)
    (kk : ∀ (u : S) (t : State) (H1 : Heap) (locs1 : List Loc), t.heap = H1 → s.vm.Alike t.vm → post u → B u t → H.size ≤ H1.size → (∀ q : Nat, q < H.size → ¬ A1 q → H1[q]? = H[q]?) → va_S A0 H0 H1 locs1 → W p l e R s m args below meth c H1 locs1 (cells + mc) (slots + ms) Q (F0 m (pc + 3) ls (rest))) : W p l e R s m args below meth c H locs cells slots Q (F0 m pc ls st0) := by
  intro T hT X
  rcases hr T hT X with ⟨v, st₀, t, T', L, h0, X', hL, e1, e2, ⟨⟨u, hv, hp, hb⟩, hF⟩, st⟩ | ⟨q, st₀, t, T', L, E, ce, h0, X', hL, e1, e2, ⟨u, hp, hb, hF⟩, hce, hcv, hcl, st⟩
  · cases hv
    obtain ⟨k1, k2, k3⟩ := vx_keep h0 e1 hS hA hf hL hF
    obtain ⟨t2, a1, b1⟩ := kk u t T'.heap (locs ++ L) e1.symm (by rw [← e2]; exact X'.warmed.alike) hp hb k1 k2 k3 T' rfl X'
    exact ⟨t2, st t2 a1, b1⟩
  · obtain ⟨k1, k2, k3⟩ := vx_keep h0 e1 hS hAX hf hL hF
    obtain ⟨t2, a1, b1⟩ := kx E ce q u t T'.heap (locs ++ L) e1.symm (by rw [← e2]; exact X'.warmed.alike) hp hb k1 k2 k3 (by rw [e1]; exact hce) hcv hcl T' rfl X'
    exact ⟨t2, st.trans a1, b1⟩
/-- caught by the row x of this method's table; the rows ahead don't take it -/
theorem vx_catch {own name : String} {E : String} {ce : Cell} {q : Addr} (hown : s.vm.findClass own = some m.cls) (pre : List ExceptionTableEntry) (x : ExceptionTableEntry) (suf : List ExceptionTableEntry) (hsplit : c.exceptionTable.toList = pre ++ x :: suf)
    (hpass : ∀ z ∈ pre, covers z pc = false ∨ (z.catchType ≠ 0 ∧ ∃ nm : String, (Cond.classLink own z.catchType nm).before args s = true ∧ va_Nc E nm s)) (hx : covers x pc = true) (h0 : x.catchType ≠ 0)
    (hlink : (Cond.classLink own x.catchType name).before args s = true) (hcast : (Cond.castable E name).before args s = true) (hcell : H[q]? = some ce) (hv : ce.vm = .none) (hcl : s.vm.findClass E = some ce.cls)
    (kk : W p l e R s m args below meth c H locs cells slots Q (F0 m x.handlerPc ls [.ref q])) : vx_W p l e R s m args below meth c H locs cells slots Q (F0 m pc ls rest) q := by
  intro T hT X
  have hpl : e.platform.magicAccessors = ({} : Platform).magicAccessors := by rw [X.admits.platform]
  obtain ⟨c3, c4, hc3, hc4, hasg⟩ := Cond.castable_spec hcast
  cases Option.some.inj (hc3.symm.trans hcl)
  obtain ⟨c5, hc5, hcl5⟩ := Cond.classLink_spec hown hlink e.platform hpl
  cases Option.some.inj (hc4.symm.trans hc5)
  obtain ⟨vm', X', st⟩ := X.thenCaughtThrough q (g := F0 m pc ls rest) rfl (Steps.refl _) (by rw [hT]; exact hcell) (by rw [hv]; rfl) (by obtain ⟨k9, h9, -⟩ := Vm.findClass_spec hcl; exact ⟨k9, h9⟩) pre x suf hsplit
    (fun z hz => by
      rcases hpass z hz with h | ⟨hz0, nm, hl1, hn1⟩
      · exact Or.inl h
      · obtain ⟨c6, hc6, hcl6⟩ := Cond.classLink_spec hown hl1 e.platform hpl
        obtain ⟨a8, b8, h1, h2, h3⟩ := hn1
        cases Option.some.inj (h1.symm.trans hcl)
        cases Option.some.inj (h2.symm.trans hc6)
        exact Or.inr ⟨hz0, _, hcl6, h3⟩) hx (Or.inr ⟨h0, c4, hcl5, hasg⟩)
  obtain ⟨t, a1, b1⟩ := kk (T.setVm vm') hT X'
  exact ⟨t, st.trans a1, b1⟩
end Rows
section Ends
variable {p : Program} {l : Launch} {e : Env} {R : Room} {s : State} {m : MethodId} {args : Array Value} {below : List Frame} {meth : Method} {c : Code} {H : Heap} {locs : List Loc} {cells slots : Nat} {Q : State → Prop}
variable {mc ms : Nat} {free : Addr → Prop} {A0 A1 : Nat → Prop} {H0 : Heap} {a : Array Value} {ls : Array Slot} {st0 rest : List Value}
variable {Qc : Array Value → State → Outcome → State → Prop} {XC : String → State → State → Prop}
/-- what a body that may throw owes at its end -/
def vx_MQ (below : List Frame) (Qc : Array Value → State → Outcome → State → Prop) (XC : String → State → State → Prop) (a : Array Value) (s : State) (mc ms : Nat) (free : Addr → Prop) : State → Prop := fun t =>
  ∃ o, t.status = .running ∧ Ended t below o ∧ vx_Q Qc XC mc ms free a s o t
theorem vx_ret {g : JFrame} {mc ms : Nat} (k : W p l e R s m args below meth c H locs cells slots (MQ below Qc args s mc ms free) g) : W p l e R s m args below meth c H locs cells slots (vx_MQ below Qc XC args s mc ms free) g := by
  intro T hT X
  obtain ⟨t, a1, o, b1, b2, b3, b4⟩ := k T hT X
  exact ⟨t, a1, o, b1, b2, Or.inl ⟨b3, b4⟩⟩
/-- not caught here: it goes on to the caller -/
theorem vx_widen {g : JFrame} {q : Addr} {k n : Nat} (h1 : cells ≤ k) (h2 : slots ≤ n) (kk : vx_W p l e R s m args below meth c H locs k n Q g q) : vx_W p l e R s m args below meth c H locs cells slots Q g q := fun T hT X => kk T hT (stand_widen X h1 h2)
theorem vx_out {pc : Nat} {E : String} {ce : Cell} {q : Addr} {mc ms : Nat} (hout : ∀ x ∈ c.exceptionTable.toList, covers x pc = false) (hlocks : meth.locks = false) (hcell : H[q]? = some ce) (hv : ce.vm = .none) (hcl : s.vm.findClass E = some ce.cls)
    (hx : ∀ t : State, t.heap = H → s.vm.Alike t.vm → XC E s t) (hf : ∀ z ∈ locs, free z.base) (hc : cells ≤ mc) (hs : slots ≤ ms) :
    vx_W p l e R s m args below meth c H locs cells slots (vx_MQ below Qc XC args s mc ms free) (F0 m pc ls rest) q := by
  intro T hT X
  obtain ⟨st1, hrun, hend, hW, hsm⟩ := X.leaveThrown q (g := F0 m pc ls rest) rfl rfl rfl hout hlocks
  have hcell9 : (T.setFrames (.throwing q :: below)).heap[q]? = some ce := by
    show T.heap[q]? = some ce
    rw [hT]; exact hcell
  exact ⟨_, st1, .threw q, hrun, hend, Or.inr ⟨q, rfl, E, ce, locs, hx _ hT hW.alike, hcell9, hv, hcl, hW, hsm.mono hc hs, hf⟩⟩
theorem vx_frame {U : State} {k n : Nat} (h : s.sameButNew ({ U with vm := s.vm } : State) locs k n) : s.heap.size ≤ U.heap.size ∧ ∀ q : Nat, q < s.heap.size → (∀ z ∈ locs, z.base ≠ q) → U.heap[q]? = s.heap[q]? := by
  obtain ⟨-, h2, -, -, -, h6⟩ := h
  refine ⟨h2, fun q hq hz => ?_⟩
  obtain ⟨c9, e1, e2, e3, e4⟩ := h6 q _ (Array.getElem?_eq_getElem hq)
  have hs : c9.slots = (s.heap[q]).slots := Array.ext_getElem? fun i => e4 i fun hm => hz _ hm rfl
  have h9 : c9 = s.heap[q] := by
    rw [hs] at e2
    exact e2
  have e5 : U.heap[q]? = some c9 := e1
  rw [e5, h9, Array.getElem?_eq_getElem hq]
/-- the words of a throw but the four that speak of the heap -/
def vx_no (w : Cond) : Bool := decide (w ≠ .isRef (.static Bundle.tN "UNASSIGNED_STACK" Bundle.steD)) && decide (w ≠ .isRef (.static Bundle.tN "SUPPRESSED_SENTINEL" Bundle.listD)) && decide (w ≠ .laysStatic Bundle.tN "UNASSIGNED_STACK" Bundle.steD) && decide (w ≠ .laysStatic Bundle.tN "SUPPRESSED_SENTINEL" Bundle.listD)
def vx_at0 (own : String) (ic : Nat) (X : String) (names : List String) : List Cond := (Bundle.ownAtoms0 own ic X names).filter vx_no
def vx_atS (own : String) (ic : Nat) (X : String) (names : List String) : List Cond := (Bundle.ownAtoms own ic X names).filter vx_no
/-- a word that the tables alone decide, or a good one -/
def vx_ot (w : Cond) : Bool := w.onTables || goodWord w
theorem vx_ot_at {args a' : Array Value} {s U : State} {w : Cond} (hW : s.WarmedH U.vm) (hvm : s.vm = U.vm) (hg : vx_ot w = true) (h : w.before args s = true) : w.before a' U = true := by
  simp only [vx_ot, Bool.or_eq_true] at hg
  rcases hg with hg | hg
  · exact va_tabs hg hvm h
  · exact word_at hW (good_of_word hg) h
/-- a list's words: the good ones out of the method's own list, the others by premises of their own -/
theorem vx_hat {args : Array Value} {s : State} {L B : List Cond} (h1 : ∀ w ∈ L.filter goodWord, w.before args s = true) (h2 : ∀ w ∈ L.filter (fun w => !goodWord w), w ∈ B) (h3 : ∀ w ∈ B, w.before args s = true) : ∀ w ∈ L, w.before args s = true := by
  intro w hw
  by_cases g : goodWord w = true
  · exact h1 w (List.mem_filter.mpr ⟨hw, g⟩)
  · refine h3 w (h2 w (List.mem_filter.mpr ⟨hw, ?_⟩))
    show (!goodWord w) = true
    cases hgw : goodWord w
    · rfl
    · exact absurd hgw g
theorem vx_c {args : Array Value} {s : State} {w : Cond} {B : List Cond} (h : w.before args s = true) (t : ∀ w ∈ B, w.before args s = true) : ∀ w' ∈ w :: B, w'.before args s = true := fun w' h' => (List.mem_cons.mp h').elim (fun e => by rw [e]; exact h) (t w')
theorem vx_n {args : Array Value} {s : State} : ∀ w ∈ ([] : List Cond), w.before args s = true := fun _ h => nomatch h
theorem vx_own {args : Array Value} {s : State} {L : List Cond} (h1 : ∀ w ∈ L.filter vx_no, w.before args s = true)
    (hU : (Cond.isRef (.static Bundle.tN "UNASSIGNED_STACK" Bundle.steD)).before args s = true) (hN : (Cond.isRef (.static Bundle.tN "SUPPRESSED_SENTINEL" Bundle.listD)).before args s = true)
    (lU : (Cond.laysStatic Bundle.tN "UNASSIGNED_STACK" Bundle.steD).before args s = true) (lN : (Cond.laysStatic Bundle.tN "SUPPRESSED_SENTINEL" Bundle.listD).before args s = true) : ∀ w ∈ L, w.before args s = true := by
  intro w hw
  by_cases e1 : w = .isRef (.static Bundle.tN "UNASSIGNED_STACK" Bundle.steD)
  · rw [e1]; exact hU
  · by_cases e2 : w = .isRef (.static Bundle.tN "SUPPRESSED_SENTINEL" Bundle.listD)
    · rw [e2]; exact hN
    · by_cases e3 : w = .laysStatic Bundle.tN "UNASSIGNED_STACK" Bundle.steD
      · rw [e3]; exact lU
      · by_cases e4 : w = .laysStatic Bundle.tN "SUPPRESSED_SENTINEL" Bundle.listD
        · rw [e4]; exact lN
        · exact h1 w (List.mem_filter.mpr ⟨hw, by unfold vx_no; rw [decide_eq_true e1, decide_eq_true e2, decide_eq_true e3, decide_eq_true e4]; rfl⟩)
/-- where a static field lies, its class's statics cell in H -/
def vx_L (C n d : String) (A : Nat → Prop) (U : State) (H : Heap) : Prop := ∃ (c : ClassId) (k : Class) (i : Nat) (f : Field) (a : Nat) (cell : Cell), U.vm.findClass C = some c ∧ U.fieldFound? C n d = some (c, k, i, f) ∧ f.isStatic = true ∧ k.statics = some a ∧ H[a]? = some cell ∧ cell.vm.isStatics = true ∧ cell.cls = c ∧ f.slot < cell.slots.size ∧ k.staticTypes[f.slot]? = some f.type ∧ ¬ A a
theorem vx_L.moved {C n d : String} {A : Nat → Prop} {u U : State} {H : Heap} (hvm : u.vm.Alike U.vm) (h : vx_L C n d A u H) : vx_L C n d A U H := by
  obtain ⟨c, k, i, f, a, cell, h1, h2, h3, h4, h5, h6, h7, h8, h9, h10⟩ := h
  obtain ⟨k', hi', he⟩ := State.fieldFound?_setVm hvm h2
  exact ⟨c, k', i, f, a, cell, by rw [hvm.findClass]; exact h1, hi', h3, by rw [he]; exact h4, h5, h6, h7, h8, by rw [he]; exact h9, h10⟩
theorem vx_L.kept {C n d : String} {A : Nat → Prop} {U : State} {H H1 : Heap} (h : vx_L C n d A U H) (hq : ∀ a : Nat, a < H.size → ¬ A a → H1[a]? = H[a]?) : vx_L C n d A U H1 := by
  obtain ⟨c, k, i, f, a, cell, h1, h2, h3, h4, h5, h6, h7, h8, h9, h10⟩ := h
  exact ⟨c, k, i, f, a, cell, h1, h2, h3, h4, by rw [hq a (Array.getElem?_eq_some_iff.mp h5).1 h10]; exact h5, h6, h7, h8, h9, h10⟩
theorem vx_L.narrow {C n d : String} {A B : Nat → Prop} {U : State} {H : Heap} (h : vx_L C n d A U H) (hAB : ∀ q, B q → A q) : vx_L C n d B U H := by
  obtain ⟨c, k, i, f, a, cell, h1, h2, h3, h4, h5, h6, h7, h8, h9, h10⟩ := h
  exact ⟨c, k, i, f, a, cell, h1, h2, h3, h4, h5, h6, h7, h8, h9, fun z => h10 (hAB _ z)⟩
theorem vx_L.word {C n d : String} {A : Nat → Prop} {s : State} {args : Array Value} (h : vx_L C n d A s s.heap) : (Cond.laysStatic C n d).before args s = true := by
  obtain ⟨c, k, i, f, a, cell, h1, h2, h3, h4, h5, h6, h7, h8, h9, -⟩ := h
  show (Cond.laysStatic C n d).holds args s none s [] = true
  exact Cond.laysStatic_of h1 h2 h3 h4 h5 h6 h7 h8 h9
/-- .. and what it holds: null or some reference -/
def vx_Zq (C n d : String) (A : Nat → Prop) (U : State) (H : Heap) : Prop := va_Zq C n d A U H ∧ vx_L C n d A U H
theorem vx_Zq.moved {C n d : String} {A : Nat → Prop} {u U : State} {H : Heap} (hvm : u.vm.Alike U.vm) (h : vx_Zq C n d A u H) : vx_Zq C n d A U H := ⟨va_Zq.moved hvm h.1, vx_L.moved hvm h.2⟩
theorem vx_Zq.kept {C n d : String} {A : Nat → Prop} {U : State} {H H1 : Heap} (h : vx_Zq C n d A U H) (hq : ∀ a : Nat, a < H.size → ¬ A a → H1[a]? = H[a]?) : vx_Zq C n d A U H1 := ⟨va_Zq.kept h.1 hq, vx_L.kept h.2 hq⟩
theorem vx_Zq.narrow {C n d : String} {A B : Nat → Prop} {U : State} {H : Heap} (h : vx_Zq C n d A U H) (hAB : ∀ q, B q → A q) : vx_Zq C n d B U H := ⟨va_Zq.narrow h.1 hAB, vx_L.narrow h.2 hAB⟩
theorem vx_Zqof {args : Array Value} {s : State} {C n d : String} {A : Nat → Prop} (hl : (Cond.laysStatic C n d).before args s = true) (hini : (Cond.initialized C).before args s = true) (h : (Cond.isRef (.static C n d)).before args s = true) (hA : ∀ a : Nat, a < s.heap.size → ¬ A a) : vx_Zq C n d A s s.heap := by
  refine ⟨va_Zqof hl hini h hA, ?_⟩
  obtain ⟨c, k, i, f, a, cell, h1, h2, h3, h4, h5, h6, h7, h8, h9⟩ := Cond.laysStatic_spec hl
  exact ⟨c, k, i, f, a, cell, h1, h2, h3, h4, h5, h6, h7, h8, h9, hA a (Array.getElem?_eq_some_iff.mp h5).1⟩
theorem vx_isRef {C n d : String} {v : Value} {A : Nat → Prop} {s : State} {args : Array Value} (h : va_Z C n d v A s s.heap) (hv : v.isRef = true) : (Cond.isRef (.static C n d)).before args s = true := by
  obtain ⟨cf, kf, fi, f, a, cell, h1, h2, h3, h4, h5, h6, h7, -⟩ := h
  have he : (Term.static C n d).eval args s none [] s = some v := by
    simp [Term.eval, State.fieldNamed?, h1, h2, h4, h5, h6, h7]
  simp only [Cond.before, Cond.holds, Cond.value, he]
  cases v <;> simp_all [Value.isRef]
theorem vx_isRefq {C n d : String} {A : Nat → Prop} {s : State} {args : Array Value} (h : va_Zq C n d A s s.heap) : (Cond.isRef (.static C n d)).before args s = true := by
  rcases h with h | ⟨t, h⟩
  · exact vx_isRef h rfl
  · exact vx_isRef h rfl
/-- the same frame, seen from here: as if the method were called anew in this heap -/
theorem vx_rebase {T : State} (X : Stand p l e R s m args below meth c T locs cells slots) {R' : Room} (hf : R'.frames ≤ R.frames) (hl : R'.locals ≤ R.locals) (hc : cells + R'.cells ≤ R.cells) (hs : slots + R'.slots ≤ R.slots) :
    Stand p l e R' ((T.setVm s.vm).setFrames (.invoking m args :: below)) m args below meth c T [] 0 0 := by
  have htop : (T.setVm s.vm).topJava?.isSome := X.here.top
  have hF : ((T.setVm s.vm).setFrames (.invoking m args :: below)).frames = .invoking m args :: below := State.frames_setFrames _ (State.cur_lt_of_top htop)
  obtain ⟨g₀, hg0⟩ := Option.isSome_iff_exists.mp htop
  obtain ⟨r, hr⟩ := State.topJava?_eq_some.mp hg0
  have hl9 : e.platform.stackLimits (T.setVm s.vm).me = e.platform.stackLimits s.me := X.limits
  have hb9 : (T.setVm s.vm).me.stackBytes = s.me.stackBytes := X.bytes
  refine ⟨X.admits, X.cas, X.clock, hF, ?_, X.hears, X.method, X.code, X.here, X.tail, X.warmed, ?_, ?_, ?_⟩
  · have h := X.room
    have hU : ((T.setVm s.vm).setFrames (.invoking m args :: below)).localsInUse = s.localsInUse := by
      rw [State.localsInUse_invoking hF (meth := meth) (c := c) X.method X.code, State.localsInUse_invoking X.frames X.method X.code]
    simp only [State.hasRoom, Bool.and_eq_true, decide_eq_true_eq] at h ⊢
    obtain ⟨⟨⟨⟨h1, h2, h3, h4, h5, h6⟩, h7⟩, h8⟩, h9⟩ := h
    rw [X.frames, List.length_cons] at h2 h3
    have q1 := X.heapSize
    have q2 := X.used
    simp only [hF, hU, List.length_cons, State.stackLimits_setFrames, State.stackBytes_setFrames, hl9, hb9]
    refine ⟨⟨⟨⟨by omega, by omega, by omega, by omega, by omega, h6⟩, ?_⟩, ?_⟩, X.book⟩
    · show T.heap.size + R'.cells ≤ e.platform.maxCells
      omega
    · show T.slotsUsed + R'.slots ≤ e.platform.maxSlots
      omega
  · rw [State.stackLimits_setFrames]; rfl
  · rw [State.stackBytes_setFrames]; rfl
  · refine ⟨?_, Nat.le_refl _, Nat.le_refl _, ?_, ?_, fun a c9 h9 => ⟨c9, h9, rfl, rfl, fun _ _ => rfl⟩⟩
    · obtain ⟨t, ht, -⟩ := State.frames_cons hr
      show T.setVm s.vm = { ((T.setVm s.vm).setFrames (.invoking m args :: below)).setFrames (T.setVm s.vm).frames with heap := T.heap, slotsUsed := T.slotsUsed }
      rw [State.setFrames_setFrames, State.setFrames_self ht]
      rfl
    · show T.slotsUsed = T.slotsUsed + ((T.heap.toList.drop T.heap.size).map (·.slots.size)).sum
      rw [List.drop_eq_nil_of_le (Nat.le_of_eq Array.length_toList)]
      rfl
    · show ((T.heap.toList.drop T.heap.size).map (·.slots.size)).sum ≤ 0
      rw [List.drop_eq_nil_of_le (Nat.le_of_eq Array.length_toList)]
      exact Nat.le_refl _
/-- 'throw new E()': new; dup; invokespecial; athrow -/
theorem vx_throw0 {cc : ByteArray} {pc : Nat} (hexec : p.tables.exec = Jvm.exec) (hb : c.code = cc) (hl : l.stackTraces = false) {own cls : String} {names : List String} {ik ic mc ms : Nat} {A : Nat → Prop}
    (hown : s.vm.findClass own = some m.cls) (hcls : Bundle.fit cls = true) (hnames : ∀ n ∈ names, Bundle.fit n = true)
    (hk : (Cond.classLink own ik cls).before args s = true) (hini : (Cond.initialized cls).before args s = true) (hat : ∀ w ∈ vx_at0 own ic cls names, w.before args s = true)
    (hgood : ∀ w ∈ Cond.classLink own ik cls :: Cond.initialized cls :: vx_at0 own ic cls names, vx_ot w = true)
    (hU : vx_Zq Bundle.tN "UNASSIGNED_STACK" Bundle.steD A s s.heap) (hN : vx_Zq Bundle.tN "SUPPRESSED_SENTINEL" Bundle.listD A s s.heap) (hS : va_S A s.heap H locs) (hsize : ls.size = c.maxLocals)
    (d0 : decode cc pc = .ok (.new ik, 3)) (d3 : decode cc (pc + 3) = .ok (.dup, 1)) (d4 : decode cc (pc + 4) = .ok (.invokespecial ic, 3)) (d7 : decode cc (pc + 7) = .ok (.athrow, 1))
    (hout : ∀ x ∈ c.exceptionTable.toList, covers x (pc + 7) = false)
    (hRframes : names.length + 3 < R.frames) (hRlocals : (rest.map fun v => v.category).sum + (13 * (names.length + 1) + 42) ≤ R.locals) (hRcells : cells + 1 ≤ R.cells) (hRslots : slots + 6 ≤ R.slots) (hlocks : meth.locks = false)
    (hx : ∀ t : State, s.vm.Alike t.vm → H.size ≤ t.heap.size → (∀ q : Nat, q < H.size → t.heap[q]? = H[q]?) → XC cls s t)
    (hf : ∀ z ∈ locs, free z.base) (hc : cells + 1 ≤ mc) (hs : slots + 6 ≤ ms) :
    W p l e R s m args below meth c H locs cells slots (vx_MQ below Qc XC args s mc ms free) (F0 m pc ls rest) := by
  intro T hT X
  have htr : e.platform.stackTraces = false := (show e.platform.stackTraces = l.stackTraces by rw [X.admits.platform]).trans hl
  have Y := vx_rebase X (R' := { frames := R.frames, locals := R.locals, cells := 1, slots := 6 }) (Nat.le_refl _) (Nat.le_refl _) hRcells hRslots
  obtain ⟨s', hA⟩ : ∃ z, z = (T.setVm s.vm).setFrames (.invoking m args :: below) := ⟨_, rfl⟩
  rw [← hA] at Y
  have hvm : s'.vm = s.vm := by rw [hA]; rfl
  have hhp : s'.heap = H := by rw [hA]; exact hT
  have hW0 : s.WarmedH s'.vm := by rw [hvm]; exact State.WarmedH.refl s
  have hat' : ∀ w ∈ vx_at0 own ic cls names, w.before args s' = true := fun w hw => vx_ot_at hW0 hvm.symm (hgood w (List.mem_cons_of_mem _ (List.mem_cons_of_mem _ hw))) (hat w hw)
  have hk' : (Cond.classLink own ik cls).before args s' = true := vx_ot_at hW0 hvm.symm (hgood _ List.mem_cons_self) hk
  have hini' : (Cond.initialized cls).before args s' = true := vx_ot_at hW0 hvm.symm (hgood _ (List.mem_cons_of_mem _ List.mem_cons_self)) hini
  have hU' : vx_Zq Bundle.tN "UNASSIGNED_STACK" Bundle.steD A s' s'.heap := by rw [hhp]; exact vx_Zq.moved hW0.alike (hU.kept hS.2.1)
  have hN' : vx_Zq Bundle.tN "SUPPRESSED_SENTINEL" Bundle.listD A s' s'.heap := by rw [hhp]; exact vx_Zq.moved hW0.alike (hN.kept hS.2.1)
  have h : ∀ w ∈ Bundle.ownAtoms0 own ic cls names, w.before args s' = true := vx_own hat' (vx_isRefq hU'.1) (vx_isRefq hN'.1) hU'.2.word hN'.2.word
  have hown' : s'.vm.findClass own = some m.cls := by rw [hvm]; exact hown
  have hins : (Cond.instantiable cls 6).before args s' = true := h _ (by simp [Bundle.ownAtoms0])
  obtain ⟨vm₁, cX, kX, hfX, hkX, -, -, X₁, st1⟩ := Y.newCold hexec (own := own) (C := cls) (index := ik) (n := 6) hown' hk' hins hini'
    (g := F0 m pc ls rest) rfl (by rw [hb]; exact d0) (Nat.le_refl _) (Nat.le_refl _)
  generalize hT1 : (T.setVm vm₁).pushCell { cls := cX, slots := kX.instanceTypes.map defaultValue, vm := .none } = T1 at X₁ st1
  have hcat : (Value.ref T.heap.size).category = 1 := rfl
  have hcellA : T1.heap[T.heap.size]? = some (freshCell cX kX) := by rw [← hT1]; exact State.heap_pushCell_size _ _
  have d3' : decode c.code (pc + 3) = .ok (.dup, 1) := by rw [hb]; exact d3
  obtain ⟨U, hsteps, hrun, hend, hW, hsame, ce, hce, hO⟩ := X₁.ctorThrow0 hexec htr (own := own) (cls := cls) (names := names) (ic := ic) hown' hcls hnames h (fun x hx => nomatch hx) hfX hkX hcellA (by rw [hhp, hT]; exact Nat.le_refl _)
    (g := { method := m, pc := pc + 4, locals := ls, stack := .ref T.heap.size :: .ref T.heap.size :: rest, locked := none }) rfl hsize rfl rfl (rest := rest) rfl
    (by rw [hb]; exact d4) (by rw [hb]; exact d7) hout hRframes (by simp only [List.map_cons, List.sum_cons, hcat]; omega) hlocks
  obtain ⟨f1, f2⟩ := vx_frame hsame
  rw [hhp] at f1 f2
  have hWs : s.WarmedH U.vm := State.WarmedH.trans hW0 hW
  have hcl : s.vm.findClass cls = some ce.cls := by
    have h9 := hO.cls
    rw [hvm] at h9
    exact h9
  have hall : s.sameButNew ({ U with vm := s.vm } : State) locs mc ms := by
    subst hA
    obtain ⟨e1, e2⟩ := hsame
    rw [State.setFrames_setFrames] at e1
    have h2 : (T.setVm s.vm).sameButNew ({ U with vm := s.vm } : State) [] (0 + 1) (0 + 6) := ⟨e1, e2⟩
    have h3 := X.same.trans h2
    rw [List.append_nil] at h3
    exact h3.mono hc hs
  refine ⟨U, ?_, .threw T.heap.size, hrun, hend, Or.inr ⟨T.heap.size, rfl, cls, ce, locs, hx U hWs.alike f1 (fun q hq => f2 q hq (fun z hz => nomatch hz)), hce, hO.vm, hcl, hWs, hall, hf⟩⟩
  refine st1 _ ?_
  show Steps p.tables e below (T1.setTop { method := m, pc := pc + 3, locals := ls, stack := .ref T.heap.size :: rest, locked := none }) _
  jvm_step X₁.here [X₁.here.top, hexec, d3', Value.category]
  exact hsteps
/-- 'throw new E("text")': new; dup; ldc; invokespecial; athrow -/
theorem vx_throwS {cc : ByteArray} {pc : Nat} (hexec : p.tables.exec = Jvm.exec) (hb : c.code = cc) (hl : l.stackTraces = false) {own cls text : String} {names : List String} {ik is ic mc ms sa : Nat} {A : Nat → Prop}
    (hown : s.vm.findClass own = some m.cls) (hcls : Bundle.fit cls = true) (hnames : ∀ n ∈ names, Bundle.fit n = true)
    (hk : (Cond.classLink own ik cls).before args s = true) (hini : (Cond.initialized cls).before args s = true) (hstr : vk_R own is text sa s) (hat : ∀ w ∈ vx_atS own ic cls names, w.before args s = true)
    (hgood : ∀ w ∈ Cond.classLink own ik cls :: Cond.initialized cls :: vx_atS own ic cls names, vx_ot w = true)
    (hU : vx_Zq Bundle.tN "UNASSIGNED_STACK" Bundle.steD A s s.heap) (hN : vx_Zq Bundle.tN "SUPPRESSED_SENTINEL" Bundle.listD A s s.heap) (hS : va_S A s.heap H locs) (hsize : ls.size = c.maxLocals)
    (d0 : decode cc pc = .ok (.new ik, 3)) (d3 : decode cc (pc + 3) = .ok (.dup, 1)) (d4 : decode cc (pc + 4) = .ok (.ldc is, 2)) (d6 : decode cc (pc + 6) = .ok (.invokespecial ic, 3)) (d9 : decode cc (pc + 9) = .ok (.athrow, 1))
    (hout : ∀ x ∈ c.exceptionTable.toList, covers x (pc + 9) = false)
    (hRframes : names.length + 3 < R.frames) (hRlocals : (rest.map fun v => v.category).sum + (13 * (names.length + 1) + 43) ≤ R.locals) (hRcells : cells + 1 ≤ R.cells) (hRslots : slots + 6 ≤ R.slots) (hlocks : meth.locks = false)
    (hx : ∀ t : State, s.vm.Alike t.vm → H.size ≤ t.heap.size → (∀ q : Nat, q < H.size → t.heap[q]? = H[q]?) → XC cls s t)
    (hf : ∀ z ∈ locs, free z.base) (hc : cells + 1 ≤ mc) (hs : slots + 6 ≤ ms) :
    W p l e R s m args below meth c H locs cells slots (vx_MQ below Qc XC args s mc ms free) (F0 m pc ls rest) := by
  intro T hT X
  have htr : e.platform.stackTraces = false := (show e.platform.stackTraces = l.stackTraces by rw [X.admits.platform]).trans hl
  have Y := vx_rebase X (R' := { frames := R.frames, locals := R.locals, cells := 1, slots := 6 }) (Nat.le_refl _) (Nat.le_refl _) hRcells hRslots
  obtain ⟨s', hA⟩ : ∃ z, z = (T.setVm s.vm).setFrames (.invoking m args :: below) := ⟨_, rfl⟩
  rw [← hA] at Y
  have hvm : s'.vm = s.vm := by rw [hA]; rfl
  have hhp : s'.heap = H := by rw [hA]; exact hT
  have hW0 : s.WarmedH s'.vm := by rw [hvm]; exact State.WarmedH.refl s
  have hat' : ∀ w ∈ vx_atS own ic cls names, w.before args s' = true := fun w hw => vx_ot_at hW0 hvm.symm (hgood w (List.mem_cons_of_mem _ (List.mem_cons_of_mem _ hw))) (hat w hw)
  have hk' : (Cond.classLink own ik cls).before args s' = true := vx_ot_at hW0 hvm.symm (hgood _ List.mem_cons_self) hk
  have hini' : (Cond.initialized cls).before args s' = true := vx_ot_at hW0 hvm.symm (hgood _ (List.mem_cons_of_mem _ List.mem_cons_self)) hini
  have hU' : vx_Zq Bundle.tN "UNASSIGNED_STACK" Bundle.steD A s' s'.heap := by rw [hhp]; exact vx_Zq.moved hW0.alike (hU.kept hS.2.1)
  have hN' : vx_Zq Bundle.tN "SUPPRESSED_SENTINEL" Bundle.listD A s' s'.heap := by rw [hhp]; exact vx_Zq.moved hW0.alike (hN.kept hS.2.1)
  have h : ∀ w ∈ Bundle.ownAtoms own ic cls names, w.before args s' = true := vx_own hat' (vx_isRefq hU'.1) (vx_isRefq hN'.1) hU'.2.word hN'.2.word
  have hown' : s'.vm.findClass own = some m.cls := by rw [hvm]; exact hown
  have hins : (Cond.instantiable cls 6).before args s' = true := h _ (by simp [Bundle.ownAtoms])
  obtain ⟨vm₁, cX, kX, hfX, hkX, -, -, X₁, st1⟩ := Y.newCold hexec (own := own) (C := cls) (index := ik) (n := 6) hown' hk' hins hini'
    (g := F0 m pc ls rest) rfl (by rw [hb]; exact d0) (Nat.le_refl _) (Nat.le_refl _)
  generalize hT1 : (T.setVm vm₁).pushCell { cls := cX, slots := kX.instanceTypes.map defaultValue, vm := .none } = T1 at X₁ st1
  have hcat : (Value.ref T.heap.size).category = 1 := rfl
  have hcellA : T1.heap[T.heap.size]? = some (freshCell cX kX) := by rw [← hT1]; exact State.heap_pushCell_size _ _
  have d3' : decode c.code (pc + 3) = .ok (.dup, 1) := by rw [hb]; exact d3
  have d4' : decode c.code (pc + 4) = .ok (.ldc is, 2) := by rw [hb]; exact d4
  have hstr' : vk_R own is text sa s' := vk_R.warm hW0 hstr
  obtain ⟨U, hsteps, hrun, hend, hW, hsame, ce, hce, hO⟩ := X₁.ctorThrowS hexec htr (own := own) (cls := cls) (names := names) (ic := ic) hown' hcls hnames h (fun x hx => nomatch hx) hfX hkX hcellA (by rw [hhp, hT]; exact Nat.le_refl _) (msg := .ref sa) rfl
    (g := { method := m, pc := pc + 6, locals := ls, stack := .ref sa :: .ref T.heap.size :: .ref T.heap.size :: rest, locked := none }) rfl hsize rfl rfl (rest := rest) rfl
    (by rw [hb]; exact d6) (by rw [hb]; exact d9) hout hRframes (by simp only [List.map_cons, List.sum_cons, hcat]; omega) hlocks
  obtain ⟨f1, f2⟩ := vx_frame hsame
  rw [hhp] at f1 f2
  have hWs : s.WarmedH U.vm := State.WarmedH.trans hW0 hW
  have hcl : s.vm.findClass cls = some ce.cls := by
    have h9 := hO.cls
    rw [hvm] at h9
    exact h9
  have hall : s.sameButNew ({ U with vm := s.vm } : State) locs mc ms := by
    subst hA
    obtain ⟨e1, e2⟩ := hsame
    rw [State.setFrames_setFrames] at e1
    have h2 : (T.setVm s.vm).sameButNew ({ U with vm := s.vm } : State) [] (0 + 1) (0 + 6) := ⟨e1, e2⟩
    have h3 := X.same.trans h2
    rw [List.append_nil] at h3
    exact h3.mono hc hs
  refine ⟨U, ?_, .threw T.heap.size, hrun, hend, Or.inr ⟨T.heap.size, rfl, cls, ce, locs, hx U hWs.alike f1 (fun q hq => f2 q hq (fun z hz => nomatch hz)), hce, hO.vm, hcl, hWs, hall, hf⟩⟩
  refine st1 _ ?_
  show Steps p.tables e below (T1.setTop { method := m, pc := pc + 3, locals := ls, stack := .ref T.heap.size :: rest, locked := none }) _
  jvm_step X₁.here [X₁.here.top, hexec, d3', Value.category]
  exact X₁.ldcString hexec (own := own) (text := text) (index := is) (a := sa) hown' hstr'.1 hstr'.2
    (g := { method := m, pc := pc + 4, locals := ls, stack := .ref T.heap.size :: .ref T.heap.size :: rest, locked := none }) rfl d4' _ hsteps
/-- 'throw new E("text")', the text by a wide index -/
theorem vx_throwSW {cc : ByteArray} {pc : Nat} (hexec : p.tables.exec = Jvm.exec) (hb : c.code = cc) (hl : l.stackTraces = false) {own cls text : String} {names : List String} {ik is ic mc ms sa : Nat} {A : Nat → Prop}
    (hown : s.vm.findClass own = some m.cls) (hcls : Bundle.fit cls = true) (hnames : ∀ n ∈ names, Bundle.fit n = true)
    (hk : (Cond.classLink own ik cls).before args s = true) (hini : (Cond.initialized cls).before args s = true) (hstr : vk_R own is text sa s) (hat : ∀ w ∈ vx_atS own ic cls names, w.before args s = true)
    (hgood : ∀ w ∈ Cond.classLink own ik cls :: Cond.initialized cls :: vx_atS own ic cls names, vx_ot w = true)
    (hU : vx_Zq Bundle.tN "UNASSIGNED_STACK" Bundle.steD A s s.heap) (hN : vx_Zq Bundle.tN "SUPPRESSED_SENTINEL" Bundle.listD A s s.heap) (hS : va_S A s.heap H locs) (hsize : ls.size = c.maxLocals)
    (d0 : decode cc pc = .ok (.new ik, 3)) (d3 : decode cc (pc + 3) = .ok (.dup, 1)) (d4 : decode cc (pc + 4) = .ok (.ldc_w is, 3)) (d7 : decode cc (pc + 7) = .ok (.invokespecial ic, 3)) (d10 : decode cc (pc + 10) = .ok (.athrow, 1))
    (hout : ∀ x ∈ c.exceptionTable.toList, covers x (pc + 10) = false)
    (hRframes : names.length + 3 < R.frames) (hRlocals : (rest.map fun v => v.category).sum + (13 * (names.length + 1) + 43) ≤ R.locals) (hRcells : cells + 1 ≤ R.cells) (hRslots : slots + 6 ≤ R.slots) (hlocks : meth.locks = false)
    (hx : ∀ t : State, s.vm.Alike t.vm → H.size ≤ t.heap.size → (∀ q : Nat, q < H.size → t.heap[q]? = H[q]?) → XC cls s t)
    (hf : ∀ z ∈ locs, free z.base) (hc : cells + 1 ≤ mc) (hs : slots + 6 ≤ ms) :
    W p l e R s m args below meth c H locs cells slots (vx_MQ below Qc XC args s mc ms free) (F0 m pc ls rest) := by
  intro T hT X
  have htr : e.platform.stackTraces = false := (show e.platform.stackTraces = l.stackTraces by rw [X.admits.platform]).trans hl
  have Y := vx_rebase X (R' := { frames := R.frames, locals := R.locals, cells := 1, slots := 6 }) (Nat.le_refl _) (Nat.le_refl _) hRcells hRslots
  obtain ⟨s', hA⟩ : ∃ z, z = (T.setVm s.vm).setFrames (.invoking m args :: below) := ⟨_, rfl⟩
  rw [← hA] at Y
  have hvm : s'.vm = s.vm := by rw [hA]; rfl
  have hhp : s'.heap = H := by rw [hA]; exact hT
  have hW0 : s.WarmedH s'.vm := by rw [hvm]; exact State.WarmedH.refl s
  have hat' : ∀ w ∈ vx_atS own ic cls names, w.before args s' = true := fun w hw => vx_ot_at hW0 hvm.symm (hgood w (List.mem_cons_of_mem _ (List.mem_cons_of_mem _ hw))) (hat w hw)
  have hk' : (Cond.classLink own ik cls).before args s' = true := vx_ot_at hW0 hvm.symm (hgood _ List.mem_cons_self) hk
  have hini' : (Cond.initialized cls).before args s' = true := vx_ot_at hW0 hvm.symm (hgood _ (List.mem_cons_of_mem _ List.mem_cons_self)) hini
  have hU' : vx_Zq Bundle.tN "UNASSIGNED_STACK" Bundle.steD A s' s'.heap := by rw [hhp]; exact vx_Zq.moved hW0.alike (hU.kept hS.2.1)
  have hN' : vx_Zq Bundle.tN "SUPPRESSED_SENTINEL" Bundle.listD A s' s'.heap := by rw [hhp]; exact vx_Zq.moved hW0.alike (hN.kept hS.2.1)
  have h : ∀ w ∈ Bundle.ownAtoms own ic cls names, w.before args s' = true := vx_own hat' (vx_isRefq hU'.1) (vx_isRefq hN'.1) hU'.2.word hN'.2.word
  have hown' : s'.vm.findClass own = some m.cls := by rw [hvm]; exact hown
  have hins : (Cond.instantiable cls 6).before args s' = true := h _ (by simp [Bundle.ownAtoms])
  obtain ⟨vm₁, cX, kX, hfX, hkX, -, -, X₁, st1⟩ := Y.newCold hexec (own := own) (C := cls) (index := ik) (n := 6) hown' hk' hins hini'
    (g := F0 m pc ls rest) rfl (by rw [hb]; exact d0) (Nat.le_refl _) (Nat.le_refl _)
  generalize hT1 : (T.setVm vm₁).pushCell { cls := cX, slots := kX.instanceTypes.map defaultValue, vm := .none } = T1 at X₁ st1
  have hcat : (Value.ref T.heap.size).category = 1 := rfl
  have hcellA : T1.heap[T.heap.size]? = some (freshCell cX kX) := by rw [← hT1]; exact State.heap_pushCell_size _ _
  have d3' : decode c.code (pc + 3) = .ok (.dup, 1) := by rw [hb]; exact d3
  have d4' : decode c.code (pc + 4) = .ok (.ldc_w is, 3) := by rw [hb]; exact d4
  have hstr' : vk_R own is text sa s' := vk_R.warm hW0 hstr
  obtain ⟨U, hsteps, hrun, hend, hW, hsame, ce, hce, hO⟩ := X₁.ctorThrowS hexec htr (own := own) (cls := cls) (names := names) (ic := ic) hown' hcls hnames h (fun x hx => nomatch hx) hfX hkX hcellA (by rw [hhp, hT]; exact Nat.le_refl _) (msg := .ref sa) rfl
    (g := { method := m, pc := pc + 7, locals := ls, stack := .ref sa :: .ref T.heap.size :: .ref T.heap.size :: rest, locked := none }) rfl hsize rfl rfl (rest := rest) rfl
    (by rw [hb]; exact d7) (by rw [hb]; exact d10) hout hRframes (by simp only [List.map_cons, List.sum_cons, hcat]; omega) hlocks
  obtain ⟨f1, f2⟩ := vx_frame hsame
  rw [hhp] at f1 f2
  have hWs : s.WarmedH U.vm := State.WarmedH.trans hW0 hW
  have hcl : s.vm.findClass cls = some ce.cls := by
    have h9 := hO.cls
    rw [hvm] at h9
    exact h9
  have hall : s.sameButNew ({ U with vm := s.vm } : State) locs mc ms := by
    subst hA
    obtain ⟨e1, e2⟩ := hsame
    rw [State.setFrames_setFrames] at e1
    have h2 : (T.setVm s.vm).sameButNew ({ U with vm := s.vm } : State) [] (0 + 1) (0 + 6) := ⟨e1, e2⟩
    have h3 := X.same.trans h2
    rw [List.append_nil] at h3
    exact h3.mono hc hs
  refine ⟨U, ?_, .threw T.heap.size, hrun, hend, Or.inr ⟨T.heap.size, rfl, cls, ce, locs, hx U hWs.alike f1 (fun q hq => f2 q hq (fun z hz => nomatch hz)), hce, hO.vm, hcl, hWs, hall, hf⟩⟩
  refine st1 _ ?_
  show Steps p.tables e below (T1.setTop { method := m, pc := pc + 3, locals := ls, stack := .ref T.heap.size :: rest, locked := none }) _
  jvm_step X₁.here [X₁.here.top, hexec, d3', Value.category]
  exact X₁.ldcStringW hexec (own := own) (text := text) (index := is) (a := sa) hown' hstr'.1 hstr'.2
    (g := { method := m, pc := pc + 4, locals := ls, stack := .ref T.heap.size :: .ref T.heap.size :: rest, locked := none }) rfl d4' _ hsteps
end Ends
section Bodies
variable {l : Launch}
theorem vx_ofW {y : MethodName} {ws ws' : List Cond} {rm : Room} {Pc : Array Value → State → Prop} {Qc : Array Value → State → Outcome → State → Prop} {XC : String → State → State → Prop} {mc ms : Nat} {free : Addr → Prop} {cc : ByteArray} {maxL : Nat} {ret : Option FieldType}
    (hy : plainName y.cls = true) (hw : ws = Cond.code y cc maxL ret :: ws')
    (body : ∀ p e s m args below meth c s₁, BodyLoose p l y (headSpec ws rm) cc maxL ret e s m args below meth c s₁ → c.maxLocals = maxL → (∀ x ∈ c.exceptionTable.toList, False) → Pc args s →
      W p l e (headSpec ws rm).room s m args below meth c s.heap [] 0 0 (vx_MQ below Qc XC args s mc ms free) (entryFrame m args maxL)) : vx_Met l y ws rm Pc Qc XC mc ms free := by
  refine MetFree.of_bodyS (code := cc) (maxLocals := maxL) (ret := ret) hy ?_ ?_
  · intro args s m h hn
    obtain ⟨meth, c, h1, h2, h3, h4, h5, h6, -, -⟩ := Cond.code_spec hn (atoms_spec (ws := ws) h _ (by rw [hw]; exact List.mem_cons_self))
    exact ⟨meth, c, h1, h2, h3, h4, h5, h6⟩
  · intro p e s m args below meth c s₁ B hml hP _
    have hh0 : s₁.heap = s.heap := by rw [B.state]; rfl
    have ht : ∀ x ∈ c.exceptionTable.toList, False := by
      obtain ⟨meth9, c9, h1, h2, -, -, -, -, h7, -⟩ := Cond.code_spec B.named (atoms_spec (ws := ws) B.pre _ (by rw [hw]; exact List.mem_cons_self))
      cases Option.some.inj (h1.symm.trans B.method)
      cases Option.some.inj (h2.symm.trans (Stand.of_body B).code)
      intro x hx
      rw [Array.isEmpty_iff.mp h7] at hx
      cases hx
    obtain ⟨t, a1, o, b1, b2, b3⟩ := body p e s m args below meth c s₁ B hml ht hP s₁ hh0 (Stand.of_body B)
    exact ⟨t, o, a1, b1, b2, b3⟩
/-- the table of a body with handlers -/
theorem vx_table {p : Program} {x y : MethodName} {S : Spec} {cc bytes : ByteArray} {maxL maxL' : Nat} {ret ret' : Option FieldType} {e : Env} {s s₁ : State} {m : MethodId} {args : Array Value} {below : List Frame} {meth : Method} {c : Code} {hh : List (Nat × Nat × Nat × Nat)}
    (B : BodyLoose p l y S cc maxL ret e s m args below meth c s₁) (h : (Cond.codeWith y bytes maxL' ret' hh).before args s = true) : c.exceptionTable.toList = tableOf hh := by
  obtain ⟨m9, meth9, c9, hn9, h1, h2, -, -, h6, -⟩ := Cond.codeWith_spec h
  cases Option.some.inj (hn9.symm.trans B.named)
  cases Option.some.inj (h1.symm.trans B.method)
  cases Option.some.inj (h2.symm.trans (Stand.of_body B).code)
  rw [← h6, table_eq]
end Bodies
end VXA
/-! ===== END ===== -/
/-! ===== BEGIN a static call of a method with an exception table ===== -/
section VXS
variable {p : Program} {l : Launch} {e : Env} {R : Room} {s : State} {m : MethodId} {args : Array Value} {below : List Frame} {meth : Method} {c : Code} {T : State} {H : Heap} {locs : List Loc} {cells slots : Nat}
abbrev vx_CSW (R : Room) (s : State) (args : Array Value) (own : String) (index : Nat) (y : MethodName) (bytes : ByteArray) (maxL : Nat) (ret : Option FieldType) (hh : List (Nat × Nat × Nat × Nat)) (ws : List Cond) (rm : Room) (mc ms n : Nat) : Prop :=
  (rm.cells = mc ∧ rm.slots = ms ∧ rm.frames + 1 ≤ R.frames ∧ 8 + (maxL + 11) + rm.locals ≤ R.locals ∧ (∀ w ∈ ws, ∀ (a' : Array Value) (U : State), s.WarmedH U.vm → w.before a' U = true) ∧ Cond.codeWith y bytes maxL ret hh ∈ ws) ∧
  (Cond.codeWith y bytes maxL ret hh).before args s = true ∧ (Cond.initialized y.cls).before args s = true ∧ (y.cls ≠ "java/lang/invoke/MethodHandle" ∧ y.cls ≠ "java/lang/invoke/VarHandle") ∧
  (∀ sig, parseMethodDescriptor y.desc = some sig → n = sig.parameters.length) ∧ (Cond.methodLink own index y).before args s = true ∧ (Cond.static y).before args s = true
theorem vx_cwSW {own : String} {index maxL mc ms : Nat} {y : MethodName} {bytes : ByteArray} {ret : Option FieldType} {hh : List (Nat × Nat × Nat × Nat)} {Ts ws ws' : List Cond} {rm : Room} (n : Nat) (ht : ∀ w ∈ Ts, w.before args s = true) (hT : GoodIn Ts (va_wsS own index y ws)) (hw : ws = Cond.codeWith y bytes maxL ret hh :: ws') (hrc : rm.cells = mc) (hrs : rm.slots = ms)
    (hd : y.cls ≠ "java/lang/invoke/MethodHandle" ∧ y.cls ≠ "java/lang/invoke/VarHandle" ∧ (parseMethodDescriptor y.desc).map (fun d => d.parameters.length) = some n) (hR : rm.frames + 1 ≤ R.frames ∧ 8 + (maxL + 11) + rm.locals ≤ R.locals) :
    vx_CSW R s args own index y bytes maxL ret hh ws rm mc ms n := by
  have ok : ∀ w ∈ va_wsS own index y ws, w.before args s = true := fun w h => ht w (hT w h).1
  have hG : GoodIn Ts ws := fun w h => hT w (by unfold va_wsS; exact List.mem_append_right _ h)
  have hc : Cond.codeWith y bytes maxL ret hh ∈ ws := by rw [hw]; exact List.mem_cons_self
  refine ⟨⟨hrc, hrs, hR.1, hR.2, pay_in ht hG, hc⟩, ht _ (hG _ hc).1, ok _ (by simp [va_wsS]), ⟨hd.1, hd.2.1⟩, fun sig h => ?_, ok _ (by simp [va_wsS]), ok _ (by simp [va_wsS])⟩
  have h2 := hd.2.2
  rw [h] at h2
  exact (Option.some.inj h2).symm
theorem vx_callSW (X : Stand p l e R s m args below meth c T locs cells slots) (hexec : p.tables.exec = Jvm.exec) {own : String} {index : Nat} {y : MethodName} {bytes : ByteArray} {maxL : Nat} {ret : Option FieldType} {hh : List (Nat × Nat × Nat × Nat)}
    (hown : s.vm.findClass own = some m.cls) (hlink : (Cond.methodLink own index y).before args s = true) (hstat : (Cond.static y).before args s = true) (hinit : (Cond.initialized y.cls).before args s = true)
    (hcode : (Cond.codeWith y bytes maxL ret hh).before args s = true) (hy : y.cls ≠ "java/lang/invoke/MethodHandle" ∧ y.cls ≠ "java/lang/invoke/VarHandle")
    {W9 : Nat} {Pre : Pt → Array Value → Prop} {Post : Pt → Array Value → Option Value → Pt → Prop} (hK : Back l R p e below s args y 3 W9 Pre Post)
    {g : JFrame} (hg : g.method = m) (hsize : g.locals.size = c.maxLocals) {argsL rest : List Value} (hlen : ∀ sig, parseMethodDescriptor y.desc = some sig → argsL.length = sig.parameters.length)
    (hstack : g.stack = argsL.reverse ++ rest) (hW : 2 * g.monitorRoom + (rest.map fun v => v.category).sum ≤ W9) (hdg : decode c.code g.pc = .ok (.invokestatic index, 3))
    (hpre : ∀ vm₁, s.WarmedH vm₁ → Pre ⟨T.setVm vm₁, locs, cells, slots⟩ argsL.toArray) :
    ∃ (v : Option Value) (vm₁ : Vm) (B : Pt), s.WarmedH vm₁ ∧ Stand p l e R s m args below meth c B.U B.locs B.cells B.slots ∧ Post ⟨T.setVm vm₁, locs, cells, slots⟩ argsL.toArray v B ∧
      ∀ target, Steps p.tables e below (B.U.setTop { g with pc := g.pc + 3, stack := v.toList ++ rest }) target → Steps p.tables e below (T.setTop g) target := by
  obtain ⟨mk, methM, cM, hnamed, hmethM, -, -, -, -, -, -, hsigM⟩ := Cond.codeWith_spec hcode
  have hstatic : methM.isStatic = true := Cond.static_spec hnamed hmethM hstat
  obtain ⟨kP, hkP, -⟩ := className_of_methodNamed hnamed
  have hinitP : kP.init = .initialized := Cond.initialized_spec (findClass_of_methodNamed hnamed) hkP hinit
  obtain ⟨vm₁, X₁, hstep₁⟩ := X.invokestatic hexec hown hlink hnamed hmethM hstatic hkP hinitP hy (g := g) hg (argsL := argsL) (rest := rest) (hlen _ hsigM) hstack hdg
  obtain ⟨v, B, X', hpost, hsteps⟩ := hK m meth c ⟨T.setVm vm₁, locs, cells, slots⟩ { g with stack := rest } (.invokestatic index) mk argsL.toArray X₁ hg hsize hdg hW (X₁.named hnamed) (hpre vm₁ X₁.warmed)
  exact ⟨v, vm₁, B, X₁.warmed, X', hpost, fun target h => hstep₁ _ fun acts => by rw [doInvoke_state]; exact hsteps.trans h⟩
theorem vx_runSW {y : MethodName} {bytes cc : ByteArray} {maxL nL mc ms n index : Nat} {ret : Option FieldType} {hh : List (Nat × Nat × Nat × Nat)} {ws : List Cond} {rm : Room} {Pc : Array Value → State → Prop} {Qc : Array Value → State → Outcome → State → Prop} {free : Addr → Prop} {Ts : List Cond} {own : String} {As rest : List Value} {g : JFrame}
    (S : CallFix p m c cc nL s args Ts own) (hM : Met l y ws rm Pc Qc mc ms free) (cw : vx_CSW R s args own index y bytes maxL ret hh ws rm mc ms n) (hp : PreS s H Pc As)
    (hg : g.method = m) (hn : As.length = n) (hsize : g.locals.size = nL) (hstack : g.stack = As.reverse ++ rest) (hW : 2 * g.monitorRoom + (rest.map fun v => v.category).sum ≤ 8) (hdg : decode cc g.pc = .ok (.invokestatic index, 3)) (hf : cells + mc ≤ R.cells ∧ slots + ms ≤ R.slots) :
    va_Run p l e R s m args below meth c H locs cells slots mc ms g rest (Qc As.toArray) (free) := by
  obtain ⟨⟨hrc, hrs, hfr, hlo, hws, hcw⟩, hcode, hini, hy, hlen, hl, hstt⟩ := cw
  have hK : Back l R p e below s args y 3 8 (PreOf R mc ms Pc) (PostOf Qc mc ms free) := va_backW (hh := hh) (bytes := bytes) (maxL := maxL) (ret := ret) hM hp.1 hrc hrs hfr hlo hws hcw (fun a' U hW => word_at hW (Or.inl (by first | rfl | simp [Cond.onTables, Cond.keeps, Cond.steady])) hini)
  obtain ⟨hx, hb, hml, ho, -⟩ := S
  intro T hT X
  obtain ⟨v, vm₁, ⟨U', l2, c2, s2⟩, hW₁, X', ⟨g', mk, t, L, e1, e2, hq, h1, hL, h2, h3⟩, st⟩ := vx_callSW X hx (hh := hh) (bytes := bytes) (maxL := maxL) (ret := ret) ho hl hstt hini hcode hy hK hg (hsize.trans hml.symm) (argsL := As) (rest := rest) (fun sig h => hn.trans (hlen sig h)) hstack hW (by rw [hb]; exact hdg)
    (fun vm₁ hW₁ => ⟨hf.1, hf.2, hp.2 (T.setVm vm₁) hT hW₁⟩)
  dsimp only [Pt.U, Pt.locs, Pt.cells, Pt.slots] at X' e1 e2 h1 h2 h3 st
  subst h1; subst h2; subst h3
  exact ⟨v, (T.setVm vm₁).calling g' mk As.toArray, t, U', L, hT, X', hL, e1, e2, hq, st⟩
/-- not caught here, past rows that name other classes: it goes on to the caller -/
theorem vx_outP {p : Program} {l : Launch} {e : Env} {R : Room} {s : State} {m : MethodId} {args : Array Value} {below : List Frame} {meth : Method} {c : Code} {H : Heap} {locs : List Loc} {cells slots : Nat} {free : Addr → Prop} {ls : Array Slot} {rest : List Value} {Qc : Array Value → State → Outcome → State → Prop} {XC : String → State → State → Prop}
    {pc : Nat} {own E : String} {ce : Cell} {q : Addr} {mc ms : Nat} (hown : s.vm.findClass own = some m.cls) (hlocks : meth.locks = false)
    (hpass : ∀ z ∈ c.exceptionTable.toList, covers z pc = false ∨ (z.catchType ≠ 0 ∧ ∃ nm : String, (Cond.classLink own z.catchType nm).before args s = true ∧ va_Nc E nm s)) (hcell : H[q]? = some ce) (hv : ce.vm = .none) (hcl : s.vm.findClass E = some ce.cls)
    (hx : ∀ t : State, t.heap = H → s.vm.Alike t.vm → XC E s t) (hf : ∀ z ∈ locs, free z.base) (hc : cells ≤ mc) (hs : slots ≤ ms) :
    vx_W p l e R s m args below meth c H locs cells slots (vx_MQ below Qc XC args s mc ms free) (F0 m pc ls rest) q := by
  intro T hT X
  have hpl : e.platform.magicAccessors = ({} : Platform).magicAccessors := by rw [X.admits.platform]
  obtain ⟨vm', hW', X', st⟩ := X.outThrough hlocks q (g := F0 m pc ls rest) rfl rfl rfl (cell := ce) (by rw [hT]; exact hcell) (by rw [hv]; rfl)
    (by obtain ⟨k9, h9, -⟩ := Vm.findClass_spec hcl; exact ⟨k9, h9⟩) (fun z hz => by
      rcases hpass z hz with h | ⟨hz0, nm, hl1, hn1⟩
      · exact Or.inl h
      · obtain ⟨c6, hc6, hcl6⟩ := Cond.classLink_spec hown hl1 e.platform hpl
        obtain ⟨a8, b8, h1, h2, h3⟩ := hn1
        cases Option.some.inj (h1.symm.trans hcl)
        cases Option.some.inj (h2.symm.trans hc6)
        exact Or.inr ⟨hz0, _, hcl6, h3⟩)
  obtain ⟨g₀, hfr⟩ := X'.frames_eq
  have hcell9 : ((T.setVm vm').setFrames (.throwing q :: below)).heap[q]? = some ce := by
    show T.heap[q]? = some ce
    rw [hT]; exact hcell
  have hend : Ended ((T.setVm vm').setFrames (.throwing q :: below)) below (.threw q) := State.frames_setFrames _ (State.cur_lt_of_frames hfr)
  refine ⟨(T.setVm vm').setFrames (.throwing q :: below), ?_, .threw q, X'.here.running, hend, Or.inr ⟨q, rfl, E, ce, locs, hx _ hT (X'.ends _).1.alike, hcell9, hv, hcl, (X'.ends _).1, (X'.ends _).2.mono hc hs, hf⟩⟩
  rw [X.pushThrowing_eq]
  exact st
/-- a thing of a world lies in the heap -/
theorem vx_lt {D : va_G} {cl : List vw_C} {ws : va_W} {H1 : Heap} (h : va_P D cl ws H1) {k : Nat} {q : Nat × va_E} (hk : ws[k]? = some q) : q.1 < H1.size := (h k q hk).lt
end VXS
/-! ===== END ===== -/
/-! ===== BEGIN methods with a table of their own: called by a name, returning or throwing ===== -/
section VXH
/-! vx_backW, vx_callVX, vx_callSX, vx_callVW, vx_runVW, vx_runVX, vx_runSX, vx_ofWH follow the same proofs as their sisters above (Free/Laws.lean, Shelf42/LK1.lean); vx_outP calls Shelf42/NT130.lean (outThrough). -/
section
variable {l : Launch} {R : Room} {p : Program} {e : Env} {below : List Frame} {s : State} {sargs : Array Value} {y : MethodName} {len W9 : Nat}
theorem vx_backW {ws : List Cond} {rm : Room} {Pc : Array Value → State → Prop} {Qc : Array Value → State → Outcome → State → Prop} {XC : String → State → State → Prop} {mc ms : Nat} {free : Addr → Prop} {bytes : ByteArray} {maxL : Nat} {ret : Option FieldType} {hh : List (Nat × Nat × Nat × Nat)}
    (hM : vx_Met l y ws rm Pc Qc XC mc ms free) (hblind : FrameBlind Pc) (hrc : rm.cells = mc) (hrs : rm.slots = ms)
    (hframes : rm.frames + 1 ≤ R.frames) (hlocals : W9 + (maxL + 11) + rm.locals ≤ R.locals)
    (hws : ∀ w ∈ ws, ∀ a' U, s.WarmedH U.vm → w.before a' U = true) (hcode : Cond.codeWith y bytes maxL ret hh ∈ ws) (hinit : ∀ a' U, s.WarmedH U.vm → (Cond.initialized y.cls).before a' U = true) :
    vx_Back l R p e below s sargs y len W9 (PreOf R mc ms Pc) (PostOf Qc mc ms free) (vx_Post XC mc ms free) := by
  intro m meth c A g ig mk a X hg hsize hdg hW hn hp
  have h1 : (headSpec ws rm).pre.before a A.U = true := atoms_intro fun w hw => hws w hw _ _ X.warmed
  have h2 : (Cond.codeWith y bytes maxL ret hh).before a A.U = true := hws _ hcode _ _ X.warmed
  have h3 : (Cond.initialized y.cls).before a A.U = true := hinit _ _ X.warmed
  have h4 : A.cells + (headSpec ws rm).room.cells ≤ R.cells := by rw [show (headSpec ws rm).room.cells = mc from hrc]; exact hp.1
  have h5 : A.slots + (headSpec ws rm).room.slots ≤ R.slots := by rw [show (headSpec ws rm).room.slots = ms from hrs]; exact hp.2.1
  have hPc : Pc a (A.U.calling g mk a) := hblind _ _ _ _ hp.2.2
  obtain ⟨U, Ls, c0, s0⟩ := A
  dsimp only [Pt.U, Pt.locs, Pt.cells, Pt.slots] at h1 h2 h3 h4 h5 X hn hPc ⊢
  obtain ⟨m9, methY, cY, hn9, hmY, hcY, -, hlY, -⟩ := Cond.codeWith_spec h2
  cases Option.some.inj (hn9.symm.trans hn)
  obtain ⟨kY, hkY, -⟩ := className_of_methodNamed hn
  have hinitY : kY.init = .initialized := Cond.initialized_spec (findClass_of_methodNamed hn) hkY h3
  have h : At U g.method c below := by rw [hg]; exact X.here
  have hlocals9 : W9 + (maxL + 11) + (headSpec ws rm).room.locals ≤ R.locals := hlocals
  have happ : (headSpec ws rm).appliesLoose y e.platform (U.calling g mk a) = true :=
    Spec.appliesLoose_calling (g := g) h hdg hn hkY hinitY
      (X.room_calling (g := g) (R' := (headSpec ws rm).room) hsize hmY hcY hframes (by rw [hlY]; omega) h4 h5) h1
  obtain ⟨mid, hmid⟩ := h.above
  have hfr : (U.setTop g).frames = (.java g :: mid) ++ below := by rw [State.frames_setTop' g h.top, hmid]; rfl
  obtain ⟨o, s₂, hsteps, -, hend, hq⟩ := Steps.callFree hM p X.admits X.cas X.clock (acts := []) hfr happ hPc trivial
  have hq' : vx_Q Qc XC mc ms free a (U.calling g mk a) o s₂ := hq
  rw [State.frames_setTop' g h.top] at hend
  obtain ⟨g₀, hg0⟩ := Option.isSome_iff_exists.mp h.top
  obtain ⟨r, hr⟩ := State.topJava?_eq_some.mp hg0
  have hr' : (({ U with heap := s₂.heap, slotsUsed := s₂.slotsUsed } : State).setVm s₂.vm).frames = .java g₀ :: r := hr
  rcases hq' with ⟨hqc, L, hfe, hL⟩ | ⟨q, rfl, E, ce, L, hx, hce, hcv, hcl, hW₂, hsm, hL⟩
  · obtain ⟨⟨v, rfl⟩, hW₂, e2, q2, q3, q4, q5, q6⟩ := id hfe
    have e3 : s₂ = ({ (U.calling g mk a).setFrames s₂.frames with heap := s₂.heap, slotsUsed := s₂.slotsUsed } : State).setVm s₂.vm := by
      have : s₂ = ({ s₂ with vm := (U.calling g mk a).vm } : State).setVm s₂.vm := rfl
      rw [e2] at this
      exact this
    obtain ⟨c₂, i₂, len₂, hc₂, hd₂, hf₂⟩ := hend
    have hW' : U.WarmedH s₂.vm := hW₂
    have hcc : c₂ = c := by
      have h1 : s₂.code? g.method = U.code? g.method := by
        rw [State.code?_eq, State.code?_eq, hW'.alike.method?]
      exact Option.some.inj (hc₂.symm.trans (h1.trans h.code))
    subst hcc
    have hlen : len₂ = len := by rw [hdg] at hd₂; cases hd₂; rfl
    subst hlen
    have hs₂ : s₂ = (({ U with heap := s₂.heap, slotsUsed := s₂.slotsUsed } : State).setVm s₂.vm).setTop { g with pc := g.pc + len₂, stack := v.toList ++ g.stack } := by
      refine e3.trans ?_
      rw [hf₂, State.calling_eq h.top, State.setFrames_setFrames, State.setTop_of_frames _ hr', hr]
      rfl
    have hsame : U.sameButNew ({ U with heap := s₂.heap, slotsUsed := s₂.slotsUsed } : State) L mc ms := by
      refine ⟨?_, q2, q3, q4, q5, q6⟩
      obtain ⟨t, ht, -⟩ := State.frames_cons hr
      show ({ U with heap := s₂.heap, slotsUsed := s₂.slotsUsed } : State) = { U.setFrames U.frames with heap := s₂.heap, slotsUsed := s₂.slotsUsed }
      rw [State.setFrames_self ht]
    subst hg
    refine Or.inl ⟨v, ⟨(({ U with heap := s₂.heap, slotsUsed := s₂.slotsUsed } : State).setVm s₂.vm), Ls ++ L, c0 + mc, s0 + ms⟩,
      ⟨X.admits, X.cas, X.clock, X.frames, X.room, X.hears, X.method, X.code, (X.here.setHeapUsed s₂.heap s₂.slotsUsed).setVm hW'.alike, X.tail, State.WarmedH.trans X.warmed hW', X.limits, X.bytes, X.same.trans (hsame.setVm s.vm)⟩,
      ⟨g, mk, s₂, L, rfl, rfl, hqc, rfl, hL, rfl, rfl⟩, ?_⟩
    show Steps p.tables e below _ ((({ U with heap := s₂.heap, slotsUsed := s₂.slotsUsed } : State).setVm s₂.vm).setTop { g with pc := g.pc + len₂, stack := v.toList ++ g.stack })
    rw [← hs₂]
    exact hsteps
  · obtain ⟨e2, q2, q3, q4, q5, q6⟩ := id hsm
    have e3 : s₂ = ({ (U.calling g mk a).setFrames s₂.frames with heap := s₂.heap, slotsUsed := s₂.slotsUsed } : State).setVm s₂.vm := by
      have : s₂ = ({ s₂ with vm := (U.calling g mk a).vm } : State).setVm s₂.vm := rfl
      rw [e2] at this
      exact this
    have hf₂ : s₂.frames = .throwing q :: .java g :: U.frames.tail := hend
    have hW' : U.WarmedH s₂.vm := hW₂
    have hs₂ : s₂ = ((({ U with heap := s₂.heap, slotsUsed := s₂.slotsUsed } : State).setVm s₂.vm).setTop g).pushFrame (.throwing q) := by
      refine e3.trans ?_
      rw [hf₂, State.calling_eq h.top, State.setFrames_setFrames, State.pushFrame, State.frames_setTop _ hr', State.setTop_of_frames _ hr', State.setFrames_setFrames, hr]
      rfl
    have hsame : U.sameButNew ({ U with heap := s₂.heap, slotsUsed := s₂.slotsUsed } : State) L mc ms := by
      refine ⟨?_, q2, q3, q4, q5, q6⟩
      obtain ⟨t, ht, -⟩ := State.frames_cons hr
      show ({ U with heap := s₂.heap, slotsUsed := s₂.slotsUsed } : State) = { U.setFrames U.frames with heap := s₂.heap, slotsUsed := s₂.slotsUsed }
      rw [State.setFrames_self ht]
    subst hg
    refine Or.inr ⟨q, ⟨(({ U with heap := s₂.heap, slotsUsed := s₂.slotsUsed } : State).setVm s₂.vm), Ls ++ L, c0 + mc, s0 + ms⟩,
      ⟨X.admits, X.cas, X.clock, X.frames, X.room, X.hears, X.method, X.code, (X.here.setHeapUsed s₂.heap s₂.slotsUsed).setVm hW'.alike, X.tail, State.WarmedH.trans X.warmed hW', X.limits, X.bytes, X.same.trans (hsame.setVm s.vm)⟩,
      ⟨g, mk, s₂, L, E, ce, rfl, rfl, hx, hce, hcv, hcl, rfl, hL, rfl, rfl⟩, ?_⟩
    show Steps p.tables e below _ (((({ U with heap := s₂.heap, slotsUsed := s₂.slotsUsed } : State).setVm s₂.vm).setTop g).pushFrame (.throwing q))
    rw [← hs₂]
    exact hsteps
end
variable {p : Program} {l : Launch} {e : Env} {R : Room} {s : State} {m : MethodId} {args : Array Value} {below : List Frame} {meth : Method} {c : Code} {T : State} {H : Heap} {locs : List Loc} {cells slots : Nat}
theorem vx_callVX (X : Stand p l e R s m args below meth c T locs cells slots) (hexec : p.tables.exec = Jvm.exec) {own C : String} {index : Nat} {y : MethodName} {bytes : ByteArray} {maxL : Nat} {ret : Option FieldType} {hh : List (Nat × Nat × Nat × Nat)}
    (hown : s.vm.findClass own = some m.cls) (hlink : (Cond.methodLink own index y).before args s = true) (hinst : (Cond.instanceMethod y).before args s = true) (hsel : (Cond.selects C y y).before args s = true)
    (hcode : (Cond.codeWith y bytes maxL ret hh).before args s = true) (hy : y.cls ≠ "java/lang/invoke/MethodHandle" ∧ y.cls ≠ "java/lang/invoke/VarHandle")
    {W9 : Nat} {Pre : Pt → Array Value → Prop} {Post : Pt → Array Value → Option Value → Pt → Prop} {PostX : Pt → Array Value → Addr → Pt → Prop} (hK : vx_Back l R p e below s args y 3 W9 Pre Post PostX)
    {b : Addr} {cellB : Cell} (hcell : T.heap[b]? = some cellB) (hobj : cellB.vm.isStatics = false) (hcls : s.vm.findClass C = some cellB.cls)
    {g : JFrame} (hg : g.method = m) (hsize : g.locals.size = c.maxLocals) {argsL rest : List Value} (hlen : ∀ sig, parseMethodDescriptor y.desc = some sig → argsL.length = sig.parameters.length)
    (hstack : g.stack = argsL.reverse ++ .ref b :: rest) (hW : 2 * g.monitorRoom + (rest.map fun v => v.category).sum ≤ W9) (hdg : decode c.code g.pc = .ok (.invokevirtual index, 3))
    (hpre : ∀ vm₁, s.WarmedH vm₁ → Pre ⟨T.setVm vm₁, locs, cells, slots⟩ (Value.ref b :: argsL).toArray) :
    (∃ (v : Option Value) (vm₁ : Vm) (B : Pt), s.WarmedH vm₁ ∧ Stand p l e R s m args below meth c B.U B.locs B.cells B.slots ∧ Post ⟨T.setVm vm₁, locs, cells, slots⟩ (Value.ref b :: argsL).toArray v B ∧
      ∀ target, Steps p.tables e below (B.U.setTop { g with pc := g.pc + 3, stack := v.toList ++ rest }) target → Steps p.tables e below (T.setTop g) target) ∨
    (∃ (q : Addr) (vm₁ : Vm) (B : Pt), s.WarmedH vm₁ ∧ Stand p l e R s m args below meth c B.U B.locs B.cells B.slots ∧ PostX ⟨T.setVm vm₁, locs, cells, slots⟩ (Value.ref b :: argsL).toArray q B ∧
      Steps p.tables e below (T.setTop g) ((B.U.setTop { g with stack := rest }).pushFrame (.throwing q))) := by
  obtain ⟨mk, methM, hnamed, hmethM, hstM, habM⟩ := Cond.instanceMethod_spec hinst
  obtain ⟨m8, methM', cM, hn8, hmethM', -, -, -, -, -, -, hsigM⟩ := Cond.codeWith_spec hcode
  cases Option.some.inj (hn8.symm.trans hnamed)
  cases hmethM.symm.trans hmethM'
  obtain ⟨c2, r2, m2, q1, q2, q3, q4, kP, hkP, hkPi⟩ := Cond.selects_spec hsel
  cases hcls.symm.trans q1
  cases (State.methodFound?_of_named hnamed hy).symm.trans q2
  cases hnamed.symm.trans q3
  have hselP : selectMethod e.platform s.vm cellB.cls mk = .method mk := by rw [Launch.admits_selectMethod X.admits]; exact q4
  obtain ⟨vm₁, X₁, hstep₁⟩ := X.invokevirtual hexec hown hlink hnamed hmethM hstM hkP hkPi hy (a := b) (cell := cellB) hcell
    (fun z h => by rw [h] at hobj; cases hobj) hselP hmethM habM hkP hkPi (g := g) hg (argsL := argsL) (rest := rest) (hlen _ hsigM) hstack hdg
  rcases hK m meth c ⟨T.setVm vm₁, locs, cells, slots⟩ { g with stack := rest } (.invokevirtual index) mk (Value.ref b :: argsL).toArray X₁ hg hsize hdg hW (X₁.named hnamed) (hpre vm₁ X₁.warmed) with ⟨v, B, X', hpost, hsteps⟩ | ⟨q, B, X', hpost, hsteps⟩
  · exact Or.inl ⟨v, vm₁, B, X₁.warmed, X', hpost, fun target h => hstep₁ _ fun acts => by rw [doInvoke_state]; exact hsteps.trans h⟩
  · exact Or.inr ⟨q, vm₁, B, X₁.warmed, X', hpost, hstep₁ _ fun acts => by rw [doInvoke_state]; exact hsteps⟩
theorem vx_callSX (X : Stand p l e R s m args below meth c T locs cells slots) (hexec : p.tables.exec = Jvm.exec) {own : String} {index : Nat} {y : MethodName} {bytes : ByteArray} {maxL : Nat} {ret : Option FieldType} {hh : List (Nat × Nat × Nat × Nat)}
    (hown : s.vm.findClass own = some m.cls) (hlink : (Cond.methodLink own index y).before args s = true) (hstat : (Cond.static y).before args s = true) (hinit : (Cond.initialized y.cls).before args s = true)
    (hcode : (Cond.codeWith y bytes maxL ret hh).before args s = true) (hy : y.cls ≠ "java/lang/invoke/MethodHandle" ∧ y.cls ≠ "java/lang/invoke/VarHandle")
    {W9 : Nat} {Pre : Pt → Array Value → Prop} {Post : Pt → Array Value → Option Value → Pt → Prop} {PostX : Pt → Array Value → Addr → Pt → Prop} (hK : vx_Back l R p e below s args y 3 W9 Pre Post PostX)
    {g : JFrame} (hg : g.method = m) (hsize : g.locals.size = c.maxLocals) {argsL rest : List Value} (hlen : ∀ sig, parseMethodDescriptor y.desc = some sig → argsL.length = sig.parameters.length)
    (hstack : g.stack = argsL.reverse ++ rest) (hW : 2 * g.monitorRoom + (rest.map fun v => v.category).sum ≤ W9) (hdg : decode c.code g.pc = .ok (.invokestatic index, 3))
    (hpre : ∀ vm₁, s.WarmedH vm₁ → Pre ⟨T.setVm vm₁, locs, cells, slots⟩ argsL.toArray) :
    (∃ (v : Option Value) (vm₁ : Vm) (B : Pt), s.WarmedH vm₁ ∧ Stand p l e R s m args below meth c B.U B.locs B.cells B.slots ∧ Post ⟨T.setVm vm₁, locs, cells, slots⟩ argsL.toArray v B ∧
      ∀ target, Steps p.tables e below (B.U.setTop { g with pc := g.pc + 3, stack := v.toList ++ rest }) target → Steps p.tables e below (T.setTop g) target) ∨
    (∃ (q : Addr) (vm₁ : Vm) (B : Pt), s.WarmedH vm₁ ∧ Stand p l e R s m args below meth c B.U B.locs B.cells B.slots ∧ PostX ⟨T.setVm vm₁, locs, cells, slots⟩ argsL.toArray q B ∧
      Steps p.tables e below (T.setTop g) ((B.U.setTop { g with stack := rest }).pushFrame (.throwing q))) := by
  obtain ⟨mk, methM, cM, hnamed, hmethM, -, -, -, -, -, -, hsigM⟩ := Cond.codeWith_spec hcode
  have hstatic : methM.isStatic = true := Cond.static_spec hnamed hmethM hstat
  obtain ⟨kP, hkP, -⟩ := className_of_methodNamed hnamed
  have hinitP : kP.init = .initialized := Cond.initialized_spec (findClass_of_methodNamed hnamed) hkP hinit
  obtain ⟨vm₁, X₁, hstep₁⟩ := X.invokestatic hexec hown hlink hnamed hmethM hstatic hkP hinitP hy (g := g) hg (argsL := argsL) (rest := rest) (hlen _ hsigM) hstack hdg
  rcases hK m meth c ⟨T.setVm vm₁, locs, cells, slots⟩ { g with stack := rest } (.invokestatic index) mk argsL.toArray X₁ hg hsize hdg hW (X₁.named hnamed) (hpre vm₁ X₁.warmed) with ⟨v, B, X', hpost, hsteps⟩ | ⟨q, B, X', hpost, hsteps⟩
  · exact Or.inl ⟨v, vm₁, B, X₁.warmed, X', hpost, fun target h => hstep₁ _ fun acts => by rw [doInvoke_state]; exact hsteps.trans h⟩
  · exact Or.inr ⟨q, vm₁, B, X₁.warmed, X', hpost, hstep₁ _ fun acts => by rw [doInvoke_state]; exact hsteps⟩
theorem vx_callVW (X : Stand p l e R s m args below meth c T locs cells slots) (hexec : p.tables.exec = Jvm.exec) {own C : String} {index : Nat} {y : MethodName} {bytes : ByteArray} {maxL : Nat} {ret : Option FieldType} {hh : List (Nat × Nat × Nat × Nat)}
    (hown : s.vm.findClass own = some m.cls) (hlink : (Cond.methodLink own index y).before args s = true) (hinst : (Cond.instanceMethod y).before args s = true) (hsel : (Cond.selects C y y).before args s = true)
    (hcode : (Cond.codeWith y bytes maxL ret hh).before args s = true) (hy : y.cls ≠ "java/lang/invoke/MethodHandle" ∧ y.cls ≠ "java/lang/invoke/VarHandle")
    {W9 : Nat} {Pre : Pt → Array Value → Prop} {Post : Pt → Array Value → Option Value → Pt → Prop} (hK : Back l R p e below s args y 3 W9 Pre Post)
    {b : Addr} {cellB : Cell} (hcell : T.heap[b]? = some cellB) (hobj : cellB.vm.isStatics = false) (hcls : s.vm.findClass C = some cellB.cls)
    {g : JFrame} (hg : g.method = m) (hsize : g.locals.size = c.maxLocals) {argsL rest : List Value} (hlen : ∀ sig, parseMethodDescriptor y.desc = some sig → argsL.length = sig.parameters.length)
    (hstack : g.stack = argsL.reverse ++ .ref b :: rest) (hW : 2 * g.monitorRoom + (rest.map fun v => v.category).sum ≤ W9) (hdg : decode c.code g.pc = .ok (.invokevirtual index, 3))
    (hpre : ∀ vm₁, s.WarmedH vm₁ → Pre ⟨T.setVm vm₁, locs, cells, slots⟩ (Value.ref b :: argsL).toArray) :
    ∃ (v : Option Value) (vm₁ : Vm) (B : Pt), s.WarmedH vm₁ ∧ Stand p l e R s m args below meth c B.U B.locs B.cells B.slots ∧ Post ⟨T.setVm vm₁, locs, cells, slots⟩ (Value.ref b :: argsL).toArray v B ∧
      ∀ target, Steps p.tables e below (B.U.setTop { g with pc := g.pc + 3, stack := v.toList ++ rest }) target → Steps p.tables e below (T.setTop g) target := by
  obtain ⟨mk, methM, hnamed, hmethM, hstM, habM⟩ := Cond.instanceMethod_spec hinst
  obtain ⟨m8, methM', cM, hn8, hmethM', -, -, -, -, -, -, hsigM⟩ := Cond.codeWith_spec hcode
  cases Option.some.inj (hn8.symm.trans hnamed)
  cases hmethM.symm.trans hmethM'
  obtain ⟨c2, r2, m2, q1, q2, q3, q4, kP, hkP, hkPi⟩ := Cond.selects_spec hsel
  cases hcls.symm.trans q1
  cases (State.methodFound?_of_named hnamed hy).symm.trans q2
  cases hnamed.symm.trans q3
  have hselP : selectMethod e.platform s.vm cellB.cls mk = .method mk := by rw [Launch.admits_selectMethod X.admits]; exact q4
  obtain ⟨vm₁, X₁, hstep₁⟩ := X.invokevirtual hexec hown hlink hnamed hmethM hstM hkP hkPi hy (a := b) (cell := cellB) hcell
    (fun z h => by rw [h] at hobj; cases hobj) hselP hmethM habM hkP hkPi (g := g) hg (argsL := argsL) (rest := rest) (hlen _ hsigM) hstack hdg
  obtain ⟨v, B, X', hpost, hsteps⟩ := hK m meth c ⟨T.setVm vm₁, locs, cells, slots⟩ { g with stack := rest } (.invokevirtual index) mk (Value.ref b :: argsL).toArray X₁ hg hsize hdg hW (X₁.named hnamed) (hpre vm₁ X₁.warmed)
  exact ⟨v, vm₁, B, X₁.warmed, X', hpost, fun target h => hstep₁ _ fun acts => by rw [doInvoke_state]; exact hsteps.trans h⟩
abbrev vx_CVW (R : Room) (s : State) (args : Array Value) (own C : String) (index : Nat) (y : MethodName) (bytes : ByteArray) (maxL : Nat) (ret : Option FieldType) (hh : List (Nat × Nat × Nat × Nat)) (ws : List Cond) (rm : Room) (mc ms n : Nat) : Prop :=
  (rm.cells = mc ∧ rm.slots = ms ∧ rm.frames + 1 ≤ R.frames ∧ 8 + (maxL + 11) + rm.locals ≤ R.locals ∧ (∀ w ∈ ws, ∀ (a' : Array Value) (U : State), s.WarmedH U.vm → w.before a' U = true) ∧ Cond.codeWith y bytes maxL ret hh ∈ ws) ∧
  (Cond.codeWith y bytes maxL ret hh).before args s = true ∧ (Cond.initialized y.cls).before args s = true ∧ (y.cls ≠ "java/lang/invoke/MethodHandle" ∧ y.cls ≠ "java/lang/invoke/VarHandle") ∧
  (∀ sig, parseMethodDescriptor y.desc = some sig → n = sig.parameters.length) ∧ (Cond.methodLink own index y).before args s = true ∧ (Cond.instanceMethod y).before args s = true ∧ (Cond.selects C y y).before args s = true
theorem vx_cwVW {own C : String} {index maxL mc ms : Nat} {y : MethodName} {bytes : ByteArray} {ret : Option FieldType} {hh : List (Nat × Nat × Nat × Nat)} {Ts ws ws' : List Cond} {rm : Room} (n : Nat) (ht : ∀ w ∈ Ts, w.before args s = true) (hT : GoodIn Ts (wsV own index C y ws)) (hw : ws = Cond.codeWith y bytes maxL ret hh :: ws') (hrc : rm.cells = mc) (hrs : rm.slots = ms)
    (hd : y.cls = C ∧ y.cls ≠ "java/lang/invoke/MethodHandle" ∧ y.cls ≠ "java/lang/invoke/VarHandle" ∧ (parseMethodDescriptor y.desc).map (fun d => d.parameters.length) = some n) (hR : rm.frames + 1 ≤ R.frames ∧ 8 + (maxL + 11) + rm.locals ≤ R.locals) :
    vx_CVW R s args own C index y bytes maxL ret hh ws rm mc ms n := by
  obtain ⟨hC, hd⟩ := hd
  subst hC
  have ok : ∀ w ∈ wsV own index y.cls y ws, w.before args s = true := fun w h => ht w (hT w h).1
  have hG : GoodIn Ts ws := fun w h => hT w (by unfold wsV; exact List.mem_append_right _ h)
  have hc : Cond.codeWith y bytes maxL ret hh ∈ ws := by rw [hw]; exact List.mem_cons_self
  refine ⟨⟨hrc, hrs, hR.1, hR.2, pay_in ht hG, hc⟩, ht _ (hG _ hc).1, ok _ (by simp [wsV]), ⟨hd.1, hd.2.1⟩, fun sig h => ?_, ok _ (by simp [wsV]), ok _ (by simp [wsV]), ok _ (by simp [wsV])⟩
  have h2 := hd.2.2
  rw [h] at h2
  exact (Option.some.inj h2).symm
theorem vx_runVW {y : MethodName} {bytes cc : ByteArray} {maxL nL mc ms n index : Nat} {ret : Option FieldType} {hh : List (Nat × Nat × Nat × Nat)} {ws : List Cond} {rm : Room} {Pc : Array Value → State → Prop} {Qc : Array Value → State → Outcome → State → Prop} {free : Addr → Prop} {Ts : List Cond} {own C : String} {b : Addr} {As rest : List Value} {g : JFrame}
    (S : CallFix p m c cc nL s args Ts own) (hM : Met l y ws rm Pc Qc mc ms free) (cw : vx_CVW R s args own C index y bytes maxL ret hh ws rm mc ms n) (hp : PreV s H C b Pc As)
    (hg : g.method = m) (hn : As.length = n) (hsize : g.locals.size = nL) (hstack : g.stack = As.reverse ++ .ref b :: rest) (hW : 2 * g.monitorRoom + (rest.map fun v => v.category).sum ≤ 8) (hdg : decode cc g.pc = .ok (.invokevirtual index, 3)) (hf : cells + mc ≤ R.cells ∧ slots + ms ≤ R.slots) :
    va_Run p l e R s m args below meth c H locs cells slots mc ms g rest (Qc (Value.ref b :: As).toArray) free := by
  obtain ⟨⟨hrc, hrs, hfr, hlo, hws, hcw⟩, hcode, hini, hy, hlen, hl, hin, hse⟩ := cw
  have hK : Back l R p e below s args y 3 8 (PreOf R mc ms Pc) (PostOf Qc mc ms free) := va_backW (hh := hh) (bytes := bytes) (maxL := maxL) (ret := ret) hM hp.1 hrc hrs hfr hlo hws hcw (fun a' U hW => word_at hW (Or.inl (by first | rfl | simp [Cond.onTables, Cond.keeps, Cond.steady])) hini)
  obtain ⟨hx, hb, hml, ho, -⟩ := S
  obtain ⟨-, ⟨cellB, hcB, hoB, hclB⟩, hPc⟩ := hp
  intro T hT X
  obtain ⟨v, vm₁, ⟨U', l2, c2, s2⟩, hW₁, X', ⟨g', mk, t, L, e1, e2, hq, h1, hL, h2, h3⟩, st⟩ := vx_callVW X hx (C := C) (hh := hh) (bytes := bytes) (maxL := maxL) (ret := ret) ho hl hin hse hcode hy hK (by rw [hT]; exact hcB) hoB hclB hg (hsize.trans hml.symm) (argsL := As) (rest := rest) (fun sig h => hn.trans (hlen sig h)) hstack hW (by rw [hb]; exact hdg)
    (fun vm₁ hW₁ => ⟨hf.1, hf.2, hPc (T.setVm vm₁) hT hW₁⟩)
  dsimp only [Pt.U, Pt.locs, Pt.cells, Pt.slots] at X' e1 e2 h1 h2 h3 st
  subst h1; subst h2; subst h3
  exact ⟨v, (T.setVm vm₁).calling g' mk (Value.ref b :: As).toArray, t, U', L, hT, X', hL, e1, e2, hq, st⟩
section
variable {y : MethodName} {bytes cc : ByteArray} {maxL nL mc ms n index : Nat} {ret : Option FieldType} {ws : List Cond} {rm : Room} {Pc : Array Value → State → Prop} {Qc : Array Value → State → Outcome → State → Prop} {XC : String → State → State → Prop} {free : Addr → Prop} {Ts : List Cond} {own C : String} {b : Addr} {As rest : List Value} {g : JFrame}
theorem vx_runVX {hh : List (Nat × Nat × Nat × Nat)} (S : CallFix p m c cc nL s args Ts own) (hM : vx_Met l y ws rm Pc Qc XC mc ms free) (cw : vx_CVW R s args own C index y bytes maxL ret hh ws rm mc ms n) (hp : PreV s H C b Pc As)
    (hg : g.method = m) (hn : As.length = n) (hsize : g.locals.size = nL) (hstack : g.stack = As.reverse ++ .ref b :: rest) (hW : 2 * g.monitorRoom + (rest.map fun v => v.category).sum ≤ 8) (hdg : decode cc g.pc = .ok (.invokevirtual index, 3)) (hf : cells + mc ≤ R.cells ∧ slots + ms ≤ R.slots) :
    vx_Run p l e R s m args below meth c H locs cells slots mc ms g rest (Qc (Value.ref b :: As).toArray) XC free := by
  obtain ⟨⟨hrc, hrs, hfr, hlo, hws, hcw⟩, hcode, hini, hy, hlen, hl, hin, hse⟩ := cw
  have hK : vx_Back l R p e below s args y 3 8 (PreOf R mc ms Pc) (PostOf Qc mc ms free) (vx_Post XC mc ms free) := vx_backW (hh := hh) (bytes := bytes) (maxL := maxL) (ret := ret) hM hp.1 hrc hrs hfr hlo hws hcw (fun a' U hW => word_at hW (Or.inl (by first | rfl | simp [Cond.onTables, Cond.keeps, Cond.steady])) hini)
  obtain ⟨hx, hb, hml, ho, -⟩ := S
  obtain ⟨-, ⟨cellB, hcB, hoB, hclB⟩, hPc⟩ := hp
  intro T hT X
  rcases vx_callVX X hx (C := C) (hh := hh) (bytes := bytes) (maxL := maxL) (ret := ret) ho hl hin hse hcode hy hK (by rw [hT]; exact hcB) hoB hclB hg (hsize.trans hml.symm) (argsL := As) (rest := rest) (fun sig h => hn.trans (hlen sig h)) hstack hW (by rw [hb]; exact hdg)
    (fun vm₁ hW₁ => ⟨hf.1, hf.2, hPc (T.setVm vm₁) hT hW₁⟩) with ⟨v, vm₁, ⟨U', l2, c2, s2⟩, hW₁, X', ⟨g', mk, t, L, e1, e2, hq, h1, hL, h2, h3⟩, st⟩ | ⟨q, vm₁, ⟨U', l2, c2, s2⟩, hW₁, X', ⟨g', mk, t, L, E, ce, e1, e2, hq, hce, hcv, hcl, h1, hL, h2, h3⟩, st⟩
  · dsimp only [Pt.U, Pt.locs, Pt.cells, Pt.slots] at X' e1 e2 h1 h2 h3 st
    subst h1; subst h2; subst h3
    exact Or.inl ⟨v, (T.setVm vm₁).calling g' mk (Value.ref b :: As).toArray, t, U', L, hT, X', hL, e1, e2, hq, st⟩
  · dsimp only [Pt.U, Pt.locs, Pt.cells, Pt.slots] at X' e1 e2 h1 h2 h3 st hcl
    subst h1; subst h2; subst h3
    exact Or.inr ⟨q, (T.setVm vm₁).calling g' mk (Value.ref b :: As).toArray, t, U', L, E, ce, hT, X', hL, e1, e2, hq, hce, hcv, vx_cls hW₁ hcl, st⟩
theorem vx_runSX {hh : List (Nat × Nat × Nat × Nat)} (S : CallFix p m c cc nL s args Ts own) (hM : vx_Met l y ws rm Pc Qc XC mc ms free) (cw : vx_CSW R s args own index y bytes maxL ret hh ws rm mc ms n) (hp : PreS s H Pc As)
    (hg : g.method = m) (hn : As.length = n) (hsize : g.locals.size = nL) (hstack : g.stack = As.reverse ++ rest) (hW : 2 * g.monitorRoom + (rest.map fun v => v.category).sum ≤ 8) (hdg : decode cc g.pc = .ok (.invokestatic index, 3)) (hf : cells + mc ≤ R.cells ∧ slots + ms ≤ R.slots) :
    vx_Run p l e R s m args below meth c H locs cells slots mc ms g rest (Qc As.toArray) XC free := by
  obtain ⟨⟨hrc, hrs, hfr, hlo, hws, hcw⟩, hcode, hini, hy, hlen, hl, hstt⟩ := cw
  have hK : vx_Back l R p e below s args y 3 8 (PreOf R mc ms Pc) (PostOf Qc mc ms free) (vx_Post XC mc ms free) := vx_backW (hh := hh) (bytes := bytes) (maxL := maxL) (ret := ret) hM hp.1 hrc hrs hfr hlo hws hcw (fun a' U hW => word_at hW (Or.inl (by first | rfl | simp [Cond.onTables, Cond.keeps, Cond.steady])) hini)
  obtain ⟨hx, hb, hml, ho, -⟩ := S
  intro T hT X
  rcases vx_callSX X hx (hh := hh) (bytes := bytes) (maxL := maxL) (ret := ret) ho hl hstt hini hcode hy hK hg (hsize.trans hml.symm) (argsL := As) (rest := rest) (fun sig h => hn.trans (hlen sig h)) hstack hW (by rw [hb]; exact hdg)
    (fun vm₁ hW₁ => ⟨hf.1, hf.2, hp.2 (T.setVm vm₁) hT hW₁⟩) with ⟨v, vm₁, ⟨U', l2, c2, s2⟩, hW₁, X', ⟨g', mk, t, L, e1, e2, hq, h1, hL, h2, h3⟩, st⟩ | ⟨q, vm₁, ⟨U', l2, c2, s2⟩, hW₁, X', ⟨g', mk, t, L, E, ce, e1, e2, hq, hce, hcv, hcl, h1, hL, h2, h3⟩, st⟩
  · dsimp only [Pt.U, Pt.locs, Pt.cells, Pt.slots] at X' e1 e2 h1 h2 h3 st
    subst h1; subst h2; subst h3
    exact Or.inl ⟨v, (T.setVm vm₁).calling g' mk As.toArray, t, U', L, hT, X', hL, e1, e2, hq, st⟩
  · dsimp only [Pt.U, Pt.locs, Pt.cells, Pt.slots] at X' e1 e2 h1 h2 h3 st hcl
    subst h1; subst h2; subst h3
    exact Or.inr ⟨q, (T.setVm vm₁).calling g' mk As.toArray, t, U', L, E, ce, hT, X', hL, e1, e2, hq, hce, hcv, vx_cls hW₁ hcl, st⟩
end
end VXH
theorem vx_ofWH {l : Launch} {y : MethodName} {ws ws' : List Cond} {rm : Room} {Pc : Array Value → State → Prop} {Qc : Array Value → State → Outcome → State → Prop} {XC : String → State → State → Prop} {mc ms : Nat} {free : Addr → Prop} {cc : ByteArray} {maxL : Nat} {ret : Option FieldType} {hh : List (Nat × Nat × Nat × Nat)}
    (hy : plainName y.cls = true) (hw : ws = Cond.codeWith y cc maxL ret hh :: ws')
    (body : ∀ p e s m args below meth c s₁, BodyLoose p l y (headSpec ws rm) cc maxL ret e s m args below meth c s₁ → c.maxLocals = maxL → Pc args s →
      W p l e (headSpec ws rm).room s m args below meth c s.heap [] 0 0 (vx_MQ below Qc XC args s mc ms free) (entryFrame m args maxL)) : vx_Met l y ws rm Pc Qc XC mc ms free := by
  refine MetFree.of_bodyS (code := cc) (maxLocals := maxL) (ret := ret) hy ?_ ?_
  · intro args s m h hn
    obtain ⟨m9, meth, c, hn9, h1, h2, h3, h4, -, h5, h6, -⟩ := Cond.codeWith_spec (atoms_spec (ws := ws) h _ (by rw [hw]; exact List.mem_cons_self))
    cases hn.symm.trans hn9
    exact ⟨meth, c, h1, h2, h3, h4, h5, h6⟩
  · intro p e s m args below meth c s₁ B hml hP _
    have hh0 : s₁.heap = s.heap := by rw [B.state]; rfl
    obtain ⟨t, a1, o, b1, b2, b3⟩ := body p e s m args below meth c s₁ B hml hP s₁ hh0 (Stand.of_body B)
    exact ⟨t, o, a1, b1, b2, b3⟩
/-! ===== END ===== -/
end
section
/-! ===== BEGIN printed: names, fields, word lists, decode rows ===== -/
def RX0 : String := "Figurehouse$Agreements"
def TX0 : u_T := fun k => match k with
  | _ => ("Figurehouse$Agreements", "isOn", "[Z", true)
def tyX0 : Nat → FieldType := fun k => match k with
  | _ => .array .boolean
abbrev wsX00 : List Cond := u_ws RX0 TX0 1
theorem nmX0 : ∀ a, a < 1 → ∀ b, b < 1 → a ≠ b → (TX0 a).2.1 ≠ (TX0 b).2.1 := by decide +kernel
theorem tyX0_ok : ∀ k, k < 1 → parseFieldDescriptor (TX0 k).2.2.1 = some (tyX0 k) := by decide +kernel
abbrev cX0_init : ByteArray := prog_2_method_1_code
def yX0_init : MethodName := ⟨RX0, "<init>", "()V"⟩
abbrev cX0_change : ByteArray := prog_2_method_2_code
def yX0_change : MethodName := ⟨RX0, "change", "(IIZ)Z"⟩
abbrev cX0_cover : ByteArray := prog_2_method_3_code
def yX0_cover : MethodName := ⟨RX0, "cover", "(IILFigurehouse$Tree;)Z"⟩
def RX1 : String := "Figurehouse$Book"
def TX1 : u_T := fun k => match k with
  | 0 => ("Figurehouse$Book", "latest", "[I", true)
  | 1 => ("Figurehouse$Book", "earliest", "[I", true)
  | 2 => ("Figurehouse$Book", "linesDone", "[I", true)
  | 3 => ("Figurehouse$Book", "lastDay", "[I", true)
  | 4 => ("Figurehouse$Book", "cells", "[I", true)
  | 5 => ("Figurehouse$Book", "days", "[I", true)
  | 6 => ("Figurehouse$Book", "figures", "[I", true)
  | _ => ("Figurehouse$Book", "size", "I", false)
def tyX1 : Nat → FieldType := fun k => match k with
  | 0 => .array .int
  | 1 => .array .int
  | 2 => .array .int
  | 3 => .array .int
  | 4 => .array .int
  | 5 => .array .int
  | 6 => .array .int
  | _ => .int
abbrev wsX10 : List Cond := u_ws RX1 TX1 8
theorem nmX1 : ∀ a, a < 8 → ∀ b, b < 8 → a ≠ b → (TX1 a).2.1 ≠ (TX1 b).2.1 := by decide +kernel
theorem tyX1_ok : ∀ k, k < 8 → parseFieldDescriptor (TX1 k).2.2.1 = some (tyX1 k) := by decide +kernel
abbrev cX1_init : ByteArray := prog_3_method_1_code
def yX1_init : MethodName := ⟨RX1, "<init>", "()V"⟩
abbrev cX1_enter : ByteArray := prog_3_method_2_code
def yX1_enter : MethodName := ⟨RX1, "enter", "(III)V"⟩
abbrev cX1_figureOn : ByteArray := prog_3_method_3_code
def yX1_figureOn : MethodName := ⟨RX1, "figureOn", "(II)I"⟩
abbrev cX1_isToldSince : ByteArray := prog_3_method_4_code
def yX1_isToldSince : MethodName := ⟨RX1, "isToldSince", "(II)Z"⟩
def RX2 : String := "Figurehouse$Draft"
def TX2 : u_T := fun k => match k with
  | 0 => ("Figurehouse$Draft", "whats", "[I", true)
  | 1 => ("Figurehouse$Draft", "areas", "[I", true)
  | 2 => ("Figurehouse$Draft", "cells", "[I", true)
  | 3 => ("Figurehouse$Draft", "values", "[I", true)
  | _ => ("Figurehouse$Draft", "size", "I", false)
def tyX2 : Nat → FieldType := fun k => match k with
  | 0 => .array .int
  | 1 => .array .int
  | 2 => .array .int
  | 3 => .array .int
  | _ => .int
abbrev wsX20 : List Cond := u_ws RX2 TX2 5
theorem nmX2 : ∀ a, a < 5 → ∀ b, b < 5 → a ≠ b → (TX2 a).2.1 ≠ (TX2 b).2.1 := by decide +kernel
theorem tyX2_ok : ∀ k, k < 5 → parseFieldDescriptor (TX2 k).2.2.1 = some (tyX2 k) := by decide +kernel
abbrev cX2_init : ByteArray := prog_4_method_1_code
def yX2_init : MethodName := ⟨RX2, "<init>", "()V"⟩
abbrev cX2_isFull : ByteArray := prog_4_method_2_code
def yX2_isFull : MethodName := ⟨RX2, "isFull", "()Z"⟩
abbrev cX2_append : ByteArray := prog_4_method_3_code
def yX2_append : MethodName := ⟨RX2, "append", "(IIII)I"⟩
abbrev cX2_figureBehind : ByteArray := prog_4_method_4_code
def yX2_figureBehind : MethodName := ⟨RX2, "figureBehind", "(I)I"⟩
abbrev cX2_clear : ByteArray := prog_4_method_5_code
def yX2_clear : MethodName := ⟨RX2, "clear", "()I"⟩
def RX3 : String := "Figurehouse$Sheet"
def TX3 : u_T := fun k => match k with
  | 0 => ("Figurehouse$Sheet", "values", "[I", true)
  | _ => ("Figurehouse$Sheet", "hides", "[Z", true)
def tyX3 : Nat → FieldType := fun k => match k with
  | 0 => .array .int
  | _ => .array .boolean
abbrev wsX30 : List Cond := u_ws RX3 TX3 2
theorem nmX3 : ∀ a, a < 2 → ∀ b, b < 2 → a ≠ b → (TX3 a).2.1 ≠ (TX3 b).2.1 := by decide +kernel
theorem tyX3_ok : ∀ k, k < 2 → parseFieldDescriptor (TX3 k).2.2.1 = some (tyX3 k) := by decide +kernel
abbrev cX3_init : ByteArray := prog_5_method_1_code
def yX3_init : MethodName := ⟨RX3, "<init>", "()V"⟩
abbrev cX3_valueAt : ByteArray := prog_5_method_2_code
def yX3_valueAt : MethodName := ⟨RX3, "valueAt", "(I)I"⟩
abbrev cX3_isHidden : ByteArray := prog_5_method_3_code
def yX3_isHidden : MethodName := ⟨RX3, "isHidden", "(I)Z"⟩
abbrev cX3_load : ByteArray := prog_5_method_4_code
def yX3_load : MethodName := ⟨RX3, "load", "(LFigurehouse$Book;IILFigurehouse$Tree;LFigurehouse$Tree;)V"⟩
abbrev cX3_loadFigures : ByteArray := prog_5_method_5_code
def yX3_loadFigures : MethodName := ⟨RX3, "loadFigures", "(LFigurehouse$Book;II)V"⟩
abbrev cX3_sumRightIn : ByteArray := prog_5_method_6_code
def yX3_sumRightIn : MethodName := ⟨RX3, "sumRightIn", "(LFigurehouse$Tree;II)I"⟩
abbrev cX3_slotBeside : ByteArray := prog_5_method_7_code
def yX3_slotBeside : MethodName := ⟨RX3, "slotBeside", "(LFigurehouse$Tree;III)I"⟩
abbrev cX3_hide : ByteArray := prog_5_method_8_code
def yX3_hide : MethodName := ⟨RX3, "hide", "([ZILFigurehouse$Tree;LFigurehouse$Tree;)V"⟩
abbrev cX3_goThroughRows : ByteArray := prog_5_method_9_code
def yX3_goThroughRows : MethodName := ⟨RX3, "goThroughRows", "(LFigurehouse$Tree;LFigurehouse$Tree;Z)Z"⟩
abbrev cX3_protectRow : ByteArray := prog_5_method_10_code
def yX3_protectRow : MethodName := ⟨RX3, "protectRow", "(LFigurehouse$Tree;II)Z"⟩
abbrev cX3_countHiddenInRow : ByteArray := prog_5_method_11_code
def yX3_countHiddenInRow : MethodName := ⟨RX3, "countHiddenInRow", "(LFigurehouse$Tree;II)I"⟩
abbrev cX3_nearestOpenSlot : ByteArray := prog_5_method_12_code
def yX3_nearestOpenSlot : MethodName := ⟨RX3, "nearestOpenSlot", "(LFigurehouse$Tree;II)I"⟩
abbrev cX3_countHiddenSlots : ByteArray := prog_5_method_13_code
def yX3_countHiddenSlots : MethodName := ⟨RX3, "countHiddenSlots", "()I"⟩
def RX4 : String := "Figurehouse$Tree"
def TX4 : u_T := fun k => match k with
  | 0 => ("Figurehouse$Tree", "outer", "[I", true)
  | 1 => ("Figurehouse$Tree", "stride", "I", true)
  | _ => ("Figurehouse$Tree", "size", "I", false)
def tyX4 : Nat → FieldType := fun k => match k with
  | 0 => .array .int
  | 1 => .int
  | _ => .int
abbrev wsX40 : List Cond := u_ws RX4 TX4 3
theorem nmX4 : ∀ a, a < 3 → ∀ b, b < 3 → a ≠ b → (TX4 a).2.1 ≠ (TX4 b).2.1 := by decide +kernel
theorem tyX4_ok : ∀ k, k < 3 → parseFieldDescriptor (TX4 k).2.2.1 = some (tyX4 k) := by decide +kernel
abbrev cX4_init : ByteArray := prog_6_method_1_code
def yX4_init : MethodName := ⟨RX4, "<init>", "(II)V"⟩
abbrev cX4_has : ByteArray := prog_6_method_2_code
def yX4_has : MethodName := ⟨RX4, "has", "(I)Z"⟩
abbrev cX4_isFull : ByteArray := prog_6_method_3_code
def yX4_isFull : MethodName := ⟨RX4, "isFull", "()Z"⟩
abbrev cX4_grow : ByteArray := prog_6_method_4_code
def yX4_grow : MethodName := ⟨RX4, "grow", "(I)I"⟩
abbrev cX4_isRightIn : ByteArray := prog_6_method_5_code
def yX4_isRightIn : MethodName := ⟨RX4, "isRightIn", "(II)Z"⟩
abbrev cX4_isWithin : ByteArray := prog_6_method_6_code
def yX4_isWithin : MethodName := ⟨RX4, "isWithin", "(II)Z"⟩
def RX5 : String := "Figurehouse"
def TX5 : u_T := fun k => match k with
  | 0 => ("Figurehouse", "areas", "LFigurehouse$Tree;", true)
  | 1 => ("Figurehouse", "items", "LFigurehouse$Tree;", true)
  | 2 => ("Figurehouse", "agreements", "LFigurehouse$Agreements;", true)
  | 3 => ("Figurehouse", "draft", "LFigurehouse$Draft;", true)
  | 4 => ("Figurehouse", "book", "LFigurehouse$Book;", true)
  | 5 => ("Figurehouse", "sheet", "LFigurehouse$Sheet;", true)
  | 6 => ("Figurehouse", "secrets", "[Z", true)
  | 7 => ("Figurehouse", "refusals", "[I", true)
  | 8 => ("Figurehouse", "judgedLines", "I", false)
  | 9 => ("Figurehouse", "sentLines", "I", false)
  | _ => ("Figurehouse", "today", "I", false)
def tyX5 : Nat → FieldType := fun k => match k with
  | 0 => .object "Figurehouse$Tree"
  | 1 => .object "Figurehouse$Tree"
  | 2 => .object "Figurehouse$Agreements"
  | 3 => .object "Figurehouse$Draft"
  | 4 => .object "Figurehouse$Book"
  | 5 => .object "Figurehouse$Sheet"
  | 6 => .array .boolean
  | 7 => .array .int
  | 8 => .int
  | 9 => .int
  | _ => .int
abbrev wsX50 : List Cond := u_ws RX5 TX5 11
theorem nmX5 : ∀ a, a < 11 → ∀ b, b < 11 → a ≠ b → (TX5 a).2.1 ≠ (TX5 b).2.1 := by decide +kernel
theorem tyX5_ok : ∀ k, k < 11 → parseFieldDescriptor (TX5 k).2.2.1 = some (tyX5 k) := by decide +kernel
abbrev cX5_init : ByteArray := prog_1_method_1_code
def yX5_init : MethodName := ⟨RX5, "<init>", "()V"⟩
abbrev cX5_area : ByteArray := prog_1_method_2_code
def yX5_area : MethodName := ⟨RX5, "area", "(I)I"⟩
abbrev cX5_item : ByteArray := prog_1_method_3_code
def yX5_item : MethodName := ⟨RX5, "item", "(I)I"⟩
abbrev cX5_agree : ByteArray := prog_1_method_4_code
def yX5_agree : MethodName := ⟨RX5, "agree", "(IIZ)Z"⟩
abbrev cX5_put : ByteArray := prog_1_method_5_code
def yX5_put : MethodName := ⟨RX5, "put", "(IIIII)I"⟩
abbrev cX5_wipe : ByteArray := prog_1_method_6_code
def yX5_wipe : MethodName := ⟨RX5, "wipe", "()I"⟩
abbrev cX5_send : ByteArray := prog_1_method_7_code
def yX5_send : MethodName := ⟨RX5, "send", "(I)I"⟩
abbrev cX5_refusal : ByteArray := prog_1_method_8_code
def yX5_refusal : MethodName := ⟨RX5, "refusal", "(I)I"⟩
abbrev cX5_secret : ByteArray := prog_1_method_9_code
def yX5_secret : MethodName := ⟨RX5, "secret", "(IIIZ)I"⟩
abbrev cX5_pass : ByteArray := prog_1_method_10_code
def yX5_pass : MethodName := ⟨RX5, "pass", "(I)I"⟩
abbrev cX5_figure : ByteArray := prog_1_method_11_code
def yX5_figure : MethodName := ⟨RX5, "figure", "(IIII)I"⟩
abbrev cX5_value : ByteArray := prog_1_method_12_code
def yX5_value : MethodName := ⟨RX5, "value", "(IIII)I"⟩
abbrev cX5_first : ByteArray := prog_1_method_13_code
def yX5_first : MethodName := ⟨RX5, "first", "(III)I"⟩
abbrev cX5_revisions : ByteArray := prog_1_method_14_code
def yX5_revisions : MethodName := ⟨RX5, "revisions", "(III)I"⟩
abbrev cX5_hasFault : ByteArray := prog_1_method_15_code
def yX5_hasFault : MethodName := ⟨RX5, "hasFault", "(III)Z"⟩
abbrev cX5_shown : ByteArray := prog_1_method_16_code
def yX5_shown : MethodName := ⟨RX5, "shown", "(III)I"⟩
abbrev cX5_hidden : ByteArray := prog_1_method_17_code
def yX5_hidden : MethodName := ⟨RX5, "hidden", "(I)I"⟩
abbrev cX5_find : ByteArray := prog_1_method_18_code
def yX5_find : MethodName := ⟨RX5, "find", "(IIIIII)I"⟩
abbrev cX5_mayTell : ByteArray := prog_1_method_19_code
def yX5_mayTell : MethodName := ⟨RX5, "mayTell", "(II)Z"⟩
abbrev cX5_isPeriod : ByteArray := prog_1_method_20_code
def yX5_isPeriod : MethodName := ⟨RX5, "isPeriod", "(I)Z"⟩
abbrev cX5_requireSender : ByteArray := prog_1_method_21_code
def yX5_requireSender : MethodName := ⟨RX5, "requireSender", "(I)V"⟩
abbrev cX5_requirePattern : ByteArray := prog_1_method_22_code
def yX5_requirePattern : MethodName := ⟨RX5, "requirePattern", "(LFigurehouse$Tree;I)V"⟩
abbrev cX5_requireRoom : ByteArray := prog_1_method_23_code
def yX5_requireRoom : MethodName := ⟨RX5, "requireRoom", "(LFigurehouse$Tree;)V"⟩
abbrev cX5_requireArea : ByteArray := prog_1_method_24_code
def yX5_requireArea : MethodName := ⟨RX5, "requireArea", "(I)V"⟩
abbrev cX5_requireCell : ByteArray := prog_1_method_25_code
def yX5_requireCell : MethodName := ⟨RX5, "requireCell", "(III)I"⟩
abbrev cX5_requireDay : ByteArray := prog_1_method_26_code
def yX5_requireDay : MethodName := ⟨RX5, "requireDay", "(I)V"⟩
abbrev cX5_slotOf : ByteArray := prog_1_method_27_code
def yX5_slotOf : MethodName := ⟨RX5, "slotOf", "(II)I"⟩
abbrev cX5_cellOf : ByteArray := prog_1_method_28_code
def yX5_cellOf : MethodName := ⟨RX5, "cellOf", "(III)I"⟩
abbrev cX5_judgeDraft : ByteArray := prog_1_method_29_code
def yX5_judgeDraft : MethodName := ⟨RX5, "judgeDraft", "(I)I"⟩
abbrev cX5_judge : ByteArray := prog_1_method_30_code
def yX5_judge : MethodName := ⟨RX5, "judge", "(II)I"⟩
abbrev cX5_isOtherSum : ByteArray := prog_1_method_31_code
def yX5_isOtherSum : MethodName := ⟨RX5, "isOtherSum", "(II)Z"⟩
abbrev cX5_loadHidden : ByteArray := prog_1_method_32_code
def yX5_loadHidden : MethodName := ⟨RX5, "loadHidden", "(I)V"⟩
abbrev cX5_matchAt : ByteArray := prog_1_method_33_code
def yX5_matchAt : MethodName := ⟨RX5, "matchAt", "(IIIIII)I"⟩
def RX6 : String := "FigurehouseModel"
def TX6 : u_T := fun k => match k with
  | 0 => ("FigurehouseModel", "today", "I", false)
  | 1 => ("FigurehouseModel", "areas", "I", false)
  | 2 => ("FigurehouseModel", "items", "I", false)
  | 3 => ("FigurehouseModel", "areaIn", "[I", true)
  | 4 => ("FigurehouseModel", "itemIn", "[I", true)
  | 5 => ("FigurehouseModel", "agreed", "[Z", true)
  | 6 => ("FigurehouseModel", "drafted", "I", false)
  | 7 => ("FigurehouseModel", "draftWhat", "[I", true)
  | 8 => ("FigurehouseModel", "draftCell", "[I", true)
  | 9 => ("FigurehouseModel", "draftValue", "[I", true)
  | 10 => ("FigurehouseModel", "sent", "I", false)
  | 11 => ("FigurehouseModel", "latest", "I", false)
  | 12 => ("FigurehouseModel", "refused", "[I", true)
  | 13 => ("FigurehouseModel", "done", "I", false)
  | 14 => ("FigurehouseModel", "doneCell", "[I", true)
  | 15 => ("FigurehouseModel", "doneDay", "[I", true)
  | 16 => ("FigurehouseModel", "doneValue", "[I", true)
  | 17 => ("FigurehouseModel", "isSecret", "[Z", true)
  | 18 => ("FigurehouseModel", "values", "[I", true)
  | 19 => ("FigurehouseModel", "isHidden", "[Z", true)
  | _ => ("FigurehouseModel", "thrown", "I", false)
def tyX6 : Nat → FieldType := fun k => match k with
  | 0 => .int
  | 1 => .int
  | 2 => .int
  | 3 => .array .int
  | 4 => .array .int
  | 5 => .array .boolean
  | 6 => .int
  | 7 => .array .int
  | 8 => .array .int
  | 9 => .array .int
  | 10 => .int
  | 11 => .int
  | 12 => .array .int
  | 13 => .int
  | 14 => .array .int
  | 15 => .array .int
  | 16 => .array .int
  | 17 => .array .boolean
  | 18 => .array .int
  | 19 => .array .boolean
  | _ => .int
abbrev wsX60 : List Cond := u_ws RX6 TX6 21
theorem nmX6 : ∀ a, a < 21 → ∀ b, b < 21 → a ≠ b → (TX6 a).2.1 ≠ (TX6 b).2.1 := by decide +kernel
theorem tyX6_ok : ∀ k, k < 21 → parseFieldDescriptor (TX6 k).2.2.1 = some (tyX6 k) := by decide +kernel
abbrev cX6_init : ByteArray := prog_8_method_1_code
def yX6_init : MethodName := ⟨RX6, "<init>", "()V"⟩
abbrev cX6_thrown : ByteArray := prog_8_method_2_code
def yX6_thrown : MethodName := ⟨RX6, "thrown", "()I"⟩
abbrev cX6_isIn : ByteArray := prog_8_method_3_code
def yX6_isIn : MethodName := ⟨RX6, "isIn", "(III)Z"⟩
abbrev cX6_isArea : ByteArray := prog_8_method_4_code
def yX6_isArea : MethodName := ⟨RX6, "isArea", "(I)Z"⟩
abbrev cX6_isItem : ByteArray := prog_8_method_5_code
def yX6_isItem : MethodName := ⟨RX6, "isItem", "(I)Z"⟩
abbrev cX6_isCell : ByteArray := prog_8_method_6_code
def yX6_isCell : MethodName := ⟨RX6, "isCell", "(III)Z"⟩
abbrev cX6_cellOf : ByteArray := prog_8_method_7_code
def yX6_cellOf : MethodName := ⟨RX6, "cellOf", "(III)I"⟩
abbrev cX6_area : ByteArray := prog_8_method_8_code
def yX6_area : MethodName := ⟨RX6, "area", "(I)I"⟩
abbrev cX6_item : ByteArray := prog_8_method_9_code
def yX6_item : MethodName := ⟨RX6, "item", "(I)I"⟩
abbrev cX6_isSender : ByteArray := prog_8_method_10_code
def yX6_isSender : MethodName := ⟨RX6, "isSender", "(I)Z"⟩
abbrev cX6_agree : ByteArray := prog_8_method_11_code
def yX6_agree : MethodName := ⟨RX6, "agree", "(IIZ)Z"⟩
abbrev cX6_may : ByteArray := prog_8_method_12_code
def yX6_may : MethodName := ⟨RX6, "may", "(II)Z"⟩
abbrev cX6_put : ByteArray := prog_8_method_13_code
def yX6_put : MethodName := ⟨RX6, "put", "(IIIII)I"⟩
abbrev cX6_wipe : ByteArray := prog_8_method_14_code
def yX6_wipe : MethodName := ⟨RX6, "wipe", "()I"⟩
abbrev cX6_figureOn : ByteArray := prog_8_method_15_code
def yX6_figureOn : MethodName := ⟨RX6, "figureOn", "(II)I"⟩
abbrev cX6_judges : ByteArray := prog_8_method_16_code
def yX6_judges : MethodName := ⟨RX6, "judges", "(II)I"⟩
abbrev cX6_send : ByteArray := prog_8_method_17_code
def yX6_send : MethodName := ⟨RX6, "send", "(I)I"⟩
abbrev cX6_refusal : ByteArray := prog_8_method_18_code
def yX6_refusal : MethodName := ⟨RX6, "refusal", "(I)I"⟩
abbrev cX6_sumOf : ByteArray := prog_8_method_19_code
def yX6_sumOf : MethodName := ⟨RX6, "sumOf", "(IIZ)I"⟩
abbrev cX6_finds : ByteArray := prog_8_method_20_code
def yX6_finds : MethodName := ⟨RX6, "finds", "(II)V"⟩
abbrev cX6_hides : ByteArray := prog_8_method_21_code
def yX6_hides : MethodName := ⟨RX6, "hides", "(IIZ)I"⟩
abbrev cX6_size : ByteArray := prog_8_method_22_code
def yX6_size : MethodName := ⟨RX6, "size", "(I)I"⟩
abbrev cX6_looks : ByteArray := prog_8_method_23_code
def yX6_looks : MethodName := ⟨RX6, "looks", "(IIZ)Z"⟩
abbrev cX6_covers : ByteArray := prog_8_method_24_code
def yX6_covers : MethodName := ⟨RX6, "covers", "(I)I"⟩
abbrev cX6_secret : ByteArray := prog_8_method_25_code
def yX6_secret : MethodName := ⟨RX6, "secret", "(IIIZ)I"⟩
abbrev cX6_pass : ByteArray := prog_8_method_26_code
def yX6_pass : MethodName := ⟨RX6, "pass", "(I)I"⟩
abbrev cX6_figure : ByteArray := prog_8_method_27_code
def yX6_figure : MethodName := ⟨RX6, "figure", "(IIII)I"⟩
abbrev cX6_value : ByteArray := prog_8_method_28_code
def yX6_value : MethodName := ⟨RX6, "value", "(IIII)I"⟩
abbrev cX6_first : ByteArray := prog_8_method_29_code
def yX6_first : MethodName := ⟨RX6, "first", "(III)I"⟩
abbrev cX6_revisions : ByteArray := prog_8_method_30_code
def yX6_revisions : MethodName := ⟨RX6, "revisions", "(III)I"⟩
abbrev cX6_hasFault : ByteArray := prog_8_method_31_code
def yX6_hasFault : MethodName := ⟨RX6, "hasFault", "(III)Z"⟩
abbrev cX6_shown : ByteArray := prog_8_method_32_code
def yX6_shown : MethodName := ⟨RX6, "shown", "(III)I"⟩
abbrev cX6_hidden : ByteArray := prog_8_method_33_code
def yX6_hidden : MethodName := ⟨RX6, "hidden", "(I)I"⟩
abbrev cX6_isWithin : ByteArray := prog_8_method_34_code
def yX6_isWithin : MethodName := ⟨RX6, "isWithin", "(IIZ)Z"⟩
abbrev cX6_toldOn : ByteArray := prog_8_method_35_code
def yX6_toldOn : MethodName := ⟨RX6, "toldOn", "(I)I"⟩
abbrev cX6_find : ByteArray := prog_8_method_36_code
def yX6_find : MethodName := ⟨RX6, "find", "(IIIIII)I"⟩
abbrev cX6_mayTell : ByteArray := prog_8_method_37_code
def yX6_mayTell : MethodName := ⟨RX6, "mayTell", "(II)Z"⟩
def RJx145de : String := "java/io/Serializable"
def TJx145de : u_T := fun k => match k with
  | _ => ("", "", "", false)
def tyJx145de : Nat → FieldType := fun k => match k with
  | _ => .int
abbrev wsJx145de0 : List Cond := u_ws RJx145de TJx145de 0
theorem nmJx145de : ∀ a, a < 0 → ∀ b, b < 0 → a ≠ b → (TJx145de a).2.1 ≠ (TJx145de b).2.1 := by decide +kernel
theorem tyJx145de_ok : ∀ k, k < 0 → parseFieldDescriptor (TJx145de k).2.2.1 = some (tyJx145de k) := by decide +kernel
def RJ9 : String := "java/lang/Math"
def TJ9 : u_T := fun k => match k with
  | _ => ("", "", "", false)
def tyJ9 : Nat → FieldType := fun k => match k with
  | _ => .int
abbrev wsJ90 : List Cond := u_ws RJ9 TJ9 0
theorem nmJ9 : ∀ a, a < 0 → ∀ b, b < 0 → a ≠ b → (TJ9 a).2.1 ≠ (TJ9 b).2.1 := by decide +kernel
theorem tyJ9_ok : ∀ k, k < 0 → parseFieldDescriptor (TJ9 k).2.2.1 = some (tyJ9 k) := by decide +kernel
abbrev cJ9_abs_0f7a4 : ByteArray := prog_13_method_59_code
def yJ9_abs_0f7a4 : MethodName := ⟨RJ9, "abs", "(I)I"⟩
def RJ0 : String := "java/lang/String"
def TJ0 : u_T := fun k => match k with
  | _ => ("", "", "", false)
def tyJ0 : Nat → FieldType := fun k => match k with
  | _ => .int
abbrev wsJ00 : List Cond := u_ws RJ0 TJ0 0
theorem nmJ0 : ∀ a, a < 0 → ∀ b, b < 0 → a ≠ b → (TJ0 a).2.1 ≠ (TJ0 b).2.1 := by decide +kernel
theorem tyJ0_ok : ∀ k, k < 0 → parseFieldDescriptor (TJ0 k).2.2.1 = some (tyJ0 k) := by decide +kernel
def RJ7 : String := "java/util/Arrays"
def TJ7 : u_T := fun k => match k with
  | _ => ("", "", "", false)
def tyJ7 : Nat → FieldType := fun k => match k with
  | _ => .int
abbrev wsJ70 : List Cond := u_ws RJ7 TJ7 0
theorem nmJ7 : ∀ a, a < 0 → ∀ b, b < 0 → a ≠ b → (TJ7 a).2.1 ≠ (TJ7 b).2.1 := by decide +kernel
theorem tyJ7_ok : ∀ k, k < 0 → parseFieldDescriptor (TJ7 k).2.2.1 = some (tyJ7 k) := by decide +kernel
abbrev cJ7_fill_53178 : ByteArray := prog_17_method_103_code
def yJ7_fill_53178 : MethodName := ⟨RJ7, "fill", "([II)V"⟩
def RL : String := "FigurehouseLaw"
abbrev cL_area : ByteArray := method_3_code
def yL_area : MethodName := ⟨RL, "area", "(LFigurehouse;I[J)I"⟩
abbrev cL_item : ByteArray := method_4_code
def yL_item : MethodName := ⟨RL, "item", "(LFigurehouse;I[J)I"⟩
abbrev cL_agree : ByteArray := method_5_code
def yL_agree : MethodName := ⟨RL, "agree", "(LFigurehouse;IIZ[J)I"⟩
abbrev cL_put : ByteArray := method_6_code
def yL_put : MethodName := ⟨RL, "put", "(LFigurehouse;IIIII[J)I"⟩
abbrev cL_send : ByteArray := method_7_code
def yL_send : MethodName := ⟨RL, "send", "(LFigurehouse;I[J)I"⟩
abbrev cL_refusal : ByteArray := method_8_code
def yL_refusal : MethodName := ⟨RL, "refusal", "(LFigurehouse;I[J)I"⟩
abbrev cL_secret : ByteArray := method_9_code
def yL_secret : MethodName := ⟨RL, "secret", "(LFigurehouse;IIIZ[J)I"⟩
abbrev cL_pass : ByteArray := method_10_code
def yL_pass : MethodName := ⟨RL, "pass", "(LFigurehouse;I[J)I"⟩
abbrev cL_figure : ByteArray := method_11_code
def yL_figure : MethodName := ⟨RL, "figure", "(LFigurehouse;IIII[J)I"⟩
abbrev cL_value : ByteArray := method_12_code
def yL_value : MethodName := ⟨RL, "value", "(LFigurehouse;IIII[J)I"⟩
abbrev cL_first : ByteArray := method_13_code
def yL_first : MethodName := ⟨RL, "first", "(LFigurehouse;III[J)I"⟩
abbrev cL_revisions : ByteArray := method_14_code
def yL_revisions : MethodName := ⟨RL, "revisions", "(LFigurehouse;III[J)I"⟩
abbrev cL_hasFault : ByteArray := method_15_code
def yL_hasFault : MethodName := ⟨RL, "hasFault", "(LFigurehouse;III[J)I"⟩
abbrev cL_shown : ByteArray := method_16_code
def yL_shown : MethodName := ⟨RL, "shown", "(LFigurehouse;III[J)I"⟩
abbrev cL_hidden : ByteArray := method_17_code
def yL_hidden : MethodName := ⟨RL, "hidden", "(LFigurehouse;I[J)I"⟩
abbrev cL_find : ByteArray := method_18_code
def yL_find : MethodName := ⟨RL, "find", "(LFigurehouse;IIIIII[J)I"⟩
abbrev cL_mayTell : ByteArray := method_19_code
def yL_mayTell : MethodName := ⟨RL, "mayTell", "(LFigurehouse;II[J)I"⟩
abbrev cL_law : ByteArray := code
def yL_law : MethodName := ⟨RL, "law", "([I)Z"⟩
def wsX0_init : List Cond := .code yX0_init cX0_init 1 none :: ([.methodLink RX0 3 objectInit, .instanceMethod objectInit, .code objectInit ⟨#[0xb1]⟩ 1 none, .arrayClass .boolean, .fieldLink RX0 9 "Figurehouse$Agreements" "isOn" "[Z"] ++ wsX00)
def wsX0_change : List Cond := .code yX0_change cX0_change 6 (some .boolean) :: ([.fieldLink RX0 9 "Figurehouse$Agreements" "isOn" "[Z"] ++ wsX00)
def wsX4_has : List Cond := .code yX4_has cX4_has 2 (some .boolean) :: ([.fieldLink RX4 17 "Figurehouse$Tree" "size" "I"] ++ wsX40)
def wsX4_isWithin : List Cond := .code yX4_isWithin cX4_isWithin 5 (some .boolean) :: ([.fieldLink RX4 17 "Figurehouse$Tree" "size" "I", .fieldLink RX4 7 "Figurehouse$Tree" "outer" "[I", .methodLink RX4 20 yX4_has, .instanceMethod yX4_has, .selects RX4 yX4_has yX4_has, .initialized RX4, .code yX4_has cX4_has 2 (some .boolean)] ++ wsX40)
def wsX0_cover : List Cond := .code yX0_cover cX0_cover 5 (some .boolean) :: ([.fieldLink RX0 9 "Figurehouse$Agreements" "isOn" "[Z", .methodLink RX0 21 yX4_isWithin, .instanceMethod yX4_isWithin, .selects RX4 yX4_isWithin yX4_isWithin, .initialized RX4, .code yX4_isWithin cX4_isWithin 5 (some .boolean), .fieldLink RX4 17 "Figurehouse$Tree" "size" "I", .fieldLink RX4 7 "Figurehouse$Tree" "outer" "[I", .methodLink RX4 20 yX4_has, .instanceMethod yX4_has, .selects RX4 yX4_has yX4_has, .code yX4_has cX4_has 2 (some .boolean)] ++ wsX40 ++ wsX00)
def wsJ7_fill_53178 : List Cond := .code yJ7_fill_53178 cJ7_fill_53178 4 none :: ([])
def wsX1_init : List Cond := .code yX1_init cX1_init 1 none :: ([.methodLink RX1 3 objectInit, .instanceMethod objectInit, .code objectInit ⟨#[0xb1]⟩ 1 none, .arrayClass .int, .fieldLink RX1 9 "Figurehouse$Book" "latest" "[I", .fieldLink RX1 15 "Figurehouse$Book" "earliest" "[I", .fieldLink RX1 18 "Figurehouse$Book" "linesDone" "[I", .fieldLink RX1 21 "Figurehouse$Book" "lastDay" "[I", .fieldLink RX1 24 "Figurehouse$Book" "cells" "[I", .fieldLink RX1 27 "Figurehouse$Book" "days" "[I", .fieldLink RX1 30 "Figurehouse$Book" "figures" "[I", .constant RX1 33 (-2000000001), .methodLink RX1 34 yJ7_fill_53178, .static yJ7_fill_53178, .initialized RJ7, .code yJ7_fill_53178 cJ7_fill_53178 4 none] ++ wsX10)
def wsX1_enter : List Cond := .code yX1_enter cX1_enter 4 none :: ([.fieldLink RX1 40 "Figurehouse$Book" "size" "I", .fieldLink RX1 24 "Figurehouse$Book" "cells" "[I", .fieldLink RX1 27 "Figurehouse$Book" "days" "[I", .fieldLink RX1 30 "Figurehouse$Book" "figures" "[I", .fieldLink RX1 18 "Figurehouse$Book" "linesDone" "[I", .fieldLink RX1 15 "Figurehouse$Book" "earliest" "[I", .fieldLink RX1 9 "Figurehouse$Book" "latest" "[I", .fieldLink RX1 21 "Figurehouse$Book" "lastDay" "[I"] ++ wsX10)
def wsX1_figureOn : List Cond := .code yX1_figureOn cX1_figureOn 4 (some .int) :: ([.fieldLink RX1 40 "Figurehouse$Book" "size" "I", .fieldLink RX1 24 "Figurehouse$Book" "cells" "[I", .fieldLink RX1 27 "Figurehouse$Book" "days" "[I", .fieldLink RX1 30 "Figurehouse$Book" "figures" "[I", .constant RX1 33 (-2000000001)] ++ wsX10)
def wsX1_isToldSince : List Cond := .code yX1_isToldSince cX1_isToldSince 3 (some .boolean) :: ([.fieldLink RX1 9 "Figurehouse$Book" "latest" "[I", .constant RX1 33 (-2000000001), .fieldLink RX1 21 "Figurehouse$Book" "lastDay" "[I"] ++ wsX10)
def wsX2_init : List Cond := .code yX2_init cX2_init 1 none :: ([.methodLink RX2 3 objectInit, .instanceMethod objectInit, .code objectInit ⟨#[0xb1]⟩ 1 none, .arrayClass .int, .fieldLink RX2 9 "Figurehouse$Draft" "whats" "[I", .fieldLink RX2 15 "Figurehouse$Draft" "areas" "[I", .fieldLink RX2 18 "Figurehouse$Draft" "cells" "[I", .fieldLink RX2 21 "Figurehouse$Draft" "values" "[I"] ++ wsX20)
def wsX2_isFull : List Cond := .code yX2_isFull cX2_isFull 1 (some .boolean) :: ([.fieldLink RX2 24 "Figurehouse$Draft" "size" "I"] ++ wsX20)
def wsX2_append : List Cond := .code yX2_append cX2_append 5 (some .int) :: ([.fieldLink RX2 24 "Figurehouse$Draft" "size" "I", .fieldLink RX2 9 "Figurehouse$Draft" "whats" "[I", .fieldLink RX2 15 "Figurehouse$Draft" "areas" "[I", .fieldLink RX2 18 "Figurehouse$Draft" "cells" "[I", .fieldLink RX2 21 "Figurehouse$Draft" "values" "[I"] ++ wsX20)
def wsX2_figureBehind : List Cond := .code yX2_figureBehind cX2_figureBehind 2 (some .int) :: ([.fieldLink RX2 9 "Figurehouse$Draft" "whats" "[I", .constant RX2 28 (-2000000001), .fieldLink RX2 21 "Figurehouse$Draft" "values" "[I"] ++ wsX20)
def wsX2_clear : List Cond := .code yX2_clear cX2_clear 2 (some .int) :: ([.fieldLink RX2 24 "Figurehouse$Draft" "size" "I"] ++ wsX20)
def wsX3_init : List Cond := .code yX3_init cX3_init 1 none :: ([.methodLink RX3 3 objectInit, .instanceMethod objectInit, .code objectInit ⟨#[0xb1]⟩ 1 none, .arrayClass .int, .fieldLink RX3 9 "Figurehouse$Sheet" "values" "[I", .arrayClass .boolean, .fieldLink RX3 15 "Figurehouse$Sheet" "hides" "[Z"] ++ wsX30)
def wsX3_valueAt : List Cond := .code yX3_valueAt cX3_valueAt 2 (some .int) :: ([.fieldLink RX3 9 "Figurehouse$Sheet" "values" "[I", .constant RX3 19 (-2000000001)] ++ wsX30)
def wsX3_isHidden : List Cond := .code yX3_isHidden cX3_isHidden 2 (some .boolean) :: ([.fieldLink RX3 15 "Figurehouse$Sheet" "hides" "[Z"] ++ wsX30)
def wsX3_loadFigures : List Cond := .code yX3_loadFigures cX3_loadFigures 6 none :: ([.fieldLink RX3 9 "Figurehouse$Sheet" "values" "[I", .constant RX3 19 (-2000000001), .methodLink RX3 38 yJ7_fill_53178, .static yJ7_fill_53178, .initialized RJ7, .code yJ7_fill_53178 cJ7_fill_53178 4 none] ++ wsX30 ++ wsX10)
def wsX5_slotOf : List Cond := .code yX5_slotOf cX5_slotOf 2 (some .int) :: ([])
def wsX4_isRightIn : List Cond := .code yX4_isRightIn cX4_isRightIn 3 (some .boolean) :: ([.fieldLink RX4 17 "Figurehouse$Tree" "size" "I", .fieldLink RX4 7 "Figurehouse$Tree" "outer" "[I"] ++ wsX40)
def wsX3_slotBeside : List Cond := .code yX3_slotBeside cX3_slotBeside 4 (some .int) :: ([] ++ wsX40)
def wsX3_sumRightIn : List Cond := .code yX3_sumRightIn cX3_sumRightIn 8 (some .int) :: ([.constant RX3 19 (-2000000001), .methodLink RX3 56 yX4_isRightIn, .instanceMethod yX4_isRightIn, .selects RX4 yX4_isRightIn yX4_isRightIn, .initialized RX4, .code yX4_isRightIn cX4_isRightIn 3 (some .boolean), .fieldLink RX4 17 "Figurehouse$Tree" "size" "I", .fieldLink RX4 7 "Figurehouse$Tree" "outer" "[I", .methodLink RX3 60 yX3_slotBeside, .static yX3_slotBeside, .initialized RX3, .code yX3_slotBeside cX3_slotBeside 4 (some .int), .methodLink RX3 64 yX3_valueAt, .instanceMethod yX3_valueAt, .selects RX3 yX3_valueAt yX3_valueAt, .code yX3_valueAt cX3_valueAt 2 (some .int), .fieldLink RX3 9 "Figurehouse$Sheet" "values" "[I"] ++ wsX40 ++ wsX30)
def wsX3_load_r1 : List Cond := [Cond.fieldLink RX3 9 "Figurehouse$Sheet" "values" "[I", Cond.constant RX3 19 (-2000000001), Cond.methodLink RX3 20 yX3_loadFigures, Cond.instanceMethod yX3_loadFigures, Cond.selects RX3 yX3_loadFigures yX3_loadFigures, Cond.initialized RX3, Cond.code yX3_loadFigures cX3_loadFigures 6 none, Cond.methodLink RX3 38 yJ7_fill_53178, Cond.static yJ7_fill_53178, Cond.initialized RJ7, Cond.code yJ7_fill_53178 cJ7_fill_53178 4 none, Cond.static yX5_slotOf, Cond.initialized RX5, Cond.code yX5_slotOf cX5_slotOf 2 (some .int), Cond.methodLink RX3 34 yX3_sumRightIn, Cond.instanceMethod yX3_sumRightIn, Cond.selects RX3 yX3_sumRightIn yX3_sumRightIn, Cond.code yX3_sumRightIn cX3_sumRightIn 8 (some .int), Cond.methodLink RX3 56 yX4_isRightIn, Cond.instanceMethod yX4_isRightIn, Cond.selects RX4 yX4_isRightIn yX4_isRightIn, Cond.initialized RX4, Cond.code yX4_isRightIn cX4_isRightIn 3 (some .boolean), Cond.fieldLink RX4 17 "Figurehouse$Tree" "size" "I"]
def wsX3_load_r2 : List Cond := [Cond.fieldLink RX4 7 "Figurehouse$Tree" "outer" "[I", Cond.methodLink RX3 60 yX3_slotBeside, Cond.static yX3_slotBeside, Cond.code yX3_slotBeside cX3_slotBeside 4 (some .int), Cond.methodLink RX3 64 yX3_valueAt, Cond.instanceMethod yX3_valueAt, Cond.selects RX3 yX3_valueAt yX3_valueAt, Cond.code yX3_valueAt cX3_valueAt 2 (some .int)]
def wsX3_load : List Cond := .code yX3_load cX3_load 9 none :: ((wsX3_load_r1 ++ wsX3_load_r2) ++ wsX40 ++ wsX30 ++ wsX10)
def wsX3_countHiddenInRow : List Cond := .code yX3_countHiddenInRow cX3_countHiddenInRow 6 (some .int) :: ([.methodLink RX3 85 yX3_isHidden, .instanceMethod yX3_isHidden, .selects RX3 yX3_isHidden yX3_isHidden, .initialized RX3, .code yX3_isHidden cX3_isHidden 2 (some .boolean), .fieldLink RX3 15 "Figurehouse$Sheet" "hides" "[Z", .methodLink RX3 56 yX4_isRightIn, .instanceMethod yX4_isRightIn, .selects RX4 yX4_isRightIn yX4_isRightIn, .initialized RX4, .code yX4_isRightIn cX4_isRightIn 3 (some .boolean), .fieldLink RX4 17 "Figurehouse$Tree" "size" "I", .fieldLink RX4 7 "Figurehouse$Tree" "outer" "[I", .methodLink RX3 60 yX3_slotBeside, .static yX3_slotBeside, .code yX3_slotBeside cX3_slotBeside 4 (some .int)] ++ wsX40 ++ wsX30)
def wsX3_nearestOpenSlot_r1 : List Cond := [Cond.methodLink RX3 89 Lib.Math.abs.name, Cond.static Lib.Math.abs.name, Cond.initialized "java/lang/Math", Cond.code Lib.Math.abs.name Lib.Math.abs.code 1 (some .int), Cond.methodLink RX3 60 yX3_slotBeside, Cond.static yX3_slotBeside, Cond.initialized RX3, Cond.code yX3_slotBeside cX3_slotBeside 4 (some .int), Cond.methodLink RX3 56 yX4_isRightIn, Cond.instanceMethod yX4_isRightIn, Cond.selects RX4 yX4_isRightIn yX4_isRightIn, Cond.initialized RX4, Cond.code yX4_isRightIn cX4_isRightIn 3 (some .boolean), Cond.fieldLink RX4 17 "Figurehouse$Tree" "size" "I", Cond.fieldLink RX4 7 "Figurehouse$Tree" "outer" "[I", Cond.methodLink RX3 85 yX3_isHidden, Cond.instanceMethod yX3_isHidden, Cond.selects RX3 yX3_isHidden yX3_isHidden, Cond.code yX3_isHidden cX3_isHidden 2 (some .boolean), Cond.fieldLink RX3 15 "Figurehouse$Sheet" "hides" "[Z", Cond.methodLink RX3 64 yX3_valueAt, Cond.instanceMethod yX3_valueAt, Cond.selects RX3 yX3_valueAt yX3_valueAt, Cond.code yX3_valueAt cX3_valueAt 2 (some .int)]
def wsX3_nearestOpenSlot_r2 : List Cond := [Cond.fieldLink RX3 9 "Figurehouse$Sheet" "values" "[I", Cond.constant RX3 19 (-2000000001)]
def wsX3_nearestOpenSlot : List Cond := .code yX3_nearestOpenSlot cX3_nearestOpenSlot 7 (some .int) :: ((wsX3_nearestOpenSlot_r1 ++ wsX3_nearestOpenSlot_r2) ++ wsX40 ++ wsX30)
def wsX3_protectRow_r1 : List Cond := [Cond.constant RX3 19 (-2000000001), Cond.fieldLink RX3 15 "Figurehouse$Sheet" "hides" "[Z", Cond.methodLink RX3 79 yX3_countHiddenInRow, Cond.instanceMethod yX3_countHiddenInRow, Cond.selects RX3 yX3_countHiddenInRow yX3_countHiddenInRow, Cond.initialized RX3, Cond.code yX3_countHiddenInRow cX3_countHiddenInRow 6 (some .int), Cond.methodLink RX3 85 yX3_isHidden, Cond.instanceMethod yX3_isHidden, Cond.selects RX3 yX3_isHidden yX3_isHidden, Cond.code yX3_isHidden cX3_isHidden 2 (some .boolean), Cond.methodLink RX3 56 yX4_isRightIn, Cond.instanceMethod yX4_isRightIn, Cond.selects RX4 yX4_isRightIn yX4_isRightIn, Cond.initialized RX4, Cond.code yX4_isRightIn cX4_isRightIn 3 (some .boolean), Cond.fieldLink RX4 17 "Figurehouse$Tree" "size" "I", Cond.fieldLink RX4 7 "Figurehouse$Tree" "outer" "[I", Cond.methodLink RX3 60 yX3_slotBeside, Cond.static yX3_slotBeside, Cond.code yX3_slotBeside cX3_slotBeside 4 (some .int), Cond.methodLink RX3 34 yX3_sumRightIn, Cond.instanceMethod yX3_sumRightIn, Cond.selects RX3 yX3_sumRightIn yX3_sumRightIn]
def wsX3_protectRow_r2 : List Cond := [Cond.code yX3_sumRightIn cX3_sumRightIn 8 (some .int), Cond.methodLink RX3 64 yX3_valueAt, Cond.instanceMethod yX3_valueAt, Cond.selects RX3 yX3_valueAt yX3_valueAt, Cond.code yX3_valueAt cX3_valueAt 2 (some .int), Cond.fieldLink RX3 9 "Figurehouse$Sheet" "values" "[I", Cond.methodLink RX3 82 yX3_nearestOpenSlot, Cond.instanceMethod yX3_nearestOpenSlot, Cond.selects RX3 yX3_nearestOpenSlot yX3_nearestOpenSlot, Cond.code yX3_nearestOpenSlot cX3_nearestOpenSlot 7 (some .int), Cond.methodLink RX3 89 Lib.Math.abs.name, Cond.static Lib.Math.abs.name, Cond.initialized "java/lang/Math", Cond.code Lib.Math.abs.name Lib.Math.abs.code 1 (some .int)]
def wsX3_protectRow : List Cond := .code yX3_protectRow cX3_protectRow 4 (some .boolean) :: ((wsX3_protectRow_r1 ++ wsX3_protectRow_r2) ++ wsX30 ++ wsX40)
def wsX3_goThroughRows_r1 : List Cond := [Cond.static yX5_slotOf, Cond.initialized RX5, Cond.code yX5_slotOf cX5_slotOf 2 (some .int), Cond.methodLink RX3 75 yX3_protectRow, Cond.instanceMethod yX3_protectRow, Cond.selects RX3 yX3_protectRow yX3_protectRow, Cond.initialized RX3, Cond.code yX3_protectRow cX3_protectRow 4 (some .boolean), Cond.constant RX3 19 (-2000000001), Cond.fieldLink RX3 15 "Figurehouse$Sheet" "hides" "[Z", Cond.methodLink RX3 79 yX3_countHiddenInRow, Cond.instanceMethod yX3_countHiddenInRow, Cond.selects RX3 yX3_countHiddenInRow yX3_countHiddenInRow, Cond.code yX3_countHiddenInRow cX3_countHiddenInRow 6 (some .int), Cond.methodLink RX3 85 yX3_isHidden, Cond.instanceMethod yX3_isHidden, Cond.selects RX3 yX3_isHidden yX3_isHidden, Cond.code yX3_isHidden cX3_isHidden 2 (some .boolean), Cond.methodLink RX3 56 yX4_isRightIn, Cond.instanceMethod yX4_isRightIn, Cond.selects RX4 yX4_isRightIn yX4_isRightIn, Cond.initialized RX4, Cond.code yX4_isRightIn cX4_isRightIn 3 (some .boolean), Cond.fieldLink RX4 17 "Figurehouse$Tree" "size" "I"]
def wsX3_goThroughRows_r2 : List Cond := [Cond.fieldLink RX4 7 "Figurehouse$Tree" "outer" "[I", Cond.methodLink RX3 60 yX3_slotBeside, Cond.static yX3_slotBeside, Cond.code yX3_slotBeside cX3_slotBeside 4 (some .int), Cond.methodLink RX3 34 yX3_sumRightIn, Cond.instanceMethod yX3_sumRightIn, Cond.selects RX3 yX3_sumRightIn yX3_sumRightIn, Cond.code yX3_sumRightIn cX3_sumRightIn 8 (some .int), Cond.methodLink RX3 64 yX3_valueAt, Cond.instanceMethod yX3_valueAt, Cond.selects RX3 yX3_valueAt yX3_valueAt, Cond.code yX3_valueAt cX3_valueAt 2 (some .int), Cond.fieldLink RX3 9 "Figurehouse$Sheet" "values" "[I", Cond.methodLink RX3 82 yX3_nearestOpenSlot, Cond.instanceMethod yX3_nearestOpenSlot, Cond.selects RX3 yX3_nearestOpenSlot yX3_nearestOpenSlot, Cond.code yX3_nearestOpenSlot cX3_nearestOpenSlot 7 (some .int), Cond.methodLink RX3 89 Lib.Math.abs.name, Cond.static Lib.Math.abs.name, Cond.initialized "java/lang/Math", Cond.code Lib.Math.abs.name Lib.Math.abs.code 1 (some .int)]
def wsX3_goThroughRows : List Cond := .code yX3_goThroughRows cX3_goThroughRows 8 (some .boolean) :: ((wsX3_goThroughRows_r1 ++ wsX3_goThroughRows_r2) ++ wsX40 ++ wsX30)
def wsX3_hide_r1 : List Cond := [Cond.fieldLink RX3 15 "Figurehouse$Sheet" "hides" "[Z", Cond.fieldLink RX3 9 "Figurehouse$Sheet" "values" "[I", Cond.constant RX3 19 (-2000000001), Cond.methodLink RX3 71 yX3_goThroughRows, Cond.instanceMethod yX3_goThroughRows, Cond.selects RX3 yX3_goThroughRows yX3_goThroughRows, Cond.initialized RX3, Cond.code yX3_goThroughRows cX3_goThroughRows 8 (some .boolean), Cond.static yX5_slotOf, Cond.initialized RX5, Cond.code yX5_slotOf cX5_slotOf 2 (some .int), Cond.methodLink RX3 75 yX3_protectRow, Cond.instanceMethod yX3_protectRow, Cond.selects RX3 yX3_protectRow yX3_protectRow, Cond.code yX3_protectRow cX3_protectRow 4 (some .boolean), Cond.methodLink RX3 79 yX3_countHiddenInRow, Cond.instanceMethod yX3_countHiddenInRow, Cond.selects RX3 yX3_countHiddenInRow yX3_countHiddenInRow, Cond.code yX3_countHiddenInRow cX3_countHiddenInRow 6 (some .int), Cond.methodLink RX3 85 yX3_isHidden, Cond.instanceMethod yX3_isHidden, Cond.selects RX3 yX3_isHidden yX3_isHidden, Cond.code yX3_isHidden cX3_isHidden 2 (some .boolean), Cond.methodLink RX3 56 yX4_isRightIn]
def wsX3_hide_r2 : List Cond := [Cond.instanceMethod yX4_isRightIn, Cond.selects RX4 yX4_isRightIn yX4_isRightIn, Cond.initialized RX4, Cond.code yX4_isRightIn cX4_isRightIn 3 (some .boolean), Cond.fieldLink RX4 17 "Figurehouse$Tree" "size" "I", Cond.fieldLink RX4 7 "Figurehouse$Tree" "outer" "[I", Cond.methodLink RX3 60 yX3_slotBeside, Cond.static yX3_slotBeside, Cond.code yX3_slotBeside cX3_slotBeside 4 (some .int), Cond.methodLink RX3 34 yX3_sumRightIn, Cond.instanceMethod yX3_sumRightIn, Cond.selects RX3 yX3_sumRightIn yX3_sumRightIn, Cond.code yX3_sumRightIn cX3_sumRightIn 8 (some .int), Cond.methodLink RX3 64 yX3_valueAt, Cond.instanceMethod yX3_valueAt, Cond.selects RX3 yX3_valueAt yX3_valueAt, Cond.code yX3_valueAt cX3_valueAt 2 (some .int), Cond.methodLink RX3 82 yX3_nearestOpenSlot, Cond.instanceMethod yX3_nearestOpenSlot, Cond.selects RX3 yX3_nearestOpenSlot yX3_nearestOpenSlot, Cond.code yX3_nearestOpenSlot cX3_nearestOpenSlot 7 (some .int), Cond.methodLink RX3 89 Lib.Math.abs.name, Cond.static Lib.Math.abs.name, Cond.initialized "java/lang/Math"]
def wsX3_hide_r3 : List Cond := [Cond.code Lib.Math.abs.name Lib.Math.abs.code 1 (some .int)]
def wsX3_hide : List Cond := .code yX3_hide cX3_hide 9 none :: ((wsX3_hide_r1 ++ (wsX3_hide_r2 ++ wsX3_hide_r3)) ++ wsX30 ++ wsX40)
def wsX3_countHiddenSlots : List Cond := .code yX3_countHiddenSlots cX3_countHiddenSlots 3 (some .int) :: ([.fieldLink RX3 15 "Figurehouse$Sheet" "hides" "[Z"] ++ wsX30)
def wsX4_init : List Cond := .code yX4_init cX4_init 3 none :: ([.methodLink RX4 1 objectInit, .instanceMethod objectInit, .code objectInit ⟨#[0xb1]⟩ 1 none, .arrayClass .int, .fieldLink RX4 7 "Figurehouse$Tree" "outer" "[I", .fieldLink RX4 13 "Figurehouse$Tree" "stride" "I"] ++ wsX40)
def wsX4_isFull : List Cond := .code yX4_isFull cX4_isFull 1 (some .boolean) :: ([.fieldLink RX4 17 "Figurehouse$Tree" "size" "I", .fieldLink RX4 7 "Figurehouse$Tree" "outer" "[I"] ++ wsX40)
def wsX4_grow : List Cond := .code yX4_grow cX4_grow 3 (some .int) :: ([.fieldLink RX4 17 "Figurehouse$Tree" "size" "I", .fieldLink RX4 7 "Figurehouse$Tree" "outer" "[I"] ++ wsX40)
def wsX5_init_r1 : List Cond := [Cond.methodLink RX5 3 objectInit, Cond.instanceMethod objectInit, Cond.code objectInit ⟨#[0xb1]⟩ 1 none, Cond.classLink RX5 9 RX4, Cond.instantiable RX4 3, Cond.initialized RX4, Cond.fieldLink RX5 14 "Figurehouse" "areas" "LFigurehouse$Tree;", Cond.fieldLink RX5 18 "Figurehouse" "items" "LFigurehouse$Tree;", Cond.classLink RX5 21 RX0, Cond.instantiable RX0 1, Cond.initialized RX0, Cond.fieldLink RX5 24 "Figurehouse" "agreements" "LFigurehouse$Agreements;", Cond.classLink RX5 28 RX2, Cond.instantiable RX2 5, Cond.initialized RX2, Cond.fieldLink RX5 31 "Figurehouse" "draft" "LFigurehouse$Draft;", Cond.classLink RX5 35 RX1, Cond.instantiable RX1 8, Cond.initialized RX1, Cond.fieldLink RX5 38 "Figurehouse" "book" "LFigurehouse$Book;", Cond.classLink RX5 42 RX3, Cond.instantiable RX3 2, Cond.initialized RX3, Cond.fieldLink RX5 45 "Figurehouse" "sheet" "LFigurehouse$Sheet;"]
def wsX5_init_r2 : List Cond := [Cond.arrayClass .boolean, Cond.fieldLink RX5 49 "Figurehouse" "secrets" "[Z", Cond.arrayClass .int, Cond.fieldLink RX5 53 "Figurehouse" "refusals" "[I", Cond.methodLink RX5 11 yX4_init, Cond.instanceMethod yX4_init, Cond.code yX4_init cX4_init 3 none, Cond.methodLink RX4 1 objectInit, Cond.fieldLink RX4 7 "Figurehouse$Tree" "outer" "[I", Cond.fieldLink RX4 13 "Figurehouse$Tree" "stride" "I", Cond.instanceMethod yX0_init, Cond.code yX0_init cX0_init 1 none, Cond.methodLink RX0 3 objectInit, Cond.fieldLink RX0 9 "Figurehouse$Agreements" "isOn" "[Z", Cond.instanceMethod yX2_init, Cond.code yX2_init cX2_init 1 none, Cond.methodLink RX2 3 objectInit, Cond.fieldLink RX2 9 "Figurehouse$Draft" "whats" "[I", Cond.fieldLink RX2 15 "Figurehouse$Draft" "areas" "[I", Cond.fieldLink RX2 18 "Figurehouse$Draft" "cells" "[I", Cond.fieldLink RX2 21 "Figurehouse$Draft" "values" "[I", Cond.methodLink RX5 37 yX1_init, Cond.instanceMethod yX1_init, Cond.code yX1_init cX1_init 1 none]
def wsX5_init_r3 : List Cond := [Cond.methodLink RX1 3 objectInit, Cond.fieldLink RX1 9 "Figurehouse$Book" "latest" "[I", Cond.fieldLink RX1 15 "Figurehouse$Book" "earliest" "[I", Cond.fieldLink RX1 18 "Figurehouse$Book" "linesDone" "[I", Cond.fieldLink RX1 21 "Figurehouse$Book" "lastDay" "[I", Cond.fieldLink RX1 24 "Figurehouse$Book" "cells" "[I", Cond.fieldLink RX1 27 "Figurehouse$Book" "days" "[I", Cond.fieldLink RX1 30 "Figurehouse$Book" "figures" "[I", Cond.constant RX1 33 (-2000000001), Cond.methodLink RX1 34 yJ7_fill_53178, Cond.static yJ7_fill_53178, Cond.initialized RJ7, Cond.code yJ7_fill_53178 cJ7_fill_53178 4 none, Cond.instanceMethod yX3_init, Cond.code yX3_init cX3_init 1 none, Cond.methodLink RX3 3 objectInit, Cond.fieldLink RX3 9 "Figurehouse$Sheet" "values" "[I", Cond.fieldLink RX3 15 "Figurehouse$Sheet" "hides" "[Z"]
def wsX5_init : List Cond := .code yX5_init cX5_init 1 none :: ((wsX5_init_r1 ++ (wsX5_init_r2 ++ wsX5_init_r3)) ++ wsX40 ++ wsX50 ++ wsX00 ++ wsX20 ++ wsX10 ++ wsX30)
def wsX5_requirePattern : List Cond := .code yX5_requirePattern cX5_requirePattern 2 none :: ([.classLink RX5 129 "java/lang/IndexOutOfBoundsException", .initialized "java/lang/IndexOutOfBoundsException", .methodLink RX5 208 yX4_has, .instanceMethod yX4_has, .selects RX4 yX4_has yX4_has, .initialized RX4, .code yX4_has cX4_has 2 (some .boolean), .fieldLink RX4 17 "Figurehouse$Tree" "size" "I"] ++ wsX40 ++ (vx_atS RX5 133 "java/lang/IndexOutOfBoundsException" ["java/lang/RuntimeException", "java/lang/Exception"]).filter goodWord)
def wsX5_requireRoom : List Cond := .code yX5_requireRoom cX5_requireRoom 1 none :: ([.classLink RX5 99 "java/lang/IllegalStateException", .initialized "java/lang/IllegalStateException", .methodLink RX5 213 yX4_isFull, .instanceMethod yX4_isFull, .selects RX4 yX4_isFull yX4_isFull, .initialized RX4, .code yX4_isFull cX4_isFull 1 (some .boolean), .fieldLink RX4 17 "Figurehouse$Tree" "size" "I", .fieldLink RX4 7 "Figurehouse$Tree" "outer" "[I"] ++ wsX40 ++ (vx_atS RX5 103 "java/lang/IllegalStateException" ["java/lang/RuntimeException", "java/lang/Exception"]).filter goodWord)
def wsX5_area_r1 : List Cond := [Cond.fieldLink RX5 14 "Figurehouse" "areas" "LFigurehouse$Tree;", Cond.methodLink RX5 57 yX5_requirePattern, Cond.static yX5_requirePattern, Cond.initialized RX5, Cond.code yX5_requirePattern cX5_requirePattern 2 none, Cond.classLink RX5 129 "java/lang/IndexOutOfBoundsException", Cond.initialized "java/lang/IndexOutOfBoundsException", Cond.methodLink RX5 208 yX4_has, Cond.instanceMethod yX4_has, Cond.selects RX4 yX4_has yX4_has, Cond.initialized RX4, Cond.code yX4_has cX4_has 2 (some .boolean), Cond.fieldLink RX4 17 "Figurehouse$Tree" "size" "I", Cond.methodLink RX5 61 yX5_requireRoom, Cond.static yX5_requireRoom, Cond.code yX5_requireRoom cX5_requireRoom 1 none, Cond.classLink RX5 99 "java/lang/IllegalStateException", Cond.initialized "java/lang/IllegalStateException", Cond.methodLink RX5 213 yX4_isFull, Cond.instanceMethod yX4_isFull, Cond.selects RX4 yX4_isFull yX4_isFull, Cond.code yX4_isFull cX4_isFull 1 (some .boolean), Cond.fieldLink RX4 7 "Figurehouse$Tree" "outer" "[I", Cond.methodLink RX5 65 yX4_grow]
def wsX5_area_r2 : List Cond := [Cond.instanceMethod yX4_grow, Cond.selects RX4 yX4_grow yX4_grow, Cond.code yX4_grow cX4_grow 3 (some .int)]
def wsX5_area : List Cond := .code yX5_area cX5_area 2 (some .int) :: ((wsX5_area_r1 ++ wsX5_area_r2) ++ wsX50 ++ wsX40 ++ (vx_atS RX5 133 "java/lang/IndexOutOfBoundsException" ["java/lang/RuntimeException", "java/lang/Exception"]).filter goodWord ++ (vx_atS RX5 103 "java/lang/IllegalStateException" ["java/lang/RuntimeException", "java/lang/Exception"]).filter goodWord)
def wsX5_item_r1 : List Cond := [Cond.fieldLink RX5 18 "Figurehouse" "items" "LFigurehouse$Tree;", Cond.methodLink RX5 57 yX5_requirePattern, Cond.static yX5_requirePattern, Cond.initialized RX5, Cond.code yX5_requirePattern cX5_requirePattern 2 none, Cond.classLink RX5 129 "java/lang/IndexOutOfBoundsException", Cond.initialized "java/lang/IndexOutOfBoundsException", Cond.methodLink RX5 208 yX4_has, Cond.instanceMethod yX4_has, Cond.selects RX4 yX4_has yX4_has, Cond.initialized RX4, Cond.code yX4_has cX4_has 2 (some .boolean), Cond.fieldLink RX4 17 "Figurehouse$Tree" "size" "I", Cond.methodLink RX5 61 yX5_requireRoom, Cond.static yX5_requireRoom, Cond.code yX5_requireRoom cX5_requireRoom 1 none, Cond.classLink RX5 99 "java/lang/IllegalStateException", Cond.initialized "java/lang/IllegalStateException", Cond.methodLink RX5 213 yX4_isFull, Cond.instanceMethod yX4_isFull, Cond.selects RX4 yX4_isFull yX4_isFull, Cond.code yX4_isFull cX4_isFull 1 (some .boolean), Cond.fieldLink RX4 7 "Figurehouse$Tree" "outer" "[I", Cond.methodLink RX5 65 yX4_grow]
def wsX5_item_r2 : List Cond := [Cond.instanceMethod yX4_grow, Cond.selects RX4 yX4_grow yX4_grow, Cond.code yX4_grow cX4_grow 3 (some .int)]
def wsX5_item : List Cond := .code yX5_item cX5_item 2 (some .int) :: ((wsX5_item_r1 ++ wsX5_item_r2) ++ wsX50 ++ wsX40 ++ (vx_atS RX5 133 "java/lang/IndexOutOfBoundsException" ["java/lang/RuntimeException", "java/lang/Exception"]).filter goodWord ++ (vx_atS RX5 103 "java/lang/IllegalStateException" ["java/lang/RuntimeException", "java/lang/Exception"]).filter goodWord)
def wsX5_requireSender : List Cond := .code yX5_requireSender cX5_requireSender 1 none :: ([.classLink RX5 129 "java/lang/IndexOutOfBoundsException", .initialized "java/lang/IndexOutOfBoundsException"] ++ (vx_atS RX5 133 "java/lang/IndexOutOfBoundsException" ["java/lang/RuntimeException", "java/lang/Exception"]).filter goodWord)
def wsX5_requireArea : List Cond := .code yX5_requireArea cX5_requireArea 2 none :: ([.classLink RX5 129 "java/lang/IndexOutOfBoundsException", .initialized "java/lang/IndexOutOfBoundsException", .fieldLink RX5 14 "Figurehouse" "areas" "LFigurehouse$Tree;", .methodLink RX5 208 yX4_has, .instanceMethod yX4_has, .selects RX4 yX4_has yX4_has, .initialized RX4, .code yX4_has cX4_has 2 (some .boolean), .fieldLink RX4 17 "Figurehouse$Tree" "size" "I"] ++ wsX50 ++ wsX40 ++ (vx_atS RX5 133 "java/lang/IndexOutOfBoundsException" ["java/lang/RuntimeException", "java/lang/Exception"]).filter goodWord)
def wsX5_agree : List Cond := .code yX5_agree cX5_agree 4 (some .boolean) :: ([.fieldLink RX5 24 "Figurehouse" "agreements" "LFigurehouse$Agreements;", .methodLink RX5 69 yX5_requireSender, .static yX5_requireSender, .initialized RX5, .code yX5_requireSender cX5_requireSender 1 none, .classLink RX5 129 "java/lang/IndexOutOfBoundsException", .initialized "java/lang/IndexOutOfBoundsException", .methodLink RX5 73 yX5_requireArea, .instanceMethod yX5_requireArea, .selects RX5 yX5_requireArea yX5_requireArea, .code yX5_requireArea cX5_requireArea 2 none, .fieldLink RX5 14 "Figurehouse" "areas" "LFigurehouse$Tree;", .methodLink RX5 208 yX4_has, .instanceMethod yX4_has, .selects RX4 yX4_has yX4_has, .initialized RX4, .code yX4_has cX4_has 2 (some .boolean), .fieldLink RX4 17 "Figurehouse$Tree" "size" "I", .methodLink RX5 76 yX0_change, .instanceMethod yX0_change, .selects RX0 yX0_change yX0_change, .initialized RX0, .code yX0_change cX0_change 6 (some .boolean), .fieldLink RX0 9 "Figurehouse$Agreements" "isOn" "[Z"] ++ wsX50 ++ wsX40 ++ wsX00 ++ (vx_atS RX5 133 "java/lang/IndexOutOfBoundsException" ["java/lang/RuntimeException", "java/lang/Exception"]).filter goodWord)
def wsX5_isPeriod : List Cond := .code yX5_isPeriod cX5_isPeriod 1 (some .boolean) :: ([])
def wsX5_cellOf : List Cond := .code yX5_cellOf cX5_cellOf 3 (some .int) :: ([.methodLink RX5 158 yX5_slotOf, .static yX5_slotOf, .initialized RX5, .code yX5_slotOf cX5_slotOf 2 (some .int)])
def wsX5_requireCell : List Cond := .code yX5_requireCell cX5_requireCell 4 (some .int) :: ([.classLink RX5 129 "java/lang/IndexOutOfBoundsException", .initialized "java/lang/IndexOutOfBoundsException", .fieldLink RX5 14 "Figurehouse" "areas" "LFigurehouse$Tree;", .fieldLink RX5 18 "Figurehouse" "items" "LFigurehouse$Tree;", .methodLink RX5 208 yX4_has, .instanceMethod yX4_has, .selects RX4 yX4_has yX4_has, .initialized RX4, .code yX4_has cX4_has 2 (some .boolean), .fieldLink RX4 17 "Figurehouse$Tree" "size" "I", .methodLink RX5 187 yX5_isPeriod, .static yX5_isPeriod, .initialized RX5, .code yX5_isPeriod cX5_isPeriod 1 (some .boolean), .methodLink RX5 220 yX5_cellOf, .static yX5_cellOf, .code yX5_cellOf cX5_cellOf 3 (some .int), .methodLink RX5 158 yX5_slotOf, .static yX5_slotOf, .code yX5_slotOf cX5_slotOf 2 (some .int)] ++ wsX50 ++ wsX40 ++ (vx_atS RX5 133 "java/lang/IndexOutOfBoundsException" ["java/lang/RuntimeException", "java/lang/Exception"]).filter goodWord)
def wsX5_put_r1 : List Cond := [Cond.classLink RX5 84 "java/lang/IllegalArgumentException", Cond.initialized "java/lang/IllegalArgumentException", Cond.classLink RX5 99 "java/lang/IllegalStateException", Cond.initialized "java/lang/IllegalStateException", Cond.constant RX5 91 (-1000000), Cond.constant RX5 92 (1000000), Cond.fieldLink RX5 31 "Figurehouse" "draft" "LFigurehouse$Draft;", Cond.methodLink RX5 80 yX5_requireCell, Cond.instanceMethod yX5_requireCell, Cond.selects RX5 yX5_requireCell yX5_requireCell, Cond.initialized RX5, Cond.code yX5_requireCell cX5_requireCell 4 (some .int), Cond.classLink RX5 129 "java/lang/IndexOutOfBoundsException", Cond.initialized "java/lang/IndexOutOfBoundsException", Cond.fieldLink RX5 14 "Figurehouse" "areas" "LFigurehouse$Tree;", Cond.fieldLink RX5 18 "Figurehouse" "items" "LFigurehouse$Tree;", Cond.methodLink RX5 208 yX4_has, Cond.instanceMethod yX4_has, Cond.selects RX4 yX4_has yX4_has, Cond.initialized RX4, Cond.code yX4_has cX4_has 2 (some .boolean), Cond.fieldLink RX4 17 "Figurehouse$Tree" "size" "I", Cond.methodLink RX5 187 yX5_isPeriod, Cond.static yX5_isPeriod]
def wsX5_put_r2 : List Cond := [Cond.code yX5_isPeriod cX5_isPeriod 1 (some .boolean), Cond.methodLink RX5 220 yX5_cellOf, Cond.static yX5_cellOf, Cond.code yX5_cellOf cX5_cellOf 3 (some .int), Cond.methodLink RX5 158 yX5_slotOf, Cond.static yX5_slotOf, Cond.code yX5_slotOf cX5_slotOf 2 (some .int), Cond.methodLink RX5 95 yX2_isFull, Cond.instanceMethod yX2_isFull, Cond.selects RX2 yX2_isFull yX2_isFull, Cond.initialized RX2, Cond.code yX2_isFull cX2_isFull 1 (some .boolean), Cond.fieldLink RX2 24 "Figurehouse$Draft" "size" "I", Cond.methodLink RX5 104 yX2_append, Cond.instanceMethod yX2_append, Cond.selects RX2 yX2_append yX2_append, Cond.code yX2_append cX2_append 5 (some .int), Cond.fieldLink RX2 9 "Figurehouse$Draft" "whats" "[I", Cond.fieldLink RX2 15 "Figurehouse$Draft" "areas" "[I", Cond.fieldLink RX2 18 "Figurehouse$Draft" "cells" "[I", Cond.fieldLink RX2 21 "Figurehouse$Draft" "values" "[I"]
def wsX5_put : List Cond := .code yX5_put cX5_put 7 (some .int) :: ((wsX5_put_r1 ++ wsX5_put_r2) ++ wsX50 ++ wsX40 ++ wsX20 ++ (vx_atS RX5 88 "java/lang/IllegalArgumentException" ["java/lang/RuntimeException", "java/lang/Exception"]).filter goodWord ++ (vx_atS RX5 103 "java/lang/IllegalStateException" ["java/lang/RuntimeException", "java/lang/Exception"]).filter goodWord ++ (vx_atS RX5 133 "java/lang/IndexOutOfBoundsException" ["java/lang/RuntimeException", "java/lang/Exception"]).filter goodWord)
def wsX5_wipe : List Cond := .code yX5_wipe cX5_wipe 1 (some .int) :: ([.fieldLink RX5 31 "Figurehouse" "draft" "LFigurehouse$Draft;", .methodLink RX5 108 yX2_clear, .instanceMethod yX2_clear, .selects RX2 yX2_clear yX2_clear, .initialized RX2, .code yX2_clear cX2_clear 2 (some .int), .fieldLink RX2 24 "Figurehouse$Draft" "size" "I"] ++ wsX50 ++ wsX20)
def wsX5_judge : List Cond := .code yX5_judge cX5_judge 5 (some .int) :: ([.fieldLink RX5 24 "Figurehouse" "agreements" "LFigurehouse$Agreements;", .fieldLink RX5 31 "Figurehouse" "draft" "LFigurehouse$Draft;", .fieldLink RX5 14 "Figurehouse" "areas" "LFigurehouse$Tree;", .fieldLink RX5 38 "Figurehouse" "book" "LFigurehouse$Book;", .constant RX5 173 (-2000000001), .methodLink RX5 202 yX0_cover, .instanceMethod yX0_cover, .selects RX0 yX0_cover yX0_cover, .initialized RX0, .code yX0_cover cX0_cover 5 (some .boolean), .fieldLink RX0 9 "Figurehouse$Agreements" "isOn" "[Z", .methodLink RX0 21 yX4_isWithin, .instanceMethod yX4_isWithin, .selects RX4 yX4_isWithin yX4_isWithin, .initialized RX4, .code yX4_isWithin cX4_isWithin 5 (some .boolean), .fieldLink RX4 17 "Figurehouse$Tree" "size" "I", .fieldLink RX4 7 "Figurehouse$Tree" "outer" "[I", .methodLink RX4 20 yX4_has, .instanceMethod yX4_has, .selects RX4 yX4_has yX4_has, .code yX4_has cX4_has 2 (some .boolean)] ++ wsX50 ++ wsX20 ++ wsX10 ++ wsX40 ++ wsX00)
def wsX5_judgeDraft_r1 : List Cond := [Cond.fieldLink RX5 31 "Figurehouse" "draft" "LFigurehouse$Draft;", Cond.fieldLink RX5 53 "Figurehouse" "refusals" "[I", Cond.fieldLink RX5 38 "Figurehouse" "book" "LFigurehouse$Book;", Cond.fieldLink RX5 142 "Figurehouse" "today" "I", Cond.fieldLink RX5 126 "Figurehouse" "judgedLines" "I", Cond.methodLink RX5 225 yX5_judge, Cond.instanceMethod yX5_judge, Cond.selects RX5 yX5_judge yX5_judge, Cond.initialized RX5, Cond.code yX5_judge cX5_judge 5 (some .int), Cond.fieldLink RX5 24 "Figurehouse" "agreements" "LFigurehouse$Agreements;", Cond.fieldLink RX5 14 "Figurehouse" "areas" "LFigurehouse$Tree;", Cond.constant RX5 173 (-2000000001), Cond.methodLink RX5 202 yX0_cover, Cond.instanceMethod yX0_cover, Cond.selects RX0 yX0_cover yX0_cover, Cond.initialized RX0, Cond.code yX0_cover cX0_cover 5 (some .boolean), Cond.fieldLink RX0 9 "Figurehouse$Agreements" "isOn" "[Z", Cond.methodLink RX0 21 yX4_isWithin, Cond.instanceMethod yX4_isWithin, Cond.selects RX4 yX4_isWithin yX4_isWithin, Cond.initialized RX4, Cond.code yX4_isWithin cX4_isWithin 5 (some .boolean)]
def wsX5_judgeDraft_r2 : List Cond := [Cond.fieldLink RX4 17 "Figurehouse$Tree" "size" "I", Cond.fieldLink RX4 7 "Figurehouse$Tree" "outer" "[I", Cond.methodLink RX4 20 yX4_has, Cond.instanceMethod yX4_has, Cond.selects RX4 yX4_has yX4_has, Cond.code yX4_has cX4_has 2 (some .boolean), Cond.methodLink RX5 231 yX2_figureBehind, Cond.instanceMethod yX2_figureBehind, Cond.selects RX2 yX2_figureBehind yX2_figureBehind, Cond.initialized RX2, Cond.code yX2_figureBehind cX2_figureBehind 2 (some .int), Cond.fieldLink RX2 9 "Figurehouse$Draft" "whats" "[I", Cond.constant RX2 28 (-2000000001), Cond.fieldLink RX2 21 "Figurehouse$Draft" "values" "[I", Cond.methodLink RX5 234 yX1_enter, Cond.instanceMethod yX1_enter, Cond.selects RX1 yX1_enter yX1_enter, Cond.initialized RX1, Cond.code yX1_enter cX1_enter 4 none, Cond.fieldLink RX1 40 "Figurehouse$Book" "size" "I", Cond.fieldLink RX1 24 "Figurehouse$Book" "cells" "[I", Cond.fieldLink RX1 27 "Figurehouse$Book" "days" "[I", Cond.fieldLink RX1 30 "Figurehouse$Book" "figures" "[I", Cond.fieldLink RX1 18 "Figurehouse$Book" "linesDone" "[I"]
def wsX5_judgeDraft_r3 : List Cond := [Cond.fieldLink RX1 15 "Figurehouse$Book" "earliest" "[I", Cond.fieldLink RX1 9 "Figurehouse$Book" "latest" "[I", Cond.fieldLink RX1 21 "Figurehouse$Book" "lastDay" "[I"]
def wsX5_judgeDraft : List Cond := .code yX5_judgeDraft cX5_judgeDraft 5 (some .int) :: ((wsX5_judgeDraft_r1 ++ (wsX5_judgeDraft_r2 ++ wsX5_judgeDraft_r3)) ++ wsX50 ++ wsX20 ++ wsX10 ++ wsX40 ++ wsX00)
def wsX5_send_r1 : List Cond := [Cond.classLink RX5 99 "java/lang/IllegalStateException", Cond.initialized "java/lang/IllegalStateException", Cond.fieldLink RX5 31 "Figurehouse" "draft" "LFigurehouse$Draft;", Cond.fieldLink RX5 118 "Figurehouse" "sentLines" "I", Cond.methodLink RX5 69 yX5_requireSender, Cond.static yX5_requireSender, Cond.initialized RX5, Cond.code yX5_requireSender cX5_requireSender 1 none, Cond.classLink RX5 129 "java/lang/IndexOutOfBoundsException", Cond.initialized "java/lang/IndexOutOfBoundsException", Cond.methodLink RX5 123 yX5_judgeDraft, Cond.instanceMethod yX5_judgeDraft, Cond.selects RX5 yX5_judgeDraft yX5_judgeDraft, Cond.code yX5_judgeDraft cX5_judgeDraft 5 (some .int), Cond.fieldLink RX5 53 "Figurehouse" "refusals" "[I", Cond.fieldLink RX5 38 "Figurehouse" "book" "LFigurehouse$Book;", Cond.fieldLink RX5 142 "Figurehouse" "today" "I", Cond.fieldLink RX5 126 "Figurehouse" "judgedLines" "I", Cond.methodLink RX5 225 yX5_judge, Cond.instanceMethod yX5_judge, Cond.selects RX5 yX5_judge yX5_judge, Cond.code yX5_judge cX5_judge 5 (some .int), Cond.fieldLink RX5 24 "Figurehouse" "agreements" "LFigurehouse$Agreements;", Cond.fieldLink RX5 14 "Figurehouse" "areas" "LFigurehouse$Tree;"]
def wsX5_send_r2 : List Cond := [Cond.constant RX5 173 (-2000000001), Cond.methodLink RX5 202 yX0_cover, Cond.instanceMethod yX0_cover, Cond.selects RX0 yX0_cover yX0_cover, Cond.initialized RX0, Cond.code yX0_cover cX0_cover 5 (some .boolean), Cond.fieldLink RX0 9 "Figurehouse$Agreements" "isOn" "[Z", Cond.methodLink RX0 21 yX4_isWithin, Cond.instanceMethod yX4_isWithin, Cond.selects RX4 yX4_isWithin yX4_isWithin, Cond.initialized RX4, Cond.code yX4_isWithin cX4_isWithin 5 (some .boolean), Cond.fieldLink RX4 17 "Figurehouse$Tree" "size" "I", Cond.fieldLink RX4 7 "Figurehouse$Tree" "outer" "[I", Cond.methodLink RX4 20 yX4_has, Cond.instanceMethod yX4_has, Cond.selects RX4 yX4_has yX4_has, Cond.code yX4_has cX4_has 2 (some .boolean), Cond.methodLink RX5 231 yX2_figureBehind, Cond.instanceMethod yX2_figureBehind, Cond.selects RX2 yX2_figureBehind yX2_figureBehind, Cond.initialized RX2, Cond.code yX2_figureBehind cX2_figureBehind 2 (some .int), Cond.fieldLink RX2 9 "Figurehouse$Draft" "whats" "[I"]
def wsX5_send_r3 : List Cond := [Cond.constant RX2 28 (-2000000001), Cond.fieldLink RX2 21 "Figurehouse$Draft" "values" "[I", Cond.methodLink RX5 234 yX1_enter, Cond.instanceMethod yX1_enter, Cond.selects RX1 yX1_enter yX1_enter, Cond.initialized RX1, Cond.code yX1_enter cX1_enter 4 none, Cond.fieldLink RX1 40 "Figurehouse$Book" "size" "I", Cond.fieldLink RX1 24 "Figurehouse$Book" "cells" "[I", Cond.fieldLink RX1 27 "Figurehouse$Book" "days" "[I", Cond.fieldLink RX1 30 "Figurehouse$Book" "figures" "[I", Cond.fieldLink RX1 18 "Figurehouse$Book" "linesDone" "[I", Cond.fieldLink RX1 15 "Figurehouse$Book" "earliest" "[I", Cond.fieldLink RX1 9 "Figurehouse$Book" "latest" "[I", Cond.fieldLink RX1 21 "Figurehouse$Book" "lastDay" "[I", Cond.methodLink RX5 108 yX2_clear, Cond.instanceMethod yX2_clear, Cond.selects RX2 yX2_clear yX2_clear, Cond.code yX2_clear cX2_clear 2 (some .int), Cond.fieldLink RX2 24 "Figurehouse$Draft" "size" "I"]
def wsX5_send : List Cond := .code yX5_send cX5_send 4 (some .int) :: ((wsX5_send_r1 ++ (wsX5_send_r2 ++ wsX5_send_r3)) ++ wsX50 ++ wsX20 ++ wsX10 ++ wsX40 ++ wsX00 ++ (vx_atS RX5 103 "java/lang/IllegalStateException" ["java/lang/RuntimeException", "java/lang/Exception"]).filter goodWord ++ (vx_atS RX5 133 "java/lang/IndexOutOfBoundsException" ["java/lang/RuntimeException", "java/lang/Exception"]).filter goodWord)
def wsX5_refusal : List Cond := .code yX5_refusal cX5_refusal 2 (some .int) :: ([.classLink RX5 129 "java/lang/IndexOutOfBoundsException", .initialized "java/lang/IndexOutOfBoundsException", .fieldLink RX5 126 "Figurehouse" "judgedLines" "I", .fieldLink RX5 53 "Figurehouse" "refusals" "[I"] ++ wsX50 ++ (vx_atS RX5 133 "java/lang/IndexOutOfBoundsException" ["java/lang/RuntimeException", "java/lang/Exception"]).filter goodWord)
def wsX5_loadHidden_r1 : List Cond := [Cond.fieldLink RX5 45 "Figurehouse" "sheet" "LFigurehouse$Sheet;", Cond.fieldLink RX5 38 "Figurehouse" "book" "LFigurehouse$Book;", Cond.fieldLink RX5 142 "Figurehouse" "today" "I", Cond.fieldLink RX5 14 "Figurehouse" "areas" "LFigurehouse$Tree;", Cond.fieldLink RX5 18 "Figurehouse" "items" "LFigurehouse$Tree;", Cond.fieldLink RX5 49 "Figurehouse" "secrets" "[Z", Cond.methodLink RX5 154 yX3_load, Cond.instanceMethod yX3_load, Cond.selects RX3 yX3_load yX3_load, Cond.initialized RX3, Cond.code yX3_load cX3_load 9 none, Cond.fieldLink RX3 9 "Figurehouse$Sheet" "values" "[I", Cond.constant RX3 19 (-2000000001), Cond.methodLink RX3 20 yX3_loadFigures, Cond.instanceMethod yX3_loadFigures, Cond.selects RX3 yX3_loadFigures yX3_loadFigures, Cond.code yX3_loadFigures cX3_loadFigures 6 none, Cond.methodLink RX3 38 yJ7_fill_53178, Cond.static yJ7_fill_53178, Cond.initialized RJ7, Cond.code yJ7_fill_53178 cJ7_fill_53178 4 none, Cond.static yX5_slotOf, Cond.initialized RX5, Cond.code yX5_slotOf cX5_slotOf 2 (some .int)]
def wsX5_loadHidden_r2 : List Cond := [Cond.methodLink RX3 34 yX3_sumRightIn, Cond.instanceMethod yX3_sumRightIn, Cond.selects RX3 yX3_sumRightIn yX3_sumRightIn, Cond.code yX3_sumRightIn cX3_sumRightIn 8 (some .int), Cond.methodLink RX3 56 yX4_isRightIn, Cond.instanceMethod yX4_isRightIn, Cond.selects RX4 yX4_isRightIn yX4_isRightIn, Cond.initialized RX4, Cond.code yX4_isRightIn cX4_isRightIn 3 (some .boolean), Cond.fieldLink RX4 17 "Figurehouse$Tree" "size" "I", Cond.fieldLink RX4 7 "Figurehouse$Tree" "outer" "[I", Cond.methodLink RX3 60 yX3_slotBeside, Cond.static yX3_slotBeside, Cond.code yX3_slotBeside cX3_slotBeside 4 (some .int), Cond.methodLink RX3 64 yX3_valueAt, Cond.instanceMethod yX3_valueAt, Cond.selects RX3 yX3_valueAt yX3_valueAt, Cond.code yX3_valueAt cX3_valueAt 2 (some .int), Cond.methodLink RX5 246 yX3_hide, Cond.instanceMethod yX3_hide, Cond.selects RX3 yX3_hide yX3_hide, Cond.code yX3_hide cX3_hide 9 none, Cond.fieldLink RX3 15 "Figurehouse$Sheet" "hides" "[Z", Cond.methodLink RX3 71 yX3_goThroughRows]
def wsX5_loadHidden_r3 : List Cond := [Cond.instanceMethod yX3_goThroughRows, Cond.selects RX3 yX3_goThroughRows yX3_goThroughRows, Cond.code yX3_goThroughRows cX3_goThroughRows 8 (some .boolean), Cond.methodLink RX3 75 yX3_protectRow, Cond.instanceMethod yX3_protectRow, Cond.selects RX3 yX3_protectRow yX3_protectRow, Cond.code yX3_protectRow cX3_protectRow 4 (some .boolean), Cond.methodLink RX3 79 yX3_countHiddenInRow, Cond.instanceMethod yX3_countHiddenInRow, Cond.selects RX3 yX3_countHiddenInRow yX3_countHiddenInRow, Cond.code yX3_countHiddenInRow cX3_countHiddenInRow 6 (some .int), Cond.methodLink RX3 85 yX3_isHidden, Cond.instanceMethod yX3_isHidden, Cond.selects RX3 yX3_isHidden yX3_isHidden, Cond.code yX3_isHidden cX3_isHidden 2 (some .boolean), Cond.methodLink RX3 82 yX3_nearestOpenSlot, Cond.instanceMethod yX3_nearestOpenSlot, Cond.selects RX3 yX3_nearestOpenSlot yX3_nearestOpenSlot, Cond.code yX3_nearestOpenSlot cX3_nearestOpenSlot 7 (some .int), Cond.methodLink RX3 89 Lib.Math.abs.name, Cond.static Lib.Math.abs.name, Cond.initialized "java/lang/Math", Cond.code Lib.Math.abs.name Lib.Math.abs.code 1 (some .int)]
def wsX5_loadHidden : List Cond := .code yX5_loadHidden cX5_loadHidden 2 none :: ((wsX5_loadHidden_r1 ++ (wsX5_loadHidden_r2 ++ wsX5_loadHidden_r3)) ++ wsX50 ++ wsX40 ++ wsX30 ++ wsX10)
def wsX5_secret_r1 : List Cond := [Cond.fieldLink RX5 49 "Figurehouse" "secrets" "[Z", Cond.fieldLink RX5 45 "Figurehouse" "sheet" "LFigurehouse$Sheet;", Cond.methodLink RX5 80 yX5_requireCell, Cond.instanceMethod yX5_requireCell, Cond.selects RX5 yX5_requireCell yX5_requireCell, Cond.initialized RX5, Cond.code yX5_requireCell cX5_requireCell 4 (some .int), Cond.classLink RX5 129 "java/lang/IndexOutOfBoundsException", Cond.initialized "java/lang/IndexOutOfBoundsException", Cond.fieldLink RX5 14 "Figurehouse" "areas" "LFigurehouse$Tree;", Cond.fieldLink RX5 18 "Figurehouse" "items" "LFigurehouse$Tree;", Cond.methodLink RX5 208 yX4_has, Cond.instanceMethod yX4_has, Cond.selects RX4 yX4_has yX4_has, Cond.initialized RX4, Cond.code yX4_has cX4_has 2 (some .boolean), Cond.fieldLink RX4 17 "Figurehouse$Tree" "size" "I", Cond.methodLink RX5 187 yX5_isPeriod, Cond.static yX5_isPeriod, Cond.code yX5_isPeriod cX5_isPeriod 1 (some .boolean), Cond.methodLink RX5 220 yX5_cellOf, Cond.static yX5_cellOf, Cond.code yX5_cellOf cX5_cellOf 3 (some .int), Cond.methodLink RX5 158 yX5_slotOf]
def wsX5_secret_r2 : List Cond := [Cond.static yX5_slotOf, Cond.code yX5_slotOf cX5_slotOf 2 (some .int), Cond.methodLink RX5 134 yX5_loadHidden, Cond.instanceMethod yX5_loadHidden, Cond.selects RX5 yX5_loadHidden yX5_loadHidden, Cond.code yX5_loadHidden cX5_loadHidden 2 none, Cond.fieldLink RX5 38 "Figurehouse" "book" "LFigurehouse$Book;", Cond.fieldLink RX5 142 "Figurehouse" "today" "I", Cond.methodLink RX5 154 yX3_load, Cond.instanceMethod yX3_load, Cond.selects RX3 yX3_load yX3_load, Cond.initialized RX3, Cond.code yX3_load cX3_load 9 none, Cond.fieldLink RX3 9 "Figurehouse$Sheet" "values" "[I", Cond.constant RX3 19 (-2000000001), Cond.methodLink RX3 20 yX3_loadFigures, Cond.instanceMethod yX3_loadFigures, Cond.selects RX3 yX3_loadFigures yX3_loadFigures, Cond.code yX3_loadFigures cX3_loadFigures 6 none, Cond.methodLink RX3 38 yJ7_fill_53178, Cond.static yJ7_fill_53178, Cond.initialized RJ7, Cond.code yJ7_fill_53178 cJ7_fill_53178 4 none, Cond.methodLink RX3 34 yX3_sumRightIn]
def wsX5_secret_r3 : List Cond := [Cond.instanceMethod yX3_sumRightIn, Cond.selects RX3 yX3_sumRightIn yX3_sumRightIn, Cond.code yX3_sumRightIn cX3_sumRightIn 8 (some .int), Cond.methodLink RX3 56 yX4_isRightIn, Cond.instanceMethod yX4_isRightIn, Cond.selects RX4 yX4_isRightIn yX4_isRightIn, Cond.code yX4_isRightIn cX4_isRightIn 3 (some .boolean), Cond.fieldLink RX4 7 "Figurehouse$Tree" "outer" "[I", Cond.methodLink RX3 60 yX3_slotBeside, Cond.static yX3_slotBeside, Cond.code yX3_slotBeside cX3_slotBeside 4 (some .int), Cond.methodLink RX3 64 yX3_valueAt, Cond.instanceMethod yX3_valueAt, Cond.selects RX3 yX3_valueAt yX3_valueAt, Cond.code yX3_valueAt cX3_valueAt 2 (some .int), Cond.methodLink RX5 246 yX3_hide, Cond.instanceMethod yX3_hide, Cond.selects RX3 yX3_hide yX3_hide, Cond.code yX3_hide cX3_hide 9 none, Cond.fieldLink RX3 15 "Figurehouse$Sheet" "hides" "[Z", Cond.methodLink RX3 71 yX3_goThroughRows, Cond.instanceMethod yX3_goThroughRows, Cond.selects RX3 yX3_goThroughRows yX3_goThroughRows, Cond.code yX3_goThroughRows cX3_goThroughRows 8 (some .boolean)]
def wsX5_secret_r4 : List Cond := [Cond.methodLink RX3 75 yX3_protectRow, Cond.instanceMethod yX3_protectRow, Cond.selects RX3 yX3_protectRow yX3_protectRow, Cond.code yX3_protectRow cX3_protectRow 4 (some .boolean), Cond.methodLink RX3 79 yX3_countHiddenInRow, Cond.instanceMethod yX3_countHiddenInRow, Cond.selects RX3 yX3_countHiddenInRow yX3_countHiddenInRow, Cond.code yX3_countHiddenInRow cX3_countHiddenInRow 6 (some .int), Cond.methodLink RX3 85 yX3_isHidden, Cond.instanceMethod yX3_isHidden, Cond.selects RX3 yX3_isHidden yX3_isHidden, Cond.code yX3_isHidden cX3_isHidden 2 (some .boolean), Cond.methodLink RX3 82 yX3_nearestOpenSlot, Cond.instanceMethod yX3_nearestOpenSlot, Cond.selects RX3 yX3_nearestOpenSlot yX3_nearestOpenSlot, Cond.code yX3_nearestOpenSlot cX3_nearestOpenSlot 7 (some .int), Cond.methodLink RX3 89 Lib.Math.abs.name, Cond.static Lib.Math.abs.name, Cond.initialized "java/lang/Math", Cond.code Lib.Math.abs.name Lib.Math.abs.code 1 (some .int), Cond.methodLink RX5 137 yX3_countHiddenSlots, Cond.instanceMethod yX3_countHiddenSlots, Cond.selects RX3 yX3_countHiddenSlots yX3_countHiddenSlots, Cond.code yX3_countHiddenSlots cX3_countHiddenSlots 3 (some .int)]
def wsX5_secret : List Cond := .code yX5_secret cX5_secret 6 (some .int) :: ((wsX5_secret_r1 ++ (wsX5_secret_r2 ++ (wsX5_secret_r3 ++ wsX5_secret_r4))) ++ wsX50 ++ wsX40 ++ wsX30 ++ wsX10 ++ (vx_atS RX5 133 "java/lang/IndexOutOfBoundsException" ["java/lang/RuntimeException", "java/lang/Exception"]).filter goodWord)
def wsX5_pass : List Cond := .code yX5_pass cX5_pass 2 (some .int) :: ([.classLink RX5 84 "java/lang/IllegalArgumentException", .initialized "java/lang/IllegalArgumentException", .classLink RX5 99 "java/lang/IllegalStateException", .initialized "java/lang/IllegalStateException", .fieldLink RX5 142 "Figurehouse" "today" "I"] ++ wsX50 ++ (vx_atS RX5 88 "java/lang/IllegalArgumentException" ["java/lang/RuntimeException", "java/lang/Exception"]).filter goodWord ++ (vx_atS RX5 103 "java/lang/IllegalStateException" ["java/lang/RuntimeException", "java/lang/Exception"]).filter goodWord)
def wsX5_requireDay : List Cond := .code yX5_requireDay cX5_requireDay 2 none :: ([.classLink RX5 84 "java/lang/IllegalArgumentException", .initialized "java/lang/IllegalArgumentException", .fieldLink RX5 142 "Figurehouse" "today" "I"] ++ wsX50 ++ (vx_atS RX5 88 "java/lang/IllegalArgumentException" ["java/lang/RuntimeException", "java/lang/Exception"]).filter goodWord)
def wsX5_figure_r1 : List Cond := [Cond.fieldLink RX5 38 "Figurehouse" "book" "LFigurehouse$Book;", Cond.methodLink RX5 80 yX5_requireCell, Cond.instanceMethod yX5_requireCell, Cond.selects RX5 yX5_requireCell yX5_requireCell, Cond.initialized RX5, Cond.code yX5_requireCell cX5_requireCell 4 (some .int), Cond.classLink RX5 129 "java/lang/IndexOutOfBoundsException", Cond.initialized "java/lang/IndexOutOfBoundsException", Cond.fieldLink RX5 14 "Figurehouse" "areas" "LFigurehouse$Tree;", Cond.fieldLink RX5 18 "Figurehouse" "items" "LFigurehouse$Tree;", Cond.methodLink RX5 208 yX4_has, Cond.instanceMethod yX4_has, Cond.selects RX4 yX4_has yX4_has, Cond.initialized RX4, Cond.code yX4_has cX4_has 2 (some .boolean), Cond.fieldLink RX4 17 "Figurehouse$Tree" "size" "I", Cond.methodLink RX5 187 yX5_isPeriod, Cond.static yX5_isPeriod, Cond.code yX5_isPeriod cX5_isPeriod 1 (some .boolean), Cond.methodLink RX5 220 yX5_cellOf, Cond.static yX5_cellOf, Cond.code yX5_cellOf cX5_cellOf 3 (some .int), Cond.methodLink RX5 158 yX5_slotOf, Cond.static yX5_slotOf]
def wsX5_figure_r2 : List Cond := [Cond.code yX5_slotOf cX5_slotOf 2 (some .int), Cond.methodLink RX5 147 yX5_requireDay, Cond.instanceMethod yX5_requireDay, Cond.selects RX5 yX5_requireDay yX5_requireDay, Cond.code yX5_requireDay cX5_requireDay 2 none, Cond.classLink RX5 84 "java/lang/IllegalArgumentException", Cond.initialized "java/lang/IllegalArgumentException", Cond.fieldLink RX5 142 "Figurehouse" "today" "I", Cond.methodLink RX5 150 yX1_figureOn, Cond.instanceMethod yX1_figureOn, Cond.selects RX1 yX1_figureOn yX1_figureOn, Cond.initialized RX1, Cond.code yX1_figureOn cX1_figureOn 4 (some .int), Cond.fieldLink RX1 40 "Figurehouse$Book" "size" "I", Cond.fieldLink RX1 24 "Figurehouse$Book" "cells" "[I", Cond.fieldLink RX1 27 "Figurehouse$Book" "days" "[I", Cond.fieldLink RX1 30 "Figurehouse$Book" "figures" "[I", Cond.constant RX1 33 (-2000000001)]
def wsX5_figure : List Cond := .code yX5_figure cX5_figure 6 (some .int) :: ((wsX5_figure_r1 ++ wsX5_figure_r2) ++ wsX50 ++ wsX40 ++ wsX10 ++ (vx_atS RX5 133 "java/lang/IndexOutOfBoundsException" ["java/lang/RuntimeException", "java/lang/Exception"]).filter goodWord ++ (vx_atS RX5 88 "java/lang/IllegalArgumentException" ["java/lang/RuntimeException", "java/lang/Exception"]).filter goodWord)
def wsX5_value_r1 : List Cond := [Cond.fieldLink RX5 45 "Figurehouse" "sheet" "LFigurehouse$Sheet;", Cond.fieldLink RX5 38 "Figurehouse" "book" "LFigurehouse$Book;", Cond.fieldLink RX5 14 "Figurehouse" "areas" "LFigurehouse$Tree;", Cond.fieldLink RX5 18 "Figurehouse" "items" "LFigurehouse$Tree;", Cond.methodLink RX5 80 yX5_requireCell, Cond.instanceMethod yX5_requireCell, Cond.selects RX5 yX5_requireCell yX5_requireCell, Cond.initialized RX5, Cond.code yX5_requireCell cX5_requireCell 4 (some .int), Cond.classLink RX5 129 "java/lang/IndexOutOfBoundsException", Cond.initialized "java/lang/IndexOutOfBoundsException", Cond.methodLink RX5 208 yX4_has, Cond.instanceMethod yX4_has, Cond.selects RX4 yX4_has yX4_has, Cond.initialized RX4, Cond.code yX4_has cX4_has 2 (some .boolean), Cond.fieldLink RX4 17 "Figurehouse$Tree" "size" "I", Cond.methodLink RX5 187 yX5_isPeriod, Cond.static yX5_isPeriod, Cond.code yX5_isPeriod cX5_isPeriod 1 (some .boolean), Cond.methodLink RX5 220 yX5_cellOf, Cond.static yX5_cellOf, Cond.code yX5_cellOf cX5_cellOf 3 (some .int), Cond.methodLink RX5 158 yX5_slotOf]
def wsX5_value_r2 : List Cond := [Cond.static yX5_slotOf, Cond.code yX5_slotOf cX5_slotOf 2 (some .int), Cond.methodLink RX5 147 yX5_requireDay, Cond.instanceMethod yX5_requireDay, Cond.selects RX5 yX5_requireDay yX5_requireDay, Cond.code yX5_requireDay cX5_requireDay 2 none, Cond.classLink RX5 84 "java/lang/IllegalArgumentException", Cond.initialized "java/lang/IllegalArgumentException", Cond.fieldLink RX5 142 "Figurehouse" "today" "I", Cond.methodLink RX5 154 yX3_load, Cond.instanceMethod yX3_load, Cond.selects RX3 yX3_load yX3_load, Cond.initialized RX3, Cond.code yX3_load cX3_load 9 none, Cond.fieldLink RX3 9 "Figurehouse$Sheet" "values" "[I", Cond.constant RX3 19 (-2000000001), Cond.methodLink RX3 20 yX3_loadFigures, Cond.instanceMethod yX3_loadFigures, Cond.selects RX3 yX3_loadFigures yX3_loadFigures, Cond.code yX3_loadFigures cX3_loadFigures 6 none, Cond.methodLink RX3 38 yJ7_fill_53178, Cond.static yJ7_fill_53178, Cond.initialized RJ7, Cond.code yJ7_fill_53178 cJ7_fill_53178 4 none]
def wsX5_value_r3 : List Cond := [Cond.methodLink RX3 34 yX3_sumRightIn, Cond.instanceMethod yX3_sumRightIn, Cond.selects RX3 yX3_sumRightIn yX3_sumRightIn, Cond.code yX3_sumRightIn cX3_sumRightIn 8 (some .int), Cond.methodLink RX3 56 yX4_isRightIn, Cond.instanceMethod yX4_isRightIn, Cond.selects RX4 yX4_isRightIn yX4_isRightIn, Cond.code yX4_isRightIn cX4_isRightIn 3 (some .boolean), Cond.fieldLink RX4 7 "Figurehouse$Tree" "outer" "[I", Cond.methodLink RX3 60 yX3_slotBeside, Cond.static yX3_slotBeside, Cond.code yX3_slotBeside cX3_slotBeside 4 (some .int), Cond.methodLink RX3 64 yX3_valueAt, Cond.instanceMethod yX3_valueAt, Cond.selects RX3 yX3_valueAt yX3_valueAt, Cond.code yX3_valueAt cX3_valueAt 2 (some .int), Cond.methodLink RX5 161 yX3_valueAt]
def wsX5_value : List Cond := .code yX5_value cX5_value 5 (some .int) :: ((wsX5_value_r1 ++ (wsX5_value_r2 ++ wsX5_value_r3)) ++ wsX50 ++ wsX40 ++ wsX30 ++ wsX10 ++ (vx_atS RX5 133 "java/lang/IndexOutOfBoundsException" ["java/lang/RuntimeException", "java/lang/Exception"]).filter goodWord ++ (vx_atS RX5 88 "java/lang/IllegalArgumentException" ["java/lang/RuntimeException", "java/lang/Exception"]).filter goodWord)
def wsX5_first_r1 : List Cond := [Cond.fieldLink RX5 38 "Figurehouse" "book" "LFigurehouse$Book;", Cond.methodLink RX5 80 yX5_requireCell, Cond.instanceMethod yX5_requireCell, Cond.selects RX5 yX5_requireCell yX5_requireCell, Cond.initialized RX5, Cond.code yX5_requireCell cX5_requireCell 4 (some .int), Cond.classLink RX5 129 "java/lang/IndexOutOfBoundsException", Cond.initialized "java/lang/IndexOutOfBoundsException", Cond.fieldLink RX5 14 "Figurehouse" "areas" "LFigurehouse$Tree;", Cond.fieldLink RX5 18 "Figurehouse" "items" "LFigurehouse$Tree;", Cond.methodLink RX5 208 yX4_has, Cond.instanceMethod yX4_has, Cond.selects RX4 yX4_has yX4_has, Cond.initialized RX4, Cond.code yX4_has cX4_has 2 (some .boolean), Cond.fieldLink RX4 17 "Figurehouse$Tree" "size" "I", Cond.methodLink RX5 187 yX5_isPeriod, Cond.static yX5_isPeriod, Cond.code yX5_isPeriod cX5_isPeriod 1 (some .boolean), Cond.methodLink RX5 220 yX5_cellOf, Cond.static yX5_cellOf, Cond.code yX5_cellOf cX5_cellOf 3 (some .int), Cond.methodLink RX5 158 yX5_slotOf, Cond.static yX5_slotOf]
def wsX5_first_r2 : List Cond := [Cond.code yX5_slotOf cX5_slotOf 2 (some .int)]
def wsX5_first : List Cond := .code yX5_first cX5_first 4 (some .int) :: ((wsX5_first_r1 ++ wsX5_first_r2) ++ wsX50 ++ wsX10 ++ wsX40 ++ (vx_atS RX5 133 "java/lang/IndexOutOfBoundsException" ["java/lang/RuntimeException", "java/lang/Exception"]).filter goodWord)
def wsX5_revisions_r1 : List Cond := [Cond.fieldLink RX5 38 "Figurehouse" "book" "LFigurehouse$Book;", Cond.methodLink RX5 80 yX5_requireCell, Cond.instanceMethod yX5_requireCell, Cond.selects RX5 yX5_requireCell yX5_requireCell, Cond.initialized RX5, Cond.code yX5_requireCell cX5_requireCell 4 (some .int), Cond.classLink RX5 129 "java/lang/IndexOutOfBoundsException", Cond.initialized "java/lang/IndexOutOfBoundsException", Cond.fieldLink RX5 14 "Figurehouse" "areas" "LFigurehouse$Tree;", Cond.fieldLink RX5 18 "Figurehouse" "items" "LFigurehouse$Tree;", Cond.methodLink RX5 208 yX4_has, Cond.instanceMethod yX4_has, Cond.selects RX4 yX4_has yX4_has, Cond.initialized RX4, Cond.code yX4_has cX4_has 2 (some .boolean), Cond.fieldLink RX4 17 "Figurehouse$Tree" "size" "I", Cond.methodLink RX5 187 yX5_isPeriod, Cond.static yX5_isPeriod, Cond.code yX5_isPeriod cX5_isPeriod 1 (some .boolean), Cond.methodLink RX5 220 yX5_cellOf, Cond.static yX5_cellOf, Cond.code yX5_cellOf cX5_cellOf 3 (some .int), Cond.methodLink RX5 158 yX5_slotOf, Cond.static yX5_slotOf]
def wsX5_revisions_r2 : List Cond := [Cond.code yX5_slotOf cX5_slotOf 2 (some .int)]
def wsX5_revisions : List Cond := .code yX5_revisions cX5_revisions 4 (some .int) :: ((wsX5_revisions_r1 ++ wsX5_revisions_r2) ++ wsX50 ++ wsX10 ++ wsX40 ++ (vx_atS RX5 133 "java/lang/IndexOutOfBoundsException" ["java/lang/RuntimeException", "java/lang/Exception"]).filter goodWord)
def wsX5_isOtherSum : List Cond := .code yX5_isOtherSum cX5_isOtherSum 2 (some .boolean) :: ([.constant RX5 173 (-2000000001)])
def wsX5_hasFault_r1 : List Cond := [Cond.fieldLink RX5 38 "Figurehouse" "book" "LFigurehouse$Book;", Cond.constant RX5 173 (-2000000001), Cond.fieldLink RX5 45 "Figurehouse" "sheet" "LFigurehouse$Sheet;", Cond.fieldLink RX5 142 "Figurehouse" "today" "I", Cond.fieldLink RX5 14 "Figurehouse" "areas" "LFigurehouse$Tree;", Cond.fieldLink RX5 18 "Figurehouse" "items" "LFigurehouse$Tree;", Cond.methodLink RX5 80 yX5_requireCell, Cond.instanceMethod yX5_requireCell, Cond.selects RX5 yX5_requireCell yX5_requireCell, Cond.initialized RX5, Cond.code yX5_requireCell cX5_requireCell 4 (some .int), Cond.classLink RX5 129 "java/lang/IndexOutOfBoundsException", Cond.initialized "java/lang/IndexOutOfBoundsException", Cond.methodLink RX5 208 yX4_has, Cond.instanceMethod yX4_has, Cond.selects RX4 yX4_has yX4_has, Cond.initialized RX4, Cond.code yX4_has cX4_has 2 (some .boolean), Cond.fieldLink RX4 17 "Figurehouse$Tree" "size" "I", Cond.methodLink RX5 187 yX5_isPeriod, Cond.static yX5_isPeriod, Cond.code yX5_isPeriod cX5_isPeriod 1 (some .boolean), Cond.methodLink RX5 220 yX5_cellOf, Cond.static yX5_cellOf]
def wsX5_hasFault_r2 : List Cond := [Cond.code yX5_cellOf cX5_cellOf 3 (some .int), Cond.methodLink RX5 158 yX5_slotOf, Cond.static yX5_slotOf, Cond.code yX5_slotOf cX5_slotOf 2 (some .int), Cond.methodLink RX5 154 yX3_load, Cond.instanceMethod yX3_load, Cond.selects RX3 yX3_load yX3_load, Cond.initialized RX3, Cond.code yX3_load cX3_load 9 none, Cond.fieldLink RX3 9 "Figurehouse$Sheet" "values" "[I", Cond.constant RX3 19 (-2000000001), Cond.methodLink RX3 20 yX3_loadFigures, Cond.instanceMethod yX3_loadFigures, Cond.selects RX3 yX3_loadFigures yX3_loadFigures, Cond.code yX3_loadFigures cX3_loadFigures 6 none, Cond.methodLink RX3 38 yJ7_fill_53178, Cond.static yJ7_fill_53178, Cond.initialized RJ7, Cond.code yJ7_fill_53178 cJ7_fill_53178 4 none, Cond.methodLink RX3 34 yX3_sumRightIn, Cond.instanceMethod yX3_sumRightIn, Cond.selects RX3 yX3_sumRightIn yX3_sumRightIn, Cond.code yX3_sumRightIn cX3_sumRightIn 8 (some .int), Cond.methodLink RX3 56 yX4_isRightIn]
def wsX5_hasFault_r3 : List Cond := [Cond.instanceMethod yX4_isRightIn, Cond.selects RX4 yX4_isRightIn yX4_isRightIn, Cond.code yX4_isRightIn cX4_isRightIn 3 (some .boolean), Cond.fieldLink RX4 7 "Figurehouse$Tree" "outer" "[I", Cond.methodLink RX3 60 yX3_slotBeside, Cond.static yX3_slotBeside, Cond.code yX3_slotBeside cX3_slotBeside 4 (some .int), Cond.methodLink RX3 64 yX3_valueAt, Cond.instanceMethod yX3_valueAt, Cond.selects RX3 yX3_valueAt yX3_valueAt, Cond.code yX3_valueAt cX3_valueAt 2 (some .int), Cond.methodLink RX5 174 yX3_sumRightIn, Cond.methodLink RX5 178 yX5_isOtherSum, Cond.static yX5_isOtherSum, Cond.code yX5_isOtherSum cX5_isOtherSum 2 (some .boolean)]
def wsX5_hasFault : List Cond := .code yX5_hasFault cX5_hasFault 6 (some .boolean) :: ((wsX5_hasFault_r1 ++ (wsX5_hasFault_r2 ++ wsX5_hasFault_r3)) ++ wsX50 ++ wsX10 ++ wsX40 ++ wsX30 ++ (vx_atS RX5 133 "java/lang/IndexOutOfBoundsException" ["java/lang/RuntimeException", "java/lang/Exception"]).filter goodWord)
def wsX5_shown_r1 : List Cond := [Cond.fieldLink RX5 45 "Figurehouse" "sheet" "LFigurehouse$Sheet;", Cond.constant RX5 186 (-2000000002), Cond.methodLink RX5 80 yX5_requireCell, Cond.instanceMethod yX5_requireCell, Cond.selects RX5 yX5_requireCell yX5_requireCell, Cond.initialized RX5, Cond.code yX5_requireCell cX5_requireCell 4 (some .int), Cond.classLink RX5 129 "java/lang/IndexOutOfBoundsException", Cond.initialized "java/lang/IndexOutOfBoundsException", Cond.fieldLink RX5 14 "Figurehouse" "areas" "LFigurehouse$Tree;", Cond.fieldLink RX5 18 "Figurehouse" "items" "LFigurehouse$Tree;", Cond.methodLink RX5 208 yX4_has, Cond.instanceMethod yX4_has, Cond.selects RX4 yX4_has yX4_has, Cond.initialized RX4, Cond.code yX4_has cX4_has 2 (some .boolean), Cond.fieldLink RX4 17 "Figurehouse$Tree" "size" "I", Cond.methodLink RX5 187 yX5_isPeriod, Cond.static yX5_isPeriod, Cond.code yX5_isPeriod cX5_isPeriod 1 (some .boolean), Cond.methodLink RX5 220 yX5_cellOf, Cond.static yX5_cellOf, Cond.code yX5_cellOf cX5_cellOf 3 (some .int), Cond.methodLink RX5 158 yX5_slotOf]
def wsX5_shown_r2 : List Cond := [Cond.static yX5_slotOf, Cond.code yX5_slotOf cX5_slotOf 2 (some .int), Cond.methodLink RX5 134 yX5_loadHidden, Cond.instanceMethod yX5_loadHidden, Cond.selects RX5 yX5_loadHidden yX5_loadHidden, Cond.code yX5_loadHidden cX5_loadHidden 2 none, Cond.fieldLink RX5 38 "Figurehouse" "book" "LFigurehouse$Book;", Cond.fieldLink RX5 142 "Figurehouse" "today" "I", Cond.fieldLink RX5 49 "Figurehouse" "secrets" "[Z", Cond.methodLink RX5 154 yX3_load, Cond.instanceMethod yX3_load, Cond.selects RX3 yX3_load yX3_load, Cond.initialized RX3, Cond.code yX3_load cX3_load 9 none, Cond.fieldLink RX3 9 "Figurehouse$Sheet" "values" "[I", Cond.constant RX3 19 (-2000000001), Cond.methodLink RX3 20 yX3_loadFigures, Cond.instanceMethod yX3_loadFigures, Cond.selects RX3 yX3_loadFigures yX3_loadFigures, Cond.code yX3_loadFigures cX3_loadFigures 6 none, Cond.methodLink RX3 38 yJ7_fill_53178, Cond.static yJ7_fill_53178, Cond.initialized RJ7, Cond.code yJ7_fill_53178 cJ7_fill_53178 4 none]
def wsX5_shown_r3 : List Cond := [Cond.methodLink RX3 34 yX3_sumRightIn, Cond.instanceMethod yX3_sumRightIn, Cond.selects RX3 yX3_sumRightIn yX3_sumRightIn, Cond.code yX3_sumRightIn cX3_sumRightIn 8 (some .int), Cond.methodLink RX3 56 yX4_isRightIn, Cond.instanceMethod yX4_isRightIn, Cond.selects RX4 yX4_isRightIn yX4_isRightIn, Cond.code yX4_isRightIn cX4_isRightIn 3 (some .boolean), Cond.fieldLink RX4 7 "Figurehouse$Tree" "outer" "[I", Cond.methodLink RX3 60 yX3_slotBeside, Cond.static yX3_slotBeside, Cond.code yX3_slotBeside cX3_slotBeside 4 (some .int), Cond.methodLink RX3 64 yX3_valueAt, Cond.instanceMethod yX3_valueAt, Cond.selects RX3 yX3_valueAt yX3_valueAt, Cond.code yX3_valueAt cX3_valueAt 2 (some .int), Cond.methodLink RX5 246 yX3_hide, Cond.instanceMethod yX3_hide, Cond.selects RX3 yX3_hide yX3_hide, Cond.code yX3_hide cX3_hide 9 none, Cond.fieldLink RX3 15 "Figurehouse$Sheet" "hides" "[Z", Cond.methodLink RX3 71 yX3_goThroughRows, Cond.instanceMethod yX3_goThroughRows, Cond.selects RX3 yX3_goThroughRows yX3_goThroughRows]
def wsX5_shown_r4 : List Cond := [Cond.code yX3_goThroughRows cX3_goThroughRows 8 (some .boolean), Cond.methodLink RX3 75 yX3_protectRow, Cond.instanceMethod yX3_protectRow, Cond.selects RX3 yX3_protectRow yX3_protectRow, Cond.code yX3_protectRow cX3_protectRow 4 (some .boolean), Cond.methodLink RX3 79 yX3_countHiddenInRow, Cond.instanceMethod yX3_countHiddenInRow, Cond.selects RX3 yX3_countHiddenInRow yX3_countHiddenInRow, Cond.code yX3_countHiddenInRow cX3_countHiddenInRow 6 (some .int), Cond.methodLink RX3 85 yX3_isHidden, Cond.instanceMethod yX3_isHidden, Cond.selects RX3 yX3_isHidden yX3_isHidden, Cond.code yX3_isHidden cX3_isHidden 2 (some .boolean), Cond.methodLink RX3 82 yX3_nearestOpenSlot, Cond.instanceMethod yX3_nearestOpenSlot, Cond.selects RX3 yX3_nearestOpenSlot yX3_nearestOpenSlot, Cond.code yX3_nearestOpenSlot cX3_nearestOpenSlot 7 (some .int), Cond.methodLink RX3 89 Lib.Math.abs.name, Cond.static Lib.Math.abs.name, Cond.initialized "java/lang/Math", Cond.code Lib.Math.abs.name Lib.Math.abs.code 1 (some .int), Cond.methodLink RX5 182 yX3_isHidden, Cond.methodLink RX5 161 yX3_valueAt]
def wsX5_shown : List Cond := .code yX5_shown cX5_shown 5 (some .int) :: ((wsX5_shown_r1 ++ (wsX5_shown_r2 ++ (wsX5_shown_r3 ++ wsX5_shown_r4))) ++ wsX50 ++ wsX40 ++ wsX30 ++ wsX10 ++ (vx_atS RX5 133 "java/lang/IndexOutOfBoundsException" ["java/lang/RuntimeException", "java/lang/Exception"]).filter goodWord)
def wsX5_hidden_r1 : List Cond := [Cond.classLink RX5 129 "java/lang/IndexOutOfBoundsException", Cond.initialized "java/lang/IndexOutOfBoundsException", Cond.fieldLink RX5 45 "Figurehouse" "sheet" "LFigurehouse$Sheet;", Cond.methodLink RX5 187 yX5_isPeriod, Cond.static yX5_isPeriod, Cond.initialized RX5, Cond.code yX5_isPeriod cX5_isPeriod 1 (some .boolean), Cond.methodLink RX5 134 yX5_loadHidden, Cond.instanceMethod yX5_loadHidden, Cond.selects RX5 yX5_loadHidden yX5_loadHidden, Cond.code yX5_loadHidden cX5_loadHidden 2 none, Cond.fieldLink RX5 38 "Figurehouse" "book" "LFigurehouse$Book;", Cond.fieldLink RX5 142 "Figurehouse" "today" "I", Cond.fieldLink RX5 14 "Figurehouse" "areas" "LFigurehouse$Tree;", Cond.fieldLink RX5 18 "Figurehouse" "items" "LFigurehouse$Tree;", Cond.fieldLink RX5 49 "Figurehouse" "secrets" "[Z", Cond.methodLink RX5 154 yX3_load, Cond.instanceMethod yX3_load, Cond.selects RX3 yX3_load yX3_load, Cond.initialized RX3, Cond.code yX3_load cX3_load 9 none, Cond.fieldLink RX3 9 "Figurehouse$Sheet" "values" "[I", Cond.constant RX3 19 (-2000000001), Cond.methodLink RX3 20 yX3_loadFigures]
def wsX5_hidden_r2 : List Cond := [Cond.instanceMethod yX3_loadFigures, Cond.selects RX3 yX3_loadFigures yX3_loadFigures, Cond.code yX3_loadFigures cX3_loadFigures 6 none, Cond.methodLink RX3 38 yJ7_fill_53178, Cond.static yJ7_fill_53178, Cond.initialized RJ7, Cond.code yJ7_fill_53178 cJ7_fill_53178 4 none, Cond.static yX5_slotOf, Cond.code yX5_slotOf cX5_slotOf 2 (some .int), Cond.methodLink RX3 34 yX3_sumRightIn, Cond.instanceMethod yX3_sumRightIn, Cond.selects RX3 yX3_sumRightIn yX3_sumRightIn, Cond.code yX3_sumRightIn cX3_sumRightIn 8 (some .int), Cond.methodLink RX3 56 yX4_isRightIn, Cond.instanceMethod yX4_isRightIn, Cond.selects RX4 yX4_isRightIn yX4_isRightIn, Cond.initialized RX4, Cond.code yX4_isRightIn cX4_isRightIn 3 (some .boolean), Cond.fieldLink RX4 17 "Figurehouse$Tree" "size" "I", Cond.fieldLink RX4 7 "Figurehouse$Tree" "outer" "[I", Cond.methodLink RX3 60 yX3_slotBeside, Cond.static yX3_slotBeside, Cond.code yX3_slotBeside cX3_slotBeside 4 (some .int), Cond.methodLink RX3 64 yX3_valueAt]
def wsX5_hidden_r3 : List Cond := [Cond.instanceMethod yX3_valueAt, Cond.selects RX3 yX3_valueAt yX3_valueAt, Cond.code yX3_valueAt cX3_valueAt 2 (some .int), Cond.methodLink RX5 246 yX3_hide, Cond.instanceMethod yX3_hide, Cond.selects RX3 yX3_hide yX3_hide, Cond.code yX3_hide cX3_hide 9 none, Cond.fieldLink RX3 15 "Figurehouse$Sheet" "hides" "[Z", Cond.methodLink RX3 71 yX3_goThroughRows, Cond.instanceMethod yX3_goThroughRows, Cond.selects RX3 yX3_goThroughRows yX3_goThroughRows, Cond.code yX3_goThroughRows cX3_goThroughRows 8 (some .boolean), Cond.methodLink RX3 75 yX3_protectRow, Cond.instanceMethod yX3_protectRow, Cond.selects RX3 yX3_protectRow yX3_protectRow, Cond.code yX3_protectRow cX3_protectRow 4 (some .boolean), Cond.methodLink RX3 79 yX3_countHiddenInRow, Cond.instanceMethod yX3_countHiddenInRow, Cond.selects RX3 yX3_countHiddenInRow yX3_countHiddenInRow, Cond.code yX3_countHiddenInRow cX3_countHiddenInRow 6 (some .int), Cond.methodLink RX3 85 yX3_isHidden, Cond.instanceMethod yX3_isHidden, Cond.selects RX3 yX3_isHidden yX3_isHidden, Cond.code yX3_isHidden cX3_isHidden 2 (some .boolean)]
def wsX5_hidden_r4 : List Cond := [Cond.methodLink RX3 82 yX3_nearestOpenSlot, Cond.instanceMethod yX3_nearestOpenSlot, Cond.selects RX3 yX3_nearestOpenSlot yX3_nearestOpenSlot, Cond.code yX3_nearestOpenSlot cX3_nearestOpenSlot 7 (some .int), Cond.methodLink RX3 89 Lib.Math.abs.name, Cond.static Lib.Math.abs.name, Cond.initialized "java/lang/Math", Cond.code Lib.Math.abs.name Lib.Math.abs.code 1 (some .int), Cond.methodLink RX5 137 yX3_countHiddenSlots, Cond.instanceMethod yX3_countHiddenSlots, Cond.selects RX3 yX3_countHiddenSlots yX3_countHiddenSlots, Cond.code yX3_countHiddenSlots cX3_countHiddenSlots 3 (some .int)]
def wsX5_hidden : List Cond := .code yX5_hidden cX5_hidden 2 (some .int) :: ((wsX5_hidden_r1 ++ (wsX5_hidden_r2 ++ (wsX5_hidden_r3 ++ wsX5_hidden_r4))) ++ wsX50 ++ wsX40 ++ wsX30 ++ wsX10 ++ (vx_atS RX5 133 "java/lang/IndexOutOfBoundsException" ["java/lang/RuntimeException", "java/lang/Exception"]).filter goodWord)
def wsX5_matchAt_r1 : List Cond := [Cond.fieldLink RX5 14 "Figurehouse" "areas" "LFigurehouse$Tree;", Cond.fieldLink RX5 18 "Figurehouse" "items" "LFigurehouse$Tree;", Cond.fieldLink RX5 38 "Figurehouse" "book" "LFigurehouse$Book;", Cond.methodLink RX5 220 yX5_cellOf, Cond.static yX5_cellOf, Cond.initialized RX5, Cond.code yX5_cellOf cX5_cellOf 3 (some .int), Cond.methodLink RX5 158 yX5_slotOf, Cond.static yX5_slotOf, Cond.code yX5_slotOf cX5_slotOf 2 (some .int), Cond.methodLink RX5 251 yX1_isToldSince, Cond.instanceMethod yX1_isToldSince, Cond.selects RX1 yX1_isToldSince yX1_isToldSince, Cond.initialized RX1, Cond.code yX1_isToldSince cX1_isToldSince 3 (some .boolean), Cond.fieldLink RX1 9 "Figurehouse$Book" "latest" "[I", Cond.constant RX1 33 (-2000000001), Cond.fieldLink RX1 21 "Figurehouse$Book" "lastDay" "[I", Cond.methodLink RX5 254 yX4_isWithin, Cond.instanceMethod yX4_isWithin, Cond.selects RX4 yX4_isWithin yX4_isWithin, Cond.initialized RX4, Cond.code yX4_isWithin cX4_isWithin 5 (some .boolean), Cond.fieldLink RX4 17 "Figurehouse$Tree" "size" "I"]
def wsX5_matchAt_r2 : List Cond := [Cond.fieldLink RX4 7 "Figurehouse$Tree" "outer" "[I", Cond.methodLink RX4 20 yX4_has, Cond.instanceMethod yX4_has, Cond.selects RX4 yX4_has yX4_has, Cond.code yX4_has cX4_has 2 (some .boolean)]
def wsX5_matchAt : List Cond := .code yX5_matchAt cX5_matchAt 11 (some .int) :: ((wsX5_matchAt_r1 ++ wsX5_matchAt_r2) ++ wsX50 ++ wsX40 ++ wsX10)
def wsX5_find_r1 : List Cond := [Cond.classLink RX5 129 "java/lang/IndexOutOfBoundsException", Cond.initialized "java/lang/IndexOutOfBoundsException", Cond.classLink RX5 84 "java/lang/IllegalArgumentException", Cond.initialized "java/lang/IllegalArgumentException", Cond.fieldLink RX5 14 "Figurehouse" "areas" "LFigurehouse$Tree;", Cond.fieldLink RX5 18 "Figurehouse" "items" "LFigurehouse$Tree;", Cond.methodLink RX5 57 yX5_requirePattern, Cond.static yX5_requirePattern, Cond.initialized RX5, Cond.code yX5_requirePattern cX5_requirePattern 2 none, Cond.methodLink RX5 208 yX4_has, Cond.instanceMethod yX4_has, Cond.selects RX4 yX4_has yX4_has, Cond.initialized RX4, Cond.code yX4_has cX4_has 2 (some .boolean), Cond.fieldLink RX4 17 "Figurehouse$Tree" "size" "I", Cond.methodLink RX5 187 yX5_isPeriod, Cond.static yX5_isPeriod, Cond.code yX5_isPeriod cX5_isPeriod 1 (some .boolean), Cond.methodLink RX5 198 yX5_matchAt, Cond.instanceMethod yX5_matchAt, Cond.selects RX5 yX5_matchAt yX5_matchAt, Cond.code yX5_matchAt cX5_matchAt 11 (some .int), Cond.fieldLink RX5 38 "Figurehouse" "book" "LFigurehouse$Book;"]
def wsX5_find_r2 : List Cond := [Cond.methodLink RX5 220 yX5_cellOf, Cond.static yX5_cellOf, Cond.code yX5_cellOf cX5_cellOf 3 (some .int), Cond.methodLink RX5 158 yX5_slotOf, Cond.static yX5_slotOf, Cond.code yX5_slotOf cX5_slotOf 2 (some .int), Cond.methodLink RX5 251 yX1_isToldSince, Cond.instanceMethod yX1_isToldSince, Cond.selects RX1 yX1_isToldSince yX1_isToldSince, Cond.initialized RX1, Cond.code yX1_isToldSince cX1_isToldSince 3 (some .boolean), Cond.fieldLink RX1 9 "Figurehouse$Book" "latest" "[I", Cond.constant RX1 33 (-2000000001), Cond.fieldLink RX1 21 "Figurehouse$Book" "lastDay" "[I", Cond.methodLink RX5 254 yX4_isWithin, Cond.instanceMethod yX4_isWithin, Cond.selects RX4 yX4_isWithin yX4_isWithin, Cond.code yX4_isWithin cX4_isWithin 5 (some .boolean), Cond.fieldLink RX4 7 "Figurehouse$Tree" "outer" "[I", Cond.methodLink RX4 20 yX4_has]
def wsX5_find : List Cond := .code yX5_find cX5_find 7 (some .int) :: ((wsX5_find_r1 ++ wsX5_find_r2) ++ wsX50 ++ wsX40 ++ wsX10 ++ (vx_atS RX5 133 "java/lang/IndexOutOfBoundsException" ["java/lang/RuntimeException", "java/lang/Exception"]).filter goodWord ++ (vx_atS RX5 88 "java/lang/IllegalArgumentException" ["java/lang/RuntimeException", "java/lang/Exception"]).filter goodWord)
def wsX5_mayTell_r1 : List Cond := [Cond.fieldLink RX5 24 "Figurehouse" "agreements" "LFigurehouse$Agreements;", Cond.fieldLink RX5 14 "Figurehouse" "areas" "LFigurehouse$Tree;", Cond.methodLink RX5 69 yX5_requireSender, Cond.static yX5_requireSender, Cond.initialized RX5, Cond.code yX5_requireSender cX5_requireSender 1 none, Cond.classLink RX5 129 "java/lang/IndexOutOfBoundsException", Cond.initialized "java/lang/IndexOutOfBoundsException", Cond.methodLink RX5 73 yX5_requireArea, Cond.instanceMethod yX5_requireArea, Cond.selects RX5 yX5_requireArea yX5_requireArea, Cond.code yX5_requireArea cX5_requireArea 2 none, Cond.methodLink RX5 208 yX4_has, Cond.instanceMethod yX4_has, Cond.selects RX4 yX4_has yX4_has, Cond.initialized RX4, Cond.code yX4_has cX4_has 2 (some .boolean), Cond.fieldLink RX4 17 "Figurehouse$Tree" "size" "I", Cond.methodLink RX5 202 yX0_cover, Cond.instanceMethod yX0_cover, Cond.selects RX0 yX0_cover yX0_cover, Cond.initialized RX0, Cond.code yX0_cover cX0_cover 5 (some .boolean), Cond.fieldLink RX0 9 "Figurehouse$Agreements" "isOn" "[Z"]
def wsX5_mayTell_r2 : List Cond := [Cond.methodLink RX0 21 yX4_isWithin, Cond.instanceMethod yX4_isWithin, Cond.selects RX4 yX4_isWithin yX4_isWithin, Cond.code yX4_isWithin cX4_isWithin 5 (some .boolean), Cond.fieldLink RX4 7 "Figurehouse$Tree" "outer" "[I", Cond.methodLink RX4 20 yX4_has]
def wsX5_mayTell : List Cond := .code yX5_mayTell cX5_mayTell 3 (some .boolean) :: ((wsX5_mayTell_r1 ++ wsX5_mayTell_r2) ++ wsX50 ++ wsX40 ++ wsX00 ++ (vx_atS RX5 133 "java/lang/IndexOutOfBoundsException" ["java/lang/RuntimeException", "java/lang/Exception"]).filter goodWord)
def wsX6_init : List Cond := .code yX6_init cX6_init 1 none :: ([.methodLink RX6 1 objectInit, .instanceMethod objectInit, .code objectInit ⟨#[0xb1]⟩ 1 none, .arrayClass .int, .fieldLink RX6 7 "FigurehouseModel" "areaIn" "[I", .fieldLink RX6 13 "FigurehouseModel" "itemIn" "[I", .arrayClass .boolean, .fieldLink RX6 16 "FigurehouseModel" "agreed" "[Z", .fieldLink RX6 20 "FigurehouseModel" "draftWhat" "[I", .fieldLink RX6 23 "FigurehouseModel" "draftCell" "[I", .fieldLink RX6 26 "FigurehouseModel" "draftValue" "[I", .fieldLink RX6 29 "FigurehouseModel" "refused" "[I", .fieldLink RX6 32 "FigurehouseModel" "doneCell" "[I", .fieldLink RX6 35 "FigurehouseModel" "doneDay" "[I", .fieldLink RX6 38 "FigurehouseModel" "doneValue" "[I", .fieldLink RX6 41 "FigurehouseModel" "isSecret" "[Z", .fieldLink RX6 44 "FigurehouseModel" "values" "[I", .fieldLink RX6 47 "FigurehouseModel" "isHidden" "[Z"] ++ wsX60)
def wsX6_thrown : List Cond := .code yX6_thrown cX6_thrown 1 (some .int) :: ([.fieldLink RX6 50 "FigurehouseModel" "thrown" "I"] ++ wsX60)
def wsX6_isIn : List Cond := .code yX6_isIn cX6_isIn 3 (some .boolean) :: ([])
def wsX6_isArea : List Cond := .code yX6_isArea cX6_isArea 2 (some .boolean) :: ([.fieldLink RX6 54 "FigurehouseModel" "areas" "I", .methodLink RX6 57 yX6_isIn, .static yX6_isIn, .initialized RX6, .code yX6_isIn cX6_isIn 3 (some .boolean)] ++ wsX60)
def wsX6_isItem : List Cond := .code yX6_isItem cX6_isItem 2 (some .boolean) :: ([.fieldLink RX6 61 "FigurehouseModel" "items" "I", .methodLink RX6 57 yX6_isIn, .static yX6_isIn, .initialized RX6, .code yX6_isIn cX6_isIn 3 (some .boolean)] ++ wsX60)
def wsX6_isCell : List Cond := .code yX6_isCell cX6_isCell 4 (some .boolean) :: ([.methodLink RX6 64 yX6_isArea, .instanceMethod yX6_isArea, .selects RX6 yX6_isArea yX6_isArea, .initialized RX6, .code yX6_isArea cX6_isArea 2 (some .boolean), .fieldLink RX6 54 "FigurehouseModel" "areas" "I", .methodLink RX6 57 yX6_isIn, .static yX6_isIn, .code yX6_isIn cX6_isIn 3 (some .boolean), .methodLink RX6 68 yX6_isItem, .instanceMethod yX6_isItem, .selects RX6 yX6_isItem yX6_isItem, .code yX6_isItem cX6_isItem 2 (some .boolean), .fieldLink RX6 61 "FigurehouseModel" "items" "I"] ++ wsX60)
def wsX6_cellOf : List Cond := .code yX6_cellOf cX6_cellOf 3 (some .int) :: ([])
def wsX6_area : List Cond := .code yX6_area cX6_area 2 (some .int) :: ([.fieldLink RX6 54 "FigurehouseModel" "areas" "I", .fieldLink RX6 50 "FigurehouseModel" "thrown" "I", .fieldLink RX6 7 "FigurehouseModel" "areaIn" "[I", .methodLink RX6 64 yX6_isArea, .instanceMethod yX6_isArea, .selects RX6 yX6_isArea yX6_isArea, .initialized RX6, .code yX6_isArea cX6_isArea 2 (some .boolean), .methodLink RX6 57 yX6_isIn, .static yX6_isIn, .code yX6_isIn cX6_isIn 3 (some .boolean)] ++ wsX60)
def wsX6_item : List Cond := .code yX6_item cX6_item 2 (some .int) :: ([.fieldLink RX6 61 "FigurehouseModel" "items" "I", .fieldLink RX6 50 "FigurehouseModel" "thrown" "I", .fieldLink RX6 13 "FigurehouseModel" "itemIn" "[I", .methodLink RX6 68 yX6_isItem, .instanceMethod yX6_isItem, .selects RX6 yX6_isItem yX6_isItem, .initialized RX6, .code yX6_isItem cX6_isItem 2 (some .boolean), .methodLink RX6 57 yX6_isIn, .static yX6_isIn, .code yX6_isIn cX6_isIn 3 (some .boolean)] ++ wsX60)
def wsX6_isSender : List Cond := .code yX6_isSender cX6_isSender 1 (some .boolean) :: ([.methodLink RX6 57 yX6_isIn, .static yX6_isIn, .initialized RX6, .code yX6_isIn cX6_isIn 3 (some .boolean)])
def wsX6_agree : List Cond := .code yX6_agree cX6_agree 5 (some .boolean) :: ([.fieldLink RX6 50 "FigurehouseModel" "thrown" "I", .fieldLink RX6 16 "FigurehouseModel" "agreed" "[Z", .methodLink RX6 71 yX6_isSender, .static yX6_isSender, .initialized RX6, .code yX6_isSender cX6_isSender 1 (some .boolean), .methodLink RX6 57 yX6_isIn, .static yX6_isIn, .code yX6_isIn cX6_isIn 3 (some .boolean), .methodLink RX6 64 yX6_isArea, .instanceMethod yX6_isArea, .selects RX6 yX6_isArea yX6_isArea, .code yX6_isArea cX6_isArea 2 (some .boolean), .fieldLink RX6 54 "FigurehouseModel" "areas" "I"] ++ wsX60)
def wsX6_may : List Cond := .code yX6_may cX6_may 5 (some .boolean) :: ([.fieldLink RX6 16 "FigurehouseModel" "agreed" "[Z", .fieldLink RX6 7 "FigurehouseModel" "areaIn" "[I"] ++ wsX60)
def wsX6_put_r1 : List Cond := [Cond.constant RX6 77 (-1000000), Cond.constant RX6 78 (1000000), Cond.fieldLink RX6 79 "FigurehouseModel" "drafted" "I", Cond.fieldLink RX6 50 "FigurehouseModel" "thrown" "I", Cond.fieldLink RX6 20 "FigurehouseModel" "draftWhat" "[I", Cond.fieldLink RX6 23 "FigurehouseModel" "draftCell" "[I", Cond.fieldLink RX6 26 "FigurehouseModel" "draftValue" "[I", Cond.methodLink RX6 74 yX6_isCell, Cond.instanceMethod yX6_isCell, Cond.selects RX6 yX6_isCell yX6_isCell, Cond.initialized RX6, Cond.code yX6_isCell cX6_isCell 4 (some .boolean), Cond.methodLink RX6 64 yX6_isArea, Cond.instanceMethod yX6_isArea, Cond.selects RX6 yX6_isArea yX6_isArea, Cond.code yX6_isArea cX6_isArea 2 (some .boolean), Cond.fieldLink RX6 54 "FigurehouseModel" "areas" "I", Cond.methodLink RX6 57 yX6_isIn, Cond.static yX6_isIn, Cond.code yX6_isIn cX6_isIn 3 (some .boolean), Cond.methodLink RX6 68 yX6_isItem, Cond.instanceMethod yX6_isItem, Cond.selects RX6 yX6_isItem yX6_isItem, Cond.code yX6_isItem cX6_isItem 2 (some .boolean)]
def wsX6_put_r2 : List Cond := [Cond.fieldLink RX6 61 "FigurehouseModel" "items" "I", Cond.methodLink RX6 82 yX6_cellOf, Cond.static yX6_cellOf, Cond.code yX6_cellOf cX6_cellOf 3 (some .int)]
def wsX6_put : List Cond := .code yX6_put cX6_put 6 (some .int) :: ((wsX6_put_r1 ++ wsX6_put_r2) ++ wsX60)
def wsX6_wipe : List Cond := .code yX6_wipe cX6_wipe 2 (some .int) :: ([.fieldLink RX6 50 "FigurehouseModel" "thrown" "I", .fieldLink RX6 79 "FigurehouseModel" "drafted" "I"] ++ wsX60)
def wsX6_figureOn : List Cond := .code yX6_figureOn cX6_figureOn 5 (some .int) :: ([.constant RX6 86 (-2000000001), .fieldLink RX6 87 "FigurehouseModel" "done" "I", .fieldLink RX6 32 "FigurehouseModel" "doneCell" "[I", .fieldLink RX6 35 "FigurehouseModel" "doneDay" "[I", .fieldLink RX6 38 "FigurehouseModel" "doneValue" "[I"] ++ wsX60)
def wsX6_judges : List Cond := .code yX6_judges cX6_judges 6 (some .int) :: ([.fieldLink RX6 23 "FigurehouseModel" "draftCell" "[I", .fieldLink RX6 20 "FigurehouseModel" "draftWhat" "[I", .fieldLink RX6 90 "FigurehouseModel" "today" "I", .constant RX6 86 (-2000000001), .fieldLink RX6 26 "FigurehouseModel" "draftValue" "[I", .methodLink RX6 93 yX6_figureOn, .instanceMethod yX6_figureOn, .selects RX6 yX6_figureOn yX6_figureOn, .initialized RX6, .code yX6_figureOn cX6_figureOn 5 (some .int), .fieldLink RX6 87 "FigurehouseModel" "done" "I", .fieldLink RX6 32 "FigurehouseModel" "doneCell" "[I", .fieldLink RX6 35 "FigurehouseModel" "doneDay" "[I", .fieldLink RX6 38 "FigurehouseModel" "doneValue" "[I", .methodLink RX6 97 yX6_may, .instanceMethod yX6_may, .selects RX6 yX6_may yX6_may, .code yX6_may cX6_may 5 (some .boolean), .fieldLink RX6 16 "FigurehouseModel" "agreed" "[Z", .fieldLink RX6 7 "FigurehouseModel" "areaIn" "[I"] ++ wsX60)
def wsX6_send_r1 : List Cond := [Cond.fieldLink RX6 79 "FigurehouseModel" "drafted" "I", Cond.fieldLink RX6 101 "FigurehouseModel" "sent" "I", Cond.fieldLink RX6 50 "FigurehouseModel" "thrown" "I", Cond.fieldLink RX6 29 "FigurehouseModel" "refused" "[I", Cond.fieldLink RX6 32 "FigurehouseModel" "doneCell" "[I", Cond.fieldLink RX6 87 "FigurehouseModel" "done" "I", Cond.fieldLink RX6 23 "FigurehouseModel" "draftCell" "[I", Cond.fieldLink RX6 35 "FigurehouseModel" "doneDay" "[I", Cond.fieldLink RX6 90 "FigurehouseModel" "today" "I", Cond.fieldLink RX6 38 "FigurehouseModel" "doneValue" "[I", Cond.fieldLink RX6 20 "FigurehouseModel" "draftWhat" "[I", Cond.constant RX6 86 (-2000000001), Cond.fieldLink RX6 26 "FigurehouseModel" "draftValue" "[I", Cond.fieldLink RX6 107 "FigurehouseModel" "latest" "I", Cond.methodLink RX6 71 yX6_isSender, Cond.static yX6_isSender, Cond.initialized RX6, Cond.code yX6_isSender cX6_isSender 1 (some .boolean), Cond.methodLink RX6 57 yX6_isIn, Cond.static yX6_isIn, Cond.code yX6_isIn cX6_isIn 3 (some .boolean), Cond.methodLink RX6 104 yX6_judges, Cond.instanceMethod yX6_judges, Cond.selects RX6 yX6_judges yX6_judges]
def wsX6_send_r2 : List Cond := [Cond.code yX6_judges cX6_judges 6 (some .int), Cond.methodLink RX6 93 yX6_figureOn, Cond.instanceMethod yX6_figureOn, Cond.selects RX6 yX6_figureOn yX6_figureOn, Cond.code yX6_figureOn cX6_figureOn 5 (some .int), Cond.methodLink RX6 97 yX6_may, Cond.instanceMethod yX6_may, Cond.selects RX6 yX6_may yX6_may, Cond.code yX6_may cX6_may 5 (some .boolean), Cond.fieldLink RX6 16 "FigurehouseModel" "agreed" "[Z", Cond.fieldLink RX6 7 "FigurehouseModel" "areaIn" "[I"]
def wsX6_send : List Cond := .code yX6_send cX6_send 4 (some .int) :: ((wsX6_send_r1 ++ wsX6_send_r2) ++ wsX60)
def wsX6_refusal : List Cond := .code yX6_refusal cX6_refusal 2 (some .int) :: ([.fieldLink RX6 107 "FigurehouseModel" "latest" "I", .fieldLink RX6 50 "FigurehouseModel" "thrown" "I", .fieldLink RX6 29 "FigurehouseModel" "refused" "[I", .methodLink RX6 57 yX6_isIn, .static yX6_isIn, .initialized RX6, .code yX6_isIn cX6_isIn 3 (some .boolean)] ++ wsX60)
def wsX6_sumOf : List Cond := .code yX6_sumOf cX6_sumOf 9 (some .int) :: ([.fieldLink RX6 61 "FigurehouseModel" "items" "I", .fieldLink RX6 54 "FigurehouseModel" "areas" "I", .fieldLink RX6 13 "FigurehouseModel" "itemIn" "[I", .fieldLink RX6 7 "FigurehouseModel" "areaIn" "[I", .fieldLink RX6 44 "FigurehouseModel" "values" "[I", .constant RX6 86 (-2000000001)] ++ wsX60)
def wsX6_finds : List Cond := .code yX6_finds cX6_finds 6 none :: ([.fieldLink RX6 54 "FigurehouseModel" "areas" "I", .fieldLink RX6 61 "FigurehouseModel" "items" "I", .constant RX6 86 (-2000000001), .fieldLink RX6 44 "FigurehouseModel" "values" "[I", .methodLink RX6 82 yX6_cellOf, .static yX6_cellOf, .initialized RX6, .code yX6_cellOf cX6_cellOf 3 (some .int), .methodLink RX6 93 yX6_figureOn, .instanceMethod yX6_figureOn, .selects RX6 yX6_figureOn yX6_figureOn, .code yX6_figureOn cX6_figureOn 5 (some .int), .fieldLink RX6 87 "FigurehouseModel" "done" "I", .fieldLink RX6 32 "FigurehouseModel" "doneCell" "[I", .fieldLink RX6 35 "FigurehouseModel" "doneDay" "[I", .fieldLink RX6 38 "FigurehouseModel" "doneValue" "[I", .methodLink RX6 110 yX6_sumOf, .instanceMethod yX6_sumOf, .selects RX6 yX6_sumOf yX6_sumOf, .code yX6_sumOf cX6_sumOf 9 (some .int), .fieldLink RX6 13 "FigurehouseModel" "itemIn" "[I", .fieldLink RX6 7 "FigurehouseModel" "areaIn" "[I"] ++ wsX60)
def wsX6_hides : List Cond := .code yX6_hides cX6_hides 7 (some .int) :: ([.fieldLink RX6 47 "FigurehouseModel" "isHidden" "[Z", .fieldLink RX6 61 "FigurehouseModel" "items" "I", .fieldLink RX6 54 "FigurehouseModel" "areas" "I", .fieldLink RX6 13 "FigurehouseModel" "itemIn" "[I", .fieldLink RX6 7 "FigurehouseModel" "areaIn" "[I"] ++ wsX60)
def wsX6_size : List Cond := .code yX6_size cX6_size 1 (some .int) :: ([])
def wsX6_looks : List Cond := .code yX6_looks cX6_looks 9 (some .boolean) :: ([.constant RX6 86 (-2000000001), .fieldLink RX6 44 "FigurehouseModel" "values" "[I", .fieldLink RX6 61 "FigurehouseModel" "items" "I", .fieldLink RX6 54 "FigurehouseModel" "areas" "I", .fieldLink RX6 13 "FigurehouseModel" "itemIn" "[I", .fieldLink RX6 7 "FigurehouseModel" "areaIn" "[I", .fieldLink RX6 47 "FigurehouseModel" "isHidden" "[Z", .methodLink RX6 110 yX6_sumOf, .instanceMethod yX6_sumOf, .selects RX6 yX6_sumOf yX6_sumOf, .initialized RX6, .code yX6_sumOf cX6_sumOf 9 (some .int), .methodLink RX6 114 yX6_hides, .instanceMethod yX6_hides, .selects RX6 yX6_hides yX6_hides, .code yX6_hides cX6_hides 7 (some .int), .methodLink RX6 117 yX6_size, .static yX6_size, .code yX6_size cX6_size 1 (some .int)] ++ wsX60)
def wsX6_covers_r1 : List Cond := [Cond.fieldLink RX6 90 "FigurehouseModel" "today" "I", Cond.fieldLink RX6 47 "FigurehouseModel" "isHidden" "[Z", Cond.fieldLink RX6 54 "FigurehouseModel" "areas" "I", Cond.fieldLink RX6 61 "FigurehouseModel" "items" "I", Cond.fieldLink RX6 41 "FigurehouseModel" "isSecret" "[Z", Cond.fieldLink RX6 44 "FigurehouseModel" "values" "[I", Cond.constant RX6 86 (-2000000001), Cond.methodLink RX6 121 yX6_finds, Cond.instanceMethod yX6_finds, Cond.selects RX6 yX6_finds yX6_finds, Cond.initialized RX6, Cond.code yX6_finds cX6_finds 6 none, Cond.methodLink RX6 82 yX6_cellOf, Cond.static yX6_cellOf, Cond.code yX6_cellOf cX6_cellOf 3 (some .int), Cond.methodLink RX6 93 yX6_figureOn, Cond.instanceMethod yX6_figureOn, Cond.selects RX6 yX6_figureOn yX6_figureOn, Cond.code yX6_figureOn cX6_figureOn 5 (some .int), Cond.fieldLink RX6 87 "FigurehouseModel" "done" "I", Cond.fieldLink RX6 32 "FigurehouseModel" "doneCell" "[I", Cond.fieldLink RX6 35 "FigurehouseModel" "doneDay" "[I", Cond.fieldLink RX6 38 "FigurehouseModel" "doneValue" "[I", Cond.methodLink RX6 110 yX6_sumOf]
def wsX6_covers_r2 : List Cond := [Cond.instanceMethod yX6_sumOf, Cond.selects RX6 yX6_sumOf yX6_sumOf, Cond.code yX6_sumOf cX6_sumOf 9 (some .int), Cond.fieldLink RX6 13 "FigurehouseModel" "itemIn" "[I", Cond.fieldLink RX6 7 "FigurehouseModel" "areaIn" "[I", Cond.methodLink RX6 125 yX6_looks, Cond.instanceMethod yX6_looks, Cond.selects RX6 yX6_looks yX6_looks, Cond.code yX6_looks cX6_looks 9 (some .boolean), Cond.methodLink RX6 114 yX6_hides, Cond.instanceMethod yX6_hides, Cond.selects RX6 yX6_hides yX6_hides, Cond.code yX6_hides cX6_hides 7 (some .int), Cond.methodLink RX6 117 yX6_size, Cond.static yX6_size, Cond.code yX6_size cX6_size 1 (some .int)]
def wsX6_covers : List Cond := .code yX6_covers cX6_covers 7 (some .int) :: ((wsX6_covers_r1 ++ wsX6_covers_r2) ++ wsX60)
def wsX6_secret_r1 : List Cond := [Cond.fieldLink RX6 50 "FigurehouseModel" "thrown" "I", Cond.fieldLink RX6 41 "FigurehouseModel" "isSecret" "[Z", Cond.methodLink RX6 74 yX6_isCell, Cond.instanceMethod yX6_isCell, Cond.selects RX6 yX6_isCell yX6_isCell, Cond.initialized RX6, Cond.code yX6_isCell cX6_isCell 4 (some .boolean), Cond.methodLink RX6 64 yX6_isArea, Cond.instanceMethod yX6_isArea, Cond.selects RX6 yX6_isArea yX6_isArea, Cond.code yX6_isArea cX6_isArea 2 (some .boolean), Cond.fieldLink RX6 54 "FigurehouseModel" "areas" "I", Cond.methodLink RX6 57 yX6_isIn, Cond.static yX6_isIn, Cond.code yX6_isIn cX6_isIn 3 (some .boolean), Cond.methodLink RX6 68 yX6_isItem, Cond.instanceMethod yX6_isItem, Cond.selects RX6 yX6_isItem yX6_isItem, Cond.code yX6_isItem cX6_isItem 2 (some .boolean), Cond.fieldLink RX6 61 "FigurehouseModel" "items" "I", Cond.methodLink RX6 82 yX6_cellOf, Cond.static yX6_cellOf, Cond.code yX6_cellOf cX6_cellOf 3 (some .int), Cond.methodLink RX6 129 yX6_covers]
def wsX6_secret_r2 : List Cond := [Cond.instanceMethod yX6_covers, Cond.selects RX6 yX6_covers yX6_covers, Cond.code yX6_covers cX6_covers 7 (some .int), Cond.fieldLink RX6 90 "FigurehouseModel" "today" "I", Cond.fieldLink RX6 47 "FigurehouseModel" "isHidden" "[Z", Cond.fieldLink RX6 44 "FigurehouseModel" "values" "[I", Cond.constant RX6 86 (-2000000001), Cond.methodLink RX6 121 yX6_finds, Cond.instanceMethod yX6_finds, Cond.selects RX6 yX6_finds yX6_finds, Cond.code yX6_finds cX6_finds 6 none, Cond.methodLink RX6 93 yX6_figureOn, Cond.instanceMethod yX6_figureOn, Cond.selects RX6 yX6_figureOn yX6_figureOn, Cond.code yX6_figureOn cX6_figureOn 5 (some .int), Cond.fieldLink RX6 87 "FigurehouseModel" "done" "I", Cond.fieldLink RX6 32 "FigurehouseModel" "doneCell" "[I", Cond.fieldLink RX6 35 "FigurehouseModel" "doneDay" "[I", Cond.fieldLink RX6 38 "FigurehouseModel" "doneValue" "[I", Cond.methodLink RX6 110 yX6_sumOf, Cond.instanceMethod yX6_sumOf, Cond.selects RX6 yX6_sumOf yX6_sumOf, Cond.code yX6_sumOf cX6_sumOf 9 (some .int), Cond.fieldLink RX6 13 "FigurehouseModel" "itemIn" "[I"]
def wsX6_secret_r3 : List Cond := [Cond.fieldLink RX6 7 "FigurehouseModel" "areaIn" "[I", Cond.methodLink RX6 125 yX6_looks, Cond.instanceMethod yX6_looks, Cond.selects RX6 yX6_looks yX6_looks, Cond.code yX6_looks cX6_looks 9 (some .boolean), Cond.methodLink RX6 114 yX6_hides, Cond.instanceMethod yX6_hides, Cond.selects RX6 yX6_hides yX6_hides, Cond.code yX6_hides cX6_hides 7 (some .int), Cond.methodLink RX6 117 yX6_size, Cond.static yX6_size, Cond.code yX6_size cX6_size 1 (some .int)]
def wsX6_secret : List Cond := .code yX6_secret cX6_secret 5 (some .int) :: ((wsX6_secret_r1 ++ (wsX6_secret_r2 ++ wsX6_secret_r3)) ++ wsX60)
def wsX6_pass : List Cond := .code yX6_pass cX6_pass 2 (some .int) :: ([.fieldLink RX6 90 "FigurehouseModel" "today" "I", .fieldLink RX6 50 "FigurehouseModel" "thrown" "I", .methodLink RX6 57 yX6_isIn, .static yX6_isIn, .initialized RX6, .code yX6_isIn cX6_isIn 3 (some .boolean)] ++ wsX60)
def wsX6_figure_r1 : List Cond := [Cond.fieldLink RX6 90 "FigurehouseModel" "today" "I", Cond.fieldLink RX6 50 "FigurehouseModel" "thrown" "I", Cond.methodLink RX6 74 yX6_isCell, Cond.instanceMethod yX6_isCell, Cond.selects RX6 yX6_isCell yX6_isCell, Cond.initialized RX6, Cond.code yX6_isCell cX6_isCell 4 (some .boolean), Cond.methodLink RX6 64 yX6_isArea, Cond.instanceMethod yX6_isArea, Cond.selects RX6 yX6_isArea yX6_isArea, Cond.code yX6_isArea cX6_isArea 2 (some .boolean), Cond.fieldLink RX6 54 "FigurehouseModel" "areas" "I", Cond.methodLink RX6 57 yX6_isIn, Cond.static yX6_isIn, Cond.code yX6_isIn cX6_isIn 3 (some .boolean), Cond.methodLink RX6 68 yX6_isItem, Cond.instanceMethod yX6_isItem, Cond.selects RX6 yX6_isItem yX6_isItem, Cond.code yX6_isItem cX6_isItem 2 (some .boolean), Cond.fieldLink RX6 61 "FigurehouseModel" "items" "I", Cond.methodLink RX6 82 yX6_cellOf, Cond.static yX6_cellOf, Cond.code yX6_cellOf cX6_cellOf 3 (some .int), Cond.methodLink RX6 93 yX6_figureOn]
def wsX6_figure_r2 : List Cond := [Cond.instanceMethod yX6_figureOn, Cond.selects RX6 yX6_figureOn yX6_figureOn, Cond.code yX6_figureOn cX6_figureOn 5 (some .int), Cond.constant RX6 86 (-2000000001), Cond.fieldLink RX6 87 "FigurehouseModel" "done" "I", Cond.fieldLink RX6 32 "FigurehouseModel" "doneCell" "[I", Cond.fieldLink RX6 35 "FigurehouseModel" "doneDay" "[I", Cond.fieldLink RX6 38 "FigurehouseModel" "doneValue" "[I"]
def wsX6_figure : List Cond := .code yX6_figure cX6_figure 5 (some .int) :: ((wsX6_figure_r1 ++ wsX6_figure_r2) ++ wsX60)
def wsX6_value_r1 : List Cond := [Cond.fieldLink RX6 90 "FigurehouseModel" "today" "I", Cond.fieldLink RX6 50 "FigurehouseModel" "thrown" "I", Cond.fieldLink RX6 44 "FigurehouseModel" "values" "[I", Cond.methodLink RX6 74 yX6_isCell, Cond.instanceMethod yX6_isCell, Cond.selects RX6 yX6_isCell yX6_isCell, Cond.initialized RX6, Cond.code yX6_isCell cX6_isCell 4 (some .boolean), Cond.methodLink RX6 64 yX6_isArea, Cond.instanceMethod yX6_isArea, Cond.selects RX6 yX6_isArea yX6_isArea, Cond.code yX6_isArea cX6_isArea 2 (some .boolean), Cond.fieldLink RX6 54 "FigurehouseModel" "areas" "I", Cond.methodLink RX6 57 yX6_isIn, Cond.static yX6_isIn, Cond.code yX6_isIn cX6_isIn 3 (some .boolean), Cond.methodLink RX6 68 yX6_isItem, Cond.instanceMethod yX6_isItem, Cond.selects RX6 yX6_isItem yX6_isItem, Cond.code yX6_isItem cX6_isItem 2 (some .boolean), Cond.fieldLink RX6 61 "FigurehouseModel" "items" "I", Cond.methodLink RX6 121 yX6_finds, Cond.instanceMethod yX6_finds, Cond.selects RX6 yX6_finds yX6_finds]
def wsX6_value_r2 : List Cond := [Cond.code yX6_finds cX6_finds 6 none, Cond.constant RX6 86 (-2000000001), Cond.methodLink RX6 82 yX6_cellOf, Cond.static yX6_cellOf, Cond.code yX6_cellOf cX6_cellOf 3 (some .int), Cond.methodLink RX6 93 yX6_figureOn, Cond.instanceMethod yX6_figureOn, Cond.selects RX6 yX6_figureOn yX6_figureOn, Cond.code yX6_figureOn cX6_figureOn 5 (some .int), Cond.fieldLink RX6 87 "FigurehouseModel" "done" "I", Cond.fieldLink RX6 32 "FigurehouseModel" "doneCell" "[I", Cond.fieldLink RX6 35 "FigurehouseModel" "doneDay" "[I", Cond.fieldLink RX6 38 "FigurehouseModel" "doneValue" "[I", Cond.methodLink RX6 110 yX6_sumOf, Cond.instanceMethod yX6_sumOf, Cond.selects RX6 yX6_sumOf yX6_sumOf, Cond.code yX6_sumOf cX6_sumOf 9 (some .int), Cond.fieldLink RX6 13 "FigurehouseModel" "itemIn" "[I", Cond.fieldLink RX6 7 "FigurehouseModel" "areaIn" "[I"]
def wsX6_value : List Cond := .code yX6_value cX6_value 5 (some .int) :: ((wsX6_value_r1 ++ wsX6_value_r2) ++ wsX60)
def wsX6_first_r1 : List Cond := [Cond.fieldLink RX6 50 "FigurehouseModel" "thrown" "I", Cond.fieldLink RX6 87 "FigurehouseModel" "done" "I", Cond.fieldLink RX6 32 "FigurehouseModel" "doneCell" "[I", Cond.fieldLink RX6 38 "FigurehouseModel" "doneValue" "[I", Cond.constant RX6 86 (-2000000001), Cond.methodLink RX6 74 yX6_isCell, Cond.instanceMethod yX6_isCell, Cond.selects RX6 yX6_isCell yX6_isCell, Cond.initialized RX6, Cond.code yX6_isCell cX6_isCell 4 (some .boolean), Cond.methodLink RX6 64 yX6_isArea, Cond.instanceMethod yX6_isArea, Cond.selects RX6 yX6_isArea yX6_isArea, Cond.code yX6_isArea cX6_isArea 2 (some .boolean), Cond.fieldLink RX6 54 "FigurehouseModel" "areas" "I", Cond.methodLink RX6 57 yX6_isIn, Cond.static yX6_isIn, Cond.code yX6_isIn cX6_isIn 3 (some .boolean), Cond.methodLink RX6 68 yX6_isItem, Cond.instanceMethod yX6_isItem, Cond.selects RX6 yX6_isItem yX6_isItem, Cond.code yX6_isItem cX6_isItem 2 (some .boolean), Cond.fieldLink RX6 61 "FigurehouseModel" "items" "I", Cond.methodLink RX6 82 yX6_cellOf]
def wsX6_first_r2 : List Cond := [Cond.static yX6_cellOf, Cond.code yX6_cellOf cX6_cellOf 3 (some .int)]
def wsX6_first : List Cond := .code yX6_first cX6_first 5 (some .int) :: ((wsX6_first_r1 ++ wsX6_first_r2) ++ wsX60)
def wsX6_revisions : List Cond := .code yX6_revisions cX6_revisions 6 (some .int) :: ([.fieldLink RX6 50 "FigurehouseModel" "thrown" "I", .fieldLink RX6 87 "FigurehouseModel" "done" "I", .fieldLink RX6 32 "FigurehouseModel" "doneCell" "[I", .methodLink RX6 74 yX6_isCell, .instanceMethod yX6_isCell, .selects RX6 yX6_isCell yX6_isCell, .initialized RX6, .code yX6_isCell cX6_isCell 4 (some .boolean), .methodLink RX6 64 yX6_isArea, .instanceMethod yX6_isArea, .selects RX6 yX6_isArea yX6_isArea, .code yX6_isArea cX6_isArea 2 (some .boolean), .fieldLink RX6 54 "FigurehouseModel" "areas" "I", .methodLink RX6 57 yX6_isIn, .static yX6_isIn, .code yX6_isIn cX6_isIn 3 (some .boolean), .methodLink RX6 68 yX6_isItem, .instanceMethod yX6_isItem, .selects RX6 yX6_isItem yX6_isItem, .code yX6_isItem cX6_isItem 2 (some .boolean), .fieldLink RX6 61 "FigurehouseModel" "items" "I", .methodLink RX6 82 yX6_cellOf, .static yX6_cellOf, .code yX6_cellOf cX6_cellOf 3 (some .int)] ++ wsX60)
def wsX6_hasFault_r1 : List Cond := [Cond.fieldLink RX6 50 "FigurehouseModel" "thrown" "I", Cond.fieldLink RX6 90 "FigurehouseModel" "today" "I", Cond.constant RX6 86 (-2000000001), Cond.methodLink RX6 74 yX6_isCell, Cond.instanceMethod yX6_isCell, Cond.selects RX6 yX6_isCell yX6_isCell, Cond.initialized RX6, Cond.code yX6_isCell cX6_isCell 4 (some .boolean), Cond.methodLink RX6 64 yX6_isArea, Cond.instanceMethod yX6_isArea, Cond.selects RX6 yX6_isArea yX6_isArea, Cond.code yX6_isArea cX6_isArea 2 (some .boolean), Cond.fieldLink RX6 54 "FigurehouseModel" "areas" "I", Cond.methodLink RX6 57 yX6_isIn, Cond.static yX6_isIn, Cond.code yX6_isIn cX6_isIn 3 (some .boolean), Cond.methodLink RX6 68 yX6_isItem, Cond.instanceMethod yX6_isItem, Cond.selects RX6 yX6_isItem yX6_isItem, Cond.code yX6_isItem cX6_isItem 2 (some .boolean), Cond.fieldLink RX6 61 "FigurehouseModel" "items" "I", Cond.methodLink RX6 121 yX6_finds, Cond.instanceMethod yX6_finds, Cond.selects RX6 yX6_finds yX6_finds]
def wsX6_hasFault_r2 : List Cond := [Cond.code yX6_finds cX6_finds 6 none, Cond.fieldLink RX6 44 "FigurehouseModel" "values" "[I", Cond.methodLink RX6 82 yX6_cellOf, Cond.static yX6_cellOf, Cond.code yX6_cellOf cX6_cellOf 3 (some .int), Cond.methodLink RX6 93 yX6_figureOn, Cond.instanceMethod yX6_figureOn, Cond.selects RX6 yX6_figureOn yX6_figureOn, Cond.code yX6_figureOn cX6_figureOn 5 (some .int), Cond.fieldLink RX6 87 "FigurehouseModel" "done" "I", Cond.fieldLink RX6 32 "FigurehouseModel" "doneCell" "[I", Cond.fieldLink RX6 35 "FigurehouseModel" "doneDay" "[I", Cond.fieldLink RX6 38 "FigurehouseModel" "doneValue" "[I", Cond.methodLink RX6 110 yX6_sumOf, Cond.instanceMethod yX6_sumOf, Cond.selects RX6 yX6_sumOf yX6_sumOf, Cond.code yX6_sumOf cX6_sumOf 9 (some .int), Cond.fieldLink RX6 13 "FigurehouseModel" "itemIn" "[I", Cond.fieldLink RX6 7 "FigurehouseModel" "areaIn" "[I"]
def wsX6_hasFault : List Cond := .code yX6_hasFault cX6_hasFault 7 (some .boolean) :: ((wsX6_hasFault_r1 ++ wsX6_hasFault_r2) ++ wsX60)
def wsX6_shown_r1 : List Cond := [Cond.fieldLink RX6 50 "FigurehouseModel" "thrown" "I", Cond.fieldLink RX6 47 "FigurehouseModel" "isHidden" "[Z", Cond.constant RX6 132 (-2000000002), Cond.fieldLink RX6 44 "FigurehouseModel" "values" "[I", Cond.methodLink RX6 74 yX6_isCell, Cond.instanceMethod yX6_isCell, Cond.selects RX6 yX6_isCell yX6_isCell, Cond.initialized RX6, Cond.code yX6_isCell cX6_isCell 4 (some .boolean), Cond.methodLink RX6 64 yX6_isArea, Cond.instanceMethod yX6_isArea, Cond.selects RX6 yX6_isArea yX6_isArea, Cond.code yX6_isArea cX6_isArea 2 (some .boolean), Cond.fieldLink RX6 54 "FigurehouseModel" "areas" "I", Cond.methodLink RX6 57 yX6_isIn, Cond.static yX6_isIn, Cond.code yX6_isIn cX6_isIn 3 (some .boolean), Cond.methodLink RX6 68 yX6_isItem, Cond.instanceMethod yX6_isItem, Cond.selects RX6 yX6_isItem yX6_isItem, Cond.code yX6_isItem cX6_isItem 2 (some .boolean), Cond.fieldLink RX6 61 "FigurehouseModel" "items" "I", Cond.methodLink RX6 129 yX6_covers, Cond.instanceMethod yX6_covers]
def wsX6_shown_r2 : List Cond := [Cond.selects RX6 yX6_covers yX6_covers, Cond.code yX6_covers cX6_covers 7 (some .int), Cond.fieldLink RX6 90 "FigurehouseModel" "today" "I", Cond.fieldLink RX6 41 "FigurehouseModel" "isSecret" "[Z", Cond.constant RX6 86 (-2000000001), Cond.methodLink RX6 121 yX6_finds, Cond.instanceMethod yX6_finds, Cond.selects RX6 yX6_finds yX6_finds, Cond.code yX6_finds cX6_finds 6 none, Cond.methodLink RX6 82 yX6_cellOf, Cond.static yX6_cellOf, Cond.code yX6_cellOf cX6_cellOf 3 (some .int), Cond.methodLink RX6 93 yX6_figureOn, Cond.instanceMethod yX6_figureOn, Cond.selects RX6 yX6_figureOn yX6_figureOn, Cond.code yX6_figureOn cX6_figureOn 5 (some .int), Cond.fieldLink RX6 87 "FigurehouseModel" "done" "I", Cond.fieldLink RX6 32 "FigurehouseModel" "doneCell" "[I", Cond.fieldLink RX6 35 "FigurehouseModel" "doneDay" "[I", Cond.fieldLink RX6 38 "FigurehouseModel" "doneValue" "[I", Cond.methodLink RX6 110 yX6_sumOf, Cond.instanceMethod yX6_sumOf, Cond.selects RX6 yX6_sumOf yX6_sumOf, Cond.code yX6_sumOf cX6_sumOf 9 (some .int)]
def wsX6_shown_r3 : List Cond := [Cond.fieldLink RX6 13 "FigurehouseModel" "itemIn" "[I", Cond.fieldLink RX6 7 "FigurehouseModel" "areaIn" "[I", Cond.methodLink RX6 125 yX6_looks, Cond.instanceMethod yX6_looks, Cond.selects RX6 yX6_looks yX6_looks, Cond.code yX6_looks cX6_looks 9 (some .boolean), Cond.methodLink RX6 114 yX6_hides, Cond.instanceMethod yX6_hides, Cond.selects RX6 yX6_hides yX6_hides, Cond.code yX6_hides cX6_hides 7 (some .int), Cond.methodLink RX6 117 yX6_size, Cond.static yX6_size, Cond.code yX6_size cX6_size 1 (some .int)]
def wsX6_shown : List Cond := .code yX6_shown cX6_shown 5 (some .int) :: ((wsX6_shown_r1 ++ (wsX6_shown_r2 ++ wsX6_shown_r3)) ++ wsX60)
def wsX6_hidden_r1 : List Cond := [Cond.fieldLink RX6 50 "FigurehouseModel" "thrown" "I", Cond.methodLink RX6 57 yX6_isIn, Cond.static yX6_isIn, Cond.initialized RX6, Cond.code yX6_isIn cX6_isIn 3 (some .boolean), Cond.methodLink RX6 129 yX6_covers, Cond.instanceMethod yX6_covers, Cond.selects RX6 yX6_covers yX6_covers, Cond.code yX6_covers cX6_covers 7 (some .int), Cond.fieldLink RX6 90 "FigurehouseModel" "today" "I", Cond.fieldLink RX6 47 "FigurehouseModel" "isHidden" "[Z", Cond.fieldLink RX6 54 "FigurehouseModel" "areas" "I", Cond.fieldLink RX6 61 "FigurehouseModel" "items" "I", Cond.fieldLink RX6 41 "FigurehouseModel" "isSecret" "[Z", Cond.fieldLink RX6 44 "FigurehouseModel" "values" "[I", Cond.constant RX6 86 (-2000000001), Cond.methodLink RX6 121 yX6_finds, Cond.instanceMethod yX6_finds, Cond.selects RX6 yX6_finds yX6_finds, Cond.code yX6_finds cX6_finds 6 none, Cond.methodLink RX6 82 yX6_cellOf, Cond.static yX6_cellOf, Cond.code yX6_cellOf cX6_cellOf 3 (some .int), Cond.methodLink RX6 93 yX6_figureOn]
def wsX6_hidden_r2 : List Cond := [Cond.instanceMethod yX6_figureOn, Cond.selects RX6 yX6_figureOn yX6_figureOn, Cond.code yX6_figureOn cX6_figureOn 5 (some .int), Cond.fieldLink RX6 87 "FigurehouseModel" "done" "I", Cond.fieldLink RX6 32 "FigurehouseModel" "doneCell" "[I", Cond.fieldLink RX6 35 "FigurehouseModel" "doneDay" "[I", Cond.fieldLink RX6 38 "FigurehouseModel" "doneValue" "[I", Cond.methodLink RX6 110 yX6_sumOf, Cond.instanceMethod yX6_sumOf, Cond.selects RX6 yX6_sumOf yX6_sumOf, Cond.code yX6_sumOf cX6_sumOf 9 (some .int), Cond.fieldLink RX6 13 "FigurehouseModel" "itemIn" "[I", Cond.fieldLink RX6 7 "FigurehouseModel" "areaIn" "[I", Cond.methodLink RX6 125 yX6_looks, Cond.instanceMethod yX6_looks, Cond.selects RX6 yX6_looks yX6_looks, Cond.code yX6_looks cX6_looks 9 (some .boolean), Cond.methodLink RX6 114 yX6_hides, Cond.instanceMethod yX6_hides, Cond.selects RX6 yX6_hides yX6_hides, Cond.code yX6_hides cX6_hides 7 (some .int), Cond.methodLink RX6 117 yX6_size, Cond.static yX6_size, Cond.code yX6_size cX6_size 1 (some .int)]
def wsX6_hidden : List Cond := .code yX6_hidden cX6_hidden 2 (some .int) :: ((wsX6_hidden_r1 ++ wsX6_hidden_r2) ++ wsX60)
def wsX6_isWithin : List Cond := .code yX6_isWithin cX6_isWithin 6 (some .boolean) :: ([.fieldLink RX6 13 "FigurehouseModel" "itemIn" "[I", .fieldLink RX6 7 "FigurehouseModel" "areaIn" "[I"] ++ wsX60)
def wsX6_toldOn : List Cond := .code yX6_toldOn cX6_toldOn 4 (some .int) :: ([.fieldLink RX6 87 "FigurehouseModel" "done" "I", .fieldLink RX6 32 "FigurehouseModel" "doneCell" "[I", .fieldLink RX6 35 "FigurehouseModel" "doneDay" "[I"] ++ wsX60)
def wsX6_find_r1 : List Cond := [Cond.fieldLink RX6 50 "FigurehouseModel" "thrown" "I", Cond.fieldLink RX6 54 "FigurehouseModel" "areas" "I", Cond.fieldLink RX6 61 "FigurehouseModel" "items" "I", Cond.fieldLink RX6 90 "FigurehouseModel" "today" "I", Cond.constant RX6 86 (-2000000001), Cond.methodLink RX6 64 yX6_isArea, Cond.instanceMethod yX6_isArea, Cond.selects RX6 yX6_isArea yX6_isArea, Cond.initialized RX6, Cond.code yX6_isArea cX6_isArea 2 (some .boolean), Cond.methodLink RX6 57 yX6_isIn, Cond.static yX6_isIn, Cond.code yX6_isIn cX6_isIn 3 (some .boolean), Cond.methodLink RX6 68 yX6_isItem, Cond.instanceMethod yX6_isItem, Cond.selects RX6 yX6_isItem yX6_isItem, Cond.code yX6_isItem cX6_isItem 2 (some .boolean), Cond.methodLink RX6 82 yX6_cellOf, Cond.static yX6_cellOf, Cond.code yX6_cellOf cX6_cellOf 3 (some .int), Cond.methodLink RX6 133 yX6_isWithin, Cond.instanceMethod yX6_isWithin, Cond.selects RX6 yX6_isWithin yX6_isWithin, Cond.code yX6_isWithin cX6_isWithin 6 (some .boolean)]
def wsX6_find_r2 : List Cond := [Cond.fieldLink RX6 13 "FigurehouseModel" "itemIn" "[I", Cond.fieldLink RX6 7 "FigurehouseModel" "areaIn" "[I", Cond.methodLink RX6 93 yX6_figureOn, Cond.instanceMethod yX6_figureOn, Cond.selects RX6 yX6_figureOn yX6_figureOn, Cond.code yX6_figureOn cX6_figureOn 5 (some .int), Cond.fieldLink RX6 87 "FigurehouseModel" "done" "I", Cond.fieldLink RX6 32 "FigurehouseModel" "doneCell" "[I", Cond.fieldLink RX6 35 "FigurehouseModel" "doneDay" "[I", Cond.fieldLink RX6 38 "FigurehouseModel" "doneValue" "[I", Cond.methodLink RX6 136 yX6_toldOn, Cond.instanceMethod yX6_toldOn, Cond.selects RX6 yX6_toldOn yX6_toldOn, Cond.code yX6_toldOn cX6_toldOn 4 (some .int)]
def wsX6_find : List Cond := .code yX6_find cX6_find 13 (some .int) :: ((wsX6_find_r1 ++ wsX6_find_r2) ++ wsX60)
def wsX6_mayTell : List Cond := .code yX6_mayTell cX6_mayTell 3 (some .boolean) :: ([.fieldLink RX6 50 "FigurehouseModel" "thrown" "I", .methodLink RX6 71 yX6_isSender, .static yX6_isSender, .initialized RX6, .code yX6_isSender cX6_isSender 1 (some .boolean), .methodLink RX6 57 yX6_isIn, .static yX6_isIn, .code yX6_isIn cX6_isIn 3 (some .boolean), .methodLink RX6 64 yX6_isArea, .instanceMethod yX6_isArea, .selects RX6 yX6_isArea yX6_isArea, .code yX6_isArea cX6_isArea 2 (some .boolean), .fieldLink RX6 54 "FigurehouseModel" "areas" "I", .methodLink RX6 97 yX6_may, .instanceMethod yX6_may, .selects RX6 yX6_may yX6_may, .code yX6_may cX6_may 5 (some .boolean), .fieldLink RX6 16 "FigurehouseModel" "agreed" "[Z", .fieldLink RX6 7 "FigurehouseModel" "areaIn" "[I"] ++ wsX60)
def wsJ9_abs_0f7a4 : List Cond := .code yJ9_abs_0f7a4 cJ9_abs_0f7a4 1 (some .int) :: ([])
def wsL_area_r1 : List Cond := [Cond.classLink RL 13 "java/lang/IndexOutOfBoundsException", Cond.classLink RL 15 "java/lang/IllegalStateException", Cond.methodLink RL 7 yX5_area, Cond.instanceMethod yX5_area, Cond.selects RX5 yX5_area yX5_area, Cond.initialized RX5, Cond.code yX5_area cX5_area 2 (some .int), Cond.fieldLink RX5 14 "Figurehouse" "areas" "LFigurehouse$Tree;", Cond.methodLink RX5 57 yX5_requirePattern, Cond.static yX5_requirePattern, Cond.code yX5_requirePattern cX5_requirePattern 2 none, Cond.classLink RX5 129 "java/lang/IndexOutOfBoundsException", Cond.initialized "java/lang/IndexOutOfBoundsException", Cond.methodLink RX5 208 yX4_has, Cond.instanceMethod yX4_has, Cond.selects RX4 yX4_has yX4_has, Cond.initialized RX4, Cond.code yX4_has cX4_has 2 (some .boolean), Cond.fieldLink RX4 17 "Figurehouse$Tree" "size" "I", Cond.methodLink RX5 61 yX5_requireRoom, Cond.static yX5_requireRoom, Cond.code yX5_requireRoom cX5_requireRoom 1 none, Cond.classLink RX5 99 "java/lang/IllegalStateException", Cond.initialized "java/lang/IllegalStateException"]
def wsL_area_r2 : List Cond := [Cond.methodLink RX5 213 yX4_isFull, Cond.instanceMethod yX4_isFull, Cond.selects RX4 yX4_isFull yX4_isFull, Cond.code yX4_isFull cX4_isFull 1 (some .boolean), Cond.fieldLink RX4 7 "Figurehouse$Tree" "outer" "[I", Cond.methodLink RX5 65 yX4_grow, Cond.instanceMethod yX4_grow, Cond.selects RX4 yX4_grow yX4_grow, Cond.code yX4_grow cX4_grow 3 (some .int)]
def wsL_area : List Cond := .codeWith yL_area cL_area 4 (some .int) [(0, 9, 12, 13), (0, 9, 15, 15)] :: ((wsL_area_r1 ++ wsL_area_r2) ++ wsX50 ++ wsX40 ++ (vx_atS RX5 133 "java/lang/IndexOutOfBoundsException" ["java/lang/RuntimeException", "java/lang/Exception"]).filter goodWord ++ (vx_atS RX5 103 "java/lang/IllegalStateException" ["java/lang/RuntimeException", "java/lang/Exception"]).filter goodWord)
def wsL_item_r1 : List Cond := [Cond.classLink RL 13 "java/lang/IndexOutOfBoundsException", Cond.classLink RL 15 "java/lang/IllegalStateException", Cond.methodLink RL 17 yX5_item, Cond.instanceMethod yX5_item, Cond.selects RX5 yX5_item yX5_item, Cond.initialized RX5, Cond.code yX5_item cX5_item 2 (some .int), Cond.fieldLink RX5 18 "Figurehouse" "items" "LFigurehouse$Tree;", Cond.methodLink RX5 57 yX5_requirePattern, Cond.static yX5_requirePattern, Cond.code yX5_requirePattern cX5_requirePattern 2 none, Cond.classLink RX5 129 "java/lang/IndexOutOfBoundsException", Cond.initialized "java/lang/IndexOutOfBoundsException", Cond.methodLink RX5 208 yX4_has, Cond.instanceMethod yX4_has, Cond.selects RX4 yX4_has yX4_has, Cond.initialized RX4, Cond.code yX4_has cX4_has 2 (some .boolean), Cond.fieldLink RX4 17 "Figurehouse$Tree" "size" "I", Cond.methodLink RX5 61 yX5_requireRoom, Cond.static yX5_requireRoom, Cond.code yX5_requireRoom cX5_requireRoom 1 none, Cond.classLink RX5 99 "java/lang/IllegalStateException", Cond.initialized "java/lang/IllegalStateException"]
def wsL_item_r2 : List Cond := [Cond.methodLink RX5 213 yX4_isFull, Cond.instanceMethod yX4_isFull, Cond.selects RX4 yX4_isFull yX4_isFull, Cond.code yX4_isFull cX4_isFull 1 (some .boolean), Cond.fieldLink RX4 7 "Figurehouse$Tree" "outer" "[I", Cond.methodLink RX5 65 yX4_grow, Cond.instanceMethod yX4_grow, Cond.selects RX4 yX4_grow yX4_grow, Cond.code yX4_grow cX4_grow 3 (some .int)]
def wsL_item : List Cond := .codeWith yL_item cL_item 4 (some .int) [(0, 9, 12, 13), (0, 9, 15, 15)] :: ((wsL_item_r1 ++ wsL_item_r2) ++ wsX50 ++ wsX40 ++ (vx_atS RX5 133 "java/lang/IndexOutOfBoundsException" ["java/lang/RuntimeException", "java/lang/Exception"]).filter goodWord ++ (vx_atS RX5 103 "java/lang/IllegalStateException" ["java/lang/RuntimeException", "java/lang/Exception"]).filter goodWord)
def wsL_agree_r1 : List Cond := [Cond.classLink RL 13 "java/lang/IndexOutOfBoundsException", Cond.methodLink RL 20 yX5_agree, Cond.instanceMethod yX5_agree, Cond.selects RX5 yX5_agree yX5_agree, Cond.initialized RX5, Cond.code yX5_agree cX5_agree 4 (some .boolean), Cond.fieldLink RX5 24 "Figurehouse" "agreements" "LFigurehouse$Agreements;", Cond.methodLink RX5 69 yX5_requireSender, Cond.static yX5_requireSender, Cond.code yX5_requireSender cX5_requireSender 1 none, Cond.classLink RX5 129 "java/lang/IndexOutOfBoundsException", Cond.initialized "java/lang/IndexOutOfBoundsException", Cond.methodLink RX5 73 yX5_requireArea, Cond.instanceMethod yX5_requireArea, Cond.selects RX5 yX5_requireArea yX5_requireArea, Cond.code yX5_requireArea cX5_requireArea 2 none, Cond.fieldLink RX5 14 "Figurehouse" "areas" "LFigurehouse$Tree;", Cond.methodLink RX5 208 yX4_has, Cond.instanceMethod yX4_has, Cond.selects RX4 yX4_has yX4_has, Cond.initialized RX4, Cond.code yX4_has cX4_has 2 (some .boolean), Cond.fieldLink RX4 17 "Figurehouse$Tree" "size" "I", Cond.methodLink RX5 76 yX0_change]
def wsL_agree_r2 : List Cond := [Cond.instanceMethod yX0_change, Cond.selects RX0 yX0_change yX0_change, Cond.initialized RX0, Cond.code yX0_change cX0_change 6 (some .boolean), Cond.fieldLink RX0 9 "Figurehouse$Agreements" "isOn" "[Z"]
def wsL_agree : List Cond := .codeWith yL_agree cL_agree 6 (some .int) [(0, 19, 22, 13)] :: ((wsL_agree_r1 ++ wsL_agree_r2) ++ wsX50 ++ wsX40 ++ wsX00 ++ (vx_atS RX5 133 "java/lang/IndexOutOfBoundsException" ["java/lang/RuntimeException", "java/lang/Exception"]).filter goodWord)
def wsL_put_r1 : List Cond := [Cond.classLink RL 13 "java/lang/IndexOutOfBoundsException", Cond.classLink RL 28 "java/lang/IllegalArgumentException", Cond.classLink RL 15 "java/lang/IllegalStateException", Cond.methodLink RL 24 yX5_put, Cond.instanceMethod yX5_put, Cond.selects RX5 yX5_put yX5_put, Cond.initialized RX5, Cond.code yX5_put cX5_put 7 (some .int), Cond.classLink RX5 84 "java/lang/IllegalArgumentException", Cond.initialized "java/lang/IllegalArgumentException", Cond.classLink RX5 99 "java/lang/IllegalStateException", Cond.initialized "java/lang/IllegalStateException", Cond.constant RX5 91 (-1000000), Cond.constant RX5 92 (1000000), Cond.fieldLink RX5 31 "Figurehouse" "draft" "LFigurehouse$Draft;", Cond.methodLink RX5 80 yX5_requireCell, Cond.instanceMethod yX5_requireCell, Cond.selects RX5 yX5_requireCell yX5_requireCell, Cond.code yX5_requireCell cX5_requireCell 4 (some .int), Cond.classLink RX5 129 "java/lang/IndexOutOfBoundsException", Cond.initialized "java/lang/IndexOutOfBoundsException", Cond.fieldLink RX5 14 "Figurehouse" "areas" "LFigurehouse$Tree;", Cond.fieldLink RX5 18 "Figurehouse" "items" "LFigurehouse$Tree;", Cond.methodLink RX5 208 yX4_has]
def wsL_put_r2 : List Cond := [Cond.instanceMethod yX4_has, Cond.selects RX4 yX4_has yX4_has, Cond.initialized RX4, Cond.code yX4_has cX4_has 2 (some .boolean), Cond.fieldLink RX4 17 "Figurehouse$Tree" "size" "I", Cond.methodLink RX5 187 yX5_isPeriod, Cond.static yX5_isPeriod, Cond.code yX5_isPeriod cX5_isPeriod 1 (some .boolean), Cond.methodLink RX5 220 yX5_cellOf, Cond.static yX5_cellOf, Cond.code yX5_cellOf cX5_cellOf 3 (some .int), Cond.methodLink RX5 158 yX5_slotOf, Cond.static yX5_slotOf, Cond.code yX5_slotOf cX5_slotOf 2 (some .int), Cond.methodLink RX5 95 yX2_isFull, Cond.instanceMethod yX2_isFull, Cond.selects RX2 yX2_isFull yX2_isFull, Cond.initialized RX2, Cond.code yX2_isFull cX2_isFull 1 (some .boolean), Cond.fieldLink RX2 24 "Figurehouse$Draft" "size" "I", Cond.methodLink RX5 104 yX2_append, Cond.instanceMethod yX2_append, Cond.selects RX2 yX2_append yX2_append, Cond.code yX2_append cX2_append 5 (some .int)]
def wsL_put_r3 : List Cond := [Cond.fieldLink RX2 9 "Figurehouse$Draft" "whats" "[I", Cond.fieldLink RX2 15 "Figurehouse$Draft" "areas" "[I", Cond.fieldLink RX2 18 "Figurehouse$Draft" "cells" "[I", Cond.fieldLink RX2 21 "Figurehouse$Draft" "values" "[I"]
def wsL_put : List Cond := .codeWith yL_put cL_put 8 (some .int) [(0, 16, 19, 13), (0, 16, 23, 28), (0, 16, 27, 15)] :: ((wsL_put_r1 ++ (wsL_put_r2 ++ wsL_put_r3)) ++ wsX50 ++ wsX40 ++ wsX20 ++ (vx_atS RX5 88 "java/lang/IllegalArgumentException" ["java/lang/RuntimeException", "java/lang/Exception"]).filter goodWord ++ (vx_atS RX5 103 "java/lang/IllegalStateException" ["java/lang/RuntimeException", "java/lang/Exception"]).filter goodWord ++ (vx_atS RX5 133 "java/lang/IndexOutOfBoundsException" ["java/lang/RuntimeException", "java/lang/Exception"]).filter goodWord)
def wsL_send_r1 : List Cond := [Cond.classLink RL 13 "java/lang/IndexOutOfBoundsException", Cond.classLink RL 15 "java/lang/IllegalStateException", Cond.methodLink RL 30 yX5_send, Cond.instanceMethod yX5_send, Cond.selects RX5 yX5_send yX5_send, Cond.initialized RX5, Cond.code yX5_send cX5_send 4 (some .int), Cond.classLink RX5 99 "java/lang/IllegalStateException", Cond.initialized "java/lang/IllegalStateException", Cond.fieldLink RX5 31 "Figurehouse" "draft" "LFigurehouse$Draft;", Cond.fieldLink RX5 118 "Figurehouse" "sentLines" "I", Cond.methodLink RX5 69 yX5_requireSender, Cond.static yX5_requireSender, Cond.code yX5_requireSender cX5_requireSender 1 none, Cond.classLink RX5 129 "java/lang/IndexOutOfBoundsException", Cond.initialized "java/lang/IndexOutOfBoundsException", Cond.methodLink RX5 123 yX5_judgeDraft, Cond.instanceMethod yX5_judgeDraft, Cond.selects RX5 yX5_judgeDraft yX5_judgeDraft, Cond.code yX5_judgeDraft cX5_judgeDraft 5 (some .int), Cond.fieldLink RX5 53 "Figurehouse" "refusals" "[I", Cond.fieldLink RX5 38 "Figurehouse" "book" "LFigurehouse$Book;", Cond.fieldLink RX5 142 "Figurehouse" "today" "I", Cond.fieldLink RX5 126 "Figurehouse" "judgedLines" "I"]
def wsL_send_r2 : List Cond := [Cond.methodLink RX5 225 yX5_judge, Cond.instanceMethod yX5_judge, Cond.selects RX5 yX5_judge yX5_judge, Cond.code yX5_judge cX5_judge 5 (some .int), Cond.fieldLink RX5 24 "Figurehouse" "agreements" "LFigurehouse$Agreements;", Cond.fieldLink RX5 14 "Figurehouse" "areas" "LFigurehouse$Tree;", Cond.constant RX5 173 (-2000000001), Cond.methodLink RX5 202 yX0_cover, Cond.instanceMethod yX0_cover, Cond.selects RX0 yX0_cover yX0_cover, Cond.initialized RX0, Cond.code yX0_cover cX0_cover 5 (some .boolean), Cond.fieldLink RX0 9 "Figurehouse$Agreements" "isOn" "[Z", Cond.methodLink RX0 21 yX4_isWithin, Cond.instanceMethod yX4_isWithin, Cond.selects RX4 yX4_isWithin yX4_isWithin, Cond.initialized RX4, Cond.code yX4_isWithin cX4_isWithin 5 (some .boolean), Cond.fieldLink RX4 17 "Figurehouse$Tree" "size" "I", Cond.fieldLink RX4 7 "Figurehouse$Tree" "outer" "[I", Cond.methodLink RX4 20 yX4_has, Cond.instanceMethod yX4_has, Cond.selects RX4 yX4_has yX4_has, Cond.code yX4_has cX4_has 2 (some .boolean)]
def wsL_send_r3 : List Cond := [Cond.methodLink RX5 231 yX2_figureBehind, Cond.instanceMethod yX2_figureBehind, Cond.selects RX2 yX2_figureBehind yX2_figureBehind, Cond.initialized RX2, Cond.code yX2_figureBehind cX2_figureBehind 2 (some .int), Cond.fieldLink RX2 9 "Figurehouse$Draft" "whats" "[I", Cond.constant RX2 28 (-2000000001), Cond.fieldLink RX2 21 "Figurehouse$Draft" "values" "[I", Cond.methodLink RX5 234 yX1_enter, Cond.instanceMethod yX1_enter, Cond.selects RX1 yX1_enter yX1_enter, Cond.initialized RX1, Cond.code yX1_enter cX1_enter 4 none, Cond.fieldLink RX1 40 "Figurehouse$Book" "size" "I", Cond.fieldLink RX1 24 "Figurehouse$Book" "cells" "[I", Cond.fieldLink RX1 27 "Figurehouse$Book" "days" "[I", Cond.fieldLink RX1 30 "Figurehouse$Book" "figures" "[I", Cond.fieldLink RX1 18 "Figurehouse$Book" "linesDone" "[I", Cond.fieldLink RX1 15 "Figurehouse$Book" "earliest" "[I", Cond.fieldLink RX1 9 "Figurehouse$Book" "latest" "[I", Cond.fieldLink RX1 21 "Figurehouse$Book" "lastDay" "[I", Cond.methodLink RX5 108 yX2_clear, Cond.instanceMethod yX2_clear, Cond.selects RX2 yX2_clear yX2_clear]
def wsL_send_r4 : List Cond := [Cond.code yX2_clear cX2_clear 2 (some .int), Cond.fieldLink RX2 24 "Figurehouse$Draft" "size" "I"]
def wsL_send : List Cond := .codeWith yL_send cL_send 4 (some .int) [(0, 9, 12, 13), (0, 9, 15, 15)] :: ((wsL_send_r1 ++ (wsL_send_r2 ++ (wsL_send_r3 ++ wsL_send_r4))) ++ wsX50 ++ wsX20 ++ wsX10 ++ wsX40 ++ wsX00 ++ (vx_atS RX5 103 "java/lang/IllegalStateException" ["java/lang/RuntimeException", "java/lang/Exception"]).filter goodWord ++ (vx_atS RX5 133 "java/lang/IndexOutOfBoundsException" ["java/lang/RuntimeException", "java/lang/Exception"]).filter goodWord)
def wsL_refusal : List Cond := .codeWith yL_refusal cL_refusal 4 (some .int) [(0, 9, 12, 13)] :: ([.classLink RL 13 "java/lang/IndexOutOfBoundsException", .methodLink RL 33 yX5_refusal, .instanceMethod yX5_refusal, .selects RX5 yX5_refusal yX5_refusal, .initialized RX5, .code yX5_refusal cX5_refusal 2 (some .int), .classLink RX5 129 "java/lang/IndexOutOfBoundsException", .initialized "java/lang/IndexOutOfBoundsException", .fieldLink RX5 126 "Figurehouse" "judgedLines" "I", .fieldLink RX5 53 "Figurehouse" "refusals" "[I"] ++ wsX50 ++ (vx_atS RX5 133 "java/lang/IndexOutOfBoundsException" ["java/lang/RuntimeException", "java/lang/Exception"]).filter goodWord)
def wsL_secret_r1 : List Cond := [Cond.classLink RL 13 "java/lang/IndexOutOfBoundsException", Cond.methodLink RL 36 yX5_secret, Cond.instanceMethod yX5_secret, Cond.selects RX5 yX5_secret yX5_secret, Cond.initialized RX5, Cond.code yX5_secret cX5_secret 6 (some .int), Cond.fieldLink RX5 49 "Figurehouse" "secrets" "[Z", Cond.fieldLink RX5 45 "Figurehouse" "sheet" "LFigurehouse$Sheet;", Cond.methodLink RX5 80 yX5_requireCell, Cond.instanceMethod yX5_requireCell, Cond.selects RX5 yX5_requireCell yX5_requireCell, Cond.code yX5_requireCell cX5_requireCell 4 (some .int), Cond.classLink RX5 129 "java/lang/IndexOutOfBoundsException", Cond.initialized "java/lang/IndexOutOfBoundsException", Cond.fieldLink RX5 14 "Figurehouse" "areas" "LFigurehouse$Tree;", Cond.fieldLink RX5 18 "Figurehouse" "items" "LFigurehouse$Tree;", Cond.methodLink RX5 208 yX4_has, Cond.instanceMethod yX4_has, Cond.selects RX4 yX4_has yX4_has, Cond.initialized RX4, Cond.code yX4_has cX4_has 2 (some .boolean), Cond.fieldLink RX4 17 "Figurehouse$Tree" "size" "I", Cond.methodLink RX5 187 yX5_isPeriod, Cond.static yX5_isPeriod]
def wsL_secret_r2 : List Cond := [Cond.code yX5_isPeriod cX5_isPeriod 1 (some .boolean), Cond.methodLink RX5 220 yX5_cellOf, Cond.static yX5_cellOf, Cond.code yX5_cellOf cX5_cellOf 3 (some .int), Cond.methodLink RX5 158 yX5_slotOf, Cond.static yX5_slotOf, Cond.code yX5_slotOf cX5_slotOf 2 (some .int), Cond.methodLink RX5 134 yX5_loadHidden, Cond.instanceMethod yX5_loadHidden, Cond.selects RX5 yX5_loadHidden yX5_loadHidden, Cond.code yX5_loadHidden cX5_loadHidden 2 none, Cond.fieldLink RX5 38 "Figurehouse" "book" "LFigurehouse$Book;", Cond.fieldLink RX5 142 "Figurehouse" "today" "I", Cond.methodLink RX5 154 yX3_load, Cond.instanceMethod yX3_load, Cond.selects RX3 yX3_load yX3_load, Cond.initialized RX3, Cond.code yX3_load cX3_load 9 none, Cond.fieldLink RX3 9 "Figurehouse$Sheet" "values" "[I", Cond.constant RX3 19 (-2000000001), Cond.methodLink RX3 20 yX3_loadFigures, Cond.instanceMethod yX3_loadFigures, Cond.selects RX3 yX3_loadFigures yX3_loadFigures, Cond.code yX3_loadFigures cX3_loadFigures 6 none]
def wsL_secret_r3 : List Cond := [Cond.methodLink RX3 38 yJ7_fill_53178, Cond.static yJ7_fill_53178, Cond.initialized RJ7, Cond.code yJ7_fill_53178 cJ7_fill_53178 4 none, Cond.methodLink RX3 34 yX3_sumRightIn, Cond.instanceMethod yX3_sumRightIn, Cond.selects RX3 yX3_sumRightIn yX3_sumRightIn, Cond.code yX3_sumRightIn cX3_sumRightIn 8 (some .int), Cond.methodLink RX3 56 yX4_isRightIn, Cond.instanceMethod yX4_isRightIn, Cond.selects RX4 yX4_isRightIn yX4_isRightIn, Cond.code yX4_isRightIn cX4_isRightIn 3 (some .boolean), Cond.fieldLink RX4 7 "Figurehouse$Tree" "outer" "[I", Cond.methodLink RX3 60 yX3_slotBeside, Cond.static yX3_slotBeside, Cond.code yX3_slotBeside cX3_slotBeside 4 (some .int), Cond.methodLink RX3 64 yX3_valueAt, Cond.instanceMethod yX3_valueAt, Cond.selects RX3 yX3_valueAt yX3_valueAt, Cond.code yX3_valueAt cX3_valueAt 2 (some .int), Cond.methodLink RX5 246 yX3_hide, Cond.instanceMethod yX3_hide, Cond.selects RX3 yX3_hide yX3_hide, Cond.code yX3_hide cX3_hide 9 none]
def wsL_secret_r4 : List Cond := [Cond.fieldLink RX3 15 "Figurehouse$Sheet" "hides" "[Z", Cond.methodLink RX3 71 yX3_goThroughRows, Cond.instanceMethod yX3_goThroughRows, Cond.selects RX3 yX3_goThroughRows yX3_goThroughRows, Cond.code yX3_goThroughRows cX3_goThroughRows 8 (some .boolean), Cond.methodLink RX3 75 yX3_protectRow, Cond.instanceMethod yX3_protectRow, Cond.selects RX3 yX3_protectRow yX3_protectRow, Cond.code yX3_protectRow cX3_protectRow 4 (some .boolean), Cond.methodLink RX3 79 yX3_countHiddenInRow, Cond.instanceMethod yX3_countHiddenInRow, Cond.selects RX3 yX3_countHiddenInRow yX3_countHiddenInRow, Cond.code yX3_countHiddenInRow cX3_countHiddenInRow 6 (some .int), Cond.methodLink RX3 85 yX3_isHidden, Cond.instanceMethod yX3_isHidden, Cond.selects RX3 yX3_isHidden yX3_isHidden, Cond.code yX3_isHidden cX3_isHidden 2 (some .boolean), Cond.methodLink RX3 82 yX3_nearestOpenSlot, Cond.instanceMethod yX3_nearestOpenSlot, Cond.selects RX3 yX3_nearestOpenSlot yX3_nearestOpenSlot, Cond.code yX3_nearestOpenSlot cX3_nearestOpenSlot 7 (some .int), Cond.methodLink RX3 89 Lib.Math.abs.name, Cond.static Lib.Math.abs.name, Cond.initialized "java/lang/Math"]
def wsL_secret_r5 : List Cond := [Cond.code Lib.Math.abs.name Lib.Math.abs.code 1 (some .int), Cond.methodLink RX5 137 yX3_countHiddenSlots, Cond.instanceMethod yX3_countHiddenSlots, Cond.selects RX3 yX3_countHiddenSlots yX3_countHiddenSlots, Cond.code yX3_countHiddenSlots cX3_countHiddenSlots 3 (some .int)]
def wsL_secret : List Cond := .codeWith yL_secret cL_secret 7 (some .int) [(0, 14, 17, 13)] :: ((wsL_secret_r1 ++ (wsL_secret_r2 ++ (wsL_secret_r3 ++ (wsL_secret_r4 ++ wsL_secret_r5)))) ++ wsX50 ++ wsX40 ++ wsX30 ++ wsX10 ++ (vx_atS RX5 133 "java/lang/IndexOutOfBoundsException" ["java/lang/RuntimeException", "java/lang/Exception"]).filter goodWord)
def wsL_pass : List Cond := .codeWith yL_pass cL_pass 4 (some .int) [(0, 9, 12, 28), (0, 9, 15, 15)] :: ([.classLink RL 28 "java/lang/IllegalArgumentException", .classLink RL 15 "java/lang/IllegalStateException", .methodLink RL 40 yX5_pass, .instanceMethod yX5_pass, .selects RX5 yX5_pass yX5_pass, .initialized RX5, .code yX5_pass cX5_pass 2 (some .int), .classLink RX5 84 "java/lang/IllegalArgumentException", .initialized "java/lang/IllegalArgumentException", .classLink RX5 99 "java/lang/IllegalStateException", .initialized "java/lang/IllegalStateException", .fieldLink RX5 142 "Figurehouse" "today" "I"] ++ wsX50 ++ (vx_atS RX5 88 "java/lang/IllegalArgumentException" ["java/lang/RuntimeException", "java/lang/Exception"]).filter goodWord ++ (vx_atS RX5 103 "java/lang/IllegalStateException" ["java/lang/RuntimeException", "java/lang/Exception"]).filter goodWord)
def wsL_figure_r1 : List Cond := [Cond.classLink RL 13 "java/lang/IndexOutOfBoundsException", Cond.classLink RL 28 "java/lang/IllegalArgumentException", Cond.methodLink RL 43 yX5_figure, Cond.instanceMethod yX5_figure, Cond.selects RX5 yX5_figure yX5_figure, Cond.initialized RX5, Cond.code yX5_figure cX5_figure 6 (some .int), Cond.fieldLink RX5 38 "Figurehouse" "book" "LFigurehouse$Book;", Cond.methodLink RX5 80 yX5_requireCell, Cond.instanceMethod yX5_requireCell, Cond.selects RX5 yX5_requireCell yX5_requireCell, Cond.code yX5_requireCell cX5_requireCell 4 (some .int), Cond.classLink RX5 129 "java/lang/IndexOutOfBoundsException", Cond.initialized "java/lang/IndexOutOfBoundsException", Cond.fieldLink RX5 14 "Figurehouse" "areas" "LFigurehouse$Tree;", Cond.fieldLink RX5 18 "Figurehouse" "items" "LFigurehouse$Tree;", Cond.methodLink RX5 208 yX4_has, Cond.instanceMethod yX4_has, Cond.selects RX4 yX4_has yX4_has, Cond.initialized RX4, Cond.code yX4_has cX4_has 2 (some .boolean), Cond.fieldLink RX4 17 "Figurehouse$Tree" "size" "I", Cond.methodLink RX5 187 yX5_isPeriod, Cond.static yX5_isPeriod]
def wsL_figure_r2 : List Cond := [Cond.code yX5_isPeriod cX5_isPeriod 1 (some .boolean), Cond.methodLink RX5 220 yX5_cellOf, Cond.static yX5_cellOf, Cond.code yX5_cellOf cX5_cellOf 3 (some .int), Cond.methodLink RX5 158 yX5_slotOf, Cond.static yX5_slotOf, Cond.code yX5_slotOf cX5_slotOf 2 (some .int), Cond.methodLink RX5 147 yX5_requireDay, Cond.instanceMethod yX5_requireDay, Cond.selects RX5 yX5_requireDay yX5_requireDay, Cond.code yX5_requireDay cX5_requireDay 2 none, Cond.classLink RX5 84 "java/lang/IllegalArgumentException", Cond.initialized "java/lang/IllegalArgumentException", Cond.fieldLink RX5 142 "Figurehouse" "today" "I", Cond.methodLink RX5 150 yX1_figureOn, Cond.instanceMethod yX1_figureOn, Cond.selects RX1 yX1_figureOn yX1_figureOn, Cond.initialized RX1, Cond.code yX1_figureOn cX1_figureOn 4 (some .int), Cond.fieldLink RX1 40 "Figurehouse$Book" "size" "I", Cond.fieldLink RX1 24 "Figurehouse$Book" "cells" "[I", Cond.fieldLink RX1 27 "Figurehouse$Book" "days" "[I", Cond.fieldLink RX1 30 "Figurehouse$Book" "figures" "[I", Cond.constant RX1 33 (-2000000001)]
def wsL_figure : List Cond := .codeWith yL_figure cL_figure 7 (some .int) [(0, 14, 17, 13), (0, 14, 21, 28)] :: ((wsL_figure_r1 ++ wsL_figure_r2) ++ wsX50 ++ wsX40 ++ wsX10 ++ (vx_atS RX5 133 "java/lang/IndexOutOfBoundsException" ["java/lang/RuntimeException", "java/lang/Exception"]).filter goodWord ++ (vx_atS RX5 88 "java/lang/IllegalArgumentException" ["java/lang/RuntimeException", "java/lang/Exception"]).filter goodWord)
def wsL_value_r1 : List Cond := [Cond.classLink RL 13 "java/lang/IndexOutOfBoundsException", Cond.classLink RL 28 "java/lang/IllegalArgumentException", Cond.methodLink RL 47 yX5_value, Cond.instanceMethod yX5_value, Cond.selects RX5 yX5_value yX5_value, Cond.initialized RX5, Cond.code yX5_value cX5_value 5 (some .int), Cond.fieldLink RX5 45 "Figurehouse" "sheet" "LFigurehouse$Sheet;", Cond.fieldLink RX5 38 "Figurehouse" "book" "LFigurehouse$Book;", Cond.fieldLink RX5 14 "Figurehouse" "areas" "LFigurehouse$Tree;", Cond.fieldLink RX5 18 "Figurehouse" "items" "LFigurehouse$Tree;", Cond.methodLink RX5 80 yX5_requireCell, Cond.instanceMethod yX5_requireCell, Cond.selects RX5 yX5_requireCell yX5_requireCell, Cond.code yX5_requireCell cX5_requireCell 4 (some .int), Cond.classLink RX5 129 "java/lang/IndexOutOfBoundsException", Cond.initialized "java/lang/IndexOutOfBoundsException", Cond.methodLink RX5 208 yX4_has, Cond.instanceMethod yX4_has, Cond.selects RX4 yX4_has yX4_has, Cond.initialized RX4, Cond.code yX4_has cX4_has 2 (some .boolean), Cond.fieldLink RX4 17 "Figurehouse$Tree" "size" "I", Cond.methodLink RX5 187 yX5_isPeriod]
def wsL_value_r2 : List Cond := [Cond.static yX5_isPeriod, Cond.code yX5_isPeriod cX5_isPeriod 1 (some .boolean), Cond.methodLink RX5 220 yX5_cellOf, Cond.static yX5_cellOf, Cond.code yX5_cellOf cX5_cellOf 3 (some .int), Cond.methodLink RX5 158 yX5_slotOf, Cond.static yX5_slotOf, Cond.code yX5_slotOf cX5_slotOf 2 (some .int), Cond.methodLink RX5 147 yX5_requireDay, Cond.instanceMethod yX5_requireDay, Cond.selects RX5 yX5_requireDay yX5_requireDay, Cond.code yX5_requireDay cX5_requireDay 2 none, Cond.classLink RX5 84 "java/lang/IllegalArgumentException", Cond.initialized "java/lang/IllegalArgumentException", Cond.fieldLink RX5 142 "Figurehouse" "today" "I", Cond.methodLink RX5 154 yX3_load, Cond.instanceMethod yX3_load, Cond.selects RX3 yX3_load yX3_load, Cond.initialized RX3, Cond.code yX3_load cX3_load 9 none, Cond.fieldLink RX3 9 "Figurehouse$Sheet" "values" "[I", Cond.constant RX3 19 (-2000000001), Cond.methodLink RX3 20 yX3_loadFigures, Cond.instanceMethod yX3_loadFigures]
def wsL_value_r3 : List Cond := [Cond.selects RX3 yX3_loadFigures yX3_loadFigures, Cond.code yX3_loadFigures cX3_loadFigures 6 none, Cond.methodLink RX3 38 yJ7_fill_53178, Cond.static yJ7_fill_53178, Cond.initialized RJ7, Cond.code yJ7_fill_53178 cJ7_fill_53178 4 none, Cond.methodLink RX3 34 yX3_sumRightIn, Cond.instanceMethod yX3_sumRightIn, Cond.selects RX3 yX3_sumRightIn yX3_sumRightIn, Cond.code yX3_sumRightIn cX3_sumRightIn 8 (some .int), Cond.methodLink RX3 56 yX4_isRightIn, Cond.instanceMethod yX4_isRightIn, Cond.selects RX4 yX4_isRightIn yX4_isRightIn, Cond.code yX4_isRightIn cX4_isRightIn 3 (some .boolean), Cond.fieldLink RX4 7 "Figurehouse$Tree" "outer" "[I", Cond.methodLink RX3 60 yX3_slotBeside, Cond.static yX3_slotBeside, Cond.code yX3_slotBeside cX3_slotBeside 4 (some .int), Cond.methodLink RX3 64 yX3_valueAt, Cond.instanceMethod yX3_valueAt, Cond.selects RX3 yX3_valueAt yX3_valueAt, Cond.code yX3_valueAt cX3_valueAt 2 (some .int), Cond.methodLink RX5 161 yX3_valueAt]
def wsL_value : List Cond := .codeWith yL_value cL_value 7 (some .int) [(0, 14, 17, 13), (0, 14, 21, 28)] :: ((wsL_value_r1 ++ (wsL_value_r2 ++ wsL_value_r3)) ++ wsX50 ++ wsX40 ++ wsX30 ++ wsX10 ++ (vx_atS RX5 133 "java/lang/IndexOutOfBoundsException" ["java/lang/RuntimeException", "java/lang/Exception"]).filter goodWord ++ (vx_atS RX5 88 "java/lang/IllegalArgumentException" ["java/lang/RuntimeException", "java/lang/Exception"]).filter goodWord)
def wsL_first_r1 : List Cond := [Cond.classLink RL 13 "java/lang/IndexOutOfBoundsException", Cond.methodLink RL 50 yX5_first, Cond.instanceMethod yX5_first, Cond.selects RX5 yX5_first yX5_first, Cond.initialized RX5, Cond.code yX5_first cX5_first 4 (some .int), Cond.fieldLink RX5 38 "Figurehouse" "book" "LFigurehouse$Book;", Cond.methodLink RX5 80 yX5_requireCell, Cond.instanceMethod yX5_requireCell, Cond.selects RX5 yX5_requireCell yX5_requireCell, Cond.code yX5_requireCell cX5_requireCell 4 (some .int), Cond.classLink RX5 129 "java/lang/IndexOutOfBoundsException", Cond.initialized "java/lang/IndexOutOfBoundsException", Cond.fieldLink RX5 14 "Figurehouse" "areas" "LFigurehouse$Tree;", Cond.fieldLink RX5 18 "Figurehouse" "items" "LFigurehouse$Tree;", Cond.methodLink RX5 208 yX4_has, Cond.instanceMethod yX4_has, Cond.selects RX4 yX4_has yX4_has, Cond.initialized RX4, Cond.code yX4_has cX4_has 2 (some .boolean), Cond.fieldLink RX4 17 "Figurehouse$Tree" "size" "I", Cond.methodLink RX5 187 yX5_isPeriod, Cond.static yX5_isPeriod, Cond.code yX5_isPeriod cX5_isPeriod 1 (some .boolean)]
def wsL_first_r2 : List Cond := [Cond.methodLink RX5 220 yX5_cellOf, Cond.static yX5_cellOf, Cond.code yX5_cellOf cX5_cellOf 3 (some .int), Cond.methodLink RX5 158 yX5_slotOf, Cond.static yX5_slotOf, Cond.code yX5_slotOf cX5_slotOf 2 (some .int)]
def wsL_first : List Cond := .codeWith yL_first cL_first 6 (some .int) [(0, 12, 15, 13)] :: ((wsL_first_r1 ++ wsL_first_r2) ++ wsX50 ++ wsX10 ++ wsX40 ++ (vx_atS RX5 133 "java/lang/IndexOutOfBoundsException" ["java/lang/RuntimeException", "java/lang/Exception"]).filter goodWord)
def wsL_revisions_r1 : List Cond := [Cond.classLink RL 13 "java/lang/IndexOutOfBoundsException", Cond.methodLink RL 54 yX5_revisions, Cond.instanceMethod yX5_revisions, Cond.selects RX5 yX5_revisions yX5_revisions, Cond.initialized RX5, Cond.code yX5_revisions cX5_revisions 4 (some .int), Cond.fieldLink RX5 38 "Figurehouse" "book" "LFigurehouse$Book;", Cond.methodLink RX5 80 yX5_requireCell, Cond.instanceMethod yX5_requireCell, Cond.selects RX5 yX5_requireCell yX5_requireCell, Cond.code yX5_requireCell cX5_requireCell 4 (some .int), Cond.classLink RX5 129 "java/lang/IndexOutOfBoundsException", Cond.initialized "java/lang/IndexOutOfBoundsException", Cond.fieldLink RX5 14 "Figurehouse" "areas" "LFigurehouse$Tree;", Cond.fieldLink RX5 18 "Figurehouse" "items" "LFigurehouse$Tree;", Cond.methodLink RX5 208 yX4_has, Cond.instanceMethod yX4_has, Cond.selects RX4 yX4_has yX4_has, Cond.initialized RX4, Cond.code yX4_has cX4_has 2 (some .boolean), Cond.fieldLink RX4 17 "Figurehouse$Tree" "size" "I", Cond.methodLink RX5 187 yX5_isPeriod, Cond.static yX5_isPeriod, Cond.code yX5_isPeriod cX5_isPeriod 1 (some .boolean)]
def wsL_revisions_r2 : List Cond := [Cond.methodLink RX5 220 yX5_cellOf, Cond.static yX5_cellOf, Cond.code yX5_cellOf cX5_cellOf 3 (some .int), Cond.methodLink RX5 158 yX5_slotOf, Cond.static yX5_slotOf, Cond.code yX5_slotOf cX5_slotOf 2 (some .int)]
def wsL_revisions : List Cond := .codeWith yL_revisions cL_revisions 6 (some .int) [(0, 12, 15, 13)] :: ((wsL_revisions_r1 ++ wsL_revisions_r2) ++ wsX50 ++ wsX10 ++ wsX40 ++ (vx_atS RX5 133 "java/lang/IndexOutOfBoundsException" ["java/lang/RuntimeException", "java/lang/Exception"]).filter goodWord)
def wsL_hasFault_r1 : List Cond := [Cond.classLink RL 13 "java/lang/IndexOutOfBoundsException", Cond.methodLink RL 57 yX5_hasFault, Cond.instanceMethod yX5_hasFault, Cond.selects RX5 yX5_hasFault yX5_hasFault, Cond.initialized RX5, Cond.code yX5_hasFault cX5_hasFault 6 (some .boolean), Cond.fieldLink RX5 38 "Figurehouse" "book" "LFigurehouse$Book;", Cond.constant RX5 173 (-2000000001), Cond.fieldLink RX5 45 "Figurehouse" "sheet" "LFigurehouse$Sheet;", Cond.fieldLink RX5 142 "Figurehouse" "today" "I", Cond.fieldLink RX5 14 "Figurehouse" "areas" "LFigurehouse$Tree;", Cond.fieldLink RX5 18 "Figurehouse" "items" "LFigurehouse$Tree;", Cond.methodLink RX5 80 yX5_requireCell, Cond.instanceMethod yX5_requireCell, Cond.selects RX5 yX5_requireCell yX5_requireCell, Cond.code yX5_requireCell cX5_requireCell 4 (some .int), Cond.classLink RX5 129 "java/lang/IndexOutOfBoundsException", Cond.initialized "java/lang/IndexOutOfBoundsException", Cond.methodLink RX5 208 yX4_has, Cond.instanceMethod yX4_has, Cond.selects RX4 yX4_has yX4_has, Cond.initialized RX4, Cond.code yX4_has cX4_has 2 (some .boolean), Cond.fieldLink RX4 17 "Figurehouse$Tree" "size" "I"]
def wsL_hasFault_r2 : List Cond := [Cond.methodLink RX5 187 yX5_isPeriod, Cond.static yX5_isPeriod, Cond.code yX5_isPeriod cX5_isPeriod 1 (some .boolean), Cond.methodLink RX5 220 yX5_cellOf, Cond.static yX5_cellOf, Cond.code yX5_cellOf cX5_cellOf 3 (some .int), Cond.methodLink RX5 158 yX5_slotOf, Cond.static yX5_slotOf, Cond.code yX5_slotOf cX5_slotOf 2 (some .int), Cond.methodLink RX5 154 yX3_load, Cond.instanceMethod yX3_load, Cond.selects RX3 yX3_load yX3_load, Cond.initialized RX3, Cond.code yX3_load cX3_load 9 none, Cond.fieldLink RX3 9 "Figurehouse$Sheet" "values" "[I", Cond.constant RX3 19 (-2000000001), Cond.methodLink RX3 20 yX3_loadFigures, Cond.instanceMethod yX3_loadFigures, Cond.selects RX3 yX3_loadFigures yX3_loadFigures, Cond.code yX3_loadFigures cX3_loadFigures 6 none, Cond.methodLink RX3 38 yJ7_fill_53178, Cond.static yJ7_fill_53178, Cond.initialized RJ7, Cond.code yJ7_fill_53178 cJ7_fill_53178 4 none]
def wsL_hasFault_r3 : List Cond := [Cond.methodLink RX3 34 yX3_sumRightIn, Cond.instanceMethod yX3_sumRightIn, Cond.selects RX3 yX3_sumRightIn yX3_sumRightIn, Cond.code yX3_sumRightIn cX3_sumRightIn 8 (some .int), Cond.methodLink RX3 56 yX4_isRightIn, Cond.instanceMethod yX4_isRightIn, Cond.selects RX4 yX4_isRightIn yX4_isRightIn, Cond.code yX4_isRightIn cX4_isRightIn 3 (some .boolean), Cond.fieldLink RX4 7 "Figurehouse$Tree" "outer" "[I", Cond.methodLink RX3 60 yX3_slotBeside, Cond.static yX3_slotBeside, Cond.code yX3_slotBeside cX3_slotBeside 4 (some .int), Cond.methodLink RX3 64 yX3_valueAt, Cond.instanceMethod yX3_valueAt, Cond.selects RX3 yX3_valueAt yX3_valueAt, Cond.code yX3_valueAt cX3_valueAt 2 (some .int), Cond.methodLink RX5 174 yX3_sumRightIn, Cond.methodLink RX5 178 yX5_isOtherSum, Cond.static yX5_isOtherSum, Cond.code yX5_isOtherSum cX5_isOtherSum 2 (some .boolean)]
def wsL_hasFault : List Cond := .codeWith yL_hasFault cL_hasFault 6 (some .int) [(0, 19, 22, 13)] :: ((wsL_hasFault_r1 ++ (wsL_hasFault_r2 ++ wsL_hasFault_r3)) ++ wsX50 ++ wsX10 ++ wsX40 ++ wsX30 ++ (vx_atS RX5 133 "java/lang/IndexOutOfBoundsException" ["java/lang/RuntimeException", "java/lang/Exception"]).filter goodWord)
def wsL_shown_r1 : List Cond := [Cond.classLink RL 13 "java/lang/IndexOutOfBoundsException", Cond.methodLink RL 61 yX5_shown, Cond.instanceMethod yX5_shown, Cond.selects RX5 yX5_shown yX5_shown, Cond.initialized RX5, Cond.code yX5_shown cX5_shown 5 (some .int), Cond.fieldLink RX5 45 "Figurehouse" "sheet" "LFigurehouse$Sheet;", Cond.constant RX5 186 (-2000000002), Cond.methodLink RX5 80 yX5_requireCell, Cond.instanceMethod yX5_requireCell, Cond.selects RX5 yX5_requireCell yX5_requireCell, Cond.code yX5_requireCell cX5_requireCell 4 (some .int), Cond.classLink RX5 129 "java/lang/IndexOutOfBoundsException", Cond.initialized "java/lang/IndexOutOfBoundsException", Cond.fieldLink RX5 14 "Figurehouse" "areas" "LFigurehouse$Tree;", Cond.fieldLink RX5 18 "Figurehouse" "items" "LFigurehouse$Tree;", Cond.methodLink RX5 208 yX4_has, Cond.instanceMethod yX4_has, Cond.selects RX4 yX4_has yX4_has, Cond.initialized RX4, Cond.code yX4_has cX4_has 2 (some .boolean), Cond.fieldLink RX4 17 "Figurehouse$Tree" "size" "I", Cond.methodLink RX5 187 yX5_isPeriod, Cond.static yX5_isPeriod]
def wsL_shown_r2 : List Cond := [Cond.code yX5_isPeriod cX5_isPeriod 1 (some .boolean), Cond.methodLink RX5 220 yX5_cellOf, Cond.static yX5_cellOf, Cond.code yX5_cellOf cX5_cellOf 3 (some .int), Cond.methodLink RX5 158 yX5_slotOf, Cond.static yX5_slotOf, Cond.code yX5_slotOf cX5_slotOf 2 (some .int), Cond.methodLink RX5 134 yX5_loadHidden, Cond.instanceMethod yX5_loadHidden, Cond.selects RX5 yX5_loadHidden yX5_loadHidden, Cond.code yX5_loadHidden cX5_loadHidden 2 none, Cond.fieldLink RX5 38 "Figurehouse" "book" "LFigurehouse$Book;", Cond.fieldLink RX5 142 "Figurehouse" "today" "I", Cond.fieldLink RX5 49 "Figurehouse" "secrets" "[Z", Cond.methodLink RX5 154 yX3_load, Cond.instanceMethod yX3_load, Cond.selects RX3 yX3_load yX3_load, Cond.initialized RX3, Cond.code yX3_load cX3_load 9 none, Cond.fieldLink RX3 9 "Figurehouse$Sheet" "values" "[I", Cond.constant RX3 19 (-2000000001), Cond.methodLink RX3 20 yX3_loadFigures, Cond.instanceMethod yX3_loadFigures, Cond.selects RX3 yX3_loadFigures yX3_loadFigures]
def wsL_shown_r3 : List Cond := [Cond.code yX3_loadFigures cX3_loadFigures 6 none, Cond.methodLink RX3 38 yJ7_fill_53178, Cond.static yJ7_fill_53178, Cond.initialized RJ7, Cond.code yJ7_fill_53178 cJ7_fill_53178 4 none, Cond.methodLink RX3 34 yX3_sumRightIn, Cond.instanceMethod yX3_sumRightIn, Cond.selects RX3 yX3_sumRightIn yX3_sumRightIn, Cond.code yX3_sumRightIn cX3_sumRightIn 8 (some .int), Cond.methodLink RX3 56 yX4_isRightIn, Cond.instanceMethod yX4_isRightIn, Cond.selects RX4 yX4_isRightIn yX4_isRightIn, Cond.code yX4_isRightIn cX4_isRightIn 3 (some .boolean), Cond.fieldLink RX4 7 "Figurehouse$Tree" "outer" "[I", Cond.methodLink RX3 60 yX3_slotBeside, Cond.static yX3_slotBeside, Cond.code yX3_slotBeside cX3_slotBeside 4 (some .int), Cond.methodLink RX3 64 yX3_valueAt, Cond.instanceMethod yX3_valueAt, Cond.selects RX3 yX3_valueAt yX3_valueAt, Cond.code yX3_valueAt cX3_valueAt 2 (some .int), Cond.methodLink RX5 246 yX3_hide, Cond.instanceMethod yX3_hide, Cond.selects RX3 yX3_hide yX3_hide]
def wsL_shown_r4 : List Cond := [Cond.code yX3_hide cX3_hide 9 none, Cond.fieldLink RX3 15 "Figurehouse$Sheet" "hides" "[Z", Cond.methodLink RX3 71 yX3_goThroughRows, Cond.instanceMethod yX3_goThroughRows, Cond.selects RX3 yX3_goThroughRows yX3_goThroughRows, Cond.code yX3_goThroughRows cX3_goThroughRows 8 (some .boolean), Cond.methodLink RX3 75 yX3_protectRow, Cond.instanceMethod yX3_protectRow, Cond.selects RX3 yX3_protectRow yX3_protectRow, Cond.code yX3_protectRow cX3_protectRow 4 (some .boolean), Cond.methodLink RX3 79 yX3_countHiddenInRow, Cond.instanceMethod yX3_countHiddenInRow, Cond.selects RX3 yX3_countHiddenInRow yX3_countHiddenInRow, Cond.code yX3_countHiddenInRow cX3_countHiddenInRow 6 (some .int), Cond.methodLink RX3 85 yX3_isHidden, Cond.instanceMethod yX3_isHidden, Cond.selects RX3 yX3_isHidden yX3_isHidden, Cond.code yX3_isHidden cX3_isHidden 2 (some .boolean), Cond.methodLink RX3 82 yX3_nearestOpenSlot, Cond.instanceMethod yX3_nearestOpenSlot, Cond.selects RX3 yX3_nearestOpenSlot yX3_nearestOpenSlot, Cond.code yX3_nearestOpenSlot cX3_nearestOpenSlot 7 (some .int), Cond.methodLink RX3 89 Lib.Math.abs.name, Cond.static Lib.Math.abs.name]
def wsL_shown_r5 : List Cond := [Cond.initialized "java/lang/Math", Cond.code Lib.Math.abs.name Lib.Math.abs.code 1 (some .int), Cond.methodLink RX5 182 yX3_isHidden, Cond.methodLink RX5 161 yX3_valueAt]
def wsL_shown : List Cond := .codeWith yL_shown cL_shown 6 (some .int) [(0, 12, 15, 13)] :: ((wsL_shown_r1 ++ (wsL_shown_r2 ++ (wsL_shown_r3 ++ (wsL_shown_r4 ++ wsL_shown_r5)))) ++ wsX50 ++ wsX40 ++ wsX30 ++ wsX10 ++ (vx_atS RX5 133 "java/lang/IndexOutOfBoundsException" ["java/lang/RuntimeException", "java/lang/Exception"]).filter goodWord)
def wsL_hidden_r1 : List Cond := [Cond.classLink RL 13 "java/lang/IndexOutOfBoundsException", Cond.methodLink RL 64 yX5_hidden, Cond.instanceMethod yX5_hidden, Cond.selects RX5 yX5_hidden yX5_hidden, Cond.initialized RX5, Cond.code yX5_hidden cX5_hidden 2 (some .int), Cond.classLink RX5 129 "java/lang/IndexOutOfBoundsException", Cond.initialized "java/lang/IndexOutOfBoundsException", Cond.fieldLink RX5 45 "Figurehouse" "sheet" "LFigurehouse$Sheet;", Cond.methodLink RX5 187 yX5_isPeriod, Cond.static yX5_isPeriod, Cond.code yX5_isPeriod cX5_isPeriod 1 (some .boolean), Cond.methodLink RX5 134 yX5_loadHidden, Cond.instanceMethod yX5_loadHidden, Cond.selects RX5 yX5_loadHidden yX5_loadHidden, Cond.code yX5_loadHidden cX5_loadHidden 2 none, Cond.fieldLink RX5 38 "Figurehouse" "book" "LFigurehouse$Book;", Cond.fieldLink RX5 142 "Figurehouse" "today" "I", Cond.fieldLink RX5 14 "Figurehouse" "areas" "LFigurehouse$Tree;", Cond.fieldLink RX5 18 "Figurehouse" "items" "LFigurehouse$Tree;", Cond.fieldLink RX5 49 "Figurehouse" "secrets" "[Z", Cond.methodLink RX5 154 yX3_load, Cond.instanceMethod yX3_load, Cond.selects RX3 yX3_load yX3_load]
def wsL_hidden_r2 : List Cond := [Cond.initialized RX3, Cond.code yX3_load cX3_load 9 none, Cond.fieldLink RX3 9 "Figurehouse$Sheet" "values" "[I", Cond.constant RX3 19 (-2000000001), Cond.methodLink RX3 20 yX3_loadFigures, Cond.instanceMethod yX3_loadFigures, Cond.selects RX3 yX3_loadFigures yX3_loadFigures, Cond.code yX3_loadFigures cX3_loadFigures 6 none, Cond.methodLink RX3 38 yJ7_fill_53178, Cond.static yJ7_fill_53178, Cond.initialized RJ7, Cond.code yJ7_fill_53178 cJ7_fill_53178 4 none, Cond.static yX5_slotOf, Cond.code yX5_slotOf cX5_slotOf 2 (some .int), Cond.methodLink RX3 34 yX3_sumRightIn, Cond.instanceMethod yX3_sumRightIn, Cond.selects RX3 yX3_sumRightIn yX3_sumRightIn, Cond.code yX3_sumRightIn cX3_sumRightIn 8 (some .int), Cond.methodLink RX3 56 yX4_isRightIn, Cond.instanceMethod yX4_isRightIn, Cond.selects RX4 yX4_isRightIn yX4_isRightIn, Cond.initialized RX4, Cond.code yX4_isRightIn cX4_isRightIn 3 (some .boolean), Cond.fieldLink RX4 17 "Figurehouse$Tree" "size" "I"]
def wsL_hidden_r3 : List Cond := [Cond.fieldLink RX4 7 "Figurehouse$Tree" "outer" "[I", Cond.methodLink RX3 60 yX3_slotBeside, Cond.static yX3_slotBeside, Cond.code yX3_slotBeside cX3_slotBeside 4 (some .int), Cond.methodLink RX3 64 yX3_valueAt, Cond.instanceMethod yX3_valueAt, Cond.selects RX3 yX3_valueAt yX3_valueAt, Cond.code yX3_valueAt cX3_valueAt 2 (some .int), Cond.methodLink RX5 246 yX3_hide, Cond.instanceMethod yX3_hide, Cond.selects RX3 yX3_hide yX3_hide, Cond.code yX3_hide cX3_hide 9 none, Cond.fieldLink RX3 15 "Figurehouse$Sheet" "hides" "[Z", Cond.methodLink RX3 71 yX3_goThroughRows, Cond.instanceMethod yX3_goThroughRows, Cond.selects RX3 yX3_goThroughRows yX3_goThroughRows, Cond.code yX3_goThroughRows cX3_goThroughRows 8 (some .boolean), Cond.methodLink RX3 75 yX3_protectRow, Cond.instanceMethod yX3_protectRow, Cond.selects RX3 yX3_protectRow yX3_protectRow, Cond.code yX3_protectRow cX3_protectRow 4 (some .boolean), Cond.methodLink RX3 79 yX3_countHiddenInRow, Cond.instanceMethod yX3_countHiddenInRow, Cond.selects RX3 yX3_countHiddenInRow yX3_countHiddenInRow]
def wsL_hidden_r4 : List Cond := [Cond.code yX3_countHiddenInRow cX3_countHiddenInRow 6 (some .int), Cond.methodLink RX3 85 yX3_isHidden, Cond.instanceMethod yX3_isHidden, Cond.selects RX3 yX3_isHidden yX3_isHidden, Cond.code yX3_isHidden cX3_isHidden 2 (some .boolean), Cond.methodLink RX3 82 yX3_nearestOpenSlot, Cond.instanceMethod yX3_nearestOpenSlot, Cond.selects RX3 yX3_nearestOpenSlot yX3_nearestOpenSlot, Cond.code yX3_nearestOpenSlot cX3_nearestOpenSlot 7 (some .int), Cond.methodLink RX3 89 Lib.Math.abs.name, Cond.static Lib.Math.abs.name, Cond.initialized "java/lang/Math", Cond.code Lib.Math.abs.name Lib.Math.abs.code 1 (some .int), Cond.methodLink RX5 137 yX3_countHiddenSlots, Cond.instanceMethod yX3_countHiddenSlots, Cond.selects RX3 yX3_countHiddenSlots yX3_countHiddenSlots, Cond.code yX3_countHiddenSlots cX3_countHiddenSlots 3 (some .int)]
def wsL_hidden : List Cond := .codeWith yL_hidden cL_hidden 4 (some .int) [(0, 9, 12, 13)] :: ((wsL_hidden_r1 ++ (wsL_hidden_r2 ++ (wsL_hidden_r3 ++ wsL_hidden_r4))) ++ wsX50 ++ wsX40 ++ wsX30 ++ wsX10 ++ (vx_atS RX5 133 "java/lang/IndexOutOfBoundsException" ["java/lang/RuntimeException", "java/lang/Exception"]).filter goodWord)
def wsL_find_r1 : List Cond := [Cond.classLink RL 13 "java/lang/IndexOutOfBoundsException", Cond.classLink RL 28 "java/lang/IllegalArgumentException", Cond.methodLink RL 67 yX5_find, Cond.instanceMethod yX5_find, Cond.selects RX5 yX5_find yX5_find, Cond.initialized RX5, Cond.code yX5_find cX5_find 7 (some .int), Cond.classLink RX5 129 "java/lang/IndexOutOfBoundsException", Cond.initialized "java/lang/IndexOutOfBoundsException", Cond.classLink RX5 84 "java/lang/IllegalArgumentException", Cond.initialized "java/lang/IllegalArgumentException", Cond.fieldLink RX5 14 "Figurehouse" "areas" "LFigurehouse$Tree;", Cond.fieldLink RX5 18 "Figurehouse" "items" "LFigurehouse$Tree;", Cond.methodLink RX5 57 yX5_requirePattern, Cond.static yX5_requirePattern, Cond.code yX5_requirePattern cX5_requirePattern 2 none, Cond.methodLink RX5 208 yX4_has, Cond.instanceMethod yX4_has, Cond.selects RX4 yX4_has yX4_has, Cond.initialized RX4, Cond.code yX4_has cX4_has 2 (some .boolean), Cond.fieldLink RX4 17 "Figurehouse$Tree" "size" "I", Cond.methodLink RX5 187 yX5_isPeriod, Cond.static yX5_isPeriod]
def wsL_find_r2 : List Cond := [Cond.code yX5_isPeriod cX5_isPeriod 1 (some .boolean), Cond.methodLink RX5 198 yX5_matchAt, Cond.instanceMethod yX5_matchAt, Cond.selects RX5 yX5_matchAt yX5_matchAt, Cond.code yX5_matchAt cX5_matchAt 11 (some .int), Cond.fieldLink RX5 38 "Figurehouse" "book" "LFigurehouse$Book;", Cond.methodLink RX5 220 yX5_cellOf, Cond.static yX5_cellOf, Cond.code yX5_cellOf cX5_cellOf 3 (some .int), Cond.methodLink RX5 158 yX5_slotOf, Cond.static yX5_slotOf, Cond.code yX5_slotOf cX5_slotOf 2 (some .int), Cond.methodLink RX5 251 yX1_isToldSince, Cond.instanceMethod yX1_isToldSince, Cond.selects RX1 yX1_isToldSince yX1_isToldSince, Cond.initialized RX1, Cond.code yX1_isToldSince cX1_isToldSince 3 (some .boolean), Cond.fieldLink RX1 9 "Figurehouse$Book" "latest" "[I", Cond.constant RX1 33 (-2000000001), Cond.fieldLink RX1 21 "Figurehouse$Book" "lastDay" "[I", Cond.methodLink RX5 254 yX4_isWithin, Cond.instanceMethod yX4_isWithin, Cond.selects RX4 yX4_isWithin yX4_isWithin, Cond.code yX4_isWithin cX4_isWithin 5 (some .boolean)]
def wsL_find_r3 : List Cond := [Cond.fieldLink RX4 7 "Figurehouse$Tree" "outer" "[I", Cond.methodLink RX4 20 yX4_has]
def wsL_find : List Cond := .codeWith yL_find cL_find 9 (some .int) [(0, 18, 21, 13), (0, 18, 25, 28)] :: ((wsL_find_r1 ++ (wsL_find_r2 ++ wsL_find_r3)) ++ wsX50 ++ wsX40 ++ wsX10 ++ (vx_atS RX5 133 "java/lang/IndexOutOfBoundsException" ["java/lang/RuntimeException", "java/lang/Exception"]).filter goodWord ++ (vx_atS RX5 88 "java/lang/IllegalArgumentException" ["java/lang/RuntimeException", "java/lang/Exception"]).filter goodWord)
def wsL_mayTell_r1 : List Cond := [Cond.classLink RL 13 "java/lang/IndexOutOfBoundsException", Cond.methodLink RL 71 yX5_mayTell, Cond.instanceMethod yX5_mayTell, Cond.selects RX5 yX5_mayTell yX5_mayTell, Cond.initialized RX5, Cond.code yX5_mayTell cX5_mayTell 3 (some .boolean), Cond.fieldLink RX5 24 "Figurehouse" "agreements" "LFigurehouse$Agreements;", Cond.fieldLink RX5 14 "Figurehouse" "areas" "LFigurehouse$Tree;", Cond.methodLink RX5 69 yX5_requireSender, Cond.static yX5_requireSender, Cond.code yX5_requireSender cX5_requireSender 1 none, Cond.classLink RX5 129 "java/lang/IndexOutOfBoundsException", Cond.initialized "java/lang/IndexOutOfBoundsException", Cond.methodLink RX5 73 yX5_requireArea, Cond.instanceMethod yX5_requireArea, Cond.selects RX5 yX5_requireArea yX5_requireArea, Cond.code yX5_requireArea cX5_requireArea 2 none, Cond.methodLink RX5 208 yX4_has, Cond.instanceMethod yX4_has, Cond.selects RX4 yX4_has yX4_has, Cond.initialized RX4, Cond.code yX4_has cX4_has 2 (some .boolean), Cond.fieldLink RX4 17 "Figurehouse$Tree" "size" "I", Cond.methodLink RX5 202 yX0_cover]
def wsL_mayTell_r2 : List Cond := [Cond.instanceMethod yX0_cover, Cond.selects RX0 yX0_cover yX0_cover, Cond.initialized RX0, Cond.code yX0_cover cX0_cover 5 (some .boolean), Cond.fieldLink RX0 9 "Figurehouse$Agreements" "isOn" "[Z", Cond.methodLink RX0 21 yX4_isWithin, Cond.instanceMethod yX4_isWithin, Cond.selects RX4 yX4_isWithin yX4_isWithin, Cond.code yX4_isWithin cX4_isWithin 5 (some .boolean), Cond.fieldLink RX4 7 "Figurehouse$Tree" "outer" "[I", Cond.methodLink RX4 20 yX4_has]
def wsL_mayTell : List Cond := .codeWith yL_mayTell cL_mayTell 5 (some .int) [(0, 17, 20, 13)] :: ((wsL_mayTell_r1 ++ wsL_mayTell_r2) ++ wsX50 ++ wsX40 ++ wsX00 ++ (vx_atS RX5 133 "java/lang/IndexOutOfBoundsException" ["java/lang/RuntimeException", "java/lang/Exception"]).filter goodWord)
def wsL_law0_r1 : List Cond := [Cond.classLink RL 8 RX5, Cond.instantiable RX5 11, Cond.initialized RX5, Cond.classLink RL 76 RX6, Cond.instantiable RX6 21, Cond.initialized RX6, Cond.arrayClass .long, Cond.methodLink RL 75 yX5_init, Cond.instanceMethod yX5_init, Cond.code yX5_init cX5_init 1 none, Cond.methodLink RX5 3 objectInit, Cond.instanceMethod objectInit, Cond.code objectInit ⟨#[0xb1]⟩ 1 none, Cond.classLink RX5 9 RX4, Cond.instantiable RX4 3, Cond.initialized RX4, Cond.fieldLink RX5 14 "Figurehouse" "areas" "LFigurehouse$Tree;", Cond.fieldLink RX5 18 "Figurehouse" "items" "LFigurehouse$Tree;", Cond.classLink RX5 21 RX0, Cond.instantiable RX0 1, Cond.initialized RX0, Cond.fieldLink RX5 24 "Figurehouse" "agreements" "LFigurehouse$Agreements;", Cond.classLink RX5 28 RX2, Cond.instantiable RX2 5]
def wsL_law0_r2 : List Cond := [Cond.initialized RX2, Cond.fieldLink RX5 31 "Figurehouse" "draft" "LFigurehouse$Draft;", Cond.classLink RX5 35 RX1, Cond.instantiable RX1 8, Cond.initialized RX1, Cond.fieldLink RX5 38 "Figurehouse" "book" "LFigurehouse$Book;", Cond.classLink RX5 42 RX3, Cond.instantiable RX3 2, Cond.initialized RX3, Cond.fieldLink RX5 45 "Figurehouse" "sheet" "LFigurehouse$Sheet;", Cond.arrayClass .boolean, Cond.fieldLink RX5 49 "Figurehouse" "secrets" "[Z", Cond.arrayClass .int, Cond.fieldLink RX5 53 "Figurehouse" "refusals" "[I", Cond.methodLink RX5 11 yX4_init, Cond.instanceMethod yX4_init, Cond.code yX4_init cX4_init 3 none, Cond.methodLink RX4 1 objectInit, Cond.fieldLink RX4 7 "Figurehouse$Tree" "outer" "[I", Cond.fieldLink RX4 13 "Figurehouse$Tree" "stride" "I", Cond.instanceMethod yX0_init, Cond.code yX0_init cX0_init 1 none, Cond.methodLink RX0 3 objectInit, Cond.fieldLink RX0 9 "Figurehouse$Agreements" "isOn" "[Z"]
def wsL_law0_r3 : List Cond := [Cond.instanceMethod yX2_init, Cond.code yX2_init cX2_init 1 none, Cond.methodLink RX2 3 objectInit, Cond.fieldLink RX2 9 "Figurehouse$Draft" "whats" "[I", Cond.fieldLink RX2 15 "Figurehouse$Draft" "areas" "[I", Cond.fieldLink RX2 18 "Figurehouse$Draft" "cells" "[I", Cond.fieldLink RX2 21 "Figurehouse$Draft" "values" "[I", Cond.methodLink RX5 37 yX1_init, Cond.instanceMethod yX1_init, Cond.code yX1_init cX1_init 1 none, Cond.methodLink RX1 3 objectInit, Cond.fieldLink RX1 9 "Figurehouse$Book" "latest" "[I", Cond.fieldLink RX1 15 "Figurehouse$Book" "earliest" "[I", Cond.fieldLink RX1 18 "Figurehouse$Book" "linesDone" "[I", Cond.fieldLink RX1 21 "Figurehouse$Book" "lastDay" "[I", Cond.fieldLink RX1 24 "Figurehouse$Book" "cells" "[I", Cond.fieldLink RX1 27 "Figurehouse$Book" "days" "[I", Cond.fieldLink RX1 30 "Figurehouse$Book" "figures" "[I", Cond.constant RX1 33 (-2000000001), Cond.methodLink RX1 34 yJ7_fill_53178, Cond.static yJ7_fill_53178, Cond.initialized RJ7, Cond.code yJ7_fill_53178 cJ7_fill_53178 4 none, Cond.instanceMethod yX3_init]
def wsL_law0_r4 : List Cond := [Cond.code yX3_init cX3_init 1 none, Cond.methodLink RX3 3 objectInit, Cond.fieldLink RX3 9 "Figurehouse$Sheet" "values" "[I", Cond.fieldLink RX3 15 "Figurehouse$Sheet" "hides" "[Z", Cond.methodLink RL 78 yX6_init, Cond.instanceMethod yX6_init, Cond.code yX6_init cX6_init 1 none, Cond.methodLink RX6 1 objectInit, Cond.fieldLink RX6 7 "FigurehouseModel" "areaIn" "[I", Cond.fieldLink RX6 13 "FigurehouseModel" "itemIn" "[I", Cond.fieldLink RX6 16 "FigurehouseModel" "agreed" "[Z", Cond.fieldLink RX6 20 "FigurehouseModel" "draftWhat" "[I", Cond.fieldLink RX6 23 "FigurehouseModel" "draftCell" "[I", Cond.fieldLink RX6 26 "FigurehouseModel" "draftValue" "[I", Cond.fieldLink RX6 29 "FigurehouseModel" "refused" "[I", Cond.fieldLink RX6 32 "FigurehouseModel" "doneCell" "[I", Cond.fieldLink RX6 35 "FigurehouseModel" "doneDay" "[I", Cond.fieldLink RX6 38 "FigurehouseModel" "doneValue" "[I", Cond.fieldLink RX6 41 "FigurehouseModel" "isSecret" "[Z", Cond.fieldLink RX6 44 "FigurehouseModel" "values" "[I", Cond.fieldLink RX6 47 "FigurehouseModel" "isHidden" "[Z", Cond.methodLink RL 79 yL_area, Cond.static yL_area, Cond.initialized RL]
def wsL_law0_r5 : List Cond := [Cond.codeWith yL_area cL_area 4 (some .int) [(0, 9, 12, 13), (0, 9, 15, 15)], Cond.classLink RL 13 "java/lang/IndexOutOfBoundsException", Cond.classLink RL 15 "java/lang/IllegalStateException", Cond.methodLink RL 7 yX5_area, Cond.instanceMethod yX5_area, Cond.selects RX5 yX5_area yX5_area, Cond.code yX5_area cX5_area 2 (some .int), Cond.methodLink RX5 57 yX5_requirePattern, Cond.static yX5_requirePattern, Cond.code yX5_requirePattern cX5_requirePattern 2 none, Cond.classLink RX5 129 "java/lang/IndexOutOfBoundsException", Cond.initialized "java/lang/IndexOutOfBoundsException", Cond.methodLink RX5 208 yX4_has, Cond.instanceMethod yX4_has, Cond.selects RX4 yX4_has yX4_has, Cond.code yX4_has cX4_has 2 (some .boolean), Cond.fieldLink RX4 17 "Figurehouse$Tree" "size" "I", Cond.methodLink RX5 61 yX5_requireRoom, Cond.static yX5_requireRoom, Cond.code yX5_requireRoom cX5_requireRoom 1 none, Cond.classLink RX5 99 "java/lang/IllegalStateException", Cond.initialized "java/lang/IllegalStateException", Cond.methodLink RX5 213 yX4_isFull, Cond.instanceMethod yX4_isFull]
def wsL_law0_r6 : List Cond := [Cond.selects RX4 yX4_isFull yX4_isFull, Cond.code yX4_isFull cX4_isFull 1 (some .boolean), Cond.methodLink RX5 65 yX4_grow, Cond.instanceMethod yX4_grow, Cond.selects RX4 yX4_grow yX4_grow, Cond.code yX4_grow cX4_grow 3 (some .int), Cond.methodLink RL 84 yX6_area, Cond.instanceMethod yX6_area, Cond.selects RX6 yX6_area yX6_area, Cond.code yX6_area cX6_area 2 (some .int), Cond.fieldLink RX6 54 "FigurehouseModel" "areas" "I", Cond.fieldLink RX6 50 "FigurehouseModel" "thrown" "I", Cond.methodLink RX6 64 yX6_isArea, Cond.instanceMethod yX6_isArea, Cond.selects RX6 yX6_isArea yX6_isArea, Cond.code yX6_isArea cX6_isArea 2 (some .boolean), Cond.methodLink RX6 57 yX6_isIn, Cond.static yX6_isIn, Cond.code yX6_isIn cX6_isIn 3 (some .boolean), Cond.methodLink RL 85 yX6_thrown, Cond.instanceMethod yX6_thrown, Cond.selects RX6 yX6_thrown yX6_thrown, Cond.code yX6_thrown cX6_thrown 1 (some .int), Cond.methodLink RL 89 yL_item]
def wsL_law0_r7 : List Cond := [Cond.static yL_item, Cond.codeWith yL_item cL_item 4 (some .int) [(0, 9, 12, 13), (0, 9, 15, 15)], Cond.methodLink RL 17 yX5_item, Cond.instanceMethod yX5_item, Cond.selects RX5 yX5_item yX5_item, Cond.code yX5_item cX5_item 2 (some .int), Cond.methodLink RL 91 yX6_item, Cond.instanceMethod yX6_item, Cond.selects RX6 yX6_item yX6_item, Cond.code yX6_item cX6_item 2 (some .int), Cond.fieldLink RX6 61 "FigurehouseModel" "items" "I", Cond.methodLink RX6 68 yX6_isItem, Cond.instanceMethod yX6_isItem, Cond.selects RX6 yX6_isItem yX6_isItem, Cond.code yX6_isItem cX6_isItem 2 (some .boolean), Cond.methodLink RL 92 yL_agree, Cond.static yL_agree, Cond.codeWith yL_agree cL_agree 6 (some .int) [(0, 19, 22, 13)], Cond.methodLink RL 20 yX5_agree, Cond.instanceMethod yX5_agree, Cond.selects RX5 yX5_agree yX5_agree, Cond.code yX5_agree cX5_agree 4 (some .boolean), Cond.methodLink RX5 69 yX5_requireSender, Cond.static yX5_requireSender]
def wsL_law0_r8 : List Cond := [Cond.code yX5_requireSender cX5_requireSender 1 none, Cond.methodLink RX5 73 yX5_requireArea, Cond.instanceMethod yX5_requireArea, Cond.selects RX5 yX5_requireArea yX5_requireArea, Cond.code yX5_requireArea cX5_requireArea 2 none, Cond.methodLink RX5 76 yX0_change, Cond.instanceMethod yX0_change, Cond.selects RX0 yX0_change yX0_change, Cond.code yX0_change cX0_change 6 (some .boolean), Cond.methodLink RL 95 yX6_agree, Cond.instanceMethod yX6_agree, Cond.selects RX6 yX6_agree yX6_agree, Cond.code yX6_agree cX6_agree 5 (some .boolean), Cond.methodLink RX6 71 yX6_isSender, Cond.static yX6_isSender, Cond.code yX6_isSender cX6_isSender 1 (some .boolean), Cond.methodLink RL 96 yL_put, Cond.static yL_put, Cond.codeWith yL_put cL_put 8 (some .int) [(0, 16, 19, 13), (0, 16, 23, 28), (0, 16, 27, 15)], Cond.classLink RL 28 "java/lang/IllegalArgumentException", Cond.methodLink RL 24 yX5_put, Cond.instanceMethod yX5_put, Cond.selects RX5 yX5_put yX5_put, Cond.code yX5_put cX5_put 7 (some .int)]
def wsL_law0_r9 : List Cond := [Cond.classLink RX5 84 "java/lang/IllegalArgumentException", Cond.initialized "java/lang/IllegalArgumentException", Cond.constant RX5 91 (-1000000), Cond.constant RX5 92 (1000000), Cond.methodLink RX5 80 yX5_requireCell, Cond.instanceMethod yX5_requireCell, Cond.selects RX5 yX5_requireCell yX5_requireCell, Cond.code yX5_requireCell cX5_requireCell 4 (some .int), Cond.methodLink RX5 187 yX5_isPeriod, Cond.static yX5_isPeriod, Cond.code yX5_isPeriod cX5_isPeriod 1 (some .boolean), Cond.methodLink RX5 220 yX5_cellOf, Cond.static yX5_cellOf, Cond.code yX5_cellOf cX5_cellOf 3 (some .int), Cond.methodLink RX5 158 yX5_slotOf, Cond.static yX5_slotOf, Cond.code yX5_slotOf cX5_slotOf 2 (some .int), Cond.methodLink RX5 95 yX2_isFull, Cond.instanceMethod yX2_isFull, Cond.selects RX2 yX2_isFull yX2_isFull, Cond.code yX2_isFull cX2_isFull 1 (some .boolean), Cond.fieldLink RX2 24 "Figurehouse$Draft" "size" "I", Cond.methodLink RX5 104 yX2_append, Cond.instanceMethod yX2_append]
def wsL_law0_r10 : List Cond := [Cond.selects RX2 yX2_append yX2_append, Cond.code yX2_append cX2_append 5 (some .int), Cond.methodLink RL 99 yX6_put, Cond.instanceMethod yX6_put, Cond.selects RX6 yX6_put yX6_put, Cond.code yX6_put cX6_put 6 (some .int), Cond.constant RX6 77 (-1000000), Cond.constant RX6 78 (1000000), Cond.fieldLink RX6 79 "FigurehouseModel" "drafted" "I", Cond.methodLink RX6 74 yX6_isCell, Cond.instanceMethod yX6_isCell, Cond.selects RX6 yX6_isCell yX6_isCell, Cond.code yX6_isCell cX6_isCell 4 (some .boolean), Cond.methodLink RX6 82 yX6_cellOf, Cond.static yX6_cellOf, Cond.code yX6_cellOf cX6_cellOf 3 (some .int), Cond.methodLink RL 100 yX5_wipe, Cond.instanceMethod yX5_wipe, Cond.selects RX5 yX5_wipe yX5_wipe, Cond.code yX5_wipe cX5_wipe 1 (some .int), Cond.methodLink RX5 108 yX2_clear, Cond.instanceMethod yX2_clear, Cond.selects RX2 yX2_clear yX2_clear, Cond.code yX2_clear cX2_clear 2 (some .int)]
def wsL_law0_r11 : List Cond := [Cond.methodLink RL 103 yX6_wipe, Cond.instanceMethod yX6_wipe, Cond.selects RX6 yX6_wipe yX6_wipe, Cond.code yX6_wipe cX6_wipe 2 (some .int), Cond.methodLink RL 104 yL_send, Cond.static yL_send, Cond.codeWith yL_send cL_send 4 (some .int) [(0, 9, 12, 13), (0, 9, 15, 15)], Cond.methodLink RL 30 yX5_send, Cond.instanceMethod yX5_send, Cond.selects RX5 yX5_send yX5_send, Cond.code yX5_send cX5_send 4 (some .int), Cond.fieldLink RX5 118 "Figurehouse" "sentLines" "I", Cond.methodLink RX5 123 yX5_judgeDraft, Cond.instanceMethod yX5_judgeDraft, Cond.selects RX5 yX5_judgeDraft yX5_judgeDraft, Cond.code yX5_judgeDraft cX5_judgeDraft 5 (some .int), Cond.fieldLink RX5 142 "Figurehouse" "today" "I", Cond.fieldLink RX5 126 "Figurehouse" "judgedLines" "I", Cond.methodLink RX5 225 yX5_judge, Cond.instanceMethod yX5_judge, Cond.selects RX5 yX5_judge yX5_judge, Cond.code yX5_judge cX5_judge 5 (some .int), Cond.constant RX5 173 (-2000000001), Cond.methodLink RX5 202 yX0_cover]
def wsL_law0_r12 : List Cond := [Cond.instanceMethod yX0_cover, Cond.selects RX0 yX0_cover yX0_cover, Cond.code yX0_cover cX0_cover 5 (some .boolean), Cond.methodLink RX0 21 yX4_isWithin, Cond.instanceMethod yX4_isWithin, Cond.selects RX4 yX4_isWithin yX4_isWithin, Cond.code yX4_isWithin cX4_isWithin 5 (some .boolean), Cond.methodLink RX4 20 yX4_has, Cond.methodLink RX5 231 yX2_figureBehind, Cond.instanceMethod yX2_figureBehind, Cond.selects RX2 yX2_figureBehind yX2_figureBehind, Cond.code yX2_figureBehind cX2_figureBehind 2 (some .int), Cond.constant RX2 28 (-2000000001), Cond.methodLink RX5 234 yX1_enter, Cond.instanceMethod yX1_enter, Cond.selects RX1 yX1_enter yX1_enter, Cond.code yX1_enter cX1_enter 4 none, Cond.fieldLink RX1 40 "Figurehouse$Book" "size" "I", Cond.methodLink RL 106 yX6_send, Cond.instanceMethod yX6_send, Cond.selects RX6 yX6_send yX6_send, Cond.code yX6_send cX6_send 4 (some .int), Cond.fieldLink RX6 101 "FigurehouseModel" "sent" "I", Cond.fieldLink RX6 87 "FigurehouseModel" "done" "I"]
def wsL_law0_r13 : List Cond := [Cond.fieldLink RX6 90 "FigurehouseModel" "today" "I", Cond.constant RX6 86 (-2000000001), Cond.fieldLink RX6 107 "FigurehouseModel" "latest" "I", Cond.methodLink RX6 104 yX6_judges, Cond.instanceMethod yX6_judges, Cond.selects RX6 yX6_judges yX6_judges, Cond.code yX6_judges cX6_judges 6 (some .int), Cond.methodLink RX6 93 yX6_figureOn, Cond.instanceMethod yX6_figureOn, Cond.selects RX6 yX6_figureOn yX6_figureOn, Cond.code yX6_figureOn cX6_figureOn 5 (some .int), Cond.methodLink RX6 97 yX6_may, Cond.instanceMethod yX6_may, Cond.selects RX6 yX6_may yX6_may, Cond.code yX6_may cX6_may 5 (some .boolean), Cond.methodLink RL 107 yL_refusal, Cond.static yL_refusal, Cond.codeWith yL_refusal cL_refusal 4 (some .int) [(0, 9, 12, 13)], Cond.methodLink RL 33 yX5_refusal, Cond.instanceMethod yX5_refusal, Cond.selects RX5 yX5_refusal yX5_refusal, Cond.code yX5_refusal cX5_refusal 2 (some .int), Cond.methodLink RL 109 yX6_refusal, Cond.instanceMethod yX6_refusal]
def wsL_law0_r14 : List Cond := [Cond.selects RX6 yX6_refusal yX6_refusal, Cond.code yX6_refusal cX6_refusal 2 (some .int), Cond.methodLink RL 110 yL_secret, Cond.static yL_secret, Cond.codeWith yL_secret cL_secret 7 (some .int) [(0, 14, 17, 13)], Cond.methodLink RL 36 yX5_secret, Cond.instanceMethod yX5_secret, Cond.selects RX5 yX5_secret yX5_secret, Cond.code yX5_secret cX5_secret 6 (some .int), Cond.methodLink RX5 134 yX5_loadHidden, Cond.instanceMethod yX5_loadHidden, Cond.selects RX5 yX5_loadHidden yX5_loadHidden, Cond.code yX5_loadHidden cX5_loadHidden 2 none, Cond.methodLink RX5 154 yX3_load, Cond.instanceMethod yX3_load, Cond.selects RX3 yX3_load yX3_load, Cond.code yX3_load cX3_load 9 none, Cond.constant RX3 19 (-2000000001), Cond.methodLink RX3 20 yX3_loadFigures, Cond.instanceMethod yX3_loadFigures, Cond.selects RX3 yX3_loadFigures yX3_loadFigures, Cond.code yX3_loadFigures cX3_loadFigures 6 none, Cond.methodLink RX3 38 yJ7_fill_53178, Cond.methodLink RX3 34 yX3_sumRightIn]
def wsL_law0_r15 : List Cond := [Cond.instanceMethod yX3_sumRightIn, Cond.selects RX3 yX3_sumRightIn yX3_sumRightIn, Cond.code yX3_sumRightIn cX3_sumRightIn 8 (some .int), Cond.methodLink RX3 56 yX4_isRightIn, Cond.instanceMethod yX4_isRightIn, Cond.selects RX4 yX4_isRightIn yX4_isRightIn, Cond.code yX4_isRightIn cX4_isRightIn 3 (some .boolean), Cond.methodLink RX3 60 yX3_slotBeside, Cond.static yX3_slotBeside, Cond.code yX3_slotBeside cX3_slotBeside 4 (some .int), Cond.methodLink RX3 64 yX3_valueAt, Cond.instanceMethod yX3_valueAt, Cond.selects RX3 yX3_valueAt yX3_valueAt, Cond.code yX3_valueAt cX3_valueAt 2 (some .int), Cond.methodLink RX5 246 yX3_hide, Cond.instanceMethod yX3_hide, Cond.selects RX3 yX3_hide yX3_hide, Cond.code yX3_hide cX3_hide 9 none, Cond.methodLink RX3 71 yX3_goThroughRows, Cond.instanceMethod yX3_goThroughRows, Cond.selects RX3 yX3_goThroughRows yX3_goThroughRows, Cond.code yX3_goThroughRows cX3_goThroughRows 8 (some .boolean), Cond.methodLink RX3 75 yX3_protectRow, Cond.instanceMethod yX3_protectRow]
def wsL_law0_r16 : List Cond := [Cond.selects RX3 yX3_protectRow yX3_protectRow, Cond.code yX3_protectRow cX3_protectRow 4 (some .boolean), Cond.methodLink RX3 79 yX3_countHiddenInRow, Cond.instanceMethod yX3_countHiddenInRow, Cond.selects RX3 yX3_countHiddenInRow yX3_countHiddenInRow, Cond.code yX3_countHiddenInRow cX3_countHiddenInRow 6 (some .int), Cond.methodLink RX3 85 yX3_isHidden, Cond.instanceMethod yX3_isHidden, Cond.selects RX3 yX3_isHidden yX3_isHidden, Cond.code yX3_isHidden cX3_isHidden 2 (some .boolean), Cond.methodLink RX3 82 yX3_nearestOpenSlot, Cond.instanceMethod yX3_nearestOpenSlot, Cond.selects RX3 yX3_nearestOpenSlot yX3_nearestOpenSlot, Cond.code yX3_nearestOpenSlot cX3_nearestOpenSlot 7 (some .int), Cond.methodLink RX3 89 Lib.Math.abs.name, Cond.static Lib.Math.abs.name, Cond.initialized "java/lang/Math", Cond.code Lib.Math.abs.name Lib.Math.abs.code 1 (some .int), Cond.methodLink RX5 137 yX3_countHiddenSlots, Cond.instanceMethod yX3_countHiddenSlots, Cond.selects RX3 yX3_countHiddenSlots yX3_countHiddenSlots, Cond.code yX3_countHiddenSlots cX3_countHiddenSlots 3 (some .int), Cond.methodLink RL 113 yX6_secret, Cond.instanceMethod yX6_secret]
def wsL_law0_r17 : List Cond := [Cond.selects RX6 yX6_secret yX6_secret, Cond.code yX6_secret cX6_secret 5 (some .int), Cond.methodLink RX6 129 yX6_covers, Cond.instanceMethod yX6_covers, Cond.selects RX6 yX6_covers yX6_covers, Cond.code yX6_covers cX6_covers 7 (some .int), Cond.methodLink RX6 121 yX6_finds, Cond.instanceMethod yX6_finds, Cond.selects RX6 yX6_finds yX6_finds, Cond.code yX6_finds cX6_finds 6 none, Cond.methodLink RX6 110 yX6_sumOf, Cond.instanceMethod yX6_sumOf, Cond.selects RX6 yX6_sumOf yX6_sumOf, Cond.code yX6_sumOf cX6_sumOf 9 (some .int), Cond.methodLink RX6 125 yX6_looks, Cond.instanceMethod yX6_looks, Cond.selects RX6 yX6_looks yX6_looks, Cond.code yX6_looks cX6_looks 9 (some .boolean), Cond.methodLink RX6 114 yX6_hides, Cond.instanceMethod yX6_hides, Cond.selects RX6 yX6_hides yX6_hides, Cond.code yX6_hides cX6_hides 7 (some .int), Cond.methodLink RX6 117 yX6_size, Cond.static yX6_size]
def wsL_law0_r18 : List Cond := [Cond.code yX6_size cX6_size 1 (some .int), Cond.methodLink RL 114 yL_pass, Cond.static yL_pass, Cond.codeWith yL_pass cL_pass 4 (some .int) [(0, 9, 12, 28), (0, 9, 15, 15)], Cond.methodLink RL 40 yX5_pass, Cond.instanceMethod yX5_pass, Cond.selects RX5 yX5_pass yX5_pass, Cond.code yX5_pass cX5_pass 2 (some .int), Cond.methodLink RL 116 yX6_pass, Cond.instanceMethod yX6_pass, Cond.selects RX6 yX6_pass yX6_pass, Cond.code yX6_pass cX6_pass 2 (some .int), Cond.methodLink RL 117 yL_figure, Cond.static yL_figure, Cond.codeWith yL_figure cL_figure 7 (some .int) [(0, 14, 17, 13), (0, 14, 21, 28)], Cond.methodLink RL 43 yX5_figure, Cond.instanceMethod yX5_figure, Cond.selects RX5 yX5_figure yX5_figure, Cond.code yX5_figure cX5_figure 6 (some .int), Cond.methodLink RX5 147 yX5_requireDay, Cond.instanceMethod yX5_requireDay, Cond.selects RX5 yX5_requireDay yX5_requireDay, Cond.code yX5_requireDay cX5_requireDay 2 none, Cond.methodLink RX5 150 yX1_figureOn]
def wsL_law0_r19 : List Cond := [Cond.instanceMethod yX1_figureOn, Cond.selects RX1 yX1_figureOn yX1_figureOn, Cond.code yX1_figureOn cX1_figureOn 4 (some .int), Cond.methodLink RL 120 yX6_figure, Cond.instanceMethod yX6_figure, Cond.selects RX6 yX6_figure yX6_figure, Cond.code yX6_figure cX6_figure 5 (some .int), Cond.methodLink RL 121 yL_value, Cond.static yL_value, Cond.codeWith yL_value cL_value 7 (some .int) [(0, 14, 17, 13), (0, 14, 21, 28)], Cond.methodLink RL 47 yX5_value, Cond.instanceMethod yX5_value, Cond.selects RX5 yX5_value yX5_value, Cond.code yX5_value cX5_value 5 (some .int), Cond.methodLink RX5 161 yX3_valueAt, Cond.methodLink RL 123 yX6_value, Cond.instanceMethod yX6_value, Cond.selects RX6 yX6_value yX6_value, Cond.code yX6_value cX6_value 5 (some .int), Cond.methodLink RL 124 yL_first, Cond.static yL_first, Cond.codeWith yL_first cL_first 6 (some .int) [(0, 12, 15, 13)], Cond.methodLink RL 50 yX5_first, Cond.instanceMethod yX5_first]
def wsL_law0_r20 : List Cond := [Cond.selects RX5 yX5_first yX5_first, Cond.code yX5_first cX5_first 4 (some .int), Cond.methodLink RL 127 yX6_first, Cond.instanceMethod yX6_first, Cond.selects RX6 yX6_first yX6_first, Cond.code yX6_first cX6_first 5 (some .int), Cond.methodLink RL 128 yL_revisions, Cond.static yL_revisions, Cond.codeWith yL_revisions cL_revisions 6 (some .int) [(0, 12, 15, 13)], Cond.methodLink RL 54 yX5_revisions, Cond.instanceMethod yX5_revisions, Cond.selects RX5 yX5_revisions yX5_revisions, Cond.code yX5_revisions cX5_revisions 4 (some .int), Cond.methodLink RL 130 yX6_revisions, Cond.instanceMethod yX6_revisions, Cond.selects RX6 yX6_revisions yX6_revisions, Cond.code yX6_revisions cX6_revisions 6 (some .int), Cond.methodLink RL 131 yL_hasFault, Cond.static yL_hasFault, Cond.codeWith yL_hasFault cL_hasFault 6 (some .int) [(0, 19, 22, 13)], Cond.methodLink RL 57 yX5_hasFault, Cond.instanceMethod yX5_hasFault, Cond.selects RX5 yX5_hasFault yX5_hasFault, Cond.code yX5_hasFault cX5_hasFault 6 (some .boolean)]
def wsL_law0_r21 : List Cond := [Cond.methodLink RX5 174 yX3_sumRightIn, Cond.methodLink RX5 178 yX5_isOtherSum, Cond.static yX5_isOtherSum, Cond.code yX5_isOtherSum cX5_isOtherSum 2 (some .boolean), Cond.methodLink RL 133 yX6_hasFault, Cond.instanceMethod yX6_hasFault, Cond.selects RX6 yX6_hasFault yX6_hasFault, Cond.code yX6_hasFault cX6_hasFault 7 (some .boolean), Cond.methodLink RL 134 yL_shown, Cond.static yL_shown, Cond.codeWith yL_shown cL_shown 6 (some .int) [(0, 12, 15, 13)], Cond.methodLink RL 61 yX5_shown, Cond.instanceMethod yX5_shown, Cond.selects RX5 yX5_shown yX5_shown, Cond.code yX5_shown cX5_shown 5 (some .int), Cond.constant RX5 186 (-2000000002), Cond.methodLink RX5 182 yX3_isHidden, Cond.methodLink RL 136 yX6_shown, Cond.instanceMethod yX6_shown, Cond.selects RX6 yX6_shown yX6_shown, Cond.code yX6_shown cX6_shown 5 (some .int), Cond.constant RX6 132 (-2000000002), Cond.methodLink RL 137 yL_hidden, Cond.static yL_hidden]
def wsL_law0_r22 : List Cond := [Cond.codeWith yL_hidden cL_hidden 4 (some .int) [(0, 9, 12, 13)], Cond.methodLink RL 64 yX5_hidden, Cond.instanceMethod yX5_hidden, Cond.selects RX5 yX5_hidden yX5_hidden, Cond.code yX5_hidden cX5_hidden 2 (some .int), Cond.methodLink RL 139 yX6_hidden, Cond.instanceMethod yX6_hidden, Cond.selects RX6 yX6_hidden yX6_hidden, Cond.code yX6_hidden cX6_hidden 2 (some .int), Cond.methodLink RL 140 yL_find, Cond.static yL_find, Cond.codeWith yL_find cL_find 9 (some .int) [(0, 18, 21, 13), (0, 18, 25, 28)], Cond.methodLink RL 67 yX5_find, Cond.instanceMethod yX5_find, Cond.selects RX5 yX5_find yX5_find, Cond.code yX5_find cX5_find 7 (some .int), Cond.methodLink RX5 198 yX5_matchAt, Cond.instanceMethod yX5_matchAt, Cond.selects RX5 yX5_matchAt yX5_matchAt, Cond.code yX5_matchAt cX5_matchAt 11 (some .int), Cond.methodLink RX5 251 yX1_isToldSince, Cond.instanceMethod yX1_isToldSince, Cond.selects RX1 yX1_isToldSince yX1_isToldSince, Cond.code yX1_isToldSince cX1_isToldSince 3 (some .boolean)]
def wsL_law0_r23 : List Cond := [Cond.methodLink RX5 254 yX4_isWithin, Cond.methodLink RL 143 yX6_find, Cond.instanceMethod yX6_find, Cond.selects RX6 yX6_find yX6_find, Cond.code yX6_find cX6_find 13 (some .int), Cond.methodLink RX6 133 yX6_isWithin, Cond.instanceMethod yX6_isWithin, Cond.selects RX6 yX6_isWithin yX6_isWithin, Cond.code yX6_isWithin cX6_isWithin 6 (some .boolean), Cond.methodLink RX6 136 yX6_toldOn, Cond.instanceMethod yX6_toldOn, Cond.selects RX6 yX6_toldOn yX6_toldOn, Cond.code yX6_toldOn cX6_toldOn 4 (some .int), Cond.methodLink RL 144 yL_mayTell, Cond.static yL_mayTell, Cond.codeWith yL_mayTell cL_mayTell 5 (some .int) [(0, 17, 20, 13)], Cond.methodLink RL 71 yX5_mayTell, Cond.instanceMethod yX5_mayTell, Cond.selects RX5 yX5_mayTell yX5_mayTell, Cond.code yX5_mayTell cX5_mayTell 3 (some .boolean), Cond.methodLink RL 147 yX6_mayTell, Cond.instanceMethod yX6_mayTell, Cond.selects RX6 yX6_mayTell yX6_mayTell, Cond.code yX6_mayTell cX6_mayTell 3 (some .boolean)]
def wsL_law0 : List Cond := (wsL_law0_r1 ++ (wsL_law0_r2 ++ (wsL_law0_r3 ++ (wsL_law0_r4 ++ (wsL_law0_r5 ++ (wsL_law0_r6 ++ (wsL_law0_r7 ++ (wsL_law0_r8 ++ (wsL_law0_r9 ++ (wsL_law0_r10 ++ (wsL_law0_r11 ++ (wsL_law0_r12 ++ (wsL_law0_r13 ++ (wsL_law0_r14 ++ (wsL_law0_r15 ++ (wsL_law0_r16 ++ (wsL_law0_r17 ++ (wsL_law0_r18 ++ (wsL_law0_r19 ++ (wsL_law0_r20 ++ (wsL_law0_r21 ++ (wsL_law0_r22 ++ wsL_law0_r23)))))))))))))))))))))) ++ wsX50 ++ wsX60 ++ wsX40 ++ wsX00 ++ wsX20 ++ wsX10 ++ wsX30 ++ ([] : List Cond)
def wsL_law : List Cond := wsL_law0 ++ (vx_atS RX5 133 "java/lang/IndexOutOfBoundsException" ["java/lang/RuntimeException", "java/lang/Exception"]).filter goodWord ++ (vx_atS RX5 103 "java/lang/IllegalStateException" ["java/lang/RuntimeException", "java/lang/Exception"]).filter goodWord ++ (vx_atS RX5 88 "java/lang/IllegalArgumentException" ["java/lang/RuntimeException", "java/lang/Exception"]).filter goodWord
set_option maxRecDepth 20000 in
theorem wsL_law_q1 : ∀ w ∈ wsL_law0_r1, w ∈ lw_tbl := fun w h => (goodIn_p wsL_law0_r1 [46, 49] (by decide +kernel) (by decide +kernel) w h).1
set_option maxRecDepth 20000 in
theorem wsL_law_q2 : ∀ w ∈ wsL_law0_r2, w ∈ lw_tbl := fun w h => (goodIn_p wsL_law0_r2 [54, 75] (by decide +kernel) (by decide +kernel) w h).1
set_option maxRecDepth 20000 in
theorem wsL_law_q3 : ∀ w ∈ wsL_law0_r3, w ∈ lw_tbl := fun w h => (goodIn_p wsL_law0_r3 [86, 113, 118] (by decide +kernel) (by decide +kernel) w h).1
set_option maxRecDepth 20000 in
theorem wsL_law_q4 : ∀ w ∈ wsL_law0_r4, w ∈ lw_tbl := fun w h => (goodIn_p wsL_law0_r4 [155, 611] (by decide +kernel) (by decide +kernel) w h).1
set_option maxRecDepth 20000 in
theorem wsL_law_q5 : ∀ w ∈ wsL_law0_r5, w ∈ lw_tbl := fun w h => (goodIn_p wsL_law0_r5 [214, 217, 221, 292] (by decide +kernel) (by decide +kernel) w h).1
set_option maxRecDepth 20000 in
theorem wsL_law_q6 : ∀ w ∈ wsL_law0_r6, w ∈ lw_tbl := fun w h => (goodIn_p wsL_law0_r6 [296, 316, 684, 688, 691, 680] (by decide +kernel) (by decide +kernel) w h).1
set_option maxRecDepth 20000 in
theorem wsL_law_q7 : ∀ w ∈ wsL_law0_r7, w ∈ lw_tbl := fun w h => (goodIn_p wsL_law0_r7 [323, 695, 699, 330] (by decide +kernel) (by decide +kernel) w h).1
set_option maxRecDepth 20000 in
theorem wsL_law_q8 : ∀ w ∈ wsL_law0_r8, w ∈ lw_tbl := fun w h => (goodIn_p wsL_law0_r8 [333, 338, 343, 703, 706, 351] (by decide +kernel) (by decide +kernel) w h).1
set_option maxRecDepth 20000 in
theorem wsL_law_q9 : ∀ w ∈ wsL_law0_r9, w ∈ lw_tbl := fun w h => (goodIn_p wsL_law0_r9 [355, 358, 362, 365, 388] (by decide +kernel) (by decide +kernel) w h).1
set_option maxRecDepth 20000 in
theorem wsL_law_q10 : ∀ w ∈ wsL_law0_r10, w ∈ lw_tbl := fun w h => (goodIn_p wsL_law0_r10 [393, 710, 714, 719, 201, 205] (by decide +kernel) (by decide +kernel) w h).1
set_option maxRecDepth 20000 in
theorem wsL_law_q11 : ∀ w ∈ wsL_law0_r11, w ∈ lw_tbl := fun w h => (goodIn_p wsL_law0_r11 [723, 400, 406, 410] (by decide +kernel) (by decide +kernel) w h).1
set_option maxRecDepth 20000 in
theorem wsL_law_q12 : ∀ w ∈ wsL_law0_r12, w ∈ lw_tbl := fun w h => (goodIn_p wsL_law0_r12 [414, 418, 424, 429, 727] (by decide +kernel) (by decide +kernel) w h).1
set_option maxRecDepth 20000 in
theorem wsL_law_q13 : ∀ w ∈ wsL_law0_r13, w ∈ lw_tbl := fun w h => (goodIn_p wsL_law0_r13 [731, 735, 740, 436] (by decide +kernel) (by decide +kernel) w h).1
set_option maxRecDepth 20000 in
theorem wsL_law_q14 : ∀ w ∈ wsL_law0_r14, w ∈ lw_tbl := fun w h => (goodIn_p wsL_law0_r14 [744, 444, 448, 452, 456] (by decide +kernel) (by decide +kernel) w h).1
set_option maxRecDepth 20000 in
theorem wsL_law_q15 : ∀ w ∈ wsL_law0_r15, w ∈ lw_tbl := fun w h => (goodIn_p wsL_law0_r15 [463, 467, 470, 474, 478, 482] (by decide +kernel) (by decide +kernel) w h).1
set_option maxRecDepth 20000 in
theorem wsL_law_q16 : ∀ w ∈ wsL_law0_r16, w ∈ lw_tbl := fun w h => (goodIn_p wsL_law0_r16 [486, 490, 494, 498, 501, 505] (by decide +kernel) (by decide +kernel) w h).1
set_option maxRecDepth 20000 in
theorem wsL_law_q17 : ∀ w ∈ wsL_law0_r17, w ∈ lw_tbl := fun w h => (goodIn_p wsL_law0_r17 [748, 752, 756, 760, 764, 768] (by decide +kernel) (by decide +kernel) w h).1
set_option maxRecDepth 20000 in
theorem wsL_law_q18 : ∀ w ∈ wsL_law0_r18, w ∈ lw_tbl := fun w h => (goodIn_p wsL_law0_r18 [771, 512, 775, 521, 525] (by decide +kernel) (by decide +kernel) w h).1
set_option maxRecDepth 20000 in
theorem wsL_law_q19 : ∀ w ∈ wsL_law0_r19, w ∈ lw_tbl := fun w h => (goodIn_p wsL_law0_r19 [530, 779, 537, 783] (by decide +kernel) (by decide +kernel) w h).1
set_option maxRecDepth 20000 in
theorem wsL_law_q20 : ∀ w ∈ wsL_law0_r20, w ∈ lw_tbl := fun w h => (goodIn_p wsL_law0_r20 [545, 787, 552, 791, 559] (by decide +kernel) (by decide +kernel) w h).1
set_option maxRecDepth 20000 in
theorem wsL_law_q21 : ∀ w ∈ wsL_law0_r21, w ∈ lw_tbl := fun w h => (goodIn_p wsL_law0_r21 [563, 795, 570, 799] (by decide +kernel) (by decide +kernel) w h).1
set_option maxRecDepth 20000 in
theorem wsL_law_q22 : ∀ w ∈ wsL_law0_r22, w ∈ lw_tbl := fun w h => (goodIn_p wsL_law0_r22 [579, 804, 587, 594, 598] (by decide +kernel) (by decide +kernel) w h).1
set_option maxRecDepth 20000 in
theorem wsL_law_q23 : ∀ w ∈ wsL_law0_r23, w ∈ lw_tbl := fun w h => (goodIn_p wsL_law0_r23 [808, 812, 816, 606, 820] (by decide +kernel) (by decide +kernel) w h).1
theorem wsL_law_qwsX50 : ∀ w ∈ wsX50, w ∈ lw_tbl := by decide +kernel
theorem wsL_law_qwsX60 : ∀ w ∈ wsX60, w ∈ lw_tbl := by decide +kernel
theorem wsL_law_qwsX40 : ∀ w ∈ wsX40, w ∈ lw_tbl := by decide +kernel
theorem wsL_law_qwsX00 : ∀ w ∈ wsX00, w ∈ lw_tbl := by decide +kernel
theorem wsL_law_qwsX20 : ∀ w ∈ wsX20, w ∈ lw_tbl := by decide +kernel
theorem wsL_law_qwsX10 : ∀ w ∈ wsX10, w ∈ lw_tbl := by decide +kernel
theorem wsL_law_qwsX30 : ∀ w ∈ wsX30, w ∈ lw_tbl := by decide +kernel
theorem wsL_law_in0 : ∀ w ∈ wsL_law0, w ∈ lw_tbl := fun w h => (List.mem_append.mp h).elim (fun h => (List.mem_append.mp h).elim (fun h => (List.mem_append.mp h).elim (fun h => (List.mem_append.mp h).elim (fun h => (List.mem_append.mp h).elim (fun h => (List.mem_append.mp h).elim (fun h => (List.mem_append.mp h).elim (fun h => (List.mem_append.mp h).elim (fun h => (List.mem_append.mp h).elim (fun h => wsL_law_q1 w h) (fun h => (List.mem_append.mp h).elim (fun h => wsL_law_q2 w h) (fun h => (List.mem_append.mp h).elim (fun h => wsL_law_q3 w h) (fun h => (List.mem_append.mp h).elim (fun h => wsL_law_q4 w h) (fun h => (List.mem_append.mp h).elim (fun h => wsL_law_q5 w h) (fun h => (List.mem_append.mp h).elim (fun h => wsL_law_q6 w h) (fun h => (List.mem_append.mp h).elim (fun h => wsL_law_q7 w h) (fun h => (List.mem_append.mp h).elim (fun h => wsL_law_q8 w h) (fun h => (List.mem_append.mp h).elim (fun h => wsL_law_q9 w h) (fun h => (List.mem_append.mp h).elim (fun h => wsL_law_q10 w h) (fun h => (List.mem_append.mp h).elim (fun h => wsL_law_q11 w h) (fun h => (List.mem_append.mp h).elim (fun h => wsL_law_q12 w h) (fun h => (List.mem_append.mp h).elim (fun h => wsL_law_q13 w h) (fun h => (List.mem_append.mp h).elim (fun h => wsL_law_q14 w h) (fun h => (List.mem_append.mp h).elim (fun h => wsL_law_q15 w h) (fun h => (List.mem_append.mp h).elim (fun h => wsL_law_q16 w h) (fun h => (List.mem_append.mp h).elim (fun h => wsL_law_q17 w h) (fun h => (List.mem_append.mp h).elim (fun h => wsL_law_q18 w h) (fun h => (List.mem_append.mp h).elim (fun h => wsL_law_q19 w h) (fun h => (List.mem_append.mp h).elim (fun h => wsL_law_q20 w h) (fun h => (List.mem_append.mp h).elim (fun h => wsL_law_q21 w h) (fun h => (List.mem_append.mp h).elim (fun h => wsL_law_q22 w h) (fun h => wsL_law_q23 w h))))))))))))))))))))))) (fun h => wsL_law_qwsX50 w h)) (fun h => wsL_law_qwsX60 w h)) (fun h => wsL_law_qwsX40 w h)) (fun h => wsL_law_qwsX00 w h)) (fun h => wsL_law_qwsX20 w h)) (fun h => wsL_law_qwsX10 w h)) (fun h => wsL_law_qwsX30 w h)) (fun h => nomatch h)
theorem wsL_law_x0 : ∀ w ∈ (vx_atS RX5 133 "java/lang/IndexOutOfBoundsException" ["java/lang/RuntimeException", "java/lang/Exception"]).filter goodWord, w ∈ lw_tbl := by decide +kernel
theorem wsL_law_x1 : ∀ w ∈ (vx_atS RX5 103 "java/lang/IllegalStateException" ["java/lang/RuntimeException", "java/lang/Exception"]).filter goodWord, w ∈ lw_tbl := by decide +kernel
theorem wsL_law_x2 : ∀ w ∈ (vx_atS RX5 88 "java/lang/IllegalArgumentException" ["java/lang/RuntimeException", "java/lang/Exception"]).filter goodWord, w ∈ lw_tbl := by decide +kernel
theorem wsL_law_in : ∀ w ∈ wsL_law, w ∈ lw_tbl := fun w h => (List.mem_append.mp h).elim (fun h => (List.mem_append.mp h).elim (fun h => (List.mem_append.mp h).elim (fun h => wsL_law_in0 w h) (fun h => wsL_law_x0 w h)) (fun h => wsL_law_x1 w h)) (fun h => wsL_law_x2 w h)
theorem inlX0 : ∀ w ∈ wsX00, w ∈ wsL_law := fun _ h => List.mem_append_left _ (List.mem_append_left _ (List.mem_append_left _ (List.mem_append_left _ (List.mem_append_left _ (List.mem_append_left _ (List.mem_append_left _ (List.mem_append_right _ h)))))))
theorem inX0 : ∀ w ∈ wsX00, w ∈ lw_tbl := fun w h => wsL_law_in w (inlX0 w h)
theorem inlX1 : ∀ w ∈ wsX10, w ∈ wsL_law := fun _ h => List.mem_append_left _ (List.mem_append_left _ (List.mem_append_left _ (List.mem_append_left _ (List.mem_append_left _ (List.mem_append_right _ h)))))
theorem inX1 : ∀ w ∈ wsX10, w ∈ lw_tbl := fun w h => wsL_law_in w (inlX1 w h)
theorem inlX2 : ∀ w ∈ wsX20, w ∈ wsL_law := fun _ h => List.mem_append_left _ (List.mem_append_left _ (List.mem_append_left _ (List.mem_append_left _ (List.mem_append_left _ (List.mem_append_left _ (List.mem_append_right _ h))))))
theorem inX2 : ∀ w ∈ wsX20, w ∈ lw_tbl := fun w h => wsL_law_in w (inlX2 w h)
theorem inlX3 : ∀ w ∈ wsX30, w ∈ wsL_law := fun _ h => List.mem_append_left _ (List.mem_append_left _ (List.mem_append_left _ (List.mem_append_left _ (List.mem_append_right _ h))))
theorem inX3 : ∀ w ∈ wsX30, w ∈ lw_tbl := fun w h => wsL_law_in w (inlX3 w h)
theorem inlX4 : ∀ w ∈ wsX40, w ∈ wsL_law := fun _ h => List.mem_append_left _ (List.mem_append_left _ (List.mem_append_left _ (List.mem_append_left _ (List.mem_append_left _ (List.mem_append_left _ (List.mem_append_left _ (List.mem_append_left _ (List.mem_append_right _ h))))))))
theorem inX4 : ∀ w ∈ wsX40, w ∈ lw_tbl := fun w h => wsL_law_in w (inlX4 w h)
theorem inlX5 : ∀ w ∈ wsX50, w ∈ wsL_law := fun _ h => List.mem_append_left _ (List.mem_append_left _ (List.mem_append_left _ (List.mem_append_left _ (List.mem_append_left _ (List.mem_append_left _ (List.mem_append_left _ (List.mem_append_left _ (List.mem_append_left _ (List.mem_append_left _ (List.mem_append_right _ h))))))))))
theorem inX5 : ∀ w ∈ wsX50, w ∈ lw_tbl := fun w h => wsL_law_in w (inlX5 w h)
theorem inlX6 : ∀ w ∈ wsX60, w ∈ wsL_law := fun _ h => List.mem_append_left _ (List.mem_append_left _ (List.mem_append_left _ (List.mem_append_left _ (List.mem_append_left _ (List.mem_append_left _ (List.mem_append_left _ (List.mem_append_left _ (List.mem_append_left _ (List.mem_append_right _ h)))))))))
theorem inX6 : ∀ w ∈ wsX60, w ∈ lw_tbl := fun w h => wsL_law_in w (inlX6 w h)
theorem inJx145de : ∀ w ∈ wsJx145de0, w ∈ lw_tbl := by decide +kernel
theorem inJ9 : ∀ w ∈ wsJ90, w ∈ lw_tbl := by decide +kernel
theorem inJ0 : ∀ w ∈ wsJ00, w ∈ lw_tbl := by decide +kernel
theorem inJ7 : ∀ w ∈ wsJ70, w ∈ lw_tbl := by decide +kernel
end
section
theorem dX0_init_0 : decode cX0_init 0 = .ok (.aload_n 0, 1) := by decide +kernel
theorem dX0_init_1 : decode cX0_init 1 = .ok (.invokespecial 3, 3) := by decide +kernel
theorem dX0_init_4 : decode cX0_init 4 = .ok (.aload_n 0, 1) := by decide +kernel
theorem dX0_init_5 : decode cX0_init 5 = .ok (.bipush 56, 2) := by decide +kernel
theorem dX0_init_7 : decode cX0_init 7 = .ok (.newarray .boolean, 2) := by decide +kernel
theorem dX0_init_9 : decode cX0_init 9 = .ok (.putfield 9, 3) := by decide +kernel
theorem dX0_init_12 : decode cX0_init 12 = .ok (.return_, 1) := by decide +kernel
theorem dX0_change_0 : decode cX0_change 0 = .ok (.iload_n 1, 1) := by decide +kernel
theorem dX0_change_1 : decode cX0_change 1 = .ok (.bipush 14, 2) := by decide +kernel
theorem dX0_change_3 : decode cX0_change 3 = .ok (.imul, 1) := by decide +kernel
theorem dX0_change_4 : decode cX0_change 4 = .ok (.iload_n 2, 1) := by decide +kernel
theorem dX0_change_5 : decode cX0_change 5 = .ok (.iadd, 1) := by decide +kernel
theorem dX0_change_6 : decode cX0_change 6 = .ok (.istore 4, 2) := by decide +kernel
theorem dX0_change_8 : decode cX0_change 8 = .ok (.aload_n 0, 1) := by decide +kernel
theorem dX0_change_9 : decode cX0_change 9 = .ok (.getfield 9, 3) := by decide +kernel
theorem dX0_change_12 : decode cX0_change 12 = .ok (.iload 4, 2) := by decide +kernel
theorem dX0_change_14 : decode cX0_change 14 = .ok (.baload, 1) := by decide +kernel
theorem dX0_change_15 : decode cX0_change 15 = .ok (.iload_n 3, 1) := by decide +kernel
theorem dX0_change_16 : decode cX0_change 16 = .ok (.if_icmp .eq 7, 3) := by decide +kernel
theorem dX0_change_19 : decode cX0_change 19 = .ok (.iconst 1, 1) := by decide +kernel
theorem dX0_change_20 : decode cX0_change 20 = .ok (.goto 4, 3) := by decide +kernel
theorem dX0_change_23 : decode cX0_change 23 = .ok (.iconst 0, 1) := by decide +kernel
theorem dX0_change_24 : decode cX0_change 24 = .ok (.istore 5, 2) := by decide +kernel
theorem dX0_change_26 : decode cX0_change 26 = .ok (.aload_n 0, 1) := by decide +kernel
theorem dX0_change_27 : decode cX0_change 27 = .ok (.getfield 9, 3) := by decide +kernel
theorem dX0_change_30 : decode cX0_change 30 = .ok (.iload 4, 2) := by decide +kernel
theorem dX0_change_32 : decode cX0_change 32 = .ok (.iload_n 3, 1) := by decide +kernel
theorem dX0_change_33 : decode cX0_change 33 = .ok (.bastore, 1) := by decide +kernel
theorem dX0_change_34 : decode cX0_change 34 = .ok (.iload 5, 2) := by decide +kernel
theorem dX0_change_36 : decode cX0_change 36 = .ok (.ireturn, 1) := by decide +kernel
set_option maxRecDepth 20000 in
theorem ggX0_cover_X4_isWithin : GoodIn wsX0_cover wsX4_isWithin := goodIn_r _ [6, 7, 8, 9, 10, 11, 5, 12, 13, 14, 15] (by decide +kernel) (by decide +kernel)
set_option maxRecDepth 20000 in
theorem gX0_cover_X4_isWithin : GoodIn wsX0_cover (wsV RX0 21 RX4 yX4_isWithin wsX4_isWithin) := goodIn_app (goodIn_of _ (by decide +kernel)) ggX0_cover_X4_isWithin
theorem dX0_cover_0 : decode cX0_cover 0 = .ok (.iconst 0, 1) := by decide +kernel
theorem dX0_cover_1 : decode cX0_cover 1 = .ok (.istore 4, 2) := by decide +kernel
theorem dX0_cover_3 : decode cX0_cover 3 = .ok (.iload 4, 2) := by decide +kernel
theorem dX0_cover_5 : decode cX0_cover 5 = .ok (.aload_n 3, 1) := by decide +kernel
theorem dX0_cover_6 : decode cX0_cover 6 = .ok (.getfield 15, 3) := by decide +kernel
theorem dX0_cover_9 : decode cX0_cover 9 = .ok (.if_icmp .ge 36, 3) := by decide +kernel
theorem dX0_cover_12 : decode cX0_cover 12 = .ok (.aload_n 0, 1) := by decide +kernel
theorem dX0_cover_13 : decode cX0_cover 13 = .ok (.getfield 9, 3) := by decide +kernel
theorem dX0_cover_16 : decode cX0_cover 16 = .ok (.iload_n 1, 1) := by decide +kernel
theorem dX0_cover_17 : decode cX0_cover 17 = .ok (.bipush 14, 2) := by decide +kernel
theorem dX0_cover_19 : decode cX0_cover 19 = .ok (.imul, 1) := by decide +kernel
theorem dX0_cover_20 : decode cX0_cover 20 = .ok (.iload 4, 2) := by decide +kernel
theorem dX0_cover_22 : decode cX0_cover 22 = .ok (.iadd, 1) := by decide +kernel
theorem dX0_cover_23 : decode cX0_cover 23 = .ok (.baload, 1) := by decide +kernel
theorem dX0_cover_24 : decode cX0_cover 24 = .ok (.ifCond .eq 15, 3) := by decide +kernel
theorem dX0_cover_27 : decode cX0_cover 27 = .ok (.aload_n 3, 1) := by decide +kernel
theorem dX0_cover_28 : decode cX0_cover 28 = .ok (.iload_n 2, 1) := by decide +kernel
theorem dX0_cover_29 : decode cX0_cover 29 = .ok (.iload 4, 2) := by decide +kernel
theorem dX0_cover_31 : decode cX0_cover 31 = .ok (.invokevirtual 21, 3) := by decide +kernel
theorem dX0_cover_34 : decode cX0_cover 34 = .ok (.ifCond .eq 5, 3) := by decide +kernel
theorem dX0_cover_37 : decode cX0_cover 37 = .ok (.iconst 1, 1) := by decide +kernel
theorem dX0_cover_38 : decode cX0_cover 38 = .ok (.ireturn, 1) := by decide +kernel
theorem dX0_cover_39 : decode cX0_cover 39 = .ok (.iinc 4 1, 3) := by decide +kernel
theorem dX0_cover_42 : decode cX0_cover 42 = .ok (.goto (-39), 3) := by decide +kernel
theorem dX0_cover_45 : decode cX0_cover 45 = .ok (.iconst 0, 1) := by decide +kernel
theorem dX0_cover_46 : decode cX0_cover 46 = .ok (.ireturn, 1) := by decide +kernel
set_option maxRecDepth 20000 in
theorem ggX1_init_J7_fill_53178 : GoodIn wsX1_init wsJ7_fill_53178 := goodIn_r _ [16] (by decide +kernel) (by decide +kernel)
set_option maxRecDepth 20000 in
theorem gX1_init_J7_fill_53178 : GoodIn wsX1_init (va_wsS RX1 34 yJ7_fill_53178 wsJ7_fill_53178) := goodIn_app (goodIn_of _ (by decide +kernel)) ggX1_init_J7_fill_53178
theorem dX1_init_0 : decode cX1_init 0 = .ok (.aload_n 0, 1) := by decide +kernel
theorem dX1_init_1 : decode cX1_init 1 = .ok (.invokespecial 3, 3) := by decide +kernel
theorem dX1_init_4 : decode cX1_init 4 = .ok (.aload_n 0, 1) := by decide +kernel
theorem dX1_init_5 : decode cX1_init 5 = .ok (.sipush 1680, 3) := by decide +kernel
theorem dX1_init_8 : decode cX1_init 8 = .ok (.newarray .int, 2) := by decide +kernel
theorem dX1_init_10 : decode cX1_init 10 = .ok (.putfield 9, 3) := by decide +kernel
theorem dX1_init_13 : decode cX1_init 13 = .ok (.aload_n 0, 1) := by decide +kernel
theorem dX1_init_14 : decode cX1_init 14 = .ok (.sipush 1680, 3) := by decide +kernel
theorem dX1_init_17 : decode cX1_init 17 = .ok (.newarray .int, 2) := by decide +kernel
theorem dX1_init_19 : decode cX1_init 19 = .ok (.putfield 15, 3) := by decide +kernel
theorem dX1_init_22 : decode cX1_init 22 = .ok (.aload_n 0, 1) := by decide +kernel
theorem dX1_init_23 : decode cX1_init 23 = .ok (.sipush 1680, 3) := by decide +kernel
theorem dX1_init_26 : decode cX1_init 26 = .ok (.newarray .int, 2) := by decide +kernel
theorem dX1_init_28 : decode cX1_init 28 = .ok (.putfield 18, 3) := by decide +kernel
theorem dX1_init_31 : decode cX1_init 31 = .ok (.aload_n 0, 1) := by decide +kernel
theorem dX1_init_32 : decode cX1_init 32 = .ok (.sipush 1680, 3) := by decide +kernel
theorem dX1_init_35 : decode cX1_init 35 = .ok (.newarray .int, 2) := by decide +kernel
theorem dX1_init_37 : decode cX1_init 37 = .ok (.putfield 21, 3) := by decide +kernel
theorem dX1_init_40 : decode cX1_init 40 = .ok (.aload_n 0, 1) := by decide +kernel
theorem dX1_init_41 : decode cX1_init 41 = .ok (.sipush 300, 3) := by decide +kernel
theorem dX1_init_44 : decode cX1_init 44 = .ok (.newarray .int, 2) := by decide +kernel
theorem dX1_init_46 : decode cX1_init 46 = .ok (.putfield 24, 3) := by decide +kernel
theorem dX1_init_49 : decode cX1_init 49 = .ok (.aload_n 0, 1) := by decide +kernel
theorem dX1_init_50 : decode cX1_init 50 = .ok (.sipush 300, 3) := by decide +kernel
theorem dX1_init_53 : decode cX1_init 53 = .ok (.newarray .int, 2) := by decide +kernel
theorem dX1_init_55 : decode cX1_init 55 = .ok (.putfield 27, 3) := by decide +kernel
theorem dX1_init_58 : decode cX1_init 58 = .ok (.aload_n 0, 1) := by decide +kernel
theorem dX1_init_59 : decode cX1_init 59 = .ok (.sipush 300, 3) := by decide +kernel
theorem dX1_init_62 : decode cX1_init 62 = .ok (.newarray .int, 2) := by decide +kernel
theorem dX1_init_64 : decode cX1_init 64 = .ok (.putfield 30, 3) := by decide +kernel
theorem dX1_init_67 : decode cX1_init 67 = .ok (.aload_n 0, 1) := by decide +kernel
theorem dX1_init_68 : decode cX1_init 68 = .ok (.getfield 9, 3) := by decide +kernel
theorem dX1_init_71 : decode cX1_init 71 = .ok (.ldc 33, 2) := by decide +kernel
theorem dX1_init_73 : decode cX1_init 73 = .ok (.invokestatic 34, 3) := by decide +kernel
theorem dX1_init_76 : decode cX1_init 76 = .ok (.aload_n 0, 1) := by decide +kernel
theorem dX1_init_77 : decode cX1_init 77 = .ok (.getfield 15, 3) := by decide +kernel
theorem dX1_init_80 : decode cX1_init 80 = .ok (.ldc 33, 2) := by decide +kernel
theorem dX1_init_82 : decode cX1_init 82 = .ok (.invokestatic 34, 3) := by decide +kernel
theorem dX1_init_85 : decode cX1_init 85 = .ok (.return_, 1) := by decide +kernel
theorem dX1_enter_0 : decode cX1_enter 0 = .ok (.aload_n 0, 1) := by decide +kernel
theorem dX1_enter_1 : decode cX1_enter 1 = .ok (.getfield 40, 3) := by decide +kernel
theorem dX1_enter_4 : decode cX1_enter 4 = .ok (.sipush 300, 3) := by decide +kernel
theorem dX1_enter_7 : decode cX1_enter 7 = .ok (.if_icmp .ge 83, 3) := by decide +kernel
theorem dX1_enter_10 : decode cX1_enter 10 = .ok (.aload_n 0, 1) := by decide +kernel
theorem dX1_enter_11 : decode cX1_enter 11 = .ok (.getfield 24, 3) := by decide +kernel
theorem dX1_enter_14 : decode cX1_enter 14 = .ok (.aload_n 0, 1) := by decide +kernel
theorem dX1_enter_15 : decode cX1_enter 15 = .ok (.getfield 40, 3) := by decide +kernel
theorem dX1_enter_18 : decode cX1_enter 18 = .ok (.iload_n 1, 1) := by decide +kernel
theorem dX1_enter_19 : decode cX1_enter 19 = .ok (.iastore, 1) := by decide +kernel
theorem dX1_enter_20 : decode cX1_enter 20 = .ok (.aload_n 0, 1) := by decide +kernel
theorem dX1_enter_21 : decode cX1_enter 21 = .ok (.getfield 27, 3) := by decide +kernel
theorem dX1_enter_24 : decode cX1_enter 24 = .ok (.aload_n 0, 1) := by decide +kernel
theorem dX1_enter_25 : decode cX1_enter 25 = .ok (.getfield 40, 3) := by decide +kernel
theorem dX1_enter_28 : decode cX1_enter 28 = .ok (.iload_n 2, 1) := by decide +kernel
theorem dX1_enter_29 : decode cX1_enter 29 = .ok (.iastore, 1) := by decide +kernel
theorem dX1_enter_30 : decode cX1_enter 30 = .ok (.aload_n 0, 1) := by decide +kernel
theorem dX1_enter_31 : decode cX1_enter 31 = .ok (.getfield 30, 3) := by decide +kernel
theorem dX1_enter_34 : decode cX1_enter 34 = .ok (.aload_n 0, 1) := by decide +kernel
theorem dX1_enter_35 : decode cX1_enter 35 = .ok (.getfield 40, 3) := by decide +kernel
theorem dX1_enter_38 : decode cX1_enter 38 = .ok (.iload_n 3, 1) := by decide +kernel
theorem dX1_enter_39 : decode cX1_enter 39 = .ok (.iastore, 1) := by decide +kernel
theorem dX1_enter_40 : decode cX1_enter 40 = .ok (.aload_n 0, 1) := by decide +kernel
theorem dX1_enter_41 : decode cX1_enter 41 = .ok (.dup, 1) := by decide +kernel
theorem dX1_enter_42 : decode cX1_enter 42 = .ok (.getfield 40, 3) := by decide +kernel
theorem dX1_enter_45 : decode cX1_enter 45 = .ok (.iconst 1, 1) := by decide +kernel
theorem dX1_enter_46 : decode cX1_enter 46 = .ok (.iadd, 1) := by decide +kernel
theorem dX1_enter_47 : decode cX1_enter 47 = .ok (.putfield 40, 3) := by decide +kernel
theorem dX1_enter_50 : decode cX1_enter 50 = .ok (.aload_n 0, 1) := by decide +kernel
theorem dX1_enter_51 : decode cX1_enter 51 = .ok (.getfield 18, 3) := by decide +kernel
theorem dX1_enter_54 : decode cX1_enter 54 = .ok (.iload_n 1, 1) := by decide +kernel
theorem dX1_enter_55 : decode cX1_enter 55 = .ok (.iaload, 1) := by decide +kernel
theorem dX1_enter_56 : decode cX1_enter 56 = .ok (.ifCond .ne 10, 3) := by decide +kernel
theorem dX1_enter_59 : decode cX1_enter 59 = .ok (.aload_n 0, 1) := by decide +kernel
theorem dX1_enter_60 : decode cX1_enter 60 = .ok (.getfield 15, 3) := by decide +kernel
theorem dX1_enter_63 : decode cX1_enter 63 = .ok (.iload_n 1, 1) := by decide +kernel
theorem dX1_enter_64 : decode cX1_enter 64 = .ok (.iload_n 3, 1) := by decide +kernel
theorem dX1_enter_65 : decode cX1_enter 65 = .ok (.iastore, 1) := by decide +kernel
theorem dX1_enter_66 : decode cX1_enter 66 = .ok (.aload_n 0, 1) := by decide +kernel
theorem dX1_enter_67 : decode cX1_enter 67 = .ok (.getfield 9, 3) := by decide +kernel
theorem dX1_enter_70 : decode cX1_enter 70 = .ok (.iload_n 1, 1) := by decide +kernel
theorem dX1_enter_71 : decode cX1_enter 71 = .ok (.iload_n 3, 1) := by decide +kernel
theorem dX1_enter_72 : decode cX1_enter 72 = .ok (.iastore, 1) := by decide +kernel
theorem dX1_enter_73 : decode cX1_enter 73 = .ok (.aload_n 0, 1) := by decide +kernel
theorem dX1_enter_74 : decode cX1_enter 74 = .ok (.getfield 18, 3) := by decide +kernel
theorem dX1_enter_77 : decode cX1_enter 77 = .ok (.iload_n 1, 1) := by decide +kernel
theorem dX1_enter_78 : decode cX1_enter 78 = .ok (.dup2, 1) := by decide +kernel
theorem dX1_enter_79 : decode cX1_enter 79 = .ok (.iaload, 1) := by decide +kernel
theorem dX1_enter_80 : decode cX1_enter 80 = .ok (.iconst 1, 1) := by decide +kernel
theorem dX1_enter_81 : decode cX1_enter 81 = .ok (.iadd, 1) := by decide +kernel
theorem dX1_enter_82 : decode cX1_enter 82 = .ok (.iastore, 1) := by decide +kernel
theorem dX1_enter_83 : decode cX1_enter 83 = .ok (.aload_n 0, 1) := by decide +kernel
theorem dX1_enter_84 : decode cX1_enter 84 = .ok (.getfield 21, 3) := by decide +kernel
theorem dX1_enter_87 : decode cX1_enter 87 = .ok (.iload_n 1, 1) := by decide +kernel
theorem dX1_enter_88 : decode cX1_enter 88 = .ok (.iload_n 2, 1) := by decide +kernel
theorem dX1_enter_89 : decode cX1_enter 89 = .ok (.iastore, 1) := by decide +kernel
theorem dX1_enter_90 : decode cX1_enter 90 = .ok (.return_, 1) := by decide +kernel
theorem dX1_figureOn_0 : decode cX1_figureOn 0 = .ok (.aload_n 0, 1) := by decide +kernel
theorem dX1_figureOn_1 : decode cX1_figureOn 1 = .ok (.getfield 40, 3) := by decide +kernel
theorem dX1_figureOn_4 : decode cX1_figureOn 4 = .ok (.iconst 1, 1) := by decide +kernel
theorem dX1_figureOn_5 : decode cX1_figureOn 5 = .ok (.isub, 1) := by decide +kernel
theorem dX1_figureOn_6 : decode cX1_figureOn 6 = .ok (.istore_n 3, 1) := by decide +kernel
theorem dX1_figureOn_7 : decode cX1_figureOn 7 = .ok (.iload_n 3, 1) := by decide +kernel
theorem dX1_figureOn_8 : decode cX1_figureOn 8 = .ok (.ifCond .lt 36, 3) := by decide +kernel
theorem dX1_figureOn_11 : decode cX1_figureOn 11 = .ok (.aload_n 0, 1) := by decide +kernel
theorem dX1_figureOn_12 : decode cX1_figureOn 12 = .ok (.getfield 24, 3) := by decide +kernel
theorem dX1_figureOn_15 : decode cX1_figureOn 15 = .ok (.iload_n 3, 1) := by decide +kernel
theorem dX1_figureOn_16 : decode cX1_figureOn 16 = .ok (.iaload, 1) := by decide +kernel
theorem dX1_figureOn_17 : decode cX1_figureOn 17 = .ok (.iload_n 1, 1) := by decide +kernel
theorem dX1_figureOn_18 : decode cX1_figureOn 18 = .ok (.if_icmp .ne 20, 3) := by decide +kernel
theorem dX1_figureOn_21 : decode cX1_figureOn 21 = .ok (.aload_n 0, 1) := by decide +kernel
theorem dX1_figureOn_22 : decode cX1_figureOn 22 = .ok (.getfield 27, 3) := by decide +kernel
theorem dX1_figureOn_25 : decode cX1_figureOn 25 = .ok (.iload_n 3, 1) := by decide +kernel
theorem dX1_figureOn_26 : decode cX1_figureOn 26 = .ok (.iaload, 1) := by decide +kernel
theorem dX1_figureOn_27 : decode cX1_figureOn 27 = .ok (.iload_n 2, 1) := by decide +kernel
theorem dX1_figureOn_28 : decode cX1_figureOn 28 = .ok (.if_icmp .gt 10, 3) := by decide +kernel
theorem dX1_figureOn_31 : decode cX1_figureOn 31 = .ok (.aload_n 0, 1) := by decide +kernel
theorem dX1_figureOn_32 : decode cX1_figureOn 32 = .ok (.getfield 30, 3) := by decide +kernel
theorem dX1_figureOn_35 : decode cX1_figureOn 35 = .ok (.iload_n 3, 1) := by decide +kernel
theorem dX1_figureOn_36 : decode cX1_figureOn 36 = .ok (.iaload, 1) := by decide +kernel
theorem dX1_figureOn_37 : decode cX1_figureOn 37 = .ok (.ireturn, 1) := by decide +kernel
theorem dX1_figureOn_38 : decode cX1_figureOn 38 = .ok (.iinc 3 (-1), 3) := by decide +kernel
theorem dX1_figureOn_41 : decode cX1_figureOn 41 = .ok (.goto (-34), 3) := by decide +kernel
theorem dX1_figureOn_44 : decode cX1_figureOn 44 = .ok (.ldc 33, 2) := by decide +kernel
theorem dX1_figureOn_46 : decode cX1_figureOn 46 = .ok (.ireturn, 1) := by decide +kernel
theorem dX1_isToldSince_0 : decode cX1_isToldSince 0 = .ok (.aload_n 0, 1) := by decide +kernel
theorem dX1_isToldSince_1 : decode cX1_isToldSince 1 = .ok (.getfield 9, 3) := by decide +kernel
theorem dX1_isToldSince_4 : decode cX1_isToldSince 4 = .ok (.iload_n 1, 1) := by decide +kernel
theorem dX1_isToldSince_5 : decode cX1_isToldSince 5 = .ok (.iaload, 1) := by decide +kernel
theorem dX1_isToldSince_6 : decode cX1_isToldSince 6 = .ok (.ldc 33, 2) := by decide +kernel
theorem dX1_isToldSince_8 : decode cX1_isToldSince 8 = .ok (.if_icmp .eq 17, 3) := by decide +kernel
theorem dX1_isToldSince_11 : decode cX1_isToldSince 11 = .ok (.aload_n 0, 1) := by decide +kernel
theorem dX1_isToldSince_12 : decode cX1_isToldSince 12 = .ok (.getfield 21, 3) := by decide +kernel
theorem dX1_isToldSince_15 : decode cX1_isToldSince 15 = .ok (.iload_n 1, 1) := by decide +kernel
theorem dX1_isToldSince_16 : decode cX1_isToldSince 16 = .ok (.iaload, 1) := by decide +kernel
theorem dX1_isToldSince_17 : decode cX1_isToldSince 17 = .ok (.iload_n 2, 1) := by decide +kernel
theorem dX1_isToldSince_18 : decode cX1_isToldSince 18 = .ok (.if_icmp .lt 7, 3) := by decide +kernel
theorem dX1_isToldSince_21 : decode cX1_isToldSince 21 = .ok (.iconst 1, 1) := by decide +kernel
theorem dX1_isToldSince_22 : decode cX1_isToldSince 22 = .ok (.goto 4, 3) := by decide +kernel
theorem dX1_isToldSince_25 : decode cX1_isToldSince 25 = .ok (.iconst 0, 1) := by decide +kernel
theorem dX1_isToldSince_26 : decode cX1_isToldSince 26 = .ok (.ireturn, 1) := by decide +kernel
theorem dX2_init_0 : decode cX2_init 0 = .ok (.aload_n 0, 1) := by decide +kernel
theorem dX2_init_1 : decode cX2_init 1 = .ok (.invokespecial 3, 3) := by decide +kernel
theorem dX2_init_4 : decode cX2_init 4 = .ok (.aload_n 0, 1) := by decide +kernel
theorem dX2_init_5 : decode cX2_init 5 = .ok (.bipush 16, 2) := by decide +kernel
theorem dX2_init_7 : decode cX2_init 7 = .ok (.newarray .int, 2) := by decide +kernel
theorem dX2_init_9 : decode cX2_init 9 = .ok (.putfield 9, 3) := by decide +kernel
theorem dX2_init_12 : decode cX2_init 12 = .ok (.aload_n 0, 1) := by decide +kernel
theorem dX2_init_13 : decode cX2_init 13 = .ok (.bipush 16, 2) := by decide +kernel
theorem dX2_init_15 : decode cX2_init 15 = .ok (.newarray .int, 2) := by decide +kernel
theorem dX2_init_17 : decode cX2_init 17 = .ok (.putfield 15, 3) := by decide +kernel
theorem dX2_init_20 : decode cX2_init 20 = .ok (.aload_n 0, 1) := by decide +kernel
theorem dX2_init_21 : decode cX2_init 21 = .ok (.bipush 16, 2) := by decide +kernel
theorem dX2_init_23 : decode cX2_init 23 = .ok (.newarray .int, 2) := by decide +kernel
theorem dX2_init_25 : decode cX2_init 25 = .ok (.putfield 18, 3) := by decide +kernel
theorem dX2_init_28 : decode cX2_init 28 = .ok (.aload_n 0, 1) := by decide +kernel
theorem dX2_init_29 : decode cX2_init 29 = .ok (.bipush 16, 2) := by decide +kernel
theorem dX2_init_31 : decode cX2_init 31 = .ok (.newarray .int, 2) := by decide +kernel
theorem dX2_init_33 : decode cX2_init 33 = .ok (.putfield 21, 3) := by decide +kernel
theorem dX2_init_36 : decode cX2_init 36 = .ok (.return_, 1) := by decide +kernel
theorem dX2_isFull_0 : decode cX2_isFull 0 = .ok (.aload_n 0, 1) := by decide +kernel
theorem dX2_isFull_1 : decode cX2_isFull 1 = .ok (.getfield 24, 3) := by decide +kernel
theorem dX2_isFull_4 : decode cX2_isFull 4 = .ok (.bipush 16, 2) := by decide +kernel
theorem dX2_isFull_6 : decode cX2_isFull 6 = .ok (.if_icmp .lt 7, 3) := by decide +kernel
theorem dX2_isFull_9 : decode cX2_isFull 9 = .ok (.iconst 1, 1) := by decide +kernel
theorem dX2_isFull_10 : decode cX2_isFull 10 = .ok (.goto 4, 3) := by decide +kernel
theorem dX2_isFull_13 : decode cX2_isFull 13 = .ok (.iconst 0, 1) := by decide +kernel
theorem dX2_isFull_14 : decode cX2_isFull 14 = .ok (.ireturn, 1) := by decide +kernel
theorem dX2_append_0 : decode cX2_append 0 = .ok (.aload_n 0, 1) := by decide +kernel
theorem dX2_append_1 : decode cX2_append 1 = .ok (.getfield 24, 3) := by decide +kernel
theorem dX2_append_4 : decode cX2_append 4 = .ok (.bipush 16, 2) := by decide +kernel
theorem dX2_append_6 : decode cX2_append 6 = .ok (.if_icmp .ge 54, 3) := by decide +kernel
theorem dX2_append_9 : decode cX2_append 9 = .ok (.aload_n 0, 1) := by decide +kernel
theorem dX2_append_10 : decode cX2_append 10 = .ok (.getfield 9, 3) := by decide +kernel
theorem dX2_append_13 : decode cX2_append 13 = .ok (.aload_n 0, 1) := by decide +kernel
theorem dX2_append_14 : decode cX2_append 14 = .ok (.getfield 24, 3) := by decide +kernel
theorem dX2_append_17 : decode cX2_append 17 = .ok (.iload_n 1, 1) := by decide +kernel
theorem dX2_append_18 : decode cX2_append 18 = .ok (.iastore, 1) := by decide +kernel
theorem dX2_append_19 : decode cX2_append 19 = .ok (.aload_n 0, 1) := by decide +kernel
theorem dX2_append_20 : decode cX2_append 20 = .ok (.getfield 15, 3) := by decide +kernel
theorem dX2_append_23 : decode cX2_append 23 = .ok (.aload_n 0, 1) := by decide +kernel
theorem dX2_append_24 : decode cX2_append 24 = .ok (.getfield 24, 3) := by decide +kernel
theorem dX2_append_27 : decode cX2_append 27 = .ok (.iload_n 2, 1) := by decide +kernel
theorem dX2_append_28 : decode cX2_append 28 = .ok (.iastore, 1) := by decide +kernel
theorem dX2_append_29 : decode cX2_append 29 = .ok (.aload_n 0, 1) := by decide +kernel
theorem dX2_append_30 : decode cX2_append 30 = .ok (.getfield 18, 3) := by decide +kernel
theorem dX2_append_33 : decode cX2_append 33 = .ok (.aload_n 0, 1) := by decide +kernel
theorem dX2_append_34 : decode cX2_append 34 = .ok (.getfield 24, 3) := by decide +kernel
theorem dX2_append_37 : decode cX2_append 37 = .ok (.iload_n 3, 1) := by decide +kernel
theorem dX2_append_38 : decode cX2_append 38 = .ok (.iastore, 1) := by decide +kernel
theorem dX2_append_39 : decode cX2_append 39 = .ok (.aload_n 0, 1) := by decide +kernel
theorem dX2_append_40 : decode cX2_append 40 = .ok (.getfield 21, 3) := by decide +kernel
theorem dX2_append_43 : decode cX2_append 43 = .ok (.aload_n 0, 1) := by decide +kernel
theorem dX2_append_44 : decode cX2_append 44 = .ok (.getfield 24, 3) := by decide +kernel
theorem dX2_append_47 : decode cX2_append 47 = .ok (.iload 4, 2) := by decide +kernel
theorem dX2_append_49 : decode cX2_append 49 = .ok (.iastore, 1) := by decide +kernel
theorem dX2_append_50 : decode cX2_append 50 = .ok (.aload_n 0, 1) := by decide +kernel
theorem dX2_append_51 : decode cX2_append 51 = .ok (.dup, 1) := by decide +kernel
theorem dX2_append_52 : decode cX2_append 52 = .ok (.getfield 24, 3) := by decide +kernel
theorem dX2_append_55 : decode cX2_append 55 = .ok (.iconst 1, 1) := by decide +kernel
theorem dX2_append_56 : decode cX2_append 56 = .ok (.iadd, 1) := by decide +kernel
theorem dX2_append_57 : decode cX2_append 57 = .ok (.putfield 24, 3) := by decide +kernel
theorem dX2_append_60 : decode cX2_append 60 = .ok (.aload_n 0, 1) := by decide +kernel
theorem dX2_append_61 : decode cX2_append 61 = .ok (.getfield 24, 3) := by decide +kernel
theorem dX2_append_64 : decode cX2_append 64 = .ok (.ireturn, 1) := by decide +kernel
theorem dX2_figureBehind_0 : decode cX2_figureBehind 0 = .ok (.aload_n 0, 1) := by decide +kernel
theorem dX2_figureBehind_1 : decode cX2_figureBehind 1 = .ok (.getfield 9, 3) := by decide +kernel
theorem dX2_figureBehind_4 : decode cX2_figureBehind 4 = .ok (.iload_n 1, 1) := by decide +kernel
theorem dX2_figureBehind_5 : decode cX2_figureBehind 5 = .ok (.iaload, 1) := by decide +kernel
theorem dX2_figureBehind_6 : decode cX2_figureBehind 6 = .ok (.iconst 2, 1) := by decide +kernel
theorem dX2_figureBehind_7 : decode cX2_figureBehind 7 = .ok (.if_icmp .ne 8, 3) := by decide +kernel
theorem dX2_figureBehind_10 : decode cX2_figureBehind 10 = .ok (.ldc 28, 2) := by decide +kernel
theorem dX2_figureBehind_12 : decode cX2_figureBehind 12 = .ok (.goto 9, 3) := by decide +kernel
theorem dX2_figureBehind_15 : decode cX2_figureBehind 15 = .ok (.aload_n 0, 1) := by decide +kernel
theorem dX2_figureBehind_16 : decode cX2_figureBehind 16 = .ok (.getfield 21, 3) := by decide +kernel
theorem dX2_figureBehind_19 : decode cX2_figureBehind 19 = .ok (.iload_n 1, 1) := by decide +kernel
theorem dX2_figureBehind_20 : decode cX2_figureBehind 20 = .ok (.iaload, 1) := by decide +kernel
theorem dX2_figureBehind_21 : decode cX2_figureBehind 21 = .ok (.ireturn, 1) := by decide +kernel
theorem dX2_clear_0 : decode cX2_clear 0 = .ok (.aload_n 0, 1) := by decide +kernel
theorem dX2_clear_1 : decode cX2_clear 1 = .ok (.getfield 24, 3) := by decide +kernel
theorem dX2_clear_4 : decode cX2_clear 4 = .ok (.istore_n 1, 1) := by decide +kernel
theorem dX2_clear_5 : decode cX2_clear 5 = .ok (.aload_n 0, 1) := by decide +kernel
theorem dX2_clear_6 : decode cX2_clear 6 = .ok (.iconst 0, 1) := by decide +kernel
theorem dX2_clear_7 : decode cX2_clear 7 = .ok (.putfield 24, 3) := by decide +kernel
theorem dX2_clear_10 : decode cX2_clear 10 = .ok (.iload_n 1, 1) := by decide +kernel
theorem dX2_clear_11 : decode cX2_clear 11 = .ok (.ireturn, 1) := by decide +kernel
theorem dX3_init_0 : decode cX3_init 0 = .ok (.aload_n 0, 1) := by decide +kernel
theorem dX3_init_1 : decode cX3_init 1 = .ok (.invokespecial 3, 3) := by decide +kernel
theorem dX3_init_4 : decode cX3_init 4 = .ok (.aload_n 0, 1) := by decide +kernel
theorem dX3_init_5 : decode cX3_init 5 = .ok (.sipush 140, 3) := by decide +kernel
theorem dX3_init_8 : decode cX3_init 8 = .ok (.newarray .int, 2) := by decide +kernel
theorem dX3_init_10 : decode cX3_init 10 = .ok (.putfield 9, 3) := by decide +kernel
theorem dX3_init_13 : decode cX3_init 13 = .ok (.aload_n 0, 1) := by decide +kernel
theorem dX3_init_14 : decode cX3_init 14 = .ok (.sipush 140, 3) := by decide +kernel
theorem dX3_init_17 : decode cX3_init 17 = .ok (.newarray .boolean, 2) := by decide +kernel
theorem dX3_init_19 : decode cX3_init 19 = .ok (.putfield 15, 3) := by decide +kernel
theorem dX3_init_22 : decode cX3_init 22 = .ok (.return_, 1) := by decide +kernel
theorem dX3_valueAt_0 : decode cX3_valueAt 0 = .ok (.iload_n 1, 1) := by decide +kernel
theorem dX3_valueAt_1 : decode cX3_valueAt 1 = .ok (.ifCond .lt 19, 3) := by decide +kernel
theorem dX3_valueAt_4 : decode cX3_valueAt 4 = .ok (.iload_n 1, 1) := by decide +kernel
theorem dX3_valueAt_5 : decode cX3_valueAt 5 = .ok (.sipush 140, 3) := by decide +kernel
theorem dX3_valueAt_8 : decode cX3_valueAt 8 = .ok (.if_icmp .ge 12, 3) := by decide +kernel
theorem dX3_valueAt_11 : decode cX3_valueAt 11 = .ok (.aload_n 0, 1) := by decide +kernel
theorem dX3_valueAt_12 : decode cX3_valueAt 12 = .ok (.getfield 9, 3) := by decide +kernel
theorem dX3_valueAt_15 : decode cX3_valueAt 15 = .ok (.iload_n 1, 1) := by decide +kernel
theorem dX3_valueAt_16 : decode cX3_valueAt 16 = .ok (.iaload, 1) := by decide +kernel
theorem dX3_valueAt_17 : decode cX3_valueAt 17 = .ok (.goto 5, 3) := by decide +kernel
theorem dX3_valueAt_20 : decode cX3_valueAt 20 = .ok (.ldc 19, 2) := by decide +kernel
theorem dX3_valueAt_22 : decode cX3_valueAt 22 = .ok (.ireturn, 1) := by decide +kernel
theorem dX3_isHidden_0 : decode cX3_isHidden 0 = .ok (.iload_n 1, 1) := by decide +kernel
theorem dX3_isHidden_1 : decode cX3_isHidden 1 = .ok (.ifCond .lt 23, 3) := by decide +kernel
theorem dX3_isHidden_4 : decode cX3_isHidden 4 = .ok (.iload_n 1, 1) := by decide +kernel
theorem dX3_isHidden_5 : decode cX3_isHidden 5 = .ok (.sipush 140, 3) := by decide +kernel
theorem dX3_isHidden_8 : decode cX3_isHidden 8 = .ok (.if_icmp .ge 16, 3) := by decide +kernel
theorem dX3_isHidden_11 : decode cX3_isHidden 11 = .ok (.aload_n 0, 1) := by decide +kernel
theorem dX3_isHidden_12 : decode cX3_isHidden 12 = .ok (.getfield 15, 3) := by decide +kernel
theorem dX3_isHidden_15 : decode cX3_isHidden 15 = .ok (.iload_n 1, 1) := by decide +kernel
theorem dX3_isHidden_16 : decode cX3_isHidden 16 = .ok (.baload, 1) := by decide +kernel
theorem dX3_isHidden_17 : decode cX3_isHidden 17 = .ok (.ifCond .eq 7, 3) := by decide +kernel
theorem dX3_isHidden_20 : decode cX3_isHidden 20 = .ok (.iconst 1, 1) := by decide +kernel
theorem dX3_isHidden_21 : decode cX3_isHidden 21 = .ok (.goto 4, 3) := by decide +kernel
theorem dX3_isHidden_24 : decode cX3_isHidden 24 = .ok (.iconst 0, 1) := by decide +kernel
theorem dX3_isHidden_25 : decode cX3_isHidden 25 = .ok (.ireturn, 1) := by decide +kernel
set_option maxRecDepth 20000 in
theorem ggX3_load_X3_loadFigures : GoodIn wsX3_load wsX3_loadFigures := goodIn_r _ [7, 1, 2, 8, 9, 10, 11, 36, 37, 38, 39, 40, 41, 42, 43, 44, 45] (by decide +kernel) (by decide +kernel)
set_option maxRecDepth 20000 in
theorem gX3_load_X3_loadFigures : GoodIn wsX3_load (wsV RX3 20 RX3 yX3_loadFigures wsX3_loadFigures) := goodIn_app (goodIn_of _ (by decide +kernel)) ggX3_load_X3_loadFigures
set_option maxRecDepth 20000 in
theorem ggX3_load_X5_slotOf : GoodIn wsX3_load wsX5_slotOf := goodIn_r _ [14] (by decide +kernel) (by decide +kernel)
set_option maxRecDepth 20000 in
theorem gX3_load_X5_slotOf_n30 : GoodIn wsX3_load (wsX5_slotOf) := ggX3_load_X5_slotOf
set_option maxRecDepth 20000 in
theorem ggX3_load_X3_sumRightIn : GoodIn wsX3_load wsX3_sumRightIn := goodIn_r _ [18, 2, 19, 20, 21, 22, 23, 24, 25, 26, 27, 6, 28, 29, 30, 31, 32, 1, 33, 34, 35, 36, 37] (by decide +kernel) (by decide +kernel)
set_option maxRecDepth 20000 in
theorem gX3_load_X3_sumRightIn : GoodIn wsX3_load (wsV RX3 34 RX3 yX3_sumRightIn wsX3_sumRightIn) := goodIn_app (goodIn_of _ (by decide +kernel)) ggX3_load_X3_sumRightIn
theorem dX3_load_0 : decode cX3_load 0 = .ok (.aload_n 0, 1) := by decide +kernel
theorem dX3_load_1 : decode cX3_load 1 = .ok (.aload_n 1, 1) := by decide +kernel
theorem dX3_load_2 : decode cX3_load 2 = .ok (.iload_n 2, 1) := by decide +kernel
theorem dX3_load_3 : decode cX3_load 3 = .ok (.iload_n 3, 1) := by decide +kernel
theorem dX3_load_4 : decode cX3_load 4 = .ok (.invokevirtual 20, 3) := by decide +kernel
theorem dX3_load_7 : decode cX3_load 7 = .ok (.aload 4, 2) := by decide +kernel
theorem dX3_load_9 : decode cX3_load 9 = .ok (.getfield 24, 3) := by decide +kernel
theorem dX3_load_12 : decode cX3_load 12 = .ok (.iconst 1, 1) := by decide +kernel
theorem dX3_load_13 : decode cX3_load 13 = .ok (.isub, 1) := by decide +kernel
theorem dX3_load_14 : decode cX3_load 14 = .ok (.istore 6, 2) := by decide +kernel
theorem dX3_load_16 : decode cX3_load 16 = .ok (.iload 6, 2) := by decide +kernel
theorem dX3_load_18 : decode cX3_load 18 = .ok (.ifCond .lt 96, 3) := by decide +kernel
theorem dX3_load_21 : decode cX3_load 21 = .ok (.aload 5, 2) := by decide +kernel
theorem dX3_load_23 : decode cX3_load 23 = .ok (.getfield 24, 3) := by decide +kernel
theorem dX3_load_26 : decode cX3_load 26 = .ok (.iconst 1, 1) := by decide +kernel
theorem dX3_load_27 : decode cX3_load 27 = .ok (.isub, 1) := by decide +kernel
theorem dX3_load_28 : decode cX3_load 28 = .ok (.istore 7, 2) := by decide +kernel
theorem dX3_load_30 : decode cX3_load 30 = .ok (.iload 7, 2) := by decide +kernel
theorem dX3_load_32 : decode cX3_load 32 = .ok (.ifCond .lt 76, 3) := by decide +kernel
theorem dX3_load_35 : decode cX3_load 35 = .ok (.iload 6, 2) := by decide +kernel
theorem dX3_load_37 : decode cX3_load 37 = .ok (.iload 7, 2) := by decide +kernel
theorem dX3_load_39 : decode cX3_load 39 = .ok (.invokestatic 30, 3) := by decide +kernel
theorem dX3_load_42 : decode cX3_load 42 = .ok (.istore 8, 2) := by decide +kernel
theorem dX3_load_44 : decode cX3_load 44 = .ok (.aload_n 0, 1) := by decide +kernel
theorem dX3_load_45 : decode cX3_load 45 = .ok (.getfield 9, 3) := by decide +kernel
theorem dX3_load_48 : decode cX3_load 48 = .ok (.iload 8, 2) := by decide +kernel
theorem dX3_load_50 : decode cX3_load 50 = .ok (.iaload, 1) := by decide +kernel
theorem dX3_load_51 : decode cX3_load 51 = .ok (.ldc 19, 2) := by decide +kernel
theorem dX3_load_53 : decode cX3_load 53 = .ok (.if_icmp .ne 20, 3) := by decide +kernel
theorem dX3_load_56 : decode cX3_load 56 = .ok (.aload_n 0, 1) := by decide +kernel
theorem dX3_load_57 : decode cX3_load 57 = .ok (.getfield 9, 3) := by decide +kernel
theorem dX3_load_60 : decode cX3_load 60 = .ok (.iload 8, 2) := by decide +kernel
theorem dX3_load_62 : decode cX3_load 62 = .ok (.aload_n 0, 1) := by decide +kernel
theorem dX3_load_63 : decode cX3_load 63 = .ok (.aload 4, 2) := by decide +kernel
theorem dX3_load_65 : decode cX3_load 65 = .ok (.iload 6, 2) := by decide +kernel
theorem dX3_load_67 : decode cX3_load 67 = .ok (.iload 8, 2) := by decide +kernel
theorem dX3_load_69 : decode cX3_load 69 = .ok (.invokevirtual 34, 3) := by decide +kernel
theorem dX3_load_72 : decode cX3_load 72 = .ok (.iastore, 1) := by decide +kernel
theorem dX3_load_73 : decode cX3_load 73 = .ok (.aload_n 0, 1) := by decide +kernel
theorem dX3_load_74 : decode cX3_load 74 = .ok (.getfield 9, 3) := by decide +kernel
theorem dX3_load_77 : decode cX3_load 77 = .ok (.iload 8, 2) := by decide +kernel
theorem dX3_load_79 : decode cX3_load 79 = .ok (.iaload, 1) := by decide +kernel
theorem dX3_load_80 : decode cX3_load 80 = .ok (.ldc 19, 2) := by decide +kernel
theorem dX3_load_82 : decode cX3_load 82 = .ok (.if_icmp .ne 20, 3) := by decide +kernel
theorem dX3_load_85 : decode cX3_load 85 = .ok (.aload_n 0, 1) := by decide +kernel
theorem dX3_load_86 : decode cX3_load 86 = .ok (.getfield 9, 3) := by decide +kernel
theorem dX3_load_89 : decode cX3_load 89 = .ok (.iload 8, 2) := by decide +kernel
theorem dX3_load_91 : decode cX3_load 91 = .ok (.aload_n 0, 1) := by decide +kernel
theorem dX3_load_92 : decode cX3_load 92 = .ok (.aload 5, 2) := by decide +kernel
theorem dX3_load_94 : decode cX3_load 94 = .ok (.iload 7, 2) := by decide +kernel
theorem dX3_load_96 : decode cX3_load 96 = .ok (.iload 8, 2) := by decide +kernel
theorem dX3_load_98 : decode cX3_load 98 = .ok (.invokevirtual 34, 3) := by decide +kernel
theorem dX3_load_101 : decode cX3_load 101 = .ok (.iastore, 1) := by decide +kernel
theorem dX3_load_102 : decode cX3_load 102 = .ok (.iinc 7 (-1), 3) := by decide +kernel
theorem dX3_load_105 : decode cX3_load 105 = .ok (.goto (-75), 3) := by decide +kernel
theorem dX3_load_108 : decode cX3_load 108 = .ok (.iinc 6 (-1), 3) := by decide +kernel
theorem dX3_load_111 : decode cX3_load 111 = .ok (.goto (-95), 3) := by decide +kernel
theorem dX3_load_114 : decode cX3_load 114 = .ok (.return_, 1) := by decide +kernel
set_option maxRecDepth 20000 in
theorem ggX3_loadFigures_J7_fill_53178 : GoodIn wsX3_loadFigures wsJ7_fill_53178 := goodIn_r _ [6] (by decide +kernel) (by decide +kernel)
set_option maxRecDepth 20000 in
theorem gX3_loadFigures_J7_fill_53178 : GoodIn wsX3_loadFigures (va_wsS RX3 38 yJ7_fill_53178 wsJ7_fill_53178) := goodIn_app (goodIn_of _ (by decide +kernel)) ggX3_loadFigures_J7_fill_53178
theorem dX3_loadFigures_0 : decode cX3_loadFigures 0 = .ok (.aload_n 0, 1) := by decide +kernel
theorem dX3_loadFigures_1 : decode cX3_loadFigures 1 = .ok (.getfield 9, 3) := by decide +kernel
theorem dX3_loadFigures_4 : decode cX3_loadFigures 4 = .ok (.ldc 19, 2) := by decide +kernel
theorem dX3_loadFigures_6 : decode cX3_loadFigures 6 = .ok (.invokestatic 38, 3) := by decide +kernel
theorem dX3_loadFigures_9 : decode cX3_loadFigures 9 = .ok (.iconst 0, 1) := by decide +kernel
theorem dX3_loadFigures_10 : decode cX3_loadFigures 10 = .ok (.istore 4, 2) := by decide +kernel
theorem dX3_loadFigures_12 : decode cX3_loadFigures 12 = .ok (.iload 4, 2) := by decide +kernel
theorem dX3_loadFigures_14 : decode cX3_loadFigures 14 = .ok (.aload_n 1, 1) := by decide +kernel
theorem dX3_loadFigures_15 : decode cX3_loadFigures 15 = .ok (.getfield 44, 3) := by decide +kernel
theorem dX3_loadFigures_18 : decode cX3_loadFigures 18 = .ok (.if_icmp .ge 62, 3) := by decide +kernel
theorem dX3_loadFigures_21 : decode cX3_loadFigures 21 = .ok (.aload_n 1, 1) := by decide +kernel
theorem dX3_loadFigures_22 : decode cX3_loadFigures 22 = .ok (.getfield 47, 3) := by decide +kernel
theorem dX3_loadFigures_25 : decode cX3_loadFigures 25 = .ok (.iload 4, 2) := by decide +kernel
theorem dX3_loadFigures_27 : decode cX3_loadFigures 27 = .ok (.iaload, 1) := by decide +kernel
theorem dX3_loadFigures_28 : decode cX3_loadFigures 28 = .ok (.iload_n 3, 1) := by decide +kernel
theorem dX3_loadFigures_29 : decode cX3_loadFigures 29 = .ok (.if_icmp .gt 51, 3) := by decide +kernel
theorem dX3_loadFigures_32 : decode cX3_loadFigures 32 = .ok (.aload_n 1, 1) := by decide +kernel
theorem dX3_loadFigures_33 : decode cX3_loadFigures 33 = .ok (.getfield 50, 3) := by decide +kernel
theorem dX3_loadFigures_36 : decode cX3_loadFigures 36 = .ok (.iload 4, 2) := by decide +kernel
theorem dX3_loadFigures_38 : decode cX3_loadFigures 38 = .ok (.iaload, 1) := by decide +kernel
theorem dX3_loadFigures_39 : decode cX3_loadFigures 39 = .ok (.iload_n 2, 1) := by decide +kernel
theorem dX3_loadFigures_40 : decode cX3_loadFigures 40 = .ok (.sipush 140, 3) := by decide +kernel
theorem dX3_loadFigures_43 : decode cX3_loadFigures 43 = .ok (.imul, 1) := by decide +kernel
theorem dX3_loadFigures_44 : decode cX3_loadFigures 44 = .ok (.isub, 1) := by decide +kernel
theorem dX3_loadFigures_45 : decode cX3_loadFigures 45 = .ok (.istore 5, 2) := by decide +kernel
theorem dX3_loadFigures_47 : decode cX3_loadFigures 47 = .ok (.iload 5, 2) := by decide +kernel
theorem dX3_loadFigures_49 : decode cX3_loadFigures 49 = .ok (.ifCond .lt 25, 3) := by decide +kernel
theorem dX3_loadFigures_52 : decode cX3_loadFigures 52 = .ok (.iload 5, 2) := by decide +kernel
theorem dX3_loadFigures_54 : decode cX3_loadFigures 54 = .ok (.sipush 140, 3) := by decide +kernel
theorem dX3_loadFigures_57 : decode cX3_loadFigures 57 = .ok (.if_icmp .ge 17, 3) := by decide +kernel
theorem dX3_loadFigures_60 : decode cX3_loadFigures 60 = .ok (.aload_n 0, 1) := by decide +kernel
theorem dX3_loadFigures_61 : decode cX3_loadFigures 61 = .ok (.getfield 9, 3) := by decide +kernel
theorem dX3_loadFigures_64 : decode cX3_loadFigures 64 = .ok (.iload 5, 2) := by decide +kernel
theorem dX3_loadFigures_66 : decode cX3_loadFigures 66 = .ok (.aload_n 1, 1) := by decide +kernel
theorem dX3_loadFigures_67 : decode cX3_loadFigures 67 = .ok (.getfield 53, 3) := by decide +kernel
theorem dX3_loadFigures_70 : decode cX3_loadFigures 70 = .ok (.iload 4, 2) := by decide +kernel
theorem dX3_loadFigures_72 : decode cX3_loadFigures 72 = .ok (.iaload, 1) := by decide +kernel
theorem dX3_loadFigures_73 : decode cX3_loadFigures 73 = .ok (.iastore, 1) := by decide +kernel
theorem dX3_loadFigures_74 : decode cX3_loadFigures 74 = .ok (.iinc 4 1, 3) := by decide +kernel
theorem dX3_loadFigures_77 : decode cX3_loadFigures 77 = .ok (.goto (-65), 3) := by decide +kernel
theorem dX3_loadFigures_80 : decode cX3_loadFigures 80 = .ok (.return_, 1) := by decide +kernel
set_option maxRecDepth 20000 in
theorem ggX3_sumRightIn_X4_isRightIn : GoodIn wsX3_sumRightIn wsX4_isRightIn := goodIn_r _ [6, 7, 8, 18, 19, 20] (by decide +kernel) (by decide +kernel)
set_option maxRecDepth 20000 in
theorem gX3_sumRightIn_X4_isRightIn : GoodIn wsX3_sumRightIn (wsV RX3 56 RX4 yX4_isRightIn wsX4_isRightIn) := goodIn_app (goodIn_of _ (by decide +kernel)) ggX3_sumRightIn_X4_isRightIn
set_option maxRecDepth 20000 in
theorem ggX3_sumRightIn_X3_slotBeside : GoodIn wsX3_sumRightIn wsX3_slotBeside := goodIn_r _ [12, 18, 19, 20] (by decide +kernel) (by decide +kernel)
set_option maxRecDepth 20000 in
theorem gX3_sumRightIn_X3_slotBeside : GoodIn wsX3_sumRightIn (va_wsS RX3 60 yX3_slotBeside wsX3_slotBeside) := goodIn_app (goodIn_of _ (by decide +kernel)) ggX3_sumRightIn_X3_slotBeside
set_option maxRecDepth 20000 in
theorem ggX3_sumRightIn_X3_valueAt : GoodIn wsX3_sumRightIn wsX3_valueAt := goodIn_r _ [16, 17, 1, 21, 22] (by decide +kernel) (by decide +kernel)
set_option maxRecDepth 20000 in
theorem gX3_sumRightIn_X3_valueAt : GoodIn wsX3_sumRightIn (wsV RX3 64 RX3 yX3_valueAt wsX3_valueAt) := goodIn_app (goodIn_of _ (by decide +kernel)) ggX3_sumRightIn_X3_valueAt
theorem dX3_sumRightIn_0 : decode cX3_sumRightIn 0 = .ok (.iconst 0, 1) := by decide +kernel
theorem dX3_sumRightIn_1 : decode cX3_sumRightIn 1 = .ok (.istore 4, 2) := by decide +kernel
theorem dX3_sumRightIn_3 : decode cX3_sumRightIn 3 = .ok (.iconst 1, 1) := by decide +kernel
theorem dX3_sumRightIn_4 : decode cX3_sumRightIn 4 = .ok (.istore 5, 2) := by decide +kernel
theorem dX3_sumRightIn_6 : decode cX3_sumRightIn 6 = .ok (.iload_n 2, 1) := by decide +kernel
theorem dX3_sumRightIn_7 : decode cX3_sumRightIn 7 = .ok (.iconst 1, 1) := by decide +kernel
theorem dX3_sumRightIn_8 : decode cX3_sumRightIn 8 = .ok (.iadd, 1) := by decide +kernel
theorem dX3_sumRightIn_9 : decode cX3_sumRightIn 9 = .ok (.istore 6, 2) := by decide +kernel
theorem dX3_sumRightIn_11 : decode cX3_sumRightIn 11 = .ok (.iload 6, 2) := by decide +kernel
theorem dX3_sumRightIn_13 : decode cX3_sumRightIn 13 = .ok (.aload_n 1, 1) := by decide +kernel
theorem dX3_sumRightIn_14 : decode cX3_sumRightIn 14 = .ok (.getfield 24, 3) := by decide +kernel
theorem dX3_sumRightIn_17 : decode cX3_sumRightIn 17 = .ok (.if_icmp .ge 53, 3) := by decide +kernel
theorem dX3_sumRightIn_20 : decode cX3_sumRightIn 20 = .ok (.aload_n 1, 1) := by decide +kernel
theorem dX3_sumRightIn_21 : decode cX3_sumRightIn 21 = .ok (.iload 6, 2) := by decide +kernel
theorem dX3_sumRightIn_23 : decode cX3_sumRightIn 23 = .ok (.iload_n 2, 1) := by decide +kernel
theorem dX3_sumRightIn_24 : decode cX3_sumRightIn 24 = .ok (.invokevirtual 56, 3) := by decide +kernel
theorem dX3_sumRightIn_27 : decode cX3_sumRightIn 27 = .ok (.ifCond .eq 37, 3) := by decide +kernel
theorem dX3_sumRightIn_30 : decode cX3_sumRightIn 30 = .ok (.aload_n 0, 1) := by decide +kernel
theorem dX3_sumRightIn_31 : decode cX3_sumRightIn 31 = .ok (.aload_n 1, 1) := by decide +kernel
theorem dX3_sumRightIn_32 : decode cX3_sumRightIn 32 = .ok (.iload_n 2, 1) := by decide +kernel
theorem dX3_sumRightIn_33 : decode cX3_sumRightIn 33 = .ok (.iload_n 3, 1) := by decide +kernel
theorem dX3_sumRightIn_34 : decode cX3_sumRightIn 34 = .ok (.iload 6, 2) := by decide +kernel
theorem dX3_sumRightIn_36 : decode cX3_sumRightIn 36 = .ok (.invokestatic 60, 3) := by decide +kernel
theorem dX3_sumRightIn_39 : decode cX3_sumRightIn 39 = .ok (.invokevirtual 64, 3) := by decide +kernel
theorem dX3_sumRightIn_42 : decode cX3_sumRightIn 42 = .ok (.istore 7, 2) := by decide +kernel
theorem dX3_sumRightIn_44 : decode cX3_sumRightIn 44 = .ok (.iload 7, 2) := by decide +kernel
theorem dX3_sumRightIn_46 : decode cX3_sumRightIn 46 = .ok (.ldc 19, 2) := by decide +kernel
theorem dX3_sumRightIn_48 : decode cX3_sumRightIn 48 = .ok (.if_icmp .ne 6, 3) := by decide +kernel
theorem dX3_sumRightIn_51 : decode cX3_sumRightIn 51 = .ok (.ldc 19, 2) := by decide +kernel
theorem dX3_sumRightIn_53 : decode cX3_sumRightIn 53 = .ok (.ireturn, 1) := by decide +kernel
theorem dX3_sumRightIn_54 : decode cX3_sumRightIn 54 = .ok (.iload 4, 2) := by decide +kernel
theorem dX3_sumRightIn_56 : decode cX3_sumRightIn 56 = .ok (.iload 7, 2) := by decide +kernel
theorem dX3_sumRightIn_58 : decode cX3_sumRightIn 58 = .ok (.iadd, 1) := by decide +kernel
theorem dX3_sumRightIn_59 : decode cX3_sumRightIn 59 = .ok (.istore 4, 2) := by decide +kernel
theorem dX3_sumRightIn_61 : decode cX3_sumRightIn 61 = .ok (.iconst 0, 1) := by decide +kernel
theorem dX3_sumRightIn_62 : decode cX3_sumRightIn 62 = .ok (.istore 5, 2) := by decide +kernel
theorem dX3_sumRightIn_64 : decode cX3_sumRightIn 64 = .ok (.iinc 6 1, 3) := by decide +kernel
theorem dX3_sumRightIn_67 : decode cX3_sumRightIn 67 = .ok (.goto (-56), 3) := by decide +kernel
theorem dX3_sumRightIn_70 : decode cX3_sumRightIn 70 = .ok (.iload 5, 2) := by decide +kernel
theorem dX3_sumRightIn_72 : decode cX3_sumRightIn 72 = .ok (.ifCond .eq 8, 3) := by decide +kernel
theorem dX3_sumRightIn_75 : decode cX3_sumRightIn 75 = .ok (.ldc 19, 2) := by decide +kernel
theorem dX3_sumRightIn_77 : decode cX3_sumRightIn 77 = .ok (.goto 5, 3) := by decide +kernel
theorem dX3_sumRightIn_80 : decode cX3_sumRightIn 80 = .ok (.iload 4, 2) := by decide +kernel
theorem dX3_sumRightIn_82 : decode cX3_sumRightIn 82 = .ok (.ireturn, 1) := by decide +kernel
theorem dX3_slotBeside_0 : decode cX3_slotBeside 0 = .ok (.iload_n 2, 1) := by decide +kernel
theorem dX3_slotBeside_1 : decode cX3_slotBeside 1 = .ok (.iload_n 3, 1) := by decide +kernel
theorem dX3_slotBeside_2 : decode cX3_slotBeside 2 = .ok (.iload_n 1, 1) := by decide +kernel
theorem dX3_slotBeside_3 : decode cX3_slotBeside 3 = .ok (.isub, 1) := by decide +kernel
theorem dX3_slotBeside_4 : decode cX3_slotBeside 4 = .ok (.aload_n 0, 1) := by decide +kernel
theorem dX3_slotBeside_5 : decode cX3_slotBeside 5 = .ok (.getfield 68, 3) := by decide +kernel
theorem dX3_slotBeside_8 : decode cX3_slotBeside 8 = .ok (.imul, 1) := by decide +kernel
theorem dX3_slotBeside_9 : decode cX3_slotBeside 9 = .ok (.iadd, 1) := by decide +kernel
theorem dX3_slotBeside_10 : decode cX3_slotBeside 10 = .ok (.ireturn, 1) := by decide +kernel
set_option maxRecDepth 20000 in
theorem ggX3_hide_X3_goThroughRows : GoodIn wsX3_hide wsX3_goThroughRows := goodIn_r _ [8, 9, 10, 11, 12, 13, 14, 7, 15, 3, 1, 16, 17, 18, 19, 20, 21, 22, 23, 24, 25, 26, 27, 28, 29, 30, 31, 32, 33, 34, 35, 36, 37, 38, 39, 40, 41, 2, 42, 43, 44, 45, 46, 47, 48, 49, 52, 53, 54, 50, 51] (by decide +kernel) (by decide +kernel)
set_option maxRecDepth 20000 in
theorem gX3_hide_X3_goThroughRows : GoodIn wsX3_hide (wsV RX3 71 RX3 yX3_goThroughRows wsX3_goThroughRows) := goodIn_app (goodIn_of _ (by decide +kernel)) ggX3_hide_X3_goThroughRows
theorem dX3_hide_0 : decode cX3_hide 0 = .ok (.iconst 0, 1) := by decide +kernel
theorem dX3_hide_1 : decode cX3_hide 1 = .ok (.istore 5, 2) := by decide +kernel
theorem dX3_hide_3 : decode cX3_hide 3 = .ok (.iload 5, 2) := by decide +kernel
theorem dX3_hide_5 : decode cX3_hide 5 = .ok (.sipush 140, 3) := by decide +kernel
theorem dX3_hide_8 : decode cX3_hide 8 = .ok (.if_icmp .ge 46, 3) := by decide +kernel
theorem dX3_hide_11 : decode cX3_hide 11 = .ok (.aload_n 0, 1) := by decide +kernel
theorem dX3_hide_12 : decode cX3_hide 12 = .ok (.getfield 15, 3) := by decide +kernel
theorem dX3_hide_15 : decode cX3_hide 15 = .ok (.iload 5, 2) := by decide +kernel
theorem dX3_hide_17 : decode cX3_hide 17 = .ok (.aload_n 1, 1) := by decide +kernel
theorem dX3_hide_18 : decode cX3_hide 18 = .ok (.iload_n 2, 1) := by decide +kernel
theorem dX3_hide_19 : decode cX3_hide 19 = .ok (.sipush 140, 3) := by decide +kernel
theorem dX3_hide_22 : decode cX3_hide 22 = .ok (.imul, 1) := by decide +kernel
theorem dX3_hide_23 : decode cX3_hide 23 = .ok (.iload 5, 2) := by decide +kernel
theorem dX3_hide_25 : decode cX3_hide 25 = .ok (.iadd, 1) := by decide +kernel
theorem dX3_hide_26 : decode cX3_hide 26 = .ok (.baload, 1) := by decide +kernel
theorem dX3_hide_27 : decode cX3_hide 27 = .ok (.ifCond .eq 19, 3) := by decide +kernel
theorem dX3_hide_30 : decode cX3_hide 30 = .ok (.aload_n 0, 1) := by decide +kernel
theorem dX3_hide_31 : decode cX3_hide 31 = .ok (.getfield 9, 3) := by decide +kernel
theorem dX3_hide_34 : decode cX3_hide 34 = .ok (.iload 5, 2) := by decide +kernel
theorem dX3_hide_36 : decode cX3_hide 36 = .ok (.iaload, 1) := by decide +kernel
theorem dX3_hide_37 : decode cX3_hide 37 = .ok (.ldc 19, 2) := by decide +kernel
theorem dX3_hide_39 : decode cX3_hide 39 = .ok (.if_icmp .eq 7, 3) := by decide +kernel
theorem dX3_hide_42 : decode cX3_hide 42 = .ok (.iconst 1, 1) := by decide +kernel
theorem dX3_hide_43 : decode cX3_hide 43 = .ok (.goto 4, 3) := by decide +kernel
theorem dX3_hide_46 : decode cX3_hide 46 = .ok (.iconst 0, 1) := by decide +kernel
theorem dX3_hide_47 : decode cX3_hide 47 = .ok (.bastore, 1) := by decide +kernel
theorem dX3_hide_48 : decode cX3_hide 48 = .ok (.iinc 5 1, 3) := by decide +kernel
theorem dX3_hide_51 : decode cX3_hide 51 = .ok (.goto (-48), 3) := by decide +kernel
theorem dX3_hide_54 : decode cX3_hide 54 = .ok (.iconst 1, 1) := by decide +kernel
theorem dX3_hide_55 : decode cX3_hide 55 = .ok (.istore 5, 2) := by decide +kernel
theorem dX3_hide_57 : decode cX3_hide 57 = .ok (.iconst 0, 1) := by decide +kernel
theorem dX3_hide_58 : decode cX3_hide 58 = .ok (.istore 6, 2) := by decide +kernel
theorem dX3_hide_60 : decode cX3_hide 60 = .ok (.iload 6, 2) := by decide +kernel
theorem dX3_hide_62 : decode cX3_hide 62 = .ok (.sipush 140, 3) := by decide +kernel
theorem dX3_hide_65 : decode cX3_hide 65 = .ok (.if_icmp .gt 51, 3) := by decide +kernel
theorem dX3_hide_68 : decode cX3_hide 68 = .ok (.iload 5, 2) := by decide +kernel
theorem dX3_hide_70 : decode cX3_hide 70 = .ok (.ifCond .eq 46, 3) := by decide +kernel
theorem dX3_hide_73 : decode cX3_hide 73 = .ok (.aload_n 0, 1) := by decide +kernel
theorem dX3_hide_74 : decode cX3_hide 74 = .ok (.aload_n 3, 1) := by decide +kernel
theorem dX3_hide_75 : decode cX3_hide 75 = .ok (.aload 4, 2) := by decide +kernel
theorem dX3_hide_77 : decode cX3_hide 77 = .ok (.iconst 1, 1) := by decide +kernel
theorem dX3_hide_78 : decode cX3_hide 78 = .ok (.invokevirtual 71, 3) := by decide +kernel
theorem dX3_hide_81 : decode cX3_hide 81 = .ok (.istore 7, 2) := by decide +kernel
theorem dX3_hide_83 : decode cX3_hide 83 = .ok (.aload_n 0, 1) := by decide +kernel
theorem dX3_hide_84 : decode cX3_hide 84 = .ok (.aload_n 3, 1) := by decide +kernel
theorem dX3_hide_85 : decode cX3_hide 85 = .ok (.aload 4, 2) := by decide +kernel
theorem dX3_hide_87 : decode cX3_hide 87 = .ok (.iconst 0, 1) := by decide +kernel
theorem dX3_hide_88 : decode cX3_hide 88 = .ok (.invokevirtual 71, 3) := by decide +kernel
theorem dX3_hide_91 : decode cX3_hide 91 = .ok (.istore 8, 2) := by decide +kernel
theorem dX3_hide_93 : decode cX3_hide 93 = .ok (.iload 7, 2) := by decide +kernel
theorem dX3_hide_95 : decode cX3_hide 95 = .ok (.ifCond .ne 8, 3) := by decide +kernel
theorem dX3_hide_98 : decode cX3_hide 98 = .ok (.iload 8, 2) := by decide +kernel
theorem dX3_hide_100 : decode cX3_hide 100 = .ok (.ifCond .eq 7, 3) := by decide +kernel
theorem dX3_hide_103 : decode cX3_hide 103 = .ok (.iconst 1, 1) := by decide +kernel
theorem dX3_hide_104 : decode cX3_hide 104 = .ok (.goto 4, 3) := by decide +kernel
theorem dX3_hide_107 : decode cX3_hide 107 = .ok (.iconst 0, 1) := by decide +kernel
theorem dX3_hide_108 : decode cX3_hide 108 = .ok (.istore 5, 2) := by decide +kernel
theorem dX3_hide_110 : decode cX3_hide 110 = .ok (.iinc 6 1, 3) := by decide +kernel
theorem dX3_hide_113 : decode cX3_hide 113 = .ok (.goto (-53), 3) := by decide +kernel
theorem dX3_hide_116 : decode cX3_hide 116 = .ok (.return_, 1) := by decide +kernel
set_option maxRecDepth 20000 in
theorem ggX3_goThroughRows_X5_slotOf : GoodIn wsX3_goThroughRows wsX5_slotOf := goodIn_r _ [3] (by decide +kernel) (by decide +kernel)
set_option maxRecDepth 20000 in
theorem gX3_goThroughRows_X5_slotOf_n30 : GoodIn wsX3_goThroughRows (wsX5_slotOf) := ggX3_goThroughRows_X5_slotOf
set_option maxRecDepth 20000 in
theorem ggX3_goThroughRows_X3_protectRow : GoodIn wsX3_goThroughRows wsX3_protectRow := goodIn_r _ [8, 9, 10, 11, 12, 13, 7, 14, 15, 16, 17, 18, 19, 20, 21, 22, 23, 24, 25, 26, 27, 28, 29, 30, 31, 32, 33, 34, 35, 36, 37, 38, 39, 40, 41, 42, 43, 44, 45, 49, 50, 46, 47, 48] (by decide +kernel) (by decide +kernel)
set_option maxRecDepth 20000 in
theorem gX3_goThroughRows_X3_protectRow : GoodIn wsX3_goThroughRows (wsV RX3 75 RX3 yX3_protectRow wsX3_protectRow) := goodIn_app (goodIn_of _ (by decide +kernel)) ggX3_goThroughRows_X3_protectRow
theorem dX3_goThroughRows_0 : decode cX3_goThroughRows 0 = .ok (.iconst 0, 1) := by decide +kernel
theorem dX3_goThroughRows_1 : decode cX3_goThroughRows 1 = .ok (.istore 4, 2) := by decide +kernel
theorem dX3_goThroughRows_3 : decode cX3_goThroughRows 3 = .ok (.iconst 0, 1) := by decide +kernel
theorem dX3_goThroughRows_4 : decode cX3_goThroughRows 4 = .ok (.istore 5, 2) := by decide +kernel
theorem dX3_goThroughRows_6 : decode cX3_goThroughRows 6 = .ok (.iload 5, 2) := by decide +kernel
theorem dX3_goThroughRows_8 : decode cX3_goThroughRows 8 = .ok (.aload_n 1, 1) := by decide +kernel
theorem dX3_goThroughRows_9 : decode cX3_goThroughRows 9 = .ok (.getfield 24, 3) := by decide +kernel
theorem dX3_goThroughRows_12 : decode cX3_goThroughRows 12 = .ok (.if_icmp .ge 70, 3) := by decide +kernel
theorem dX3_goThroughRows_15 : decode cX3_goThroughRows 15 = .ok (.iconst 0, 1) := by decide +kernel
theorem dX3_goThroughRows_16 : decode cX3_goThroughRows 16 = .ok (.istore 6, 2) := by decide +kernel
theorem dX3_goThroughRows_18 : decode cX3_goThroughRows 18 = .ok (.iload 6, 2) := by decide +kernel
theorem dX3_goThroughRows_20 : decode cX3_goThroughRows 20 = .ok (.aload_n 2, 1) := by decide +kernel
theorem dX3_goThroughRows_21 : decode cX3_goThroughRows 21 = .ok (.getfield 24, 3) := by decide +kernel
theorem dX3_goThroughRows_24 : decode cX3_goThroughRows 24 = .ok (.if_icmp .ge 52, 3) := by decide +kernel
theorem dX3_goThroughRows_27 : decode cX3_goThroughRows 27 = .ok (.iload 5, 2) := by decide +kernel
theorem dX3_goThroughRows_29 : decode cX3_goThroughRows 29 = .ok (.iload 6, 2) := by decide +kernel
theorem dX3_goThroughRows_31 : decode cX3_goThroughRows 31 = .ok (.invokestatic 30, 3) := by decide +kernel
theorem dX3_goThroughRows_34 : decode cX3_goThroughRows 34 = .ok (.istore 7, 2) := by decide +kernel
theorem dX3_goThroughRows_36 : decode cX3_goThroughRows 36 = .ok (.iload_n 3, 1) := by decide +kernel
theorem dX3_goThroughRows_37 : decode cX3_goThroughRows 37 = .ok (.ifCond .eq 18, 3) := by decide +kernel
theorem dX3_goThroughRows_40 : decode cX3_goThroughRows 40 = .ok (.aload_n 0, 1) := by decide +kernel
theorem dX3_goThroughRows_41 : decode cX3_goThroughRows 41 = .ok (.aload_n 1, 1) := by decide +kernel
theorem dX3_goThroughRows_42 : decode cX3_goThroughRows 42 = .ok (.iload 5, 2) := by decide +kernel
theorem dX3_goThroughRows_44 : decode cX3_goThroughRows 44 = .ok (.iload 7, 2) := by decide +kernel
theorem dX3_goThroughRows_46 : decode cX3_goThroughRows 46 = .ok (.invokevirtual 75, 3) := by decide +kernel
theorem dX3_goThroughRows_49 : decode cX3_goThroughRows 49 = .ok (.ifCond .eq 21, 3) := by decide +kernel
theorem dX3_goThroughRows_52 : decode cX3_goThroughRows 52 = .ok (.goto 15, 3) := by decide +kernel
theorem dX3_goThroughRows_55 : decode cX3_goThroughRows 55 = .ok (.aload_n 0, 1) := by decide +kernel
theorem dX3_goThroughRows_56 : decode cX3_goThroughRows 56 = .ok (.aload_n 2, 1) := by decide +kernel
theorem dX3_goThroughRows_57 : decode cX3_goThroughRows 57 = .ok (.iload 6, 2) := by decide +kernel
theorem dX3_goThroughRows_59 : decode cX3_goThroughRows 59 = .ok (.iload 7, 2) := by decide +kernel
theorem dX3_goThroughRows_61 : decode cX3_goThroughRows 61 = .ok (.invokevirtual 75, 3) := by decide +kernel
theorem dX3_goThroughRows_64 : decode cX3_goThroughRows 64 = .ok (.ifCond .eq 6, 3) := by decide +kernel
theorem dX3_goThroughRows_67 : decode cX3_goThroughRows 67 = .ok (.iconst 1, 1) := by decide +kernel
theorem dX3_goThroughRows_68 : decode cX3_goThroughRows 68 = .ok (.istore 4, 2) := by decide +kernel
theorem dX3_goThroughRows_70 : decode cX3_goThroughRows 70 = .ok (.iinc 6 1, 3) := by decide +kernel
theorem dX3_goThroughRows_73 : decode cX3_goThroughRows 73 = .ok (.goto (-55), 3) := by decide +kernel
theorem dX3_goThroughRows_76 : decode cX3_goThroughRows 76 = .ok (.iinc 5 1, 3) := by decide +kernel
theorem dX3_goThroughRows_79 : decode cX3_goThroughRows 79 = .ok (.goto (-73), 3) := by decide +kernel
theorem dX3_goThroughRows_82 : decode cX3_goThroughRows 82 = .ok (.iload 4, 2) := by decide +kernel
theorem dX3_goThroughRows_84 : decode cX3_goThroughRows 84 = .ok (.ireturn, 1) := by decide +kernel
set_option maxRecDepth 20000 in
theorem ggX3_protectRow_X3_countHiddenInRow : GoodIn wsX3_protectRow wsX3_countHiddenInRow := goodIn_r _ [7, 8, 9, 10, 6, 11, 2, 12, 13, 14, 15, 16, 17, 18, 19, 20, 21, 41, 42, 43, 39, 40] (by decide +kernel) (by decide +kernel)
set_option maxRecDepth 20000 in
theorem gX3_protectRow_X3_countHiddenInRow : GoodIn wsX3_protectRow (wsV RX3 79 RX3 yX3_countHiddenInRow wsX3_countHiddenInRow) := goodIn_app (goodIn_of _ (by decide +kernel)) ggX3_protectRow_X3_countHiddenInRow
set_option maxRecDepth 20000 in
theorem ggX3_protectRow_X3_sumRightIn : GoodIn wsX3_protectRow wsX3_sumRightIn := goodIn_r _ [25, 1, 12, 13, 14, 15, 16, 17, 18, 19, 20, 6, 21, 26, 27, 28, 29, 30, 41, 42, 43, 39, 40] (by decide +kernel) (by decide +kernel)
set_option maxRecDepth 20000 in
theorem gX3_protectRow_X3_sumRightIn : GoodIn wsX3_protectRow (wsV RX3 34 RX3 yX3_sumRightIn wsX3_sumRightIn) := goodIn_app (goodIn_of _ (by decide +kernel)) ggX3_protectRow_X3_sumRightIn
set_option maxRecDepth 20000 in
theorem ggX3_protectRow_X3_nearestOpenSlot : GoodIn wsX3_protectRow wsX3_nearestOpenSlot := goodIn_r _ [34, 35, 36, 37, 38, 19, 20, 6, 21, 12, 13, 14, 15, 16, 17, 18, 8, 9, 10, 11, 2, 26, 27, 28, 29, 30, 1, 41, 42, 43, 39, 40] (by decide +kernel) (by decide +kernel)
set_option maxRecDepth 20000 in
theorem gX3_protectRow_X3_nearestOpenSlot : GoodIn wsX3_protectRow (wsV RX3 82 RX3 yX3_nearestOpenSlot wsX3_nearestOpenSlot) := goodIn_app (goodIn_of _ (by decide +kernel)) ggX3_protectRow_X3_nearestOpenSlot
theorem dX3_protectRow_0 : decode cX3_protectRow 0 = .ok (.aload_n 0, 1) := by decide +kernel
theorem dX3_protectRow_1 : decode cX3_protectRow 1 = .ok (.aload_n 1, 1) := by decide +kernel
theorem dX3_protectRow_2 : decode cX3_protectRow 2 = .ok (.iload_n 2, 1) := by decide +kernel
theorem dX3_protectRow_3 : decode cX3_protectRow 3 = .ok (.iload_n 3, 1) := by decide +kernel
theorem dX3_protectRow_4 : decode cX3_protectRow 4 = .ok (.invokevirtual 79, 3) := by decide +kernel
theorem dX3_protectRow_7 : decode cX3_protectRow 7 = .ok (.iconst 1, 1) := by decide +kernel
theorem dX3_protectRow_8 : decode cX3_protectRow 8 = .ok (.if_icmp .ne 15, 3) := by decide +kernel
theorem dX3_protectRow_11 : decode cX3_protectRow 11 = .ok (.aload_n 0, 1) := by decide +kernel
theorem dX3_protectRow_12 : decode cX3_protectRow 12 = .ok (.aload_n 1, 1) := by decide +kernel
theorem dX3_protectRow_13 : decode cX3_protectRow 13 = .ok (.iload_n 2, 1) := by decide +kernel
theorem dX3_protectRow_14 : decode cX3_protectRow 14 = .ok (.iload_n 3, 1) := by decide +kernel
theorem dX3_protectRow_15 : decode cX3_protectRow 15 = .ok (.invokevirtual 34, 3) := by decide +kernel
theorem dX3_protectRow_18 : decode cX3_protectRow 18 = .ok (.ldc 19, 2) := by decide +kernel
theorem dX3_protectRow_20 : decode cX3_protectRow 20 = .ok (.if_icmp .ne 5, 3) := by decide +kernel
theorem dX3_protectRow_23 : decode cX3_protectRow 23 = .ok (.iconst 0, 1) := by decide +kernel
theorem dX3_protectRow_24 : decode cX3_protectRow 24 = .ok (.ireturn, 1) := by decide +kernel
theorem dX3_protectRow_25 : decode cX3_protectRow 25 = .ok (.aload_n 0, 1) := by decide +kernel
theorem dX3_protectRow_26 : decode cX3_protectRow 26 = .ok (.getfield 15, 3) := by decide +kernel
theorem dX3_protectRow_29 : decode cX3_protectRow 29 = .ok (.aload_n 0, 1) := by decide +kernel
theorem dX3_protectRow_30 : decode cX3_protectRow 30 = .ok (.aload_n 1, 1) := by decide +kernel
theorem dX3_protectRow_31 : decode cX3_protectRow 31 = .ok (.iload_n 2, 1) := by decide +kernel
theorem dX3_protectRow_32 : decode cX3_protectRow 32 = .ok (.iload_n 3, 1) := by decide +kernel
theorem dX3_protectRow_33 : decode cX3_protectRow 33 = .ok (.invokevirtual 82, 3) := by decide +kernel
theorem dX3_protectRow_36 : decode cX3_protectRow 36 = .ok (.iconst 1, 1) := by decide +kernel
theorem dX3_protectRow_37 : decode cX3_protectRow 37 = .ok (.bastore, 1) := by decide +kernel
theorem dX3_protectRow_38 : decode cX3_protectRow 38 = .ok (.iconst 1, 1) := by decide +kernel
theorem dX3_protectRow_39 : decode cX3_protectRow 39 = .ok (.ireturn, 1) := by decide +kernel
set_option maxRecDepth 20000 in
theorem ggX3_countHiddenInRow_X3_isHidden : GoodIn wsX3_countHiddenInRow wsX3_isHidden := goodIn_r _ [5, 6, 20, 21] (by decide +kernel) (by decide +kernel)
set_option maxRecDepth 20000 in
theorem gX3_countHiddenInRow_X3_isHidden : GoodIn wsX3_countHiddenInRow (wsV RX3 85 RX3 yX3_isHidden wsX3_isHidden) := goodIn_app (goodIn_of _ (by decide +kernel)) ggX3_countHiddenInRow_X3_isHidden
set_option maxRecDepth 20000 in
theorem ggX3_countHiddenInRow_X4_isRightIn : GoodIn wsX3_countHiddenInRow wsX4_isRightIn := goodIn_r _ [11, 12, 13, 17, 18, 19] (by decide +kernel) (by decide +kernel)
set_option maxRecDepth 20000 in
theorem gX3_countHiddenInRow_X4_isRightIn : GoodIn wsX3_countHiddenInRow (wsV RX3 56 RX4 yX4_isRightIn wsX4_isRightIn) := goodIn_app (goodIn_of _ (by decide +kernel)) ggX3_countHiddenInRow_X4_isRightIn
set_option maxRecDepth 20000 in
theorem ggX3_countHiddenInRow_X3_slotBeside : GoodIn wsX3_countHiddenInRow wsX3_slotBeside := goodIn_r _ [16, 17, 18, 19] (by decide +kernel) (by decide +kernel)
set_option maxRecDepth 20000 in
theorem gX3_countHiddenInRow_X3_slotBeside : GoodIn wsX3_countHiddenInRow (va_wsS RX3 60 yX3_slotBeside wsX3_slotBeside) := goodIn_app (goodIn_of _ (by decide +kernel)) ggX3_countHiddenInRow_X3_slotBeside
theorem dX3_countHiddenInRow_0 : decode cX3_countHiddenInRow 0 = .ok (.aload_n 0, 1) := by decide +kernel
theorem dX3_countHiddenInRow_1 : decode cX3_countHiddenInRow 1 = .ok (.iload_n 3, 1) := by decide +kernel
theorem dX3_countHiddenInRow_2 : decode cX3_countHiddenInRow 2 = .ok (.invokevirtual 85, 3) := by decide +kernel
theorem dX3_countHiddenInRow_5 : decode cX3_countHiddenInRow 5 = .ok (.ifCond .eq 7, 3) := by decide +kernel
theorem dX3_countHiddenInRow_8 : decode cX3_countHiddenInRow 8 = .ok (.iconst 1, 1) := by decide +kernel
theorem dX3_countHiddenInRow_9 : decode cX3_countHiddenInRow 9 = .ok (.goto 4, 3) := by decide +kernel
theorem dX3_countHiddenInRow_12 : decode cX3_countHiddenInRow 12 = .ok (.iconst 0, 1) := by decide +kernel
theorem dX3_countHiddenInRow_13 : decode cX3_countHiddenInRow 13 = .ok (.istore 4, 2) := by decide +kernel
theorem dX3_countHiddenInRow_15 : decode cX3_countHiddenInRow 15 = .ok (.iload_n 2, 1) := by decide +kernel
theorem dX3_countHiddenInRow_16 : decode cX3_countHiddenInRow 16 = .ok (.iconst 1, 1) := by decide +kernel
theorem dX3_countHiddenInRow_17 : decode cX3_countHiddenInRow 17 = .ok (.iadd, 1) := by decide +kernel
theorem dX3_countHiddenInRow_18 : decode cX3_countHiddenInRow 18 = .ok (.istore 5, 2) := by decide +kernel
theorem dX3_countHiddenInRow_20 : decode cX3_countHiddenInRow 20 = .ok (.iload 5, 2) := by decide +kernel
theorem dX3_countHiddenInRow_22 : decode cX3_countHiddenInRow 22 = .ok (.aload_n 1, 1) := by decide +kernel
theorem dX3_countHiddenInRow_23 : decode cX3_countHiddenInRow 23 = .ok (.getfield 24, 3) := by decide +kernel
theorem dX3_countHiddenInRow_26 : decode cX3_countHiddenInRow 26 = .ok (.if_icmp .ge 37, 3) := by decide +kernel
theorem dX3_countHiddenInRow_29 : decode cX3_countHiddenInRow 29 = .ok (.aload_n 1, 1) := by decide +kernel
theorem dX3_countHiddenInRow_30 : decode cX3_countHiddenInRow 30 = .ok (.iload 5, 2) := by decide +kernel
theorem dX3_countHiddenInRow_32 : decode cX3_countHiddenInRow 32 = .ok (.iload_n 2, 1) := by decide +kernel
theorem dX3_countHiddenInRow_33 : decode cX3_countHiddenInRow 33 = .ok (.invokevirtual 56, 3) := by decide +kernel
theorem dX3_countHiddenInRow_36 : decode cX3_countHiddenInRow 36 = .ok (.ifCond .eq 21, 3) := by decide +kernel
theorem dX3_countHiddenInRow_39 : decode cX3_countHiddenInRow 39 = .ok (.aload_n 0, 1) := by decide +kernel
theorem dX3_countHiddenInRow_40 : decode cX3_countHiddenInRow 40 = .ok (.aload_n 1, 1) := by decide +kernel
theorem dX3_countHiddenInRow_41 : decode cX3_countHiddenInRow 41 = .ok (.iload_n 2, 1) := by decide +kernel
theorem dX3_countHiddenInRow_42 : decode cX3_countHiddenInRow 42 = .ok (.iload_n 3, 1) := by decide +kernel
theorem dX3_countHiddenInRow_43 : decode cX3_countHiddenInRow 43 = .ok (.iload 5, 2) := by decide +kernel
theorem dX3_countHiddenInRow_45 : decode cX3_countHiddenInRow 45 = .ok (.invokestatic 60, 3) := by decide +kernel
theorem dX3_countHiddenInRow_48 : decode cX3_countHiddenInRow 48 = .ok (.invokevirtual 85, 3) := by decide +kernel
theorem dX3_countHiddenInRow_51 : decode cX3_countHiddenInRow 51 = .ok (.ifCond .eq 6, 3) := by decide +kernel
theorem dX3_countHiddenInRow_54 : decode cX3_countHiddenInRow 54 = .ok (.iinc 4 1, 3) := by decide +kernel
theorem dX3_countHiddenInRow_57 : decode cX3_countHiddenInRow 57 = .ok (.iinc 5 1, 3) := by decide +kernel
theorem dX3_countHiddenInRow_60 : decode cX3_countHiddenInRow 60 = .ok (.goto (-40), 3) := by decide +kernel
theorem dX3_countHiddenInRow_63 : decode cX3_countHiddenInRow 63 = .ok (.iload 4, 2) := by decide +kernel
theorem dX3_countHiddenInRow_65 : decode cX3_countHiddenInRow 65 = .ok (.ireturn, 1) := by decide +kernel
set_option maxRecDepth 20000 in
theorem ggX3_nearestOpenSlot_X3_slotBeside : GoodIn wsX3_nearestOpenSlot wsX3_slotBeside := goodIn_r _ [8, 27, 28, 29] (by decide +kernel) (by decide +kernel)
set_option maxRecDepth 20000 in
theorem gX3_nearestOpenSlot_X3_slotBeside : GoodIn wsX3_nearestOpenSlot (va_wsS RX3 60 yX3_slotBeside wsX3_slotBeside) := goodIn_app (goodIn_of _ (by decide +kernel)) ggX3_nearestOpenSlot_X3_slotBeside
set_option maxRecDepth 20000 in
theorem ggX3_nearestOpenSlot_X4_isRightIn : GoodIn wsX3_nearestOpenSlot wsX4_isRightIn := goodIn_r _ [13, 14, 15, 27, 28, 29] (by decide +kernel) (by decide +kernel)
set_option maxRecDepth 20000 in
theorem gX3_nearestOpenSlot_X4_isRightIn : GoodIn wsX3_nearestOpenSlot (wsV RX3 56 RX4 yX4_isRightIn wsX4_isRightIn) := goodIn_app (goodIn_of _ (by decide +kernel)) ggX3_nearestOpenSlot_X4_isRightIn
set_option maxRecDepth 20000 in
theorem ggX3_nearestOpenSlot_X3_isHidden : GoodIn wsX3_nearestOpenSlot wsX3_isHidden := goodIn_r _ [19, 20, 30, 31] (by decide +kernel) (by decide +kernel)
set_option maxRecDepth 20000 in
theorem gX3_nearestOpenSlot_X3_isHidden : GoodIn wsX3_nearestOpenSlot (wsV RX3 85 RX3 yX3_isHidden wsX3_isHidden) := goodIn_app (goodIn_of _ (by decide +kernel)) ggX3_nearestOpenSlot_X3_isHidden
set_option maxRecDepth 20000 in
theorem ggX3_nearestOpenSlot_X3_valueAt : GoodIn wsX3_nearestOpenSlot wsX3_valueAt := goodIn_r _ [24, 25, 26, 30, 31] (by decide +kernel) (by decide +kernel)
set_option maxRecDepth 20000 in
theorem gX3_nearestOpenSlot_X3_valueAt : GoodIn wsX3_nearestOpenSlot (wsV RX3 64 RX3 yX3_valueAt wsX3_valueAt) := goodIn_app (goodIn_of _ (by decide +kernel)) ggX3_nearestOpenSlot_X3_valueAt
theorem dX3_nearestOpenSlot_0 : decode cX3_nearestOpenSlot 0 = .ok (.iconst (-1), 1) := by decide +kernel
theorem dX3_nearestOpenSlot_1 : decode cX3_nearestOpenSlot 1 = .ok (.istore 4, 2) := by decide +kernel
theorem dX3_nearestOpenSlot_3 : decode cX3_nearestOpenSlot 3 = .ok (.iload_n 2, 1) := by decide +kernel
theorem dX3_nearestOpenSlot_4 : decode cX3_nearestOpenSlot 4 = .ok (.iconst 1, 1) := by decide +kernel
theorem dX3_nearestOpenSlot_5 : decode cX3_nearestOpenSlot 5 = .ok (.iadd, 1) := by decide +kernel
theorem dX3_nearestOpenSlot_6 : decode cX3_nearestOpenSlot 6 = .ok (.istore 5, 2) := by decide +kernel
theorem dX3_nearestOpenSlot_8 : decode cX3_nearestOpenSlot 8 = .ok (.iload 5, 2) := by decide +kernel
theorem dX3_nearestOpenSlot_10 : decode cX3_nearestOpenSlot 10 = .ok (.aload_n 1, 1) := by decide +kernel
theorem dX3_nearestOpenSlot_11 : decode cX3_nearestOpenSlot 11 = .ok (.getfield 24, 3) := by decide +kernel
theorem dX3_nearestOpenSlot_14 : decode cX3_nearestOpenSlot 14 = .ok (.if_icmp .ge 69, 3) := by decide +kernel
theorem dX3_nearestOpenSlot_17 : decode cX3_nearestOpenSlot 17 = .ok (.aload_n 1, 1) := by decide +kernel
theorem dX3_nearestOpenSlot_18 : decode cX3_nearestOpenSlot 18 = .ok (.iload_n 2, 1) := by decide +kernel
theorem dX3_nearestOpenSlot_19 : decode cX3_nearestOpenSlot 19 = .ok (.iload_n 3, 1) := by decide +kernel
theorem dX3_nearestOpenSlot_20 : decode cX3_nearestOpenSlot 20 = .ok (.iload 5, 2) := by decide +kernel
theorem dX3_nearestOpenSlot_22 : decode cX3_nearestOpenSlot 22 = .ok (.invokestatic 60, 3) := by decide +kernel
theorem dX3_nearestOpenSlot_25 : decode cX3_nearestOpenSlot 25 = .ok (.istore 6, 2) := by decide +kernel
theorem dX3_nearestOpenSlot_27 : decode cX3_nearestOpenSlot 27 = .ok (.aload_n 1, 1) := by decide +kernel
theorem dX3_nearestOpenSlot_28 : decode cX3_nearestOpenSlot 28 = .ok (.iload 5, 2) := by decide +kernel
theorem dX3_nearestOpenSlot_30 : decode cX3_nearestOpenSlot 30 = .ok (.iload_n 2, 1) := by decide +kernel
theorem dX3_nearestOpenSlot_31 : decode cX3_nearestOpenSlot 31 = .ok (.invokevirtual 56, 3) := by decide +kernel
theorem dX3_nearestOpenSlot_34 : decode cX3_nearestOpenSlot 34 = .ok (.ifCond .eq 43, 3) := by decide +kernel
theorem dX3_nearestOpenSlot_37 : decode cX3_nearestOpenSlot 37 = .ok (.aload_n 0, 1) := by decide +kernel
theorem dX3_nearestOpenSlot_38 : decode cX3_nearestOpenSlot 38 = .ok (.iload 6, 2) := by decide +kernel
theorem dX3_nearestOpenSlot_40 : decode cX3_nearestOpenSlot 40 = .ok (.invokevirtual 85, 3) := by decide +kernel
theorem dX3_nearestOpenSlot_43 : decode cX3_nearestOpenSlot 43 = .ok (.ifCond .ne 34, 3) := by decide +kernel
theorem dX3_nearestOpenSlot_46 : decode cX3_nearestOpenSlot 46 = .ok (.iload 4, 2) := by decide +kernel
theorem dX3_nearestOpenSlot_48 : decode cX3_nearestOpenSlot 48 = .ok (.iconst (-1), 1) := by decide +kernel
theorem dX3_nearestOpenSlot_49 : decode cX3_nearestOpenSlot 49 = .ok (.if_icmp .eq 24, 3) := by decide +kernel
theorem dX3_nearestOpenSlot_52 : decode cX3_nearestOpenSlot 52 = .ok (.aload_n 0, 1) := by decide +kernel
theorem dX3_nearestOpenSlot_53 : decode cX3_nearestOpenSlot 53 = .ok (.iload 6, 2) := by decide +kernel
theorem dX3_nearestOpenSlot_55 : decode cX3_nearestOpenSlot 55 = .ok (.invokevirtual 64, 3) := by decide +kernel
theorem dX3_nearestOpenSlot_58 : decode cX3_nearestOpenSlot 58 = .ok (.invokestatic 89, 3) := by decide +kernel
theorem dX3_nearestOpenSlot_61 : decode cX3_nearestOpenSlot 61 = .ok (.aload_n 0, 1) := by decide +kernel
theorem dX3_nearestOpenSlot_62 : decode cX3_nearestOpenSlot 62 = .ok (.iload 4, 2) := by decide +kernel
theorem dX3_nearestOpenSlot_64 : decode cX3_nearestOpenSlot 64 = .ok (.invokevirtual 64, 3) := by decide +kernel
theorem dX3_nearestOpenSlot_67 : decode cX3_nearestOpenSlot 67 = .ok (.invokestatic 89, 3) := by decide +kernel
theorem dX3_nearestOpenSlot_70 : decode cX3_nearestOpenSlot 70 = .ok (.if_icmp .ge 7, 3) := by decide +kernel
theorem dX3_nearestOpenSlot_73 : decode cX3_nearestOpenSlot 73 = .ok (.iload 6, 2) := by decide +kernel
theorem dX3_nearestOpenSlot_75 : decode cX3_nearestOpenSlot 75 = .ok (.istore 4, 2) := by decide +kernel
theorem dX3_nearestOpenSlot_77 : decode cX3_nearestOpenSlot 77 = .ok (.iinc 5 1, 3) := by decide +kernel
theorem dX3_nearestOpenSlot_80 : decode cX3_nearestOpenSlot 80 = .ok (.goto (-72), 3) := by decide +kernel
theorem dX3_nearestOpenSlot_83 : decode cX3_nearestOpenSlot 83 = .ok (.iload 4, 2) := by decide +kernel
theorem dX3_nearestOpenSlot_85 : decode cX3_nearestOpenSlot 85 = .ok (.iconst (-1), 1) := by decide +kernel
theorem dX3_nearestOpenSlot_86 : decode cX3_nearestOpenSlot 86 = .ok (.if_icmp .ne 7, 3) := by decide +kernel
theorem dX3_nearestOpenSlot_89 : decode cX3_nearestOpenSlot 89 = .ok (.iload_n 3, 1) := by decide +kernel
theorem dX3_nearestOpenSlot_90 : decode cX3_nearestOpenSlot 90 = .ok (.goto 5, 3) := by decide +kernel
theorem dX3_nearestOpenSlot_93 : decode cX3_nearestOpenSlot 93 = .ok (.iload 4, 2) := by decide +kernel
theorem dX3_nearestOpenSlot_95 : decode cX3_nearestOpenSlot 95 = .ok (.ireturn, 1) := by decide +kernel
theorem dX3_countHiddenSlots_0 : decode cX3_countHiddenSlots 0 = .ok (.iconst 0, 1) := by decide +kernel
theorem dX3_countHiddenSlots_1 : decode cX3_countHiddenSlots 1 = .ok (.istore_n 1, 1) := by decide +kernel
theorem dX3_countHiddenSlots_2 : decode cX3_countHiddenSlots 2 = .ok (.iconst 0, 1) := by decide +kernel
theorem dX3_countHiddenSlots_3 : decode cX3_countHiddenSlots 3 = .ok (.istore_n 2, 1) := by decide +kernel
theorem dX3_countHiddenSlots_4 : decode cX3_countHiddenSlots 4 = .ok (.iload_n 2, 1) := by decide +kernel
theorem dX3_countHiddenSlots_5 : decode cX3_countHiddenSlots 5 = .ok (.sipush 140, 3) := by decide +kernel
theorem dX3_countHiddenSlots_8 : decode cX3_countHiddenSlots 8 = .ok (.if_icmp .ge 21, 3) := by decide +kernel
theorem dX3_countHiddenSlots_11 : decode cX3_countHiddenSlots 11 = .ok (.aload_n 0, 1) := by decide +kernel
theorem dX3_countHiddenSlots_12 : decode cX3_countHiddenSlots 12 = .ok (.getfield 15, 3) := by decide +kernel
theorem dX3_countHiddenSlots_15 : decode cX3_countHiddenSlots 15 = .ok (.iload_n 2, 1) := by decide +kernel
theorem dX3_countHiddenSlots_16 : decode cX3_countHiddenSlots 16 = .ok (.baload, 1) := by decide +kernel
theorem dX3_countHiddenSlots_17 : decode cX3_countHiddenSlots 17 = .ok (.ifCond .eq 6, 3) := by decide +kernel
theorem dX3_countHiddenSlots_20 : decode cX3_countHiddenSlots 20 = .ok (.iinc 1 1, 3) := by decide +kernel
theorem dX3_countHiddenSlots_23 : decode cX3_countHiddenSlots 23 = .ok (.iinc 2 1, 3) := by decide +kernel
theorem dX3_countHiddenSlots_26 : decode cX3_countHiddenSlots 26 = .ok (.goto (-22), 3) := by decide +kernel
theorem dX3_countHiddenSlots_29 : decode cX3_countHiddenSlots 29 = .ok (.iload_n 1, 1) := by decide +kernel
theorem dX3_countHiddenSlots_30 : decode cX3_countHiddenSlots 30 = .ok (.ireturn, 1) := by decide +kernel
theorem dX4_init_0 : decode cX4_init 0 = .ok (.aload_n 0, 1) := by decide +kernel
theorem dX4_init_1 : decode cX4_init 1 = .ok (.invokespecial 1, 3) := by decide +kernel
theorem dX4_init_4 : decode cX4_init 4 = .ok (.aload_n 0, 1) := by decide +kernel
theorem dX4_init_5 : decode cX4_init 5 = .ok (.iload_n 1, 1) := by decide +kernel
theorem dX4_init_6 : decode cX4_init 6 = .ok (.newarray .int, 2) := by decide +kernel
theorem dX4_init_8 : decode cX4_init 8 = .ok (.putfield 7, 3) := by decide +kernel
theorem dX4_init_11 : decode cX4_init 11 = .ok (.aload_n 0, 1) := by decide +kernel
theorem dX4_init_12 : decode cX4_init 12 = .ok (.iload_n 2, 1) := by decide +kernel
theorem dX4_init_13 : decode cX4_init 13 = .ok (.putfield 13, 3) := by decide +kernel
theorem dX4_init_16 : decode cX4_init 16 = .ok (.return_, 1) := by decide +kernel
theorem dX4_has_0 : decode cX4_has 0 = .ok (.iload_n 1, 1) := by decide +kernel
theorem dX4_has_1 : decode cX4_has 1 = .ok (.ifCond .lt 15, 3) := by decide +kernel
theorem dX4_has_4 : decode cX4_has 4 = .ok (.iload_n 1, 1) := by decide +kernel
theorem dX4_has_5 : decode cX4_has 5 = .ok (.aload_n 0, 1) := by decide +kernel
theorem dX4_has_6 : decode cX4_has 6 = .ok (.getfield 17, 3) := by decide +kernel
theorem dX4_has_9 : decode cX4_has 9 = .ok (.if_icmp .ge 7, 3) := by decide +kernel
theorem dX4_has_12 : decode cX4_has 12 = .ok (.iconst 1, 1) := by decide +kernel
theorem dX4_has_13 : decode cX4_has 13 = .ok (.goto 4, 3) := by decide +kernel
theorem dX4_has_16 : decode cX4_has 16 = .ok (.iconst 0, 1) := by decide +kernel
theorem dX4_has_17 : decode cX4_has 17 = .ok (.ireturn, 1) := by decide +kernel
theorem dX4_isFull_0 : decode cX4_isFull 0 = .ok (.aload_n 0, 1) := by decide +kernel
theorem dX4_isFull_1 : decode cX4_isFull 1 = .ok (.getfield 17, 3) := by decide +kernel
theorem dX4_isFull_4 : decode cX4_isFull 4 = .ok (.aload_n 0, 1) := by decide +kernel
theorem dX4_isFull_5 : decode cX4_isFull 5 = .ok (.getfield 7, 3) := by decide +kernel
theorem dX4_isFull_8 : decode cX4_isFull 8 = .ok (.arraylength, 1) := by decide +kernel
theorem dX4_isFull_9 : decode cX4_isFull 9 = .ok (.if_icmp .lt 7, 3) := by decide +kernel
theorem dX4_isFull_12 : decode cX4_isFull 12 = .ok (.iconst 1, 1) := by decide +kernel
theorem dX4_isFull_13 : decode cX4_isFull 13 = .ok (.goto 4, 3) := by decide +kernel
theorem dX4_isFull_16 : decode cX4_isFull 16 = .ok (.iconst 0, 1) := by decide +kernel
theorem dX4_isFull_17 : decode cX4_isFull 17 = .ok (.ireturn, 1) := by decide +kernel
theorem dX4_grow_0 : decode cX4_grow 0 = .ok (.aload_n 0, 1) := by decide +kernel
theorem dX4_grow_1 : decode cX4_grow 1 = .ok (.getfield 17, 3) := by decide +kernel
theorem dX4_grow_4 : decode cX4_grow 4 = .ok (.istore_n 2, 1) := by decide +kernel
theorem dX4_grow_5 : decode cX4_grow 5 = .ok (.iload_n 2, 1) := by decide +kernel
theorem dX4_grow_6 : decode cX4_grow 6 = .ok (.aload_n 0, 1) := by decide +kernel
theorem dX4_grow_7 : decode cX4_grow 7 = .ok (.getfield 7, 3) := by decide +kernel
theorem dX4_grow_10 : decode cX4_grow 10 = .ok (.arraylength, 1) := by decide +kernel
theorem dX4_grow_11 : decode cX4_grow 11 = .ok (.if_icmp .ge 17, 3) := by decide +kernel
theorem dX4_grow_14 : decode cX4_grow 14 = .ok (.aload_n 0, 1) := by decide +kernel
theorem dX4_grow_15 : decode cX4_grow 15 = .ok (.getfield 7, 3) := by decide +kernel
theorem dX4_grow_18 : decode cX4_grow 18 = .ok (.iload_n 2, 1) := by decide +kernel
theorem dX4_grow_19 : decode cX4_grow 19 = .ok (.iload_n 1, 1) := by decide +kernel
theorem dX4_grow_20 : decode cX4_grow 20 = .ok (.iastore, 1) := by decide +kernel
theorem dX4_grow_21 : decode cX4_grow 21 = .ok (.aload_n 0, 1) := by decide +kernel
theorem dX4_grow_22 : decode cX4_grow 22 = .ok (.iload_n 2, 1) := by decide +kernel
theorem dX4_grow_23 : decode cX4_grow 23 = .ok (.iconst 1, 1) := by decide +kernel
theorem dX4_grow_24 : decode cX4_grow 24 = .ok (.iadd, 1) := by decide +kernel
theorem dX4_grow_25 : decode cX4_grow 25 = .ok (.putfield 17, 3) := by decide +kernel
theorem dX4_grow_28 : decode cX4_grow 28 = .ok (.iload_n 2, 1) := by decide +kernel
theorem dX4_grow_29 : decode cX4_grow 29 = .ok (.ireturn, 1) := by decide +kernel
theorem dX4_isRightIn_0 : decode cX4_isRightIn 0 = .ok (.iload_n 1, 1) := by decide +kernel
theorem dX4_isRightIn_1 : decode cX4_isRightIn 1 = .ok (.ifCond .lt 25, 3) := by decide +kernel
theorem dX4_isRightIn_4 : decode cX4_isRightIn 4 = .ok (.iload_n 1, 1) := by decide +kernel
theorem dX4_isRightIn_5 : decode cX4_isRightIn 5 = .ok (.aload_n 0, 1) := by decide +kernel
theorem dX4_isRightIn_6 : decode cX4_isRightIn 6 = .ok (.getfield 17, 3) := by decide +kernel
theorem dX4_isRightIn_9 : decode cX4_isRightIn 9 = .ok (.if_icmp .ge 17, 3) := by decide +kernel
theorem dX4_isRightIn_12 : decode cX4_isRightIn 12 = .ok (.aload_n 0, 1) := by decide +kernel
theorem dX4_isRightIn_13 : decode cX4_isRightIn 13 = .ok (.getfield 7, 3) := by decide +kernel
theorem dX4_isRightIn_16 : decode cX4_isRightIn 16 = .ok (.iload_n 1, 1) := by decide +kernel
theorem dX4_isRightIn_17 : decode cX4_isRightIn 17 = .ok (.iaload, 1) := by decide +kernel
theorem dX4_isRightIn_18 : decode cX4_isRightIn 18 = .ok (.iload_n 2, 1) := by decide +kernel
theorem dX4_isRightIn_19 : decode cX4_isRightIn 19 = .ok (.if_icmp .ne 7, 3) := by decide +kernel
theorem dX4_isRightIn_22 : decode cX4_isRightIn 22 = .ok (.iconst 1, 1) := by decide +kernel
theorem dX4_isRightIn_23 : decode cX4_isRightIn 23 = .ok (.goto 4, 3) := by decide +kernel
theorem dX4_isRightIn_26 : decode cX4_isRightIn 26 = .ok (.iconst 0, 1) := by decide +kernel
theorem dX4_isRightIn_27 : decode cX4_isRightIn 27 = .ok (.ireturn, 1) := by decide +kernel
set_option maxRecDepth 20000 in
theorem ggX4_isWithin_X4_has : GoodIn wsX4_isWithin wsX4_has := goodIn_r _ [7, 1, 8, 9, 10] (by decide +kernel) (by decide +kernel)
set_option maxRecDepth 20000 in
theorem gX4_isWithin_X4_has : GoodIn wsX4_isWithin (wsV RX4 20 RX4 yX4_has wsX4_has) := goodIn_app (goodIn_of _ (by decide +kernel)) ggX4_isWithin_X4_has
theorem dX4_isWithin_0 : decode cX4_isWithin 0 = .ok (.iload_n 1, 1) := by decide +kernel
theorem dX4_isWithin_1 : decode cX4_isWithin 1 = .ok (.istore_n 3, 1) := by decide +kernel
theorem dX4_isWithin_2 : decode cX4_isWithin 2 = .ok (.iconst 0, 1) := by decide +kernel
theorem dX4_isWithin_3 : decode cX4_isWithin 3 = .ok (.istore 4, 2) := by decide +kernel
theorem dX4_isWithin_5 : decode cX4_isWithin 5 = .ok (.iload 4, 2) := by decide +kernel
theorem dX4_isWithin_7 : decode cX4_isWithin 7 = .ok (.aload_n 0, 1) := by decide +kernel
theorem dX4_isWithin_8 : decode cX4_isWithin 8 = .ok (.getfield 17, 3) := by decide +kernel
theorem dX4_isWithin_11 : decode cX4_isWithin 11 = .ok (.if_icmp .ge 29, 3) := by decide +kernel
theorem dX4_isWithin_14 : decode cX4_isWithin 14 = .ok (.aload_n 0, 1) := by decide +kernel
theorem dX4_isWithin_15 : decode cX4_isWithin 15 = .ok (.iload_n 3, 1) := by decide +kernel
theorem dX4_isWithin_16 : decode cX4_isWithin 16 = .ok (.invokevirtual 20, 3) := by decide +kernel
theorem dX4_isWithin_19 : decode cX4_isWithin 19 = .ok (.ifCond .eq 21, 3) := by decide +kernel
theorem dX4_isWithin_22 : decode cX4_isWithin 22 = .ok (.iload_n 3, 1) := by decide +kernel
theorem dX4_isWithin_23 : decode cX4_isWithin 23 = .ok (.iload_n 2, 1) := by decide +kernel
theorem dX4_isWithin_24 : decode cX4_isWithin 24 = .ok (.if_icmp .eq 16, 3) := by decide +kernel
theorem dX4_isWithin_27 : decode cX4_isWithin 27 = .ok (.aload_n 0, 1) := by decide +kernel
theorem dX4_isWithin_28 : decode cX4_isWithin 28 = .ok (.getfield 7, 3) := by decide +kernel
theorem dX4_isWithin_31 : decode cX4_isWithin 31 = .ok (.iload_n 3, 1) := by decide +kernel
theorem dX4_isWithin_32 : decode cX4_isWithin 32 = .ok (.iaload, 1) := by decide +kernel
theorem dX4_isWithin_33 : decode cX4_isWithin 33 = .ok (.istore_n 3, 1) := by decide +kernel
theorem dX4_isWithin_34 : decode cX4_isWithin 34 = .ok (.iinc 4 1, 3) := by decide +kernel
theorem dX4_isWithin_37 : decode cX4_isWithin 37 = .ok (.goto (-32), 3) := by decide +kernel
theorem dX4_isWithin_40 : decode cX4_isWithin 40 = .ok (.iload_n 3, 1) := by decide +kernel
theorem dX4_isWithin_41 : decode cX4_isWithin 41 = .ok (.iload_n 2, 1) := by decide +kernel
theorem dX4_isWithin_42 : decode cX4_isWithin 42 = .ok (.if_icmp .ne 7, 3) := by decide +kernel
theorem dX4_isWithin_45 : decode cX4_isWithin 45 = .ok (.iconst 1, 1) := by decide +kernel
theorem dX4_isWithin_46 : decode cX4_isWithin 46 = .ok (.goto 4, 3) := by decide +kernel
theorem dX4_isWithin_49 : decode cX4_isWithin 49 = .ok (.iconst 0, 1) := by decide +kernel
theorem dX4_isWithin_50 : decode cX4_isWithin 50 = .ok (.ireturn, 1) := by decide +kernel
set_option maxRecDepth 20000 in
theorem ggX5_init_X4_init : GoodIn wsX5_init wsX4_init := goodIn_r _ [31, 32, 2, 3, 27, 33, 34, 67, 68, 69] (by decide +kernel) (by decide +kernel)
set_option maxRecDepth 20000 in
theorem gX5_init_X4_init : GoodIn wsX5_init (wsX4_init) := ggX5_init_X4_init
set_option maxRecDepth 20000 in
theorem ggX5_init_X0_init : GoodIn wsX5_init wsX0_init := goodIn_r _ [36, 37, 2, 3, 25, 38, 81] (by decide +kernel) (by decide +kernel)
set_option maxRecDepth 20000 in
theorem gX5_init_X0_init_n23 : GoodIn wsX5_init (wsX0_init) := ggX5_init_X0_init
set_option maxRecDepth 20000 in
theorem ggX5_init_X2_init : GoodIn wsX5_init wsX2_init := goodIn_r _ [40, 41, 2, 3, 27, 42, 43, 44, 45, 82, 83, 84, 85, 86] (by decide +kernel) (by decide +kernel)
set_option maxRecDepth 20000 in
theorem gX5_init_X2_init_n30 : GoodIn wsX5_init (wsX2_init) := ggX5_init_X2_init
set_option maxRecDepth 20000 in
theorem ggX5_init_X1_init : GoodIn wsX5_init wsX1_init := goodIn_r _ [48, 49, 2, 3, 27, 50, 51, 52, 53, 54, 55, 56, 57, 58, 59, 60, 61, 87, 88, 89, 90, 91, 92, 93, 94] (by decide +kernel) (by decide +kernel)
set_option maxRecDepth 20000 in
theorem gX5_init_X1_init : GoodIn wsX5_init (wsX1_init) := ggX5_init_X1_init
set_option maxRecDepth 20000 in
theorem ggX5_init_X3_init : GoodIn wsX5_init wsX3_init := goodIn_r _ [63, 64, 2, 3, 27, 65, 25, 66, 95, 96] (by decide +kernel) (by decide +kernel)
set_option maxRecDepth 20000 in
theorem gX5_init_X3_init_n44 : GoodIn wsX5_init (wsX3_init) := ggX5_init_X3_init
theorem dX5_init_0 : decode cX5_init 0 = .ok (.aload_n 0, 1) := by decide +kernel
theorem dX5_init_1 : decode cX5_init 1 = .ok (.invokespecial 3, 3) := by decide +kernel
theorem dX5_init_4 : decode cX5_init 4 = .ok (.aload_n 0, 1) := by decide +kernel
theorem dX5_init_5 : decode cX5_init 5 = .ok (.new 9, 3) := by decide +kernel
theorem dX5_init_8 : decode cX5_init 8 = .ok (.dup, 1) := by decide +kernel
theorem dX5_init_9 : decode cX5_init 9 = .ok (.bipush 14, 2) := by decide +kernel
theorem dX5_init_11 : decode cX5_init 11 = .ok (.bipush 10, 2) := by decide +kernel
theorem dX5_init_13 : decode cX5_init 13 = .ok (.invokespecial 11, 3) := by decide +kernel
theorem dX5_init_16 : decode cX5_init 16 = .ok (.putfield 14, 3) := by decide +kernel
theorem dX5_init_19 : decode cX5_init 19 = .ok (.aload_n 0, 1) := by decide +kernel
theorem dX5_init_20 : decode cX5_init 20 = .ok (.new 9, 3) := by decide +kernel
theorem dX5_init_23 : decode cX5_init 23 = .ok (.dup, 1) := by decide +kernel
theorem dX5_init_24 : decode cX5_init 24 = .ok (.bipush 10, 2) := by decide +kernel
theorem dX5_init_26 : decode cX5_init 26 = .ok (.iconst 1, 1) := by decide +kernel
theorem dX5_init_27 : decode cX5_init 27 = .ok (.invokespecial 11, 3) := by decide +kernel
theorem dX5_init_30 : decode cX5_init 30 = .ok (.putfield 18, 3) := by decide +kernel
theorem dX5_init_33 : decode cX5_init 33 = .ok (.aload_n 0, 1) := by decide +kernel
theorem dX5_init_34 : decode cX5_init 34 = .ok (.new 21, 3) := by decide +kernel
theorem dX5_init_37 : decode cX5_init 37 = .ok (.dup, 1) := by decide +kernel
theorem dX5_init_38 : decode cX5_init 38 = .ok (.invokespecial 23, 3) := by decide +kernel
theorem dX5_init_41 : decode cX5_init 41 = .ok (.putfield 24, 3) := by decide +kernel
theorem dX5_init_44 : decode cX5_init 44 = .ok (.aload_n 0, 1) := by decide +kernel
theorem dX5_init_45 : decode cX5_init 45 = .ok (.new 28, 3) := by decide +kernel
theorem dX5_init_48 : decode cX5_init 48 = .ok (.dup, 1) := by decide +kernel
theorem dX5_init_49 : decode cX5_init 49 = .ok (.invokespecial 30, 3) := by decide +kernel
theorem dX5_init_52 : decode cX5_init 52 = .ok (.putfield 31, 3) := by decide +kernel
theorem dX5_init_55 : decode cX5_init 55 = .ok (.aload_n 0, 1) := by decide +kernel
theorem dX5_init_56 : decode cX5_init 56 = .ok (.new 35, 3) := by decide +kernel
theorem dX5_init_59 : decode cX5_init 59 = .ok (.dup, 1) := by decide +kernel
theorem dX5_init_60 : decode cX5_init 60 = .ok (.invokespecial 37, 3) := by decide +kernel
theorem dX5_init_63 : decode cX5_init 63 = .ok (.putfield 38, 3) := by decide +kernel
theorem dX5_init_66 : decode cX5_init 66 = .ok (.aload_n 0, 1) := by decide +kernel
theorem dX5_init_67 : decode cX5_init 67 = .ok (.new 42, 3) := by decide +kernel
theorem dX5_init_70 : decode cX5_init 70 = .ok (.dup, 1) := by decide +kernel
theorem dX5_init_71 : decode cX5_init 71 = .ok (.invokespecial 44, 3) := by decide +kernel
theorem dX5_init_74 : decode cX5_init 74 = .ok (.putfield 45, 3) := by decide +kernel
theorem dX5_init_77 : decode cX5_init 77 = .ok (.aload_n 0, 1) := by decide +kernel
theorem dX5_init_78 : decode cX5_init 78 = .ok (.sipush 1680, 3) := by decide +kernel
theorem dX5_init_81 : decode cX5_init 81 = .ok (.newarray .boolean, 2) := by decide +kernel
theorem dX5_init_83 : decode cX5_init 83 = .ok (.putfield 49, 3) := by decide +kernel
theorem dX5_init_86 : decode cX5_init 86 = .ok (.aload_n 0, 1) := by decide +kernel
theorem dX5_init_87 : decode cX5_init 87 = .ok (.bipush 16, 2) := by decide +kernel
theorem dX5_init_89 : decode cX5_init 89 = .ok (.newarray .int, 2) := by decide +kernel
theorem dX5_init_91 : decode cX5_init 91 = .ok (.putfield 53, 3) := by decide +kernel
theorem dX5_init_94 : decode cX5_init 94 = .ok (.return_, 1) := by decide +kernel
set_option maxRecDepth 20000 in
theorem ggX5_area_X5_requirePattern : GoodIn wsX5_area wsX5_requirePattern := goodIn_ca (goodIn_r _ [5, 6, 7, 8, 9, 10, 11, 12, 13, 39, 40, 41] (by decide +kernel) (by decide +kernel)) (goodIn_sub (fun _ h => List.mem_cons_of_mem _ (List.mem_append_left _ (List.mem_append_right _ h))) (by decide +kernel))
set_option maxRecDepth 20000 in
theorem gX5_area_X5_requirePattern : GoodIn wsX5_area (va_wsS RX5 57 yX5_requirePattern wsX5_requirePattern) := goodIn_app (goodIn_of _ (by decide +kernel)) ggX5_area_X5_requirePattern
set_option maxRecDepth 20000 in
theorem ggX5_area_X5_requireRoom : GoodIn wsX5_area wsX5_requireRoom := goodIn_ca (goodIn_r _ [16, 17, 18, 19, 20, 21, 11, 22, 13, 23, 39, 40, 41] (by decide +kernel) (by decide +kernel)) (goodIn_sub (fun _ h => List.mem_cons_of_mem _ (List.mem_append_right _ h)) (by decide +kernel))
set_option maxRecDepth 20000 in
theorem gX5_area_X5_requireRoom : GoodIn wsX5_area (va_wsS RX5 61 yX5_requireRoom wsX5_requireRoom) := goodIn_app (goodIn_of _ (by decide +kernel)) ggX5_area_X5_requireRoom
set_option maxRecDepth 20000 in
theorem ggX5_area_X4_grow : GoodIn wsX5_area wsX4_grow := goodIn_r _ [27, 13, 23, 39, 40, 41] (by decide +kernel) (by decide +kernel)
set_option maxRecDepth 20000 in
theorem gX5_area_X4_grow : GoodIn wsX5_area (wsV RX5 65 RX4 yX4_grow wsX4_grow) := goodIn_app (goodIn_of _ (by decide +kernel)) ggX5_area_X4_grow
theorem dX5_area_0 : decode cX5_area 0 = .ok (.aload_n 0, 1) := by decide +kernel
theorem dX5_area_1 : decode cX5_area 1 = .ok (.getfield 14, 3) := by decide +kernel
theorem dX5_area_4 : decode cX5_area 4 = .ok (.iload_n 1, 1) := by decide +kernel
theorem dX5_area_5 : decode cX5_area 5 = .ok (.invokestatic 57, 3) := by decide +kernel
theorem dX5_area_8 : decode cX5_area 8 = .ok (.aload_n 0, 1) := by decide +kernel
theorem dX5_area_9 : decode cX5_area 9 = .ok (.getfield 14, 3) := by decide +kernel
theorem dX5_area_12 : decode cX5_area 12 = .ok (.invokestatic 61, 3) := by decide +kernel
theorem dX5_area_15 : decode cX5_area 15 = .ok (.aload_n 0, 1) := by decide +kernel
theorem dX5_area_16 : decode cX5_area 16 = .ok (.getfield 14, 3) := by decide +kernel
theorem dX5_area_19 : decode cX5_area 19 = .ok (.iload_n 1, 1) := by decide +kernel
theorem dX5_area_20 : decode cX5_area 20 = .ok (.invokevirtual 65, 3) := by decide +kernel
theorem dX5_area_23 : decode cX5_area 23 = .ok (.ireturn, 1) := by decide +kernel
set_option maxRecDepth 20000 in
theorem ggX5_item_X5_requirePattern : GoodIn wsX5_item wsX5_requirePattern := goodIn_ca (goodIn_r _ [5, 6, 7, 8, 9, 10, 11, 12, 13, 39, 40, 41] (by decide +kernel) (by decide +kernel)) (goodIn_sub (fun _ h => List.mem_cons_of_mem _ (List.mem_append_left _ (List.mem_append_right _ h))) (by decide +kernel))
set_option maxRecDepth 20000 in
theorem gX5_item_X5_requirePattern : GoodIn wsX5_item (va_wsS RX5 57 yX5_requirePattern wsX5_requirePattern) := goodIn_app (goodIn_of _ (by decide +kernel)) ggX5_item_X5_requirePattern
set_option maxRecDepth 20000 in
theorem ggX5_item_X5_requireRoom : GoodIn wsX5_item wsX5_requireRoom := goodIn_ca (goodIn_r _ [16, 17, 18, 19, 20, 21, 11, 22, 13, 23, 39, 40, 41] (by decide +kernel) (by decide +kernel)) (goodIn_sub (fun _ h => List.mem_cons_of_mem _ (List.mem_append_right _ h)) (by decide +kernel))
set_option maxRecDepth 20000 in
theorem gX5_item_X5_requireRoom : GoodIn wsX5_item (va_wsS RX5 61 yX5_requireRoom wsX5_requireRoom) := goodIn_app (goodIn_of _ (by decide +kernel)) ggX5_item_X5_requireRoom
set_option maxRecDepth 20000 in
theorem ggX5_item_X4_grow : GoodIn wsX5_item wsX4_grow := goodIn_r _ [27, 13, 23, 39, 40, 41] (by decide +kernel) (by decide +kernel)
set_option maxRecDepth 20000 in
theorem gX5_item_X4_grow : GoodIn wsX5_item (wsV RX5 65 RX4 yX4_grow wsX4_grow) := goodIn_app (goodIn_of _ (by decide +kernel)) ggX5_item_X4_grow
theorem dX5_item_0 : decode cX5_item 0 = .ok (.aload_n 0, 1) := by decide +kernel
theorem dX5_item_1 : decode cX5_item 1 = .ok (.getfield 18, 3) := by decide +kernel
theorem dX5_item_4 : decode cX5_item 4 = .ok (.iload_n 1, 1) := by decide +kernel
theorem dX5_item_5 : decode cX5_item 5 = .ok (.invokestatic 57, 3) := by decide +kernel
theorem dX5_item_8 : decode cX5_item 8 = .ok (.aload_n 0, 1) := by decide +kernel
theorem dX5_item_9 : decode cX5_item 9 = .ok (.getfield 18, 3) := by decide +kernel
theorem dX5_item_12 : decode cX5_item 12 = .ok (.invokestatic 61, 3) := by decide +kernel
theorem dX5_item_15 : decode cX5_item 15 = .ok (.aload_n 0, 1) := by decide +kernel
theorem dX5_item_16 : decode cX5_item 16 = .ok (.getfield 18, 3) := by decide +kernel
theorem dX5_item_19 : decode cX5_item 19 = .ok (.iload_n 1, 1) := by decide +kernel
theorem dX5_item_20 : decode cX5_item 20 = .ok (.invokevirtual 65, 3) := by decide +kernel
theorem dX5_item_23 : decode cX5_item 23 = .ok (.ireturn, 1) := by decide +kernel
set_option maxRecDepth 20000 in
theorem ggX5_agree_X5_requireSender : GoodIn wsX5_agree wsX5_requireSender := goodIn_ca (goodIn_r _ [5, 6, 7] (by decide +kernel) (by decide +kernel)) (goodIn_sub (fun _ h => List.mem_cons_of_mem _ (List.mem_append_right _ h)) (by decide +kernel))
set_option maxRecDepth 20000 in
theorem gX5_agree_X5_requireSender : GoodIn wsX5_agree (va_wsS RX5 69 yX5_requireSender wsX5_requireSender) := goodIn_app (goodIn_of _ (by decide +kernel)) ggX5_agree_X5_requireSender
set_option maxRecDepth 20000 in
theorem ggX5_agree_X5_requireArea : GoodIn wsX5_agree wsX5_requireArea := goodIn_ca (goodIn_r _ [11, 6, 7, 12, 13, 14, 15, 16, 17, 18, 25, 26, 27, 28, 29, 30, 31, 32, 33, 34, 35, 36, 37, 38] (by decide +kernel) (by decide +kernel)) (goodIn_sub (fun _ h => List.mem_cons_of_mem _ (List.mem_append_right _ h)) (by decide +kernel))
set_option maxRecDepth 20000 in
theorem gX5_agree_X5_requireArea : GoodIn wsX5_agree (wsV RX5 73 RX5 yX5_requireArea wsX5_requireArea) := goodIn_app (goodIn_of _ (by decide +kernel)) ggX5_agree_X5_requireArea
set_option maxRecDepth 20000 in
theorem ggX5_agree_X0_change : GoodIn wsX5_agree wsX0_change := goodIn_r _ [23, 24, 39] (by decide +kernel) (by decide +kernel)
set_option maxRecDepth 20000 in
theorem gX5_agree_X0_change : GoodIn wsX5_agree (wsV RX5 76 RX0 yX0_change wsX0_change) := goodIn_app (goodIn_of _ (by decide +kernel)) ggX5_agree_X0_change
theorem dX5_agree_0 : decode cX5_agree 0 = .ok (.iload_n 1, 1) := by decide +kernel
theorem dX5_agree_1 : decode cX5_agree 1 = .ok (.invokestatic 69, 3) := by decide +kernel
theorem dX5_agree_4 : decode cX5_agree 4 = .ok (.aload_n 0, 1) := by decide +kernel
theorem dX5_agree_5 : decode cX5_agree 5 = .ok (.iload_n 2, 1) := by decide +kernel
theorem dX5_agree_6 : decode cX5_agree 6 = .ok (.invokevirtual 73, 3) := by decide +kernel
theorem dX5_agree_9 : decode cX5_agree 9 = .ok (.aload_n 0, 1) := by decide +kernel
theorem dX5_agree_10 : decode cX5_agree 10 = .ok (.getfield 24, 3) := by decide +kernel
theorem dX5_agree_13 : decode cX5_agree 13 = .ok (.iload_n 1, 1) := by decide +kernel
theorem dX5_agree_14 : decode cX5_agree 14 = .ok (.iload_n 2, 1) := by decide +kernel
theorem dX5_agree_15 : decode cX5_agree 15 = .ok (.iload_n 3, 1) := by decide +kernel
theorem dX5_agree_16 : decode cX5_agree 16 = .ok (.invokevirtual 76, 3) := by decide +kernel
theorem dX5_agree_19 : decode cX5_agree 19 = .ok (.ireturn, 1) := by decide +kernel
set_option maxRecDepth 20000 in
theorem ggX5_put_X5_requireCell : GoodIn wsX5_put wsX5_requireCell := goodIn_ca (goodIn_r _ [12, 13, 14, 15, 16, 17, 18, 19, 20, 21, 22, 23, 24, 11, 25, 26, 27, 28, 29, 30, 31, 46, 47, 48, 49, 50, 51, 52, 53, 54, 55, 56, 57, 58, 59] (by decide +kernel) (by decide +kernel)) (goodIn_sub (fun _ h => List.mem_cons_of_mem _ (List.mem_append_right _ h)) (by decide +kernel))
set_option maxRecDepth 20000 in
theorem gX5_put_X5_requireCell : GoodIn wsX5_put (wsV RX5 80 RX5 yX5_requireCell wsX5_requireCell) := goodIn_app (goodIn_of _ (by decide +kernel)) ggX5_put_X5_requireCell
set_option maxRecDepth 20000 in
theorem ggX5_put_X2_isFull : GoodIn wsX5_put wsX2_isFull := goodIn_r _ [36, 37, 60, 61, 62, 63, 64] (by decide +kernel) (by decide +kernel)
set_option maxRecDepth 20000 in
theorem gX5_put_X2_isFull : GoodIn wsX5_put (wsV RX5 95 RX2 yX2_isFull wsX2_isFull) := goodIn_app (goodIn_of _ (by decide +kernel)) ggX5_put_X2_isFull
set_option maxRecDepth 20000 in
theorem ggX5_put_X2_append : GoodIn wsX5_put wsX2_append := goodIn_r _ [41, 37, 42, 43, 44, 45, 60, 61, 62, 63, 64] (by decide +kernel) (by decide +kernel)
set_option maxRecDepth 20000 in
theorem gX5_put_X2_append : GoodIn wsX5_put (wsV RX5 104 RX2 yX2_append wsX2_append) := goodIn_app (goodIn_of _ (by decide +kernel)) ggX5_put_X2_append
theorem dX5_put_0 : decode cX5_put 0 = .ok (.aload_n 0, 1) := by decide +kernel
theorem dX5_put_1 : decode cX5_put 1 = .ok (.iload_n 2, 1) := by decide +kernel
theorem dX5_put_2 : decode cX5_put 2 = .ok (.iload_n 3, 1) := by decide +kernel
theorem dX5_put_3 : decode cX5_put 3 = .ok (.iload 4, 2) := by decide +kernel
theorem dX5_put_5 : decode cX5_put 5 = .ok (.invokevirtual 80, 3) := by decide +kernel
theorem dX5_put_8 : decode cX5_put 8 = .ok (.istore 6, 2) := by decide +kernel
theorem dX5_put_10 : decode cX5_put 10 = .ok (.iload_n 1, 1) := by decide +kernel
theorem dX5_put_11 : decode cX5_put 11 = .ok (.ifCond .lt 8, 3) := by decide +kernel
theorem dX5_put_14 : decode cX5_put 14 = .ok (.iload_n 1, 1) := by decide +kernel
theorem dX5_put_15 : decode cX5_put 15 = .ok (.iconst 2, 1) := by decide +kernel
theorem dX5_put_16 : decode cX5_put 16 = .ok (.if_icmp .le 13, 3) := by decide +kernel
theorem dX5_put_19 : decode cX5_put 19 = .ok (.new 84, 3) := by decide +kernel
theorem dX5_put_22 : decode cX5_put 22 = .ok (.dup, 1) := by decide +kernel
theorem dX5_put_23 : decode cX5_put 23 = .ok (.ldc 86, 2) := by decide +kernel
theorem dX5_put_25 : decode cX5_put 25 = .ok (.invokespecial 88, 3) := by decide +kernel
theorem dX5_put_28 : decode cX5_put 28 = .ok (.athrow, 1) := by decide +kernel
theorem dX5_put_29 : decode cX5_put 29 = .ok (.iload 5, 2) := by decide +kernel
theorem dX5_put_31 : decode cX5_put 31 = .ok (.ldc 91, 2) := by decide +kernel
theorem dX5_put_33 : decode cX5_put 33 = .ok (.if_icmp .lt 10, 3) := by decide +kernel
theorem dX5_put_36 : decode cX5_put 36 = .ok (.iload 5, 2) := by decide +kernel
theorem dX5_put_38 : decode cX5_put 38 = .ok (.ldc 92, 2) := by decide +kernel
theorem dX5_put_40 : decode cX5_put 40 = .ok (.if_icmp .le 13, 3) := by decide +kernel
theorem dX5_put_43 : decode cX5_put 43 = .ok (.new 84, 3) := by decide +kernel
theorem dX5_put_46 : decode cX5_put 46 = .ok (.dup, 1) := by decide +kernel
theorem dX5_put_47 : decode cX5_put 47 = .ok (.ldc 93, 2) := by decide +kernel
theorem dX5_put_49 : decode cX5_put 49 = .ok (.invokespecial 88, 3) := by decide +kernel
theorem dX5_put_52 : decode cX5_put 52 = .ok (.athrow, 1) := by decide +kernel
theorem dX5_put_53 : decode cX5_put 53 = .ok (.aload_n 0, 1) := by decide +kernel
theorem dX5_put_54 : decode cX5_put 54 = .ok (.getfield 31, 3) := by decide +kernel
theorem dX5_put_57 : decode cX5_put 57 = .ok (.invokevirtual 95, 3) := by decide +kernel
theorem dX5_put_60 : decode cX5_put 60 = .ok (.ifCond .eq 13, 3) := by decide +kernel
theorem dX5_put_63 : decode cX5_put 63 = .ok (.new 99, 3) := by decide +kernel
theorem dX5_put_66 : decode cX5_put 66 = .ok (.dup, 1) := by decide +kernel
theorem dX5_put_67 : decode cX5_put 67 = .ok (.ldc 101, 2) := by decide +kernel
theorem dX5_put_69 : decode cX5_put 69 = .ok (.invokespecial 103, 3) := by decide +kernel
theorem dX5_put_72 : decode cX5_put 72 = .ok (.athrow, 1) := by decide +kernel
theorem dX5_put_73 : decode cX5_put 73 = .ok (.aload_n 0, 1) := by decide +kernel
theorem dX5_put_74 : decode cX5_put 74 = .ok (.getfield 31, 3) := by decide +kernel
theorem dX5_put_77 : decode cX5_put 77 = .ok (.iload_n 1, 1) := by decide +kernel
theorem dX5_put_78 : decode cX5_put 78 = .ok (.iload_n 2, 1) := by decide +kernel
theorem dX5_put_79 : decode cX5_put 79 = .ok (.iload 6, 2) := by decide +kernel
theorem dX5_put_81 : decode cX5_put 81 = .ok (.iload 5, 2) := by decide +kernel
theorem dX5_put_83 : decode cX5_put 83 = .ok (.invokevirtual 104, 3) := by decide +kernel
theorem dX5_put_86 : decode cX5_put 86 = .ok (.ireturn, 1) := by decide +kernel
set_option maxRecDepth 20000 in
theorem ggX5_wipe_X2_clear : GoodIn wsX5_wipe wsX2_clear := goodIn_r _ [6, 7, 19, 20, 21, 22, 23] (by decide +kernel) (by decide +kernel)
set_option maxRecDepth 20000 in
theorem gX5_wipe_X2_clear : GoodIn wsX5_wipe (wsV RX5 108 RX2 yX2_clear wsX2_clear) := goodIn_app (goodIn_of _ (by decide +kernel)) ggX5_wipe_X2_clear
theorem dX5_wipe_0 : decode cX5_wipe 0 = .ok (.aload_n 0, 1) := by decide +kernel
theorem dX5_wipe_1 : decode cX5_wipe 1 = .ok (.getfield 31, 3) := by decide +kernel
theorem dX5_wipe_4 : decode cX5_wipe 4 = .ok (.invokevirtual 108, 3) := by decide +kernel
theorem dX5_wipe_7 : decode cX5_wipe 7 = .ok (.ireturn, 1) := by decide +kernel
set_option maxRecDepth 20000 in
theorem ggX5_send_X5_requireSender : GoodIn wsX5_send wsX5_requireSender := goodIn_ca (goodIn_r _ [8, 9, 10] (by decide +kernel) (by decide +kernel)) (goodIn_sub (fun _ h => List.mem_cons_of_mem _ (List.mem_append_right _ h)) (by decide +kernel))
set_option maxRecDepth 20000 in
theorem gX5_send_X5_requireSender : GoodIn wsX5_send (va_wsS RX5 69 yX5_requireSender wsX5_requireSender) := goodIn_app (goodIn_of _ (by decide +kernel)) ggX5_send_X5_requireSender
set_option maxRecDepth 20000 in
theorem ggX5_send_X5_judgeDraft : GoodIn wsX5_send wsX5_judgeDraft := goodIn_r _ [14, 3, 15, 16, 17, 18, 19, 20, 21, 7, 22, 23, 24, 25, 26, 27, 28, 29, 30, 31, 32, 33, 34, 35, 36, 37, 38, 39, 40, 41, 42, 43, 44, 45, 46, 47, 48, 49, 50, 51, 52, 53, 54, 55, 56, 57, 58, 59, 60, 61, 62, 63, 69, 70, 71, 72, 73, 74, 75, 76, 77, 78, 79, 80, 81, 82, 83, 84, 85, 86, 87, 88, 89, 90, 91, 92, 93, 94, 95, 96] (by decide +kernel) (by decide +kernel)
set_option maxRecDepth 20000 in
theorem gX5_send_X5_judgeDraft : GoodIn wsX5_send (wsV RX5 123 RX5 yX5_judgeDraft wsX5_judgeDraft) := goodIn_app (goodIn_of _ (by decide +kernel)) ggX5_send_X5_judgeDraft
set_option maxRecDepth 20000 in
theorem ggX5_send_X2_clear : GoodIn wsX5_send wsX2_clear := goodIn_r _ [67, 68, 80, 81, 82, 83, 84] (by decide +kernel) (by decide +kernel)
set_option maxRecDepth 20000 in
theorem gX5_send_X2_clear : GoodIn wsX5_send (wsV RX5 108 RX2 yX2_clear wsX2_clear) := goodIn_app (goodIn_of _ (by decide +kernel)) ggX5_send_X2_clear
theorem dX5_send_0 : decode cX5_send 0 = .ok (.iload_n 1, 1) := by decide +kernel
theorem dX5_send_1 : decode cX5_send 1 = .ok (.invokestatic 69, 3) := by decide +kernel
theorem dX5_send_4 : decode cX5_send 4 = .ok (.aload_n 0, 1) := by decide +kernel
theorem dX5_send_5 : decode cX5_send 5 = .ok (.getfield 31, 3) := by decide +kernel
end
section
theorem dX5_send_8 : decode cX5_send 8 = .ok (.getfield 112, 3) := by decide +kernel
theorem dX5_send_11 : decode cX5_send 11 = .ok (.istore_n 2, 1) := by decide +kernel
theorem dX5_send_12 : decode cX5_send 12 = .ok (.iload_n 2, 1) := by decide +kernel
theorem dX5_send_13 : decode cX5_send 13 = .ok (.ifCond .ne 13, 3) := by decide +kernel
theorem dX5_send_16 : decode cX5_send 16 = .ok (.new 99, 3) := by decide +kernel
theorem dX5_send_19 : decode cX5_send 19 = .ok (.dup, 1) := by decide +kernel
theorem dX5_send_20 : decode cX5_send 20 = .ok (.ldc 116, 2) := by decide +kernel
theorem dX5_send_22 : decode cX5_send 22 = .ok (.invokespecial 103, 3) := by decide +kernel
theorem dX5_send_25 : decode cX5_send 25 = .ok (.athrow, 1) := by decide +kernel
theorem dX5_send_26 : decode cX5_send 26 = .ok (.aload_n 0, 1) := by decide +kernel
theorem dX5_send_27 : decode cX5_send 27 = .ok (.getfield 118, 3) := by decide +kernel
theorem dX5_send_30 : decode cX5_send 30 = .ok (.iload_n 2, 1) := by decide +kernel
theorem dX5_send_31 : decode cX5_send 31 = .ok (.iadd, 1) := by decide +kernel
theorem dX5_send_32 : decode cX5_send 32 = .ok (.sipush 300, 3) := by decide +kernel
theorem dX5_send_35 : decode cX5_send 35 = .ok (.if_icmp .le 13, 3) := by decide +kernel
theorem dX5_send_38 : decode cX5_send 38 = .ok (.new 99, 3) := by decide +kernel
theorem dX5_send_41 : decode cX5_send 41 = .ok (.dup, 1) := by decide +kernel
theorem dX5_send_42 : decode cX5_send 42 = .ok (.ldc 121, 2) := by decide +kernel
theorem dX5_send_44 : decode cX5_send 44 = .ok (.invokespecial 103, 3) := by decide +kernel
theorem dX5_send_47 : decode cX5_send 47 = .ok (.athrow, 1) := by decide +kernel
theorem dX5_send_48 : decode cX5_send 48 = .ok (.aload_n 0, 1) := by decide +kernel
theorem dX5_send_49 : decode cX5_send 49 = .ok (.dup, 1) := by decide +kernel
theorem dX5_send_50 : decode cX5_send 50 = .ok (.getfield 118, 3) := by decide +kernel
theorem dX5_send_53 : decode cX5_send 53 = .ok (.iload_n 2, 1) := by decide +kernel
theorem dX5_send_54 : decode cX5_send 54 = .ok (.iadd, 1) := by decide +kernel
theorem dX5_send_55 : decode cX5_send 55 = .ok (.putfield 118, 3) := by decide +kernel
theorem dX5_send_58 : decode cX5_send 58 = .ok (.aload_n 0, 1) := by decide +kernel
theorem dX5_send_59 : decode cX5_send 59 = .ok (.iload_n 1, 1) := by decide +kernel
theorem dX5_send_60 : decode cX5_send 60 = .ok (.invokevirtual 123, 3) := by decide +kernel
theorem dX5_send_63 : decode cX5_send 63 = .ok (.istore_n 3, 1) := by decide +kernel
theorem dX5_send_64 : decode cX5_send 64 = .ok (.aload_n 0, 1) := by decide +kernel
theorem dX5_send_65 : decode cX5_send 65 = .ok (.getfield 31, 3) := by decide +kernel
theorem dX5_send_68 : decode cX5_send 68 = .ok (.invokevirtual 108, 3) := by decide +kernel
theorem dX5_send_71 : decode cX5_send 71 = .ok (.pop, 1) := by decide +kernel
theorem dX5_send_72 : decode cX5_send 72 = .ok (.iload_n 3, 1) := by decide +kernel
theorem dX5_send_73 : decode cX5_send 73 = .ok (.ireturn, 1) := by decide +kernel
theorem dX5_refusal_0 : decode cX5_refusal 0 = .ok (.iload_n 1, 1) := by decide +kernel
theorem dX5_refusal_1 : decode cX5_refusal 1 = .ok (.ifCond .lt 20, 3) := by decide +kernel
theorem dX5_refusal_4 : decode cX5_refusal 4 = .ok (.iload_n 1, 1) := by decide +kernel
theorem dX5_refusal_5 : decode cX5_refusal 5 = .ok (.aload_n 0, 1) := by decide +kernel
theorem dX5_refusal_6 : decode cX5_refusal 6 = .ok (.getfield 126, 3) := by decide +kernel
theorem dX5_refusal_9 : decode cX5_refusal 9 = .ok (.if_icmp .ge 12, 3) := by decide +kernel
theorem dX5_refusal_12 : decode cX5_refusal 12 = .ok (.iload_n 1, 1) := by decide +kernel
theorem dX5_refusal_13 : decode cX5_refusal 13 = .ok (.aload_n 0, 1) := by decide +kernel
theorem dX5_refusal_14 : decode cX5_refusal 14 = .ok (.getfield 53, 3) := by decide +kernel
theorem dX5_refusal_17 : decode cX5_refusal 17 = .ok (.arraylength, 1) := by decide +kernel
theorem dX5_refusal_18 : decode cX5_refusal 18 = .ok (.if_icmp .lt 13, 3) := by decide +kernel
theorem dX5_refusal_21 : decode cX5_refusal 21 = .ok (.new 129, 3) := by decide +kernel
theorem dX5_refusal_24 : decode cX5_refusal 24 = .ok (.dup, 1) := by decide +kernel
theorem dX5_refusal_25 : decode cX5_refusal 25 = .ok (.ldc 131, 2) := by decide +kernel
theorem dX5_refusal_27 : decode cX5_refusal 27 = .ok (.invokespecial 133, 3) := by decide +kernel
theorem dX5_refusal_30 : decode cX5_refusal 30 = .ok (.athrow, 1) := by decide +kernel
theorem dX5_refusal_31 : decode cX5_refusal 31 = .ok (.aload_n 0, 1) := by decide +kernel
theorem dX5_refusal_32 : decode cX5_refusal 32 = .ok (.getfield 53, 3) := by decide +kernel
theorem dX5_refusal_35 : decode cX5_refusal 35 = .ok (.iload_n 1, 1) := by decide +kernel
theorem dX5_refusal_36 : decode cX5_refusal 36 = .ok (.iaload, 1) := by decide +kernel
theorem dX5_refusal_37 : decode cX5_refusal 37 = .ok (.ireturn, 1) := by decide +kernel
set_option maxRecDepth 20000 in
theorem ggX5_secret_X5_requireCell : GoodIn wsX5_secret wsX5_requireCell := goodIn_ca (goodIn_r _ [7, 8, 9, 10, 11, 12, 13, 14, 15, 16, 17, 18, 19, 6, 20, 21, 22, 23, 24, 25, 26, 97, 98, 99, 100, 101, 102, 103, 104, 105, 106, 107, 108, 109, 110] (by decide +kernel) (by decide +kernel)) (goodIn_sub (fun _ h => List.mem_cons_of_mem _ (List.mem_append_right _ h)) (by decide +kernel))
set_option maxRecDepth 20000 in
theorem gX5_secret_X5_requireCell : GoodIn wsX5_secret (wsV RX5 80 RX5 yX5_requireCell wsX5_requireCell) := goodIn_app (goodIn_of _ (by decide +kernel)) ggX5_secret_X5_requireCell
set_option maxRecDepth 20000 in
theorem ggX5_secret_X5_loadHidden : GoodIn wsX5_secret wsX5_loadHidden := goodIn_r _ [30, 2, 31, 32, 10, 11, 1, 33, 34, 35, 36, 37, 38, 39, 40, 41, 42, 43, 44, 45, 46, 47, 25, 6, 26, 48, 49, 50, 51, 52, 53, 54, 15, 55, 17, 56, 57, 58, 59, 60, 61, 62, 63, 64, 65, 66, 67, 68, 69, 70, 71, 72, 73, 74, 75, 76, 77, 78, 79, 80, 81, 82, 83, 84, 85, 86, 87, 88, 89, 90, 91, 92, 97, 98, 99, 100, 101, 102, 103, 104, 105, 106, 107, 108, 109, 110, 111, 112, 113, 114, 115, 116, 117, 118, 119, 120] (by decide +kernel) (by decide +kernel)
set_option maxRecDepth 20000 in
theorem gX5_secret_X5_loadHidden : GoodIn wsX5_secret (wsV RX5 134 RX5 yX5_loadHidden wsX5_loadHidden) := goodIn_app (goodIn_of _ (by decide +kernel)) ggX5_secret_X5_loadHidden
set_option maxRecDepth 20000 in
theorem ggX5_secret_X3_countHiddenSlots : GoodIn wsX5_secret wsX3_countHiddenSlots := goodIn_r _ [96, 68, 111, 112] (by decide +kernel) (by decide +kernel)
set_option maxRecDepth 20000 in
theorem gX5_secret_X3_countHiddenSlots : GoodIn wsX5_secret (wsV RX5 137 RX3 yX3_countHiddenSlots wsX3_countHiddenSlots) := goodIn_app (goodIn_of _ (by decide +kernel)) ggX5_secret_X3_countHiddenSlots
theorem dX5_secret_0 : decode cX5_secret 0 = .ok (.aload_n 0, 1) := by decide +kernel
theorem dX5_secret_1 : decode cX5_secret 1 = .ok (.iload_n 1, 1) := by decide +kernel
theorem dX5_secret_2 : decode cX5_secret 2 = .ok (.iload_n 2, 1) := by decide +kernel
theorem dX5_secret_3 : decode cX5_secret 3 = .ok (.iload_n 3, 1) := by decide +kernel
theorem dX5_secret_4 : decode cX5_secret 4 = .ok (.invokevirtual 80, 3) := by decide +kernel
theorem dX5_secret_7 : decode cX5_secret 7 = .ok (.istore 5, 2) := by decide +kernel
theorem dX5_secret_9 : decode cX5_secret 9 = .ok (.aload_n 0, 1) := by decide +kernel
theorem dX5_secret_10 : decode cX5_secret 10 = .ok (.getfield 49, 3) := by decide +kernel
theorem dX5_secret_13 : decode cX5_secret 13 = .ok (.iload 5, 2) := by decide +kernel
theorem dX5_secret_15 : decode cX5_secret 15 = .ok (.iload 4, 2) := by decide +kernel
theorem dX5_secret_17 : decode cX5_secret 17 = .ok (.bastore, 1) := by decide +kernel
theorem dX5_secret_18 : decode cX5_secret 18 = .ok (.aload_n 0, 1) := by decide +kernel
theorem dX5_secret_19 : decode cX5_secret 19 = .ok (.iload_n 3, 1) := by decide +kernel
theorem dX5_secret_20 : decode cX5_secret 20 = .ok (.invokevirtual 134, 3) := by decide +kernel
theorem dX5_secret_23 : decode cX5_secret 23 = .ok (.aload_n 0, 1) := by decide +kernel
theorem dX5_secret_24 : decode cX5_secret 24 = .ok (.getfield 45, 3) := by decide +kernel
theorem dX5_secret_27 : decode cX5_secret 27 = .ok (.invokevirtual 137, 3) := by decide +kernel
theorem dX5_secret_30 : decode cX5_secret 30 = .ok (.ireturn, 1) := by decide +kernel
theorem dX5_pass_0 : decode cX5_pass 0 = .ok (.iload_n 1, 1) := by decide +kernel
theorem dX5_pass_1 : decode cX5_pass 1 = .ok (.iconst 1, 1) := by decide +kernel
theorem dX5_pass_2 : decode cX5_pass 2 = .ok (.if_icmp .lt 9, 3) := by decide +kernel
theorem dX5_pass_5 : decode cX5_pass 5 = .ok (.iload_n 1, 1) := by decide +kernel
theorem dX5_pass_6 : decode cX5_pass 6 = .ok (.bipush 100, 2) := by decide +kernel
theorem dX5_pass_8 : decode cX5_pass 8 = .ok (.if_icmp .le 13, 3) := by decide +kernel
theorem dX5_pass_11 : decode cX5_pass 11 = .ok (.new 84, 3) := by decide +kernel
theorem dX5_pass_14 : decode cX5_pass 14 = .ok (.dup, 1) := by decide +kernel
theorem dX5_pass_15 : decode cX5_pass 15 = .ok (.ldc 140, 2) := by decide +kernel
theorem dX5_pass_17 : decode cX5_pass 17 = .ok (.invokespecial 88, 3) := by decide +kernel
theorem dX5_pass_20 : decode cX5_pass 20 = .ok (.athrow, 1) := by decide +kernel
theorem dX5_pass_21 : decode cX5_pass 21 = .ok (.aload_n 0, 1) := by decide +kernel
theorem dX5_pass_22 : decode cX5_pass 22 = .ok (.getfield 142, 3) := by decide +kernel
theorem dX5_pass_25 : decode cX5_pass 25 = .ok (.iload_n 1, 1) := by decide +kernel
theorem dX5_pass_26 : decode cX5_pass 26 = .ok (.iadd, 1) := by decide +kernel
theorem dX5_pass_27 : decode cX5_pass 27 = .ok (.sipush 1000, 3) := by decide +kernel
theorem dX5_pass_30 : decode cX5_pass 30 = .ok (.if_icmp .le 13, 3) := by decide +kernel
theorem dX5_pass_33 : decode cX5_pass 33 = .ok (.new 99, 3) := by decide +kernel
theorem dX5_pass_36 : decode cX5_pass 36 = .ok (.dup, 1) := by decide +kernel
theorem dX5_pass_37 : decode cX5_pass 37 = .ok (.ldc 145, 2) := by decide +kernel
theorem dX5_pass_39 : decode cX5_pass 39 = .ok (.invokespecial 103, 3) := by decide +kernel
theorem dX5_pass_42 : decode cX5_pass 42 = .ok (.athrow, 1) := by decide +kernel
theorem dX5_pass_43 : decode cX5_pass 43 = .ok (.aload_n 0, 1) := by decide +kernel
theorem dX5_pass_44 : decode cX5_pass 44 = .ok (.dup, 1) := by decide +kernel
theorem dX5_pass_45 : decode cX5_pass 45 = .ok (.getfield 142, 3) := by decide +kernel
theorem dX5_pass_48 : decode cX5_pass 48 = .ok (.iload_n 1, 1) := by decide +kernel
theorem dX5_pass_49 : decode cX5_pass 49 = .ok (.iadd, 1) := by decide +kernel
theorem dX5_pass_50 : decode cX5_pass 50 = .ok (.putfield 142, 3) := by decide +kernel
theorem dX5_pass_53 : decode cX5_pass 53 = .ok (.aload_n 0, 1) := by decide +kernel
theorem dX5_pass_54 : decode cX5_pass 54 = .ok (.getfield 142, 3) := by decide +kernel
theorem dX5_pass_57 : decode cX5_pass 57 = .ok (.ireturn, 1) := by decide +kernel
set_option maxRecDepth 20000 in
theorem ggX5_figure_X5_requireCell : GoodIn wsX5_figure wsX5_requireCell := goodIn_ca (goodIn_r _ [6, 7, 8, 9, 10, 11, 12, 13, 14, 15, 16, 17, 18, 5, 19, 20, 21, 22, 23, 24, 25, 43, 44, 45, 46, 47, 48, 49, 50, 51, 52, 53, 54, 55, 56] (by decide +kernel) (by decide +kernel)) (goodIn_sub (fun _ h => List.mem_cons_of_mem _ (List.mem_append_left _ (List.mem_append_right _ h))) (by decide +kernel))
set_option maxRecDepth 20000 in
theorem gX5_figure_X5_requireCell : GoodIn wsX5_figure (wsV RX5 80 RX5 yX5_requireCell wsX5_requireCell) := goodIn_app (goodIn_of _ (by decide +kernel)) ggX5_figure_X5_requireCell
set_option maxRecDepth 20000 in
theorem ggX5_figure_X5_requireDay : GoodIn wsX5_figure wsX5_requireDay := goodIn_ca (goodIn_r _ [29, 30, 31, 32, 43, 44, 45, 46, 47, 48, 49, 50, 51, 52, 53] (by decide +kernel) (by decide +kernel)) (goodIn_sub (fun _ h => List.mem_cons_of_mem _ (List.mem_append_right _ h)) (by decide +kernel))
set_option maxRecDepth 20000 in
theorem gX5_figure_X5_requireDay : GoodIn wsX5_figure (wsV RX5 147 RX5 yX5_requireDay wsX5_requireDay) := goodIn_app (goodIn_of _ (by decide +kernel)) ggX5_figure_X5_requireDay
set_option maxRecDepth 20000 in
theorem ggX5_figure_X1_figureOn : GoodIn wsX5_figure wsX1_figureOn := goodIn_r _ [37, 38, 39, 40, 41, 42, 57, 58, 59, 60, 61, 62, 63, 64] (by decide +kernel) (by decide +kernel)
set_option maxRecDepth 20000 in
theorem gX5_figure_X1_figureOn : GoodIn wsX5_figure (wsV RX5 150 RX1 yX1_figureOn wsX1_figureOn) := goodIn_app (goodIn_of _ (by decide +kernel)) ggX5_figure_X1_figureOn
theorem dX5_figure_0 : decode cX5_figure 0 = .ok (.aload_n 0, 1) := by decide +kernel
theorem dX5_figure_1 : decode cX5_figure 1 = .ok (.iload_n 1, 1) := by decide +kernel
theorem dX5_figure_2 : decode cX5_figure 2 = .ok (.iload_n 2, 1) := by decide +kernel
theorem dX5_figure_3 : decode cX5_figure 3 = .ok (.iload_n 3, 1) := by decide +kernel
theorem dX5_figure_4 : decode cX5_figure 4 = .ok (.invokevirtual 80, 3) := by decide +kernel
theorem dX5_figure_7 : decode cX5_figure 7 = .ok (.istore 5, 2) := by decide +kernel
theorem dX5_figure_9 : decode cX5_figure 9 = .ok (.aload_n 0, 1) := by decide +kernel
theorem dX5_figure_10 : decode cX5_figure 10 = .ok (.iload 4, 2) := by decide +kernel
theorem dX5_figure_12 : decode cX5_figure 12 = .ok (.invokevirtual 147, 3) := by decide +kernel
theorem dX5_figure_15 : decode cX5_figure 15 = .ok (.aload_n 0, 1) := by decide +kernel
theorem dX5_figure_16 : decode cX5_figure 16 = .ok (.getfield 38, 3) := by decide +kernel
theorem dX5_figure_19 : decode cX5_figure 19 = .ok (.iload 5, 2) := by decide +kernel
theorem dX5_figure_21 : decode cX5_figure 21 = .ok (.iload 4, 2) := by decide +kernel
theorem dX5_figure_23 : decode cX5_figure 23 = .ok (.invokevirtual 150, 3) := by decide +kernel
theorem dX5_figure_26 : decode cX5_figure 26 = .ok (.ireturn, 1) := by decide +kernel
set_option maxRecDepth 20000 in
theorem ggX5_value_X5_requireCell : GoodIn wsX5_value wsX5_requireCell := goodIn_ca (goodIn_r _ [9, 10, 11, 3, 4, 12, 13, 14, 15, 16, 17, 18, 19, 8, 20, 21, 22, 23, 24, 25, 26, 66, 67, 68, 69, 70, 71, 72, 73, 74, 75, 76, 77, 78, 79] (by decide +kernel) (by decide +kernel)) (goodIn_sub (fun _ h => List.mem_cons_of_mem _ (List.mem_append_left _ (List.mem_append_right _ h))) (by decide +kernel))
set_option maxRecDepth 20000 in
theorem gX5_value_X5_requireCell : GoodIn wsX5_value (wsV RX5 80 RX5 yX5_requireCell wsX5_requireCell) := goodIn_app (goodIn_of _ (by decide +kernel)) ggX5_value_X5_requireCell
set_option maxRecDepth 20000 in
theorem ggX5_value_X5_requireDay : GoodIn wsX5_value wsX5_requireDay := goodIn_ca (goodIn_r _ [30, 31, 32, 33, 66, 67, 68, 69, 70, 71, 72, 73, 74, 75, 76] (by decide +kernel) (by decide +kernel)) (goodIn_sub (fun _ h => List.mem_cons_of_mem _ (List.mem_append_right _ h)) (by decide +kernel))
set_option maxRecDepth 20000 in
theorem gX5_value_X5_requireDay : GoodIn wsX5_value (wsV RX5 147 RX5 yX5_requireDay wsX5_requireDay) := goodIn_app (goodIn_of _ (by decide +kernel)) ggX5_value_X5_requireDay
set_option maxRecDepth 20000 in
theorem ggX5_value_X3_load : GoodIn wsX5_value wsX3_load := goodIn_r _ [38, 39, 40, 41, 42, 43, 37, 44, 45, 46, 47, 48, 25, 8, 26, 49, 50, 51, 52, 53, 54, 55, 15, 56, 17, 57, 58, 59, 60, 61, 62, 63, 64, 77, 78, 79, 80, 81, 82, 83, 84, 85, 86, 87, 88, 89] (by decide +kernel) (by decide +kernel)
set_option maxRecDepth 20000 in
theorem gX5_value_X3_load : GoodIn wsX5_value (wsV RX5 154 RX3 yX3_load wsX3_load) := goodIn_app (goodIn_of _ (by decide +kernel)) ggX5_value_X3_load
set_option maxRecDepth 20000 in
theorem ggX5_value_X5_slotOf : GoodIn wsX5_value wsX5_slotOf := goodIn_r _ [26] (by decide +kernel) (by decide +kernel)
set_option maxRecDepth 20000 in
theorem gX5_value_X5_slotOf : GoodIn wsX5_value (va_wsS RX5 158 yX5_slotOf wsX5_slotOf) := goodIn_app (goodIn_of _ (by decide +kernel)) ggX5_value_X5_slotOf
set_option maxRecDepth 20000 in
theorem ggX5_value_X3_valueAt : GoodIn wsX5_value wsX3_valueAt := goodIn_r _ [64, 39, 40, 80, 81] (by decide +kernel) (by decide +kernel)
set_option maxRecDepth 20000 in
theorem gX5_value_X3_valueAt : GoodIn wsX5_value (wsV RX5 161 RX3 yX3_valueAt wsX3_valueAt) := goodIn_app (goodIn_of _ (by decide +kernel)) ggX5_value_X3_valueAt
theorem dX5_value_0 : decode cX5_value 0 = .ok (.aload_n 0, 1) := by decide +kernel
theorem dX5_value_1 : decode cX5_value 1 = .ok (.iload_n 1, 1) := by decide +kernel
theorem dX5_value_2 : decode cX5_value 2 = .ok (.iload_n 2, 1) := by decide +kernel
theorem dX5_value_3 : decode cX5_value 3 = .ok (.iload_n 3, 1) := by decide +kernel
theorem dX5_value_4 : decode cX5_value 4 = .ok (.invokevirtual 80, 3) := by decide +kernel
theorem dX5_value_7 : decode cX5_value 7 = .ok (.pop, 1) := by decide +kernel
theorem dX5_value_8 : decode cX5_value 8 = .ok (.aload_n 0, 1) := by decide +kernel
theorem dX5_value_9 : decode cX5_value 9 = .ok (.iload 4, 2) := by decide +kernel
theorem dX5_value_11 : decode cX5_value 11 = .ok (.invokevirtual 147, 3) := by decide +kernel
theorem dX5_value_14 : decode cX5_value 14 = .ok (.aload_n 0, 1) := by decide +kernel
theorem dX5_value_15 : decode cX5_value 15 = .ok (.getfield 45, 3) := by decide +kernel
theorem dX5_value_18 : decode cX5_value 18 = .ok (.aload_n 0, 1) := by decide +kernel
theorem dX5_value_19 : decode cX5_value 19 = .ok (.getfield 38, 3) := by decide +kernel
theorem dX5_value_22 : decode cX5_value 22 = .ok (.iload_n 3, 1) := by decide +kernel
theorem dX5_value_23 : decode cX5_value 23 = .ok (.iload 4, 2) := by decide +kernel
theorem dX5_value_25 : decode cX5_value 25 = .ok (.aload_n 0, 1) := by decide +kernel
theorem dX5_value_26 : decode cX5_value 26 = .ok (.getfield 14, 3) := by decide +kernel
theorem dX5_value_29 : decode cX5_value 29 = .ok (.aload_n 0, 1) := by decide +kernel
theorem dX5_value_30 : decode cX5_value 30 = .ok (.getfield 18, 3) := by decide +kernel
theorem dX5_value_33 : decode cX5_value 33 = .ok (.invokevirtual 154, 3) := by decide +kernel
theorem dX5_value_36 : decode cX5_value 36 = .ok (.aload_n 0, 1) := by decide +kernel
theorem dX5_value_37 : decode cX5_value 37 = .ok (.getfield 45, 3) := by decide +kernel
theorem dX5_value_40 : decode cX5_value 40 = .ok (.iload_n 1, 1) := by decide +kernel
theorem dX5_value_41 : decode cX5_value 41 = .ok (.iload_n 2, 1) := by decide +kernel
theorem dX5_value_42 : decode cX5_value 42 = .ok (.invokestatic 158, 3) := by decide +kernel
theorem dX5_value_45 : decode cX5_value 45 = .ok (.invokevirtual 161, 3) := by decide +kernel
theorem dX5_value_48 : decode cX5_value 48 = .ok (.ireturn, 1) := by decide +kernel
set_option maxRecDepth 20000 in
theorem ggX5_first_X5_requireCell : GoodIn wsX5_first wsX5_requireCell := goodIn_ca (goodIn_r _ [6, 7, 8, 9, 10, 11, 12, 13, 14, 15, 16, 17, 18, 5, 19, 20, 21, 22, 23, 24, 25, 26, 27, 28, 29, 30, 31, 32, 33, 34, 35, 36, 45, 46, 47] (by decide +kernel) (by decide +kernel)) (goodIn_sub (fun _ h => List.mem_cons_of_mem _ (List.mem_append_right _ h)) (by decide +kernel))
set_option maxRecDepth 20000 in
theorem gX5_first_X5_requireCell : GoodIn wsX5_first (wsV RX5 80 RX5 yX5_requireCell wsX5_requireCell) := goodIn_app (goodIn_of _ (by decide +kernel)) ggX5_first_X5_requireCell
theorem dX5_first_0 : decode cX5_first 0 = .ok (.aload_n 0, 1) := by decide +kernel
theorem dX5_first_1 : decode cX5_first 1 = .ok (.getfield 38, 3) := by decide +kernel
theorem dX5_first_4 : decode cX5_first 4 = .ok (.getfield 164, 3) := by decide +kernel
theorem dX5_first_7 : decode cX5_first 7 = .ok (.aload_n 0, 1) := by decide +kernel
theorem dX5_first_8 : decode cX5_first 8 = .ok (.iload_n 1, 1) := by decide +kernel
theorem dX5_first_9 : decode cX5_first 9 = .ok (.iload_n 2, 1) := by decide +kernel
theorem dX5_first_10 : decode cX5_first 10 = .ok (.iload_n 3, 1) := by decide +kernel
theorem dX5_first_11 : decode cX5_first 11 = .ok (.invokevirtual 80, 3) := by decide +kernel
theorem dX5_first_14 : decode cX5_first 14 = .ok (.iaload, 1) := by decide +kernel
theorem dX5_first_15 : decode cX5_first 15 = .ok (.ireturn, 1) := by decide +kernel
set_option maxRecDepth 20000 in
theorem ggX5_revisions_X5_requireCell : GoodIn wsX5_revisions wsX5_requireCell := goodIn_ca (goodIn_r _ [6, 7, 8, 9, 10, 11, 12, 13, 14, 15, 16, 17, 18, 5, 19, 20, 21, 22, 23, 24, 25, 26, 27, 28, 29, 30, 31, 32, 33, 34, 35, 36, 45, 46, 47] (by decide +kernel) (by decide +kernel)) (goodIn_sub (fun _ h => List.mem_cons_of_mem _ (List.mem_append_right _ h)) (by decide +kernel))
set_option maxRecDepth 20000 in
theorem gX5_revisions_X5_requireCell : GoodIn wsX5_revisions (wsV RX5 80 RX5 yX5_requireCell wsX5_requireCell) := goodIn_app (goodIn_of _ (by decide +kernel)) ggX5_revisions_X5_requireCell
theorem dX5_revisions_0 : decode cX5_revisions 0 = .ok (.aload_n 0, 1) := by decide +kernel
theorem dX5_revisions_1 : decode cX5_revisions 1 = .ok (.getfield 38, 3) := by decide +kernel
theorem dX5_revisions_4 : decode cX5_revisions 4 = .ok (.getfield 167, 3) := by decide +kernel
theorem dX5_revisions_7 : decode cX5_revisions 7 = .ok (.aload_n 0, 1) := by decide +kernel
theorem dX5_revisions_8 : decode cX5_revisions 8 = .ok (.iload_n 1, 1) := by decide +kernel
theorem dX5_revisions_9 : decode cX5_revisions 9 = .ok (.iload_n 2, 1) := by decide +kernel
theorem dX5_revisions_10 : decode cX5_revisions 10 = .ok (.iload_n 3, 1) := by decide +kernel
theorem dX5_revisions_11 : decode cX5_revisions 11 = .ok (.invokevirtual 80, 3) := by decide +kernel
theorem dX5_revisions_14 : decode cX5_revisions 14 = .ok (.iaload, 1) := by decide +kernel
theorem dX5_revisions_15 : decode cX5_revisions 15 = .ok (.ireturn, 1) := by decide +kernel
set_option maxRecDepth 20000 in
theorem ggX5_hasFault_X5_requireCell : GoodIn wsX5_hasFault wsX5_requireCell := goodIn_ca (goodIn_r _ [11, 12, 13, 5, 6, 14, 15, 16, 17, 18, 19, 20, 21, 10, 22, 23, 24, 25, 26, 27, 28, 64, 65, 66, 67, 68, 69, 70, 71, 72, 73, 74, 83, 84, 85] (by decide +kernel) (by decide +kernel)) (goodIn_sub (fun _ h => List.mem_cons_of_mem _ (List.mem_append_right _ h)) (by decide +kernel))
set_option maxRecDepth 20000 in
theorem gX5_hasFault_X5_requireCell : GoodIn wsX5_hasFault (wsV RX5 80 RX5 yX5_requireCell wsX5_requireCell) := goodIn_app (goodIn_of _ (by decide +kernel)) ggX5_hasFault_X5_requireCell
set_option maxRecDepth 20000 in
theorem ggX5_hasFault_X3_load : GoodIn wsX5_hasFault wsX3_load := goodIn_r _ [33, 34, 35, 36, 37, 38, 32, 39, 40, 41, 42, 43, 27, 10, 28, 44, 45, 46, 47, 48, 49, 50, 17, 51, 19, 52, 53, 54, 55, 56, 57, 58, 59, 83, 84, 85, 86, 87, 75, 76, 77, 78, 79, 80, 81, 82] (by decide +kernel) (by decide +kernel)
set_option maxRecDepth 20000 in
theorem gX5_hasFault_X3_load : GoodIn wsX5_hasFault (wsV RX5 154 RX3 yX3_load wsX3_load) := goodIn_app (goodIn_of _ (by decide +kernel)) ggX5_hasFault_X3_load
set_option maxRecDepth 20000 in
theorem ggX5_hasFault_X5_slotOf : GoodIn wsX5_hasFault wsX5_slotOf := goodIn_r _ [28] (by decide +kernel) (by decide +kernel)
set_option maxRecDepth 20000 in
theorem gX5_hasFault_X5_slotOf : GoodIn wsX5_hasFault (va_wsS RX5 158 yX5_slotOf wsX5_slotOf) := goodIn_app (goodIn_of _ (by decide +kernel)) ggX5_hasFault_X5_slotOf
set_option maxRecDepth 20000 in
theorem ggX5_hasFault_X3_sumRightIn : GoodIn wsX5_hasFault wsX3_sumRightIn := goodIn_r _ [47, 35, 48, 49, 50, 17, 51, 19, 52, 53, 54, 32, 55, 56, 57, 58, 59, 34, 83, 84, 85, 86, 87] (by decide +kernel) (by decide +kernel)
set_option maxRecDepth 20000 in
theorem gX5_hasFault_X3_sumRightIn : GoodIn wsX5_hasFault (wsV RX5 174 RX3 yX3_sumRightIn wsX3_sumRightIn) := goodIn_app (goodIn_of _ (by decide +kernel)) ggX5_hasFault_X3_sumRightIn
set_option maxRecDepth 20000 in
theorem ggX5_hasFault_X5_isOtherSum : GoodIn wsX5_hasFault wsX5_isOtherSum := goodIn_r _ [63, 2] (by decide +kernel) (by decide +kernel)
set_option maxRecDepth 20000 in
theorem gX5_hasFault_X5_isOtherSum : GoodIn wsX5_hasFault (va_wsS RX5 178 yX5_isOtherSum wsX5_isOtherSum) := goodIn_app (goodIn_of _ (by decide +kernel)) ggX5_hasFault_X5_isOtherSum
theorem dX5_hasFault_0 : decode cX5_hasFault 0 = .ok (.aload_n 0, 1) := by decide +kernel
theorem dX5_hasFault_1 : decode cX5_hasFault 1 = .ok (.getfield 38, 3) := by decide +kernel
theorem dX5_hasFault_4 : decode cX5_hasFault 4 = .ok (.getfield 170, 3) := by decide +kernel
theorem dX5_hasFault_7 : decode cX5_hasFault 7 = .ok (.aload_n 0, 1) := by decide +kernel
theorem dX5_hasFault_8 : decode cX5_hasFault 8 = .ok (.iload_n 1, 1) := by decide +kernel
theorem dX5_hasFault_9 : decode cX5_hasFault 9 = .ok (.iload_n 2, 1) := by decide +kernel
theorem dX5_hasFault_10 : decode cX5_hasFault 10 = .ok (.iload_n 3, 1) := by decide +kernel
theorem dX5_hasFault_11 : decode cX5_hasFault 11 = .ok (.invokevirtual 80, 3) := by decide +kernel
theorem dX5_hasFault_14 : decode cX5_hasFault 14 = .ok (.iaload, 1) := by decide +kernel
theorem dX5_hasFault_15 : decode cX5_hasFault 15 = .ok (.istore 4, 2) := by decide +kernel
theorem dX5_hasFault_17 : decode cX5_hasFault 17 = .ok (.iload 4, 2) := by decide +kernel
theorem dX5_hasFault_19 : decode cX5_hasFault 19 = .ok (.ldc 173, 2) := by decide +kernel
theorem dX5_hasFault_21 : decode cX5_hasFault 21 = .ok (.if_icmp .ne 5, 3) := by decide +kernel
theorem dX5_hasFault_24 : decode cX5_hasFault 24 = .ok (.iconst 0, 1) := by decide +kernel
theorem dX5_hasFault_25 : decode cX5_hasFault 25 = .ok (.ireturn, 1) := by decide +kernel
theorem dX5_hasFault_26 : decode cX5_hasFault 26 = .ok (.aload_n 0, 1) := by decide +kernel
theorem dX5_hasFault_27 : decode cX5_hasFault 27 = .ok (.getfield 45, 3) := by decide +kernel
theorem dX5_hasFault_30 : decode cX5_hasFault 30 = .ok (.aload_n 0, 1) := by decide +kernel
theorem dX5_hasFault_31 : decode cX5_hasFault 31 = .ok (.getfield 38, 3) := by decide +kernel
theorem dX5_hasFault_34 : decode cX5_hasFault 34 = .ok (.iload_n 3, 1) := by decide +kernel
theorem dX5_hasFault_35 : decode cX5_hasFault 35 = .ok (.aload_n 0, 1) := by decide +kernel
theorem dX5_hasFault_36 : decode cX5_hasFault 36 = .ok (.getfield 142, 3) := by decide +kernel
theorem dX5_hasFault_39 : decode cX5_hasFault 39 = .ok (.aload_n 0, 1) := by decide +kernel
theorem dX5_hasFault_40 : decode cX5_hasFault 40 = .ok (.getfield 14, 3) := by decide +kernel
theorem dX5_hasFault_43 : decode cX5_hasFault 43 = .ok (.aload_n 0, 1) := by decide +kernel
theorem dX5_hasFault_44 : decode cX5_hasFault 44 = .ok (.getfield 18, 3) := by decide +kernel
theorem dX5_hasFault_47 : decode cX5_hasFault 47 = .ok (.invokevirtual 154, 3) := by decide +kernel
theorem dX5_hasFault_50 : decode cX5_hasFault 50 = .ok (.iload_n 1, 1) := by decide +kernel
theorem dX5_hasFault_51 : decode cX5_hasFault 51 = .ok (.iload_n 2, 1) := by decide +kernel
theorem dX5_hasFault_52 : decode cX5_hasFault 52 = .ok (.invokestatic 158, 3) := by decide +kernel
theorem dX5_hasFault_55 : decode cX5_hasFault 55 = .ok (.istore 5, 2) := by decide +kernel
theorem dX5_hasFault_57 : decode cX5_hasFault 57 = .ok (.aload_n 0, 1) := by decide +kernel
theorem dX5_hasFault_58 : decode cX5_hasFault 58 = .ok (.getfield 45, 3) := by decide +kernel
theorem dX5_hasFault_61 : decode cX5_hasFault 61 = .ok (.aload_n 0, 1) := by decide +kernel
theorem dX5_hasFault_62 : decode cX5_hasFault 62 = .ok (.getfield 14, 3) := by decide +kernel
theorem dX5_hasFault_65 : decode cX5_hasFault 65 = .ok (.iload_n 1, 1) := by decide +kernel
theorem dX5_hasFault_66 : decode cX5_hasFault 66 = .ok (.iload 5, 2) := by decide +kernel
theorem dX5_hasFault_68 : decode cX5_hasFault 68 = .ok (.invokevirtual 174, 3) := by decide +kernel
theorem dX5_hasFault_71 : decode cX5_hasFault 71 = .ok (.iload 4, 2) := by decide +kernel
theorem dX5_hasFault_73 : decode cX5_hasFault 73 = .ok (.invokestatic 178, 3) := by decide +kernel
theorem dX5_hasFault_76 : decode cX5_hasFault 76 = .ok (.ifCond .ne 25, 3) := by decide +kernel
theorem dX5_hasFault_79 : decode cX5_hasFault 79 = .ok (.aload_n 0, 1) := by decide +kernel
theorem dX5_hasFault_80 : decode cX5_hasFault 80 = .ok (.getfield 45, 3) := by decide +kernel
theorem dX5_hasFault_83 : decode cX5_hasFault 83 = .ok (.aload_n 0, 1) := by decide +kernel
theorem dX5_hasFault_84 : decode cX5_hasFault 84 = .ok (.getfield 18, 3) := by decide +kernel
theorem dX5_hasFault_87 : decode cX5_hasFault 87 = .ok (.iload_n 2, 1) := by decide +kernel
theorem dX5_hasFault_88 : decode cX5_hasFault 88 = .ok (.iload 5, 2) := by decide +kernel
theorem dX5_hasFault_90 : decode cX5_hasFault 90 = .ok (.invokevirtual 174, 3) := by decide +kernel
theorem dX5_hasFault_93 : decode cX5_hasFault 93 = .ok (.iload 4, 2) := by decide +kernel
theorem dX5_hasFault_95 : decode cX5_hasFault 95 = .ok (.invokestatic 178, 3) := by decide +kernel
theorem dX5_hasFault_98 : decode cX5_hasFault 98 = .ok (.ifCond .eq 7, 3) := by decide +kernel
theorem dX5_hasFault_101 : decode cX5_hasFault 101 = .ok (.iconst 1, 1) := by decide +kernel
theorem dX5_hasFault_102 : decode cX5_hasFault 102 = .ok (.goto 4, 3) := by decide +kernel
theorem dX5_hasFault_105 : decode cX5_hasFault 105 = .ok (.iconst 0, 1) := by decide +kernel
theorem dX5_hasFault_106 : decode cX5_hasFault 106 = .ok (.ireturn, 1) := by decide +kernel
set_option maxRecDepth 20000 in
theorem ggX5_shown_X5_requireCell : GoodIn wsX5_shown wsX5_requireCell := goodIn_ca (goodIn_r _ [7, 8, 9, 10, 11, 12, 13, 14, 15, 16, 17, 18, 19, 6, 20, 21, 22, 23, 24, 25, 26, 96, 97, 98, 99, 100, 101, 102, 103, 104, 105, 106, 107, 108, 109] (by decide +kernel) (by decide +kernel)) (goodIn_sub (fun _ h => List.mem_cons_of_mem _ (List.mem_append_right _ h)) (by decide +kernel))
set_option maxRecDepth 20000 in
theorem gX5_shown_X5_requireCell : GoodIn wsX5_shown (wsV RX5 80 RX5 yX5_requireCell wsX5_requireCell) := goodIn_app (goodIn_of _ (by decide +kernel)) ggX5_shown_X5_requireCell
set_option maxRecDepth 20000 in
theorem ggX5_shown_X5_loadHidden : GoodIn wsX5_shown wsX5_loadHidden := goodIn_r _ [30, 1, 31, 32, 10, 11, 33, 34, 35, 36, 37, 38, 39, 40, 41, 42, 43, 44, 45, 46, 47, 48, 25, 6, 26, 49, 50, 51, 52, 53, 54, 55, 15, 56, 17, 57, 58, 59, 60, 61, 62, 63, 64, 65, 66, 67, 68, 69, 70, 71, 72, 73, 74, 75, 76, 77, 78, 79, 80, 81, 82, 83, 84, 85, 86, 87, 88, 89, 90, 91, 92, 93, 96, 97, 98, 99, 100, 101, 102, 103, 104, 105, 106, 107, 108, 109, 110, 111, 112, 113, 114, 115, 116, 117, 118, 119] (by decide +kernel) (by decide +kernel)
set_option maxRecDepth 20000 in
theorem gX5_shown_X5_loadHidden : GoodIn wsX5_shown (wsV RX5 134 RX5 yX5_loadHidden wsX5_loadHidden) := goodIn_app (goodIn_of _ (by decide +kernel)) ggX5_shown_X5_loadHidden
set_option maxRecDepth 20000 in
theorem ggX5_shown_X5_slotOf : GoodIn wsX5_shown wsX5_slotOf := goodIn_r _ [26] (by decide +kernel) (by decide +kernel)
set_option maxRecDepth 20000 in
theorem gX5_shown_X5_slotOf : GoodIn wsX5_shown (va_wsS RX5 158 yX5_slotOf wsX5_slotOf) := goodIn_app (goodIn_of _ (by decide +kernel)) ggX5_shown_X5_slotOf
set_option maxRecDepth 20000 in
theorem ggX5_shown_X3_isHidden : GoodIn wsX5_shown wsX3_isHidden := goodIn_r _ [85, 69, 110, 111] (by decide +kernel) (by decide +kernel)
set_option maxRecDepth 20000 in
theorem gX5_shown_X3_isHidden : GoodIn wsX5_shown (wsV RX5 182 RX3 yX3_isHidden wsX3_isHidden) := goodIn_app (goodIn_of _ (by decide +kernel)) ggX5_shown_X3_isHidden
set_option maxRecDepth 20000 in
theorem ggX5_shown_X3_valueAt : GoodIn wsX5_shown wsX3_valueAt := goodIn_r _ [64, 39, 40, 110, 111] (by decide +kernel) (by decide +kernel)
set_option maxRecDepth 20000 in
theorem gX5_shown_X3_valueAt : GoodIn wsX5_shown (wsV RX5 161 RX3 yX3_valueAt wsX3_valueAt) := goodIn_app (goodIn_of _ (by decide +kernel)) ggX5_shown_X3_valueAt
theorem dX5_shown_0 : decode cX5_shown 0 = .ok (.aload_n 0, 1) := by decide +kernel
theorem dX5_shown_1 : decode cX5_shown 1 = .ok (.iload_n 1, 1) := by decide +kernel
theorem dX5_shown_2 : decode cX5_shown 2 = .ok (.iload_n 2, 1) := by decide +kernel
theorem dX5_shown_3 : decode cX5_shown 3 = .ok (.iload_n 3, 1) := by decide +kernel
theorem dX5_shown_4 : decode cX5_shown 4 = .ok (.invokevirtual 80, 3) := by decide +kernel
theorem dX5_shown_7 : decode cX5_shown 7 = .ok (.pop, 1) := by decide +kernel
theorem dX5_shown_8 : decode cX5_shown 8 = .ok (.aload_n 0, 1) := by decide +kernel
theorem dX5_shown_9 : decode cX5_shown 9 = .ok (.iload_n 3, 1) := by decide +kernel
theorem dX5_shown_10 : decode cX5_shown 10 = .ok (.invokevirtual 134, 3) := by decide +kernel
theorem dX5_shown_13 : decode cX5_shown 13 = .ok (.iload_n 1, 1) := by decide +kernel
theorem dX5_shown_14 : decode cX5_shown 14 = .ok (.iload_n 2, 1) := by decide +kernel
theorem dX5_shown_15 : decode cX5_shown 15 = .ok (.invokestatic 158, 3) := by decide +kernel
theorem dX5_shown_18 : decode cX5_shown 18 = .ok (.istore 4, 2) := by decide +kernel
theorem dX5_shown_20 : decode cX5_shown 20 = .ok (.aload_n 0, 1) := by decide +kernel
theorem dX5_shown_21 : decode cX5_shown 21 = .ok (.getfield 45, 3) := by decide +kernel
theorem dX5_shown_24 : decode cX5_shown 24 = .ok (.iload 4, 2) := by decide +kernel
theorem dX5_shown_26 : decode cX5_shown 26 = .ok (.invokevirtual 182, 3) := by decide +kernel
theorem dX5_shown_29 : decode cX5_shown 29 = .ok (.ifCond .eq 8, 3) := by decide +kernel
theorem dX5_shown_32 : decode cX5_shown 32 = .ok (.ldc 186, 2) := by decide +kernel
theorem dX5_shown_34 : decode cX5_shown 34 = .ok (.goto 12, 3) := by decide +kernel
theorem dX5_shown_37 : decode cX5_shown 37 = .ok (.aload_n 0, 1) := by decide +kernel
theorem dX5_shown_38 : decode cX5_shown 38 = .ok (.getfield 45, 3) := by decide +kernel
theorem dX5_shown_41 : decode cX5_shown 41 = .ok (.iload 4, 2) := by decide +kernel
theorem dX5_shown_43 : decode cX5_shown 43 = .ok (.invokevirtual 161, 3) := by decide +kernel
theorem dX5_shown_46 : decode cX5_shown 46 = .ok (.ireturn, 1) := by decide +kernel
set_option maxRecDepth 20000 in
theorem ggX5_hidden_X5_isPeriod : GoodIn wsX5_hidden wsX5_isPeriod := goodIn_r _ [7] (by decide +kernel) (by decide +kernel)
set_option maxRecDepth 20000 in
theorem gX5_hidden_X5_isPeriod : GoodIn wsX5_hidden (va_wsS RX5 187 yX5_isPeriod wsX5_isPeriod) := goodIn_app (goodIn_of _ (by decide +kernel)) ggX5_hidden_X5_isPeriod
set_option maxRecDepth 20000 in
theorem ggX5_hidden_X5_loadHidden : GoodIn wsX5_hidden wsX5_loadHidden := goodIn_r _ [11, 3, 12, 13, 14, 15, 16, 17, 18, 19, 20, 21, 22, 23, 24, 25, 26, 27, 28, 29, 30, 31, 32, 6, 33, 34, 35, 36, 37, 38, 39, 40, 41, 42, 43, 44, 45, 46, 47, 48, 49, 50, 51, 52, 53, 54, 55, 56, 57, 58, 59, 60, 61, 62, 63, 64, 65, 66, 67, 68, 69, 70, 71, 72, 73, 74, 75, 76, 77, 78, 79, 80, 85, 86, 87, 88, 89, 90, 91, 92, 93, 94, 95, 96, 97, 98, 99, 100, 101, 102, 103, 104, 105, 106, 107, 108] (by decide +kernel) (by decide +kernel)
set_option maxRecDepth 20000 in
theorem gX5_hidden_X5_loadHidden : GoodIn wsX5_hidden (wsV RX5 134 RX5 yX5_loadHidden wsX5_loadHidden) := goodIn_app (goodIn_of _ (by decide +kernel)) ggX5_hidden_X5_loadHidden
set_option maxRecDepth 20000 in
theorem ggX5_hidden_X3_countHiddenSlots : GoodIn wsX5_hidden wsX3_countHiddenSlots := goodIn_r _ [84, 56, 99, 100] (by decide +kernel) (by decide +kernel)
set_option maxRecDepth 20000 in
theorem gX5_hidden_X3_countHiddenSlots : GoodIn wsX5_hidden (wsV RX5 137 RX3 yX3_countHiddenSlots wsX3_countHiddenSlots) := goodIn_app (goodIn_of _ (by decide +kernel)) ggX5_hidden_X3_countHiddenSlots
theorem dX5_hidden_0 : decode cX5_hidden 0 = .ok (.iload_n 1, 1) := by decide +kernel
theorem dX5_hidden_1 : decode cX5_hidden 1 = .ok (.invokestatic 187, 3) := by decide +kernel
theorem dX5_hidden_4 : decode cX5_hidden 4 = .ok (.ifCond .ne 13, 3) := by decide +kernel
theorem dX5_hidden_7 : decode cX5_hidden 7 = .ok (.new 129, 3) := by decide +kernel
theorem dX5_hidden_10 : decode cX5_hidden 10 = .ok (.dup, 1) := by decide +kernel
theorem dX5_hidden_11 : decode cX5_hidden 11 = .ok (.ldc 190, 2) := by decide +kernel
theorem dX5_hidden_13 : decode cX5_hidden 13 = .ok (.invokespecial 133, 3) := by decide +kernel
theorem dX5_hidden_16 : decode cX5_hidden 16 = .ok (.athrow, 1) := by decide +kernel
theorem dX5_hidden_17 : decode cX5_hidden 17 = .ok (.aload_n 0, 1) := by decide +kernel
theorem dX5_hidden_18 : decode cX5_hidden 18 = .ok (.iload_n 1, 1) := by decide +kernel
theorem dX5_hidden_19 : decode cX5_hidden 19 = .ok (.invokevirtual 134, 3) := by decide +kernel
theorem dX5_hidden_22 : decode cX5_hidden 22 = .ok (.aload_n 0, 1) := by decide +kernel
theorem dX5_hidden_23 : decode cX5_hidden 23 = .ok (.getfield 45, 3) := by decide +kernel
theorem dX5_hidden_26 : decode cX5_hidden 26 = .ok (.invokevirtual 137, 3) := by decide +kernel
theorem dX5_hidden_29 : decode cX5_hidden 29 = .ok (.ireturn, 1) := by decide +kernel
set_option maxRecDepth 20000 in
theorem ggX5_find_X5_requirePattern : GoodIn wsX5_find wsX5_requirePattern := goodIn_ca (goodIn_r _ [10, 1, 2, 11, 12, 13, 14, 15, 16, 56, 57, 58] (by decide +kernel) (by decide +kernel)) (goodIn_sub (fun _ h => List.mem_cons_of_mem _ (List.mem_append_left _ (List.mem_append_right _ h))) (by decide +kernel))
set_option maxRecDepth 20000 in
theorem gX5_find_X5_requirePattern : GoodIn wsX5_find (va_wsS RX5 57 yX5_requirePattern wsX5_requirePattern) := goodIn_app (goodIn_of _ (by decide +kernel)) ggX5_find_X5_requirePattern
set_option maxRecDepth 20000 in
theorem ggX5_find_X5_isPeriod : GoodIn wsX5_find wsX5_isPeriod := goodIn_r _ [19] (by decide +kernel) (by decide +kernel)
set_option maxRecDepth 20000 in
theorem gX5_find_X5_isPeriod : GoodIn wsX5_find (va_wsS RX5 187 yX5_isPeriod wsX5_isPeriod) := goodIn_app (goodIn_of _ (by decide +kernel)) ggX5_find_X5_isPeriod
set_option maxRecDepth 20000 in
theorem ggX5_find_X5_matchAt : GoodIn wsX5_find wsX5_matchAt := goodIn_r _ [23, 5, 6, 24, 25, 26, 9, 27, 28, 29, 30, 31, 32, 33, 34, 35, 36, 37, 38, 39, 40, 41, 14, 42, 16, 43, 44, 12, 13, 15, 45, 46, 47, 48, 49, 50, 51, 52, 53, 54, 55, 56, 57, 58, 59, 60, 61, 62, 63, 64, 65, 66] (by decide +kernel) (by decide +kernel)
set_option maxRecDepth 20000 in
theorem gX5_find_X5_matchAt : GoodIn wsX5_find (wsV RX5 198 RX5 yX5_matchAt wsX5_matchAt) := goodIn_app (goodIn_of _ (by decide +kernel)) ggX5_find_X5_matchAt
theorem dX5_find_0 : decode cX5_find 0 = .ok (.aload_n 0, 1) := by decide +kernel
theorem dX5_find_1 : decode cX5_find 1 = .ok (.getfield 14, 3) := by decide +kernel
theorem dX5_find_4 : decode cX5_find 4 = .ok (.iload_n 1, 1) := by decide +kernel
theorem dX5_find_5 : decode cX5_find 5 = .ok (.invokestatic 57, 3) := by decide +kernel
theorem dX5_find_8 : decode cX5_find 8 = .ok (.aload_n 0, 1) := by decide +kernel
theorem dX5_find_9 : decode cX5_find 9 = .ok (.getfield 18, 3) := by decide +kernel
theorem dX5_find_12 : decode cX5_find 12 = .ok (.iload_n 2, 1) := by decide +kernel
theorem dX5_find_13 : decode cX5_find 13 = .ok (.invokestatic 57, 3) := by decide +kernel
theorem dX5_find_16 : decode cX5_find 16 = .ok (.iload 6, 2) := by decide +kernel
theorem dX5_find_18 : decode cX5_find 18 = .ok (.ifCond .ge 13, 3) := by decide +kernel
theorem dX5_find_21 : decode cX5_find 21 = .ok (.new 129, 3) := by decide +kernel
theorem dX5_find_24 : decode cX5_find 24 = .ok (.dup, 1) := by decide +kernel
theorem dX5_find_25 : decode cX5_find 25 = .ok (.ldc 192, 2) := by decide +kernel
theorem dX5_find_27 : decode cX5_find 27 = .ok (.invokespecial 133, 3) := by decide +kernel
theorem dX5_find_30 : decode cX5_find 30 = .ok (.athrow, 1) := by decide +kernel
theorem dX5_find_31 : decode cX5_find 31 = .ok (.iload_n 3, 1) := by decide +kernel
theorem dX5_find_32 : decode cX5_find 32 = .ok (.invokestatic 187, 3) := by decide +kernel
theorem dX5_find_35 : decode cX5_find 35 = .ok (.ifCond .eq 17, 3) := by decide +kernel
theorem dX5_find_38 : decode cX5_find 38 = .ok (.iload 4, 2) := by decide +kernel
theorem dX5_find_40 : decode cX5_find 40 = .ok (.invokestatic 187, 3) := by decide +kernel
theorem dX5_find_43 : decode cX5_find 43 = .ok (.ifCond .eq 9, 3) := by decide +kernel
theorem dX5_find_46 : decode cX5_find 46 = .ok (.iload 4, 2) := by decide +kernel
theorem dX5_find_48 : decode cX5_find 48 = .ok (.iload_n 3, 1) := by decide +kernel
theorem dX5_find_49 : decode cX5_find 49 = .ok (.if_icmp .ge 13, 3) := by decide +kernel
theorem dX5_find_52 : decode cX5_find 52 = .ok (.new 84, 3) := by decide +kernel
theorem dX5_find_55 : decode cX5_find 55 = .ok (.dup, 1) := by decide +kernel
theorem dX5_find_56 : decode cX5_find 56 = .ok (.ldc 194, 2) := by decide +kernel
theorem dX5_find_58 : decode cX5_find 58 = .ok (.invokespecial 88, 3) := by decide +kernel
theorem dX5_find_61 : decode cX5_find 61 = .ok (.athrow, 1) := by decide +kernel
theorem dX5_find_62 : decode cX5_find 62 = .ok (.iload 5, 2) := by decide +kernel
theorem dX5_find_64 : decode cX5_find 64 = .ok (.ifCond .lt 11, 3) := by decide +kernel
theorem dX5_find_67 : decode cX5_find 67 = .ok (.iload 5, 2) := by decide +kernel
theorem dX5_find_69 : decode cX5_find 69 = .ok (.sipush 1000, 3) := by decide +kernel
theorem dX5_find_72 : decode cX5_find 72 = .ok (.if_icmp .le 13, 3) := by decide +kernel
theorem dX5_find_75 : decode cX5_find 75 = .ok (.new 84, 3) := by decide +kernel
theorem dX5_find_78 : decode cX5_find 78 = .ok (.dup, 1) := by decide +kernel
theorem dX5_find_79 : decode cX5_find 79 = .ok (.ldc 196, 2) := by decide +kernel
theorem dX5_find_81 : decode cX5_find 81 = .ok (.invokespecial 88, 3) := by decide +kernel
theorem dX5_find_84 : decode cX5_find 84 = .ok (.athrow, 1) := by decide +kernel
theorem dX5_find_85 : decode cX5_find 85 = .ok (.aload_n 0, 1) := by decide +kernel
theorem dX5_find_86 : decode cX5_find 86 = .ok (.iload_n 1, 1) := by decide +kernel
theorem dX5_find_87 : decode cX5_find 87 = .ok (.iload_n 2, 1) := by decide +kernel
theorem dX5_find_88 : decode cX5_find 88 = .ok (.iload_n 3, 1) := by decide +kernel
theorem dX5_find_89 : decode cX5_find 89 = .ok (.iload 4, 2) := by decide +kernel
theorem dX5_find_91 : decode cX5_find 91 = .ok (.iload 5, 2) := by decide +kernel
theorem dX5_find_93 : decode cX5_find 93 = .ok (.iload 6, 2) := by decide +kernel
theorem dX5_find_95 : decode cX5_find 95 = .ok (.invokevirtual 198, 3) := by decide +kernel
theorem dX5_find_98 : decode cX5_find 98 = .ok (.ireturn, 1) := by decide +kernel
set_option maxRecDepth 20000 in
theorem ggX5_mayTell_X5_requireSender : GoodIn wsX5_mayTell wsX5_requireSender := goodIn_ca (goodIn_r _ [6, 7, 8] (by decide +kernel) (by decide +kernel)) (goodIn_sub (fun _ h => List.mem_cons_of_mem _ (List.mem_append_right _ h)) (by decide +kernel))
set_option maxRecDepth 20000 in
theorem gX5_mayTell_X5_requireSender : GoodIn wsX5_mayTell (va_wsS RX5 69 yX5_requireSender wsX5_requireSender) := goodIn_app (goodIn_of _ (by decide +kernel)) ggX5_mayTell_X5_requireSender
set_option maxRecDepth 20000 in
theorem ggX5_mayTell_X5_requireArea : GoodIn wsX5_mayTell wsX5_requireArea := goodIn_ca (goodIn_r _ [12, 7, 8, 2, 13, 14, 15, 16, 17, 18, 31, 32, 33, 34, 35, 36, 37, 38, 39, 40, 41, 42, 43, 44] (by decide +kernel) (by decide +kernel)) (goodIn_sub (fun _ h => List.mem_cons_of_mem _ (List.mem_append_right _ h)) (by decide +kernel))
set_option maxRecDepth 20000 in
theorem gX5_mayTell_X5_requireArea : GoodIn wsX5_mayTell (wsV RX5 73 RX5 yX5_requireArea wsX5_requireArea) := goodIn_app (goodIn_of _ (by decide +kernel)) ggX5_mayTell_X5_requireArea
set_option maxRecDepth 20000 in
theorem ggX5_mayTell_X0_cover : GoodIn wsX5_mayTell wsX0_cover := goodIn_r _ [23, 24, 25, 26, 27, 16, 28, 18, 29, 30, 14, 15, 17, 42, 43, 44, 45] (by decide +kernel) (by decide +kernel)
set_option maxRecDepth 20000 in
theorem gX5_mayTell_X0_cover : GoodIn wsX5_mayTell (wsV RX5 202 RX0 yX0_cover wsX0_cover) := goodIn_app (goodIn_of _ (by decide +kernel)) ggX5_mayTell_X0_cover
theorem dX5_mayTell_0 : decode cX5_mayTell 0 = .ok (.iload_n 1, 1) := by decide +kernel
theorem dX5_mayTell_1 : decode cX5_mayTell 1 = .ok (.invokestatic 69, 3) := by decide +kernel
theorem dX5_mayTell_4 : decode cX5_mayTell 4 = .ok (.aload_n 0, 1) := by decide +kernel
theorem dX5_mayTell_5 : decode cX5_mayTell 5 = .ok (.iload_n 2, 1) := by decide +kernel
theorem dX5_mayTell_6 : decode cX5_mayTell 6 = .ok (.invokevirtual 73, 3) := by decide +kernel
theorem dX5_mayTell_9 : decode cX5_mayTell 9 = .ok (.aload_n 0, 1) := by decide +kernel
theorem dX5_mayTell_10 : decode cX5_mayTell 10 = .ok (.getfield 24, 3) := by decide +kernel
theorem dX5_mayTell_13 : decode cX5_mayTell 13 = .ok (.iload_n 1, 1) := by decide +kernel
theorem dX5_mayTell_14 : decode cX5_mayTell 14 = .ok (.iload_n 2, 1) := by decide +kernel
theorem dX5_mayTell_15 : decode cX5_mayTell 15 = .ok (.aload_n 0, 1) := by decide +kernel
theorem dX5_mayTell_16 : decode cX5_mayTell 16 = .ok (.getfield 14, 3) := by decide +kernel
theorem dX5_mayTell_19 : decode cX5_mayTell 19 = .ok (.invokevirtual 202, 3) := by decide +kernel
theorem dX5_mayTell_22 : decode cX5_mayTell 22 = .ok (.ireturn, 1) := by decide +kernel
theorem dX5_isPeriod_0 : decode cX5_isPeriod 0 = .ok (.iload_n 0, 1) := by decide +kernel
theorem dX5_isPeriod_1 : decode cX5_isPeriod 1 = .ok (.ifCond .lt 13, 3) := by decide +kernel
theorem dX5_isPeriod_4 : decode cX5_isPeriod 4 = .ok (.iload_n 0, 1) := by decide +kernel
theorem dX5_isPeriod_5 : decode cX5_isPeriod 5 = .ok (.bipush 12, 2) := by decide +kernel
theorem dX5_isPeriod_7 : decode cX5_isPeriod 7 = .ok (.if_icmp .ge 7, 3) := by decide +kernel
theorem dX5_isPeriod_10 : decode cX5_isPeriod 10 = .ok (.iconst 1, 1) := by decide +kernel
theorem dX5_isPeriod_11 : decode cX5_isPeriod 11 = .ok (.goto 4, 3) := by decide +kernel
theorem dX5_isPeriod_14 : decode cX5_isPeriod 14 = .ok (.iconst 0, 1) := by decide +kernel
theorem dX5_isPeriod_15 : decode cX5_isPeriod 15 = .ok (.ireturn, 1) := by decide +kernel
theorem dX5_requireSender_0 : decode cX5_requireSender 0 = .ok (.iload_n 0, 1) := by decide +kernel
theorem dX5_requireSender_1 : decode cX5_requireSender 1 = .ok (.ifCond .lt 8, 3) := by decide +kernel
theorem dX5_requireSender_4 : decode cX5_requireSender 4 = .ok (.iload_n 0, 1) := by decide +kernel
theorem dX5_requireSender_5 : decode cX5_requireSender 5 = .ok (.iconst 4, 1) := by decide +kernel
theorem dX5_requireSender_6 : decode cX5_requireSender 6 = .ok (.if_icmp .lt 13, 3) := by decide +kernel
theorem dX5_requireSender_9 : decode cX5_requireSender 9 = .ok (.new 129, 3) := by decide +kernel
theorem dX5_requireSender_12 : decode cX5_requireSender 12 = .ok (.dup, 1) := by decide +kernel
theorem dX5_requireSender_13 : decode cX5_requireSender 13 = .ok (.ldc 206, 2) := by decide +kernel
theorem dX5_requireSender_15 : decode cX5_requireSender 15 = .ok (.invokespecial 133, 3) := by decide +kernel
theorem dX5_requireSender_18 : decode cX5_requireSender 18 = .ok (.athrow, 1) := by decide +kernel
theorem dX5_requireSender_19 : decode cX5_requireSender 19 = .ok (.return_, 1) := by decide +kernel
set_option maxRecDepth 20000 in
theorem ggX5_requirePattern_X4_has : GoodIn wsX5_requirePattern wsX4_has := goodIn_r _ [7, 8, 9, 10, 11] (by decide +kernel) (by decide +kernel)
set_option maxRecDepth 20000 in
theorem gX5_requirePattern_X4_has : GoodIn wsX5_requirePattern (wsV RX5 208 RX4 yX4_has wsX4_has) := goodIn_app (goodIn_of _ (by decide +kernel)) ggX5_requirePattern_X4_has
theorem dX5_requirePattern_0 : decode cX5_requirePattern 0 = .ok (.iload_n 1, 1) := by decide +kernel
theorem dX5_requirePattern_1 : decode cX5_requirePattern 1 = .ok (.iconst (-1), 1) := by decide +kernel
theorem dX5_requirePattern_2 : decode cX5_requirePattern 2 = .ok (.if_icmp .eq 21, 3) := by decide +kernel
theorem dX5_requirePattern_5 : decode cX5_requirePattern 5 = .ok (.aload_n 0, 1) := by decide +kernel
theorem dX5_requirePattern_6 : decode cX5_requirePattern 6 = .ok (.iload_n 1, 1) := by decide +kernel
theorem dX5_requirePattern_7 : decode cX5_requirePattern 7 = .ok (.invokevirtual 208, 3) := by decide +kernel
theorem dX5_requirePattern_10 : decode cX5_requirePattern 10 = .ok (.ifCond .ne 13, 3) := by decide +kernel
theorem dX5_requirePattern_13 : decode cX5_requirePattern 13 = .ok (.new 129, 3) := by decide +kernel
theorem dX5_requirePattern_16 : decode cX5_requirePattern 16 = .ok (.dup, 1) := by decide +kernel
theorem dX5_requirePattern_17 : decode cX5_requirePattern 17 = .ok (.ldc 211, 2) := by decide +kernel
theorem dX5_requirePattern_19 : decode cX5_requirePattern 19 = .ok (.invokespecial 133, 3) := by decide +kernel
theorem dX5_requirePattern_22 : decode cX5_requirePattern 22 = .ok (.athrow, 1) := by decide +kernel
theorem dX5_requirePattern_23 : decode cX5_requirePattern 23 = .ok (.return_, 1) := by decide +kernel
set_option maxRecDepth 20000 in
theorem ggX5_requireRoom_X4_isFull : GoodIn wsX5_requireRoom wsX4_isFull := goodIn_r _ [7, 8, 9, 10, 11, 12] (by decide +kernel) (by decide +kernel)
set_option maxRecDepth 20000 in
theorem gX5_requireRoom_X4_isFull : GoodIn wsX5_requireRoom (wsV RX5 213 RX4 yX4_isFull wsX4_isFull) := goodIn_app (goodIn_of _ (by decide +kernel)) ggX5_requireRoom_X4_isFull
theorem dX5_requireRoom_0 : decode cX5_requireRoom 0 = .ok (.aload_n 0, 1) := by decide +kernel
theorem dX5_requireRoom_1 : decode cX5_requireRoom 1 = .ok (.invokevirtual 213, 3) := by decide +kernel
theorem dX5_requireRoom_4 : decode cX5_requireRoom 4 = .ok (.ifCond .eq 13, 3) := by decide +kernel
theorem dX5_requireRoom_7 : decode cX5_requireRoom 7 = .ok (.new 99, 3) := by decide +kernel
theorem dX5_requireRoom_10 : decode cX5_requireRoom 10 = .ok (.dup, 1) := by decide +kernel
theorem dX5_requireRoom_11 : decode cX5_requireRoom 11 = .ok (.ldc 214, 2) := by decide +kernel
theorem dX5_requireRoom_13 : decode cX5_requireRoom 13 = .ok (.invokespecial 103, 3) := by decide +kernel
theorem dX5_requireRoom_16 : decode cX5_requireRoom 16 = .ok (.athrow, 1) := by decide +kernel
theorem dX5_requireRoom_17 : decode cX5_requireRoom 17 = .ok (.return_, 1) := by decide +kernel
set_option maxRecDepth 20000 in
theorem ggX5_requireArea_X4_has : GoodIn wsX5_requireArea wsX4_has := goodIn_r _ [8, 9, 21, 22, 23] (by decide +kernel) (by decide +kernel)
set_option maxRecDepth 20000 in
theorem gX5_requireArea_X4_has : GoodIn wsX5_requireArea (wsV RX5 208 RX4 yX4_has wsX4_has) := goodIn_app (goodIn_of _ (by decide +kernel)) ggX5_requireArea_X4_has
theorem dX5_requireArea_0 : decode cX5_requireArea 0 = .ok (.aload_n 0, 1) := by decide +kernel
theorem dX5_requireArea_1 : decode cX5_requireArea 1 = .ok (.getfield 14, 3) := by decide +kernel
theorem dX5_requireArea_4 : decode cX5_requireArea 4 = .ok (.iload_n 1, 1) := by decide +kernel
theorem dX5_requireArea_5 : decode cX5_requireArea 5 = .ok (.invokevirtual 208, 3) := by decide +kernel
theorem dX5_requireArea_8 : decode cX5_requireArea 8 = .ok (.ifCond .ne 13, 3) := by decide +kernel
theorem dX5_requireArea_11 : decode cX5_requireArea 11 = .ok (.new 129, 3) := by decide +kernel
theorem dX5_requireArea_14 : decode cX5_requireArea 14 = .ok (.dup, 1) := by decide +kernel
theorem dX5_requireArea_15 : decode cX5_requireArea 15 = .ok (.ldc 216, 2) := by decide +kernel
theorem dX5_requireArea_17 : decode cX5_requireArea 17 = .ok (.invokespecial 133, 3) := by decide +kernel
theorem dX5_requireArea_20 : decode cX5_requireArea 20 = .ok (.athrow, 1) := by decide +kernel
theorem dX5_requireArea_21 : decode cX5_requireArea 21 = .ok (.return_, 1) := by decide +kernel
set_option maxRecDepth 20000 in
theorem ggX5_requireCell_X4_has : GoodIn wsX5_requireCell wsX4_has := goodIn_r _ [9, 10, 32, 33, 34] (by decide +kernel) (by decide +kernel)
set_option maxRecDepth 20000 in
theorem gX5_requireCell_X4_has : GoodIn wsX5_requireCell (wsV RX5 208 RX4 yX4_has wsX4_has) := goodIn_app (goodIn_of _ (by decide +kernel)) ggX5_requireCell_X4_has
set_option maxRecDepth 20000 in
theorem ggX5_requireCell_X5_isPeriod : GoodIn wsX5_requireCell wsX5_isPeriod := goodIn_r _ [14] (by decide +kernel) (by decide +kernel)
set_option maxRecDepth 20000 in
theorem gX5_requireCell_X5_isPeriod : GoodIn wsX5_requireCell (va_wsS RX5 187 yX5_isPeriod wsX5_isPeriod) := goodIn_app (goodIn_of _ (by decide +kernel)) ggX5_requireCell_X5_isPeriod
set_option maxRecDepth 20000 in
theorem ggX5_requireCell_X5_cellOf : GoodIn wsX5_requireCell wsX5_cellOf := goodIn_r _ [17, 18, 19, 13, 20] (by decide +kernel) (by decide +kernel)
set_option maxRecDepth 20000 in
theorem gX5_requireCell_X5_cellOf : GoodIn wsX5_requireCell (va_wsS RX5 220 yX5_cellOf wsX5_cellOf) := goodIn_app (goodIn_of _ (by decide +kernel)) ggX5_requireCell_X5_cellOf
theorem dX5_requireCell_0 : decode cX5_requireCell 0 = .ok (.aload_n 0, 1) := by decide +kernel
theorem dX5_requireCell_1 : decode cX5_requireCell 1 = .ok (.getfield 14, 3) := by decide +kernel
theorem dX5_requireCell_4 : decode cX5_requireCell 4 = .ok (.iload_n 1, 1) := by decide +kernel
theorem dX5_requireCell_5 : decode cX5_requireCell 5 = .ok (.invokevirtual 208, 3) := by decide +kernel
theorem dX5_requireCell_8 : decode cX5_requireCell 8 = .ok (.ifCond .eq 21, 3) := by decide +kernel
theorem dX5_requireCell_11 : decode cX5_requireCell 11 = .ok (.aload_n 0, 1) := by decide +kernel
theorem dX5_requireCell_12 : decode cX5_requireCell 12 = .ok (.getfield 18, 3) := by decide +kernel
theorem dX5_requireCell_15 : decode cX5_requireCell 15 = .ok (.iload_n 2, 1) := by decide +kernel
theorem dX5_requireCell_16 : decode cX5_requireCell 16 = .ok (.invokevirtual 208, 3) := by decide +kernel
theorem dX5_requireCell_19 : decode cX5_requireCell 19 = .ok (.ifCond .eq 10, 3) := by decide +kernel
theorem dX5_requireCell_22 : decode cX5_requireCell 22 = .ok (.iload_n 3, 1) := by decide +kernel
theorem dX5_requireCell_23 : decode cX5_requireCell 23 = .ok (.invokestatic 187, 3) := by decide +kernel
theorem dX5_requireCell_26 : decode cX5_requireCell 26 = .ok (.ifCond .ne 13, 3) := by decide +kernel
theorem dX5_requireCell_29 : decode cX5_requireCell 29 = .ok (.new 129, 3) := by decide +kernel
theorem dX5_requireCell_32 : decode cX5_requireCell 32 = .ok (.dup, 1) := by decide +kernel
theorem dX5_requireCell_33 : decode cX5_requireCell 33 = .ok (.ldc 218, 2) := by decide +kernel
theorem dX5_requireCell_35 : decode cX5_requireCell 35 = .ok (.invokespecial 133, 3) := by decide +kernel
theorem dX5_requireCell_38 : decode cX5_requireCell 38 = .ok (.athrow, 1) := by decide +kernel
theorem dX5_requireCell_39 : decode cX5_requireCell 39 = .ok (.iload_n 1, 1) := by decide +kernel
theorem dX5_requireCell_40 : decode cX5_requireCell 40 = .ok (.iload_n 2, 1) := by decide +kernel
theorem dX5_requireCell_41 : decode cX5_requireCell 41 = .ok (.iload_n 3, 1) := by decide +kernel
theorem dX5_requireCell_42 : decode cX5_requireCell 42 = .ok (.invokestatic 220, 3) := by decide +kernel
theorem dX5_requireCell_45 : decode cX5_requireCell 45 = .ok (.ireturn, 1) := by decide +kernel
theorem dX5_requireDay_0 : decode cX5_requireDay 0 = .ok (.iload_n 1, 1) := by decide +kernel
theorem dX5_requireDay_1 : decode cX5_requireDay 1 = .ok (.ifCond .lt 11, 3) := by decide +kernel
theorem dX5_requireDay_4 : decode cX5_requireDay 4 = .ok (.iload_n 1, 1) := by decide +kernel
theorem dX5_requireDay_5 : decode cX5_requireDay 5 = .ok (.aload_n 0, 1) := by decide +kernel
theorem dX5_requireDay_6 : decode cX5_requireDay 6 = .ok (.getfield 142, 3) := by decide +kernel
theorem dX5_requireDay_9 : decode cX5_requireDay 9 = .ok (.if_icmp .le 13, 3) := by decide +kernel
theorem dX5_requireDay_12 : decode cX5_requireDay 12 = .ok (.new 84, 3) := by decide +kernel
theorem dX5_requireDay_15 : decode cX5_requireDay 15 = .ok (.dup, 1) := by decide +kernel
theorem dX5_requireDay_16 : decode cX5_requireDay 16 = .ok (.ldc 223, 2) := by decide +kernel
theorem dX5_requireDay_18 : decode cX5_requireDay 18 = .ok (.invokespecial 88, 3) := by decide +kernel
theorem dX5_requireDay_21 : decode cX5_requireDay 21 = .ok (.athrow, 1) := by decide +kernel
theorem dX5_requireDay_22 : decode cX5_requireDay 22 = .ok (.return_, 1) := by decide +kernel
theorem dX5_slotOf_0 : decode cX5_slotOf 0 = .ok (.iload_n 0, 1) := by decide +kernel
theorem dX5_slotOf_1 : decode cX5_slotOf 1 = .ok (.bipush 10, 2) := by decide +kernel
theorem dX5_slotOf_3 : decode cX5_slotOf 3 = .ok (.imul, 1) := by decide +kernel
theorem dX5_slotOf_4 : decode cX5_slotOf 4 = .ok (.iload_n 1, 1) := by decide +kernel
theorem dX5_slotOf_5 : decode cX5_slotOf 5 = .ok (.iadd, 1) := by decide +kernel
theorem dX5_slotOf_6 : decode cX5_slotOf 6 = .ok (.ireturn, 1) := by decide +kernel
set_option maxRecDepth 20000 in
theorem ggX5_cellOf_X5_slotOf : GoodIn wsX5_cellOf wsX5_slotOf := goodIn_r _ [4] (by decide +kernel) (by decide +kernel)
set_option maxRecDepth 20000 in
theorem gX5_cellOf_X5_slotOf : GoodIn wsX5_cellOf (va_wsS RX5 158 yX5_slotOf wsX5_slotOf) := goodIn_app (goodIn_of _ (by decide +kernel)) ggX5_cellOf_X5_slotOf
theorem dX5_cellOf_0 : decode cX5_cellOf 0 = .ok (.iload_n 2, 1) := by decide +kernel
theorem dX5_cellOf_1 : decode cX5_cellOf 1 = .ok (.sipush 140, 3) := by decide +kernel
theorem dX5_cellOf_4 : decode cX5_cellOf 4 = .ok (.imul, 1) := by decide +kernel
theorem dX5_cellOf_5 : decode cX5_cellOf 5 = .ok (.iload_n 0, 1) := by decide +kernel
theorem dX5_cellOf_6 : decode cX5_cellOf 6 = .ok (.iload_n 1, 1) := by decide +kernel
theorem dX5_cellOf_7 : decode cX5_cellOf 7 = .ok (.invokestatic 158, 3) := by decide +kernel
theorem dX5_cellOf_10 : decode cX5_cellOf 10 = .ok (.iadd, 1) := by decide +kernel
theorem dX5_cellOf_11 : decode cX5_cellOf 11 = .ok (.ireturn, 1) := by decide +kernel
set_option maxRecDepth 20000 in
theorem ggX5_judgeDraft_X5_judge : GoodIn wsX5_judgeDraft wsX5_judge := goodIn_r _ [10, 11, 1, 12, 3, 13, 14, 15, 16, 17, 18, 19, 20, 21, 22, 23, 24, 25, 26, 27, 28, 29, 30, 52, 53, 54, 55, 56, 57, 58, 59, 60, 61, 62, 63, 64, 65, 66, 67, 68, 69, 70, 71, 72, 73, 74, 75, 76, 77, 78, 79] (by decide +kernel) (by decide +kernel)
set_option maxRecDepth 20000 in
theorem gX5_judgeDraft_X5_judge : GoodIn wsX5_judgeDraft (wsV RX5 225 RX5 yX5_judge wsX5_judge) := goodIn_app (goodIn_of _ (by decide +kernel)) ggX5_judgeDraft_X5_judge
set_option maxRecDepth 20000 in
theorem ggX5_judgeDraft_X2_figureBehind : GoodIn wsX5_judgeDraft wsX2_figureBehind := goodIn_r _ [35, 36, 37, 38, 63, 64, 65, 66, 67] (by decide +kernel) (by decide +kernel)
set_option maxRecDepth 20000 in
theorem gX5_judgeDraft_X2_figureBehind : GoodIn wsX5_judgeDraft (wsV RX5 231 RX2 yX2_figureBehind wsX2_figureBehind) := goodIn_app (goodIn_of _ (by decide +kernel)) ggX5_judgeDraft_X2_figureBehind
set_option maxRecDepth 20000 in
theorem ggX5_judgeDraft_X1_enter : GoodIn wsX5_judgeDraft wsX1_enter := goodIn_r _ [43, 44, 45, 46, 47, 48, 49, 50, 51, 68, 69, 70, 71, 72, 73, 74, 75] (by decide +kernel) (by decide +kernel)
set_option maxRecDepth 20000 in
theorem gX5_judgeDraft_X1_enter : GoodIn wsX5_judgeDraft (wsV RX5 234 RX1 yX1_enter wsX1_enter) := goodIn_app (goodIn_of _ (by decide +kernel)) ggX5_judgeDraft_X1_enter
theorem dX5_judgeDraft_0 : decode cX5_judgeDraft 0 = .ok (.iconst 0, 1) := by decide +kernel
theorem dX5_judgeDraft_1 : decode cX5_judgeDraft 1 = .ok (.istore_n 2, 1) := by decide +kernel
theorem dX5_judgeDraft_2 : decode cX5_judgeDraft 2 = .ok (.iconst 0, 1) := by decide +kernel
theorem dX5_judgeDraft_3 : decode cX5_judgeDraft 3 = .ok (.istore_n 3, 1) := by decide +kernel
theorem dX5_judgeDraft_4 : decode cX5_judgeDraft 4 = .ok (.iload_n 3, 1) := by decide +kernel
theorem dX5_judgeDraft_5 : decode cX5_judgeDraft 5 = .ok (.aload_n 0, 1) := by decide +kernel
theorem dX5_judgeDraft_6 : decode cX5_judgeDraft 6 = .ok (.getfield 31, 3) := by decide +kernel
theorem dX5_judgeDraft_9 : decode cX5_judgeDraft 9 = .ok (.getfield 112, 3) := by decide +kernel
theorem dX5_judgeDraft_12 : decode cX5_judgeDraft 12 = .ok (.if_icmp .ge 67, 3) := by decide +kernel
theorem dX5_judgeDraft_15 : decode cX5_judgeDraft 15 = .ok (.iload_n 3, 1) := by decide +kernel
theorem dX5_judgeDraft_16 : decode cX5_judgeDraft 16 = .ok (.bipush 16, 2) := by decide +kernel
theorem dX5_judgeDraft_18 : decode cX5_judgeDraft 18 = .ok (.if_icmp .ge 61, 3) := by decide +kernel
theorem dX5_judgeDraft_21 : decode cX5_judgeDraft 21 = .ok (.aload_n 0, 1) := by decide +kernel
theorem dX5_judgeDraft_22 : decode cX5_judgeDraft 22 = .ok (.iload_n 1, 1) := by decide +kernel
theorem dX5_judgeDraft_23 : decode cX5_judgeDraft 23 = .ok (.iload_n 3, 1) := by decide +kernel
theorem dX5_judgeDraft_24 : decode cX5_judgeDraft 24 = .ok (.invokevirtual 225, 3) := by decide +kernel
theorem dX5_judgeDraft_27 : decode cX5_judgeDraft 27 = .ok (.istore 4, 2) := by decide +kernel
theorem dX5_judgeDraft_29 : decode cX5_judgeDraft 29 = .ok (.aload_n 0, 1) := by decide +kernel
theorem dX5_judgeDraft_30 : decode cX5_judgeDraft 30 = .ok (.getfield 53, 3) := by decide +kernel
theorem dX5_judgeDraft_33 : decode cX5_judgeDraft 33 = .ok (.iload_n 3, 1) := by decide +kernel
theorem dX5_judgeDraft_34 : decode cX5_judgeDraft 34 = .ok (.iload 4, 2) := by decide +kernel
theorem dX5_judgeDraft_36 : decode cX5_judgeDraft 36 = .ok (.iastore, 1) := by decide +kernel
theorem dX5_judgeDraft_37 : decode cX5_judgeDraft 37 = .ok (.iload 4, 2) := by decide +kernel
theorem dX5_judgeDraft_39 : decode cX5_judgeDraft 39 = .ok (.ifCond .ne 34, 3) := by decide +kernel
theorem dX5_judgeDraft_42 : decode cX5_judgeDraft 42 = .ok (.aload_n 0, 1) := by decide +kernel
theorem dX5_judgeDraft_43 : decode cX5_judgeDraft 43 = .ok (.getfield 38, 3) := by decide +kernel
theorem dX5_judgeDraft_46 : decode cX5_judgeDraft 46 = .ok (.aload_n 0, 1) := by decide +kernel
theorem dX5_judgeDraft_47 : decode cX5_judgeDraft 47 = .ok (.getfield 31, 3) := by decide +kernel
theorem dX5_judgeDraft_50 : decode cX5_judgeDraft 50 = .ok (.getfield 228, 3) := by decide +kernel
theorem dX5_judgeDraft_53 : decode cX5_judgeDraft 53 = .ok (.iload_n 3, 1) := by decide +kernel
theorem dX5_judgeDraft_54 : decode cX5_judgeDraft 54 = .ok (.iaload, 1) := by decide +kernel
theorem dX5_judgeDraft_55 : decode cX5_judgeDraft 55 = .ok (.aload_n 0, 1) := by decide +kernel
theorem dX5_judgeDraft_56 : decode cX5_judgeDraft 56 = .ok (.getfield 142, 3) := by decide +kernel
theorem dX5_judgeDraft_59 : decode cX5_judgeDraft 59 = .ok (.aload_n 0, 1) := by decide +kernel
theorem dX5_judgeDraft_60 : decode cX5_judgeDraft 60 = .ok (.getfield 31, 3) := by decide +kernel
theorem dX5_judgeDraft_63 : decode cX5_judgeDraft 63 = .ok (.iload_n 3, 1) := by decide +kernel
theorem dX5_judgeDraft_64 : decode cX5_judgeDraft 64 = .ok (.invokevirtual 231, 3) := by decide +kernel
theorem dX5_judgeDraft_67 : decode cX5_judgeDraft 67 = .ok (.invokevirtual 234, 3) := by decide +kernel
theorem dX5_judgeDraft_70 : decode cX5_judgeDraft 70 = .ok (.iinc 2 1, 3) := by decide +kernel
theorem dX5_judgeDraft_73 : decode cX5_judgeDraft 73 = .ok (.iinc 3 1, 3) := by decide +kernel
theorem dX5_judgeDraft_76 : decode cX5_judgeDraft 76 = .ok (.goto (-72), 3) := by decide +kernel
theorem dX5_judgeDraft_79 : decode cX5_judgeDraft 79 = .ok (.aload_n 0, 1) := by decide +kernel
theorem dX5_judgeDraft_80 : decode cX5_judgeDraft 80 = .ok (.aload_n 0, 1) := by decide +kernel
theorem dX5_judgeDraft_81 : decode cX5_judgeDraft 81 = .ok (.getfield 31, 3) := by decide +kernel
theorem dX5_judgeDraft_84 : decode cX5_judgeDraft 84 = .ok (.getfield 112, 3) := by decide +kernel
theorem dX5_judgeDraft_87 : decode cX5_judgeDraft 87 = .ok (.putfield 126, 3) := by decide +kernel
theorem dX5_judgeDraft_90 : decode cX5_judgeDraft 90 = .ok (.iload_n 2, 1) := by decide +kernel
theorem dX5_judgeDraft_91 : decode cX5_judgeDraft 91 = .ok (.ireturn, 1) := by decide +kernel
set_option maxRecDepth 20000 in
theorem ggX5_judge_X0_cover : GoodIn wsX5_judge wsX0_cover := goodIn_r _ [10, 11, 12, 13, 14, 15, 16, 17, 18, 19, 20, 21, 22, 47, 48, 49, 50] (by decide +kernel) (by decide +kernel)
set_option maxRecDepth 20000 in
theorem gX5_judge_X0_cover : GoodIn wsX5_judge (wsV RX5 202 RX0 yX0_cover wsX0_cover) := goodIn_app (goodIn_of _ (by decide +kernel)) ggX5_judge_X0_cover
theorem dX5_judge_0 : decode cX5_judge 0 = .ok (.aload_n 0, 1) := by decide +kernel
theorem dX5_judge_1 : decode cX5_judge 1 = .ok (.getfield 24, 3) := by decide +kernel
theorem dX5_judge_4 : decode cX5_judge 4 = .ok (.iload_n 1, 1) := by decide +kernel
theorem dX5_judge_5 : decode cX5_judge 5 = .ok (.aload_n 0, 1) := by decide +kernel
theorem dX5_judge_6 : decode cX5_judge 6 = .ok (.getfield 31, 3) := by decide +kernel
theorem dX5_judge_9 : decode cX5_judge 9 = .ok (.getfield 238, 3) := by decide +kernel
theorem dX5_judge_12 : decode cX5_judge 12 = .ok (.iload_n 2, 1) := by decide +kernel
theorem dX5_judge_13 : decode cX5_judge 13 = .ok (.iaload, 1) := by decide +kernel
theorem dX5_judge_14 : decode cX5_judge 14 = .ok (.aload_n 0, 1) := by decide +kernel
theorem dX5_judge_15 : decode cX5_judge 15 = .ok (.getfield 14, 3) := by decide +kernel
theorem dX5_judge_18 : decode cX5_judge 18 = .ok (.invokevirtual 202, 3) := by decide +kernel
theorem dX5_judge_21 : decode cX5_judge 21 = .ok (.ifCond .ne 5, 3) := by decide +kernel
theorem dX5_judge_24 : decode cX5_judge 24 = .ok (.iconst 1, 1) := by decide +kernel
theorem dX5_judge_25 : decode cX5_judge 25 = .ok (.ireturn, 1) := by decide +kernel
theorem dX5_judge_26 : decode cX5_judge 26 = .ok (.aload_n 0, 1) := by decide +kernel
theorem dX5_judge_27 : decode cX5_judge 27 = .ok (.getfield 31, 3) := by decide +kernel
theorem dX5_judge_30 : decode cX5_judge 30 = .ok (.getfield 240, 3) := by decide +kernel
theorem dX5_judge_33 : decode cX5_judge 33 = .ok (.iload_n 2, 1) := by decide +kernel
theorem dX5_judge_34 : decode cX5_judge 34 = .ok (.iaload, 1) := by decide +kernel
theorem dX5_judge_35 : decode cX5_judge 35 = .ok (.istore_n 3, 1) := by decide +kernel
theorem dX5_judge_36 : decode cX5_judge 36 = .ok (.aload_n 0, 1) := by decide +kernel
theorem dX5_judge_37 : decode cX5_judge 37 = .ok (.getfield 38, 3) := by decide +kernel
theorem dX5_judge_40 : decode cX5_judge 40 = .ok (.getfield 170, 3) := by decide +kernel
theorem dX5_judge_43 : decode cX5_judge 43 = .ok (.aload_n 0, 1) := by decide +kernel
theorem dX5_judge_44 : decode cX5_judge 44 = .ok (.getfield 31, 3) := by decide +kernel
theorem dX5_judge_47 : decode cX5_judge 47 = .ok (.getfield 228, 3) := by decide +kernel
theorem dX5_judge_50 : decode cX5_judge 50 = .ok (.iload_n 2, 1) := by decide +kernel
theorem dX5_judge_51 : decode cX5_judge 51 = .ok (.iaload, 1) := by decide +kernel
theorem dX5_judge_52 : decode cX5_judge 52 = .ok (.iaload, 1) := by decide +kernel
theorem dX5_judge_53 : decode cX5_judge 53 = .ok (.istore 4, 2) := by decide +kernel
theorem dX5_judge_55 : decode cX5_judge 55 = .ok (.iload_n 3, 1) := by decide +kernel
theorem dX5_judge_56 : decode cX5_judge 56 = .ok (.ifCond .ne 16, 3) := by decide +kernel
theorem dX5_judge_59 : decode cX5_judge 59 = .ok (.iload 4, 2) := by decide +kernel
theorem dX5_judge_61 : decode cX5_judge 61 = .ok (.ldc 173, 2) := by decide +kernel
theorem dX5_judge_63 : decode cX5_judge 63 = .ok (.if_icmp .ne 7, 3) := by decide +kernel
theorem dX5_judge_66 : decode cX5_judge 66 = .ok (.iconst 0, 1) := by decide +kernel
theorem dX5_judge_67 : decode cX5_judge 67 = .ok (.goto 4, 3) := by decide +kernel
theorem dX5_judge_70 : decode cX5_judge 70 = .ok (.iconst 2, 1) := by decide +kernel
theorem dX5_judge_71 : decode cX5_judge 71 = .ok (.ireturn, 1) := by decide +kernel
theorem dX5_judge_72 : decode cX5_judge 72 = .ok (.iload 4, 2) := by decide +kernel
theorem dX5_judge_74 : decode cX5_judge 74 = .ok (.ldc 173, 2) := by decide +kernel
theorem dX5_judge_76 : decode cX5_judge 76 = .ok (.if_icmp .ne 5, 3) := by decide +kernel
theorem dX5_judge_79 : decode cX5_judge 79 = .ok (.iconst 3, 1) := by decide +kernel
theorem dX5_judge_80 : decode cX5_judge 80 = .ok (.ireturn, 1) := by decide +kernel
theorem dX5_judge_81 : decode cX5_judge 81 = .ok (.iload_n 3, 1) := by decide +kernel
theorem dX5_judge_82 : decode cX5_judge 82 = .ok (.iconst 1, 1) := by decide +kernel
theorem dX5_judge_83 : decode cX5_judge 83 = .ok (.if_icmp .ne 21, 3) := by decide +kernel
theorem dX5_judge_86 : decode cX5_judge 86 = .ok (.aload_n 0, 1) := by decide +kernel
theorem dX5_judge_87 : decode cX5_judge 87 = .ok (.getfield 31, 3) := by decide +kernel
theorem dX5_judge_90 : decode cX5_judge 90 = .ok (.getfield 243, 3) := by decide +kernel
theorem dX5_judge_93 : decode cX5_judge 93 = .ok (.iload_n 2, 1) := by decide +kernel
theorem dX5_judge_94 : decode cX5_judge 94 = .ok (.iaload, 1) := by decide +kernel
theorem dX5_judge_95 : decode cX5_judge 95 = .ok (.iload 4, 2) := by decide +kernel
theorem dX5_judge_97 : decode cX5_judge 97 = .ok (.if_icmp .ne 7, 3) := by decide +kernel
theorem dX5_judge_100 : decode cX5_judge 100 = .ok (.iconst 4, 1) := by decide +kernel
theorem dX5_judge_101 : decode cX5_judge 101 = .ok (.goto 4, 3) := by decide +kernel
theorem dX5_judge_104 : decode cX5_judge 104 = .ok (.iconst 0, 1) := by decide +kernel
theorem dX5_judge_105 : decode cX5_judge 105 = .ok (.ireturn, 1) := by decide +kernel
theorem dX5_isOtherSum_0 : decode cX5_isOtherSum 0 = .ok (.iload_n 0, 1) := by decide +kernel
theorem dX5_isOtherSum_1 : decode cX5_isOtherSum 1 = .ok (.ldc 173, 2) := by decide +kernel
theorem dX5_isOtherSum_3 : decode cX5_isOtherSum 3 = .ok (.if_icmp .eq 12, 3) := by decide +kernel
theorem dX5_isOtherSum_6 : decode cX5_isOtherSum 6 = .ok (.iload_n 0, 1) := by decide +kernel
theorem dX5_isOtherSum_7 : decode cX5_isOtherSum 7 = .ok (.iload_n 1, 1) := by decide +kernel
theorem dX5_isOtherSum_8 : decode cX5_isOtherSum 8 = .ok (.if_icmp .eq 7, 3) := by decide +kernel
theorem dX5_isOtherSum_11 : decode cX5_isOtherSum 11 = .ok (.iconst 1, 1) := by decide +kernel
theorem dX5_isOtherSum_12 : decode cX5_isOtherSum 12 = .ok (.goto 4, 3) := by decide +kernel
theorem dX5_isOtherSum_15 : decode cX5_isOtherSum 15 = .ok (.iconst 0, 1) := by decide +kernel
theorem dX5_isOtherSum_16 : decode cX5_isOtherSum 16 = .ok (.ireturn, 1) := by decide +kernel
set_option maxRecDepth 20000 in
theorem ggX5_loadHidden_X3_load : GoodIn wsX5_loadHidden wsX3_load := goodIn_r _ [11, 12, 13, 14, 15, 16, 10, 17, 18, 19, 20, 21, 22, 23, 24, 25, 26, 27, 28, 29, 30, 31, 32, 33, 34, 35, 36, 37, 38, 39, 40, 41, 42, 83, 84, 85, 86, 87, 88, 89, 90, 91, 92, 93, 94, 95] (by decide +kernel) (by decide +kernel)
set_option maxRecDepth 20000 in
theorem gX5_loadHidden_X3_load : GoodIn wsX5_loadHidden (wsV RX5 154 RX3 yX3_load wsX3_load) := goodIn_app (goodIn_of _ (by decide +kernel)) ggX5_loadHidden_X3_load
set_option maxRecDepth 20000 in
theorem ggX5_loadHidden_X3_hide : GoodIn wsX5_loadHidden wsX3_hide := goodIn_r _ [46, 47, 12, 13, 48, 49, 50, 10, 51, 22, 23, 24, 52, 53, 54, 55, 56, 57, 58, 59, 60, 61, 62, 63, 29, 30, 31, 32, 33, 34, 35, 36, 37, 38, 25, 26, 27, 28, 39, 40, 41, 42, 64, 65, 66, 67, 68, 69, 70, 71, 86, 87, 83, 84, 85] (by decide +kernel) (by decide +kernel)
set_option maxRecDepth 20000 in
theorem gX5_loadHidden_X3_hide : GoodIn wsX5_loadHidden (wsV RX5 246 RX3 yX3_hide wsX3_hide) := goodIn_app (goodIn_of _ (by decide +kernel)) ggX5_loadHidden_X3_hide
theorem dX5_loadHidden_0 : decode cX5_loadHidden 0 = .ok (.aload_n 0, 1) := by decide +kernel
theorem dX5_loadHidden_1 : decode cX5_loadHidden 1 = .ok (.getfield 45, 3) := by decide +kernel
theorem dX5_loadHidden_4 : decode cX5_loadHidden 4 = .ok (.aload_n 0, 1) := by decide +kernel
theorem dX5_loadHidden_5 : decode cX5_loadHidden 5 = .ok (.getfield 38, 3) := by decide +kernel
theorem dX5_loadHidden_8 : decode cX5_loadHidden 8 = .ok (.iload_n 1, 1) := by decide +kernel
theorem dX5_loadHidden_9 : decode cX5_loadHidden 9 = .ok (.aload_n 0, 1) := by decide +kernel
theorem dX5_loadHidden_10 : decode cX5_loadHidden 10 = .ok (.getfield 142, 3) := by decide +kernel
theorem dX5_loadHidden_13 : decode cX5_loadHidden 13 = .ok (.aload_n 0, 1) := by decide +kernel
theorem dX5_loadHidden_14 : decode cX5_loadHidden 14 = .ok (.getfield 14, 3) := by decide +kernel
theorem dX5_loadHidden_17 : decode cX5_loadHidden 17 = .ok (.aload_n 0, 1) := by decide +kernel
theorem dX5_loadHidden_18 : decode cX5_loadHidden 18 = .ok (.getfield 18, 3) := by decide +kernel
theorem dX5_loadHidden_21 : decode cX5_loadHidden 21 = .ok (.invokevirtual 154, 3) := by decide +kernel
theorem dX5_loadHidden_24 : decode cX5_loadHidden 24 = .ok (.aload_n 0, 1) := by decide +kernel
theorem dX5_loadHidden_25 : decode cX5_loadHidden 25 = .ok (.getfield 45, 3) := by decide +kernel
theorem dX5_loadHidden_28 : decode cX5_loadHidden 28 = .ok (.aload_n 0, 1) := by decide +kernel
theorem dX5_loadHidden_29 : decode cX5_loadHidden 29 = .ok (.getfield 49, 3) := by decide +kernel
theorem dX5_loadHidden_32 : decode cX5_loadHidden 32 = .ok (.iload_n 1, 1) := by decide +kernel
theorem dX5_loadHidden_33 : decode cX5_loadHidden 33 = .ok (.aload_n 0, 1) := by decide +kernel
theorem dX5_loadHidden_34 : decode cX5_loadHidden 34 = .ok (.getfield 14, 3) := by decide +kernel
theorem dX5_loadHidden_37 : decode cX5_loadHidden 37 = .ok (.aload_n 0, 1) := by decide +kernel
theorem dX5_loadHidden_38 : decode cX5_loadHidden 38 = .ok (.getfield 18, 3) := by decide +kernel
theorem dX5_loadHidden_41 : decode cX5_loadHidden 41 = .ok (.invokevirtual 246, 3) := by decide +kernel
theorem dX5_loadHidden_44 : decode cX5_loadHidden 44 = .ok (.return_, 1) := by decide +kernel
set_option maxRecDepth 20000 in
theorem ggX5_matchAt_X5_cellOf : GoodIn wsX5_matchAt wsX5_cellOf := goodIn_r _ [7, 8, 9, 6, 10] (by decide +kernel) (by decide +kernel)
set_option maxRecDepth 20000 in
theorem gX5_matchAt_X5_cellOf : GoodIn wsX5_matchAt (va_wsS RX5 220 yX5_cellOf wsX5_cellOf) := goodIn_app (goodIn_of _ (by decide +kernel)) ggX5_matchAt_X5_cellOf
set_option maxRecDepth 20000 in
theorem ggX5_matchAt_X1_isToldSince : GoodIn wsX5_matchAt wsX1_isToldSince := goodIn_r _ [15, 16, 17, 18, 44, 45, 46, 47, 48, 49, 50, 51] (by decide +kernel) (by decide +kernel)
set_option maxRecDepth 20000 in
theorem gX5_matchAt_X1_isToldSince : GoodIn wsX5_matchAt (wsV RX5 251 RX1 yX1_isToldSince wsX1_isToldSince) := goodIn_app (goodIn_of _ (by decide +kernel)) ggX5_matchAt_X1_isToldSince
set_option maxRecDepth 20000 in
theorem ggX5_matchAt_X4_isWithin : GoodIn wsX5_matchAt wsX4_isWithin := goodIn_r _ [23, 24, 25, 26, 27, 28, 22, 29, 41, 42, 43] (by decide +kernel) (by decide +kernel)
set_option maxRecDepth 20000 in
theorem gX5_matchAt_X4_isWithin : GoodIn wsX5_matchAt (wsV RX5 254 RX4 yX4_isWithin wsX4_isWithin) := goodIn_app (goodIn_of _ (by decide +kernel)) ggX5_matchAt_X4_isWithin
theorem dX5_matchAt_0 : decode cX5_matchAt 0 = .ok (.iload 6, 2) := by decide +kernel
theorem dX5_matchAt_2 : decode cX5_matchAt 2 = .ok (.istore 7, 2) := by decide +kernel
theorem dX5_matchAt_4 : decode cX5_matchAt 4 = .ok (.iload_n 3, 1) := by decide +kernel
theorem dX5_matchAt_5 : decode cX5_matchAt 5 = .ok (.istore 8, 2) := by decide +kernel
theorem dX5_matchAt_7 : decode cX5_matchAt 7 = .ok (.iload 8, 2) := by decide +kernel
theorem dX5_matchAt_9 : decode cX5_matchAt 9 = .ok (.iload 4, 2) := by decide +kernel
theorem dX5_matchAt_11 : decode cX5_matchAt 11 = .ok (.if_icmp .gt 122, 3) := by decide +kernel
theorem dX5_matchAt_14 : decode cX5_matchAt 14 = .ok (.iconst 0, 1) := by decide +kernel
theorem dX5_matchAt_15 : decode cX5_matchAt 15 = .ok (.istore 9, 2) := by decide +kernel
theorem dX5_matchAt_17 : decode cX5_matchAt 17 = .ok (.iload 9, 2) := by decide +kernel
theorem dX5_matchAt_19 : decode cX5_matchAt 19 = .ok (.aload_n 0, 1) := by decide +kernel
theorem dX5_matchAt_20 : decode cX5_matchAt 20 = .ok (.getfield 14, 3) := by decide +kernel
theorem dX5_matchAt_23 : decode cX5_matchAt 23 = .ok (.getfield 250, 3) := by decide +kernel
theorem dX5_matchAt_26 : decode cX5_matchAt 26 = .ok (.if_icmp .ge 101, 3) := by decide +kernel
theorem dX5_matchAt_29 : decode cX5_matchAt 29 = .ok (.iconst 0, 1) := by decide +kernel
theorem dX5_matchAt_30 : decode cX5_matchAt 30 = .ok (.istore 10, 2) := by decide +kernel
theorem dX5_matchAt_32 : decode cX5_matchAt 32 = .ok (.iload 10, 2) := by decide +kernel
theorem dX5_matchAt_34 : decode cX5_matchAt 34 = .ok (.aload_n 0, 1) := by decide +kernel
theorem dX5_matchAt_35 : decode cX5_matchAt 35 = .ok (.getfield 18, 3) := by decide +kernel
theorem dX5_matchAt_38 : decode cX5_matchAt 38 = .ok (.getfield 250, 3) := by decide +kernel
theorem dX5_matchAt_41 : decode cX5_matchAt 41 = .ok (.if_icmp .ge 80, 3) := by decide +kernel
theorem dX5_matchAt_44 : decode cX5_matchAt 44 = .ok (.aload_n 0, 1) := by decide +kernel
theorem dX5_matchAt_45 : decode cX5_matchAt 45 = .ok (.getfield 38, 3) := by decide +kernel
theorem dX5_matchAt_48 : decode cX5_matchAt 48 = .ok (.iload 9, 2) := by decide +kernel
theorem dX5_matchAt_50 : decode cX5_matchAt 50 = .ok (.iload 10, 2) := by decide +kernel
theorem dX5_matchAt_52 : decode cX5_matchAt 52 = .ok (.iload 8, 2) := by decide +kernel
theorem dX5_matchAt_54 : decode cX5_matchAt 54 = .ok (.invokestatic 220, 3) := by decide +kernel
theorem dX5_matchAt_57 : decode cX5_matchAt 57 = .ok (.iload 5, 2) := by decide +kernel
theorem dX5_matchAt_59 : decode cX5_matchAt 59 = .ok (.invokevirtual 251, 3) := by decide +kernel
theorem dX5_matchAt_62 : decode cX5_matchAt 62 = .ok (.ifCond .eq 53, 3) := by decide +kernel
theorem dX5_matchAt_65 : decode cX5_matchAt 65 = .ok (.aload_n 0, 1) := by decide +kernel
theorem dX5_matchAt_66 : decode cX5_matchAt 66 = .ok (.getfield 14, 3) := by decide +kernel
theorem dX5_matchAt_69 : decode cX5_matchAt 69 = .ok (.iload 9, 2) := by decide +kernel
theorem dX5_matchAt_71 : decode cX5_matchAt 71 = .ok (.iload_n 1, 1) := by decide +kernel
theorem dX5_matchAt_72 : decode cX5_matchAt 72 = .ok (.invokevirtual 254, 3) := by decide +kernel
theorem dX5_matchAt_75 : decode cX5_matchAt 75 = .ok (.ifCond .eq 40, 3) := by decide +kernel
theorem dX5_matchAt_78 : decode cX5_matchAt 78 = .ok (.aload_n 0, 1) := by decide +kernel
theorem dX5_matchAt_79 : decode cX5_matchAt 79 = .ok (.getfield 18, 3) := by decide +kernel
theorem dX5_matchAt_82 : decode cX5_matchAt 82 = .ok (.iload 10, 2) := by decide +kernel
theorem dX5_matchAt_84 : decode cX5_matchAt 84 = .ok (.iload_n 2, 1) := by decide +kernel
theorem dX5_matchAt_85 : decode cX5_matchAt 85 = .ok (.invokevirtual 254, 3) := by decide +kernel
theorem dX5_matchAt_88 : decode cX5_matchAt 88 = .ok (.ifCond .eq 27, 3) := by decide +kernel
theorem dX5_matchAt_91 : decode cX5_matchAt 91 = .ok (.iload 7, 2) := by decide +kernel
theorem dX5_matchAt_93 : decode cX5_matchAt 93 = .ok (.ifCond .ne 19, 3) := by decide +kernel
theorem dX5_matchAt_96 : decode cX5_matchAt 96 = .ok (.sipush 1000, 3) := by decide +kernel
theorem dX5_matchAt_99 : decode cX5_matchAt 99 = .ok (.iload 8, 2) := by decide +kernel
theorem dX5_matchAt_101 : decode cX5_matchAt 101 = .ok (.imul, 1) := by decide +kernel
theorem dX5_matchAt_102 : decode cX5_matchAt 102 = .ok (.bipush 20, 2) := by decide +kernel
theorem dX5_matchAt_104 : decode cX5_matchAt 104 = .ok (.iload 9, 2) := by decide +kernel
theorem dX5_matchAt_106 : decode cX5_matchAt 106 = .ok (.imul, 1) := by decide +kernel
theorem dX5_matchAt_107 : decode cX5_matchAt 107 = .ok (.iadd, 1) := by decide +kernel
theorem dX5_matchAt_108 : decode cX5_matchAt 108 = .ok (.iload 10, 2) := by decide +kernel
theorem dX5_matchAt_110 : decode cX5_matchAt 110 = .ok (.iadd, 1) := by decide +kernel
theorem dX5_matchAt_111 : decode cX5_matchAt 111 = .ok (.ireturn, 1) := by decide +kernel
theorem dX5_matchAt_112 : decode cX5_matchAt 112 = .ok (.iinc 7 (-1), 3) := by decide +kernel
theorem dX5_matchAt_115 : decode cX5_matchAt 115 = .ok (.iinc 10 1, 3) := by decide +kernel
theorem dX5_matchAt_118 : decode cX5_matchAt 118 = .ok (.goto (-86), 3) := by decide +kernel
theorem dX5_matchAt_121 : decode cX5_matchAt 121 = .ok (.iinc 9 1, 3) := by decide +kernel
theorem dX5_matchAt_124 : decode cX5_matchAt 124 = .ok (.goto (-107), 3) := by decide +kernel
theorem dX5_matchAt_127 : decode cX5_matchAt 127 = .ok (.iinc 8 1, 3) := by decide +kernel
theorem dX5_matchAt_130 : decode cX5_matchAt 130 = .ok (.goto (-123), 3) := by decide +kernel
theorem dX5_matchAt_133 : decode cX5_matchAt 133 = .ok (.iconst (-1), 1) := by decide +kernel
theorem dX5_matchAt_134 : decode cX5_matchAt 134 = .ok (.ireturn, 1) := by decide +kernel
theorem dX6_init_0 : decode cX6_init 0 = .ok (.aload_n 0, 1) := by decide +kernel
theorem dX6_init_1 : decode cX6_init 1 = .ok (.invokespecial 1, 3) := by decide +kernel
theorem dX6_init_4 : decode cX6_init 4 = .ok (.aload_n 0, 1) := by decide +kernel
theorem dX6_init_5 : decode cX6_init 5 = .ok (.bipush 14, 2) := by decide +kernel
theorem dX6_init_7 : decode cX6_init 7 = .ok (.newarray .int, 2) := by decide +kernel
theorem dX6_init_9 : decode cX6_init 9 = .ok (.putfield 7, 3) := by decide +kernel
theorem dX6_init_12 : decode cX6_init 12 = .ok (.aload_n 0, 1) := by decide +kernel
theorem dX6_init_13 : decode cX6_init 13 = .ok (.bipush 10, 2) := by decide +kernel
theorem dX6_init_15 : decode cX6_init 15 = .ok (.newarray .int, 2) := by decide +kernel
theorem dX6_init_17 : decode cX6_init 17 = .ok (.putfield 13, 3) := by decide +kernel
theorem dX6_init_20 : decode cX6_init 20 = .ok (.aload_n 0, 1) := by decide +kernel
theorem dX6_init_21 : decode cX6_init 21 = .ok (.bipush 56, 2) := by decide +kernel
theorem dX6_init_23 : decode cX6_init 23 = .ok (.newarray .boolean, 2) := by decide +kernel
theorem dX6_init_25 : decode cX6_init 25 = .ok (.putfield 16, 3) := by decide +kernel
theorem dX6_init_28 : decode cX6_init 28 = .ok (.aload_n 0, 1) := by decide +kernel
theorem dX6_init_29 : decode cX6_init 29 = .ok (.bipush 16, 2) := by decide +kernel
theorem dX6_init_31 : decode cX6_init 31 = .ok (.newarray .int, 2) := by decide +kernel
theorem dX6_init_33 : decode cX6_init 33 = .ok (.putfield 20, 3) := by decide +kernel
theorem dX6_init_36 : decode cX6_init 36 = .ok (.aload_n 0, 1) := by decide +kernel
theorem dX6_init_37 : decode cX6_init 37 = .ok (.bipush 16, 2) := by decide +kernel
theorem dX6_init_39 : decode cX6_init 39 = .ok (.newarray .int, 2) := by decide +kernel
theorem dX6_init_41 : decode cX6_init 41 = .ok (.putfield 23, 3) := by decide +kernel
theorem dX6_init_44 : decode cX6_init 44 = .ok (.aload_n 0, 1) := by decide +kernel
theorem dX6_init_45 : decode cX6_init 45 = .ok (.bipush 16, 2) := by decide +kernel
theorem dX6_init_47 : decode cX6_init 47 = .ok (.newarray .int, 2) := by decide +kernel
theorem dX6_init_49 : decode cX6_init 49 = .ok (.putfield 26, 3) := by decide +kernel
theorem dX6_init_52 : decode cX6_init 52 = .ok (.aload_n 0, 1) := by decide +kernel
theorem dX6_init_53 : decode cX6_init 53 = .ok (.bipush 16, 2) := by decide +kernel
theorem dX6_init_55 : decode cX6_init 55 = .ok (.newarray .int, 2) := by decide +kernel
theorem dX6_init_57 : decode cX6_init 57 = .ok (.putfield 29, 3) := by decide +kernel
theorem dX6_init_60 : decode cX6_init 60 = .ok (.aload_n 0, 1) := by decide +kernel
theorem dX6_init_61 : decode cX6_init 61 = .ok (.sipush 300, 3) := by decide +kernel
theorem dX6_init_64 : decode cX6_init 64 = .ok (.newarray .int, 2) := by decide +kernel
theorem dX6_init_66 : decode cX6_init 66 = .ok (.putfield 32, 3) := by decide +kernel
theorem dX6_init_69 : decode cX6_init 69 = .ok (.aload_n 0, 1) := by decide +kernel
theorem dX6_init_70 : decode cX6_init 70 = .ok (.sipush 300, 3) := by decide +kernel
theorem dX6_init_73 : decode cX6_init 73 = .ok (.newarray .int, 2) := by decide +kernel
theorem dX6_init_75 : decode cX6_init 75 = .ok (.putfield 35, 3) := by decide +kernel
theorem dX6_init_78 : decode cX6_init 78 = .ok (.aload_n 0, 1) := by decide +kernel
theorem dX6_init_79 : decode cX6_init 79 = .ok (.sipush 300, 3) := by decide +kernel
theorem dX6_init_82 : decode cX6_init 82 = .ok (.newarray .int, 2) := by decide +kernel
theorem dX6_init_84 : decode cX6_init 84 = .ok (.putfield 38, 3) := by decide +kernel
theorem dX6_init_87 : decode cX6_init 87 = .ok (.aload_n 0, 1) := by decide +kernel
theorem dX6_init_88 : decode cX6_init 88 = .ok (.sipush 1680, 3) := by decide +kernel
theorem dX6_init_91 : decode cX6_init 91 = .ok (.newarray .boolean, 2) := by decide +kernel
theorem dX6_init_93 : decode cX6_init 93 = .ok (.putfield 41, 3) := by decide +kernel
theorem dX6_init_96 : decode cX6_init 96 = .ok (.aload_n 0, 1) := by decide +kernel
theorem dX6_init_97 : decode cX6_init 97 = .ok (.sipush 140, 3) := by decide +kernel
theorem dX6_init_100 : decode cX6_init 100 = .ok (.newarray .int, 2) := by decide +kernel
theorem dX6_init_102 : decode cX6_init 102 = .ok (.putfield 44, 3) := by decide +kernel
theorem dX6_init_105 : decode cX6_init 105 = .ok (.aload_n 0, 1) := by decide +kernel
theorem dX6_init_106 : decode cX6_init 106 = .ok (.sipush 140, 3) := by decide +kernel
theorem dX6_init_109 : decode cX6_init 109 = .ok (.newarray .boolean, 2) := by decide +kernel
theorem dX6_init_111 : decode cX6_init 111 = .ok (.putfield 47, 3) := by decide +kernel
theorem dX6_init_114 : decode cX6_init 114 = .ok (.return_, 1) := by decide +kernel
theorem dX6_thrown_0 : decode cX6_thrown 0 = .ok (.aload_n 0, 1) := by decide +kernel
theorem dX6_thrown_1 : decode cX6_thrown 1 = .ok (.getfield 50, 3) := by decide +kernel
theorem dX6_thrown_4 : decode cX6_thrown 4 = .ok (.ireturn, 1) := by decide +kernel
theorem dX6_isIn_0 : decode cX6_isIn 0 = .ok (.iload_n 0, 1) := by decide +kernel
theorem dX6_isIn_1 : decode cX6_isIn 1 = .ok (.iload_n 1, 1) := by decide +kernel
theorem dX6_isIn_2 : decode cX6_isIn 2 = .ok (.if_icmp .lt 12, 3) := by decide +kernel
theorem dX6_isIn_5 : decode cX6_isIn 5 = .ok (.iload_n 0, 1) := by decide +kernel
theorem dX6_isIn_6 : decode cX6_isIn 6 = .ok (.iload_n 2, 1) := by decide +kernel
theorem dX6_isIn_7 : decode cX6_isIn 7 = .ok (.if_icmp .gt 7, 3) := by decide +kernel
theorem dX6_isIn_10 : decode cX6_isIn 10 = .ok (.iconst 1, 1) := by decide +kernel
theorem dX6_isIn_11 : decode cX6_isIn 11 = .ok (.goto 4, 3) := by decide +kernel
theorem dX6_isIn_14 : decode cX6_isIn 14 = .ok (.iconst 0, 1) := by decide +kernel
theorem dX6_isIn_15 : decode cX6_isIn 15 = .ok (.ireturn, 1) := by decide +kernel
set_option maxRecDepth 20000 in
theorem ggX6_isArea_X6_isIn : GoodIn wsX6_isArea wsX6_isIn := goodIn_r _ [5] (by decide +kernel) (by decide +kernel)
set_option maxRecDepth 20000 in
theorem gX6_isArea_X6_isIn : GoodIn wsX6_isArea (va_wsS RX6 57 yX6_isIn wsX6_isIn) := goodIn_app (goodIn_of _ (by decide +kernel)) ggX6_isArea_X6_isIn
theorem dX6_isArea_0 : decode cX6_isArea 0 = .ok (.iload_n 1, 1) := by decide +kernel
theorem dX6_isArea_1 : decode cX6_isArea 1 = .ok (.iconst 0, 1) := by decide +kernel
theorem dX6_isArea_2 : decode cX6_isArea 2 = .ok (.aload_n 0, 1) := by decide +kernel
theorem dX6_isArea_3 : decode cX6_isArea 3 = .ok (.getfield 54, 3) := by decide +kernel
theorem dX6_isArea_6 : decode cX6_isArea 6 = .ok (.iconst 1, 1) := by decide +kernel
theorem dX6_isArea_7 : decode cX6_isArea 7 = .ok (.isub, 1) := by decide +kernel
theorem dX6_isArea_8 : decode cX6_isArea 8 = .ok (.invokestatic 57, 3) := by decide +kernel
theorem dX6_isArea_11 : decode cX6_isArea 11 = .ok (.ireturn, 1) := by decide +kernel
set_option maxRecDepth 20000 in
theorem ggX6_isItem_X6_isIn : GoodIn wsX6_isItem wsX6_isIn := goodIn_r _ [5] (by decide +kernel) (by decide +kernel)
set_option maxRecDepth 20000 in
theorem gX6_isItem_X6_isIn : GoodIn wsX6_isItem (va_wsS RX6 57 yX6_isIn wsX6_isIn) := goodIn_app (goodIn_of _ (by decide +kernel)) ggX6_isItem_X6_isIn
theorem dX6_isItem_0 : decode cX6_isItem 0 = .ok (.iload_n 1, 1) := by decide +kernel
theorem dX6_isItem_1 : decode cX6_isItem 1 = .ok (.iconst 0, 1) := by decide +kernel
theorem dX6_isItem_2 : decode cX6_isItem 2 = .ok (.aload_n 0, 1) := by decide +kernel
theorem dX6_isItem_3 : decode cX6_isItem 3 = .ok (.getfield 61, 3) := by decide +kernel
theorem dX6_isItem_6 : decode cX6_isItem 6 = .ok (.iconst 1, 1) := by decide +kernel
theorem dX6_isItem_7 : decode cX6_isItem 7 = .ok (.isub, 1) := by decide +kernel
theorem dX6_isItem_8 : decode cX6_isItem 8 = .ok (.invokestatic 57, 3) := by decide +kernel
theorem dX6_isItem_11 : decode cX6_isItem 11 = .ok (.ireturn, 1) := by decide +kernel
set_option maxRecDepth 20000 in
theorem ggX6_isCell_X6_isArea : GoodIn wsX6_isCell wsX6_isArea := goodIn_r _ [5, 6, 7, 8, 4, 9, 15, 16, 17, 18, 19, 20, 21, 22, 23, 24, 25, 26, 27, 28, 29, 30, 31, 32, 33, 34, 35] (by decide +kernel) (by decide +kernel)
set_option maxRecDepth 20000 in
theorem gX6_isCell_X6_isArea : GoodIn wsX6_isCell (wsV RX6 64 RX6 yX6_isArea wsX6_isArea) := goodIn_app (goodIn_of _ (by decide +kernel)) ggX6_isCell_X6_isArea
set_option maxRecDepth 20000 in
theorem ggX6_isCell_X6_isItem : GoodIn wsX6_isCell wsX6_isItem := goodIn_r _ [13, 14, 7, 8, 4, 9, 15, 16, 17, 18, 19, 20, 21, 22, 23, 24, 25, 26, 27, 28, 29, 30, 31, 32, 33, 34, 35] (by decide +kernel) (by decide +kernel)
set_option maxRecDepth 20000 in
theorem gX6_isCell_X6_isItem : GoodIn wsX6_isCell (wsV RX6 68 RX6 yX6_isItem wsX6_isItem) := goodIn_app (goodIn_of _ (by decide +kernel)) ggX6_isCell_X6_isItem
set_option maxRecDepth 20000 in
theorem ggX6_isCell_X6_isIn : GoodIn wsX6_isCell wsX6_isIn := goodIn_r _ [9] (by decide +kernel) (by decide +kernel)
set_option maxRecDepth 20000 in
theorem gX6_isCell_X6_isIn : GoodIn wsX6_isCell (va_wsS RX6 57 yX6_isIn wsX6_isIn) := goodIn_app (goodIn_of _ (by decide +kernel)) ggX6_isCell_X6_isIn
theorem dX6_isCell_0 : decode cX6_isCell 0 = .ok (.aload_n 0, 1) := by decide +kernel
theorem dX6_isCell_1 : decode cX6_isCell 1 = .ok (.iload_n 1, 1) := by decide +kernel
theorem dX6_isCell_2 : decode cX6_isCell 2 = .ok (.invokevirtual 64, 3) := by decide +kernel
theorem dX6_isCell_5 : decode cX6_isCell 5 = .ok (.ifCond .eq 25, 3) := by decide +kernel
theorem dX6_isCell_8 : decode cX6_isCell 8 = .ok (.aload_n 0, 1) := by decide +kernel
theorem dX6_isCell_9 : decode cX6_isCell 9 = .ok (.iload_n 2, 1) := by decide +kernel
theorem dX6_isCell_10 : decode cX6_isCell 10 = .ok (.invokevirtual 68, 3) := by decide +kernel
theorem dX6_isCell_13 : decode cX6_isCell 13 = .ok (.ifCond .eq 17, 3) := by decide +kernel
theorem dX6_isCell_16 : decode cX6_isCell 16 = .ok (.iload_n 3, 1) := by decide +kernel
theorem dX6_isCell_17 : decode cX6_isCell 17 = .ok (.iconst 0, 1) := by decide +kernel
theorem dX6_isCell_18 : decode cX6_isCell 18 = .ok (.bipush 11, 2) := by decide +kernel
theorem dX6_isCell_20 : decode cX6_isCell 20 = .ok (.invokestatic 57, 3) := by decide +kernel
theorem dX6_isCell_23 : decode cX6_isCell 23 = .ok (.ifCond .eq 7, 3) := by decide +kernel
theorem dX6_isCell_26 : decode cX6_isCell 26 = .ok (.iconst 1, 1) := by decide +kernel
theorem dX6_isCell_27 : decode cX6_isCell 27 = .ok (.goto 4, 3) := by decide +kernel
theorem dX6_isCell_30 : decode cX6_isCell 30 = .ok (.iconst 0, 1) := by decide +kernel
theorem dX6_isCell_31 : decode cX6_isCell 31 = .ok (.ireturn, 1) := by decide +kernel
theorem dX6_cellOf_0 : decode cX6_cellOf 0 = .ok (.sipush 140, 3) := by decide +kernel
theorem dX6_cellOf_3 : decode cX6_cellOf 3 = .ok (.iload_n 2, 1) := by decide +kernel
theorem dX6_cellOf_4 : decode cX6_cellOf 4 = .ok (.imul, 1) := by decide +kernel
theorem dX6_cellOf_5 : decode cX6_cellOf 5 = .ok (.bipush 10, 2) := by decide +kernel
theorem dX6_cellOf_7 : decode cX6_cellOf 7 = .ok (.iload_n 0, 1) := by decide +kernel
theorem dX6_cellOf_8 : decode cX6_cellOf 8 = .ok (.imul, 1) := by decide +kernel
theorem dX6_cellOf_9 : decode cX6_cellOf 9 = .ok (.iadd, 1) := by decide +kernel
theorem dX6_cellOf_10 : decode cX6_cellOf 10 = .ok (.iload_n 1, 1) := by decide +kernel
theorem dX6_cellOf_11 : decode cX6_cellOf 11 = .ok (.iadd, 1) := by decide +kernel
theorem dX6_cellOf_12 : decode cX6_cellOf 12 = .ok (.ireturn, 1) := by decide +kernel
set_option maxRecDepth 20000 in
theorem ggX6_area_X6_isArea : GoodIn wsX6_area wsX6_isArea := goodIn_r _ [8, 1, 9, 10, 7, 11, 12, 13, 14, 15, 16, 17, 18, 19, 20, 21, 22, 23, 24, 25, 26, 27, 28, 29, 30, 31, 32] (by decide +kernel) (by decide +kernel)
set_option maxRecDepth 20000 in
theorem gX6_area_X6_isArea : GoodIn wsX6_area (wsV RX6 64 RX6 yX6_isArea wsX6_isArea) := goodIn_app (goodIn_of _ (by decide +kernel)) ggX6_area_X6_isArea
theorem dX6_area_0 : decode cX6_area 0 = .ok (.aload_n 0, 1) := by decide +kernel
theorem dX6_area_1 : decode cX6_area 1 = .ok (.iload_n 1, 1) := by decide +kernel
theorem dX6_area_2 : decode cX6_area 2 = .ok (.iconst (-1), 1) := by decide +kernel
theorem dX6_area_3 : decode cX6_area 3 = .ok (.if_icmp .eq 15, 3) := by decide +kernel
theorem dX6_area_6 : decode cX6_area 6 = .ok (.aload_n 0, 1) := by decide +kernel
theorem dX6_area_7 : decode cX6_area 7 = .ok (.iload_n 1, 1) := by decide +kernel
theorem dX6_area_8 : decode cX6_area 8 = .ok (.invokevirtual 64, 3) := by decide +kernel
theorem dX6_area_11 : decode cX6_area 11 = .ok (.ifCond .ne 7, 3) := by decide +kernel
theorem dX6_area_14 : decode cX6_area 14 = .ok (.iconst 1, 1) := by decide +kernel
theorem dX6_area_15 : decode cX6_area 15 = .ok (.goto 17, 3) := by decide +kernel
theorem dX6_area_18 : decode cX6_area 18 = .ok (.aload_n 0, 1) := by decide +kernel
theorem dX6_area_19 : decode cX6_area 19 = .ok (.getfield 54, 3) := by decide +kernel
theorem dX6_area_22 : decode cX6_area 22 = .ok (.bipush 14, 2) := by decide +kernel
theorem dX6_area_24 : decode cX6_area 24 = .ok (.if_icmp .ne 7, 3) := by decide +kernel
theorem dX6_area_27 : decode cX6_area 27 = .ok (.iconst 2, 1) := by decide +kernel
theorem dX6_area_28 : decode cX6_area 28 = .ok (.goto 4, 3) := by decide +kernel
theorem dX6_area_31 : decode cX6_area 31 = .ok (.iconst 0, 1) := by decide +kernel
theorem dX6_area_32 : decode cX6_area 32 = .ok (.putfield 50, 3) := by decide +kernel
theorem dX6_area_35 : decode cX6_area 35 = .ok (.aload_n 0, 1) := by decide +kernel
theorem dX6_area_36 : decode cX6_area 36 = .ok (.getfield 50, 3) := by decide +kernel
theorem dX6_area_39 : decode cX6_area 39 = .ok (.ifCond .le 5, 3) := by decide +kernel
theorem dX6_area_42 : decode cX6_area 42 = .ok (.iconst 0, 1) := by decide +kernel
theorem dX6_area_43 : decode cX6_area 43 = .ok (.ireturn, 1) := by decide +kernel
theorem dX6_area_44 : decode cX6_area 44 = .ok (.aload_n 0, 1) := by decide +kernel
theorem dX6_area_45 : decode cX6_area 45 = .ok (.getfield 7, 3) := by decide +kernel
theorem dX6_area_48 : decode cX6_area 48 = .ok (.aload_n 0, 1) := by decide +kernel
theorem dX6_area_49 : decode cX6_area 49 = .ok (.getfield 54, 3) := by decide +kernel
theorem dX6_area_52 : decode cX6_area 52 = .ok (.iload_n 1, 1) := by decide +kernel
theorem dX6_area_53 : decode cX6_area 53 = .ok (.iastore, 1) := by decide +kernel
theorem dX6_area_54 : decode cX6_area 54 = .ok (.aload_n 0, 1) := by decide +kernel
theorem dX6_area_55 : decode cX6_area 55 = .ok (.dup, 1) := by decide +kernel
theorem dX6_area_56 : decode cX6_area 56 = .ok (.getfield 54, 3) := by decide +kernel
theorem dX6_area_59 : decode cX6_area 59 = .ok (.iconst 1, 1) := by decide +kernel
theorem dX6_area_60 : decode cX6_area 60 = .ok (.iadd, 1) := by decide +kernel
theorem dX6_area_61 : decode cX6_area 61 = .ok (.putfield 54, 3) := by decide +kernel
theorem dX6_area_64 : decode cX6_area 64 = .ok (.aload_n 0, 1) := by decide +kernel
theorem dX6_area_65 : decode cX6_area 65 = .ok (.getfield 54, 3) := by decide +kernel
theorem dX6_area_68 : decode cX6_area 68 = .ok (.iconst 1, 1) := by decide +kernel
theorem dX6_area_69 : decode cX6_area 69 = .ok (.isub, 1) := by decide +kernel
theorem dX6_area_70 : decode cX6_area 70 = .ok (.ireturn, 1) := by decide +kernel
set_option maxRecDepth 20000 in
theorem ggX6_item_X6_isItem : GoodIn wsX6_item wsX6_isItem := goodIn_r _ [8, 1, 9, 10, 7, 11, 12, 13, 14, 15, 16, 17, 18, 19, 20, 21, 22, 23, 24, 25, 26, 27, 28, 29, 30, 31, 32] (by decide +kernel) (by decide +kernel)
set_option maxRecDepth 20000 in
theorem gX6_item_X6_isItem : GoodIn wsX6_item (wsV RX6 68 RX6 yX6_isItem wsX6_isItem) := goodIn_app (goodIn_of _ (by decide +kernel)) ggX6_item_X6_isItem
theorem dX6_item_0 : decode cX6_item 0 = .ok (.aload_n 0, 1) := by decide +kernel
theorem dX6_item_1 : decode cX6_item 1 = .ok (.iload_n 1, 1) := by decide +kernel
theorem dX6_item_2 : decode cX6_item 2 = .ok (.iconst (-1), 1) := by decide +kernel
theorem dX6_item_3 : decode cX6_item 3 = .ok (.if_icmp .eq 15, 3) := by decide +kernel
theorem dX6_item_6 : decode cX6_item 6 = .ok (.aload_n 0, 1) := by decide +kernel
theorem dX6_item_7 : decode cX6_item 7 = .ok (.iload_n 1, 1) := by decide +kernel
theorem dX6_item_8 : decode cX6_item 8 = .ok (.invokevirtual 68, 3) := by decide +kernel
theorem dX6_item_11 : decode cX6_item 11 = .ok (.ifCond .ne 7, 3) := by decide +kernel
theorem dX6_item_14 : decode cX6_item 14 = .ok (.iconst 1, 1) := by decide +kernel
theorem dX6_item_15 : decode cX6_item 15 = .ok (.goto 17, 3) := by decide +kernel
theorem dX6_item_18 : decode cX6_item 18 = .ok (.aload_n 0, 1) := by decide +kernel
theorem dX6_item_19 : decode cX6_item 19 = .ok (.getfield 61, 3) := by decide +kernel
theorem dX6_item_22 : decode cX6_item 22 = .ok (.bipush 10, 2) := by decide +kernel
theorem dX6_item_24 : decode cX6_item 24 = .ok (.if_icmp .ne 7, 3) := by decide +kernel
theorem dX6_item_27 : decode cX6_item 27 = .ok (.iconst 2, 1) := by decide +kernel
theorem dX6_item_28 : decode cX6_item 28 = .ok (.goto 4, 3) := by decide +kernel
theorem dX6_item_31 : decode cX6_item 31 = .ok (.iconst 0, 1) := by decide +kernel
theorem dX6_item_32 : decode cX6_item 32 = .ok (.putfield 50, 3) := by decide +kernel
theorem dX6_item_35 : decode cX6_item 35 = .ok (.aload_n 0, 1) := by decide +kernel
theorem dX6_item_36 : decode cX6_item 36 = .ok (.getfield 50, 3) := by decide +kernel
theorem dX6_item_39 : decode cX6_item 39 = .ok (.ifCond .le 5, 3) := by decide +kernel
theorem dX6_item_42 : decode cX6_item 42 = .ok (.iconst 0, 1) := by decide +kernel
theorem dX6_item_43 : decode cX6_item 43 = .ok (.ireturn, 1) := by decide +kernel
theorem dX6_item_44 : decode cX6_item 44 = .ok (.aload_n 0, 1) := by decide +kernel
theorem dX6_item_45 : decode cX6_item 45 = .ok (.getfield 13, 3) := by decide +kernel
theorem dX6_item_48 : decode cX6_item 48 = .ok (.aload_n 0, 1) := by decide +kernel
theorem dX6_item_49 : decode cX6_item 49 = .ok (.getfield 61, 3) := by decide +kernel
theorem dX6_item_52 : decode cX6_item 52 = .ok (.iload_n 1, 1) := by decide +kernel
theorem dX6_item_53 : decode cX6_item 53 = .ok (.iastore, 1) := by decide +kernel
theorem dX6_item_54 : decode cX6_item 54 = .ok (.aload_n 0, 1) := by decide +kernel
theorem dX6_item_55 : decode cX6_item 55 = .ok (.dup, 1) := by decide +kernel
theorem dX6_item_56 : decode cX6_item 56 = .ok (.getfield 61, 3) := by decide +kernel
theorem dX6_item_59 : decode cX6_item 59 = .ok (.iconst 1, 1) := by decide +kernel
theorem dX6_item_60 : decode cX6_item 60 = .ok (.iadd, 1) := by decide +kernel
theorem dX6_item_61 : decode cX6_item 61 = .ok (.putfield 61, 3) := by decide +kernel
theorem dX6_item_64 : decode cX6_item 64 = .ok (.aload_n 0, 1) := by decide +kernel
theorem dX6_item_65 : decode cX6_item 65 = .ok (.getfield 61, 3) := by decide +kernel
theorem dX6_item_68 : decode cX6_item 68 = .ok (.iconst 1, 1) := by decide +kernel
theorem dX6_item_69 : decode cX6_item 69 = .ok (.isub, 1) := by decide +kernel
theorem dX6_item_70 : decode cX6_item 70 = .ok (.ireturn, 1) := by decide +kernel
set_option maxRecDepth 20000 in
theorem ggX6_isSender_X6_isIn : GoodIn wsX6_isSender wsX6_isIn := goodIn_r _ [4] (by decide +kernel) (by decide +kernel)
set_option maxRecDepth 20000 in
theorem gX6_isSender_X6_isIn : GoodIn wsX6_isSender (va_wsS RX6 57 yX6_isIn wsX6_isIn) := goodIn_app (goodIn_of _ (by decide +kernel)) ggX6_isSender_X6_isIn
theorem dX6_isSender_0 : decode cX6_isSender 0 = .ok (.iload_n 0, 1) := by decide +kernel
theorem dX6_isSender_1 : decode cX6_isSender 1 = .ok (.iconst 0, 1) := by decide +kernel
theorem dX6_isSender_2 : decode cX6_isSender 2 = .ok (.iconst 3, 1) := by decide +kernel
theorem dX6_isSender_3 : decode cX6_isSender 3 = .ok (.invokestatic 57, 3) := by decide +kernel
theorem dX6_isSender_6 : decode cX6_isSender 6 = .ok (.ireturn, 1) := by decide +kernel
set_option maxRecDepth 20000 in
theorem ggX6_agree_X6_isSender : GoodIn wsX6_agree wsX6_isSender := goodIn_r _ [6, 7, 8, 5, 9] (by decide +kernel) (by decide +kernel)
set_option maxRecDepth 20000 in
theorem gX6_agree_X6_isSender : GoodIn wsX6_agree (va_wsS RX6 71 yX6_isSender wsX6_isSender) := goodIn_app (goodIn_of _ (by decide +kernel)) ggX6_agree_X6_isSender
set_option maxRecDepth 20000 in
theorem ggX6_agree_X6_isArea : GoodIn wsX6_agree wsX6_isArea := goodIn_r _ [13, 14, 7, 8, 5, 9, 15, 16, 17, 18, 19, 20, 21, 22, 23, 24, 25, 26, 27, 28, 29, 30, 31, 32, 33, 34, 35] (by decide +kernel) (by decide +kernel)
set_option maxRecDepth 20000 in
theorem gX6_agree_X6_isArea : GoodIn wsX6_agree (wsV RX6 64 RX6 yX6_isArea wsX6_isArea) := goodIn_app (goodIn_of _ (by decide +kernel)) ggX6_agree_X6_isArea
theorem dX6_agree_0 : decode cX6_agree 0 = .ok (.aload_n 0, 1) := by decide +kernel
theorem dX6_agree_1 : decode cX6_agree 1 = .ok (.iload_n 1, 1) := by decide +kernel
theorem dX6_agree_2 : decode cX6_agree 2 = .ok (.invokestatic 71, 3) := by decide +kernel
theorem dX6_agree_5 : decode cX6_agree 5 = .ok (.ifCond .eq 15, 3) := by decide +kernel
theorem dX6_agree_8 : decode cX6_agree 8 = .ok (.aload_n 0, 1) := by decide +kernel
theorem dX6_agree_9 : decode cX6_agree 9 = .ok (.iload_n 2, 1) := by decide +kernel
theorem dX6_agree_10 : decode cX6_agree 10 = .ok (.invokevirtual 64, 3) := by decide +kernel
theorem dX6_agree_13 : decode cX6_agree 13 = .ok (.ifCond .eq 7, 3) := by decide +kernel
theorem dX6_agree_16 : decode cX6_agree 16 = .ok (.iconst 0, 1) := by decide +kernel
theorem dX6_agree_17 : decode cX6_agree 17 = .ok (.goto 4, 3) := by decide +kernel
theorem dX6_agree_20 : decode cX6_agree 20 = .ok (.iconst 1, 1) := by decide +kernel
theorem dX6_agree_21 : decode cX6_agree 21 = .ok (.putfield 50, 3) := by decide +kernel
theorem dX6_agree_24 : decode cX6_agree 24 = .ok (.aload_n 0, 1) := by decide +kernel
theorem dX6_agree_25 : decode cX6_agree 25 = .ok (.getfield 50, 3) := by decide +kernel
theorem dX6_agree_28 : decode cX6_agree 28 = .ok (.ifCond .le 5, 3) := by decide +kernel
theorem dX6_agree_31 : decode cX6_agree 31 = .ok (.iconst 0, 1) := by decide +kernel
theorem dX6_agree_32 : decode cX6_agree 32 = .ok (.ireturn, 1) := by decide +kernel
theorem dX6_agree_33 : decode cX6_agree 33 = .ok (.aload_n 0, 1) := by decide +kernel
theorem dX6_agree_34 : decode cX6_agree 34 = .ok (.getfield 16, 3) := by decide +kernel
theorem dX6_agree_37 : decode cX6_agree 37 = .ok (.bipush 14, 2) := by decide +kernel
theorem dX6_agree_39 : decode cX6_agree 39 = .ok (.iload_n 1, 1) := by decide +kernel
theorem dX6_agree_40 : decode cX6_agree 40 = .ok (.imul, 1) := by decide +kernel
theorem dX6_agree_41 : decode cX6_agree 41 = .ok (.iload_n 2, 1) := by decide +kernel
theorem dX6_agree_42 : decode cX6_agree 42 = .ok (.iadd, 1) := by decide +kernel
theorem dX6_agree_43 : decode cX6_agree 43 = .ok (.baload, 1) := by decide +kernel
theorem dX6_agree_44 : decode cX6_agree 44 = .ok (.istore 4, 2) := by decide +kernel
theorem dX6_agree_46 : decode cX6_agree 46 = .ok (.aload_n 0, 1) := by decide +kernel
theorem dX6_agree_47 : decode cX6_agree 47 = .ok (.getfield 16, 3) := by decide +kernel
theorem dX6_agree_50 : decode cX6_agree 50 = .ok (.bipush 14, 2) := by decide +kernel
theorem dX6_agree_52 : decode cX6_agree 52 = .ok (.iload_n 1, 1) := by decide +kernel
theorem dX6_agree_53 : decode cX6_agree 53 = .ok (.imul, 1) := by decide +kernel
theorem dX6_agree_54 : decode cX6_agree 54 = .ok (.iload_n 2, 1) := by decide +kernel
theorem dX6_agree_55 : decode cX6_agree 55 = .ok (.iadd, 1) := by decide +kernel
theorem dX6_agree_56 : decode cX6_agree 56 = .ok (.iload_n 3, 1) := by decide +kernel
theorem dX6_agree_57 : decode cX6_agree 57 = .ok (.bastore, 1) := by decide +kernel
theorem dX6_agree_58 : decode cX6_agree 58 = .ok (.iload 4, 2) := by decide +kernel
theorem dX6_agree_60 : decode cX6_agree 60 = .ok (.iload_n 3, 1) := by decide +kernel
theorem dX6_agree_61 : decode cX6_agree 61 = .ok (.if_icmp .eq 7, 3) := by decide +kernel
theorem dX6_agree_64 : decode cX6_agree 64 = .ok (.iconst 1, 1) := by decide +kernel
theorem dX6_agree_65 : decode cX6_agree 65 = .ok (.goto 4, 3) := by decide +kernel
theorem dX6_agree_68 : decode cX6_agree 68 = .ok (.iconst 0, 1) := by decide +kernel
theorem dX6_agree_69 : decode cX6_agree 69 = .ok (.ireturn, 1) := by decide +kernel
theorem dX6_may_0 : decode cX6_may 0 = .ok (.iconst 0, 1) := by decide +kernel
theorem dX6_may_1 : decode cX6_may 1 = .ok (.istore_n 3, 1) := by decide +kernel
theorem dX6_may_2 : decode cX6_may 2 = .ok (.iload_n 2, 1) := by decide +kernel
end
section
theorem dX6_may_3 : decode cX6_may 3 = .ok (.istore 4, 2) := by decide +kernel
theorem dX6_may_5 : decode cX6_may 5 = .ok (.iload 4, 2) := by decide +kernel
theorem dX6_may_7 : decode cX6_may 7 = .ok (.iconst (-1), 1) := by decide +kernel
theorem dX6_may_8 : decode cX6_may 8 = .ok (.if_icmp .eq 30, 3) := by decide +kernel
theorem dX6_may_11 : decode cX6_may 11 = .ok (.iload_n 3, 1) := by decide +kernel
theorem dX6_may_12 : decode cX6_may 12 = .ok (.aload_n 0, 1) := by decide +kernel
theorem dX6_may_13 : decode cX6_may 13 = .ok (.getfield 16, 3) := by decide +kernel
theorem dX6_may_16 : decode cX6_may 16 = .ok (.bipush 14, 2) := by decide +kernel
theorem dX6_may_18 : decode cX6_may 18 = .ok (.iload_n 1, 1) := by decide +kernel
theorem dX6_may_19 : decode cX6_may 19 = .ok (.imul, 1) := by decide +kernel
theorem dX6_may_20 : decode cX6_may 20 = .ok (.iload 4, 2) := by decide +kernel
theorem dX6_may_22 : decode cX6_may 22 = .ok (.iadd, 1) := by decide +kernel
theorem dX6_may_23 : decode cX6_may 23 = .ok (.baload, 1) := by decide +kernel
theorem dX6_may_24 : decode cX6_may 24 = .ok (.ior, 1) := by decide +kernel
theorem dX6_may_25 : decode cX6_may 25 = .ok (.istore_n 3, 1) := by decide +kernel
theorem dX6_may_26 : decode cX6_may 26 = .ok (.aload_n 0, 1) := by decide +kernel
theorem dX6_may_27 : decode cX6_may 27 = .ok (.getfield 7, 3) := by decide +kernel
theorem dX6_may_30 : decode cX6_may 30 = .ok (.iload 4, 2) := by decide +kernel
theorem dX6_may_32 : decode cX6_may 32 = .ok (.iaload, 1) := by decide +kernel
theorem dX6_may_33 : decode cX6_may 33 = .ok (.istore 4, 2) := by decide +kernel
theorem dX6_may_35 : decode cX6_may 35 = .ok (.goto (-30), 3) := by decide +kernel
theorem dX6_may_38 : decode cX6_may 38 = .ok (.iload_n 3, 1) := by decide +kernel
theorem dX6_may_39 : decode cX6_may 39 = .ok (.ireturn, 1) := by decide +kernel
set_option maxRecDepth 20000 in
theorem ggX6_put_X6_isCell : GoodIn wsX6_put wsX6_isCell := goodIn_r _ [12, 13, 14, 15, 11, 16, 17, 18, 19, 20, 21, 22, 23, 24, 25, 29, 30, 31, 32, 33, 34, 35, 36, 37, 38, 39, 40, 41, 42, 43, 44, 45, 46, 47, 48, 49] (by decide +kernel) (by decide +kernel)
set_option maxRecDepth 20000 in
theorem gX6_put_X6_isCell : GoodIn wsX6_put (wsV RX6 74 RX6 yX6_isCell wsX6_isCell) := goodIn_app (goodIn_of _ (by decide +kernel)) ggX6_put_X6_isCell
set_option maxRecDepth 20000 in
theorem ggX6_put_X6_isIn : GoodIn wsX6_put wsX6_isIn := goodIn_r _ [20] (by decide +kernel) (by decide +kernel)
set_option maxRecDepth 20000 in
theorem gX6_put_X6_isIn : GoodIn wsX6_put (va_wsS RX6 57 yX6_isIn wsX6_isIn) := goodIn_app (goodIn_of _ (by decide +kernel)) ggX6_put_X6_isIn
set_option maxRecDepth 20000 in
theorem ggX6_put_X6_cellOf : GoodIn wsX6_put wsX6_cellOf := goodIn_r _ [28] (by decide +kernel) (by decide +kernel)
set_option maxRecDepth 20000 in
theorem gX6_put_X6_cellOf : GoodIn wsX6_put (va_wsS RX6 82 yX6_cellOf wsX6_cellOf) := goodIn_app (goodIn_of _ (by decide +kernel)) ggX6_put_X6_cellOf
theorem dX6_put_0 : decode cX6_put 0 = .ok (.aload_n 0, 1) := by decide +kernel
theorem dX6_put_1 : decode cX6_put 1 = .ok (.aload_n 0, 1) := by decide +kernel
theorem dX6_put_2 : decode cX6_put 2 = .ok (.iload_n 2, 1) := by decide +kernel
theorem dX6_put_3 : decode cX6_put 3 = .ok (.iload_n 3, 1) := by decide +kernel
theorem dX6_put_4 : decode cX6_put 4 = .ok (.iload 4, 2) := by decide +kernel
theorem dX6_put_6 : decode cX6_put 6 = .ok (.invokevirtual 74, 3) := by decide +kernel
theorem dX6_put_9 : decode cX6_put 9 = .ok (.ifCond .ne 7, 3) := by decide +kernel
theorem dX6_put_12 : decode cX6_put 12 = .ok (.iconst 1, 1) := by decide +kernel
theorem dX6_put_13 : decode cX6_put 13 = .ok (.goto 42, 3) := by decide +kernel
theorem dX6_put_16 : decode cX6_put 16 = .ok (.iload_n 1, 1) := by decide +kernel
theorem dX6_put_17 : decode cX6_put 17 = .ok (.iconst 0, 1) := by decide +kernel
theorem dX6_put_18 : decode cX6_put 18 = .ok (.iconst 2, 1) := by decide +kernel
theorem dX6_put_19 : decode cX6_put 19 = .ok (.invokestatic 57, 3) := by decide +kernel
theorem dX6_put_22 : decode cX6_put 22 = .ok (.ifCond .eq 15, 3) := by decide +kernel
theorem dX6_put_25 : decode cX6_put 25 = .ok (.iload 5, 2) := by decide +kernel
theorem dX6_put_27 : decode cX6_put 27 = .ok (.ldc 77, 2) := by decide +kernel
theorem dX6_put_29 : decode cX6_put 29 = .ok (.ldc 78, 2) := by decide +kernel
theorem dX6_put_31 : decode cX6_put 31 = .ok (.invokestatic 57, 3) := by decide +kernel
theorem dX6_put_34 : decode cX6_put 34 = .ok (.ifCond .ne 7, 3) := by decide +kernel
theorem dX6_put_37 : decode cX6_put 37 = .ok (.iconst 2, 1) := by decide +kernel
theorem dX6_put_38 : decode cX6_put 38 = .ok (.goto 17, 3) := by decide +kernel
theorem dX6_put_41 : decode cX6_put 41 = .ok (.aload_n 0, 1) := by decide +kernel
theorem dX6_put_42 : decode cX6_put 42 = .ok (.getfield 79, 3) := by decide +kernel
theorem dX6_put_45 : decode cX6_put 45 = .ok (.bipush 16, 2) := by decide +kernel
theorem dX6_put_47 : decode cX6_put 47 = .ok (.if_icmp .ne 7, 3) := by decide +kernel
theorem dX6_put_50 : decode cX6_put 50 = .ok (.iconst 3, 1) := by decide +kernel
theorem dX6_put_51 : decode cX6_put 51 = .ok (.goto 4, 3) := by decide +kernel
theorem dX6_put_54 : decode cX6_put 54 = .ok (.iconst 0, 1) := by decide +kernel
theorem dX6_put_55 : decode cX6_put 55 = .ok (.putfield 50, 3) := by decide +kernel
theorem dX6_put_58 : decode cX6_put 58 = .ok (.aload_n 0, 1) := by decide +kernel
theorem dX6_put_59 : decode cX6_put 59 = .ok (.getfield 50, 3) := by decide +kernel
theorem dX6_put_62 : decode cX6_put 62 = .ok (.ifCond .le 5, 3) := by decide +kernel
theorem dX6_put_65 : decode cX6_put 65 = .ok (.iconst 0, 1) := by decide +kernel
theorem dX6_put_66 : decode cX6_put 66 = .ok (.ireturn, 1) := by decide +kernel
theorem dX6_put_67 : decode cX6_put 67 = .ok (.aload_n 0, 1) := by decide +kernel
theorem dX6_put_68 : decode cX6_put 68 = .ok (.getfield 20, 3) := by decide +kernel
theorem dX6_put_71 : decode cX6_put 71 = .ok (.aload_n 0, 1) := by decide +kernel
theorem dX6_put_72 : decode cX6_put 72 = .ok (.getfield 79, 3) := by decide +kernel
theorem dX6_put_75 : decode cX6_put 75 = .ok (.iload_n 1, 1) := by decide +kernel
theorem dX6_put_76 : decode cX6_put 76 = .ok (.iastore, 1) := by decide +kernel
theorem dX6_put_77 : decode cX6_put 77 = .ok (.aload_n 0, 1) := by decide +kernel
theorem dX6_put_78 : decode cX6_put 78 = .ok (.getfield 23, 3) := by decide +kernel
theorem dX6_put_81 : decode cX6_put 81 = .ok (.aload_n 0, 1) := by decide +kernel
theorem dX6_put_82 : decode cX6_put 82 = .ok (.getfield 79, 3) := by decide +kernel
theorem dX6_put_85 : decode cX6_put 85 = .ok (.iload_n 2, 1) := by decide +kernel
theorem dX6_put_86 : decode cX6_put 86 = .ok (.iload_n 3, 1) := by decide +kernel
theorem dX6_put_87 : decode cX6_put 87 = .ok (.iload 4, 2) := by decide +kernel
theorem dX6_put_89 : decode cX6_put 89 = .ok (.invokestatic 82, 3) := by decide +kernel
theorem dX6_put_92 : decode cX6_put 92 = .ok (.iastore, 1) := by decide +kernel
theorem dX6_put_93 : decode cX6_put 93 = .ok (.aload_n 0, 1) := by decide +kernel
theorem dX6_put_94 : decode cX6_put 94 = .ok (.getfield 26, 3) := by decide +kernel
theorem dX6_put_97 : decode cX6_put 97 = .ok (.aload_n 0, 1) := by decide +kernel
theorem dX6_put_98 : decode cX6_put 98 = .ok (.getfield 79, 3) := by decide +kernel
theorem dX6_put_101 : decode cX6_put 101 = .ok (.iload 5, 2) := by decide +kernel
theorem dX6_put_103 : decode cX6_put 103 = .ok (.iastore, 1) := by decide +kernel
theorem dX6_put_104 : decode cX6_put 104 = .ok (.aload_n 0, 1) := by decide +kernel
theorem dX6_put_105 : decode cX6_put 105 = .ok (.dup, 1) := by decide +kernel
theorem dX6_put_106 : decode cX6_put 106 = .ok (.getfield 79, 3) := by decide +kernel
theorem dX6_put_109 : decode cX6_put 109 = .ok (.iconst 1, 1) := by decide +kernel
theorem dX6_put_110 : decode cX6_put 110 = .ok (.iadd, 1) := by decide +kernel
theorem dX6_put_111 : decode cX6_put 111 = .ok (.putfield 79, 3) := by decide +kernel
theorem dX6_put_114 : decode cX6_put 114 = .ok (.aload_n 0, 1) := by decide +kernel
theorem dX6_put_115 : decode cX6_put 115 = .ok (.getfield 79, 3) := by decide +kernel
theorem dX6_put_118 : decode cX6_put 118 = .ok (.ireturn, 1) := by decide +kernel
theorem dX6_wipe_0 : decode cX6_wipe 0 = .ok (.aload_n 0, 1) := by decide +kernel
theorem dX6_wipe_1 : decode cX6_wipe 1 = .ok (.iconst 0, 1) := by decide +kernel
theorem dX6_wipe_2 : decode cX6_wipe 2 = .ok (.putfield 50, 3) := by decide +kernel
theorem dX6_wipe_5 : decode cX6_wipe 5 = .ok (.aload_n 0, 1) := by decide +kernel
theorem dX6_wipe_6 : decode cX6_wipe 6 = .ok (.getfield 79, 3) := by decide +kernel
theorem dX6_wipe_9 : decode cX6_wipe 9 = .ok (.istore_n 1, 1) := by decide +kernel
theorem dX6_wipe_10 : decode cX6_wipe 10 = .ok (.aload_n 0, 1) := by decide +kernel
theorem dX6_wipe_11 : decode cX6_wipe 11 = .ok (.iconst 0, 1) := by decide +kernel
theorem dX6_wipe_12 : decode cX6_wipe 12 = .ok (.putfield 79, 3) := by decide +kernel
theorem dX6_wipe_15 : decode cX6_wipe 15 = .ok (.iload_n 1, 1) := by decide +kernel
theorem dX6_wipe_16 : decode cX6_wipe 16 = .ok (.ireturn, 1) := by decide +kernel
theorem dX6_figureOn_0 : decode cX6_figureOn 0 = .ok (.ldc 86, 2) := by decide +kernel
theorem dX6_figureOn_2 : decode cX6_figureOn 2 = .ok (.istore_n 3, 1) := by decide +kernel
theorem dX6_figureOn_3 : decode cX6_figureOn 3 = .ok (.iconst 0, 1) := by decide +kernel
theorem dX6_figureOn_4 : decode cX6_figureOn 4 = .ok (.istore 4, 2) := by decide +kernel
theorem dX6_figureOn_6 : decode cX6_figureOn 6 = .ok (.iload 4, 2) := by decide +kernel
theorem dX6_figureOn_8 : decode cX6_figureOn 8 = .ok (.aload_n 0, 1) := by decide +kernel
theorem dX6_figureOn_9 : decode cX6_figureOn 9 = .ok (.getfield 87, 3) := by decide +kernel
theorem dX6_figureOn_12 : decode cX6_figureOn 12 = .ok (.if_icmp .ge 43, 3) := by decide +kernel
theorem dX6_figureOn_15 : decode cX6_figureOn 15 = .ok (.aload_n 0, 1) := by decide +kernel
theorem dX6_figureOn_16 : decode cX6_figureOn 16 = .ok (.getfield 32, 3) := by decide +kernel
theorem dX6_figureOn_19 : decode cX6_figureOn 19 = .ok (.iload 4, 2) := by decide +kernel
theorem dX6_figureOn_21 : decode cX6_figureOn 21 = .ok (.iaload, 1) := by decide +kernel
theorem dX6_figureOn_22 : decode cX6_figureOn 22 = .ok (.iload_n 1, 1) := by decide +kernel
theorem dX6_figureOn_23 : decode cX6_figureOn 23 = .ok (.if_icmp .ne 24, 3) := by decide +kernel
theorem dX6_figureOn_26 : decode cX6_figureOn 26 = .ok (.aload_n 0, 1) := by decide +kernel
theorem dX6_figureOn_27 : decode cX6_figureOn 27 = .ok (.getfield 35, 3) := by decide +kernel
theorem dX6_figureOn_30 : decode cX6_figureOn 30 = .ok (.iload 4, 2) := by decide +kernel
theorem dX6_figureOn_32 : decode cX6_figureOn 32 = .ok (.iaload, 1) := by decide +kernel
theorem dX6_figureOn_33 : decode cX6_figureOn 33 = .ok (.iload_n 2, 1) := by decide +kernel
theorem dX6_figureOn_34 : decode cX6_figureOn 34 = .ok (.if_icmp .gt 13, 3) := by decide +kernel
theorem dX6_figureOn_37 : decode cX6_figureOn 37 = .ok (.aload_n 0, 1) := by decide +kernel
theorem dX6_figureOn_38 : decode cX6_figureOn 38 = .ok (.getfield 38, 3) := by decide +kernel
theorem dX6_figureOn_41 : decode cX6_figureOn 41 = .ok (.iload 4, 2) := by decide +kernel
theorem dX6_figureOn_43 : decode cX6_figureOn 43 = .ok (.iaload, 1) := by decide +kernel
theorem dX6_figureOn_44 : decode cX6_figureOn 44 = .ok (.goto 4, 3) := by decide +kernel
theorem dX6_figureOn_47 : decode cX6_figureOn 47 = .ok (.iload_n 3, 1) := by decide +kernel
theorem dX6_figureOn_48 : decode cX6_figureOn 48 = .ok (.istore_n 3, 1) := by decide +kernel
theorem dX6_figureOn_49 : decode cX6_figureOn 49 = .ok (.iinc 4 1, 3) := by decide +kernel
theorem dX6_figureOn_52 : decode cX6_figureOn 52 = .ok (.goto (-46), 3) := by decide +kernel
theorem dX6_figureOn_55 : decode cX6_figureOn 55 = .ok (.iload_n 3, 1) := by decide +kernel
theorem dX6_figureOn_56 : decode cX6_figureOn 56 = .ok (.ireturn, 1) := by decide +kernel
set_option maxRecDepth 20000 in
theorem ggX6_judges_X6_figureOn : GoodIn wsX6_judges wsX6_figureOn := goodIn_r _ [10, 4, 11, 12, 13, 14, 21, 22, 23, 24, 25, 26, 27, 28, 29, 30, 31, 32, 33, 34, 35, 36, 37, 38, 39, 40, 41] (by decide +kernel) (by decide +kernel)
set_option maxRecDepth 20000 in
theorem gX6_judges_X6_figureOn : GoodIn wsX6_judges (wsV RX6 93 RX6 yX6_figureOn wsX6_figureOn) := goodIn_app (goodIn_of _ (by decide +kernel)) ggX6_judges_X6_figureOn
set_option maxRecDepth 20000 in
theorem ggX6_judges_X6_may : GoodIn wsX6_judges wsX6_may := goodIn_r _ [18, 19, 20, 21, 22, 23, 24, 25, 26, 27, 28, 29, 30, 31, 32, 33, 34, 35, 36, 37, 38, 39, 40, 41] (by decide +kernel) (by decide +kernel)
set_option maxRecDepth 20000 in
theorem gX6_judges_X6_may : GoodIn wsX6_judges (wsV RX6 97 RX6 yX6_may wsX6_may) := goodIn_app (goodIn_of _ (by decide +kernel)) ggX6_judges_X6_may
theorem dX6_judges_0 : decode cX6_judges 0 = .ok (.aload_n 0, 1) := by decide +kernel
theorem dX6_judges_1 : decode cX6_judges 1 = .ok (.getfield 23, 3) := by decide +kernel
theorem dX6_judges_4 : decode cX6_judges 4 = .ok (.iload_n 2, 1) := by decide +kernel
theorem dX6_judges_5 : decode cX6_judges 5 = .ok (.iaload, 1) := by decide +kernel
theorem dX6_judges_6 : decode cX6_judges 6 = .ok (.istore_n 3, 1) := by decide +kernel
theorem dX6_judges_7 : decode cX6_judges 7 = .ok (.aload_n 0, 1) := by decide +kernel
theorem dX6_judges_8 : decode cX6_judges 8 = .ok (.getfield 20, 3) := by decide +kernel
theorem dX6_judges_11 : decode cX6_judges 11 = .ok (.iload_n 2, 1) := by decide +kernel
theorem dX6_judges_12 : decode cX6_judges 12 = .ok (.iaload, 1) := by decide +kernel
theorem dX6_judges_13 : decode cX6_judges 13 = .ok (.istore 4, 2) := by decide +kernel
theorem dX6_judges_15 : decode cX6_judges 15 = .ok (.aload_n 0, 1) := by decide +kernel
theorem dX6_judges_16 : decode cX6_judges 16 = .ok (.iload_n 3, 1) := by decide +kernel
theorem dX6_judges_17 : decode cX6_judges 17 = .ok (.aload_n 0, 1) := by decide +kernel
theorem dX6_judges_18 : decode cX6_judges 18 = .ok (.getfield 90, 3) := by decide +kernel
theorem dX6_judges_21 : decode cX6_judges 21 = .ok (.invokevirtual 93, 3) := by decide +kernel
theorem dX6_judges_24 : decode cX6_judges 24 = .ok (.istore 5, 2) := by decide +kernel
theorem dX6_judges_26 : decode cX6_judges 26 = .ok (.aload_n 0, 1) := by decide +kernel
theorem dX6_judges_27 : decode cX6_judges 27 = .ok (.iload_n 1, 1) := by decide +kernel
theorem dX6_judges_28 : decode cX6_judges 28 = .ok (.iload_n 3, 1) := by decide +kernel
theorem dX6_judges_29 : decode cX6_judges 29 = .ok (.sipush 140, 3) := by decide +kernel
theorem dX6_judges_32 : decode cX6_judges 32 = .ok (.irem, 1) := by decide +kernel
theorem dX6_judges_33 : decode cX6_judges 33 = .ok (.bipush 10, 2) := by decide +kernel
theorem dX6_judges_35 : decode cX6_judges 35 = .ok (.idiv, 1) := by decide +kernel
theorem dX6_judges_36 : decode cX6_judges 36 = .ok (.invokevirtual 97, 3) := by decide +kernel
theorem dX6_judges_39 : decode cX6_judges 39 = .ok (.ifCond .ne 5, 3) := by decide +kernel
theorem dX6_judges_42 : decode cX6_judges 42 = .ok (.iconst 1, 1) := by decide +kernel
theorem dX6_judges_43 : decode cX6_judges 43 = .ok (.ireturn, 1) := by decide +kernel
theorem dX6_judges_44 : decode cX6_judges 44 = .ok (.iload 4, 2) := by decide +kernel
theorem dX6_judges_46 : decode cX6_judges 46 = .ok (.ifCond .ne 16, 3) := by decide +kernel
theorem dX6_judges_49 : decode cX6_judges 49 = .ok (.iload 5, 2) := by decide +kernel
theorem dX6_judges_51 : decode cX6_judges 51 = .ok (.ldc 86, 2) := by decide +kernel
theorem dX6_judges_53 : decode cX6_judges 53 = .ok (.if_icmp .eq 7, 3) := by decide +kernel
theorem dX6_judges_56 : decode cX6_judges 56 = .ok (.iconst 2, 1) := by decide +kernel
theorem dX6_judges_57 : decode cX6_judges 57 = .ok (.goto 4, 3) := by decide +kernel
theorem dX6_judges_60 : decode cX6_judges 60 = .ok (.iconst 0, 1) := by decide +kernel
theorem dX6_judges_61 : decode cX6_judges 61 = .ok (.ireturn, 1) := by decide +kernel
theorem dX6_judges_62 : decode cX6_judges 62 = .ok (.iload 5, 2) := by decide +kernel
theorem dX6_judges_64 : decode cX6_judges 64 = .ok (.ldc 86, 2) := by decide +kernel
theorem dX6_judges_66 : decode cX6_judges 66 = .ok (.if_icmp .ne 7, 3) := by decide +kernel
theorem dX6_judges_69 : decode cX6_judges 69 = .ok (.iconst 3, 1) := by decide +kernel
theorem dX6_judges_70 : decode cX6_judges 70 = .ok (.goto 25, 3) := by decide +kernel
theorem dX6_judges_73 : decode cX6_judges 73 = .ok (.iload 4, 2) := by decide +kernel
theorem dX6_judges_75 : decode cX6_judges 75 = .ok (.iconst 1, 1) := by decide +kernel
theorem dX6_judges_76 : decode cX6_judges 76 = .ok (.if_icmp .ne 18, 3) := by decide +kernel
theorem dX6_judges_79 : decode cX6_judges 79 = .ok (.iload 5, 2) := by decide +kernel
theorem dX6_judges_81 : decode cX6_judges 81 = .ok (.aload_n 0, 1) := by decide +kernel
theorem dX6_judges_82 : decode cX6_judges 82 = .ok (.getfield 26, 3) := by decide +kernel
theorem dX6_judges_85 : decode cX6_judges 85 = .ok (.iload_n 2, 1) := by decide +kernel
theorem dX6_judges_86 : decode cX6_judges 86 = .ok (.iaload, 1) := by decide +kernel
theorem dX6_judges_87 : decode cX6_judges 87 = .ok (.if_icmp .ne 7, 3) := by decide +kernel
theorem dX6_judges_90 : decode cX6_judges 90 = .ok (.iconst 4, 1) := by decide +kernel
theorem dX6_judges_91 : decode cX6_judges 91 = .ok (.goto 4, 3) := by decide +kernel
theorem dX6_judges_94 : decode cX6_judges 94 = .ok (.iconst 0, 1) := by decide +kernel
theorem dX6_judges_95 : decode cX6_judges 95 = .ok (.ireturn, 1) := by decide +kernel
set_option maxRecDepth 20000 in
theorem ggX6_send_X6_isSender : GoodIn wsX6_send wsX6_isSender := goodIn_r _ [18, 19, 20, 17, 21] (by decide +kernel) (by decide +kernel)
set_option maxRecDepth 20000 in
theorem gX6_send_X6_isSender : GoodIn wsX6_send (va_wsS RX6 71 yX6_isSender wsX6_isSender) := goodIn_app (goodIn_of _ (by decide +kernel)) ggX6_send_X6_isSender
set_option maxRecDepth 20000 in
theorem ggX6_send_X6_judges : GoodIn wsX6_send wsX6_judges := goodIn_r _ [25, 7, 11, 9, 12, 13, 26, 27, 28, 17, 29, 6, 5, 8, 10, 30, 31, 32, 33, 34, 35, 36, 37, 38, 39, 40, 41, 42, 43, 44, 45, 46, 47, 48, 49, 50, 51, 52, 53, 54, 55, 56] (by decide +kernel) (by decide +kernel)
set_option maxRecDepth 20000 in
theorem gX6_send_X6_judges : GoodIn wsX6_send (wsV RX6 104 RX6 yX6_judges wsX6_judges) := goodIn_app (goodIn_of _ (by decide +kernel)) ggX6_send_X6_judges
theorem dX6_send_0 : decode cX6_send 0 = .ok (.aload_n 0, 1) := by decide +kernel
theorem dX6_send_1 : decode cX6_send 1 = .ok (.iload_n 1, 1) := by decide +kernel
theorem dX6_send_2 : decode cX6_send 2 = .ok (.invokestatic 71, 3) := by decide +kernel
theorem dX6_send_5 : decode cX6_send 5 = .ok (.ifCond .ne 7, 3) := by decide +kernel
theorem dX6_send_8 : decode cX6_send 8 = .ok (.iconst 1, 1) := by decide +kernel
theorem dX6_send_9 : decode cX6_send 9 = .ok (.goto 30, 3) := by decide +kernel
theorem dX6_send_12 : decode cX6_send 12 = .ok (.aload_n 0, 1) := by decide +kernel
theorem dX6_send_13 : decode cX6_send 13 = .ok (.getfield 79, 3) := by decide +kernel
theorem dX6_send_16 : decode cX6_send 16 = .ok (.ifCond .eq 18, 3) := by decide +kernel
theorem dX6_send_19 : decode cX6_send 19 = .ok (.aload_n 0, 1) := by decide +kernel
theorem dX6_send_20 : decode cX6_send 20 = .ok (.getfield 101, 3) := by decide +kernel
theorem dX6_send_23 : decode cX6_send 23 = .ok (.aload_n 0, 1) := by decide +kernel
theorem dX6_send_24 : decode cX6_send 24 = .ok (.getfield 79, 3) := by decide +kernel
theorem dX6_send_27 : decode cX6_send 27 = .ok (.iadd, 1) := by decide +kernel
theorem dX6_send_28 : decode cX6_send 28 = .ok (.sipush 300, 3) := by decide +kernel
theorem dX6_send_31 : decode cX6_send 31 = .ok (.if_icmp .le 7, 3) := by decide +kernel
theorem dX6_send_34 : decode cX6_send 34 = .ok (.iconst 2, 1) := by decide +kernel
theorem dX6_send_35 : decode cX6_send 35 = .ok (.goto 4, 3) := by decide +kernel
theorem dX6_send_38 : decode cX6_send 38 = .ok (.iconst 0, 1) := by decide +kernel
theorem dX6_send_39 : decode cX6_send 39 = .ok (.putfield 50, 3) := by decide +kernel
theorem dX6_send_42 : decode cX6_send 42 = .ok (.aload_n 0, 1) := by decide +kernel
theorem dX6_send_43 : decode cX6_send 43 = .ok (.getfield 50, 3) := by decide +kernel
theorem dX6_send_46 : decode cX6_send 46 = .ok (.ifCond .le 5, 3) := by decide +kernel
theorem dX6_send_49 : decode cX6_send 49 = .ok (.iconst 0, 1) := by decide +kernel
theorem dX6_send_50 : decode cX6_send 50 = .ok (.ireturn, 1) := by decide +kernel
theorem dX6_send_51 : decode cX6_send 51 = .ok (.iconst 0, 1) := by decide +kernel
theorem dX6_send_52 : decode cX6_send 52 = .ok (.istore_n 2, 1) := by decide +kernel
theorem dX6_send_53 : decode cX6_send 53 = .ok (.iconst 0, 1) := by decide +kernel
theorem dX6_send_54 : decode cX6_send 54 = .ok (.istore_n 3, 1) := by decide +kernel
theorem dX6_send_55 : decode cX6_send 55 = .ok (.iload_n 3, 1) := by decide +kernel
theorem dX6_send_56 : decode cX6_send 56 = .ok (.aload_n 0, 1) := by decide +kernel
theorem dX6_send_57 : decode cX6_send 57 = .ok (.getfield 79, 3) := by decide +kernel
theorem dX6_send_60 : decode cX6_send 60 = .ok (.if_icmp .ge 101, 3) := by decide +kernel
theorem dX6_send_63 : decode cX6_send 63 = .ok (.aload_n 0, 1) := by decide +kernel
theorem dX6_send_64 : decode cX6_send 64 = .ok (.getfield 29, 3) := by decide +kernel
theorem dX6_send_67 : decode cX6_send 67 = .ok (.iload_n 3, 1) := by decide +kernel
theorem dX6_send_68 : decode cX6_send 68 = .ok (.aload_n 0, 1) := by decide +kernel
theorem dX6_send_69 : decode cX6_send 69 = .ok (.iload_n 1, 1) := by decide +kernel
theorem dX6_send_70 : decode cX6_send 70 = .ok (.iload_n 3, 1) := by decide +kernel
theorem dX6_send_71 : decode cX6_send 71 = .ok (.invokevirtual 104, 3) := by decide +kernel
theorem dX6_send_74 : decode cX6_send 74 = .ok (.iastore, 1) := by decide +kernel
theorem dX6_send_75 : decode cX6_send 75 = .ok (.aload_n 0, 1) := by decide +kernel
theorem dX6_send_76 : decode cX6_send 76 = .ok (.getfield 29, 3) := by decide +kernel
theorem dX6_send_79 : decode cX6_send 79 = .ok (.iload_n 3, 1) := by decide +kernel
theorem dX6_send_80 : decode cX6_send 80 = .ok (.iaload, 1) := by decide +kernel
theorem dX6_send_81 : decode cX6_send 81 = .ok (.ifCond .ne 74, 3) := by decide +kernel
theorem dX6_send_84 : decode cX6_send 84 = .ok (.aload_n 0, 1) := by decide +kernel
theorem dX6_send_85 : decode cX6_send 85 = .ok (.getfield 32, 3) := by decide +kernel
theorem dX6_send_88 : decode cX6_send 88 = .ok (.aload_n 0, 1) := by decide +kernel
theorem dX6_send_89 : decode cX6_send 89 = .ok (.getfield 87, 3) := by decide +kernel
theorem dX6_send_92 : decode cX6_send 92 = .ok (.aload_n 0, 1) := by decide +kernel
theorem dX6_send_93 : decode cX6_send 93 = .ok (.getfield 23, 3) := by decide +kernel
theorem dX6_send_96 : decode cX6_send 96 = .ok (.iload_n 3, 1) := by decide +kernel
theorem dX6_send_97 : decode cX6_send 97 = .ok (.iaload, 1) := by decide +kernel
theorem dX6_send_98 : decode cX6_send 98 = .ok (.iastore, 1) := by decide +kernel
theorem dX6_send_99 : decode cX6_send 99 = .ok (.aload_n 0, 1) := by decide +kernel
theorem dX6_send_100 : decode cX6_send 100 = .ok (.getfield 35, 3) := by decide +kernel
theorem dX6_send_103 : decode cX6_send 103 = .ok (.aload_n 0, 1) := by decide +kernel
theorem dX6_send_104 : decode cX6_send 104 = .ok (.getfield 87, 3) := by decide +kernel
theorem dX6_send_107 : decode cX6_send 107 = .ok (.aload_n 0, 1) := by decide +kernel
theorem dX6_send_108 : decode cX6_send 108 = .ok (.getfield 90, 3) := by decide +kernel
theorem dX6_send_111 : decode cX6_send 111 = .ok (.iastore, 1) := by decide +kernel
theorem dX6_send_112 : decode cX6_send 112 = .ok (.aload_n 0, 1) := by decide +kernel
theorem dX6_send_113 : decode cX6_send 113 = .ok (.getfield 38, 3) := by decide +kernel
theorem dX6_send_116 : decode cX6_send 116 = .ok (.aload_n 0, 1) := by decide +kernel
theorem dX6_send_117 : decode cX6_send 117 = .ok (.getfield 87, 3) := by decide +kernel
theorem dX6_send_120 : decode cX6_send 120 = .ok (.aload_n 0, 1) := by decide +kernel
theorem dX6_send_121 : decode cX6_send 121 = .ok (.getfield 20, 3) := by decide +kernel
theorem dX6_send_124 : decode cX6_send 124 = .ok (.iload_n 3, 1) := by decide +kernel
theorem dX6_send_125 : decode cX6_send 125 = .ok (.iaload, 1) := by decide +kernel
theorem dX6_send_126 : decode cX6_send 126 = .ok (.iconst 2, 1) := by decide +kernel
theorem dX6_send_127 : decode cX6_send 127 = .ok (.if_icmp .ne 8, 3) := by decide +kernel
theorem dX6_send_130 : decode cX6_send 130 = .ok (.ldc 86, 2) := by decide +kernel
theorem dX6_send_132 : decode cX6_send 132 = .ok (.goto 9, 3) := by decide +kernel
theorem dX6_send_135 : decode cX6_send 135 = .ok (.aload_n 0, 1) := by decide +kernel
theorem dX6_send_136 : decode cX6_send 136 = .ok (.getfield 26, 3) := by decide +kernel
theorem dX6_send_139 : decode cX6_send 139 = .ok (.iload_n 3, 1) := by decide +kernel
theorem dX6_send_140 : decode cX6_send 140 = .ok (.iaload, 1) := by decide +kernel
theorem dX6_send_141 : decode cX6_send 141 = .ok (.iastore, 1) := by decide +kernel
theorem dX6_send_142 : decode cX6_send 142 = .ok (.aload_n 0, 1) := by decide +kernel
theorem dX6_send_143 : decode cX6_send 143 = .ok (.dup, 1) := by decide +kernel
theorem dX6_send_144 : decode cX6_send 144 = .ok (.getfield 87, 3) := by decide +kernel
theorem dX6_send_147 : decode cX6_send 147 = .ok (.iconst 1, 1) := by decide +kernel
theorem dX6_send_148 : decode cX6_send 148 = .ok (.iadd, 1) := by decide +kernel
theorem dX6_send_149 : decode cX6_send 149 = .ok (.putfield 87, 3) := by decide +kernel
theorem dX6_send_152 : decode cX6_send 152 = .ok (.iinc 2 1, 3) := by decide +kernel
theorem dX6_send_155 : decode cX6_send 155 = .ok (.iinc 3 1, 3) := by decide +kernel
theorem dX6_send_158 : decode cX6_send 158 = .ok (.goto (-103), 3) := by decide +kernel
theorem dX6_send_161 : decode cX6_send 161 = .ok (.aload_n 0, 1) := by decide +kernel
theorem dX6_send_162 : decode cX6_send 162 = .ok (.aload_n 0, 1) := by decide +kernel
theorem dX6_send_163 : decode cX6_send 163 = .ok (.getfield 79, 3) := by decide +kernel
theorem dX6_send_166 : decode cX6_send 166 = .ok (.putfield 107, 3) := by decide +kernel
theorem dX6_send_169 : decode cX6_send 169 = .ok (.aload_n 0, 1) := by decide +kernel
theorem dX6_send_170 : decode cX6_send 170 = .ok (.dup, 1) := by decide +kernel
theorem dX6_send_171 : decode cX6_send 171 = .ok (.getfield 101, 3) := by decide +kernel
theorem dX6_send_174 : decode cX6_send 174 = .ok (.aload_n 0, 1) := by decide +kernel
theorem dX6_send_175 : decode cX6_send 175 = .ok (.getfield 79, 3) := by decide +kernel
theorem dX6_send_178 : decode cX6_send 178 = .ok (.iadd, 1) := by decide +kernel
theorem dX6_send_179 : decode cX6_send 179 = .ok (.putfield 101, 3) := by decide +kernel
theorem dX6_send_182 : decode cX6_send 182 = .ok (.aload_n 0, 1) := by decide +kernel
theorem dX6_send_183 : decode cX6_send 183 = .ok (.iconst 0, 1) := by decide +kernel
theorem dX6_send_184 : decode cX6_send 184 = .ok (.putfield 79, 3) := by decide +kernel
theorem dX6_send_187 : decode cX6_send 187 = .ok (.iload_n 2, 1) := by decide +kernel
theorem dX6_send_188 : decode cX6_send 188 = .ok (.ireturn, 1) := by decide +kernel
set_option maxRecDepth 20000 in
theorem ggX6_refusal_X6_isIn : GoodIn wsX6_refusal wsX6_isIn := goodIn_r _ [7] (by decide +kernel) (by decide +kernel)
set_option maxRecDepth 20000 in
theorem gX6_refusal_X6_isIn : GoodIn wsX6_refusal (va_wsS RX6 57 yX6_isIn wsX6_isIn) := goodIn_app (goodIn_of _ (by decide +kernel)) ggX6_refusal_X6_isIn
theorem dX6_refusal_0 : decode cX6_refusal 0 = .ok (.aload_n 0, 1) := by decide +kernel
theorem dX6_refusal_1 : decode cX6_refusal 1 = .ok (.iload_n 1, 1) := by decide +kernel
theorem dX6_refusal_2 : decode cX6_refusal 2 = .ok (.iconst 0, 1) := by decide +kernel
theorem dX6_refusal_3 : decode cX6_refusal 3 = .ok (.aload_n 0, 1) := by decide +kernel
theorem dX6_refusal_4 : decode cX6_refusal 4 = .ok (.getfield 107, 3) := by decide +kernel
theorem dX6_refusal_7 : decode cX6_refusal 7 = .ok (.iconst 1, 1) := by decide +kernel
theorem dX6_refusal_8 : decode cX6_refusal 8 = .ok (.isub, 1) := by decide +kernel
theorem dX6_refusal_9 : decode cX6_refusal 9 = .ok (.invokestatic 57, 3) := by decide +kernel
theorem dX6_refusal_12 : decode cX6_refusal 12 = .ok (.ifCond .eq 7, 3) := by decide +kernel
theorem dX6_refusal_15 : decode cX6_refusal 15 = .ok (.iconst 0, 1) := by decide +kernel
theorem dX6_refusal_16 : decode cX6_refusal 16 = .ok (.goto 4, 3) := by decide +kernel
theorem dX6_refusal_19 : decode cX6_refusal 19 = .ok (.iconst 1, 1) := by decide +kernel
theorem dX6_refusal_20 : decode cX6_refusal 20 = .ok (.putfield 50, 3) := by decide +kernel
theorem dX6_refusal_23 : decode cX6_refusal 23 = .ok (.aload_n 0, 1) := by decide +kernel
theorem dX6_refusal_24 : decode cX6_refusal 24 = .ok (.getfield 50, 3) := by decide +kernel
theorem dX6_refusal_27 : decode cX6_refusal 27 = .ok (.ifCond .le 7, 3) := by decide +kernel
theorem dX6_refusal_30 : decode cX6_refusal 30 = .ok (.iconst 0, 1) := by decide +kernel
theorem dX6_refusal_31 : decode cX6_refusal 31 = .ok (.goto 9, 3) := by decide +kernel
theorem dX6_refusal_34 : decode cX6_refusal 34 = .ok (.aload_n 0, 1) := by decide +kernel
theorem dX6_refusal_35 : decode cX6_refusal 35 = .ok (.getfield 29, 3) := by decide +kernel
theorem dX6_refusal_38 : decode cX6_refusal 38 = .ok (.iload_n 1, 1) := by decide +kernel
theorem dX6_refusal_39 : decode cX6_refusal 39 = .ok (.iaload, 1) := by decide +kernel
theorem dX6_refusal_40 : decode cX6_refusal 40 = .ok (.ireturn, 1) := by decide +kernel
theorem dX6_sumOf_0 : decode cX6_sumOf 0 = .ok (.iconst 0, 1) := by decide +kernel
theorem dX6_sumOf_1 : decode cX6_sumOf 1 = .ok (.istore 4, 2) := by decide +kernel
theorem dX6_sumOf_3 : decode cX6_sumOf 3 = .ok (.iconst 1, 1) := by decide +kernel
theorem dX6_sumOf_4 : decode cX6_sumOf 4 = .ok (.istore 5, 2) := by decide +kernel
theorem dX6_sumOf_6 : decode cX6_sumOf 6 = .ok (.iconst 0, 1) := by decide +kernel
theorem dX6_sumOf_7 : decode cX6_sumOf 7 = .ok (.istore 6, 2) := by decide +kernel
theorem dX6_sumOf_9 : decode cX6_sumOf 9 = .ok (.iconst 0, 1) := by decide +kernel
theorem dX6_sumOf_10 : decode cX6_sumOf 10 = .ok (.istore 7, 2) := by decide +kernel
theorem dX6_sumOf_12 : decode cX6_sumOf 12 = .ok (.iload 7, 2) := by decide +kernel
theorem dX6_sumOf_14 : decode cX6_sumOf 14 = .ok (.iload_n 3, 1) := by decide +kernel
theorem dX6_sumOf_15 : decode cX6_sumOf 15 = .ok (.ifCond .eq 10, 3) := by decide +kernel
theorem dX6_sumOf_18 : decode cX6_sumOf 18 = .ok (.aload_n 0, 1) := by decide +kernel
theorem dX6_sumOf_19 : decode cX6_sumOf 19 = .ok (.getfield 61, 3) := by decide +kernel
theorem dX6_sumOf_22 : decode cX6_sumOf 22 = .ok (.goto 7, 3) := by decide +kernel
theorem dX6_sumOf_25 : decode cX6_sumOf 25 = .ok (.aload_n 0, 1) := by decide +kernel
theorem dX6_sumOf_26 : decode cX6_sumOf 26 = .ok (.getfield 54, 3) := by decide +kernel
theorem dX6_sumOf_29 : decode cX6_sumOf 29 = .ok (.if_icmp .ge 108, 3) := by decide +kernel
theorem dX6_sumOf_32 : decode cX6_sumOf 32 = .ok (.iload_n 3, 1) := by decide +kernel
theorem dX6_sumOf_33 : decode cX6_sumOf 33 = .ok (.ifCond .eq 13, 3) := by decide +kernel
theorem dX6_sumOf_36 : decode cX6_sumOf 36 = .ok (.aload_n 0, 1) := by decide +kernel
theorem dX6_sumOf_37 : decode cX6_sumOf 37 = .ok (.getfield 13, 3) := by decide +kernel
theorem dX6_sumOf_40 : decode cX6_sumOf 40 = .ok (.iload 7, 2) := by decide +kernel
theorem dX6_sumOf_42 : decode cX6_sumOf 42 = .ok (.iaload, 1) := by decide +kernel
theorem dX6_sumOf_43 : decode cX6_sumOf 43 = .ok (.goto 10, 3) := by decide +kernel
theorem dX6_sumOf_46 : decode cX6_sumOf 46 = .ok (.aload_n 0, 1) := by decide +kernel
theorem dX6_sumOf_47 : decode cX6_sumOf 47 = .ok (.getfield 7, 3) := by decide +kernel
theorem dX6_sumOf_50 : decode cX6_sumOf 50 = .ok (.iload 7, 2) := by decide +kernel
theorem dX6_sumOf_52 : decode cX6_sumOf 52 = .ok (.iaload, 1) := by decide +kernel
theorem dX6_sumOf_53 : decode cX6_sumOf 53 = .ok (.iload_n 3, 1) := by decide +kernel
theorem dX6_sumOf_54 : decode cX6_sumOf 54 = .ok (.ifCond .eq 7, 3) := by decide +kernel
theorem dX6_sumOf_57 : decode cX6_sumOf 57 = .ok (.iload_n 2, 1) := by decide +kernel
theorem dX6_sumOf_58 : decode cX6_sumOf 58 = .ok (.goto 4, 3) := by decide +kernel
theorem dX6_sumOf_61 : decode cX6_sumOf 61 = .ok (.iload_n 1, 1) := by decide +kernel
theorem dX6_sumOf_62 : decode cX6_sumOf 62 = .ok (.if_icmp .ne 69, 3) := by decide +kernel
theorem dX6_sumOf_65 : decode cX6_sumOf 65 = .ok (.aload_n 0, 1) := by decide +kernel
theorem dX6_sumOf_66 : decode cX6_sumOf 66 = .ok (.getfield 44, 3) := by decide +kernel
theorem dX6_sumOf_69 : decode cX6_sumOf 69 = .ok (.iload_n 3, 1) := by decide +kernel
theorem dX6_sumOf_70 : decode cX6_sumOf 70 = .ok (.ifCond .eq 13, 3) := by decide +kernel
theorem dX6_sumOf_73 : decode cX6_sumOf 73 = .ok (.bipush 10, 2) := by decide +kernel
theorem dX6_sumOf_75 : decode cX6_sumOf 75 = .ok (.iload_n 1, 1) := by decide +kernel
theorem dX6_sumOf_76 : decode cX6_sumOf 76 = .ok (.imul, 1) := by decide +kernel
theorem dX6_sumOf_77 : decode cX6_sumOf 77 = .ok (.iload 7, 2) := by decide +kernel
theorem dX6_sumOf_79 : decode cX6_sumOf 79 = .ok (.iadd, 1) := by decide +kernel
theorem dX6_sumOf_80 : decode cX6_sumOf 80 = .ok (.goto 10, 3) := by decide +kernel
theorem dX6_sumOf_83 : decode cX6_sumOf 83 = .ok (.bipush 10, 2) := by decide +kernel
theorem dX6_sumOf_85 : decode cX6_sumOf 85 = .ok (.iload 7, 2) := by decide +kernel
theorem dX6_sumOf_87 : decode cX6_sumOf 87 = .ok (.imul, 1) := by decide +kernel
theorem dX6_sumOf_88 : decode cX6_sumOf 88 = .ok (.iload_n 2, 1) := by decide +kernel
theorem dX6_sumOf_89 : decode cX6_sumOf 89 = .ok (.iadd, 1) := by decide +kernel
theorem dX6_sumOf_90 : decode cX6_sumOf 90 = .ok (.iaload, 1) := by decide +kernel
theorem dX6_sumOf_91 : decode cX6_sumOf 91 = .ok (.istore 8, 2) := by decide +kernel
theorem dX6_sumOf_93 : decode cX6_sumOf 93 = .ok (.iinc 6 1, 3) := by decide +kernel
theorem dX6_sumOf_96 : decode cX6_sumOf 96 = .ok (.iload 5, 2) := by decide +kernel
theorem dX6_sumOf_98 : decode cX6_sumOf 98 = .ok (.iload 8, 2) := by decide +kernel
theorem dX6_sumOf_100 : decode cX6_sumOf 100 = .ok (.ldc 86, 2) := by decide +kernel
theorem dX6_sumOf_102 : decode cX6_sumOf 102 = .ok (.if_icmp .eq 7, 3) := by decide +kernel
theorem dX6_sumOf_105 : decode cX6_sumOf 105 = .ok (.iconst 1, 1) := by decide +kernel
theorem dX6_sumOf_106 : decode cX6_sumOf 106 = .ok (.goto 4, 3) := by decide +kernel
theorem dX6_sumOf_109 : decode cX6_sumOf 109 = .ok (.iconst 0, 1) := by decide +kernel
theorem dX6_sumOf_110 : decode cX6_sumOf 110 = .ok (.iand, 1) := by decide +kernel
theorem dX6_sumOf_111 : decode cX6_sumOf 111 = .ok (.istore 5, 2) := by decide +kernel
theorem dX6_sumOf_113 : decode cX6_sumOf 113 = .ok (.iload 4, 2) := by decide +kernel
theorem dX6_sumOf_115 : decode cX6_sumOf 115 = .ok (.iload 8, 2) := by decide +kernel
theorem dX6_sumOf_117 : decode cX6_sumOf 117 = .ok (.ldc 86, 2) := by decide +kernel
theorem dX6_sumOf_119 : decode cX6_sumOf 119 = .ok (.if_icmp .ne 7, 3) := by decide +kernel
theorem dX6_sumOf_122 : decode cX6_sumOf 122 = .ok (.iconst 0, 1) := by decide +kernel
theorem dX6_sumOf_123 : decode cX6_sumOf 123 = .ok (.goto 5, 3) := by decide +kernel
theorem dX6_sumOf_126 : decode cX6_sumOf 126 = .ok (.iload 8, 2) := by decide +kernel
theorem dX6_sumOf_128 : decode cX6_sumOf 128 = .ok (.iadd, 1) := by decide +kernel
theorem dX6_sumOf_129 : decode cX6_sumOf 129 = .ok (.istore 4, 2) := by decide +kernel
theorem dX6_sumOf_131 : decode cX6_sumOf 131 = .ok (.iinc 7 1, 3) := by decide +kernel
theorem dX6_sumOf_134 : decode cX6_sumOf 134 = .ok (.goto (-122), 3) := by decide +kernel
theorem dX6_sumOf_137 : decode cX6_sumOf 137 = .ok (.iload 6, 2) := by decide +kernel
theorem dX6_sumOf_139 : decode cX6_sumOf 139 = .ok (.ifCond .le 13, 3) := by decide +kernel
theorem dX6_sumOf_142 : decode cX6_sumOf 142 = .ok (.iload 5, 2) := by decide +kernel
theorem dX6_sumOf_144 : decode cX6_sumOf 144 = .ok (.ifCond .eq 8, 3) := by decide +kernel
theorem dX6_sumOf_147 : decode cX6_sumOf 147 = .ok (.iload 4, 2) := by decide +kernel
theorem dX6_sumOf_149 : decode cX6_sumOf 149 = .ok (.goto 5, 3) := by decide +kernel
theorem dX6_sumOf_152 : decode cX6_sumOf 152 = .ok (.ldc 86, 2) := by decide +kernel
theorem dX6_sumOf_154 : decode cX6_sumOf 154 = .ok (.ireturn, 1) := by decide +kernel
set_option maxRecDepth 20000 in
theorem ggX6_finds_X6_cellOf : GoodIn wsX6_finds wsX6_cellOf := goodIn_r _ [8] (by decide +kernel) (by decide +kernel)
set_option maxRecDepth 20000 in
theorem gX6_finds_X6_cellOf : GoodIn wsX6_finds (va_wsS RX6 82 yX6_cellOf wsX6_cellOf) := goodIn_app (goodIn_of _ (by decide +kernel)) ggX6_finds_X6_cellOf
set_option maxRecDepth 20000 in
theorem ggX6_finds_X6_figureOn : GoodIn wsX6_finds wsX6_figureOn := goodIn_r _ [12, 3, 13, 14, 15, 16, 23, 24, 25, 26, 27, 28, 29, 30, 31, 32, 33, 34, 35, 36, 37, 38, 39, 40, 41, 42, 43] (by decide +kernel) (by decide +kernel)
set_option maxRecDepth 20000 in
theorem gX6_finds_X6_figureOn : GoodIn wsX6_finds (wsV RX6 93 RX6 yX6_figureOn wsX6_figureOn) := goodIn_app (goodIn_of _ (by decide +kernel)) ggX6_finds_X6_figureOn
set_option maxRecDepth 20000 in
theorem ggX6_finds_X6_sumOf : GoodIn wsX6_finds wsX6_sumOf := goodIn_r _ [20, 2, 1, 21, 22, 4, 3, 23, 24, 25, 26, 27, 28, 29, 30, 31, 32, 33, 34, 35, 36, 37, 38, 39, 40, 41, 42, 43] (by decide +kernel) (by decide +kernel)
set_option maxRecDepth 20000 in
theorem gX6_finds_X6_sumOf : GoodIn wsX6_finds (wsV RX6 110 RX6 yX6_sumOf wsX6_sumOf) := goodIn_app (goodIn_of _ (by decide +kernel)) ggX6_finds_X6_sumOf
theorem dX6_finds_0 : decode cX6_finds 0 = .ok (.aload_n 0, 1) := by decide +kernel
theorem dX6_finds_1 : decode cX6_finds 1 = .ok (.getfield 54, 3) := by decide +kernel
theorem dX6_finds_4 : decode cX6_finds 4 = .ok (.iconst 1, 1) := by decide +kernel
theorem dX6_finds_5 : decode cX6_finds 5 = .ok (.isub, 1) := by decide +kernel
theorem dX6_finds_6 : decode cX6_finds 6 = .ok (.istore_n 3, 1) := by decide +kernel
theorem dX6_finds_7 : decode cX6_finds 7 = .ok (.iload_n 3, 1) := by decide +kernel
theorem dX6_finds_8 : decode cX6_finds 8 = .ok (.ifCond .lt 96, 3) := by decide +kernel
theorem dX6_finds_11 : decode cX6_finds 11 = .ok (.aload_n 0, 1) := by decide +kernel
theorem dX6_finds_12 : decode cX6_finds 12 = .ok (.getfield 61, 3) := by decide +kernel
theorem dX6_finds_15 : decode cX6_finds 15 = .ok (.iconst 1, 1) := by decide +kernel
theorem dX6_finds_16 : decode cX6_finds 16 = .ok (.isub, 1) := by decide +kernel
theorem dX6_finds_17 : decode cX6_finds 17 = .ok (.istore 4, 2) := by decide +kernel
theorem dX6_finds_19 : decode cX6_finds 19 = .ok (.iload 4, 2) := by decide +kernel
theorem dX6_finds_21 : decode cX6_finds 21 = .ok (.ifCond .lt 77, 3) := by decide +kernel
theorem dX6_finds_24 : decode cX6_finds 24 = .ok (.aload_n 0, 1) := by decide +kernel
theorem dX6_finds_25 : decode cX6_finds 25 = .ok (.iload_n 3, 1) := by decide +kernel
theorem dX6_finds_26 : decode cX6_finds 26 = .ok (.iload 4, 2) := by decide +kernel
theorem dX6_finds_28 : decode cX6_finds 28 = .ok (.iload_n 1, 1) := by decide +kernel
theorem dX6_finds_29 : decode cX6_finds 29 = .ok (.invokestatic 82, 3) := by decide +kernel
theorem dX6_finds_32 : decode cX6_finds 32 = .ok (.iload_n 2, 1) := by decide +kernel
theorem dX6_finds_33 : decode cX6_finds 33 = .ok (.invokevirtual 93, 3) := by decide +kernel
theorem dX6_finds_36 : decode cX6_finds 36 = .ok (.istore 5, 2) := by decide +kernel
theorem dX6_finds_38 : decode cX6_finds 38 = .ok (.iload 5, 2) := by decide +kernel
theorem dX6_finds_40 : decode cX6_finds 40 = .ok (.ldc 86, 2) := by decide +kernel
theorem dX6_finds_42 : decode cX6_finds 42 = .ok (.if_icmp .ne 14, 3) := by decide +kernel
theorem dX6_finds_45 : decode cX6_finds 45 = .ok (.aload_n 0, 1) := by decide +kernel
theorem dX6_finds_46 : decode cX6_finds 46 = .ok (.iload_n 3, 1) := by decide +kernel
theorem dX6_finds_47 : decode cX6_finds 47 = .ok (.iload 4, 2) := by decide +kernel
theorem dX6_finds_49 : decode cX6_finds 49 = .ok (.iconst 0, 1) := by decide +kernel
theorem dX6_finds_50 : decode cX6_finds 50 = .ok (.invokevirtual 110, 3) := by decide +kernel
theorem dX6_finds_53 : decode cX6_finds 53 = .ok (.goto 5, 3) := by decide +kernel
theorem dX6_finds_56 : decode cX6_finds 56 = .ok (.iload 5, 2) := by decide +kernel
theorem dX6_finds_58 : decode cX6_finds 58 = .ok (.istore 5, 2) := by decide +kernel
theorem dX6_finds_60 : decode cX6_finds 60 = .ok (.aload_n 0, 1) := by decide +kernel
theorem dX6_finds_61 : decode cX6_finds 61 = .ok (.getfield 44, 3) := by decide +kernel
theorem dX6_finds_64 : decode cX6_finds 64 = .ok (.bipush 10, 2) := by decide +kernel
theorem dX6_finds_66 : decode cX6_finds 66 = .ok (.iload_n 3, 1) := by decide +kernel
theorem dX6_finds_67 : decode cX6_finds 67 = .ok (.imul, 1) := by decide +kernel
theorem dX6_finds_68 : decode cX6_finds 68 = .ok (.iload 4, 2) := by decide +kernel
theorem dX6_finds_70 : decode cX6_finds 70 = .ok (.iadd, 1) := by decide +kernel
theorem dX6_finds_71 : decode cX6_finds 71 = .ok (.iload 5, 2) := by decide +kernel
theorem dX6_finds_73 : decode cX6_finds 73 = .ok (.ldc 86, 2) := by decide +kernel
theorem dX6_finds_75 : decode cX6_finds 75 = .ok (.if_icmp .ne 14, 3) := by decide +kernel
theorem dX6_finds_78 : decode cX6_finds 78 = .ok (.aload_n 0, 1) := by decide +kernel
theorem dX6_finds_79 : decode cX6_finds 79 = .ok (.iload_n 3, 1) := by decide +kernel
theorem dX6_finds_80 : decode cX6_finds 80 = .ok (.iload 4, 2) := by decide +kernel
theorem dX6_finds_82 : decode cX6_finds 82 = .ok (.iconst 1, 1) := by decide +kernel
theorem dX6_finds_83 : decode cX6_finds 83 = .ok (.invokevirtual 110, 3) := by decide +kernel
theorem dX6_finds_86 : decode cX6_finds 86 = .ok (.goto 5, 3) := by decide +kernel
theorem dX6_finds_89 : decode cX6_finds 89 = .ok (.iload 5, 2) := by decide +kernel
theorem dX6_finds_91 : decode cX6_finds 91 = .ok (.iastore, 1) := by decide +kernel
theorem dX6_finds_92 : decode cX6_finds 92 = .ok (.iinc 4 (-1), 3) := by decide +kernel
theorem dX6_finds_95 : decode cX6_finds 95 = .ok (.goto (-76), 3) := by decide +kernel
theorem dX6_finds_98 : decode cX6_finds 98 = .ok (.iinc 3 (-1), 3) := by decide +kernel
theorem dX6_finds_101 : decode cX6_finds 101 = .ok (.goto (-94), 3) := by decide +kernel
theorem dX6_finds_104 : decode cX6_finds 104 = .ok (.return_, 1) := by decide +kernel
theorem dX6_hides_0 : decode cX6_hides 0 = .ok (.aload_n 0, 1) := by decide +kernel
theorem dX6_hides_1 : decode cX6_hides 1 = .ok (.getfield 47, 3) := by decide +kernel
theorem dX6_hides_4 : decode cX6_hides 4 = .ok (.bipush 10, 2) := by decide +kernel
theorem dX6_hides_6 : decode cX6_hides 6 = .ok (.iload_n 1, 1) := by decide +kernel
theorem dX6_hides_7 : decode cX6_hides 7 = .ok (.imul, 1) := by decide +kernel
theorem dX6_hides_8 : decode cX6_hides 8 = .ok (.iload_n 2, 1) := by decide +kernel
theorem dX6_hides_9 : decode cX6_hides 9 = .ok (.iadd, 1) := by decide +kernel
theorem dX6_hides_10 : decode cX6_hides 10 = .ok (.baload, 1) := by decide +kernel
theorem dX6_hides_11 : decode cX6_hides 11 = .ok (.ifCond .eq 7, 3) := by decide +kernel
theorem dX6_hides_14 : decode cX6_hides 14 = .ok (.iconst 1, 1) := by decide +kernel
theorem dX6_hides_15 : decode cX6_hides 15 = .ok (.goto 4, 3) := by decide +kernel
theorem dX6_hides_18 : decode cX6_hides 18 = .ok (.iconst 0, 1) := by decide +kernel
theorem dX6_hides_19 : decode cX6_hides 19 = .ok (.istore 4, 2) := by decide +kernel
theorem dX6_hides_21 : decode cX6_hides 21 = .ok (.iconst 0, 1) := by decide +kernel
theorem dX6_hides_22 : decode cX6_hides 22 = .ok (.istore 5, 2) := by decide +kernel
theorem dX6_hides_24 : decode cX6_hides 24 = .ok (.iload 5, 2) := by decide +kernel
theorem dX6_hides_26 : decode cX6_hides 26 = .ok (.iload_n 3, 1) := by decide +kernel
theorem dX6_hides_27 : decode cX6_hides 27 = .ok (.ifCond .eq 10, 3) := by decide +kernel
theorem dX6_hides_30 : decode cX6_hides 30 = .ok (.aload_n 0, 1) := by decide +kernel
theorem dX6_hides_31 : decode cX6_hides 31 = .ok (.getfield 61, 3) := by decide +kernel
theorem dX6_hides_34 : decode cX6_hides 34 = .ok (.goto 7, 3) := by decide +kernel
theorem dX6_hides_37 : decode cX6_hides 37 = .ok (.aload_n 0, 1) := by decide +kernel
theorem dX6_hides_38 : decode cX6_hides 38 = .ok (.getfield 54, 3) := by decide +kernel
theorem dX6_hides_41 : decode cX6_hides 41 = .ok (.if_icmp .ge 93, 3) := by decide +kernel
theorem dX6_hides_44 : decode cX6_hides 44 = .ok (.iload_n 3, 1) := by decide +kernel
theorem dX6_hides_45 : decode cX6_hides 45 = .ok (.ifCond .eq 13, 3) := by decide +kernel
theorem dX6_hides_48 : decode cX6_hides 48 = .ok (.aload_n 0, 1) := by decide +kernel
theorem dX6_hides_49 : decode cX6_hides 49 = .ok (.getfield 13, 3) := by decide +kernel
theorem dX6_hides_52 : decode cX6_hides 52 = .ok (.iload 5, 2) := by decide +kernel
theorem dX6_hides_54 : decode cX6_hides 54 = .ok (.iaload, 1) := by decide +kernel
theorem dX6_hides_55 : decode cX6_hides 55 = .ok (.goto 10, 3) := by decide +kernel
theorem dX6_hides_58 : decode cX6_hides 58 = .ok (.aload_n 0, 1) := by decide +kernel
theorem dX6_hides_59 : decode cX6_hides 59 = .ok (.getfield 7, 3) := by decide +kernel
theorem dX6_hides_62 : decode cX6_hides 62 = .ok (.iload 5, 2) := by decide +kernel
theorem dX6_hides_64 : decode cX6_hides 64 = .ok (.iaload, 1) := by decide +kernel
theorem dX6_hides_65 : decode cX6_hides 65 = .ok (.iload_n 3, 1) := by decide +kernel
theorem dX6_hides_66 : decode cX6_hides 66 = .ok (.ifCond .eq 7, 3) := by decide +kernel
theorem dX6_hides_69 : decode cX6_hides 69 = .ok (.iload_n 2, 1) := by decide +kernel
theorem dX6_hides_70 : decode cX6_hides 70 = .ok (.goto 4, 3) := by decide +kernel
theorem dX6_hides_73 : decode cX6_hides 73 = .ok (.iload_n 1, 1) := by decide +kernel
theorem dX6_hides_74 : decode cX6_hides 74 = .ok (.if_icmp .ne 7, 3) := by decide +kernel
theorem dX6_hides_77 : decode cX6_hides 77 = .ok (.iconst 1, 1) := by decide +kernel
theorem dX6_hides_78 : decode cX6_hides 78 = .ok (.goto 4, 3) := by decide +kernel
theorem dX6_hides_81 : decode cX6_hides 81 = .ok (.iconst 0, 1) := by decide +kernel
theorem dX6_hides_82 : decode cX6_hides 82 = .ok (.istore 6, 2) := by decide +kernel
theorem dX6_hides_84 : decode cX6_hides 84 = .ok (.iload 4, 2) := by decide +kernel
theorem dX6_hides_86 : decode cX6_hides 86 = .ok (.iload 6, 2) := by decide +kernel
theorem dX6_hides_88 : decode cX6_hides 88 = .ok (.ifCond .eq 36, 3) := by decide +kernel
theorem dX6_hides_91 : decode cX6_hides 91 = .ok (.aload_n 0, 1) := by decide +kernel
theorem dX6_hides_92 : decode cX6_hides 92 = .ok (.getfield 47, 3) := by decide +kernel
theorem dX6_hides_95 : decode cX6_hides 95 = .ok (.iload_n 3, 1) := by decide +kernel
theorem dX6_hides_96 : decode cX6_hides 96 = .ok (.ifCond .eq 13, 3) := by decide +kernel
theorem dX6_hides_99 : decode cX6_hides 99 = .ok (.bipush 10, 2) := by decide +kernel
theorem dX6_hides_101 : decode cX6_hides 101 = .ok (.iload_n 1, 1) := by decide +kernel
theorem dX6_hides_102 : decode cX6_hides 102 = .ok (.imul, 1) := by decide +kernel
theorem dX6_hides_103 : decode cX6_hides 103 = .ok (.iload 5, 2) := by decide +kernel
theorem dX6_hides_105 : decode cX6_hides 105 = .ok (.iadd, 1) := by decide +kernel
theorem dX6_hides_106 : decode cX6_hides 106 = .ok (.goto 10, 3) := by decide +kernel
theorem dX6_hides_109 : decode cX6_hides 109 = .ok (.bipush 10, 2) := by decide +kernel
theorem dX6_hides_111 : decode cX6_hides 111 = .ok (.iload 5, 2) := by decide +kernel
theorem dX6_hides_113 : decode cX6_hides 113 = .ok (.imul, 1) := by decide +kernel
theorem dX6_hides_114 : decode cX6_hides 114 = .ok (.iload_n 2, 1) := by decide +kernel
theorem dX6_hides_115 : decode cX6_hides 115 = .ok (.iadd, 1) := by decide +kernel
theorem dX6_hides_116 : decode cX6_hides 116 = .ok (.baload, 1) := by decide +kernel
theorem dX6_hides_117 : decode cX6_hides 117 = .ok (.ifCond .eq 7, 3) := by decide +kernel
theorem dX6_hides_120 : decode cX6_hides 120 = .ok (.iconst 1, 1) := by decide +kernel
theorem dX6_hides_121 : decode cX6_hides 121 = .ok (.goto 4, 3) := by decide +kernel
theorem dX6_hides_124 : decode cX6_hides 124 = .ok (.iconst 0, 1) := by decide +kernel
theorem dX6_hides_125 : decode cX6_hides 125 = .ok (.iadd, 1) := by decide +kernel
theorem dX6_hides_126 : decode cX6_hides 126 = .ok (.istore 4, 2) := by decide +kernel
theorem dX6_hides_128 : decode cX6_hides 128 = .ok (.iinc 5 1, 3) := by decide +kernel
theorem dX6_hides_131 : decode cX6_hides 131 = .ok (.goto (-107), 3) := by decide +kernel
theorem dX6_hides_134 : decode cX6_hides 134 = .ok (.iload 4, 2) := by decide +kernel
theorem dX6_hides_136 : decode cX6_hides 136 = .ok (.ireturn, 1) := by decide +kernel
theorem dX6_size_0 : decode cX6_size 0 = .ok (.iload_n 0, 1) := by decide +kernel
theorem dX6_size_1 : decode cX6_size 1 = .ok (.ifCond .ge 8, 3) := by decide +kernel
theorem dX6_size_4 : decode cX6_size 4 = .ok (.iload_n 0, 1) := by decide +kernel
theorem dX6_size_5 : decode cX6_size 5 = .ok (.ineg, 1) := by decide +kernel
theorem dX6_size_6 : decode cX6_size 6 = .ok (.goto 4, 3) := by decide +kernel
theorem dX6_size_9 : decode cX6_size 9 = .ok (.iload_n 0, 1) := by decide +kernel
theorem dX6_size_10 : decode cX6_size 10 = .ok (.ireturn, 1) := by decide +kernel
set_option maxRecDepth 20000 in
theorem ggX6_looks_X6_sumOf : GoodIn wsX6_looks wsX6_sumOf := goodIn_r _ [12, 3, 4, 5, 6, 2, 1, 20, 21, 22, 23, 24, 25, 26, 27, 28, 29, 30, 31, 32, 33, 34, 35, 36, 37, 38, 39, 40] (by decide +kernel) (by decide +kernel)
set_option maxRecDepth 20000 in
theorem gX6_looks_X6_sumOf : GoodIn wsX6_looks (wsV RX6 110 RX6 yX6_sumOf wsX6_sumOf) := goodIn_app (goodIn_of _ (by decide +kernel)) ggX6_looks_X6_sumOf
set_option maxRecDepth 20000 in
theorem ggX6_looks_X6_hides : GoodIn wsX6_looks wsX6_hides := goodIn_r _ [16, 7, 3, 4, 5, 6, 20, 21, 22, 23, 24, 25, 26, 27, 28, 29, 30, 31, 32, 33, 34, 35, 36, 37, 38, 39, 40] (by decide +kernel) (by decide +kernel)
set_option maxRecDepth 20000 in
theorem gX6_looks_X6_hides : GoodIn wsX6_looks (wsV RX6 114 RX6 yX6_hides wsX6_hides) := goodIn_app (goodIn_of _ (by decide +kernel)) ggX6_looks_X6_hides
set_option maxRecDepth 20000 in
theorem ggX6_looks_X6_size : GoodIn wsX6_looks wsX6_size := goodIn_r _ [19] (by decide +kernel) (by decide +kernel)
set_option maxRecDepth 20000 in
theorem gX6_looks_X6_size : GoodIn wsX6_looks (va_wsS RX6 117 yX6_size wsX6_size) := goodIn_app (goodIn_of _ (by decide +kernel)) ggX6_looks_X6_size
theorem dX6_looks_0 : decode cX6_looks 0 = .ok (.aload_n 0, 1) := by decide +kernel
theorem dX6_looks_1 : decode cX6_looks 1 = .ok (.iload_n 1, 1) := by decide +kernel
theorem dX6_looks_2 : decode cX6_looks 2 = .ok (.iload_n 2, 1) := by decide +kernel
theorem dX6_looks_3 : decode cX6_looks 3 = .ok (.iload_n 3, 1) := by decide +kernel
theorem dX6_looks_4 : decode cX6_looks 4 = .ok (.invokevirtual 110, 3) := by decide +kernel
theorem dX6_looks_7 : decode cX6_looks 7 = .ok (.ldc 86, 2) := by decide +kernel
theorem dX6_looks_9 : decode cX6_looks 9 = .ok (.if_icmp .eq 23, 3) := by decide +kernel
theorem dX6_looks_12 : decode cX6_looks 12 = .ok (.aload_n 0, 1) := by decide +kernel
theorem dX6_looks_13 : decode cX6_looks 13 = .ok (.getfield 44, 3) := by decide +kernel
theorem dX6_looks_16 : decode cX6_looks 16 = .ok (.bipush 10, 2) := by decide +kernel
theorem dX6_looks_18 : decode cX6_looks 18 = .ok (.iload_n 1, 1) := by decide +kernel
theorem dX6_looks_19 : decode cX6_looks 19 = .ok (.imul, 1) := by decide +kernel
theorem dX6_looks_20 : decode cX6_looks 20 = .ok (.iload_n 2, 1) := by decide +kernel
theorem dX6_looks_21 : decode cX6_looks 21 = .ok (.iadd, 1) := by decide +kernel
theorem dX6_looks_22 : decode cX6_looks 22 = .ok (.iaload, 1) := by decide +kernel
theorem dX6_looks_23 : decode cX6_looks 23 = .ok (.ldc 86, 2) := by decide +kernel
theorem dX6_looks_25 : decode cX6_looks 25 = .ok (.if_icmp .eq 7, 3) := by decide +kernel
theorem dX6_looks_28 : decode cX6_looks 28 = .ok (.iconst 1, 1) := by decide +kernel
theorem dX6_looks_29 : decode cX6_looks 29 = .ok (.goto 4, 3) := by decide +kernel
theorem dX6_looks_32 : decode cX6_looks 32 = .ok (.iconst 0, 1) := by decide +kernel
theorem dX6_looks_33 : decode cX6_looks 33 = .ok (.istore 4, 2) := by decide +kernel
theorem dX6_looks_35 : decode cX6_looks 35 = .ok (.iload 4, 2) := by decide +kernel
theorem dX6_looks_37 : decode cX6_looks 37 = .ok (.ifCond .eq 14, 3) := by decide +kernel
theorem dX6_looks_40 : decode cX6_looks 40 = .ok (.aload_n 0, 1) := by decide +kernel
theorem dX6_looks_41 : decode cX6_looks 41 = .ok (.iload_n 1, 1) := by decide +kernel
theorem dX6_looks_42 : decode cX6_looks 42 = .ok (.iload_n 2, 1) := by decide +kernel
theorem dX6_looks_43 : decode cX6_looks 43 = .ok (.iload_n 3, 1) := by decide +kernel
theorem dX6_looks_44 : decode cX6_looks 44 = .ok (.invokevirtual 114, 3) := by decide +kernel
theorem dX6_looks_47 : decode cX6_looks 47 = .ok (.iconst 1, 1) := by decide +kernel
theorem dX6_looks_48 : decode cX6_looks 48 = .ok (.if_icmp .eq 5, 3) := by decide +kernel
theorem dX6_looks_51 : decode cX6_looks 51 = .ok (.iconst 0, 1) := by decide +kernel
theorem dX6_looks_52 : decode cX6_looks 52 = .ok (.ireturn, 1) := by decide +kernel
theorem dX6_looks_53 : decode cX6_looks 53 = .ok (.iconst (-1), 1) := by decide +kernel
theorem dX6_looks_54 : decode cX6_looks 54 = .ok (.istore 5, 2) := by decide +kernel
theorem dX6_looks_56 : decode cX6_looks 56 = .ok (.iconst 0, 1) := by decide +kernel
theorem dX6_looks_57 : decode cX6_looks 57 = .ok (.istore 6, 2) := by decide +kernel
theorem dX6_looks_59 : decode cX6_looks 59 = .ok (.iload 6, 2) := by decide +kernel
theorem dX6_looks_61 : decode cX6_looks 61 = .ok (.iload_n 3, 1) := by decide +kernel
theorem dX6_looks_62 : decode cX6_looks 62 = .ok (.ifCond .eq 10, 3) := by decide +kernel
theorem dX6_looks_65 : decode cX6_looks 65 = .ok (.aload_n 0, 1) := by decide +kernel
theorem dX6_looks_66 : decode cX6_looks 66 = .ok (.getfield 61, 3) := by decide +kernel
theorem dX6_looks_69 : decode cX6_looks 69 = .ok (.goto 7, 3) := by decide +kernel
theorem dX6_looks_72 : decode cX6_looks 72 = .ok (.aload_n 0, 1) := by decide +kernel
theorem dX6_looks_73 : decode cX6_looks 73 = .ok (.getfield 54, 3) := by decide +kernel
theorem dX6_looks_76 : decode cX6_looks 76 = .ok (.if_icmp .ge 125, 3) := by decide +kernel
theorem dX6_looks_79 : decode cX6_looks 79 = .ok (.iload_n 3, 1) := by decide +kernel
theorem dX6_looks_80 : decode cX6_looks 80 = .ok (.ifCond .eq 13, 3) := by decide +kernel
theorem dX6_looks_83 : decode cX6_looks 83 = .ok (.bipush 10, 2) := by decide +kernel
theorem dX6_looks_85 : decode cX6_looks 85 = .ok (.iload_n 1, 1) := by decide +kernel
theorem dX6_looks_86 : decode cX6_looks 86 = .ok (.imul, 1) := by decide +kernel
theorem dX6_looks_87 : decode cX6_looks 87 = .ok (.iload 6, 2) := by decide +kernel
theorem dX6_looks_89 : decode cX6_looks 89 = .ok (.iadd, 1) := by decide +kernel
theorem dX6_looks_90 : decode cX6_looks 90 = .ok (.goto 10, 3) := by decide +kernel
theorem dX6_looks_93 : decode cX6_looks 93 = .ok (.bipush 10, 2) := by decide +kernel
theorem dX6_looks_95 : decode cX6_looks 95 = .ok (.iload 6, 2) := by decide +kernel
theorem dX6_looks_97 : decode cX6_looks 97 = .ok (.imul, 1) := by decide +kernel
theorem dX6_looks_98 : decode cX6_looks 98 = .ok (.iload_n 2, 1) := by decide +kernel
theorem dX6_looks_99 : decode cX6_looks 99 = .ok (.iadd, 1) := by decide +kernel
theorem dX6_looks_100 : decode cX6_looks 100 = .ok (.istore 7, 2) := by decide +kernel
theorem dX6_looks_102 : decode cX6_looks 102 = .ok (.iload_n 3, 1) := by decide +kernel
theorem dX6_looks_103 : decode cX6_looks 103 = .ok (.ifCond .eq 13, 3) := by decide +kernel
theorem dX6_looks_106 : decode cX6_looks 106 = .ok (.aload_n 0, 1) := by decide +kernel
theorem dX6_looks_107 : decode cX6_looks 107 = .ok (.getfield 13, 3) := by decide +kernel
theorem dX6_looks_110 : decode cX6_looks 110 = .ok (.iload 6, 2) := by decide +kernel
theorem dX6_looks_112 : decode cX6_looks 112 = .ok (.iaload, 1) := by decide +kernel
theorem dX6_looks_113 : decode cX6_looks 113 = .ok (.goto 10, 3) := by decide +kernel
theorem dX6_looks_116 : decode cX6_looks 116 = .ok (.aload_n 0, 1) := by decide +kernel
theorem dX6_looks_117 : decode cX6_looks 117 = .ok (.getfield 7, 3) := by decide +kernel
theorem dX6_looks_120 : decode cX6_looks 120 = .ok (.iload 6, 2) := by decide +kernel
theorem dX6_looks_122 : decode cX6_looks 122 = .ok (.iaload, 1) := by decide +kernel
theorem dX6_looks_123 : decode cX6_looks 123 = .ok (.iload_n 3, 1) := by decide +kernel
theorem dX6_looks_124 : decode cX6_looks 124 = .ok (.ifCond .eq 7, 3) := by decide +kernel
theorem dX6_looks_127 : decode cX6_looks 127 = .ok (.iload_n 2, 1) := by decide +kernel
theorem dX6_looks_128 : decode cX6_looks 128 = .ok (.goto 4, 3) := by decide +kernel
theorem dX6_looks_131 : decode cX6_looks 131 = .ok (.iload_n 1, 1) := by decide +kernel
theorem dX6_looks_132 : decode cX6_looks 132 = .ok (.if_icmp .ne 17, 3) := by decide +kernel
theorem dX6_looks_135 : decode cX6_looks 135 = .ok (.aload_n 0, 1) := by decide +kernel
theorem dX6_looks_136 : decode cX6_looks 136 = .ok (.getfield 47, 3) := by decide +kernel
theorem dX6_looks_139 : decode cX6_looks 139 = .ok (.iload 7, 2) := by decide +kernel
theorem dX6_looks_141 : decode cX6_looks 141 = .ok (.baload, 1) := by decide +kernel
theorem dX6_looks_142 : decode cX6_looks 142 = .ok (.ifCond .ne 7, 3) := by decide +kernel
theorem dX6_looks_145 : decode cX6_looks 145 = .ok (.iconst 1, 1) := by decide +kernel
theorem dX6_looks_146 : decode cX6_looks 146 = .ok (.goto 4, 3) := by decide +kernel
theorem dX6_looks_149 : decode cX6_looks 149 = .ok (.iconst 0, 1) := by decide +kernel
theorem dX6_looks_150 : decode cX6_looks 150 = .ok (.istore 8, 2) := by decide +kernel
theorem dX6_looks_152 : decode cX6_looks 152 = .ok (.iload 8, 2) := by decide +kernel
theorem dX6_looks_154 : decode cX6_looks 154 = .ok (.ifCond .eq 37, 3) := by decide +kernel
theorem dX6_looks_157 : decode cX6_looks 157 = .ok (.iload 5, 2) := by decide +kernel
theorem dX6_looks_159 : decode cX6_looks 159 = .ok (.iconst (-1), 1) := by decide +kernel
theorem dX6_looks_160 : decode cX6_looks 160 = .ok (.if_icmp .eq 26, 3) := by decide +kernel
theorem dX6_looks_163 : decode cX6_looks 163 = .ok (.aload_n 0, 1) := by decide +kernel
theorem dX6_looks_164 : decode cX6_looks 164 = .ok (.getfield 44, 3) := by decide +kernel
theorem dX6_looks_167 : decode cX6_looks 167 = .ok (.iload 7, 2) := by decide +kernel
theorem dX6_looks_169 : decode cX6_looks 169 = .ok (.iaload, 1) := by decide +kernel
theorem dX6_looks_170 : decode cX6_looks 170 = .ok (.invokestatic 117, 3) := by decide +kernel
theorem dX6_looks_173 : decode cX6_looks 173 = .ok (.aload_n 0, 1) := by decide +kernel
theorem dX6_looks_174 : decode cX6_looks 174 = .ok (.getfield 44, 3) := by decide +kernel
theorem dX6_looks_177 : decode cX6_looks 177 = .ok (.iload 5, 2) := by decide +kernel
theorem dX6_looks_179 : decode cX6_looks 179 = .ok (.iaload, 1) := by decide +kernel
theorem dX6_looks_180 : decode cX6_looks 180 = .ok (.invokestatic 117, 3) := by decide +kernel
theorem dX6_looks_183 : decode cX6_looks 183 = .ok (.if_icmp .ge 8, 3) := by decide +kernel
theorem dX6_looks_186 : decode cX6_looks 186 = .ok (.iload 7, 2) := by decide +kernel
theorem dX6_looks_188 : decode cX6_looks 188 = .ok (.goto 5, 3) := by decide +kernel
theorem dX6_looks_191 : decode cX6_looks 191 = .ok (.iload 5, 2) := by decide +kernel
theorem dX6_looks_193 : decode cX6_looks 193 = .ok (.istore 5, 2) := by decide +kernel
theorem dX6_looks_195 : decode cX6_looks 195 = .ok (.iinc 6 1, 3) := by decide +kernel
theorem dX6_looks_198 : decode cX6_looks 198 = .ok (.goto (-139), 3) := by decide +kernel
theorem dX6_looks_201 : decode cX6_looks 201 = .ok (.aload_n 0, 1) := by decide +kernel
theorem dX6_looks_202 : decode cX6_looks 202 = .ok (.getfield 47, 3) := by decide +kernel
theorem dX6_looks_205 : decode cX6_looks 205 = .ok (.iload 5, 2) := by decide +kernel
theorem dX6_looks_207 : decode cX6_looks 207 = .ok (.iconst (-1), 1) := by decide +kernel
theorem dX6_looks_208 : decode cX6_looks 208 = .ok (.if_icmp .ne 12, 3) := by decide +kernel
theorem dX6_looks_211 : decode cX6_looks 211 = .ok (.bipush 10, 2) := by decide +kernel
theorem dX6_looks_213 : decode cX6_looks 213 = .ok (.iload_n 1, 1) := by decide +kernel
theorem dX6_looks_214 : decode cX6_looks 214 = .ok (.imul, 1) := by decide +kernel
theorem dX6_looks_215 : decode cX6_looks 215 = .ok (.iload_n 2, 1) := by decide +kernel
theorem dX6_looks_216 : decode cX6_looks 216 = .ok (.iadd, 1) := by decide +kernel
theorem dX6_looks_217 : decode cX6_looks 217 = .ok (.goto 5, 3) := by decide +kernel
theorem dX6_looks_220 : decode cX6_looks 220 = .ok (.iload 5, 2) := by decide +kernel
theorem dX6_looks_222 : decode cX6_looks 222 = .ok (.iconst 1, 1) := by decide +kernel
theorem dX6_looks_223 : decode cX6_looks 223 = .ok (.bastore, 1) := by decide +kernel
theorem dX6_looks_224 : decode cX6_looks 224 = .ok (.iconst 1, 1) := by decide +kernel
theorem dX6_looks_225 : decode cX6_looks 225 = .ok (.ireturn, 1) := by decide +kernel
set_option maxRecDepth 20000 in
theorem ggX6_covers_X6_finds : GoodIn wsX6_covers wsX6_finds := goodIn_r _ [12, 3, 4, 7, 6, 13, 14, 11, 15, 16, 17, 18, 19, 20, 21, 22, 23, 24, 25, 26, 27, 28, 29, 41, 42, 43, 44, 45, 46, 47, 48, 49, 50, 51, 52, 53, 54, 55, 56, 57, 58, 59, 60, 61] (by decide +kernel) (by decide +kernel)
set_option maxRecDepth 20000 in
theorem gX6_covers_X6_finds : GoodIn wsX6_covers (wsV RX6 121 RX6 yX6_finds wsX6_finds) := goodIn_app (goodIn_of _ (by decide +kernel)) ggX6_covers_X6_finds
set_option maxRecDepth 20000 in
theorem ggX6_covers_X6_looks : GoodIn wsX6_covers wsX6_looks := goodIn_r _ [33, 7, 6, 4, 3, 28, 29, 2, 24, 25, 26, 11, 27, 34, 35, 36, 37, 38, 39, 40, 41, 42, 43, 44, 45, 46, 47, 48, 49, 50, 51, 52, 53, 54, 55, 56, 57, 58, 59, 60, 61] (by decide +kernel) (by decide +kernel)
set_option maxRecDepth 20000 in
theorem gX6_covers_X6_looks : GoodIn wsX6_covers (wsV RX6 125 RX6 yX6_looks wsX6_looks) := goodIn_app (goodIn_of _ (by decide +kernel)) ggX6_covers_X6_looks
theorem dX6_covers_0 : decode cX6_covers 0 = .ok (.aload_n 0, 1) := by decide +kernel
theorem dX6_covers_1 : decode cX6_covers 1 = .ok (.iload_n 1, 1) := by decide +kernel
theorem dX6_covers_2 : decode cX6_covers 2 = .ok (.aload_n 0, 1) := by decide +kernel
theorem dX6_covers_3 : decode cX6_covers 3 = .ok (.getfield 90, 3) := by decide +kernel
theorem dX6_covers_6 : decode cX6_covers 6 = .ok (.invokevirtual 121, 3) := by decide +kernel
theorem dX6_covers_9 : decode cX6_covers 9 = .ok (.iconst 0, 1) := by decide +kernel
theorem dX6_covers_10 : decode cX6_covers 10 = .ok (.istore_n 2, 1) := by decide +kernel
theorem dX6_covers_11 : decode cX6_covers 11 = .ok (.iconst 0, 1) := by decide +kernel
theorem dX6_covers_12 : decode cX6_covers 12 = .ok (.istore_n 3, 1) := by decide +kernel
theorem dX6_covers_13 : decode cX6_covers 13 = .ok (.iload_n 3, 1) := by decide +kernel
theorem dX6_covers_14 : decode cX6_covers 14 = .ok (.sipush 140, 3) := by decide +kernel
theorem dX6_covers_17 : decode cX6_covers 17 = .ok (.if_icmp .ge 85, 3) := by decide +kernel
theorem dX6_covers_20 : decode cX6_covers 20 = .ok (.aload_n 0, 1) := by decide +kernel
theorem dX6_covers_21 : decode cX6_covers 21 = .ok (.getfield 47, 3) := by decide +kernel
theorem dX6_covers_24 : decode cX6_covers 24 = .ok (.iload_n 3, 1) := by decide +kernel
theorem dX6_covers_25 : decode cX6_covers 25 = .ok (.iload_n 3, 1) := by decide +kernel
theorem dX6_covers_26 : decode cX6_covers 26 = .ok (.bipush 10, 2) := by decide +kernel
theorem dX6_covers_28 : decode cX6_covers 28 = .ok (.idiv, 1) := by decide +kernel
theorem dX6_covers_29 : decode cX6_covers 29 = .ok (.aload_n 0, 1) := by decide +kernel
theorem dX6_covers_30 : decode cX6_covers 30 = .ok (.getfield 54, 3) := by decide +kernel
theorem dX6_covers_33 : decode cX6_covers 33 = .ok (.if_icmp .ge 44, 3) := by decide +kernel
theorem dX6_covers_36 : decode cX6_covers 36 = .ok (.iload_n 3, 1) := by decide +kernel
theorem dX6_covers_37 : decode cX6_covers 37 = .ok (.bipush 10, 2) := by decide +kernel
theorem dX6_covers_39 : decode cX6_covers 39 = .ok (.irem, 1) := by decide +kernel
theorem dX6_covers_40 : decode cX6_covers 40 = .ok (.aload_n 0, 1) := by decide +kernel
theorem dX6_covers_41 : decode cX6_covers 41 = .ok (.getfield 61, 3) := by decide +kernel
theorem dX6_covers_44 : decode cX6_covers 44 = .ok (.if_icmp .ge 33, 3) := by decide +kernel
theorem dX6_covers_47 : decode cX6_covers 47 = .ok (.aload_n 0, 1) := by decide +kernel
theorem dX6_covers_48 : decode cX6_covers 48 = .ok (.getfield 41, 3) := by decide +kernel
theorem dX6_covers_51 : decode cX6_covers 51 = .ok (.sipush 140, 3) := by decide +kernel
theorem dX6_covers_54 : decode cX6_covers 54 = .ok (.iload_n 1, 1) := by decide +kernel
theorem dX6_covers_55 : decode cX6_covers 55 = .ok (.imul, 1) := by decide +kernel
theorem dX6_covers_56 : decode cX6_covers 56 = .ok (.iload_n 3, 1) := by decide +kernel
theorem dX6_covers_57 : decode cX6_covers 57 = .ok (.iadd, 1) := by decide +kernel
theorem dX6_covers_58 : decode cX6_covers 58 = .ok (.baload, 1) := by decide +kernel
theorem dX6_covers_59 : decode cX6_covers 59 = .ok (.ifCond .eq 18, 3) := by decide +kernel
theorem dX6_covers_62 : decode cX6_covers 62 = .ok (.aload_n 0, 1) := by decide +kernel
theorem dX6_covers_63 : decode cX6_covers 63 = .ok (.getfield 44, 3) := by decide +kernel
theorem dX6_covers_66 : decode cX6_covers 66 = .ok (.iload_n 3, 1) := by decide +kernel
theorem dX6_covers_67 : decode cX6_covers 67 = .ok (.iaload, 1) := by decide +kernel
theorem dX6_covers_68 : decode cX6_covers 68 = .ok (.ldc 86, 2) := by decide +kernel
theorem dX6_covers_70 : decode cX6_covers 70 = .ok (.if_icmp .eq 7, 3) := by decide +kernel
theorem dX6_covers_73 : decode cX6_covers 73 = .ok (.iconst 1, 1) := by decide +kernel
theorem dX6_covers_74 : decode cX6_covers 74 = .ok (.goto 4, 3) := by decide +kernel
theorem dX6_covers_77 : decode cX6_covers 77 = .ok (.iconst 0, 1) := by decide +kernel
theorem dX6_covers_78 : decode cX6_covers 78 = .ok (.bastore, 1) := by decide +kernel
theorem dX6_covers_79 : decode cX6_covers 79 = .ok (.iload_n 2, 1) := by decide +kernel
theorem dX6_covers_80 : decode cX6_covers 80 = .ok (.aload_n 0, 1) := by decide +kernel
theorem dX6_covers_81 : decode cX6_covers 81 = .ok (.getfield 47, 3) := by decide +kernel
theorem dX6_covers_84 : decode cX6_covers 84 = .ok (.iload_n 3, 1) := by decide +kernel
theorem dX6_covers_85 : decode cX6_covers 85 = .ok (.baload, 1) := by decide +kernel
theorem dX6_covers_86 : decode cX6_covers 86 = .ok (.ifCond .eq 7, 3) := by decide +kernel
theorem dX6_covers_89 : decode cX6_covers 89 = .ok (.iconst 1, 1) := by decide +kernel
theorem dX6_covers_90 : decode cX6_covers 90 = .ok (.goto 4, 3) := by decide +kernel
theorem dX6_covers_93 : decode cX6_covers 93 = .ok (.iconst 0, 1) := by decide +kernel
theorem dX6_covers_94 : decode cX6_covers 94 = .ok (.iadd, 1) := by decide +kernel
theorem dX6_covers_95 : decode cX6_covers 95 = .ok (.istore_n 2, 1) := by decide +kernel
theorem dX6_covers_96 : decode cX6_covers 96 = .ok (.iinc 3 1, 3) := by decide +kernel
theorem dX6_covers_99 : decode cX6_covers 99 = .ok (.goto (-86), 3) := by decide +kernel
theorem dX6_covers_102 : decode cX6_covers 102 = .ok (.iconst (-1), 1) := by decide +kernel
theorem dX6_covers_103 : decode cX6_covers 103 = .ok (.istore_n 3, 1) := by decide +kernel
theorem dX6_covers_104 : decode cX6_covers 104 = .ok (.iload_n 3, 1) := by decide +kernel
theorem dX6_covers_105 : decode cX6_covers 105 = .ok (.iload_n 2, 1) := by decide +kernel
theorem dX6_covers_106 : decode cX6_covers 106 = .ok (.if_icmp .eq 89, 3) := by decide +kernel
theorem dX6_covers_109 : decode cX6_covers 109 = .ok (.iload_n 2, 1) := by decide +kernel
theorem dX6_covers_110 : decode cX6_covers 110 = .ok (.istore_n 3, 1) := by decide +kernel
theorem dX6_covers_111 : decode cX6_covers 111 = .ok (.iconst 0, 1) := by decide +kernel
theorem dX6_covers_112 : decode cX6_covers 112 = .ok (.istore 4, 2) := by decide +kernel
theorem dX6_covers_114 : decode cX6_covers 114 = .ok (.iload 4, 2) := by decide +kernel
theorem dX6_covers_116 : decode cX6_covers 116 = .ok (.iconst 2, 1) := by decide +kernel
theorem dX6_covers_117 : decode cX6_covers 117 = .ok (.if_icmp .ge 75, 3) := by decide +kernel
theorem dX6_covers_120 : decode cX6_covers 120 = .ok (.iconst 0, 1) := by decide +kernel
theorem dX6_covers_121 : decode cX6_covers 121 = .ok (.istore 5, 2) := by decide +kernel
theorem dX6_covers_123 : decode cX6_covers 123 = .ok (.iload 5, 2) := by decide +kernel
theorem dX6_covers_125 : decode cX6_covers 125 = .ok (.aload_n 0, 1) := by decide +kernel
theorem dX6_covers_126 : decode cX6_covers 126 = .ok (.getfield 54, 3) := by decide +kernel
theorem dX6_covers_129 : decode cX6_covers 129 = .ok (.if_icmp .ge 57, 3) := by decide +kernel
theorem dX6_covers_132 : decode cX6_covers 132 = .ok (.iconst 0, 1) := by decide +kernel
theorem dX6_covers_133 : decode cX6_covers 133 = .ok (.istore 6, 2) := by decide +kernel
theorem dX6_covers_135 : decode cX6_covers 135 = .ok (.iload 6, 2) := by decide +kernel
theorem dX6_covers_137 : decode cX6_covers 137 = .ok (.aload_n 0, 1) := by decide +kernel
theorem dX6_covers_138 : decode cX6_covers 138 = .ok (.getfield 61, 3) := by decide +kernel
theorem dX6_covers_141 : decode cX6_covers 141 = .ok (.if_icmp .ge 39, 3) := by decide +kernel
theorem dX6_covers_144 : decode cX6_covers 144 = .ok (.iload_n 2, 1) := by decide +kernel
theorem dX6_covers_145 : decode cX6_covers 145 = .ok (.aload_n 0, 1) := by decide +kernel
theorem dX6_covers_146 : decode cX6_covers 146 = .ok (.iload 5, 2) := by decide +kernel
theorem dX6_covers_148 : decode cX6_covers 148 = .ok (.iload 6, 2) := by decide +kernel
theorem dX6_covers_150 : decode cX6_covers 150 = .ok (.iload 4, 2) := by decide +kernel
theorem dX6_covers_152 : decode cX6_covers 152 = .ok (.iconst 1, 1) := by decide +kernel
theorem dX6_covers_153 : decode cX6_covers 153 = .ok (.if_icmp .ne 7, 3) := by decide +kernel
theorem dX6_covers_156 : decode cX6_covers 156 = .ok (.iconst 1, 1) := by decide +kernel
theorem dX6_covers_157 : decode cX6_covers 157 = .ok (.goto 4, 3) := by decide +kernel
theorem dX6_covers_160 : decode cX6_covers 160 = .ok (.iconst 0, 1) := by decide +kernel
theorem dX6_covers_161 : decode cX6_covers 161 = .ok (.invokevirtual 125, 3) := by decide +kernel
theorem dX6_covers_164 : decode cX6_covers 164 = .ok (.ifCond .eq 7, 3) := by decide +kernel
theorem dX6_covers_167 : decode cX6_covers 167 = .ok (.iconst 1, 1) := by decide +kernel
theorem dX6_covers_168 : decode cX6_covers 168 = .ok (.goto 4, 3) := by decide +kernel
theorem dX6_covers_171 : decode cX6_covers 171 = .ok (.iconst 0, 1) := by decide +kernel
theorem dX6_covers_172 : decode cX6_covers 172 = .ok (.iadd, 1) := by decide +kernel
theorem dX6_covers_173 : decode cX6_covers 173 = .ok (.istore_n 2, 1) := by decide +kernel
theorem dX6_covers_174 : decode cX6_covers 174 = .ok (.iinc 6 1, 3) := by decide +kernel
theorem dX6_covers_177 : decode cX6_covers 177 = .ok (.goto (-42), 3) := by decide +kernel
theorem dX6_covers_180 : decode cX6_covers 180 = .ok (.iinc 5 1, 3) := by decide +kernel
theorem dX6_covers_183 : decode cX6_covers 183 = .ok (.goto (-60), 3) := by decide +kernel
theorem dX6_covers_186 : decode cX6_covers 186 = .ok (.iinc 4 1, 3) := by decide +kernel
theorem dX6_covers_189 : decode cX6_covers 189 = .ok (.goto (-75), 3) := by decide +kernel
theorem dX6_covers_192 : decode cX6_covers 192 = .ok (.goto (-88), 3) := by decide +kernel
theorem dX6_covers_195 : decode cX6_covers 195 = .ok (.iload_n 2, 1) := by decide +kernel
theorem dX6_covers_196 : decode cX6_covers 196 = .ok (.ireturn, 1) := by decide +kernel
set_option maxRecDepth 20000 in
theorem ggX6_secret_X6_isCell : GoodIn wsX6_secret wsX6_isCell := goodIn_r _ [7, 8, 9, 10, 6, 11, 12, 13, 14, 15, 16, 17, 18, 19, 20, 61, 62, 63, 64, 65, 66, 67, 68, 69, 70, 71, 72, 73, 74, 75, 76, 77, 78, 79, 80, 81] (by decide +kernel) (by decide +kernel)
set_option maxRecDepth 20000 in
theorem gX6_secret_X6_isCell : GoodIn wsX6_secret (wsV RX6 74 RX6 yX6_isCell wsX6_isCell) := goodIn_app (goodIn_of _ (by decide +kernel)) ggX6_secret_X6_isCell
set_option maxRecDepth 20000 in
theorem ggX6_secret_X6_cellOf : GoodIn wsX6_secret wsX6_cellOf := goodIn_r _ [23] (by decide +kernel) (by decide +kernel)
set_option maxRecDepth 20000 in
theorem gX6_secret_X6_cellOf : GoodIn wsX6_secret (va_wsS RX6 82 yX6_cellOf wsX6_cellOf) := goodIn_app (goodIn_of _ (by decide +kernel)) ggX6_secret_X6_cellOf
set_option maxRecDepth 20000 in
theorem ggX6_secret_X6_covers : GoodIn wsX6_secret wsX6_covers := goodIn_r _ [27, 28, 29, 12, 20, 2, 30, 31, 32, 33, 34, 6, 35, 21, 22, 23, 36, 37, 38, 39, 40, 41, 42, 43, 44, 45, 46, 47, 48, 49, 50, 51, 52, 53, 54, 55, 56, 57, 58, 59, 60, 61, 62, 63, 64, 65, 66, 67, 68, 69, 70, 71, 72, 73, 74, 75, 76, 77, 78, 79, 80, 81] (by decide +kernel) (by decide +kernel)
set_option maxRecDepth 20000 in
theorem gX6_secret_X6_covers : GoodIn wsX6_secret (wsV RX6 129 RX6 yX6_covers wsX6_covers) := goodIn_app (goodIn_of _ (by decide +kernel)) ggX6_secret_X6_covers
theorem dX6_secret_0 : decode cX6_secret 0 = .ok (.aload_n 0, 1) := by decide +kernel
theorem dX6_secret_1 : decode cX6_secret 1 = .ok (.aload_n 0, 1) := by decide +kernel
theorem dX6_secret_2 : decode cX6_secret 2 = .ok (.iload_n 1, 1) := by decide +kernel
theorem dX6_secret_3 : decode cX6_secret 3 = .ok (.iload_n 2, 1) := by decide +kernel
theorem dX6_secret_4 : decode cX6_secret 4 = .ok (.iload_n 3, 1) := by decide +kernel
theorem dX6_secret_5 : decode cX6_secret 5 = .ok (.invokevirtual 74, 3) := by decide +kernel
theorem dX6_secret_8 : decode cX6_secret 8 = .ok (.ifCond .eq 7, 3) := by decide +kernel
theorem dX6_secret_11 : decode cX6_secret 11 = .ok (.iconst 0, 1) := by decide +kernel
theorem dX6_secret_12 : decode cX6_secret 12 = .ok (.goto 4, 3) := by decide +kernel
theorem dX6_secret_15 : decode cX6_secret 15 = .ok (.iconst 1, 1) := by decide +kernel
theorem dX6_secret_16 : decode cX6_secret 16 = .ok (.putfield 50, 3) := by decide +kernel
theorem dX6_secret_19 : decode cX6_secret 19 = .ok (.aload_n 0, 1) := by decide +kernel
theorem dX6_secret_20 : decode cX6_secret 20 = .ok (.getfield 50, 3) := by decide +kernel
theorem dX6_secret_23 : decode cX6_secret 23 = .ok (.ifCond .le 5, 3) := by decide +kernel
theorem dX6_secret_26 : decode cX6_secret 26 = .ok (.iconst 0, 1) := by decide +kernel
theorem dX6_secret_27 : decode cX6_secret 27 = .ok (.ireturn, 1) := by decide +kernel
theorem dX6_secret_28 : decode cX6_secret 28 = .ok (.aload_n 0, 1) := by decide +kernel
theorem dX6_secret_29 : decode cX6_secret 29 = .ok (.getfield 41, 3) := by decide +kernel
theorem dX6_secret_32 : decode cX6_secret 32 = .ok (.iload_n 1, 1) := by decide +kernel
theorem dX6_secret_33 : decode cX6_secret 33 = .ok (.iload_n 2, 1) := by decide +kernel
theorem dX6_secret_34 : decode cX6_secret 34 = .ok (.iload_n 3, 1) := by decide +kernel
theorem dX6_secret_35 : decode cX6_secret 35 = .ok (.invokestatic 82, 3) := by decide +kernel
theorem dX6_secret_38 : decode cX6_secret 38 = .ok (.iload 4, 2) := by decide +kernel
theorem dX6_secret_40 : decode cX6_secret 40 = .ok (.bastore, 1) := by decide +kernel
theorem dX6_secret_41 : decode cX6_secret 41 = .ok (.aload_n 0, 1) := by decide +kernel
theorem dX6_secret_42 : decode cX6_secret 42 = .ok (.iload_n 3, 1) := by decide +kernel
theorem dX6_secret_43 : decode cX6_secret 43 = .ok (.invokevirtual 129, 3) := by decide +kernel
theorem dX6_secret_46 : decode cX6_secret 46 = .ok (.ireturn, 1) := by decide +kernel
set_option maxRecDepth 20000 in
theorem ggX6_pass_X6_isIn : GoodIn wsX6_pass wsX6_isIn := goodIn_r _ [6] (by decide +kernel) (by decide +kernel)
set_option maxRecDepth 20000 in
theorem gX6_pass_X6_isIn : GoodIn wsX6_pass (va_wsS RX6 57 yX6_isIn wsX6_isIn) := goodIn_app (goodIn_of _ (by decide +kernel)) ggX6_pass_X6_isIn
theorem dX6_pass_0 : decode cX6_pass 0 = .ok (.aload_n 0, 1) := by decide +kernel
theorem dX6_pass_1 : decode cX6_pass 1 = .ok (.iload_n 1, 1) := by decide +kernel
theorem dX6_pass_2 : decode cX6_pass 2 = .ok (.iconst 1, 1) := by decide +kernel
theorem dX6_pass_3 : decode cX6_pass 3 = .ok (.bipush 100, 2) := by decide +kernel
theorem dX6_pass_5 : decode cX6_pass 5 = .ok (.invokestatic 57, 3) := by decide +kernel
theorem dX6_pass_8 : decode cX6_pass 8 = .ok (.ifCond .ne 7, 3) := by decide +kernel
theorem dX6_pass_11 : decode cX6_pass 11 = .ok (.iconst 1, 1) := by decide +kernel
theorem dX6_pass_12 : decode cX6_pass 12 = .ok (.goto 20, 3) := by decide +kernel
theorem dX6_pass_15 : decode cX6_pass 15 = .ok (.aload_n 0, 1) := by decide +kernel
theorem dX6_pass_16 : decode cX6_pass 16 = .ok (.getfield 90, 3) := by decide +kernel
theorem dX6_pass_19 : decode cX6_pass 19 = .ok (.iload_n 1, 1) := by decide +kernel
theorem dX6_pass_20 : decode cX6_pass 20 = .ok (.iadd, 1) := by decide +kernel
theorem dX6_pass_21 : decode cX6_pass 21 = .ok (.sipush 1000, 3) := by decide +kernel
theorem dX6_pass_24 : decode cX6_pass 24 = .ok (.if_icmp .le 7, 3) := by decide +kernel
theorem dX6_pass_27 : decode cX6_pass 27 = .ok (.iconst 2, 1) := by decide +kernel
theorem dX6_pass_28 : decode cX6_pass 28 = .ok (.goto 4, 3) := by decide +kernel
theorem dX6_pass_31 : decode cX6_pass 31 = .ok (.iconst 0, 1) := by decide +kernel
theorem dX6_pass_32 : decode cX6_pass 32 = .ok (.putfield 50, 3) := by decide +kernel
theorem dX6_pass_35 : decode cX6_pass 35 = .ok (.aload_n 0, 1) := by decide +kernel
theorem dX6_pass_36 : decode cX6_pass 36 = .ok (.dup, 1) := by decide +kernel
theorem dX6_pass_37 : decode cX6_pass 37 = .ok (.getfield 90, 3) := by decide +kernel
theorem dX6_pass_40 : decode cX6_pass 40 = .ok (.aload_n 0, 1) := by decide +kernel
theorem dX6_pass_41 : decode cX6_pass 41 = .ok (.getfield 50, 3) := by decide +kernel
theorem dX6_pass_44 : decode cX6_pass 44 = .ok (.ifCond .ne 7, 3) := by decide +kernel
theorem dX6_pass_47 : decode cX6_pass 47 = .ok (.iload_n 1, 1) := by decide +kernel
theorem dX6_pass_48 : decode cX6_pass 48 = .ok (.goto 4, 3) := by decide +kernel
theorem dX6_pass_51 : decode cX6_pass 51 = .ok (.iconst 0, 1) := by decide +kernel
theorem dX6_pass_52 : decode cX6_pass 52 = .ok (.iadd, 1) := by decide +kernel
theorem dX6_pass_53 : decode cX6_pass 53 = .ok (.putfield 90, 3) := by decide +kernel
theorem dX6_pass_56 : decode cX6_pass 56 = .ok (.aload_n 0, 1) := by decide +kernel
theorem dX6_pass_57 : decode cX6_pass 57 = .ok (.getfield 50, 3) := by decide +kernel
theorem dX6_pass_60 : decode cX6_pass 60 = .ok (.ifCond .le 7, 3) := by decide +kernel
theorem dX6_pass_63 : decode cX6_pass 63 = .ok (.iconst 0, 1) := by decide +kernel
theorem dX6_pass_64 : decode cX6_pass 64 = .ok (.goto 7, 3) := by decide +kernel
theorem dX6_pass_67 : decode cX6_pass 67 = .ok (.aload_n 0, 1) := by decide +kernel
theorem dX6_pass_68 : decode cX6_pass 68 = .ok (.getfield 90, 3) := by decide +kernel
theorem dX6_pass_71 : decode cX6_pass 71 = .ok (.ireturn, 1) := by decide +kernel
set_option maxRecDepth 20000 in
theorem ggX6_figure_X6_isCell : GoodIn wsX6_figure wsX6_isCell := goodIn_r _ [7, 8, 9, 10, 6, 11, 12, 13, 14, 15, 16, 17, 18, 19, 20, 33, 34, 35, 36, 37, 38, 39, 40, 41, 42, 43, 44, 45, 46, 47, 48, 49, 50, 51, 52, 53] (by decide +kernel) (by decide +kernel)
set_option maxRecDepth 20000 in
theorem gX6_figure_X6_isCell : GoodIn wsX6_figure (wsV RX6 74 RX6 yX6_isCell wsX6_isCell) := goodIn_app (goodIn_of _ (by decide +kernel)) ggX6_figure_X6_isCell
set_option maxRecDepth 20000 in
theorem ggX6_figure_X6_isIn : GoodIn wsX6_figure wsX6_isIn := goodIn_r _ [15] (by decide +kernel) (by decide +kernel)
set_option maxRecDepth 20000 in
theorem gX6_figure_X6_isIn : GoodIn wsX6_figure (va_wsS RX6 57 yX6_isIn wsX6_isIn) := goodIn_app (goodIn_of _ (by decide +kernel)) ggX6_figure_X6_isIn
set_option maxRecDepth 20000 in
theorem ggX6_figure_X6_cellOf : GoodIn wsX6_figure wsX6_cellOf := goodIn_r _ [23] (by decide +kernel) (by decide +kernel)
set_option maxRecDepth 20000 in
theorem gX6_figure_X6_cellOf : GoodIn wsX6_figure (va_wsS RX6 82 yX6_cellOf wsX6_cellOf) := goodIn_app (goodIn_of _ (by decide +kernel)) ggX6_figure_X6_cellOf
set_option maxRecDepth 20000 in
theorem ggX6_figure_X6_figureOn : GoodIn wsX6_figure wsX6_figureOn := goodIn_r _ [27, 28, 29, 30, 31, 32, 33, 34, 35, 36, 37, 38, 39, 40, 41, 42, 43, 44, 45, 46, 47, 48, 49, 50, 51, 52, 53] (by decide +kernel) (by decide +kernel)
set_option maxRecDepth 20000 in
theorem gX6_figure_X6_figureOn : GoodIn wsX6_figure (wsV RX6 93 RX6 yX6_figureOn wsX6_figureOn) := goodIn_app (goodIn_of _ (by decide +kernel)) ggX6_figure_X6_figureOn
theorem dX6_figure_0 : decode cX6_figure 0 = .ok (.aload_n 0, 1) := by decide +kernel
theorem dX6_figure_1 : decode cX6_figure 1 = .ok (.aload_n 0, 1) := by decide +kernel
theorem dX6_figure_2 : decode cX6_figure 2 = .ok (.iload_n 1, 1) := by decide +kernel
theorem dX6_figure_3 : decode cX6_figure 3 = .ok (.iload_n 2, 1) := by decide +kernel
theorem dX6_figure_4 : decode cX6_figure 4 = .ok (.iload_n 3, 1) := by decide +kernel
theorem dX6_figure_5 : decode cX6_figure 5 = .ok (.invokevirtual 74, 3) := by decide +kernel
theorem dX6_figure_8 : decode cX6_figure 8 = .ok (.ifCond .ne 7, 3) := by decide +kernel
theorem dX6_figure_11 : decode cX6_figure 11 = .ok (.iconst 1, 1) := by decide +kernel
theorem dX6_figure_12 : decode cX6_figure 12 = .ok (.goto 21, 3) := by decide +kernel
theorem dX6_figure_15 : decode cX6_figure 15 = .ok (.iload 4, 2) := by decide +kernel
theorem dX6_figure_17 : decode cX6_figure 17 = .ok (.iconst 0, 1) := by decide +kernel
theorem dX6_figure_18 : decode cX6_figure 18 = .ok (.aload_n 0, 1) := by decide +kernel
theorem dX6_figure_19 : decode cX6_figure 19 = .ok (.getfield 90, 3) := by decide +kernel
theorem dX6_figure_22 : decode cX6_figure 22 = .ok (.invokestatic 57, 3) := by decide +kernel
theorem dX6_figure_25 : decode cX6_figure 25 = .ok (.ifCond .ne 7, 3) := by decide +kernel
theorem dX6_figure_28 : decode cX6_figure 28 = .ok (.iconst 2, 1) := by decide +kernel
theorem dX6_figure_29 : decode cX6_figure 29 = .ok (.goto 4, 3) := by decide +kernel
theorem dX6_figure_32 : decode cX6_figure 32 = .ok (.iconst 0, 1) := by decide +kernel
theorem dX6_figure_33 : decode cX6_figure 33 = .ok (.putfield 50, 3) := by decide +kernel
theorem dX6_figure_36 : decode cX6_figure 36 = .ok (.aload_n 0, 1) := by decide +kernel
theorem dX6_figure_37 : decode cX6_figure 37 = .ok (.getfield 50, 3) := by decide +kernel
theorem dX6_figure_40 : decode cX6_figure 40 = .ok (.ifCond .le 7, 3) := by decide +kernel
theorem dX6_figure_43 : decode cX6_figure 43 = .ok (.iconst 0, 1) := by decide +kernel
theorem dX6_figure_44 : decode cX6_figure 44 = .ok (.goto 15, 3) := by decide +kernel
theorem dX6_figure_47 : decode cX6_figure 47 = .ok (.aload_n 0, 1) := by decide +kernel
theorem dX6_figure_48 : decode cX6_figure 48 = .ok (.iload_n 1, 1) := by decide +kernel
theorem dX6_figure_49 : decode cX6_figure 49 = .ok (.iload_n 2, 1) := by decide +kernel
theorem dX6_figure_50 : decode cX6_figure 50 = .ok (.iload_n 3, 1) := by decide +kernel
theorem dX6_figure_51 : decode cX6_figure 51 = .ok (.invokestatic 82, 3) := by decide +kernel
theorem dX6_figure_54 : decode cX6_figure 54 = .ok (.iload 4, 2) := by decide +kernel
theorem dX6_figure_56 : decode cX6_figure 56 = .ok (.invokevirtual 93, 3) := by decide +kernel
theorem dX6_figure_59 : decode cX6_figure 59 = .ok (.ireturn, 1) := by decide +kernel
set_option maxRecDepth 20000 in
theorem ggX6_value_X6_isCell : GoodIn wsX6_value wsX6_isCell := goodIn_r _ [8, 9, 10, 11, 7, 12, 13, 14, 15, 16, 17, 18, 19, 20, 21, 44, 45, 46, 47, 48, 49, 50, 51, 52, 53, 54, 55, 56, 57, 58, 59, 60, 61, 62, 63, 64] (by decide +kernel) (by decide +kernel)
set_option maxRecDepth 20000 in
theorem gX6_value_X6_isCell : GoodIn wsX6_value (wsV RX6 74 RX6 yX6_isCell wsX6_isCell) := goodIn_app (goodIn_of _ (by decide +kernel)) ggX6_value_X6_isCell
set_option maxRecDepth 20000 in
theorem ggX6_value_X6_isIn : GoodIn wsX6_value wsX6_isIn := goodIn_r _ [16] (by decide +kernel) (by decide +kernel)
set_option maxRecDepth 20000 in
theorem gX6_value_X6_isIn : GoodIn wsX6_value (va_wsS RX6 57 yX6_isIn wsX6_isIn) := goodIn_app (goodIn_of _ (by decide +kernel)) ggX6_value_X6_isIn
set_option maxRecDepth 20000 in
theorem ggX6_value_X6_finds : GoodIn wsX6_value wsX6_finds := goodIn_r _ [25, 13, 21, 26, 3, 27, 28, 7, 29, 30, 31, 32, 33, 34, 35, 36, 37, 38, 39, 40, 41, 42, 43, 44, 45, 46, 47, 48, 49, 50, 51, 52, 53, 54, 55, 56, 57, 58, 59, 60, 61, 62, 63, 64] (by decide +kernel) (by decide +kernel)
set_option maxRecDepth 20000 in
theorem gX6_value_X6_finds : GoodIn wsX6_value (wsV RX6 121 RX6 yX6_finds wsX6_finds) := goodIn_app (goodIn_of _ (by decide +kernel)) ggX6_value_X6_finds
theorem dX6_value_0 : decode cX6_value 0 = .ok (.aload_n 0, 1) := by decide +kernel
theorem dX6_value_1 : decode cX6_value 1 = .ok (.aload_n 0, 1) := by decide +kernel
theorem dX6_value_2 : decode cX6_value 2 = .ok (.iload_n 1, 1) := by decide +kernel
theorem dX6_value_3 : decode cX6_value 3 = .ok (.iload_n 2, 1) := by decide +kernel
theorem dX6_value_4 : decode cX6_value 4 = .ok (.iload_n 3, 1) := by decide +kernel
theorem dX6_value_5 : decode cX6_value 5 = .ok (.invokevirtual 74, 3) := by decide +kernel
theorem dX6_value_8 : decode cX6_value 8 = .ok (.ifCond .ne 7, 3) := by decide +kernel
theorem dX6_value_11 : decode cX6_value 11 = .ok (.iconst 1, 1) := by decide +kernel
theorem dX6_value_12 : decode cX6_value 12 = .ok (.goto 21, 3) := by decide +kernel
theorem dX6_value_15 : decode cX6_value 15 = .ok (.iload 4, 2) := by decide +kernel
theorem dX6_value_17 : decode cX6_value 17 = .ok (.iconst 0, 1) := by decide +kernel
theorem dX6_value_18 : decode cX6_value 18 = .ok (.aload_n 0, 1) := by decide +kernel
theorem dX6_value_19 : decode cX6_value 19 = .ok (.getfield 90, 3) := by decide +kernel
theorem dX6_value_22 : decode cX6_value 22 = .ok (.invokestatic 57, 3) := by decide +kernel
theorem dX6_value_25 : decode cX6_value 25 = .ok (.ifCond .ne 7, 3) := by decide +kernel
theorem dX6_value_28 : decode cX6_value 28 = .ok (.iconst 2, 1) := by decide +kernel
theorem dX6_value_29 : decode cX6_value 29 = .ok (.goto 4, 3) := by decide +kernel
theorem dX6_value_32 : decode cX6_value 32 = .ok (.iconst 0, 1) := by decide +kernel
theorem dX6_value_33 : decode cX6_value 33 = .ok (.putfield 50, 3) := by decide +kernel
theorem dX6_value_36 : decode cX6_value 36 = .ok (.aload_n 0, 1) := by decide +kernel
theorem dX6_value_37 : decode cX6_value 37 = .ok (.getfield 50, 3) := by decide +kernel
theorem dX6_value_40 : decode cX6_value 40 = .ok (.ifCond .le 5, 3) := by decide +kernel
theorem dX6_value_43 : decode cX6_value 43 = .ok (.iconst 0, 1) := by decide +kernel
theorem dX6_value_44 : decode cX6_value 44 = .ok (.ireturn, 1) := by decide +kernel
theorem dX6_value_45 : decode cX6_value 45 = .ok (.aload_n 0, 1) := by decide +kernel
theorem dX6_value_46 : decode cX6_value 46 = .ok (.iload_n 3, 1) := by decide +kernel
theorem dX6_value_47 : decode cX6_value 47 = .ok (.iload 4, 2) := by decide +kernel
theorem dX6_value_49 : decode cX6_value 49 = .ok (.invokevirtual 121, 3) := by decide +kernel
theorem dX6_value_52 : decode cX6_value 52 = .ok (.aload_n 0, 1) := by decide +kernel
theorem dX6_value_53 : decode cX6_value 53 = .ok (.getfield 44, 3) := by decide +kernel
theorem dX6_value_56 : decode cX6_value 56 = .ok (.bipush 10, 2) := by decide +kernel
theorem dX6_value_58 : decode cX6_value 58 = .ok (.iload_n 1, 1) := by decide +kernel
theorem dX6_value_59 : decode cX6_value 59 = .ok (.imul, 1) := by decide +kernel
theorem dX6_value_60 : decode cX6_value 60 = .ok (.iload_n 2, 1) := by decide +kernel
theorem dX6_value_61 : decode cX6_value 61 = .ok (.iadd, 1) := by decide +kernel
theorem dX6_value_62 : decode cX6_value 62 = .ok (.iaload, 1) := by decide +kernel
theorem dX6_value_63 : decode cX6_value 63 = .ok (.ireturn, 1) := by decide +kernel
set_option maxRecDepth 20000 in
theorem ggX6_first_X6_isCell : GoodIn wsX6_first wsX6_isCell := goodIn_r _ [10, 11, 12, 13, 9, 14, 15, 16, 17, 18, 19, 20, 21, 22, 23, 27, 28, 29, 30, 31, 32, 33, 34, 35, 36, 37, 38, 39, 40, 41, 42, 43, 44, 45, 46, 47] (by decide +kernel) (by decide +kernel)
set_option maxRecDepth 20000 in
theorem gX6_first_X6_isCell : GoodIn wsX6_first (wsV RX6 74 RX6 yX6_isCell wsX6_isCell) := goodIn_app (goodIn_of _ (by decide +kernel)) ggX6_first_X6_isCell
set_option maxRecDepth 20000 in
theorem ggX6_first_X6_cellOf : GoodIn wsX6_first wsX6_cellOf := goodIn_r _ [26] (by decide +kernel) (by decide +kernel)
set_option maxRecDepth 20000 in
theorem gX6_first_X6_cellOf : GoodIn wsX6_first (va_wsS RX6 82 yX6_cellOf wsX6_cellOf) := goodIn_app (goodIn_of _ (by decide +kernel)) ggX6_first_X6_cellOf
theorem dX6_first_0 : decode cX6_first 0 = .ok (.aload_n 0, 1) := by decide +kernel
theorem dX6_first_1 : decode cX6_first 1 = .ok (.aload_n 0, 1) := by decide +kernel
theorem dX6_first_2 : decode cX6_first 2 = .ok (.iload_n 1, 1) := by decide +kernel
theorem dX6_first_3 : decode cX6_first 3 = .ok (.iload_n 2, 1) := by decide +kernel
theorem dX6_first_4 : decode cX6_first 4 = .ok (.iload_n 3, 1) := by decide +kernel
theorem dX6_first_5 : decode cX6_first 5 = .ok (.invokevirtual 74, 3) := by decide +kernel
theorem dX6_first_8 : decode cX6_first 8 = .ok (.ifCond .eq 7, 3) := by decide +kernel
theorem dX6_first_11 : decode cX6_first 11 = .ok (.iconst 0, 1) := by decide +kernel
theorem dX6_first_12 : decode cX6_first 12 = .ok (.goto 4, 3) := by decide +kernel
theorem dX6_first_15 : decode cX6_first 15 = .ok (.iconst 1, 1) := by decide +kernel
theorem dX6_first_16 : decode cX6_first 16 = .ok (.putfield 50, 3) := by decide +kernel
theorem dX6_first_19 : decode cX6_first 19 = .ok (.aload_n 0, 1) := by decide +kernel
theorem dX6_first_20 : decode cX6_first 20 = .ok (.getfield 50, 3) := by decide +kernel
theorem dX6_first_23 : decode cX6_first 23 = .ok (.ifCond .le 5, 3) := by decide +kernel
theorem dX6_first_26 : decode cX6_first 26 = .ok (.iconst 0, 1) := by decide +kernel
theorem dX6_first_27 : decode cX6_first 27 = .ok (.ireturn, 1) := by decide +kernel
theorem dX6_first_28 : decode cX6_first 28 = .ok (.iconst 0, 1) := by decide +kernel
theorem dX6_first_29 : decode cX6_first 29 = .ok (.istore 4, 2) := by decide +kernel
theorem dX6_first_31 : decode cX6_first 31 = .ok (.iload 4, 2) := by decide +kernel
theorem dX6_first_33 : decode cX6_first 33 = .ok (.aload_n 0, 1) := by decide +kernel
theorem dX6_first_34 : decode cX6_first 34 = .ok (.getfield 87, 3) := by decide +kernel
theorem dX6_first_37 : decode cX6_first 37 = .ok (.if_icmp .ge 33, 3) := by decide +kernel
theorem dX6_first_40 : decode cX6_first 40 = .ok (.aload_n 0, 1) := by decide +kernel
theorem dX6_first_41 : decode cX6_first 41 = .ok (.getfield 32, 3) := by decide +kernel
theorem dX6_first_44 : decode cX6_first 44 = .ok (.iload 4, 2) := by decide +kernel
theorem dX6_first_46 : decode cX6_first 46 = .ok (.iaload, 1) := by decide +kernel
theorem dX6_first_47 : decode cX6_first 47 = .ok (.iload_n 1, 1) := by decide +kernel
theorem dX6_first_48 : decode cX6_first 48 = .ok (.iload_n 2, 1) := by decide +kernel
theorem dX6_first_49 : decode cX6_first 49 = .ok (.iload_n 3, 1) := by decide +kernel
theorem dX6_first_50 : decode cX6_first 50 = .ok (.invokestatic 82, 3) := by decide +kernel
theorem dX6_first_53 : decode cX6_first 53 = .ok (.if_icmp .ne 11, 3) := by decide +kernel
theorem dX6_first_56 : decode cX6_first 56 = .ok (.aload_n 0, 1) := by decide +kernel
theorem dX6_first_57 : decode cX6_first 57 = .ok (.getfield 38, 3) := by decide +kernel
theorem dX6_first_60 : decode cX6_first 60 = .ok (.iload 4, 2) := by decide +kernel
theorem dX6_first_62 : decode cX6_first 62 = .ok (.iaload, 1) := by decide +kernel
theorem dX6_first_63 : decode cX6_first 63 = .ok (.ireturn, 1) := by decide +kernel
theorem dX6_first_64 : decode cX6_first 64 = .ok (.iinc 4 1, 3) := by decide +kernel
theorem dX6_first_67 : decode cX6_first 67 = .ok (.goto (-36), 3) := by decide +kernel
theorem dX6_first_70 : decode cX6_first 70 = .ok (.ldc 86, 2) := by decide +kernel
theorem dX6_first_72 : decode cX6_first 72 = .ok (.ireturn, 1) := by decide +kernel
set_option maxRecDepth 20000 in
theorem ggX6_revisions_X6_isCell : GoodIn wsX6_revisions wsX6_isCell := goodIn_r _ [8, 9, 10, 11, 7, 12, 13, 14, 15, 16, 17, 18, 19, 20, 21, 25, 26, 27, 28, 29, 30, 31, 32, 33, 34, 35, 36, 37, 38, 39, 40, 41, 42, 43, 44, 45] (by decide +kernel) (by decide +kernel)
set_option maxRecDepth 20000 in
theorem gX6_revisions_X6_isCell : GoodIn wsX6_revisions (wsV RX6 74 RX6 yX6_isCell wsX6_isCell) := goodIn_app (goodIn_of _ (by decide +kernel)) ggX6_revisions_X6_isCell
set_option maxRecDepth 20000 in
theorem ggX6_revisions_X6_cellOf : GoodIn wsX6_revisions wsX6_cellOf := goodIn_r _ [24] (by decide +kernel) (by decide +kernel)
set_option maxRecDepth 20000 in
theorem gX6_revisions_X6_cellOf : GoodIn wsX6_revisions (va_wsS RX6 82 yX6_cellOf wsX6_cellOf) := goodIn_app (goodIn_of _ (by decide +kernel)) ggX6_revisions_X6_cellOf
theorem dX6_revisions_0 : decode cX6_revisions 0 = .ok (.aload_n 0, 1) := by decide +kernel
theorem dX6_revisions_1 : decode cX6_revisions 1 = .ok (.aload_n 0, 1) := by decide +kernel
theorem dX6_revisions_2 : decode cX6_revisions 2 = .ok (.iload_n 1, 1) := by decide +kernel
theorem dX6_revisions_3 : decode cX6_revisions 3 = .ok (.iload_n 2, 1) := by decide +kernel
theorem dX6_revisions_4 : decode cX6_revisions 4 = .ok (.iload_n 3, 1) := by decide +kernel
theorem dX6_revisions_5 : decode cX6_revisions 5 = .ok (.invokevirtual 74, 3) := by decide +kernel
theorem dX6_revisions_8 : decode cX6_revisions 8 = .ok (.ifCond .eq 7, 3) := by decide +kernel
theorem dX6_revisions_11 : decode cX6_revisions 11 = .ok (.iconst 0, 1) := by decide +kernel
theorem dX6_revisions_12 : decode cX6_revisions 12 = .ok (.goto 4, 3) := by decide +kernel
theorem dX6_revisions_15 : decode cX6_revisions 15 = .ok (.iconst 1, 1) := by decide +kernel
theorem dX6_revisions_16 : decode cX6_revisions 16 = .ok (.putfield 50, 3) := by decide +kernel
theorem dX6_revisions_19 : decode cX6_revisions 19 = .ok (.iconst 0, 1) := by decide +kernel
theorem dX6_revisions_20 : decode cX6_revisions 20 = .ok (.istore 4, 2) := by decide +kernel
theorem dX6_revisions_22 : decode cX6_revisions 22 = .ok (.iconst 0, 1) := by decide +kernel
theorem dX6_revisions_23 : decode cX6_revisions 23 = .ok (.istore 5, 2) := by decide +kernel
theorem dX6_revisions_25 : decode cX6_revisions 25 = .ok (.iload 5, 2) := by decide +kernel
theorem dX6_revisions_27 : decode cX6_revisions 27 = .ok (.aload_n 0, 1) := by decide +kernel
theorem dX6_revisions_28 : decode cX6_revisions 28 = .ok (.getfield 87, 3) := by decide +kernel
theorem dX6_revisions_31 : decode cX6_revisions 31 = .ok (.if_icmp .ge 42, 3) := by decide +kernel
theorem dX6_revisions_34 : decode cX6_revisions 34 = .ok (.aload_n 0, 1) := by decide +kernel
theorem dX6_revisions_35 : decode cX6_revisions 35 = .ok (.getfield 50, 3) := by decide +kernel
theorem dX6_revisions_38 : decode cX6_revisions 38 = .ok (.ifCond .ne 35, 3) := by decide +kernel
theorem dX6_revisions_41 : decode cX6_revisions 41 = .ok (.iload 4, 2) := by decide +kernel
theorem dX6_revisions_43 : decode cX6_revisions 43 = .ok (.aload_n 0, 1) := by decide +kernel
theorem dX6_revisions_44 : decode cX6_revisions 44 = .ok (.getfield 32, 3) := by decide +kernel
theorem dX6_revisions_47 : decode cX6_revisions 47 = .ok (.iload 5, 2) := by decide +kernel
theorem dX6_revisions_49 : decode cX6_revisions 49 = .ok (.iaload, 1) := by decide +kernel
theorem dX6_revisions_50 : decode cX6_revisions 50 = .ok (.iload_n 1, 1) := by decide +kernel
theorem dX6_revisions_51 : decode cX6_revisions 51 = .ok (.iload_n 2, 1) := by decide +kernel
theorem dX6_revisions_52 : decode cX6_revisions 52 = .ok (.iload_n 3, 1) := by decide +kernel
theorem dX6_revisions_53 : decode cX6_revisions 53 = .ok (.invokestatic 82, 3) := by decide +kernel
theorem dX6_revisions_56 : decode cX6_revisions 56 = .ok (.if_icmp .ne 7, 3) := by decide +kernel
theorem dX6_revisions_59 : decode cX6_revisions 59 = .ok (.iconst 1, 1) := by decide +kernel
theorem dX6_revisions_60 : decode cX6_revisions 60 = .ok (.goto 4, 3) := by decide +kernel
theorem dX6_revisions_63 : decode cX6_revisions 63 = .ok (.iconst 0, 1) := by decide +kernel
theorem dX6_revisions_64 : decode cX6_revisions 64 = .ok (.iadd, 1) := by decide +kernel
theorem dX6_revisions_65 : decode cX6_revisions 65 = .ok (.istore 4, 2) := by decide +kernel
theorem dX6_revisions_67 : decode cX6_revisions 67 = .ok (.iinc 5 1, 3) := by decide +kernel
theorem dX6_revisions_70 : decode cX6_revisions 70 = .ok (.goto (-45), 3) := by decide +kernel
theorem dX6_revisions_73 : decode cX6_revisions 73 = .ok (.iload 4, 2) := by decide +kernel
theorem dX6_revisions_75 : decode cX6_revisions 75 = .ok (.ireturn, 1) := by decide +kernel
set_option maxRecDepth 20000 in
theorem ggX6_hasFault_X6_isCell : GoodIn wsX6_hasFault wsX6_isCell := goodIn_r _ [8, 9, 10, 11, 7, 12, 13, 14, 15, 16, 17, 18, 19, 20, 21, 44, 45, 46, 47, 48, 49, 50, 51, 52, 53, 54, 55, 56, 57, 58, 59, 60, 61, 62, 63, 64] (by decide +kernel) (by decide +kernel)
set_option maxRecDepth 20000 in
theorem gX6_hasFault_X6_isCell : GoodIn wsX6_hasFault (wsV RX6 74 RX6 yX6_isCell wsX6_isCell) := goodIn_app (goodIn_of _ (by decide +kernel)) ggX6_hasFault_X6_isCell
end
section
set_option maxRecDepth 20000 in
theorem ggX6_hasFault_X6_finds : GoodIn wsX6_hasFault wsX6_finds := goodIn_r _ [25, 13, 21, 3, 26, 27, 28, 7, 29, 30, 31, 32, 33, 34, 35, 36, 37, 38, 39, 40, 41, 42, 43, 44, 45, 46, 47, 48, 49, 50, 51, 52, 53, 54, 55, 56, 57, 58, 59, 60, 61, 62, 63, 64] (by decide +kernel) (by decide +kernel)
set_option maxRecDepth 20000 in
theorem gX6_hasFault_X6_finds : GoodIn wsX6_hasFault (wsV RX6 121 RX6 yX6_finds wsX6_finds) := goodIn_app (goodIn_of _ (by decide +kernel)) ggX6_hasFault_X6_finds
set_option maxRecDepth 20000 in
theorem ggX6_hasFault_X6_cellOf : GoodIn wsX6_hasFault wsX6_cellOf := goodIn_r _ [29] (by decide +kernel) (by decide +kernel)
set_option maxRecDepth 20000 in
theorem gX6_hasFault_X6_cellOf : GoodIn wsX6_hasFault (va_wsS RX6 82 yX6_cellOf wsX6_cellOf) := goodIn_app (goodIn_of _ (by decide +kernel)) ggX6_hasFault_X6_cellOf
set_option maxRecDepth 20000 in
theorem ggX6_hasFault_X6_figureOn : GoodIn wsX6_hasFault wsX6_figureOn := goodIn_r _ [33, 3, 34, 35, 36, 37, 44, 45, 46, 47, 48, 49, 50, 51, 52, 53, 54, 55, 56, 57, 58, 59, 60, 61, 62, 63, 64] (by decide +kernel) (by decide +kernel)
set_option maxRecDepth 20000 in
theorem gX6_hasFault_X6_figureOn : GoodIn wsX6_hasFault (wsV RX6 93 RX6 yX6_figureOn wsX6_figureOn) := goodIn_app (goodIn_of _ (by decide +kernel)) ggX6_hasFault_X6_figureOn
set_option maxRecDepth 20000 in
theorem ggX6_hasFault_X6_sumOf : GoodIn wsX6_hasFault wsX6_sumOf := goodIn_r _ [41, 21, 13, 42, 43, 26, 3, 44, 45, 46, 47, 48, 49, 50, 51, 52, 53, 54, 55, 56, 57, 58, 59, 60, 61, 62, 63, 64] (by decide +kernel) (by decide +kernel)
set_option maxRecDepth 20000 in
theorem gX6_hasFault_X6_sumOf : GoodIn wsX6_hasFault (wsV RX6 110 RX6 yX6_sumOf wsX6_sumOf) := goodIn_app (goodIn_of _ (by decide +kernel)) ggX6_hasFault_X6_sumOf
theorem dX6_hasFault_0 : decode cX6_hasFault 0 = .ok (.aload_n 0, 1) := by decide +kernel
theorem dX6_hasFault_1 : decode cX6_hasFault 1 = .ok (.aload_n 0, 1) := by decide +kernel
theorem dX6_hasFault_2 : decode cX6_hasFault 2 = .ok (.iload_n 1, 1) := by decide +kernel
theorem dX6_hasFault_3 : decode cX6_hasFault 3 = .ok (.iload_n 2, 1) := by decide +kernel
theorem dX6_hasFault_4 : decode cX6_hasFault 4 = .ok (.iload_n 3, 1) := by decide +kernel
theorem dX6_hasFault_5 : decode cX6_hasFault 5 = .ok (.invokevirtual 74, 3) := by decide +kernel
theorem dX6_hasFault_8 : decode cX6_hasFault 8 = .ok (.ifCond .eq 7, 3) := by decide +kernel
theorem dX6_hasFault_11 : decode cX6_hasFault 11 = .ok (.iconst 0, 1) := by decide +kernel
theorem dX6_hasFault_12 : decode cX6_hasFault 12 = .ok (.goto 4, 3) := by decide +kernel
theorem dX6_hasFault_15 : decode cX6_hasFault 15 = .ok (.iconst 1, 1) := by decide +kernel
theorem dX6_hasFault_16 : decode cX6_hasFault 16 = .ok (.putfield 50, 3) := by decide +kernel
theorem dX6_hasFault_19 : decode cX6_hasFault 19 = .ok (.aload_n 0, 1) := by decide +kernel
theorem dX6_hasFault_20 : decode cX6_hasFault 20 = .ok (.getfield 50, 3) := by decide +kernel
theorem dX6_hasFault_23 : decode cX6_hasFault 23 = .ok (.ifCond .le 5, 3) := by decide +kernel
theorem dX6_hasFault_26 : decode cX6_hasFault 26 = .ok (.iconst 0, 1) := by decide +kernel
theorem dX6_hasFault_27 : decode cX6_hasFault 27 = .ok (.ireturn, 1) := by decide +kernel
theorem dX6_hasFault_28 : decode cX6_hasFault 28 = .ok (.aload_n 0, 1) := by decide +kernel
theorem dX6_hasFault_29 : decode cX6_hasFault 29 = .ok (.iload_n 3, 1) := by decide +kernel
theorem dX6_hasFault_30 : decode cX6_hasFault 30 = .ok (.aload_n 0, 1) := by decide +kernel
theorem dX6_hasFault_31 : decode cX6_hasFault 31 = .ok (.getfield 90, 3) := by decide +kernel
theorem dX6_hasFault_34 : decode cX6_hasFault 34 = .ok (.invokevirtual 121, 3) := by decide +kernel
theorem dX6_hasFault_37 : decode cX6_hasFault 37 = .ok (.aload_n 0, 1) := by decide +kernel
theorem dX6_hasFault_38 : decode cX6_hasFault 38 = .ok (.iload_n 1, 1) := by decide +kernel
theorem dX6_hasFault_39 : decode cX6_hasFault 39 = .ok (.iload_n 2, 1) := by decide +kernel
theorem dX6_hasFault_40 : decode cX6_hasFault 40 = .ok (.iload_n 3, 1) := by decide +kernel
theorem dX6_hasFault_41 : decode cX6_hasFault 41 = .ok (.invokestatic 82, 3) := by decide +kernel
theorem dX6_hasFault_44 : decode cX6_hasFault 44 = .ok (.aload_n 0, 1) := by decide +kernel
theorem dX6_hasFault_45 : decode cX6_hasFault 45 = .ok (.getfield 90, 3) := by decide +kernel
theorem dX6_hasFault_48 : decode cX6_hasFault 48 = .ok (.invokevirtual 93, 3) := by decide +kernel
theorem dX6_hasFault_51 : decode cX6_hasFault 51 = .ok (.istore 4, 2) := by decide +kernel
theorem dX6_hasFault_53 : decode cX6_hasFault 53 = .ok (.aload_n 0, 1) := by decide +kernel
theorem dX6_hasFault_54 : decode cX6_hasFault 54 = .ok (.iload_n 1, 1) := by decide +kernel
theorem dX6_hasFault_55 : decode cX6_hasFault 55 = .ok (.iload_n 2, 1) := by decide +kernel
theorem dX6_hasFault_56 : decode cX6_hasFault 56 = .ok (.iconst 0, 1) := by decide +kernel
theorem dX6_hasFault_57 : decode cX6_hasFault 57 = .ok (.invokevirtual 110, 3) := by decide +kernel
theorem dX6_hasFault_60 : decode cX6_hasFault 60 = .ok (.istore 5, 2) := by decide +kernel
theorem dX6_hasFault_62 : decode cX6_hasFault 62 = .ok (.aload_n 0, 1) := by decide +kernel
theorem dX6_hasFault_63 : decode cX6_hasFault 63 = .ok (.iload_n 1, 1) := by decide +kernel
theorem dX6_hasFault_64 : decode cX6_hasFault 64 = .ok (.iload_n 2, 1) := by decide +kernel
theorem dX6_hasFault_65 : decode cX6_hasFault 65 = .ok (.iconst 1, 1) := by decide +kernel
theorem dX6_hasFault_66 : decode cX6_hasFault 66 = .ok (.invokevirtual 110, 3) := by decide +kernel
theorem dX6_hasFault_69 : decode cX6_hasFault 69 = .ok (.istore 6, 2) := by decide +kernel
theorem dX6_hasFault_71 : decode cX6_hasFault 71 = .ok (.iload 4, 2) := by decide +kernel
theorem dX6_hasFault_73 : decode cX6_hasFault 73 = .ok (.ldc 86, 2) := by decide +kernel
theorem dX6_hasFault_75 : decode cX6_hasFault 75 = .ok (.if_icmp .eq 35, 3) := by decide +kernel
theorem dX6_hasFault_78 : decode cX6_hasFault 78 = .ok (.iload 5, 2) := by decide +kernel
theorem dX6_hasFault_80 : decode cX6_hasFault 80 = .ok (.ldc 86, 2) := by decide +kernel
theorem dX6_hasFault_82 : decode cX6_hasFault 82 = .ok (.if_icmp .eq 10, 3) := by decide +kernel
theorem dX6_hasFault_85 : decode cX6_hasFault 85 = .ok (.iload 5, 2) := by decide +kernel
theorem dX6_hasFault_87 : decode cX6_hasFault 87 = .ok (.iload 4, 2) := by decide +kernel
theorem dX6_hasFault_89 : decode cX6_hasFault 89 = .ok (.if_icmp .ne 17, 3) := by decide +kernel
theorem dX6_hasFault_92 : decode cX6_hasFault 92 = .ok (.iload 6, 2) := by decide +kernel
theorem dX6_hasFault_94 : decode cX6_hasFault 94 = .ok (.ldc 86, 2) := by decide +kernel
theorem dX6_hasFault_96 : decode cX6_hasFault 96 = .ok (.if_icmp .eq 14, 3) := by decide +kernel
theorem dX6_hasFault_99 : decode cX6_hasFault 99 = .ok (.iload 6, 2) := by decide +kernel
theorem dX6_hasFault_101 : decode cX6_hasFault 101 = .ok (.iload 4, 2) := by decide +kernel
theorem dX6_hasFault_103 : decode cX6_hasFault 103 = .ok (.if_icmp .eq 7, 3) := by decide +kernel
theorem dX6_hasFault_106 : decode cX6_hasFault 106 = .ok (.iconst 1, 1) := by decide +kernel
theorem dX6_hasFault_107 : decode cX6_hasFault 107 = .ok (.goto 4, 3) := by decide +kernel
theorem dX6_hasFault_110 : decode cX6_hasFault 110 = .ok (.iconst 0, 1) := by decide +kernel
theorem dX6_hasFault_111 : decode cX6_hasFault 111 = .ok (.ireturn, 1) := by decide +kernel
set_option maxRecDepth 20000 in
theorem ggX6_shown_X6_isCell : GoodIn wsX6_shown wsX6_isCell := goodIn_r _ [9, 10, 11, 12, 8, 13, 14, 15, 16, 17, 18, 19, 20, 21, 22, 62, 63, 64, 65, 66, 67, 68, 69, 70, 71, 72, 73, 74, 75, 76, 77, 78, 79, 80, 81, 82] (by decide +kernel) (by decide +kernel)
set_option maxRecDepth 20000 in
theorem gX6_shown_X6_isCell : GoodIn wsX6_shown (wsV RX6 74 RX6 yX6_isCell wsX6_isCell) := goodIn_app (goodIn_of _ (by decide +kernel)) ggX6_shown_X6_isCell
set_option maxRecDepth 20000 in
theorem ggX6_shown_X6_covers : GoodIn wsX6_shown wsX6_covers := goodIn_r _ [26, 27, 2, 14, 22, 28, 4, 29, 30, 31, 32, 8, 33, 34, 35, 36, 37, 38, 39, 40, 41, 42, 43, 44, 45, 46, 47, 48, 49, 50, 51, 52, 53, 54, 55, 56, 57, 58, 59, 60, 61, 62, 63, 64, 65, 66, 67, 68, 69, 70, 71, 72, 73, 74, 75, 76, 77, 78, 79, 80, 81, 82] (by decide +kernel) (by decide +kernel)
set_option maxRecDepth 20000 in
theorem gX6_shown_X6_covers : GoodIn wsX6_shown (wsV RX6 129 RX6 yX6_covers wsX6_covers) := goodIn_app (goodIn_of _ (by decide +kernel)) ggX6_shown_X6_covers
theorem dX6_shown_0 : decode cX6_shown 0 = .ok (.aload_n 0, 1) := by decide +kernel
theorem dX6_shown_1 : decode cX6_shown 1 = .ok (.aload_n 0, 1) := by decide +kernel
theorem dX6_shown_2 : decode cX6_shown 2 = .ok (.iload_n 1, 1) := by decide +kernel
theorem dX6_shown_3 : decode cX6_shown 3 = .ok (.iload_n 2, 1) := by decide +kernel
theorem dX6_shown_4 : decode cX6_shown 4 = .ok (.iload_n 3, 1) := by decide +kernel
theorem dX6_shown_5 : decode cX6_shown 5 = .ok (.invokevirtual 74, 3) := by decide +kernel
theorem dX6_shown_8 : decode cX6_shown 8 = .ok (.ifCond .eq 7, 3) := by decide +kernel
theorem dX6_shown_11 : decode cX6_shown 11 = .ok (.iconst 0, 1) := by decide +kernel
theorem dX6_shown_12 : decode cX6_shown 12 = .ok (.goto 4, 3) := by decide +kernel
theorem dX6_shown_15 : decode cX6_shown 15 = .ok (.iconst 1, 1) := by decide +kernel
theorem dX6_shown_16 : decode cX6_shown 16 = .ok (.putfield 50, 3) := by decide +kernel
theorem dX6_shown_19 : decode cX6_shown 19 = .ok (.aload_n 0, 1) := by decide +kernel
theorem dX6_shown_20 : decode cX6_shown 20 = .ok (.getfield 50, 3) := by decide +kernel
theorem dX6_shown_23 : decode cX6_shown 23 = .ok (.ifCond .le 5, 3) := by decide +kernel
theorem dX6_shown_26 : decode cX6_shown 26 = .ok (.iconst 0, 1) := by decide +kernel
theorem dX6_shown_27 : decode cX6_shown 27 = .ok (.ireturn, 1) := by decide +kernel
theorem dX6_shown_28 : decode cX6_shown 28 = .ok (.aload_n 0, 1) := by decide +kernel
theorem dX6_shown_29 : decode cX6_shown 29 = .ok (.iload_n 3, 1) := by decide +kernel
theorem dX6_shown_30 : decode cX6_shown 30 = .ok (.invokevirtual 129, 3) := by decide +kernel
theorem dX6_shown_33 : decode cX6_shown 33 = .ok (.istore 4, 2) := by decide +kernel
theorem dX6_shown_35 : decode cX6_shown 35 = .ok (.iload 4, 2) := by decide +kernel
theorem dX6_shown_37 : decode cX6_shown 37 = .ok (.ifCond .le 22, 3) := by decide +kernel
theorem dX6_shown_40 : decode cX6_shown 40 = .ok (.aload_n 0, 1) := by decide +kernel
theorem dX6_shown_41 : decode cX6_shown 41 = .ok (.getfield 47, 3) := by decide +kernel
theorem dX6_shown_44 : decode cX6_shown 44 = .ok (.bipush 10, 2) := by decide +kernel
theorem dX6_shown_46 : decode cX6_shown 46 = .ok (.iload_n 1, 1) := by decide +kernel
theorem dX6_shown_47 : decode cX6_shown 47 = .ok (.imul, 1) := by decide +kernel
theorem dX6_shown_48 : decode cX6_shown 48 = .ok (.iload_n 2, 1) := by decide +kernel
theorem dX6_shown_49 : decode cX6_shown 49 = .ok (.iadd, 1) := by decide +kernel
theorem dX6_shown_50 : decode cX6_shown 50 = .ok (.baload, 1) := by decide +kernel
theorem dX6_shown_51 : decode cX6_shown 51 = .ok (.ifCond .eq 8, 3) := by decide +kernel
theorem dX6_shown_54 : decode cX6_shown 54 = .ok (.ldc 132, 2) := by decide +kernel
theorem dX6_shown_56 : decode cX6_shown 56 = .ok (.goto 14, 3) := by decide +kernel
theorem dX6_shown_59 : decode cX6_shown 59 = .ok (.aload_n 0, 1) := by decide +kernel
theorem dX6_shown_60 : decode cX6_shown 60 = .ok (.getfield 44, 3) := by decide +kernel
theorem dX6_shown_63 : decode cX6_shown 63 = .ok (.bipush 10, 2) := by decide +kernel
theorem dX6_shown_65 : decode cX6_shown 65 = .ok (.iload_n 1, 1) := by decide +kernel
theorem dX6_shown_66 : decode cX6_shown 66 = .ok (.imul, 1) := by decide +kernel
theorem dX6_shown_67 : decode cX6_shown 67 = .ok (.iload_n 2, 1) := by decide +kernel
theorem dX6_shown_68 : decode cX6_shown 68 = .ok (.iadd, 1) := by decide +kernel
theorem dX6_shown_69 : decode cX6_shown 69 = .ok (.iaload, 1) := by decide +kernel
theorem dX6_shown_70 : decode cX6_shown 70 = .ok (.ireturn, 1) := by decide +kernel
set_option maxRecDepth 20000 in
theorem ggX6_hidden_X6_isIn : GoodIn wsX6_hidden wsX6_isIn := goodIn_r _ [5] (by decide +kernel) (by decide +kernel)
set_option maxRecDepth 20000 in
theorem gX6_hidden_X6_isIn : GoodIn wsX6_hidden (va_wsS RX6 57 yX6_isIn wsX6_isIn) := goodIn_app (goodIn_of _ (by decide +kernel)) ggX6_hidden_X6_isIn
set_option maxRecDepth 20000 in
theorem ggX6_hidden_X6_covers : GoodIn wsX6_hidden wsX6_covers := goodIn_r _ [9, 10, 11, 12, 13, 14, 15, 16, 17, 18, 19, 4, 20, 21, 22, 23, 24, 25, 26, 27, 28, 29, 30, 31, 32, 33, 34, 35, 36, 37, 38, 39, 40, 41, 42, 43, 44, 45, 46, 47, 48, 49, 50, 51, 52, 53, 54, 55, 56, 57, 58, 59, 60, 61, 62, 63, 64, 65, 66, 67, 68, 69] (by decide +kernel) (by decide +kernel)
set_option maxRecDepth 20000 in
theorem gX6_hidden_X6_covers : GoodIn wsX6_hidden (wsV RX6 129 RX6 yX6_covers wsX6_covers) := goodIn_app (goodIn_of _ (by decide +kernel)) ggX6_hidden_X6_covers
theorem dX6_hidden_0 : decode cX6_hidden 0 = .ok (.aload_n 0, 1) := by decide +kernel
theorem dX6_hidden_1 : decode cX6_hidden 1 = .ok (.iload_n 1, 1) := by decide +kernel
theorem dX6_hidden_2 : decode cX6_hidden 2 = .ok (.iconst 0, 1) := by decide +kernel
theorem dX6_hidden_3 : decode cX6_hidden 3 = .ok (.bipush 11, 2) := by decide +kernel
theorem dX6_hidden_5 : decode cX6_hidden 5 = .ok (.invokestatic 57, 3) := by decide +kernel
theorem dX6_hidden_8 : decode cX6_hidden 8 = .ok (.ifCond .eq 7, 3) := by decide +kernel
theorem dX6_hidden_11 : decode cX6_hidden 11 = .ok (.iconst 0, 1) := by decide +kernel
theorem dX6_hidden_12 : decode cX6_hidden 12 = .ok (.goto 4, 3) := by decide +kernel
theorem dX6_hidden_15 : decode cX6_hidden 15 = .ok (.iconst 1, 1) := by decide +kernel
theorem dX6_hidden_16 : decode cX6_hidden 16 = .ok (.putfield 50, 3) := by decide +kernel
theorem dX6_hidden_19 : decode cX6_hidden 19 = .ok (.aload_n 0, 1) := by decide +kernel
theorem dX6_hidden_20 : decode cX6_hidden 20 = .ok (.getfield 50, 3) := by decide +kernel
theorem dX6_hidden_23 : decode cX6_hidden 23 = .ok (.ifCond .le 7, 3) := by decide +kernel
theorem dX6_hidden_26 : decode cX6_hidden 26 = .ok (.iconst 0, 1) := by decide +kernel
theorem dX6_hidden_27 : decode cX6_hidden 27 = .ok (.goto 8, 3) := by decide +kernel
theorem dX6_hidden_30 : decode cX6_hidden 30 = .ok (.aload_n 0, 1) := by decide +kernel
theorem dX6_hidden_31 : decode cX6_hidden 31 = .ok (.iload_n 1, 1) := by decide +kernel
theorem dX6_hidden_32 : decode cX6_hidden 32 = .ok (.invokevirtual 129, 3) := by decide +kernel
theorem dX6_hidden_35 : decode cX6_hidden 35 = .ok (.ireturn, 1) := by decide +kernel
theorem dX6_isWithin_0 : decode cX6_isWithin 0 = .ok (.iload_n 2, 1) := by decide +kernel
theorem dX6_isWithin_1 : decode cX6_isWithin 1 = .ok (.iconst (-1), 1) := by decide +kernel
theorem dX6_isWithin_2 : decode cX6_isWithin 2 = .ok (.if_icmp .ne 7, 3) := by decide +kernel
theorem dX6_isWithin_5 : decode cX6_isWithin 5 = .ok (.iconst 1, 1) := by decide +kernel
theorem dX6_isWithin_6 : decode cX6_isWithin 6 = .ok (.goto 4, 3) := by decide +kernel
theorem dX6_isWithin_9 : decode cX6_isWithin 9 = .ok (.iconst 0, 1) := by decide +kernel
theorem dX6_isWithin_10 : decode cX6_isWithin 10 = .ok (.istore 4, 2) := by decide +kernel
theorem dX6_isWithin_12 : decode cX6_isWithin 12 = .ok (.iload_n 1, 1) := by decide +kernel
theorem dX6_isWithin_13 : decode cX6_isWithin 13 = .ok (.istore 5, 2) := by decide +kernel
theorem dX6_isWithin_15 : decode cX6_isWithin 15 = .ok (.iload 5, 2) := by decide +kernel
theorem dX6_isWithin_17 : decode cX6_isWithin 17 = .ok (.iconst (-1), 1) := by decide +kernel
theorem dX6_isWithin_18 : decode cX6_isWithin 18 = .ok (.if_icmp .eq 45, 3) := by decide +kernel
theorem dX6_isWithin_21 : decode cX6_isWithin 21 = .ok (.iload 4, 2) := by decide +kernel
theorem dX6_isWithin_23 : decode cX6_isWithin 23 = .ok (.iload 5, 2) := by decide +kernel
theorem dX6_isWithin_25 : decode cX6_isWithin 25 = .ok (.iload_n 2, 1) := by decide +kernel
theorem dX6_isWithin_26 : decode cX6_isWithin 26 = .ok (.if_icmp .ne 7, 3) := by decide +kernel
theorem dX6_isWithin_29 : decode cX6_isWithin 29 = .ok (.iconst 1, 1) := by decide +kernel
theorem dX6_isWithin_30 : decode cX6_isWithin 30 = .ok (.goto 4, 3) := by decide +kernel
theorem dX6_isWithin_33 : decode cX6_isWithin 33 = .ok (.iconst 0, 1) := by decide +kernel
theorem dX6_isWithin_34 : decode cX6_isWithin 34 = .ok (.ior, 1) := by decide +kernel
theorem dX6_isWithin_35 : decode cX6_isWithin 35 = .ok (.istore 4, 2) := by decide +kernel
theorem dX6_isWithin_37 : decode cX6_isWithin 37 = .ok (.iload_n 3, 1) := by decide +kernel
theorem dX6_isWithin_38 : decode cX6_isWithin 38 = .ok (.ifCond .eq 13, 3) := by decide +kernel
theorem dX6_isWithin_41 : decode cX6_isWithin 41 = .ok (.aload_n 0, 1) := by decide +kernel
theorem dX6_isWithin_42 : decode cX6_isWithin 42 = .ok (.getfield 13, 3) := by decide +kernel
theorem dX6_isWithin_45 : decode cX6_isWithin 45 = .ok (.iload 5, 2) := by decide +kernel
theorem dX6_isWithin_47 : decode cX6_isWithin 47 = .ok (.iaload, 1) := by decide +kernel
theorem dX6_isWithin_48 : decode cX6_isWithin 48 = .ok (.goto 10, 3) := by decide +kernel
theorem dX6_isWithin_51 : decode cX6_isWithin 51 = .ok (.aload_n 0, 1) := by decide +kernel
theorem dX6_isWithin_52 : decode cX6_isWithin 52 = .ok (.getfield 7, 3) := by decide +kernel
theorem dX6_isWithin_55 : decode cX6_isWithin 55 = .ok (.iload 5, 2) := by decide +kernel
theorem dX6_isWithin_57 : decode cX6_isWithin 57 = .ok (.iaload, 1) := by decide +kernel
theorem dX6_isWithin_58 : decode cX6_isWithin 58 = .ok (.istore 5, 2) := by decide +kernel
theorem dX6_isWithin_60 : decode cX6_isWithin 60 = .ok (.goto (-45), 3) := by decide +kernel
theorem dX6_isWithin_63 : decode cX6_isWithin 63 = .ok (.iload 4, 2) := by decide +kernel
theorem dX6_isWithin_65 : decode cX6_isWithin 65 = .ok (.ireturn, 1) := by decide +kernel
theorem dX6_toldOn_0 : decode cX6_toldOn 0 = .ok (.iconst (-1), 1) := by decide +kernel
theorem dX6_toldOn_1 : decode cX6_toldOn 1 = .ok (.istore_n 2, 1) := by decide +kernel
theorem dX6_toldOn_2 : decode cX6_toldOn 2 = .ok (.iconst 0, 1) := by decide +kernel
theorem dX6_toldOn_3 : decode cX6_toldOn 3 = .ok (.istore_n 3, 1) := by decide +kernel
theorem dX6_toldOn_4 : decode cX6_toldOn 4 = .ok (.iload_n 3, 1) := by decide +kernel
theorem dX6_toldOn_5 : decode cX6_toldOn 5 = .ok (.aload_n 0, 1) := by decide +kernel
theorem dX6_toldOn_6 : decode cX6_toldOn 6 = .ok (.getfield 87, 3) := by decide +kernel
theorem dX6_toldOn_9 : decode cX6_toldOn 9 = .ok (.if_icmp .ge 30, 3) := by decide +kernel
theorem dX6_toldOn_12 : decode cX6_toldOn 12 = .ok (.aload_n 0, 1) := by decide +kernel
theorem dX6_toldOn_13 : decode cX6_toldOn 13 = .ok (.getfield 32, 3) := by decide +kernel
theorem dX6_toldOn_16 : decode cX6_toldOn 16 = .ok (.iload_n 3, 1) := by decide +kernel
theorem dX6_toldOn_17 : decode cX6_toldOn 17 = .ok (.iaload, 1) := by decide +kernel
theorem dX6_toldOn_18 : decode cX6_toldOn 18 = .ok (.iload_n 1, 1) := by decide +kernel
theorem dX6_toldOn_19 : decode cX6_toldOn 19 = .ok (.if_icmp .ne 12, 3) := by decide +kernel
theorem dX6_toldOn_22 : decode cX6_toldOn 22 = .ok (.aload_n 0, 1) := by decide +kernel
theorem dX6_toldOn_23 : decode cX6_toldOn 23 = .ok (.getfield 35, 3) := by decide +kernel
theorem dX6_toldOn_26 : decode cX6_toldOn 26 = .ok (.iload_n 3, 1) := by decide +kernel
theorem dX6_toldOn_27 : decode cX6_toldOn 27 = .ok (.iaload, 1) := by decide +kernel
theorem dX6_toldOn_28 : decode cX6_toldOn 28 = .ok (.goto 4, 3) := by decide +kernel
theorem dX6_toldOn_31 : decode cX6_toldOn 31 = .ok (.iload_n 2, 1) := by decide +kernel
theorem dX6_toldOn_32 : decode cX6_toldOn 32 = .ok (.istore_n 2, 1) := by decide +kernel
theorem dX6_toldOn_33 : decode cX6_toldOn 33 = .ok (.iinc 3 1, 3) := by decide +kernel
theorem dX6_toldOn_36 : decode cX6_toldOn 36 = .ok (.goto (-32), 3) := by decide +kernel
theorem dX6_toldOn_39 : decode cX6_toldOn 39 = .ok (.iload_n 2, 1) := by decide +kernel
theorem dX6_toldOn_40 : decode cX6_toldOn 40 = .ok (.ireturn, 1) := by decide +kernel
set_option maxRecDepth 20000 in
theorem ggX6_find_X6_isArea : GoodIn wsX6_find wsX6_isArea := goodIn_r _ [10, 2, 11, 12, 9, 13, 39, 40, 41, 42, 43, 44, 45, 46, 47, 48, 49, 50, 51, 52, 53, 54, 55, 56, 57, 58, 59] (by decide +kernel) (by decide +kernel)
set_option maxRecDepth 20000 in
theorem gX6_find_X6_isArea : GoodIn wsX6_find (wsV RX6 64 RX6 yX6_isArea wsX6_isArea) := goodIn_app (goodIn_of _ (by decide +kernel)) ggX6_find_X6_isArea
set_option maxRecDepth 20000 in
theorem ggX6_find_X6_isItem : GoodIn wsX6_find wsX6_isItem := goodIn_r _ [17, 3, 11, 12, 9, 13, 39, 40, 41, 42, 43, 44, 45, 46, 47, 48, 49, 50, 51, 52, 53, 54, 55, 56, 57, 58, 59] (by decide +kernel) (by decide +kernel)
set_option maxRecDepth 20000 in
theorem gX6_find_X6_isItem : GoodIn wsX6_find (wsV RX6 68 RX6 yX6_isItem wsX6_isItem) := goodIn_app (goodIn_of _ (by decide +kernel)) ggX6_find_X6_isItem
set_option maxRecDepth 20000 in
theorem ggX6_find_X6_isIn : GoodIn wsX6_find wsX6_isIn := goodIn_r _ [13] (by decide +kernel) (by decide +kernel)
set_option maxRecDepth 20000 in
theorem gX6_find_X6_isIn : GoodIn wsX6_find (va_wsS RX6 57 yX6_isIn wsX6_isIn) := goodIn_app (goodIn_of _ (by decide +kernel)) ggX6_find_X6_isIn
set_option maxRecDepth 20000 in
theorem ggX6_find_X6_cellOf : GoodIn wsX6_find wsX6_cellOf := goodIn_r _ [20] (by decide +kernel) (by decide +kernel)
set_option maxRecDepth 20000 in
theorem gX6_find_X6_cellOf : GoodIn wsX6_find (va_wsS RX6 82 yX6_cellOf wsX6_cellOf) := goodIn_app (goodIn_of _ (by decide +kernel)) ggX6_find_X6_cellOf
set_option maxRecDepth 20000 in
theorem ggX6_find_X6_isWithin : GoodIn wsX6_find wsX6_isWithin := goodIn_r _ [24, 25, 26, 39, 40, 41, 42, 43, 44, 45, 46, 47, 48, 49, 50, 51, 52, 53, 54, 55, 56, 57, 58, 59] (by decide +kernel) (by decide +kernel)
set_option maxRecDepth 20000 in
theorem gX6_find_X6_isWithin : GoodIn wsX6_find (wsV RX6 133 RX6 yX6_isWithin wsX6_isWithin) := goodIn_app (goodIn_of _ (by decide +kernel)) ggX6_find_X6_isWithin
set_option maxRecDepth 20000 in
theorem ggX6_find_X6_figureOn : GoodIn wsX6_find wsX6_figureOn := goodIn_r _ [30, 5, 31, 32, 33, 34, 39, 40, 41, 42, 43, 44, 45, 46, 47, 48, 49, 50, 51, 52, 53, 54, 55, 56, 57, 58, 59] (by decide +kernel) (by decide +kernel)
set_option maxRecDepth 20000 in
theorem gX6_find_X6_figureOn : GoodIn wsX6_find (wsV RX6 93 RX6 yX6_figureOn wsX6_figureOn) := goodIn_app (goodIn_of _ (by decide +kernel)) ggX6_find_X6_figureOn
set_option maxRecDepth 20000 in
theorem ggX6_find_X6_toldOn : GoodIn wsX6_find wsX6_toldOn := goodIn_r _ [38, 31, 32, 33, 39, 40, 41, 42, 43, 44, 45, 46, 47, 48, 49, 50, 51, 52, 53, 54, 55, 56, 57, 58, 59] (by decide +kernel) (by decide +kernel)
set_option maxRecDepth 20000 in
theorem gX6_find_X6_toldOn : GoodIn wsX6_find (wsV RX6 136 RX6 yX6_toldOn wsX6_toldOn) := goodIn_app (goodIn_of _ (by decide +kernel)) ggX6_find_X6_toldOn
theorem dX6_find_0 : decode cX6_find 0 = .ok (.aload_n 0, 1) := by decide +kernel
theorem dX6_find_1 : decode cX6_find 1 = .ok (.iload_n 1, 1) := by decide +kernel
theorem dX6_find_2 : decode cX6_find 2 = .ok (.iconst (-1), 1) := by decide +kernel
theorem dX6_find_3 : decode cX6_find 3 = .ok (.if_icmp .eq 11, 3) := by decide +kernel
theorem dX6_find_6 : decode cX6_find 6 = .ok (.aload_n 0, 1) := by decide +kernel
theorem dX6_find_7 : decode cX6_find 7 = .ok (.iload_n 1, 1) := by decide +kernel
theorem dX6_find_8 : decode cX6_find 8 = .ok (.invokevirtual 64, 3) := by decide +kernel
theorem dX6_find_11 : decode cX6_find 11 = .ok (.ifCond .eq 21, 3) := by decide +kernel
theorem dX6_find_14 : decode cX6_find 14 = .ok (.iload_n 2, 1) := by decide +kernel
theorem dX6_find_15 : decode cX6_find 15 = .ok (.iconst (-1), 1) := by decide +kernel
theorem dX6_find_16 : decode cX6_find 16 = .ok (.if_icmp .eq 11, 3) := by decide +kernel
theorem dX6_find_19 : decode cX6_find 19 = .ok (.aload_n 0, 1) := by decide +kernel
theorem dX6_find_20 : decode cX6_find 20 = .ok (.iload_n 2, 1) := by decide +kernel
theorem dX6_find_21 : decode cX6_find 21 = .ok (.invokevirtual 68, 3) := by decide +kernel
theorem dX6_find_24 : decode cX6_find 24 = .ok (.ifCond .eq 8, 3) := by decide +kernel
theorem dX6_find_27 : decode cX6_find 27 = .ok (.iload 6, 2) := by decide +kernel
theorem dX6_find_29 : decode cX6_find 29 = .ok (.ifCond .ge 7, 3) := by decide +kernel
theorem dX6_find_32 : decode cX6_find 32 = .ok (.iconst 1, 1) := by decide +kernel
theorem dX6_find_33 : decode cX6_find 33 = .ok (.goto 4, 3) := by decide +kernel
theorem dX6_find_36 : decode cX6_find 36 = .ok (.iconst 0, 1) := by decide +kernel
theorem dX6_find_37 : decode cX6_find 37 = .ok (.putfield 50, 3) := by decide +kernel
theorem dX6_find_40 : decode cX6_find 40 = .ok (.aload_n 0, 1) := by decide +kernel
theorem dX6_find_41 : decode cX6_find 41 = .ok (.getfield 50, 3) := by decide +kernel
theorem dX6_find_44 : decode cX6_find 44 = .ok (.ifCond .le 5, 3) := by decide +kernel
theorem dX6_find_47 : decode cX6_find 47 = .ok (.iconst 0, 1) := by decide +kernel
theorem dX6_find_48 : decode cX6_find 48 = .ok (.ireturn, 1) := by decide +kernel
theorem dX6_find_49 : decode cX6_find 49 = .ok (.aload_n 0, 1) := by decide +kernel
theorem dX6_find_50 : decode cX6_find 50 = .ok (.iload_n 3, 1) := by decide +kernel
theorem dX6_find_51 : decode cX6_find 51 = .ok (.iconst 0, 1) := by decide +kernel
theorem dX6_find_52 : decode cX6_find 52 = .ok (.bipush 11, 2) := by decide +kernel
theorem dX6_find_54 : decode cX6_find 54 = .ok (.invokestatic 57, 3) := by decide +kernel
theorem dX6_find_57 : decode cX6_find 57 = .ok (.ifCond .eq 26, 3) := by decide +kernel
theorem dX6_find_60 : decode cX6_find 60 = .ok (.iload 4, 2) := by decide +kernel
theorem dX6_find_62 : decode cX6_find 62 = .ok (.iload_n 3, 1) := by decide +kernel
theorem dX6_find_63 : decode cX6_find 63 = .ok (.bipush 11, 2) := by decide +kernel
theorem dX6_find_65 : decode cX6_find 65 = .ok (.invokestatic 57, 3) := by decide +kernel
theorem dX6_find_68 : decode cX6_find 68 = .ok (.ifCond .eq 15, 3) := by decide +kernel
theorem dX6_find_71 : decode cX6_find 71 = .ok (.iload 5, 2) := by decide +kernel
theorem dX6_find_73 : decode cX6_find 73 = .ok (.iconst 0, 1) := by decide +kernel
theorem dX6_find_74 : decode cX6_find 74 = .ok (.sipush 1000, 3) := by decide +kernel
theorem dX6_find_77 : decode cX6_find 77 = .ok (.invokestatic 57, 3) := by decide +kernel
theorem dX6_find_80 : decode cX6_find 80 = .ok (.ifCond .ne 7, 3) := by decide +kernel
theorem dX6_find_83 : decode cX6_find 83 = .ok (.iconst 2, 1) := by decide +kernel
theorem dX6_find_84 : decode cX6_find 84 = .ok (.goto 4, 3) := by decide +kernel
theorem dX6_find_87 : decode cX6_find 87 = .ok (.iconst 0, 1) := by decide +kernel
theorem dX6_find_88 : decode cX6_find 88 = .ok (.putfield 50, 3) := by decide +kernel
theorem dX6_find_91 : decode cX6_find 91 = .ok (.aload_n 0, 1) := by decide +kernel
theorem dX6_find_92 : decode cX6_find 92 = .ok (.getfield 50, 3) := by decide +kernel
theorem dX6_find_95 : decode cX6_find 95 = .ok (.ifCond .le 5, 3) := by decide +kernel
theorem dX6_find_98 : decode cX6_find 98 = .ok (.iconst 0, 1) := by decide +kernel
theorem dX6_find_99 : decode cX6_find 99 = .ok (.ireturn, 1) := by decide +kernel
theorem dX6_find_100 : decode cX6_find 100 = .ok (.iload 6, 2) := by decide +kernel
theorem dX6_find_102 : decode cX6_find 102 = .ok (.istore 7, 2) := by decide +kernel
theorem dX6_find_104 : decode cX6_find 104 = .ok (.iload_n 3, 1) := by decide +kernel
theorem dX6_find_105 : decode cX6_find 105 = .ok (.istore 8, 2) := by decide +kernel
theorem dX6_find_107 : decode cX6_find 107 = .ok (.iload 8, 2) := by decide +kernel
theorem dX6_find_109 : decode cX6_find 109 = .ok (.iload 4, 2) := by decide +kernel
theorem dX6_find_111 : decode cX6_find 111 = .ok (.if_icmp .gt 152, 3) := by decide +kernel
theorem dX6_find_114 : decode cX6_find 114 = .ok (.iconst 0, 1) := by decide +kernel
theorem dX6_find_115 : decode cX6_find 115 = .ok (.istore 9, 2) := by decide +kernel
theorem dX6_find_117 : decode cX6_find 117 = .ok (.iload 9, 2) := by decide +kernel
theorem dX6_find_119 : decode cX6_find 119 = .ok (.aload_n 0, 1) := by decide +kernel
theorem dX6_find_120 : decode cX6_find 120 = .ok (.getfield 54, 3) := by decide +kernel
theorem dX6_find_123 : decode cX6_find 123 = .ok (.if_icmp .ge 134, 3) := by decide +kernel
theorem dX6_find_126 : decode cX6_find 126 = .ok (.iconst 0, 1) := by decide +kernel
theorem dX6_find_127 : decode cX6_find 127 = .ok (.istore 10, 2) := by decide +kernel
theorem dX6_find_129 : decode cX6_find 129 = .ok (.iload 10, 2) := by decide +kernel
theorem dX6_find_131 : decode cX6_find 131 = .ok (.aload_n 0, 1) := by decide +kernel
theorem dX6_find_132 : decode cX6_find 132 = .ok (.getfield 61, 3) := by decide +kernel
theorem dX6_find_135 : decode cX6_find 135 = .ok (.if_icmp .ge 116, 3) := by decide +kernel
theorem dX6_find_138 : decode cX6_find 138 = .ok (.iload 9, 2) := by decide +kernel
theorem dX6_find_140 : decode cX6_find 140 = .ok (.iload 10, 2) := by decide +kernel
theorem dX6_find_142 : decode cX6_find 142 = .ok (.iload 8, 2) := by decide +kernel
theorem dX6_find_144 : decode cX6_find 144 = .ok (.invokestatic 82, 3) := by decide +kernel
theorem dX6_find_147 : decode cX6_find 147 = .ok (.istore 11, 2) := by decide +kernel
theorem dX6_find_149 : decode cX6_find 149 = .ok (.aload_n 0, 1) := by decide +kernel
theorem dX6_find_150 : decode cX6_find 150 = .ok (.iload 9, 2) := by decide +kernel
theorem dX6_find_152 : decode cX6_find 152 = .ok (.iload_n 1, 1) := by decide +kernel
theorem dX6_find_153 : decode cX6_find 153 = .ok (.iconst 0, 1) := by decide +kernel
theorem dX6_find_154 : decode cX6_find 154 = .ok (.invokevirtual 133, 3) := by decide +kernel
theorem dX6_find_157 : decode cX6_find 157 = .ok (.ifCond .eq 44, 3) := by decide +kernel
theorem dX6_find_160 : decode cX6_find 160 = .ok (.aload_n 0, 1) := by decide +kernel
theorem dX6_find_161 : decode cX6_find 161 = .ok (.iload 10, 2) := by decide +kernel
theorem dX6_find_163 : decode cX6_find 163 = .ok (.iload_n 2, 1) := by decide +kernel
theorem dX6_find_164 : decode cX6_find 164 = .ok (.iconst 1, 1) := by decide +kernel
theorem dX6_find_165 : decode cX6_find 165 = .ok (.invokevirtual 133, 3) := by decide +kernel
theorem dX6_find_168 : decode cX6_find 168 = .ok (.ifCond .eq 33, 3) := by decide +kernel
theorem dX6_find_171 : decode cX6_find 171 = .ok (.aload_n 0, 1) := by decide +kernel
theorem dX6_find_172 : decode cX6_find 172 = .ok (.iload 11, 2) := by decide +kernel
theorem dX6_find_174 : decode cX6_find 174 = .ok (.aload_n 0, 1) := by decide +kernel
theorem dX6_find_175 : decode cX6_find 175 = .ok (.getfield 90, 3) := by decide +kernel
theorem dX6_find_178 : decode cX6_find 178 = .ok (.invokevirtual 93, 3) := by decide +kernel
theorem dX6_find_181 : decode cX6_find 181 = .ok (.ldc 86, 2) := by decide +kernel
theorem dX6_find_183 : decode cX6_find 183 = .ok (.if_icmp .eq 18, 3) := by decide +kernel
theorem dX6_find_186 : decode cX6_find 186 = .ok (.aload_n 0, 1) := by decide +kernel
theorem dX6_find_187 : decode cX6_find 187 = .ok (.iload 11, 2) := by decide +kernel
theorem dX6_find_189 : decode cX6_find 189 = .ok (.invokevirtual 136, 3) := by decide +kernel
theorem dX6_find_192 : decode cX6_find 192 = .ok (.iload 5, 2) := by decide +kernel
theorem dX6_find_194 : decode cX6_find 194 = .ok (.if_icmp .lt 7, 3) := by decide +kernel
theorem dX6_find_197 : decode cX6_find 197 = .ok (.iconst 1, 1) := by decide +kernel
theorem dX6_find_198 : decode cX6_find 198 = .ok (.goto 4, 3) := by decide +kernel
theorem dX6_find_201 : decode cX6_find 201 = .ok (.iconst 0, 1) := by decide +kernel
theorem dX6_find_202 : decode cX6_find 202 = .ok (.istore 12, 2) := by decide +kernel
theorem dX6_find_204 : decode cX6_find 204 = .ok (.iload 12, 2) := by decide +kernel
theorem dX6_find_206 : decode cX6_find 206 = .ok (.ifCond .eq 24, 3) := by decide +kernel
theorem dX6_find_209 : decode cX6_find 209 = .ok (.iload 7, 2) := by decide +kernel
theorem dX6_find_211 : decode cX6_find 211 = .ok (.ifCond .ne 19, 3) := by decide +kernel
theorem dX6_find_214 : decode cX6_find 214 = .ok (.sipush 1000, 3) := by decide +kernel
theorem dX6_find_217 : decode cX6_find 217 = .ok (.iload 8, 2) := by decide +kernel
theorem dX6_find_219 : decode cX6_find 219 = .ok (.imul, 1) := by decide +kernel
theorem dX6_find_220 : decode cX6_find 220 = .ok (.bipush 20, 2) := by decide +kernel
theorem dX6_find_222 : decode cX6_find 222 = .ok (.iload 9, 2) := by decide +kernel
theorem dX6_find_224 : decode cX6_find 224 = .ok (.imul, 1) := by decide +kernel
theorem dX6_find_225 : decode cX6_find 225 = .ok (.iadd, 1) := by decide +kernel
theorem dX6_find_226 : decode cX6_find 226 = .ok (.iload 10, 2) := by decide +kernel
theorem dX6_find_228 : decode cX6_find 228 = .ok (.iadd, 1) := by decide +kernel
theorem dX6_find_229 : decode cX6_find 229 = .ok (.ireturn, 1) := by decide +kernel
theorem dX6_find_230 : decode cX6_find 230 = .ok (.iload 7, 2) := by decide +kernel
theorem dX6_find_232 : decode cX6_find 232 = .ok (.iload 12, 2) := by decide +kernel
theorem dX6_find_234 : decode cX6_find 234 = .ok (.ifCond .eq 7, 3) := by decide +kernel
theorem dX6_find_237 : decode cX6_find 237 = .ok (.iconst 1, 1) := by decide +kernel
theorem dX6_find_238 : decode cX6_find 238 = .ok (.goto 4, 3) := by decide +kernel
theorem dX6_find_241 : decode cX6_find 241 = .ok (.iconst 0, 1) := by decide +kernel
theorem dX6_find_242 : decode cX6_find 242 = .ok (.isub, 1) := by decide +kernel
theorem dX6_find_243 : decode cX6_find 243 = .ok (.istore 7, 2) := by decide +kernel
theorem dX6_find_245 : decode cX6_find 245 = .ok (.iinc 10 1, 3) := by decide +kernel
theorem dX6_find_248 : decode cX6_find 248 = .ok (.goto (-119), 3) := by decide +kernel
theorem dX6_find_251 : decode cX6_find 251 = .ok (.iinc 9 1, 3) := by decide +kernel
theorem dX6_find_254 : decode cX6_find 254 = .ok (.goto (-137), 3) := by decide +kernel
theorem dX6_find_257 : decode cX6_find 257 = .ok (.iinc 8 1, 3) := by decide +kernel
theorem dX6_find_260 : decode cX6_find 260 = .ok (.goto (-153), 3) := by decide +kernel
theorem dX6_find_263 : decode cX6_find 263 = .ok (.iconst (-1), 1) := by decide +kernel
theorem dX6_find_264 : decode cX6_find 264 = .ok (.ireturn, 1) := by decide +kernel
set_option maxRecDepth 20000 in
theorem ggX6_mayTell_X6_isSender : GoodIn wsX6_mayTell wsX6_isSender := goodIn_r _ [5, 6, 7, 4, 8] (by decide +kernel) (by decide +kernel)
set_option maxRecDepth 20000 in
theorem gX6_mayTell_X6_isSender : GoodIn wsX6_mayTell (va_wsS RX6 71 yX6_isSender wsX6_isSender) := goodIn_app (goodIn_of _ (by decide +kernel)) ggX6_mayTell_X6_isSender
set_option maxRecDepth 20000 in
theorem ggX6_mayTell_X6_isArea : GoodIn wsX6_mayTell wsX6_isArea := goodIn_r _ [12, 13, 6, 7, 4, 8, 20, 21, 22, 23, 24, 25, 26, 27, 28, 29, 30, 31, 32, 33, 34, 35, 36, 37, 38, 39, 40] (by decide +kernel) (by decide +kernel)
set_option maxRecDepth 20000 in
theorem gX6_mayTell_X6_isArea : GoodIn wsX6_mayTell (wsV RX6 64 RX6 yX6_isArea wsX6_isArea) := goodIn_app (goodIn_of _ (by decide +kernel)) ggX6_mayTell_X6_isArea
set_option maxRecDepth 20000 in
theorem ggX6_mayTell_X6_may : GoodIn wsX6_mayTell wsX6_may := goodIn_r _ [17, 18, 19, 20, 21, 22, 23, 24, 25, 26, 27, 28, 29, 30, 31, 32, 33, 34, 35, 36, 37, 38, 39, 40] (by decide +kernel) (by decide +kernel)
set_option maxRecDepth 20000 in
theorem gX6_mayTell_X6_may : GoodIn wsX6_mayTell (wsV RX6 97 RX6 yX6_may wsX6_may) := goodIn_app (goodIn_of _ (by decide +kernel)) ggX6_mayTell_X6_may
theorem dX6_mayTell_0 : decode cX6_mayTell 0 = .ok (.aload_n 0, 1) := by decide +kernel
theorem dX6_mayTell_1 : decode cX6_mayTell 1 = .ok (.iload_n 1, 1) := by decide +kernel
theorem dX6_mayTell_2 : decode cX6_mayTell 2 = .ok (.invokestatic 71, 3) := by decide +kernel
theorem dX6_mayTell_5 : decode cX6_mayTell 5 = .ok (.ifCond .eq 15, 3) := by decide +kernel
theorem dX6_mayTell_8 : decode cX6_mayTell 8 = .ok (.aload_n 0, 1) := by decide +kernel
theorem dX6_mayTell_9 : decode cX6_mayTell 9 = .ok (.iload_n 2, 1) := by decide +kernel
theorem dX6_mayTell_10 : decode cX6_mayTell 10 = .ok (.invokevirtual 64, 3) := by decide +kernel
theorem dX6_mayTell_13 : decode cX6_mayTell 13 = .ok (.ifCond .eq 7, 3) := by decide +kernel
theorem dX6_mayTell_16 : decode cX6_mayTell 16 = .ok (.iconst 0, 1) := by decide +kernel
theorem dX6_mayTell_17 : decode cX6_mayTell 17 = .ok (.goto 4, 3) := by decide +kernel
theorem dX6_mayTell_20 : decode cX6_mayTell 20 = .ok (.iconst 1, 1) := by decide +kernel
theorem dX6_mayTell_21 : decode cX6_mayTell 21 = .ok (.putfield 50, 3) := by decide +kernel
theorem dX6_mayTell_24 : decode cX6_mayTell 24 = .ok (.aload_n 0, 1) := by decide +kernel
theorem dX6_mayTell_25 : decode cX6_mayTell 25 = .ok (.getfield 50, 3) := by decide +kernel
theorem dX6_mayTell_28 : decode cX6_mayTell 28 = .ok (.ifCond .ne 16, 3) := by decide +kernel
theorem dX6_mayTell_31 : decode cX6_mayTell 31 = .ok (.aload_n 0, 1) := by decide +kernel
theorem dX6_mayTell_32 : decode cX6_mayTell 32 = .ok (.iload_n 1, 1) := by decide +kernel
theorem dX6_mayTell_33 : decode cX6_mayTell 33 = .ok (.iload_n 2, 1) := by decide +kernel
theorem dX6_mayTell_34 : decode cX6_mayTell 34 = .ok (.invokevirtual 97, 3) := by decide +kernel
theorem dX6_mayTell_37 : decode cX6_mayTell 37 = .ok (.ifCond .eq 7, 3) := by decide +kernel
theorem dX6_mayTell_40 : decode cX6_mayTell 40 = .ok (.iconst 1, 1) := by decide +kernel
theorem dX6_mayTell_41 : decode cX6_mayTell 41 = .ok (.goto 4, 3) := by decide +kernel
theorem dX6_mayTell_44 : decode cX6_mayTell 44 = .ok (.iconst 0, 1) := by decide +kernel
theorem dX6_mayTell_45 : decode cX6_mayTell 45 = .ok (.ireturn, 1) := by decide +kernel
theorem dJ9_abs_0f7a4_0 : decode cJ9_abs_0f7a4 0 = .ok (.iload_n 0, 1) := by decide +kernel
theorem dJ9_abs_0f7a4_1 : decode cJ9_abs_0f7a4 1 = .ok (.ifCond .ge 8, 3) := by decide +kernel
theorem dJ9_abs_0f7a4_4 : decode cJ9_abs_0f7a4 4 = .ok (.iload_n 0, 1) := by decide +kernel
theorem dJ9_abs_0f7a4_5 : decode cJ9_abs_0f7a4 5 = .ok (.ineg, 1) := by decide +kernel
theorem dJ9_abs_0f7a4_6 : decode cJ9_abs_0f7a4 6 = .ok (.goto 4, 3) := by decide +kernel
theorem dJ9_abs_0f7a4_9 : decode cJ9_abs_0f7a4 9 = .ok (.iload_n 0, 1) := by decide +kernel
theorem dJ9_abs_0f7a4_10 : decode cJ9_abs_0f7a4 10 = .ok (.ireturn, 1) := by decide +kernel
theorem dJ7_fill_53178_0 : decode cJ7_fill_53178 0 = .ok (.iconst 0, 1) := by decide +kernel
theorem dJ7_fill_53178_1 : decode cJ7_fill_53178 1 = .ok (.istore_n 2, 1) := by decide +kernel
theorem dJ7_fill_53178_2 : decode cJ7_fill_53178 2 = .ok (.aload_n 0, 1) := by decide +kernel
theorem dJ7_fill_53178_3 : decode cJ7_fill_53178 3 = .ok (.arraylength, 1) := by decide +kernel
theorem dJ7_fill_53178_4 : decode cJ7_fill_53178 4 = .ok (.istore_n 3, 1) := by decide +kernel
theorem dJ7_fill_53178_5 : decode cJ7_fill_53178 5 = .ok (.iload_n 2, 1) := by decide +kernel
theorem dJ7_fill_53178_6 : decode cJ7_fill_53178 6 = .ok (.iload_n 3, 1) := by decide +kernel
theorem dJ7_fill_53178_7 : decode cJ7_fill_53178 7 = .ok (.if_icmp .ge 13, 3) := by decide +kernel
theorem dJ7_fill_53178_10 : decode cJ7_fill_53178 10 = .ok (.aload_n 0, 1) := by decide +kernel
theorem dJ7_fill_53178_11 : decode cJ7_fill_53178 11 = .ok (.iload_n 2, 1) := by decide +kernel
theorem dJ7_fill_53178_12 : decode cJ7_fill_53178 12 = .ok (.iload_n 1, 1) := by decide +kernel
theorem dJ7_fill_53178_13 : decode cJ7_fill_53178 13 = .ok (.iastore, 1) := by decide +kernel
theorem dJ7_fill_53178_14 : decode cJ7_fill_53178 14 = .ok (.iinc 2 1, 3) := by decide +kernel
theorem dJ7_fill_53178_17 : decode cJ7_fill_53178 17 = .ok (.goto (-12), 3) := by decide +kernel
theorem dJ7_fill_53178_20 : decode cJ7_fill_53178 20 = .ok (.return_, 1) := by decide +kernel
set_option maxRecDepth 20000 in
theorem ggL_area_X5_area : GoodIn wsL_area wsX5_area := goodIn_ca (goodIn_ca (goodIn_r _ [7, 8, 9, 10, 6, 11, 12, 13, 14, 15, 16, 17, 18, 19, 20, 21, 22, 23, 24, 25, 26, 27, 28, 29, 30, 31, 32, 33, 34, 35, 36, 37, 38, 39, 40, 41, 42, 43, 44, 45, 46, 47] (by decide +kernel) (by decide +kernel)) (goodIn_sub (fun _ h => List.mem_cons_of_mem _ (List.mem_append_left _ (List.mem_append_right _ h))) (by decide +kernel))) (goodIn_sub (fun _ h => List.mem_cons_of_mem _ (List.mem_append_right _ h)) (by decide +kernel))
set_option maxRecDepth 20000 in
theorem gL_area_X5_area : GoodIn wsL_area (wsV RL 7 RX5 yX5_area wsX5_area) := goodIn_app (goodIn_of _ (by decide +kernel)) ggL_area_X5_area
theorem dL_area_0 : decode cL_area 0 = .ok (.aload_n 2, 1) := by decide +kernel
theorem dL_area_1 : decode cL_area 1 = .ok (.iconst 0, 1) := by decide +kernel
theorem dL_area_2 : decode cL_area 2 = .ok (.aload_n 0, 1) := by decide +kernel
theorem dL_area_3 : decode cL_area 3 = .ok (.iload_n 1, 1) := by decide +kernel
theorem dL_area_4 : decode cL_area 4 = .ok (.invokevirtual 7, 3) := by decide +kernel
theorem dL_area_7 : decode cL_area 7 = .ok (.i2l, 1) := by decide +kernel
theorem dL_area_8 : decode cL_area 8 = .ok (.lastore, 1) := by decide +kernel
theorem dL_area_9 : decode cL_area 9 = .ok (.goto 9, 3) := by decide +kernel
theorem dL_area_12 : decode cL_area 12 = .ok (.astore_n 3, 1) := by decide +kernel
theorem dL_area_13 : decode cL_area 13 = .ok (.iconst 1, 1) := by decide +kernel
theorem dL_area_14 : decode cL_area 14 = .ok (.ireturn, 1) := by decide +kernel
theorem dL_area_15 : decode cL_area 15 = .ok (.astore_n 3, 1) := by decide +kernel
theorem dL_area_16 : decode cL_area 16 = .ok (.iconst 2, 1) := by decide +kernel
theorem dL_area_17 : decode cL_area 17 = .ok (.ireturn, 1) := by decide +kernel
theorem dL_area_18 : decode cL_area 18 = .ok (.iconst 0, 1) := by decide +kernel
theorem dL_area_19 : decode cL_area 19 = .ok (.ireturn, 1) := by decide +kernel
set_option maxRecDepth 20000 in
theorem ggL_item_X5_item : GoodIn wsL_item wsX5_item := goodIn_ca (goodIn_ca (goodIn_r _ [7, 8, 9, 10, 6, 11, 12, 13, 14, 15, 16, 17, 18, 19, 20, 21, 22, 23, 24, 25, 26, 27, 28, 29, 30, 31, 32, 33, 34, 35, 36, 37, 38, 39, 40, 41, 42, 43, 44, 45, 46, 47] (by decide +kernel) (by decide +kernel)) (goodIn_sub (fun _ h => List.mem_cons_of_mem _ (List.mem_append_left _ (List.mem_append_right _ h))) (by decide +kernel))) (goodIn_sub (fun _ h => List.mem_cons_of_mem _ (List.mem_append_right _ h)) (by decide +kernel))
set_option maxRecDepth 20000 in
theorem gL_item_X5_item : GoodIn wsL_item (wsV RL 17 RX5 yX5_item wsX5_item) := goodIn_app (goodIn_of _ (by decide +kernel)) ggL_item_X5_item
theorem dL_item_0 : decode cL_item 0 = .ok (.aload_n 2, 1) := by decide +kernel
theorem dL_item_1 : decode cL_item 1 = .ok (.iconst 0, 1) := by decide +kernel
theorem dL_item_2 : decode cL_item 2 = .ok (.aload_n 0, 1) := by decide +kernel
theorem dL_item_3 : decode cL_item 3 = .ok (.iload_n 1, 1) := by decide +kernel
theorem dL_item_4 : decode cL_item 4 = .ok (.invokevirtual 17, 3) := by decide +kernel
theorem dL_item_7 : decode cL_item 7 = .ok (.i2l, 1) := by decide +kernel
theorem dL_item_8 : decode cL_item 8 = .ok (.lastore, 1) := by decide +kernel
theorem dL_item_9 : decode cL_item 9 = .ok (.goto 9, 3) := by decide +kernel
theorem dL_item_12 : decode cL_item 12 = .ok (.astore_n 3, 1) := by decide +kernel
theorem dL_item_13 : decode cL_item 13 = .ok (.iconst 1, 1) := by decide +kernel
theorem dL_item_14 : decode cL_item 14 = .ok (.ireturn, 1) := by decide +kernel
theorem dL_item_15 : decode cL_item 15 = .ok (.astore_n 3, 1) := by decide +kernel
theorem dL_item_16 : decode cL_item 16 = .ok (.iconst 2, 1) := by decide +kernel
theorem dL_item_17 : decode cL_item 17 = .ok (.ireturn, 1) := by decide +kernel
theorem dL_item_18 : decode cL_item 18 = .ok (.iconst 0, 1) := by decide +kernel
theorem dL_item_19 : decode cL_item 19 = .ok (.ireturn, 1) := by decide +kernel
set_option maxRecDepth 20000 in
theorem ggL_agree_X5_agree : GoodIn wsL_agree wsX5_agree := goodIn_ca (goodIn_r _ [6, 7, 8, 9, 5, 10, 11, 12, 13, 14, 15, 16, 17, 18, 19, 20, 21, 22, 23, 24, 25, 26, 27, 28, 29, 30, 31, 32, 33, 34, 35, 36, 37, 38, 39, 40, 41, 42, 43, 44] (by decide +kernel) (by decide +kernel)) (goodIn_sub (fun _ h => List.mem_cons_of_mem _ (List.mem_append_right _ h)) (by decide +kernel))
set_option maxRecDepth 20000 in
theorem gL_agree_X5_agree : GoodIn wsL_agree (wsV RL 20 RX5 yX5_agree wsX5_agree) := goodIn_app (goodIn_of _ (by decide +kernel)) ggL_agree_X5_agree
theorem dL_agree_0 : decode cL_agree 0 = .ok (.aload 4, 2) := by decide +kernel
theorem dL_agree_2 : decode cL_agree 2 = .ok (.iconst 0, 1) := by decide +kernel
theorem dL_agree_3 : decode cL_agree 3 = .ok (.aload_n 0, 1) := by decide +kernel
theorem dL_agree_4 : decode cL_agree 4 = .ok (.iload_n 1, 1) := by decide +kernel
theorem dL_agree_5 : decode cL_agree 5 = .ok (.iload_n 2, 1) := by decide +kernel
theorem dL_agree_6 : decode cL_agree 6 = .ok (.iload_n 3, 1) := by decide +kernel
theorem dL_agree_7 : decode cL_agree 7 = .ok (.invokevirtual 20, 3) := by decide +kernel
theorem dL_agree_10 : decode cL_agree 10 = .ok (.ifCond .eq 7, 3) := by decide +kernel
theorem dL_agree_13 : decode cL_agree 13 = .ok (.lconst 1, 1) := by decide +kernel
theorem dL_agree_14 : decode cL_agree 14 = .ok (.goto 4, 3) := by decide +kernel
theorem dL_agree_17 : decode cL_agree 17 = .ok (.lconst 0, 1) := by decide +kernel
theorem dL_agree_18 : decode cL_agree 18 = .ok (.lastore, 1) := by decide +kernel
theorem dL_agree_19 : decode cL_agree 19 = .ok (.goto 7, 3) := by decide +kernel
theorem dL_agree_22 : decode cL_agree 22 = .ok (.astore 5, 2) := by decide +kernel
theorem dL_agree_24 : decode cL_agree 24 = .ok (.iconst 1, 1) := by decide +kernel
theorem dL_agree_25 : decode cL_agree 25 = .ok (.ireturn, 1) := by decide +kernel
theorem dL_agree_26 : decode cL_agree 26 = .ok (.iconst 0, 1) := by decide +kernel
theorem dL_agree_27 : decode cL_agree 27 = .ok (.ireturn, 1) := by decide +kernel
set_option maxRecDepth 20000 in
theorem ggL_put_X5_put : GoodIn wsL_put wsX5_put := goodIn_ca (goodIn_ca (goodIn_ca (goodIn_r _ [8, 9, 10, 11, 12, 13, 14, 15, 16, 17, 18, 7, 19, 20, 21, 22, 23, 24, 25, 26, 27, 28, 29, 30, 31, 32, 33, 34, 35, 36, 37, 38, 39, 40, 41, 42, 43, 44, 45, 46, 47, 48, 49, 50, 51, 52, 53, 54, 55, 56, 57, 58, 59, 60, 61, 62, 63, 64, 65, 66, 67, 68, 69, 70, 71] (by decide +kernel) (by decide +kernel)) (goodIn_sub (fun _ h => List.mem_cons_of_mem _ (List.mem_append_left _ (List.mem_append_left _ (List.mem_append_right _ h)))) (by decide +kernel))) (goodIn_sub (fun _ h => List.mem_cons_of_mem _ (List.mem_append_left _ (List.mem_append_right _ h))) (by decide +kernel))) (goodIn_sub (fun _ h => List.mem_cons_of_mem _ (List.mem_append_right _ h)) (by decide +kernel))
set_option maxRecDepth 20000 in
theorem gL_put_X5_put : GoodIn wsL_put (wsV RL 24 RX5 yX5_put wsX5_put) := goodIn_app (goodIn_of _ (by decide +kernel)) ggL_put_X5_put
theorem dL_put_0 : decode cL_put 0 = .ok (.aload 6, 2) := by decide +kernel
theorem dL_put_2 : decode cL_put 2 = .ok (.iconst 0, 1) := by decide +kernel
theorem dL_put_3 : decode cL_put 3 = .ok (.aload_n 0, 1) := by decide +kernel
theorem dL_put_4 : decode cL_put 4 = .ok (.iload_n 1, 1) := by decide +kernel
theorem dL_put_5 : decode cL_put 5 = .ok (.iload_n 2, 1) := by decide +kernel
theorem dL_put_6 : decode cL_put 6 = .ok (.iload_n 3, 1) := by decide +kernel
theorem dL_put_7 : decode cL_put 7 = .ok (.iload 4, 2) := by decide +kernel
theorem dL_put_9 : decode cL_put 9 = .ok (.iload 5, 2) := by decide +kernel
theorem dL_put_11 : decode cL_put 11 = .ok (.invokevirtual 24, 3) := by decide +kernel
theorem dL_put_14 : decode cL_put 14 = .ok (.i2l, 1) := by decide +kernel
theorem dL_put_15 : decode cL_put 15 = .ok (.lastore, 1) := by decide +kernel
theorem dL_put_16 : decode cL_put 16 = .ok (.goto 15, 3) := by decide +kernel
theorem dL_put_19 : decode cL_put 19 = .ok (.astore 7, 2) := by decide +kernel
theorem dL_put_21 : decode cL_put 21 = .ok (.iconst 1, 1) := by decide +kernel
theorem dL_put_22 : decode cL_put 22 = .ok (.ireturn, 1) := by decide +kernel
theorem dL_put_23 : decode cL_put 23 = .ok (.astore 7, 2) := by decide +kernel
theorem dL_put_25 : decode cL_put 25 = .ok (.iconst 2, 1) := by decide +kernel
theorem dL_put_26 : decode cL_put 26 = .ok (.ireturn, 1) := by decide +kernel
theorem dL_put_27 : decode cL_put 27 = .ok (.astore 7, 2) := by decide +kernel
theorem dL_put_29 : decode cL_put 29 = .ok (.iconst 3, 1) := by decide +kernel
theorem dL_put_30 : decode cL_put 30 = .ok (.ireturn, 1) := by decide +kernel
theorem dL_put_31 : decode cL_put 31 = .ok (.iconst 0, 1) := by decide +kernel
theorem dL_put_32 : decode cL_put 32 = .ok (.ireturn, 1) := by decide +kernel
set_option maxRecDepth 20000 in
theorem ggL_send_X5_send : GoodIn wsL_send wsX5_send := goodIn_ca (goodIn_ca (goodIn_r _ [7, 8, 9, 10, 11, 12, 13, 6, 14, 15, 16, 17, 18, 19, 20, 21, 22, 23, 24, 25, 26, 27, 28, 29, 30, 31, 32, 33, 34, 35, 36, 37, 38, 39, 40, 41, 42, 43, 44, 45, 46, 47, 48, 49, 50, 51, 52, 53, 54, 55, 56, 57, 58, 59, 60, 61, 62, 63, 64, 65, 66, 67, 68, 69, 70, 71, 72, 73, 74, 75, 76, 77, 78, 79, 80, 81, 82, 83, 84, 85, 86, 87, 88, 89, 90, 91, 92, 93, 94, 95, 96, 97, 98, 99, 100, 101, 102] (by decide +kernel) (by decide +kernel)) (goodIn_sub (fun _ h => List.mem_cons_of_mem _ (List.mem_append_left _ (List.mem_append_right _ h))) (by decide +kernel))) (goodIn_sub (fun _ h => List.mem_cons_of_mem _ (List.mem_append_right _ h)) (by decide +kernel))
set_option maxRecDepth 20000 in
theorem gL_send_X5_send : GoodIn wsL_send (wsV RL 30 RX5 yX5_send wsX5_send) := goodIn_app (goodIn_of _ (by decide +kernel)) ggL_send_X5_send
theorem dL_send_0 : decode cL_send 0 = .ok (.aload_n 2, 1) := by decide +kernel
theorem dL_send_1 : decode cL_send 1 = .ok (.iconst 0, 1) := by decide +kernel
theorem dL_send_2 : decode cL_send 2 = .ok (.aload_n 0, 1) := by decide +kernel
theorem dL_send_3 : decode cL_send 3 = .ok (.iload_n 1, 1) := by decide +kernel
theorem dL_send_4 : decode cL_send 4 = .ok (.invokevirtual 30, 3) := by decide +kernel
theorem dL_send_7 : decode cL_send 7 = .ok (.i2l, 1) := by decide +kernel
theorem dL_send_8 : decode cL_send 8 = .ok (.lastore, 1) := by decide +kernel
theorem dL_send_9 : decode cL_send 9 = .ok (.goto 9, 3) := by decide +kernel
theorem dL_send_12 : decode cL_send 12 = .ok (.astore_n 3, 1) := by decide +kernel
theorem dL_send_13 : decode cL_send 13 = .ok (.iconst 1, 1) := by decide +kernel
theorem dL_send_14 : decode cL_send 14 = .ok (.ireturn, 1) := by decide +kernel
theorem dL_send_15 : decode cL_send 15 = .ok (.astore_n 3, 1) := by decide +kernel
theorem dL_send_16 : decode cL_send 16 = .ok (.iconst 2, 1) := by decide +kernel
theorem dL_send_17 : decode cL_send 17 = .ok (.ireturn, 1) := by decide +kernel
theorem dL_send_18 : decode cL_send 18 = .ok (.iconst 0, 1) := by decide +kernel
theorem dL_send_19 : decode cL_send 19 = .ok (.ireturn, 1) := by decide +kernel
set_option maxRecDepth 20000 in
theorem ggL_refusal_X5_refusal : GoodIn wsL_refusal wsX5_refusal := goodIn_ca (goodIn_r _ [6, 7, 8, 9, 10, 11, 12, 13, 14, 15, 16, 17, 18, 19, 20, 21] (by decide +kernel) (by decide +kernel)) (goodIn_sub (fun _ h => List.mem_cons_of_mem _ (List.mem_append_right _ h)) (by decide +kernel))
set_option maxRecDepth 20000 in
theorem gL_refusal_X5_refusal : GoodIn wsL_refusal (wsV RL 33 RX5 yX5_refusal wsX5_refusal) := goodIn_app (goodIn_of _ (by decide +kernel)) ggL_refusal_X5_refusal
theorem dL_refusal_0 : decode cL_refusal 0 = .ok (.aload_n 2, 1) := by decide +kernel
theorem dL_refusal_1 : decode cL_refusal 1 = .ok (.iconst 0, 1) := by decide +kernel
theorem dL_refusal_2 : decode cL_refusal 2 = .ok (.aload_n 0, 1) := by decide +kernel
theorem dL_refusal_3 : decode cL_refusal 3 = .ok (.iload_n 1, 1) := by decide +kernel
theorem dL_refusal_4 : decode cL_refusal 4 = .ok (.invokevirtual 33, 3) := by decide +kernel
theorem dL_refusal_7 : decode cL_refusal 7 = .ok (.i2l, 1) := by decide +kernel
theorem dL_refusal_8 : decode cL_refusal 8 = .ok (.lastore, 1) := by decide +kernel
theorem dL_refusal_9 : decode cL_refusal 9 = .ok (.goto 6, 3) := by decide +kernel
theorem dL_refusal_12 : decode cL_refusal 12 = .ok (.astore_n 3, 1) := by decide +kernel
theorem dL_refusal_13 : decode cL_refusal 13 = .ok (.iconst 1, 1) := by decide +kernel
theorem dL_refusal_14 : decode cL_refusal 14 = .ok (.ireturn, 1) := by decide +kernel
theorem dL_refusal_15 : decode cL_refusal 15 = .ok (.iconst 0, 1) := by decide +kernel
theorem dL_refusal_16 : decode cL_refusal 16 = .ok (.ireturn, 1) := by decide +kernel
set_option maxRecDepth 20000 in
theorem ggL_secret_X5_secret : GoodIn wsL_secret wsX5_secret := goodIn_ca (goodIn_r _ [6, 7, 8, 9, 10, 11, 5, 12, 13, 14, 15, 16, 17, 18, 19, 20, 21, 22, 23, 24, 25, 26, 27, 28, 29, 30, 31, 32, 33, 34, 35, 36, 37, 38, 39, 40, 41, 42, 43, 44, 45, 46, 47, 48, 49, 50, 51, 52, 53, 54, 55, 56, 57, 58, 59, 60, 61, 62, 63, 64, 65, 66, 67, 68, 69, 70, 71, 72, 73, 74, 75, 76, 77, 78, 79, 80, 81, 82, 83, 84, 85, 86, 87, 88, 89, 90, 91, 92, 93, 94, 95, 96, 97, 98, 99, 100, 101, 102, 103, 104, 105, 106, 107, 108, 109, 110, 111, 112, 113, 114, 115, 116, 117, 118, 119, 120, 121, 122, 123, 124, 125] (by decide +kernel) (by decide +kernel)) (goodIn_sub (fun _ h => List.mem_cons_of_mem _ (List.mem_append_right _ h)) (by decide +kernel))
set_option maxRecDepth 20000 in
theorem gL_secret_X5_secret : GoodIn wsL_secret (wsV RL 36 RX5 yX5_secret wsX5_secret) := goodIn_app (goodIn_of _ (by decide +kernel)) ggL_secret_X5_secret
theorem dL_secret_0 : decode cL_secret 0 = .ok (.aload 5, 2) := by decide +kernel
theorem dL_secret_2 : decode cL_secret 2 = .ok (.iconst 0, 1) := by decide +kernel
theorem dL_secret_3 : decode cL_secret 3 = .ok (.aload_n 0, 1) := by decide +kernel
theorem dL_secret_4 : decode cL_secret 4 = .ok (.iload_n 1, 1) := by decide +kernel
theorem dL_secret_5 : decode cL_secret 5 = .ok (.iload_n 2, 1) := by decide +kernel
theorem dL_secret_6 : decode cL_secret 6 = .ok (.iload_n 3, 1) := by decide +kernel
theorem dL_secret_7 : decode cL_secret 7 = .ok (.iload 4, 2) := by decide +kernel
theorem dL_secret_9 : decode cL_secret 9 = .ok (.invokevirtual 36, 3) := by decide +kernel
theorem dL_secret_12 : decode cL_secret 12 = .ok (.i2l, 1) := by decide +kernel
theorem dL_secret_13 : decode cL_secret 13 = .ok (.lastore, 1) := by decide +kernel
theorem dL_secret_14 : decode cL_secret 14 = .ok (.goto 7, 3) := by decide +kernel
theorem dL_secret_17 : decode cL_secret 17 = .ok (.astore 6, 2) := by decide +kernel
theorem dL_secret_19 : decode cL_secret 19 = .ok (.iconst 1, 1) := by decide +kernel
theorem dL_secret_20 : decode cL_secret 20 = .ok (.ireturn, 1) := by decide +kernel
theorem dL_secret_21 : decode cL_secret 21 = .ok (.iconst 0, 1) := by decide +kernel
theorem dL_secret_22 : decode cL_secret 22 = .ok (.ireturn, 1) := by decide +kernel
set_option maxRecDepth 20000 in
theorem ggL_pass_X5_pass : GoodIn wsL_pass wsX5_pass := goodIn_ca (goodIn_ca (goodIn_r _ [7, 8, 9, 10, 11, 12, 13, 14, 15, 16, 17, 18, 19, 20, 21, 22, 23] (by decide +kernel) (by decide +kernel)) (goodIn_sub (fun _ h => List.mem_cons_of_mem _ (List.mem_append_left _ (List.mem_append_right _ h))) (by decide +kernel))) (goodIn_sub (fun _ h => List.mem_cons_of_mem _ (List.mem_append_right _ h)) (by decide +kernel))
set_option maxRecDepth 20000 in
theorem gL_pass_X5_pass : GoodIn wsL_pass (wsV RL 40 RX5 yX5_pass wsX5_pass) := goodIn_app (goodIn_of _ (by decide +kernel)) ggL_pass_X5_pass
theorem dL_pass_0 : decode cL_pass 0 = .ok (.aload_n 2, 1) := by decide +kernel
theorem dL_pass_1 : decode cL_pass 1 = .ok (.iconst 0, 1) := by decide +kernel
theorem dL_pass_2 : decode cL_pass 2 = .ok (.aload_n 0, 1) := by decide +kernel
theorem dL_pass_3 : decode cL_pass 3 = .ok (.iload_n 1, 1) := by decide +kernel
theorem dL_pass_4 : decode cL_pass 4 = .ok (.invokevirtual 40, 3) := by decide +kernel
theorem dL_pass_7 : decode cL_pass 7 = .ok (.i2l, 1) := by decide +kernel
theorem dL_pass_8 : decode cL_pass 8 = .ok (.lastore, 1) := by decide +kernel
theorem dL_pass_9 : decode cL_pass 9 = .ok (.goto 9, 3) := by decide +kernel
theorem dL_pass_12 : decode cL_pass 12 = .ok (.astore_n 3, 1) := by decide +kernel
theorem dL_pass_13 : decode cL_pass 13 = .ok (.iconst 1, 1) := by decide +kernel
theorem dL_pass_14 : decode cL_pass 14 = .ok (.ireturn, 1) := by decide +kernel
theorem dL_pass_15 : decode cL_pass 15 = .ok (.astore_n 3, 1) := by decide +kernel
theorem dL_pass_16 : decode cL_pass 16 = .ok (.iconst 2, 1) := by decide +kernel
theorem dL_pass_17 : decode cL_pass 17 = .ok (.ireturn, 1) := by decide +kernel
theorem dL_pass_18 : decode cL_pass 18 = .ok (.iconst 0, 1) := by decide +kernel
theorem dL_pass_19 : decode cL_pass 19 = .ok (.ireturn, 1) := by decide +kernel
set_option maxRecDepth 20000 in
theorem ggL_figure_X5_figure : GoodIn wsL_figure wsX5_figure := goodIn_ca (goodIn_ca (goodIn_r _ [7, 8, 9, 10, 11, 6, 12, 13, 14, 15, 16, 17, 18, 19, 20, 21, 22, 23, 24, 25, 26, 27, 28, 29, 30, 31, 32, 33, 34, 35, 36, 37, 38, 39, 40, 41, 42, 43, 44, 45, 46, 47, 48, 49, 50, 51, 52, 53, 54, 55, 56, 57, 58, 59, 60, 61, 62, 63, 64, 65, 66, 67, 68, 69, 70] (by decide +kernel) (by decide +kernel)) (goodIn_sub (fun _ h => List.mem_cons_of_mem _ (List.mem_append_left _ (List.mem_append_right _ h))) (by decide +kernel))) (goodIn_sub (fun _ h => List.mem_cons_of_mem _ (List.mem_append_right _ h)) (by decide +kernel))
set_option maxRecDepth 20000 in
theorem gL_figure_X5_figure : GoodIn wsL_figure (wsV RL 43 RX5 yX5_figure wsX5_figure) := goodIn_app (goodIn_of _ (by decide +kernel)) ggL_figure_X5_figure
theorem dL_figure_0 : decode cL_figure 0 = .ok (.aload 5, 2) := by decide +kernel
theorem dL_figure_2 : decode cL_figure 2 = .ok (.iconst 0, 1) := by decide +kernel
theorem dL_figure_3 : decode cL_figure 3 = .ok (.aload_n 0, 1) := by decide +kernel
theorem dL_figure_4 : decode cL_figure 4 = .ok (.iload_n 1, 1) := by decide +kernel
theorem dL_figure_5 : decode cL_figure 5 = .ok (.iload_n 2, 1) := by decide +kernel
theorem dL_figure_6 : decode cL_figure 6 = .ok (.iload_n 3, 1) := by decide +kernel
theorem dL_figure_7 : decode cL_figure 7 = .ok (.iload 4, 2) := by decide +kernel
theorem dL_figure_9 : decode cL_figure 9 = .ok (.invokevirtual 43, 3) := by decide +kernel
theorem dL_figure_12 : decode cL_figure 12 = .ok (.i2l, 1) := by decide +kernel
theorem dL_figure_13 : decode cL_figure 13 = .ok (.lastore, 1) := by decide +kernel
theorem dL_figure_14 : decode cL_figure 14 = .ok (.goto 11, 3) := by decide +kernel
theorem dL_figure_17 : decode cL_figure 17 = .ok (.astore 6, 2) := by decide +kernel
theorem dL_figure_19 : decode cL_figure 19 = .ok (.iconst 1, 1) := by decide +kernel
theorem dL_figure_20 : decode cL_figure 20 = .ok (.ireturn, 1) := by decide +kernel
theorem dL_figure_21 : decode cL_figure 21 = .ok (.astore 6, 2) := by decide +kernel
theorem dL_figure_23 : decode cL_figure 23 = .ok (.iconst 2, 1) := by decide +kernel
theorem dL_figure_24 : decode cL_figure 24 = .ok (.ireturn, 1) := by decide +kernel
theorem dL_figure_25 : decode cL_figure 25 = .ok (.iconst 0, 1) := by decide +kernel
theorem dL_figure_26 : decode cL_figure 26 = .ok (.ireturn, 1) := by decide +kernel
set_option maxRecDepth 20000 in
theorem ggL_value_X5_value : GoodIn wsL_value wsX5_value := goodIn_ca (goodIn_ca (goodIn_r _ [7, 8, 9, 10, 11, 12, 13, 14, 6, 15, 16, 17, 18, 19, 20, 21, 22, 23, 24, 25, 26, 27, 28, 29, 30, 31, 32, 33, 34, 35, 36, 37, 38, 39, 40, 41, 42, 43, 44, 45, 46, 47, 48, 49, 50, 51, 52, 53, 54, 55, 56, 57, 58, 59, 60, 61, 62, 63, 64, 65, 66, 67, 68, 69, 70, 71, 72, 73, 74, 75, 76, 77, 78, 79, 80, 81, 82, 83, 84, 85, 86, 87, 88, 89, 90, 91, 92, 93, 94, 95] (by decide +kernel) (by decide +kernel)) (goodIn_sub (fun _ h => List.mem_cons_of_mem _ (List.mem_append_left _ (List.mem_append_right _ h))) (by decide +kernel))) (goodIn_sub (fun _ h => List.mem_cons_of_mem _ (List.mem_append_right _ h)) (by decide +kernel))
set_option maxRecDepth 20000 in
theorem gL_value_X5_value : GoodIn wsL_value (wsV RL 47 RX5 yX5_value wsX5_value) := goodIn_app (goodIn_of _ (by decide +kernel)) ggL_value_X5_value
theorem dL_value_0 : decode cL_value 0 = .ok (.aload 5, 2) := by decide +kernel
theorem dL_value_2 : decode cL_value 2 = .ok (.iconst 0, 1) := by decide +kernel
theorem dL_value_3 : decode cL_value 3 = .ok (.aload_n 0, 1) := by decide +kernel
theorem dL_value_4 : decode cL_value 4 = .ok (.iload_n 1, 1) := by decide +kernel
theorem dL_value_5 : decode cL_value 5 = .ok (.iload_n 2, 1) := by decide +kernel
theorem dL_value_6 : decode cL_value 6 = .ok (.iload_n 3, 1) := by decide +kernel
theorem dL_value_7 : decode cL_value 7 = .ok (.iload 4, 2) := by decide +kernel
theorem dL_value_9 : decode cL_value 9 = .ok (.invokevirtual 47, 3) := by decide +kernel
theorem dL_value_12 : decode cL_value 12 = .ok (.i2l, 1) := by decide +kernel
theorem dL_value_13 : decode cL_value 13 = .ok (.lastore, 1) := by decide +kernel
theorem dL_value_14 : decode cL_value 14 = .ok (.goto 11, 3) := by decide +kernel
theorem dL_value_17 : decode cL_value 17 = .ok (.astore 6, 2) := by decide +kernel
theorem dL_value_19 : decode cL_value 19 = .ok (.iconst 1, 1) := by decide +kernel
theorem dL_value_20 : decode cL_value 20 = .ok (.ireturn, 1) := by decide +kernel
theorem dL_value_21 : decode cL_value 21 = .ok (.astore 6, 2) := by decide +kernel
theorem dL_value_23 : decode cL_value 23 = .ok (.iconst 2, 1) := by decide +kernel
theorem dL_value_24 : decode cL_value 24 = .ok (.ireturn, 1) := by decide +kernel
theorem dL_value_25 : decode cL_value 25 = .ok (.iconst 0, 1) := by decide +kernel
theorem dL_value_26 : decode cL_value 26 = .ok (.ireturn, 1) := by decide +kernel
set_option maxRecDepth 20000 in
theorem ggL_first_X5_first : GoodIn wsL_first wsX5_first := goodIn_ca (goodIn_r _ [6, 7, 8, 9, 10, 5, 11, 12, 13, 14, 15, 16, 17, 18, 19, 20, 21, 22, 23, 24, 25, 26, 27, 28, 29, 30, 31, 32, 33, 34, 35, 36, 37, 38, 39, 40, 41, 42, 43, 44, 45, 46, 47, 48, 49, 50, 51, 52] (by decide +kernel) (by decide +kernel)) (goodIn_sub (fun _ h => List.mem_cons_of_mem _ (List.mem_append_right _ h)) (by decide +kernel))
set_option maxRecDepth 20000 in
theorem gL_first_X5_first : GoodIn wsL_first (wsV RL 50 RX5 yX5_first wsX5_first) := goodIn_app (goodIn_of _ (by decide +kernel)) ggL_first_X5_first
theorem dL_first_0 : decode cL_first 0 = .ok (.aload 4, 2) := by decide +kernel
theorem dL_first_2 : decode cL_first 2 = .ok (.iconst 0, 1) := by decide +kernel
theorem dL_first_3 : decode cL_first 3 = .ok (.aload_n 0, 1) := by decide +kernel
theorem dL_first_4 : decode cL_first 4 = .ok (.iload_n 1, 1) := by decide +kernel
theorem dL_first_5 : decode cL_first 5 = .ok (.iload_n 2, 1) := by decide +kernel
theorem dL_first_6 : decode cL_first 6 = .ok (.iload_n 3, 1) := by decide +kernel
theorem dL_first_7 : decode cL_first 7 = .ok (.invokevirtual 50, 3) := by decide +kernel
theorem dL_first_10 : decode cL_first 10 = .ok (.i2l, 1) := by decide +kernel
theorem dL_first_11 : decode cL_first 11 = .ok (.lastore, 1) := by decide +kernel
theorem dL_first_12 : decode cL_first 12 = .ok (.goto 7, 3) := by decide +kernel
theorem dL_first_15 : decode cL_first 15 = .ok (.astore 5, 2) := by decide +kernel
theorem dL_first_17 : decode cL_first 17 = .ok (.iconst 1, 1) := by decide +kernel
theorem dL_first_18 : decode cL_first 18 = .ok (.ireturn, 1) := by decide +kernel
theorem dL_first_19 : decode cL_first 19 = .ok (.iconst 0, 1) := by decide +kernel
theorem dL_first_20 : decode cL_first 20 = .ok (.ireturn, 1) := by decide +kernel
set_option maxRecDepth 20000 in
theorem ggL_revisions_X5_revisions : GoodIn wsL_revisions wsX5_revisions := goodIn_ca (goodIn_r _ [6, 7, 8, 9, 10, 5, 11, 12, 13, 14, 15, 16, 17, 18, 19, 20, 21, 22, 23, 24, 25, 26, 27, 28, 29, 30, 31, 32, 33, 34, 35, 36, 37, 38, 39, 40, 41, 42, 43, 44, 45, 46, 47, 48, 49, 50, 51, 52] (by decide +kernel) (by decide +kernel)) (goodIn_sub (fun _ h => List.mem_cons_of_mem _ (List.mem_append_right _ h)) (by decide +kernel))
set_option maxRecDepth 20000 in
theorem gL_revisions_X5_revisions : GoodIn wsL_revisions (wsV RL 54 RX5 yX5_revisions wsX5_revisions) := goodIn_app (goodIn_of _ (by decide +kernel)) ggL_revisions_X5_revisions
theorem dL_revisions_0 : decode cL_revisions 0 = .ok (.aload 4, 2) := by decide +kernel
theorem dL_revisions_2 : decode cL_revisions 2 = .ok (.iconst 0, 1) := by decide +kernel
theorem dL_revisions_3 : decode cL_revisions 3 = .ok (.aload_n 0, 1) := by decide +kernel
theorem dL_revisions_4 : decode cL_revisions 4 = .ok (.iload_n 1, 1) := by decide +kernel
theorem dL_revisions_5 : decode cL_revisions 5 = .ok (.iload_n 2, 1) := by decide +kernel
theorem dL_revisions_6 : decode cL_revisions 6 = .ok (.iload_n 3, 1) := by decide +kernel
theorem dL_revisions_7 : decode cL_revisions 7 = .ok (.invokevirtual 54, 3) := by decide +kernel
theorem dL_revisions_10 : decode cL_revisions 10 = .ok (.i2l, 1) := by decide +kernel
theorem dL_revisions_11 : decode cL_revisions 11 = .ok (.lastore, 1) := by decide +kernel
theorem dL_revisions_12 : decode cL_revisions 12 = .ok (.goto 7, 3) := by decide +kernel
theorem dL_revisions_15 : decode cL_revisions 15 = .ok (.astore 5, 2) := by decide +kernel
theorem dL_revisions_17 : decode cL_revisions 17 = .ok (.iconst 1, 1) := by decide +kernel
theorem dL_revisions_18 : decode cL_revisions 18 = .ok (.ireturn, 1) := by decide +kernel
theorem dL_revisions_19 : decode cL_revisions 19 = .ok (.iconst 0, 1) := by decide +kernel
theorem dL_revisions_20 : decode cL_revisions 20 = .ok (.ireturn, 1) := by decide +kernel
set_option maxRecDepth 20000 in
theorem ggL_hasFault_X5_hasFault : GoodIn wsL_hasFault wsX5_hasFault := goodIn_ca (goodIn_r _ [6, 7, 8, 9, 10, 11, 12, 13, 14, 15, 5, 16, 17, 18, 19, 20, 21, 22, 23, 24, 25, 26, 27, 28, 29, 30, 31, 32, 33, 34, 35, 36, 37, 38, 39, 40, 41, 42, 43, 44, 45, 46, 47, 48, 49, 50, 51, 52, 53, 54, 55, 56, 57, 58, 59, 60, 61, 62, 63, 64, 65, 66, 67, 68, 69, 70, 71, 72, 73, 74, 75, 76, 77, 78, 79, 80, 81, 82, 83, 84, 85, 86, 87, 88, 89, 90, 91, 92] (by decide +kernel) (by decide +kernel)) (goodIn_sub (fun _ h => List.mem_cons_of_mem _ (List.mem_append_right _ h)) (by decide +kernel))
set_option maxRecDepth 20000 in
theorem gL_hasFault_X5_hasFault : GoodIn wsL_hasFault (wsV RL 57 RX5 yX5_hasFault wsX5_hasFault) := goodIn_app (goodIn_of _ (by decide +kernel)) ggL_hasFault_X5_hasFault
theorem dL_hasFault_0 : decode cL_hasFault 0 = .ok (.aload 4, 2) := by decide +kernel
theorem dL_hasFault_2 : decode cL_hasFault 2 = .ok (.iconst 0, 1) := by decide +kernel
theorem dL_hasFault_3 : decode cL_hasFault 3 = .ok (.aload_n 0, 1) := by decide +kernel
theorem dL_hasFault_4 : decode cL_hasFault 4 = .ok (.iload_n 1, 1) := by decide +kernel
theorem dL_hasFault_5 : decode cL_hasFault 5 = .ok (.iload_n 2, 1) := by decide +kernel
theorem dL_hasFault_6 : decode cL_hasFault 6 = .ok (.iload_n 3, 1) := by decide +kernel
theorem dL_hasFault_7 : decode cL_hasFault 7 = .ok (.invokevirtual 57, 3) := by decide +kernel
theorem dL_hasFault_10 : decode cL_hasFault 10 = .ok (.ifCond .eq 7, 3) := by decide +kernel
theorem dL_hasFault_13 : decode cL_hasFault 13 = .ok (.lconst 1, 1) := by decide +kernel
theorem dL_hasFault_14 : decode cL_hasFault 14 = .ok (.goto 4, 3) := by decide +kernel
theorem dL_hasFault_17 : decode cL_hasFault 17 = .ok (.lconst 0, 1) := by decide +kernel
theorem dL_hasFault_18 : decode cL_hasFault 18 = .ok (.lastore, 1) := by decide +kernel
theorem dL_hasFault_19 : decode cL_hasFault 19 = .ok (.goto 7, 3) := by decide +kernel
theorem dL_hasFault_22 : decode cL_hasFault 22 = .ok (.astore 5, 2) := by decide +kernel
theorem dL_hasFault_24 : decode cL_hasFault 24 = .ok (.iconst 1, 1) := by decide +kernel
theorem dL_hasFault_25 : decode cL_hasFault 25 = .ok (.ireturn, 1) := by decide +kernel
theorem dL_hasFault_26 : decode cL_hasFault 26 = .ok (.iconst 0, 1) := by decide +kernel
theorem dL_hasFault_27 : decode cL_hasFault 27 = .ok (.ireturn, 1) := by decide +kernel
set_option maxRecDepth 20000 in
theorem ggL_shown_X5_shown : GoodIn wsL_shown wsX5_shown := goodIn_ca (goodIn_r _ [6, 7, 8, 9, 10, 11, 5, 12, 13, 14, 15, 16, 17, 18, 19, 20, 21, 22, 23, 24, 25, 26, 27, 28, 29, 30, 31, 32, 33, 34, 35, 36, 37, 38, 39, 40, 41, 42, 43, 44, 45, 46, 47, 48, 49, 50, 51, 52, 53, 54, 55, 56, 57, 58, 59, 60, 61, 62, 63, 64, 65, 66, 67, 68, 69, 70, 71, 72, 73, 74, 75, 76, 77, 78, 79, 80, 81, 82, 83, 84, 85, 86, 87, 88, 89, 90, 91, 92, 93, 94, 95, 96, 97, 98, 99, 100, 101, 102, 103, 104, 105, 106, 107, 108, 109, 110, 111, 112, 113, 114, 115, 116, 117, 118, 119, 120, 121, 122, 123, 124] (by decide +kernel) (by decide +kernel)) (goodIn_sub (fun _ h => List.mem_cons_of_mem _ (List.mem_append_right _ h)) (by decide +kernel))
set_option maxRecDepth 20000 in
theorem gL_shown_X5_shown : GoodIn wsL_shown (wsV RL 61 RX5 yX5_shown wsX5_shown) := goodIn_app (goodIn_of _ (by decide +kernel)) ggL_shown_X5_shown
theorem dL_shown_0 : decode cL_shown 0 = .ok (.aload 4, 2) := by decide +kernel
theorem dL_shown_2 : decode cL_shown 2 = .ok (.iconst 0, 1) := by decide +kernel
theorem dL_shown_3 : decode cL_shown 3 = .ok (.aload_n 0, 1) := by decide +kernel
theorem dL_shown_4 : decode cL_shown 4 = .ok (.iload_n 1, 1) := by decide +kernel
theorem dL_shown_5 : decode cL_shown 5 = .ok (.iload_n 2, 1) := by decide +kernel
theorem dL_shown_6 : decode cL_shown 6 = .ok (.iload_n 3, 1) := by decide +kernel
theorem dL_shown_7 : decode cL_shown 7 = .ok (.invokevirtual 61, 3) := by decide +kernel
theorem dL_shown_10 : decode cL_shown 10 = .ok (.i2l, 1) := by decide +kernel
theorem dL_shown_11 : decode cL_shown 11 = .ok (.lastore, 1) := by decide +kernel
theorem dL_shown_12 : decode cL_shown 12 = .ok (.goto 7, 3) := by decide +kernel
theorem dL_shown_15 : decode cL_shown 15 = .ok (.astore 5, 2) := by decide +kernel
theorem dL_shown_17 : decode cL_shown 17 = .ok (.iconst 1, 1) := by decide +kernel
theorem dL_shown_18 : decode cL_shown 18 = .ok (.ireturn, 1) := by decide +kernel
theorem dL_shown_19 : decode cL_shown 19 = .ok (.iconst 0, 1) := by decide +kernel
theorem dL_shown_20 : decode cL_shown 20 = .ok (.ireturn, 1) := by decide +kernel
set_option maxRecDepth 20000 in
theorem ggL_hidden_X5_hidden : GoodIn wsL_hidden wsX5_hidden := goodIn_ca (goodIn_r _ [6, 7, 8, 9, 10, 11, 5, 12, 13, 14, 15, 16, 17, 18, 19, 20, 21, 22, 23, 24, 25, 26, 27, 28, 29, 30, 31, 32, 33, 34, 35, 36, 37, 38, 39, 40, 41, 42, 43, 44, 45, 46, 47, 48, 49, 50, 51, 52, 53, 54, 55, 56, 57, 58, 59, 60, 61, 62, 63, 64, 65, 66, 67, 68, 69, 70, 71, 72, 73, 74, 75, 76, 77, 78, 79, 80, 81, 82, 83, 84, 85, 86, 87, 88, 89, 90, 91, 92, 93, 94, 95, 96, 97, 98, 99, 100, 101, 102, 103, 104, 105, 106, 107, 108, 109, 110, 111, 112, 113] (by decide +kernel) (by decide +kernel)) (goodIn_sub (fun _ h => List.mem_cons_of_mem _ (List.mem_append_right _ h)) (by decide +kernel))
set_option maxRecDepth 20000 in
theorem gL_hidden_X5_hidden : GoodIn wsL_hidden (wsV RL 64 RX5 yX5_hidden wsX5_hidden) := goodIn_app (goodIn_of _ (by decide +kernel)) ggL_hidden_X5_hidden
theorem dL_hidden_0 : decode cL_hidden 0 = .ok (.aload_n 2, 1) := by decide +kernel
theorem dL_hidden_1 : decode cL_hidden 1 = .ok (.iconst 0, 1) := by decide +kernel
theorem dL_hidden_2 : decode cL_hidden 2 = .ok (.aload_n 0, 1) := by decide +kernel
theorem dL_hidden_3 : decode cL_hidden 3 = .ok (.iload_n 1, 1) := by decide +kernel
theorem dL_hidden_4 : decode cL_hidden 4 = .ok (.invokevirtual 64, 3) := by decide +kernel
theorem dL_hidden_7 : decode cL_hidden 7 = .ok (.i2l, 1) := by decide +kernel
theorem dL_hidden_8 : decode cL_hidden 8 = .ok (.lastore, 1) := by decide +kernel
theorem dL_hidden_9 : decode cL_hidden 9 = .ok (.goto 6, 3) := by decide +kernel
theorem dL_hidden_12 : decode cL_hidden 12 = .ok (.astore_n 3, 1) := by decide +kernel
theorem dL_hidden_13 : decode cL_hidden 13 = .ok (.iconst 1, 1) := by decide +kernel
theorem dL_hidden_14 : decode cL_hidden 14 = .ok (.ireturn, 1) := by decide +kernel
theorem dL_hidden_15 : decode cL_hidden 15 = .ok (.iconst 0, 1) := by decide +kernel
theorem dL_hidden_16 : decode cL_hidden 16 = .ok (.ireturn, 1) := by decide +kernel
set_option maxRecDepth 20000 in
theorem ggL_find_X5_find : GoodIn wsL_find wsX5_find := goodIn_ca (goodIn_ca (goodIn_r _ [7, 8, 9, 10, 11, 12, 13, 14, 15, 6, 16, 17, 18, 19, 20, 21, 22, 23, 24, 25, 26, 27, 28, 29, 30, 31, 32, 33, 34, 35, 36, 37, 38, 39, 40, 41, 42, 43, 44, 45, 46, 47, 48, 49, 50, 51, 52, 53, 54, 55, 56, 57, 58, 59, 60, 61, 62, 63, 64, 65, 66, 67, 68, 69, 70, 71, 72] (by decide +kernel) (by decide +kernel)) (goodIn_sub (fun _ h => List.mem_cons_of_mem _ (List.mem_append_left _ (List.mem_append_right _ h))) (by decide +kernel))) (goodIn_sub (fun _ h => List.mem_cons_of_mem _ (List.mem_append_right _ h)) (by decide +kernel))
set_option maxRecDepth 20000 in
theorem gL_find_X5_find : GoodIn wsL_find (wsV RL 67 RX5 yX5_find wsX5_find) := goodIn_app (goodIn_of _ (by decide +kernel)) ggL_find_X5_find
theorem dL_find_0 : decode cL_find 0 = .ok (.aload 7, 2) := by decide +kernel
theorem dL_find_2 : decode cL_find 2 = .ok (.iconst 0, 1) := by decide +kernel
theorem dL_find_3 : decode cL_find 3 = .ok (.aload_n 0, 1) := by decide +kernel
theorem dL_find_4 : decode cL_find 4 = .ok (.iload_n 1, 1) := by decide +kernel
theorem dL_find_5 : decode cL_find 5 = .ok (.iload_n 2, 1) := by decide +kernel
theorem dL_find_6 : decode cL_find 6 = .ok (.iload_n 3, 1) := by decide +kernel
theorem dL_find_7 : decode cL_find 7 = .ok (.iload 4, 2) := by decide +kernel
theorem dL_find_9 : decode cL_find 9 = .ok (.iload 5, 2) := by decide +kernel
theorem dL_find_11 : decode cL_find 11 = .ok (.iload 6, 2) := by decide +kernel
theorem dL_find_13 : decode cL_find 13 = .ok (.invokevirtual 67, 3) := by decide +kernel
theorem dL_find_16 : decode cL_find 16 = .ok (.i2l, 1) := by decide +kernel
theorem dL_find_17 : decode cL_find 17 = .ok (.lastore, 1) := by decide +kernel
theorem dL_find_18 : decode cL_find 18 = .ok (.goto 11, 3) := by decide +kernel
theorem dL_find_21 : decode cL_find 21 = .ok (.astore 8, 2) := by decide +kernel
theorem dL_find_23 : decode cL_find 23 = .ok (.iconst 1, 1) := by decide +kernel
theorem dL_find_24 : decode cL_find 24 = .ok (.ireturn, 1) := by decide +kernel
theorem dL_find_25 : decode cL_find 25 = .ok (.astore 8, 2) := by decide +kernel
theorem dL_find_27 : decode cL_find 27 = .ok (.iconst 2, 1) := by decide +kernel
theorem dL_find_28 : decode cL_find 28 = .ok (.ireturn, 1) := by decide +kernel
theorem dL_find_29 : decode cL_find 29 = .ok (.iconst 0, 1) := by decide +kernel
theorem dL_find_30 : decode cL_find 30 = .ok (.ireturn, 1) := by decide +kernel
set_option maxRecDepth 20000 in
theorem ggL_mayTell_X5_mayTell : GoodIn wsL_mayTell wsX5_mayTell := goodIn_ca (goodIn_r _ [6, 7, 8, 9, 10, 5, 11, 12, 13, 14, 15, 16, 17, 18, 19, 20, 21, 22, 23, 24, 25, 26, 27, 28, 29, 30, 31, 32, 33, 34, 35, 36, 37, 38, 39, 40, 41, 42, 43, 44, 45, 46, 47, 48, 49, 50] (by decide +kernel) (by decide +kernel)) (goodIn_sub (fun _ h => List.mem_cons_of_mem _ (List.mem_append_right _ h)) (by decide +kernel))
set_option maxRecDepth 20000 in
theorem gL_mayTell_X5_mayTell : GoodIn wsL_mayTell (wsV RL 71 RX5 yX5_mayTell wsX5_mayTell) := goodIn_app (goodIn_of _ (by decide +kernel)) ggL_mayTell_X5_mayTell
theorem dL_mayTell_0 : decode cL_mayTell 0 = .ok (.aload_n 3, 1) := by decide +kernel
theorem dL_mayTell_1 : decode cL_mayTell 1 = .ok (.iconst 0, 1) := by decide +kernel
theorem dL_mayTell_2 : decode cL_mayTell 2 = .ok (.aload_n 0, 1) := by decide +kernel
theorem dL_mayTell_3 : decode cL_mayTell 3 = .ok (.iload_n 1, 1) := by decide +kernel
theorem dL_mayTell_4 : decode cL_mayTell 4 = .ok (.iload_n 2, 1) := by decide +kernel
theorem dL_mayTell_5 : decode cL_mayTell 5 = .ok (.invokevirtual 71, 3) := by decide +kernel
theorem dL_mayTell_8 : decode cL_mayTell 8 = .ok (.ifCond .eq 7, 3) := by decide +kernel
theorem dL_mayTell_11 : decode cL_mayTell 11 = .ok (.lconst 1, 1) := by decide +kernel
theorem dL_mayTell_12 : decode cL_mayTell 12 = .ok (.goto 4, 3) := by decide +kernel
theorem dL_mayTell_15 : decode cL_mayTell 15 = .ok (.lconst 0, 1) := by decide +kernel
theorem dL_mayTell_16 : decode cL_mayTell 16 = .ok (.lastore, 1) := by decide +kernel
theorem dL_mayTell_17 : decode cL_mayTell 17 = .ok (.goto 7, 3) := by decide +kernel
theorem dL_mayTell_20 : decode cL_mayTell 20 = .ok (.astore 4, 2) := by decide +kernel
theorem dL_mayTell_22 : decode cL_mayTell 22 = .ok (.iconst 1, 1) := by decide +kernel
theorem dL_mayTell_23 : decode cL_mayTell 23 = .ok (.ireturn, 1) := by decide +kernel
theorem dL_mayTell_24 : decode cL_mayTell 24 = .ok (.iconst 0, 1) := by decide +kernel
theorem dL_mayTell_25 : decode cL_mayTell 25 = .ok (.ireturn, 1) := by decide +kernel
set_option maxRecDepth 20000 in
theorem ggL_law_X5_init : GoodIn wsL_law wsX5_init := goodIn_r _ [9, 10, 11, 12, 13, 14, 15, 16, 17, 18, 19, 20, 21, 22, 23, 24, 25, 26, 27, 28, 29, 30, 31, 32, 33, 34, 35, 36, 37, 38, 39, 40, 41, 42, 43, 44, 45, 46, 47, 48, 49, 50, 51, 52, 53, 54, 55, 56, 57, 58, 59, 60, 61, 62, 63, 64, 65, 66, 67, 68, 69, 70, 71, 72, 73, 74, 75, 584, 585, 586, 552, 553, 554, 555, 556, 557, 558, 559, 560, 561, 562, 587, 588, 589, 590, 591, 592, 593, 594, 595, 596, 597, 598, 599, 600, 601, 602] (by decide +kernel) (by decide +kernel)
set_option maxRecDepth 20000 in
theorem gL_law_X5_init : GoodIn wsL_law (wsX5_init) := ggL_law_X5_init
set_option maxRecDepth 20000 in
theorem ggL_law_X6_init : GoodIn wsL_law wsX6_init := goodIn_r _ [78, 79, 11, 12, 36, 80, 81, 34, 82, 83, 84, 85, 86, 87, 88, 89, 90, 91, 92, 563, 564, 565, 566, 567, 568, 569, 570, 571, 572, 573, 574, 575, 576, 577, 578, 579, 580, 581, 582, 583] (by decide +kernel) (by decide +kernel)
set_option maxRecDepth 20000 in
theorem gL_law_X6_init : GoodIn wsL_law (wsX6_init) := ggL_law_X6_init
set_option maxRecDepth 20000 in
theorem ggL_law_L_area : GoodIn wsL_law wsL_area := goodIn_ca (goodIn_ca (goodIn_r _ [96, 97, 98, 99, 100, 101, 2, 102, 16, 103, 104, 105, 106, 107, 108, 109, 110, 15, 111, 112, 113, 114, 115, 116, 117, 118, 119, 120, 121, 42, 122, 123, 124, 125, 552, 553, 554, 555, 556, 557, 558, 559, 560, 561, 562, 584, 585, 586] (by decide +kernel) (by decide +kernel)) (goodIn_sub (fun _ h => List.mem_append_left _ (List.mem_append_left _ (List.mem_append_right _ h))) (by decide +kernel))) (goodIn_sub (fun _ h => List.mem_append_left _ (List.mem_append_right _ h)) (by decide +kernel))
set_option maxRecDepth 20000 in
theorem gL_law_L_area : GoodIn wsL_law (va_wsS RL 79 yL_area wsL_area) := goodIn_app (goodIn_of _ (by decide +kernel)) ggL_law_L_area
set_option maxRecDepth 20000 in
theorem ggL_law_X6_area : GoodIn wsL_law wsX6_area := goodIn_r _ [129, 130, 131, 80, 132, 133, 134, 5, 135, 136, 137, 138, 563, 564, 565, 566, 567, 568, 569, 570, 571, 572, 573, 574, 575, 576, 577, 578, 579, 580, 581, 582, 583] (by decide +kernel) (by decide +kernel)
set_option maxRecDepth 20000 in
theorem gL_law_X6_area : GoodIn wsL_law (wsV RL 84 RX6 yX6_area wsX6_area) := goodIn_app (goodIn_of _ (by decide +kernel)) ggL_law_X6_area
set_option maxRecDepth 20000 in
theorem ggL_law_X6_thrown : GoodIn wsL_law wsX6_thrown := goodIn_r _ [142, 131, 563, 564, 565, 566, 567, 568, 569, 570, 571, 572, 573, 574, 575, 576, 577, 578, 579, 580, 581, 582, 583] (by decide +kernel) (by decide +kernel)
set_option maxRecDepth 20000 in
theorem gL_law_X6_thrown : GoodIn wsL_law (wsV RL 85 RX6 yX6_thrown wsX6_thrown) := goodIn_app (goodIn_of _ (by decide +kernel)) ggL_law_X6_thrown
set_option maxRecDepth 20000 in
theorem ggL_law_L_item : GoodIn wsL_law wsL_item := goodIn_ca (goodIn_ca (goodIn_r _ [145, 97, 98, 146, 147, 148, 2, 149, 17, 103, 104, 105, 106, 107, 108, 109, 110, 15, 111, 112, 113, 114, 115, 116, 117, 118, 119, 120, 121, 42, 122, 123, 124, 125, 552, 553, 554, 555, 556, 557, 558, 559, 560, 561, 562, 584, 585, 586] (by decide +kernel) (by decide +kernel)) (goodIn_sub (fun _ h => List.mem_append_left _ (List.mem_append_left _ (List.mem_append_right _ h))) (by decide +kernel))) (goodIn_sub (fun _ h => List.mem_append_left _ (List.mem_append_right _ h)) (by decide +kernel))
set_option maxRecDepth 20000 in
theorem gL_law_L_item : GoodIn wsL_law (va_wsS RL 89 yL_item wsL_item) := goodIn_app (goodIn_of _ (by decide +kernel)) ggL_law_L_item
set_option maxRecDepth 20000 in
theorem ggL_law_X6_item : GoodIn wsL_law wsX6_item := goodIn_r _ [153, 154, 131, 81, 155, 156, 157, 5, 158, 136, 137, 138, 563, 564, 565, 566, 567, 568, 569, 570, 571, 572, 573, 574, 575, 576, 577, 578, 579, 580, 581, 582, 583] (by decide +kernel) (by decide +kernel)
set_option maxRecDepth 20000 in
theorem gL_law_X6_item : GoodIn wsL_law (wsV RL 91 RX6 yX6_item wsX6_item) := goodIn_app (goodIn_of _ (by decide +kernel)) ggL_law_X6_item
set_option maxRecDepth 20000 in
theorem ggL_law_L_agree : GoodIn wsL_law wsL_agree := goodIn_ca (goodIn_r _ [161, 97, 162, 163, 164, 2, 165, 21, 166, 167, 168, 106, 107, 169, 170, 171, 172, 16, 108, 109, 110, 15, 111, 112, 173, 174, 175, 20, 176, 47, 552, 553, 554, 555, 556, 557, 558, 559, 560, 561, 562, 584, 585, 586, 587] (by decide +kernel) (by decide +kernel)) (goodIn_sub (fun _ h => List.mem_append_left _ (List.mem_append_left _ (List.mem_append_right _ h))) (by decide +kernel))
set_option maxRecDepth 20000 in
theorem gL_law_L_agree : GoodIn wsL_law (va_wsS RL 92 yL_agree wsL_agree) := goodIn_app (goodIn_of _ (by decide +kernel)) ggL_law_L_agree
set_option maxRecDepth 20000 in
theorem ggL_law_X6_agree : GoodIn wsL_law wsX6_agree := goodIn_r _ [180, 131, 82, 181, 182, 5, 183, 136, 137, 138, 132, 133, 134, 135, 130, 563, 564, 565, 566, 567, 568, 569, 570, 571, 572, 573, 574, 575, 576, 577, 578, 579, 580, 581, 582, 583] (by decide +kernel) (by decide +kernel)
set_option maxRecDepth 20000 in
theorem gL_law_X6_agree : GoodIn wsL_law (wsV RL 95 RX6 yX6_agree wsX6_agree) := goodIn_app (goodIn_of _ (by decide +kernel)) ggL_law_X6_agree
set_option maxRecDepth 20000 in
theorem ggL_law_L_put : GoodIn wsL_law wsL_put := goodIn_ca (goodIn_ca (goodIn_ca (goodIn_r _ [186, 97, 187, 98, 188, 189, 190, 2, 191, 192, 193, 116, 117, 194, 195, 25, 196, 197, 198, 199, 106, 107, 16, 17, 108, 109, 110, 15, 111, 112, 200, 201, 202, 203, 204, 205, 206, 207, 208, 209, 210, 211, 24, 212, 213, 214, 215, 216, 217, 51, 52, 53, 54, 552, 553, 554, 555, 556, 557, 558, 559, 560, 561, 562, 584, 585, 586, 588, 589, 590, 591, 592] (by decide +kernel) (by decide +kernel)) (goodIn_sub (fun _ h => List.mem_append_right _ h) (by decide +kernel))) (goodIn_sub (fun _ h => List.mem_append_left _ (List.mem_append_right _ h)) (by decide +kernel))) (goodIn_sub (fun _ h => List.mem_append_left _ (List.mem_append_left _ (List.mem_append_right _ h))) (by decide +kernel))
set_option maxRecDepth 20000 in
theorem gL_law_L_put : GoodIn wsL_law (va_wsS RL 96 yL_put wsL_put) := goodIn_app (goodIn_of _ (by decide +kernel)) ggL_law_L_put
set_option maxRecDepth 20000 in
theorem ggL_law_X6_put : GoodIn wsL_law wsX6_put := goodIn_r _ [221, 222, 223, 224, 131, 83, 84, 85, 225, 226, 227, 5, 228, 132, 133, 134, 135, 130, 136, 137, 138, 155, 156, 157, 158, 154, 229, 230, 231, 563, 564, 565, 566, 567, 568, 569, 570, 571, 572, 573, 574, 575, 576, 577, 578, 579, 580, 581, 582, 583] (by decide +kernel) (by decide +kernel)
set_option maxRecDepth 20000 in
theorem gL_law_X6_put : GoodIn wsL_law (wsV RL 99 RX6 yX6_put wsX6_put) := goodIn_app (goodIn_of _ (by decide +kernel)) ggL_law_X6_put
set_option maxRecDepth 20000 in
theorem ggL_law_X5_wipe : GoodIn wsL_law wsX5_wipe := goodIn_r _ [235, 25, 236, 237, 238, 24, 239, 213, 552, 553, 554, 555, 556, 557, 558, 559, 560, 561, 562, 588, 589, 590, 591, 592] (by decide +kernel) (by decide +kernel)
set_option maxRecDepth 20000 in
theorem gL_law_X5_wipe : GoodIn wsL_law (wsV RL 100 RX5 yX5_wipe wsX5_wipe) := goodIn_app (goodIn_of _ (by decide +kernel)) ggL_law_X5_wipe
set_option maxRecDepth 20000 in
theorem ggL_law_X6_wipe : GoodIn wsL_law wsX6_wipe := goodIn_r _ [243, 131, 224, 563, 564, 565, 566, 567, 568, 569, 570, 571, 572, 573, 574, 575, 576, 577, 578, 579, 580, 581, 582, 583] (by decide +kernel) (by decide +kernel)
set_option maxRecDepth 20000 in
theorem gL_law_X6_wipe : GoodIn wsL_law (wsV RL 103 RX6 yX6_wipe wsX6_wipe) := goodIn_app (goodIn_of _ (by decide +kernel)) ggL_law_X6_wipe
set_option maxRecDepth 20000 in
theorem ggL_law_L_send : GoodIn wsL_law wsL_send := goodIn_ca (goodIn_ca (goodIn_r _ [246, 97, 98, 247, 248, 249, 2, 250, 116, 117, 25, 251, 166, 167, 168, 106, 107, 252, 253, 254, 255, 37, 29, 256, 257, 258, 259, 260, 261, 21, 16, 262, 263, 264, 265, 20, 266, 47, 267, 268, 269, 15, 270, 112, 42, 271, 109, 110, 111, 272, 273, 274, 24, 275, 51, 276, 54, 277, 278, 279, 28, 280, 281, 63, 64, 65, 61, 60, 59, 62, 236, 237, 238, 239, 213, 552, 553, 554, 555, 556, 557, 558, 559, 560, 561, 562, 588, 589, 590, 591, 592, 593, 594, 595, 596, 597, 598, 599, 600, 584, 585, 586, 587] (by decide +kernel) (by decide +kernel)) (goodIn_sub (fun _ h => List.mem_append_left _ (List.mem_append_right _ h)) (by decide +kernel))) (goodIn_sub (fun _ h => List.mem_append_left _ (List.mem_append_left _ (List.mem_append_right _ h))) (by decide +kernel))
set_option maxRecDepth 20000 in
theorem gL_law_L_send : GoodIn wsL_law (va_wsS RL 104 yL_send wsL_send) := goodIn_app (goodIn_of _ (by decide +kernel)) ggL_law_L_send
set_option maxRecDepth 20000 in
theorem ggL_law_X6_send : GoodIn wsL_law wsX6_send := goodIn_r _ [285, 224, 286, 131, 86, 87, 287, 84, 88, 288, 89, 83, 289, 85, 290, 181, 182, 5, 183, 136, 137, 138, 291, 292, 293, 294, 295, 296, 297, 298, 299, 300, 301, 302, 82, 80, 563, 564, 565, 566, 567, 568, 569, 570, 571, 572, 573, 574, 575, 576, 577, 578, 579, 580, 581, 582, 583] (by decide +kernel) (by decide +kernel)
set_option maxRecDepth 20000 in
theorem gL_law_X6_send : GoodIn wsL_law (wsV RL 106 RX6 yX6_send wsX6_send) := goodIn_app (goodIn_of _ (by decide +kernel)) ggL_law_X6_send
set_option maxRecDepth 20000 in
theorem ggL_law_L_refusal : GoodIn wsL_law wsL_refusal := goodIn_ca (goodIn_r _ [305, 97, 306, 307, 308, 2, 309, 106, 107, 257, 37, 552, 553, 554, 555, 556, 557, 558, 559, 560, 561, 562] (by decide +kernel) (by decide +kernel)) (goodIn_sub (fun _ h => List.mem_append_left _ (List.mem_append_left _ (List.mem_append_right _ h))) (by decide +kernel))
set_option maxRecDepth 20000 in
theorem gL_law_L_refusal : GoodIn wsL_law (va_wsS RL 107 yL_refusal wsL_refusal) := goodIn_app (goodIn_of _ (by decide +kernel)) ggL_law_L_refusal
set_option maxRecDepth 20000 in
theorem ggL_law_X6_refusal : GoodIn wsL_law wsX6_refusal := goodIn_r _ [313, 290, 131, 86, 136, 137, 5, 138, 563, 564, 565, 566, 567, 568, 569, 570, 571, 572, 573, 574, 575, 576, 577, 578, 579, 580, 581, 582, 583] (by decide +kernel) (by decide +kernel)
set_option maxRecDepth 20000 in
theorem gL_law_X6_refusal : GoodIn wsL_law (wsV RL 109 RX6 yX6_refusal wsX6_refusal) := goodIn_app (goodIn_of _ (by decide +kernel)) ggL_law_X6_refusal
set_option maxRecDepth 20000 in
theorem ggL_law_L_secret : GoodIn wsL_law wsL_secret := goodIn_ca (goodIn_r _ [316, 97, 317, 318, 319, 2, 320, 35, 33, 196, 197, 198, 199, 106, 107, 16, 17, 108, 109, 110, 15, 111, 112, 200, 201, 202, 203, 204, 205, 206, 207, 208, 321, 322, 323, 324, 29, 256, 325, 326, 327, 32, 328, 74, 329, 330, 331, 332, 333, 334, 68, 69, 70, 335, 336, 337, 338, 339, 340, 341, 342, 42, 343, 344, 345, 346, 347, 348, 349, 350, 351, 352, 353, 75, 354, 355, 356, 357, 358, 359, 360, 361, 362, 363, 364, 365, 366, 367, 368, 369, 370, 371, 372, 373, 374, 375, 376, 377, 378, 379, 380, 381, 552, 553, 554, 555, 556, 557, 558, 559, 560, 561, 562, 584, 585, 586, 601, 602, 593, 594, 595, 596, 597, 598, 599, 600] (by decide +kernel) (by decide +kernel)) (goodIn_sub (fun _ h => List.mem_append_left _ (List.mem_append_left _ (List.mem_append_right _ h))) (by decide +kernel))
set_option maxRecDepth 20000 in
theorem gL_law_L_secret : GoodIn wsL_law (va_wsS RL 110 yL_secret wsL_secret) := goodIn_app (goodIn_of _ (by decide +kernel)) ggL_law_L_secret
set_option maxRecDepth 20000 in
theorem ggL_law_X6_secret : GoodIn wsL_law wsX6_secret := goodIn_r _ [385, 131, 90, 225, 226, 227, 5, 228, 132, 133, 134, 135, 130, 136, 137, 138, 155, 156, 157, 158, 154, 229, 230, 231, 386, 387, 388, 389, 288, 92, 91, 289, 390, 391, 392, 393, 295, 296, 297, 298, 287, 87, 88, 89, 394, 395, 396, 397, 81, 80, 398, 399, 400, 401, 402, 403, 404, 405, 406, 407, 408, 563, 564, 565, 566, 567, 568, 569, 570, 571, 572, 573, 574, 575, 576, 577, 578, 579, 580, 581, 582, 583] (by decide +kernel) (by decide +kernel)
set_option maxRecDepth 20000 in
theorem gL_law_X6_secret : GoodIn wsL_law (wsV RL 113 RX6 yX6_secret wsX6_secret) := goodIn_app (goodIn_of _ (by decide +kernel)) ggL_law_X6_secret
set_option maxRecDepth 20000 in
theorem ggL_law_L_pass : GoodIn wsL_law wsL_pass := goodIn_ca (goodIn_ca (goodIn_r _ [411, 187, 98, 412, 413, 414, 2, 415, 192, 193, 116, 117, 256, 552, 553, 554, 555, 556, 557, 558, 559, 560, 561, 562] (by decide +kernel) (by decide +kernel)) (goodIn_sub (fun _ h => List.mem_append_right _ h) (by decide +kernel))) (goodIn_sub (fun _ h => List.mem_append_left _ (List.mem_append_right _ h)) (by decide +kernel))
set_option maxRecDepth 20000 in
theorem gL_law_L_pass : GoodIn wsL_law (va_wsS RL 114 yL_pass wsL_pass) := goodIn_app (goodIn_of _ (by decide +kernel)) ggL_law_L_pass
set_option maxRecDepth 20000 in
theorem ggL_law_X6_pass : GoodIn wsL_law wsX6_pass := goodIn_r _ [419, 288, 131, 136, 137, 5, 138, 563, 564, 565, 566, 567, 568, 569, 570, 571, 572, 573, 574, 575, 576, 577, 578, 579, 580, 581, 582, 583] (by decide +kernel) (by decide +kernel)
set_option maxRecDepth 20000 in
theorem gL_law_X6_pass : GoodIn wsL_law (wsV RL 116 RX6 yX6_pass wsX6_pass) := goodIn_app (goodIn_of _ (by decide +kernel)) ggL_law_X6_pass
set_option maxRecDepth 20000 in
theorem ggL_law_L_figure : GoodIn wsL_law wsL_figure := goodIn_ca (goodIn_ca (goodIn_r _ [422, 97, 187, 423, 424, 425, 2, 426, 29, 196, 197, 198, 199, 106, 107, 16, 17, 108, 109, 110, 15, 111, 112, 200, 201, 202, 203, 204, 205, 206, 207, 208, 427, 428, 429, 430, 192, 193, 256, 431, 432, 433, 28, 434, 281, 63, 64, 65, 66, 552, 553, 554, 555, 556, 557, 558, 559, 560, 561, 562, 584, 585, 586, 593, 594, 595, 596, 597, 598, 599, 600] (by decide +kernel) (by decide +kernel)) (goodIn_sub (fun _ h => List.mem_append_left _ (List.mem_append_left _ (List.mem_append_right _ h))) (by decide +kernel))) (goodIn_sub (fun _ h => List.mem_append_right _ h) (by decide +kernel))
set_option maxRecDepth 20000 in
theorem gL_law_L_figure : GoodIn wsL_law (va_wsS RL 117 yL_figure wsL_figure) := goodIn_app (goodIn_of _ (by decide +kernel)) ggL_law_L_figure
set_option maxRecDepth 20000 in
theorem ggL_law_X6_figure : GoodIn wsL_law wsX6_figure := goodIn_r _ [438, 288, 131, 225, 226, 227, 5, 228, 132, 133, 134, 135, 130, 136, 137, 138, 155, 156, 157, 158, 154, 229, 230, 231, 295, 296, 297, 298, 289, 287, 87, 88, 89, 563, 564, 565, 566, 567, 568, 569, 570, 571, 572, 573, 574, 575, 576, 577, 578, 579, 580, 581, 582, 583] (by decide +kernel) (by decide +kernel)
set_option maxRecDepth 20000 in
theorem gL_law_X6_figure : GoodIn wsL_law (wsV RL 120 RX6 yX6_figure wsX6_figure) := goodIn_app (goodIn_of _ (by decide +kernel)) ggL_law_X6_figure
set_option maxRecDepth 20000 in
theorem ggL_law_L_value : GoodIn wsL_law wsL_value := goodIn_ca (goodIn_ca (goodIn_r _ [441, 97, 187, 442, 443, 444, 2, 445, 33, 29, 16, 17, 196, 197, 198, 199, 106, 107, 108, 109, 110, 15, 111, 112, 200, 201, 202, 203, 204, 205, 206, 207, 208, 427, 428, 429, 430, 192, 193, 256, 325, 326, 327, 32, 328, 74, 329, 330, 331, 332, 333, 334, 68, 69, 70, 335, 336, 337, 338, 339, 340, 341, 342, 42, 343, 344, 345, 346, 347, 348, 349, 446, 552, 553, 554, 555, 556, 557, 558, 559, 560, 561, 562, 584, 585, 586, 601, 602, 593, 594, 595, 596, 597, 598, 599, 600] (by decide +kernel) (by decide +kernel)) (goodIn_sub (fun _ h => List.mem_append_left _ (List.mem_append_left _ (List.mem_append_right _ h))) (by decide +kernel))) (goodIn_sub (fun _ h => List.mem_append_right _ h) (by decide +kernel))
set_option maxRecDepth 20000 in
theorem gL_law_L_value : GoodIn wsL_law (va_wsS RL 121 yL_value wsL_value) := goodIn_app (goodIn_of _ (by decide +kernel)) ggL_law_L_value
set_option maxRecDepth 20000 in
theorem ggL_law_X6_value : GoodIn wsL_law wsX6_value := goodIn_r _ [450, 288, 131, 91, 225, 226, 227, 5, 228, 132, 133, 134, 135, 130, 136, 137, 138, 155, 156, 157, 158, 154, 390, 391, 392, 393, 289, 229, 230, 231, 295, 296, 297, 298, 287, 87, 88, 89, 394, 395, 396, 397, 81, 80, 563, 564, 565, 566, 567, 568, 569, 570, 571, 572, 573, 574, 575, 576, 577, 578, 579, 580, 581, 582, 583] (by decide +kernel) (by decide +kernel)
set_option maxRecDepth 20000 in
theorem gL_law_X6_value : GoodIn wsL_law (wsV RL 123 RX6 yX6_value wsX6_value) := goodIn_app (goodIn_of _ (by decide +kernel)) ggL_law_X6_value
set_option maxRecDepth 20000 in
theorem ggL_law_L_first : GoodIn wsL_law wsL_first := goodIn_ca (goodIn_r _ [453, 97, 454, 455, 456, 2, 457, 29, 196, 197, 198, 199, 106, 107, 16, 17, 108, 109, 110, 15, 111, 112, 200, 201, 202, 203, 204, 205, 206, 207, 208, 552, 553, 554, 555, 556, 557, 558, 559, 560, 561, 562, 593, 594, 595, 596, 597, 598, 599, 600, 584, 585, 586] (by decide +kernel) (by decide +kernel)) (goodIn_sub (fun _ h => List.mem_append_left _ (List.mem_append_left _ (List.mem_append_right _ h))) (by decide +kernel))
set_option maxRecDepth 20000 in
theorem gL_law_L_first : GoodIn wsL_law (va_wsS RL 124 yL_first wsL_first) := goodIn_app (goodIn_of _ (by decide +kernel)) ggL_law_L_first
set_option maxRecDepth 20000 in
theorem ggL_law_X6_first : GoodIn wsL_law wsX6_first := goodIn_r _ [461, 131, 287, 87, 89, 289, 225, 226, 227, 5, 228, 132, 133, 134, 135, 130, 136, 137, 138, 155, 156, 157, 158, 154, 229, 230, 231, 563, 564, 565, 566, 567, 568, 569, 570, 571, 572, 573, 574, 575, 576, 577, 578, 579, 580, 581, 582, 583] (by decide +kernel) (by decide +kernel)
set_option maxRecDepth 20000 in
theorem gL_law_X6_first : GoodIn wsL_law (wsV RL 127 RX6 yX6_first wsX6_first) := goodIn_app (goodIn_of _ (by decide +kernel)) ggL_law_X6_first
set_option maxRecDepth 20000 in
theorem ggL_law_L_revisions : GoodIn wsL_law wsL_revisions := goodIn_ca (goodIn_r _ [464, 97, 465, 466, 467, 2, 468, 29, 196, 197, 198, 199, 106, 107, 16, 17, 108, 109, 110, 15, 111, 112, 200, 201, 202, 203, 204, 205, 206, 207, 208, 552, 553, 554, 555, 556, 557, 558, 559, 560, 561, 562, 593, 594, 595, 596, 597, 598, 599, 600, 584, 585, 586] (by decide +kernel) (by decide +kernel)) (goodIn_sub (fun _ h => List.mem_append_left _ (List.mem_append_left _ (List.mem_append_right _ h))) (by decide +kernel))
set_option maxRecDepth 20000 in
theorem gL_law_L_revisions : GoodIn wsL_law (va_wsS RL 128 yL_revisions wsL_revisions) := goodIn_app (goodIn_of _ (by decide +kernel)) ggL_law_L_revisions
set_option maxRecDepth 20000 in
theorem ggL_law_X6_revisions : GoodIn wsL_law wsX6_revisions := goodIn_r _ [472, 131, 287, 87, 225, 226, 227, 5, 228, 132, 133, 134, 135, 130, 136, 137, 138, 155, 156, 157, 158, 154, 229, 230, 231, 563, 564, 565, 566, 567, 568, 569, 570, 571, 572, 573, 574, 575, 576, 577, 578, 579, 580, 581, 582, 583] (by decide +kernel) (by decide +kernel)
set_option maxRecDepth 20000 in
theorem gL_law_X6_revisions : GoodIn wsL_law (wsV RL 130 RX6 yX6_revisions wsX6_revisions) := goodIn_app (goodIn_of _ (by decide +kernel)) ggL_law_X6_revisions
set_option maxRecDepth 20000 in
theorem ggL_law_L_hasFault : GoodIn wsL_law wsL_hasFault := goodIn_ca (goodIn_r _ [475, 97, 476, 477, 478, 2, 479, 29, 262, 33, 256, 16, 17, 196, 197, 198, 199, 106, 107, 108, 109, 110, 15, 111, 112, 200, 201, 202, 203, 204, 205, 206, 207, 208, 325, 326, 327, 32, 328, 74, 329, 330, 331, 332, 333, 334, 68, 69, 70, 335, 336, 337, 338, 339, 340, 341, 342, 42, 343, 344, 345, 346, 347, 348, 349, 480, 481, 482, 483, 552, 553, 554, 555, 556, 557, 558, 559, 560, 561, 562, 593, 594, 595, 596, 597, 598, 599, 600, 584, 585, 586, 601, 602] (by decide +kernel) (by decide +kernel)) (goodIn_sub (fun _ h => List.mem_append_left _ (List.mem_append_left _ (List.mem_append_right _ h))) (by decide +kernel))
set_option maxRecDepth 20000 in
theorem gL_law_L_hasFault : GoodIn wsL_law (va_wsS RL 131 yL_hasFault wsL_hasFault) := goodIn_app (goodIn_of _ (by decide +kernel)) ggL_law_L_hasFault
set_option maxRecDepth 20000 in
theorem ggL_law_X6_hasFault : GoodIn wsL_law wsX6_hasFault := goodIn_r _ [487, 131, 288, 289, 225, 226, 227, 5, 228, 132, 133, 134, 135, 130, 136, 137, 138, 155, 156, 157, 158, 154, 390, 391, 392, 393, 91, 229, 230, 231, 295, 296, 297, 298, 287, 87, 88, 89, 394, 395, 396, 397, 81, 80, 563, 564, 565, 566, 567, 568, 569, 570, 571, 572, 573, 574, 575, 576, 577, 578, 579, 580, 581, 582, 583] (by decide +kernel) (by decide +kernel)
set_option maxRecDepth 20000 in
theorem gL_law_X6_hasFault : GoodIn wsL_law (wsV RL 133 RX6 yX6_hasFault wsX6_hasFault) := goodIn_app (goodIn_of _ (by decide +kernel)) ggL_law_X6_hasFault
set_option maxRecDepth 20000 in
theorem ggL_law_L_shown : GoodIn wsL_law wsL_shown := goodIn_ca (goodIn_r _ [490, 97, 491, 492, 493, 2, 494, 33, 495, 196, 197, 198, 199, 106, 107, 16, 17, 108, 109, 110, 15, 111, 112, 200, 201, 202, 203, 204, 205, 206, 207, 208, 321, 322, 323, 324, 29, 256, 35, 325, 326, 327, 32, 328, 74, 329, 330, 331, 332, 333, 334, 68, 69, 70, 335, 336, 337, 338, 339, 340, 341, 342, 42, 343, 344, 345, 346, 347, 348, 349, 350, 351, 352, 353, 75, 354, 355, 356, 357, 358, 359, 360, 361, 362, 363, 364, 365, 366, 367, 368, 369, 370, 371, 372, 373, 374, 375, 376, 377, 496, 446, 552, 553, 554, 555, 556, 557, 558, 559, 560, 561, 562, 584, 585, 586, 601, 602, 593, 594, 595, 596, 597, 598, 599, 600] (by decide +kernel) (by decide +kernel)) (goodIn_sub (fun _ h => List.mem_append_left _ (List.mem_append_left _ (List.mem_append_right _ h))) (by decide +kernel))
set_option maxRecDepth 20000 in
theorem gL_law_L_shown : GoodIn wsL_law (va_wsS RL 134 yL_shown wsL_shown) := goodIn_app (goodIn_of _ (by decide +kernel)) ggL_law_L_shown
set_option maxRecDepth 20000 in
theorem ggL_law_X6_shown : GoodIn wsL_law wsX6_shown := goodIn_r _ [500, 131, 92, 501, 91, 225, 226, 227, 5, 228, 132, 133, 134, 135, 130, 136, 137, 138, 155, 156, 157, 158, 154, 386, 387, 388, 389, 288, 90, 289, 390, 391, 392, 393, 229, 230, 231, 295, 296, 297, 298, 287, 87, 88, 89, 394, 395, 396, 397, 81, 80, 398, 399, 400, 401, 402, 403, 404, 405, 406, 407, 408, 563, 564, 565, 566, 567, 568, 569, 570, 571, 572, 573, 574, 575, 576, 577, 578, 579, 580, 581, 582, 583] (by decide +kernel) (by decide +kernel)
set_option maxRecDepth 20000 in
theorem gL_law_X6_shown : GoodIn wsL_law (wsV RL 136 RX6 yX6_shown wsX6_shown) := goodIn_app (goodIn_of _ (by decide +kernel)) ggL_law_X6_shown
set_option maxRecDepth 20000 in
theorem ggL_law_L_hidden : GoodIn wsL_law wsL_hidden := goodIn_ca (goodIn_r _ [504, 97, 505, 506, 507, 2, 508, 106, 107, 33, 200, 201, 202, 321, 322, 323, 324, 29, 256, 16, 17, 35, 325, 326, 327, 32, 328, 74, 329, 330, 331, 332, 333, 334, 68, 69, 70, 207, 208, 335, 336, 337, 338, 339, 340, 341, 15, 342, 112, 42, 343, 344, 345, 346, 347, 348, 349, 350, 351, 352, 353, 75, 354, 355, 356, 357, 358, 359, 360, 361, 362, 363, 364, 365, 366, 367, 368, 369, 370, 371, 372, 373, 374, 375, 376, 377, 378, 379, 380, 381, 552, 553, 554, 555, 556, 557, 558, 559, 560, 561, 562, 584, 585, 586, 601, 602, 593, 594, 595, 596, 597, 598, 599, 600] (by decide +kernel) (by decide +kernel)) (goodIn_sub (fun _ h => List.mem_append_left _ (List.mem_append_left _ (List.mem_append_right _ h))) (by decide +kernel))
set_option maxRecDepth 20000 in
theorem gL_law_L_hidden : GoodIn wsL_law (va_wsS RL 137 yL_hidden wsL_hidden) := goodIn_app (goodIn_of _ (by decide +kernel)) ggL_law_L_hidden
set_option maxRecDepth 20000 in
theorem ggL_law_X6_hidden : GoodIn wsL_law wsX6_hidden := goodIn_r _ [512, 131, 136, 137, 5, 138, 386, 387, 388, 389, 288, 92, 130, 154, 90, 91, 289, 390, 391, 392, 393, 229, 230, 231, 295, 296, 297, 298, 287, 87, 88, 89, 394, 395, 396, 397, 81, 80, 398, 399, 400, 401, 402, 403, 404, 405, 406, 407, 408, 563, 564, 565, 566, 567, 568, 569, 570, 571, 572, 573, 574, 575, 576, 577, 578, 579, 580, 581, 582, 583] (by decide +kernel) (by decide +kernel)
set_option maxRecDepth 20000 in
theorem gL_law_X6_hidden : GoodIn wsL_law (wsV RL 139 RX6 yX6_hidden wsX6_hidden) := goodIn_app (goodIn_of _ (by decide +kernel)) ggL_law_X6_hidden
set_option maxRecDepth 20000 in
theorem ggL_law_L_find : GoodIn wsL_law wsL_find := goodIn_ca (goodIn_ca (goodIn_r _ [515, 97, 187, 516, 517, 518, 2, 519, 106, 107, 192, 193, 16, 17, 103, 104, 105, 108, 109, 110, 15, 111, 112, 200, 201, 202, 520, 521, 522, 523, 29, 203, 204, 205, 206, 207, 208, 524, 525, 526, 28, 527, 59, 66, 62, 528, 268, 269, 270, 42, 271, 552, 553, 554, 555, 556, 557, 558, 559, 560, 561, 562, 584, 585, 586, 593, 594, 595, 596, 597, 598, 599, 600] (by decide +kernel) (by decide +kernel)) (goodIn_sub (fun _ h => List.mem_append_left _ (List.mem_append_left _ (List.mem_append_right _ h))) (by decide +kernel))) (goodIn_sub (fun _ h => List.mem_append_right _ h) (by decide +kernel))
set_option maxRecDepth 20000 in
theorem gL_law_L_find : GoodIn wsL_law (va_wsS RL 140 yL_find wsL_find) := goodIn_app (goodIn_of _ (by decide +kernel)) ggL_law_L_find
set_option maxRecDepth 20000 in
theorem ggL_law_X6_find : GoodIn wsL_law wsX6_find := goodIn_r _ [532, 131, 130, 154, 288, 289, 132, 133, 134, 5, 135, 136, 137, 138, 155, 156, 157, 158, 229, 230, 231, 533, 534, 535, 536, 81, 80, 295, 296, 297, 298, 287, 87, 88, 89, 537, 538, 539, 540, 563, 564, 565, 566, 567, 568, 569, 570, 571, 572, 573, 574, 575, 576, 577, 578, 579, 580, 581, 582, 583] (by decide +kernel) (by decide +kernel)
set_option maxRecDepth 20000 in
theorem gL_law_X6_find : GoodIn wsL_law (wsV RL 143 RX6 yX6_find wsX6_find) := goodIn_app (goodIn_of _ (by decide +kernel)) ggL_law_X6_find
set_option maxRecDepth 20000 in
theorem ggL_law_L_mayTell : GoodIn wsL_law wsL_mayTell := goodIn_ca (goodIn_r _ [543, 97, 544, 545, 546, 2, 547, 21, 16, 166, 167, 168, 106, 107, 169, 170, 171, 172, 108, 109, 110, 15, 111, 112, 263, 264, 265, 20, 266, 47, 267, 268, 269, 270, 42, 271, 552, 553, 554, 555, 556, 557, 558, 559, 560, 561, 562, 584, 585, 586, 587] (by decide +kernel) (by decide +kernel)) (goodIn_sub (fun _ h => List.mem_append_left _ (List.mem_append_left _ (List.mem_append_right _ h))) (by decide +kernel))
set_option maxRecDepth 20000 in
theorem gL_law_L_mayTell : GoodIn wsL_law (va_wsS RL 144 yL_mayTell wsL_mayTell) := goodIn_app (goodIn_of _ (by decide +kernel)) ggL_law_L_mayTell
set_option maxRecDepth 20000 in
theorem ggL_law_X6_mayTell : GoodIn wsL_law wsX6_mayTell := goodIn_r _ [551, 131, 181, 182, 5, 183, 136, 137, 138, 132, 133, 134, 135, 130, 299, 300, 301, 302, 82, 80, 563, 564, 565, 566, 567, 568, 569, 570, 571, 572, 573, 574, 575, 576, 577, 578, 579, 580, 581, 582, 583] (by decide +kernel) (by decide +kernel)
set_option maxRecDepth 20000 in
theorem gL_law_X6_mayTell : GoodIn wsL_law (wsV RL 147 RX6 yX6_mayTell wsX6_mayTell) := goodIn_app (goodIn_of _ (by decide +kernel)) ggL_law_X6_mayTell
theorem dL_law_0 : decode cL_law 0 = .ok (.new 8, 3) := by decide +kernel
theorem dL_law_3 : decode cL_law 3 = .ok (.dup, 1) := by decide +kernel
theorem dL_law_4 : decode cL_law 4 = .ok (.invokespecial 75, 3) := by decide +kernel
theorem dL_law_7 : decode cL_law 7 = .ok (.astore_n 1, 1) := by decide +kernel
theorem dL_law_8 : decode cL_law 8 = .ok (.new 76, 3) := by decide +kernel
theorem dL_law_11 : decode cL_law 11 = .ok (.dup, 1) := by decide +kernel
theorem dL_law_12 : decode cL_law 12 = .ok (.invokespecial 78, 3) := by decide +kernel
theorem dL_law_15 : decode cL_law 15 = .ok (.astore_n 2, 1) := by decide +kernel
theorem dL_law_16 : decode cL_law 16 = .ok (.iconst 1, 1) := by decide +kernel
theorem dL_law_17 : decode cL_law 17 = .ok (.newarray .long, 2) := by decide +kernel
theorem dL_law_19 : decode cL_law 19 = .ok (.astore_n 3, 1) := by decide +kernel
theorem dL_law_20 : decode cL_law 20 = .ok (.iconst 0, 1) := by decide +kernel
theorem dL_law_21 : decode cL_law 21 = .ok (.istore 4, 2) := by decide +kernel
theorem dL_law_23 : decode cL_law 23 = .ok (.iload 4, 2) := by decide +kernel
theorem dL_law_25 : decode cL_law 25 = .ok (.aload_n 0, 1) := by decide +kernel
theorem dL_law_26 : decode cL_law 26 = .ok (.arraylength, 1) := by decide +kernel
theorem dL_law_27 : decode cL_law 27 = .ok (.bipush 7, 2) := by decide +kernel
theorem dL_law_29 : decode cL_law 29 = .ok (.isub, 1) := by decide +kernel
theorem dL_law_30 : decode cL_law 30 = .ok (.if_icmp .gt 1472, 3) := by decide +kernel
theorem dL_law_33 : decode cL_law 33 = .ok (.aload_n 0, 1) := by decide +kernel
theorem dL_law_34 : decode cL_law 34 = .ok (.iload 4, 2) := by decide +kernel
theorem dL_law_36 : decode cL_law 36 = .ok (.iaload, 1) := by decide +kernel
theorem dL_law_37 : decode cL_law 37 = .ok (.bipush 31, 2) := by decide +kernel
theorem dL_law_39 : decode cL_law 39 = .ok (.iand, 1) := by decide +kernel
theorem dL_law_40 : decode cL_law 40 = .ok (.tableswitch 1456 0 17 #[88, 144, 200, 303, 407, 420, 476, 532, 640, 696, 788, 880, 960, 1040, 1127, 1207, 1263, 1381], 88) := by decide +kernel
theorem dL_law_128 : decode cL_law 128 = .ok (.aload_n 1, 1) := by decide +kernel
theorem dL_law_129 : decode cL_law 129 = .ok (.aload_n 0, 1) := by decide +kernel
theorem dL_law_130 : decode cL_law 130 = .ok (.iload 4, 2) := by decide +kernel
theorem dL_law_132 : decode cL_law 132 = .ok (.iconst 1, 1) := by decide +kernel
theorem dL_law_133 : decode cL_law 133 = .ok (.iadd, 1) := by decide +kernel
theorem dL_law_134 : decode cL_law 134 = .ok (.iaload, 1) := by decide +kernel
theorem dL_law_135 : decode cL_law 135 = .ok (.aload_n 3, 1) := by decide +kernel
theorem dL_law_136 : decode cL_law 136 = .ok (.invokestatic 79, 3) := by decide +kernel
theorem dL_law_139 : decode cL_law 139 = .ok (.istore 5, 2) := by decide +kernel
theorem dL_law_141 : decode cL_law 141 = .ok (.aload_n 2, 1) := by decide +kernel
theorem dL_law_142 : decode cL_law 142 = .ok (.aload_n 0, 1) := by decide +kernel
theorem dL_law_143 : decode cL_law 143 = .ok (.iload 4, 2) := by decide +kernel
theorem dL_law_145 : decode cL_law 145 = .ok (.iconst 1, 1) := by decide +kernel
theorem dL_law_146 : decode cL_law 146 = .ok (.iadd, 1) := by decide +kernel
theorem dL_law_147 : decode cL_law 147 = .ok (.iaload, 1) := by decide +kernel
theorem dL_law_148 : decode cL_law 148 = .ok (.invokevirtual 84, 3) := by decide +kernel
theorem dL_law_151 : decode cL_law 151 = .ok (.istore 6, 2) := by decide +kernel
theorem dL_law_153 : decode cL_law 153 = .ok (.aload_n 2, 1) := by decide +kernel
theorem dL_law_154 : decode cL_law 154 = .ok (.invokevirtual 85, 3) := by decide +kernel
theorem dL_law_157 : decode cL_law 157 = .ok (.iload 5, 2) := by decide +kernel
theorem dL_law_159 : decode cL_law 159 = .ok (.if_icmp .eq 5, 3) := by decide +kernel
theorem dL_law_162 : decode cL_law 162 = .ok (.iconst 0, 1) := by decide +kernel
theorem dL_law_163 : decode cL_law 163 = .ok (.ireturn, 1) := by decide +kernel
theorem dL_law_164 : decode cL_law 164 = .ok (.iload 5, 2) := by decide +kernel
theorem dL_law_166 : decode cL_law 166 = .ok (.ifCond .ne 15, 3) := by decide +kernel
theorem dL_law_169 : decode cL_law 169 = .ok (.aload_n 3, 1) := by decide +kernel
theorem dL_law_170 : decode cL_law 170 = .ok (.iconst 0, 1) := by decide +kernel
theorem dL_law_171 : decode cL_law 171 = .ok (.laload, 1) := by decide +kernel
theorem dL_law_172 : decode cL_law 172 = .ok (.iload 6, 2) := by decide +kernel
theorem dL_law_174 : decode cL_law 174 = .ok (.i2l, 1) := by decide +kernel
theorem dL_law_175 : decode cL_law 175 = .ok (.lcmp, 1) := by decide +kernel
theorem dL_law_176 : decode cL_law 176 = .ok (.ifCond .eq 5, 3) := by decide +kernel
theorem dL_law_179 : decode cL_law 179 = .ok (.iconst 0, 1) := by decide +kernel
theorem dL_law_180 : decode cL_law 180 = .ok (.ireturn, 1) := by decide +kernel
theorem dL_law_181 : decode cL_law 181 = .ok (.goto 1315, 3) := by decide +kernel
theorem dL_law_184 : decode cL_law 184 = .ok (.aload_n 1, 1) := by decide +kernel
theorem dL_law_185 : decode cL_law 185 = .ok (.aload_n 0, 1) := by decide +kernel
theorem dL_law_186 : decode cL_law 186 = .ok (.iload 4, 2) := by decide +kernel
theorem dL_law_188 : decode cL_law 188 = .ok (.iconst 1, 1) := by decide +kernel
theorem dL_law_189 : decode cL_law 189 = .ok (.iadd, 1) := by decide +kernel
theorem dL_law_190 : decode cL_law 190 = .ok (.iaload, 1) := by decide +kernel
theorem dL_law_191 : decode cL_law 191 = .ok (.aload_n 3, 1) := by decide +kernel
theorem dL_law_192 : decode cL_law 192 = .ok (.invokestatic 89, 3) := by decide +kernel
theorem dL_law_195 : decode cL_law 195 = .ok (.istore 5, 2) := by decide +kernel
theorem dL_law_197 : decode cL_law 197 = .ok (.aload_n 2, 1) := by decide +kernel
theorem dL_law_198 : decode cL_law 198 = .ok (.aload_n 0, 1) := by decide +kernel
theorem dL_law_199 : decode cL_law 199 = .ok (.iload 4, 2) := by decide +kernel
theorem dL_law_201 : decode cL_law 201 = .ok (.iconst 1, 1) := by decide +kernel
theorem dL_law_202 : decode cL_law 202 = .ok (.iadd, 1) := by decide +kernel
theorem dL_law_203 : decode cL_law 203 = .ok (.iaload, 1) := by decide +kernel
theorem dL_law_204 : decode cL_law 204 = .ok (.invokevirtual 91, 3) := by decide +kernel
theorem dL_law_207 : decode cL_law 207 = .ok (.istore 6, 2) := by decide +kernel
theorem dL_law_209 : decode cL_law 209 = .ok (.aload_n 2, 1) := by decide +kernel
theorem dL_law_210 : decode cL_law 210 = .ok (.invokevirtual 85, 3) := by decide +kernel
theorem dL_law_213 : decode cL_law 213 = .ok (.iload 5, 2) := by decide +kernel
theorem dL_law_215 : decode cL_law 215 = .ok (.if_icmp .eq 5, 3) := by decide +kernel
theorem dL_law_218 : decode cL_law 218 = .ok (.iconst 0, 1) := by decide +kernel
theorem dL_law_219 : decode cL_law 219 = .ok (.ireturn, 1) := by decide +kernel
theorem dL_law_220 : decode cL_law 220 = .ok (.iload 5, 2) := by decide +kernel
theorem dL_law_222 : decode cL_law 222 = .ok (.ifCond .ne 15, 3) := by decide +kernel
theorem dL_law_225 : decode cL_law 225 = .ok (.aload_n 3, 1) := by decide +kernel
theorem dL_law_226 : decode cL_law 226 = .ok (.iconst 0, 1) := by decide +kernel
theorem dL_law_227 : decode cL_law 227 = .ok (.laload, 1) := by decide +kernel
theorem dL_law_228 : decode cL_law 228 = .ok (.iload 6, 2) := by decide +kernel
theorem dL_law_230 : decode cL_law 230 = .ok (.i2l, 1) := by decide +kernel
theorem dL_law_231 : decode cL_law 231 = .ok (.lcmp, 1) := by decide +kernel
theorem dL_law_232 : decode cL_law 232 = .ok (.ifCond .eq 5, 3) := by decide +kernel
theorem dL_law_235 : decode cL_law 235 = .ok (.iconst 0, 1) := by decide +kernel
theorem dL_law_236 : decode cL_law 236 = .ok (.ireturn, 1) := by decide +kernel
theorem dL_law_237 : decode cL_law 237 = .ok (.goto 1259, 3) := by decide +kernel
theorem dL_law_240 : decode cL_law 240 = .ok (.aload_n 1, 1) := by decide +kernel
theorem dL_law_241 : decode cL_law 241 = .ok (.aload_n 0, 1) := by decide +kernel
theorem dL_law_242 : decode cL_law 242 = .ok (.iload 4, 2) := by decide +kernel
theorem dL_law_244 : decode cL_law 244 = .ok (.iconst 1, 1) := by decide +kernel
theorem dL_law_245 : decode cL_law 245 = .ok (.iadd, 1) := by decide +kernel
theorem dL_law_246 : decode cL_law 246 = .ok (.iaload, 1) := by decide +kernel
theorem dL_law_247 : decode cL_law 247 = .ok (.aload_n 0, 1) := by decide +kernel
theorem dL_law_248 : decode cL_law 248 = .ok (.iload 4, 2) := by decide +kernel
theorem dL_law_250 : decode cL_law 250 = .ok (.iconst 2, 1) := by decide +kernel
theorem dL_law_251 : decode cL_law 251 = .ok (.iadd, 1) := by decide +kernel
theorem dL_law_252 : decode cL_law 252 = .ok (.iaload, 1) := by decide +kernel
theorem dL_law_253 : decode cL_law 253 = .ok (.aload_n 0, 1) := by decide +kernel
theorem dL_law_254 : decode cL_law 254 = .ok (.iload 4, 2) := by decide +kernel
theorem dL_law_256 : decode cL_law 256 = .ok (.iconst 3, 1) := by decide +kernel
theorem dL_law_257 : decode cL_law 257 = .ok (.iadd, 1) := by decide +kernel
theorem dL_law_258 : decode cL_law 258 = .ok (.iaload, 1) := by decide +kernel
theorem dL_law_259 : decode cL_law 259 = .ok (.ifCond .eq 7, 3) := by decide +kernel
theorem dL_law_262 : decode cL_law 262 = .ok (.iconst 1, 1) := by decide +kernel
theorem dL_law_263 : decode cL_law 263 = .ok (.goto 4, 3) := by decide +kernel
theorem dL_law_266 : decode cL_law 266 = .ok (.iconst 0, 1) := by decide +kernel
theorem dL_law_267 : decode cL_law 267 = .ok (.aload_n 3, 1) := by decide +kernel
theorem dL_law_268 : decode cL_law 268 = .ok (.invokestatic 92, 3) := by decide +kernel
theorem dL_law_271 : decode cL_law 271 = .ok (.istore 5, 2) := by decide +kernel
theorem dL_law_273 : decode cL_law 273 = .ok (.aload_n 2, 1) := by decide +kernel
theorem dL_law_274 : decode cL_law 274 = .ok (.aload_n 0, 1) := by decide +kernel
theorem dL_law_275 : decode cL_law 275 = .ok (.iload 4, 2) := by decide +kernel
theorem dL_law_277 : decode cL_law 277 = .ok (.iconst 1, 1) := by decide +kernel
theorem dL_law_278 : decode cL_law 278 = .ok (.iadd, 1) := by decide +kernel
theorem dL_law_279 : decode cL_law 279 = .ok (.iaload, 1) := by decide +kernel
theorem dL_law_280 : decode cL_law 280 = .ok (.aload_n 0, 1) := by decide +kernel
theorem dL_law_281 : decode cL_law 281 = .ok (.iload 4, 2) := by decide +kernel
theorem dL_law_283 : decode cL_law 283 = .ok (.iconst 2, 1) := by decide +kernel
theorem dL_law_284 : decode cL_law 284 = .ok (.iadd, 1) := by decide +kernel
theorem dL_law_285 : decode cL_law 285 = .ok (.iaload, 1) := by decide +kernel
theorem dL_law_286 : decode cL_law 286 = .ok (.aload_n 0, 1) := by decide +kernel
theorem dL_law_287 : decode cL_law 287 = .ok (.iload 4, 2) := by decide +kernel
theorem dL_law_289 : decode cL_law 289 = .ok (.iconst 3, 1) := by decide +kernel
theorem dL_law_290 : decode cL_law 290 = .ok (.iadd, 1) := by decide +kernel
theorem dL_law_291 : decode cL_law 291 = .ok (.iaload, 1) := by decide +kernel
theorem dL_law_292 : decode cL_law 292 = .ok (.ifCond .eq 7, 3) := by decide +kernel
theorem dL_law_295 : decode cL_law 295 = .ok (.iconst 1, 1) := by decide +kernel
theorem dL_law_296 : decode cL_law 296 = .ok (.goto 4, 3) := by decide +kernel
theorem dL_law_299 : decode cL_law 299 = .ok (.iconst 0, 1) := by decide +kernel
theorem dL_law_300 : decode cL_law 300 = .ok (.invokevirtual 95, 3) := by decide +kernel
theorem dL_law_303 : decode cL_law 303 = .ok (.istore 6, 2) := by decide +kernel
theorem dL_law_305 : decode cL_law 305 = .ok (.aload_n 2, 1) := by decide +kernel
theorem dL_law_306 : decode cL_law 306 = .ok (.invokevirtual 85, 3) := by decide +kernel
theorem dL_law_309 : decode cL_law 309 = .ok (.iload 5, 2) := by decide +kernel
theorem dL_law_311 : decode cL_law 311 = .ok (.if_icmp .eq 5, 3) := by decide +kernel
theorem dL_law_314 : decode cL_law 314 = .ok (.iconst 0, 1) := by decide +kernel
theorem dL_law_315 : decode cL_law 315 = .ok (.ireturn, 1) := by decide +kernel
theorem dL_law_316 : decode cL_law 316 = .ok (.iload 5, 2) := by decide +kernel
theorem dL_law_318 : decode cL_law 318 = .ok (.ifCond .ne 22, 3) := by decide +kernel
theorem dL_law_321 : decode cL_law 321 = .ok (.aload_n 3, 1) := by decide +kernel
theorem dL_law_322 : decode cL_law 322 = .ok (.iconst 0, 1) := by decide +kernel
theorem dL_law_323 : decode cL_law 323 = .ok (.laload, 1) := by decide +kernel
theorem dL_law_324 : decode cL_law 324 = .ok (.iload 6, 2) := by decide +kernel
theorem dL_law_326 : decode cL_law 326 = .ok (.ifCond .eq 7, 3) := by decide +kernel
theorem dL_law_329 : decode cL_law 329 = .ok (.lconst 1, 1) := by decide +kernel
theorem dL_law_330 : decode cL_law 330 = .ok (.goto 4, 3) := by decide +kernel
theorem dL_law_333 : decode cL_law 333 = .ok (.lconst 0, 1) := by decide +kernel
theorem dL_law_334 : decode cL_law 334 = .ok (.lcmp, 1) := by decide +kernel
end
section
theorem dL_law_335 : decode cL_law 335 = .ok (.ifCond .eq 5, 3) := by decide +kernel
theorem dL_law_338 : decode cL_law 338 = .ok (.iconst 0, 1) := by decide +kernel
theorem dL_law_339 : decode cL_law 339 = .ok (.ireturn, 1) := by decide +kernel
theorem dL_law_340 : decode cL_law 340 = .ok (.goto 1156, 3) := by decide +kernel
theorem dL_law_343 : decode cL_law 343 = .ok (.aload_n 1, 1) := by decide +kernel
theorem dL_law_344 : decode cL_law 344 = .ok (.aload_n 0, 1) := by decide +kernel
theorem dL_law_345 : decode cL_law 345 = .ok (.iload 4, 2) := by decide +kernel
theorem dL_law_347 : decode cL_law 347 = .ok (.iconst 1, 1) := by decide +kernel
theorem dL_law_348 : decode cL_law 348 = .ok (.iadd, 1) := by decide +kernel
theorem dL_law_349 : decode cL_law 349 = .ok (.iaload, 1) := by decide +kernel
theorem dL_law_350 : decode cL_law 350 = .ok (.aload_n 0, 1) := by decide +kernel
theorem dL_law_351 : decode cL_law 351 = .ok (.iload 4, 2) := by decide +kernel
theorem dL_law_353 : decode cL_law 353 = .ok (.iconst 2, 1) := by decide +kernel
theorem dL_law_354 : decode cL_law 354 = .ok (.iadd, 1) := by decide +kernel
theorem dL_law_355 : decode cL_law 355 = .ok (.iaload, 1) := by decide +kernel
theorem dL_law_356 : decode cL_law 356 = .ok (.aload_n 0, 1) := by decide +kernel
theorem dL_law_357 : decode cL_law 357 = .ok (.iload 4, 2) := by decide +kernel
theorem dL_law_359 : decode cL_law 359 = .ok (.iconst 3, 1) := by decide +kernel
theorem dL_law_360 : decode cL_law 360 = .ok (.iadd, 1) := by decide +kernel
theorem dL_law_361 : decode cL_law 361 = .ok (.iaload, 1) := by decide +kernel
theorem dL_law_362 : decode cL_law 362 = .ok (.aload_n 0, 1) := by decide +kernel
theorem dL_law_363 : decode cL_law 363 = .ok (.iload 4, 2) := by decide +kernel
theorem dL_law_365 : decode cL_law 365 = .ok (.iconst 4, 1) := by decide +kernel
theorem dL_law_366 : decode cL_law 366 = .ok (.iadd, 1) := by decide +kernel
theorem dL_law_367 : decode cL_law 367 = .ok (.iaload, 1) := by decide +kernel
theorem dL_law_368 : decode cL_law 368 = .ok (.aload_n 0, 1) := by decide +kernel
theorem dL_law_369 : decode cL_law 369 = .ok (.iload 4, 2) := by decide +kernel
theorem dL_law_371 : decode cL_law 371 = .ok (.iconst 5, 1) := by decide +kernel
theorem dL_law_372 : decode cL_law 372 = .ok (.iadd, 1) := by decide +kernel
theorem dL_law_373 : decode cL_law 373 = .ok (.iaload, 1) := by decide +kernel
theorem dL_law_374 : decode cL_law 374 = .ok (.aload_n 3, 1) := by decide +kernel
theorem dL_law_375 : decode cL_law 375 = .ok (.invokestatic 96, 3) := by decide +kernel
theorem dL_law_378 : decode cL_law 378 = .ok (.istore 5, 2) := by decide +kernel
theorem dL_law_380 : decode cL_law 380 = .ok (.aload_n 2, 1) := by decide +kernel
theorem dL_law_381 : decode cL_law 381 = .ok (.aload_n 0, 1) := by decide +kernel
theorem dL_law_382 : decode cL_law 382 = .ok (.iload 4, 2) := by decide +kernel
theorem dL_law_384 : decode cL_law 384 = .ok (.iconst 1, 1) := by decide +kernel
theorem dL_law_385 : decode cL_law 385 = .ok (.iadd, 1) := by decide +kernel
theorem dL_law_386 : decode cL_law 386 = .ok (.iaload, 1) := by decide +kernel
theorem dL_law_387 : decode cL_law 387 = .ok (.aload_n 0, 1) := by decide +kernel
theorem dL_law_388 : decode cL_law 388 = .ok (.iload 4, 2) := by decide +kernel
theorem dL_law_390 : decode cL_law 390 = .ok (.iconst 2, 1) := by decide +kernel
theorem dL_law_391 : decode cL_law 391 = .ok (.iadd, 1) := by decide +kernel
theorem dL_law_392 : decode cL_law 392 = .ok (.iaload, 1) := by decide +kernel
theorem dL_law_393 : decode cL_law 393 = .ok (.aload_n 0, 1) := by decide +kernel
theorem dL_law_394 : decode cL_law 394 = .ok (.iload 4, 2) := by decide +kernel
theorem dL_law_396 : decode cL_law 396 = .ok (.iconst 3, 1) := by decide +kernel
theorem dL_law_397 : decode cL_law 397 = .ok (.iadd, 1) := by decide +kernel
theorem dL_law_398 : decode cL_law 398 = .ok (.iaload, 1) := by decide +kernel
theorem dL_law_399 : decode cL_law 399 = .ok (.aload_n 0, 1) := by decide +kernel
theorem dL_law_400 : decode cL_law 400 = .ok (.iload 4, 2) := by decide +kernel
theorem dL_law_402 : decode cL_law 402 = .ok (.iconst 4, 1) := by decide +kernel
theorem dL_law_403 : decode cL_law 403 = .ok (.iadd, 1) := by decide +kernel
theorem dL_law_404 : decode cL_law 404 = .ok (.iaload, 1) := by decide +kernel
theorem dL_law_405 : decode cL_law 405 = .ok (.aload_n 0, 1) := by decide +kernel
theorem dL_law_406 : decode cL_law 406 = .ok (.iload 4, 2) := by decide +kernel
theorem dL_law_408 : decode cL_law 408 = .ok (.iconst 5, 1) := by decide +kernel
theorem dL_law_409 : decode cL_law 409 = .ok (.iadd, 1) := by decide +kernel
theorem dL_law_410 : decode cL_law 410 = .ok (.iaload, 1) := by decide +kernel
theorem dL_law_411 : decode cL_law 411 = .ok (.invokevirtual 99, 3) := by decide +kernel
theorem dL_law_414 : decode cL_law 414 = .ok (.istore 6, 2) := by decide +kernel
theorem dL_law_416 : decode cL_law 416 = .ok (.aload_n 2, 1) := by decide +kernel
theorem dL_law_417 : decode cL_law 417 = .ok (.invokevirtual 85, 3) := by decide +kernel
theorem dL_law_420 : decode cL_law 420 = .ok (.iload 5, 2) := by decide +kernel
theorem dL_law_422 : decode cL_law 422 = .ok (.if_icmp .eq 5, 3) := by decide +kernel
theorem dL_law_425 : decode cL_law 425 = .ok (.iconst 0, 1) := by decide +kernel
theorem dL_law_426 : decode cL_law 426 = .ok (.ireturn, 1) := by decide +kernel
theorem dL_law_427 : decode cL_law 427 = .ok (.iload 5, 2) := by decide +kernel
theorem dL_law_429 : decode cL_law 429 = .ok (.ifCond .ne 15, 3) := by decide +kernel
theorem dL_law_432 : decode cL_law 432 = .ok (.aload_n 3, 1) := by decide +kernel
theorem dL_law_433 : decode cL_law 433 = .ok (.iconst 0, 1) := by decide +kernel
theorem dL_law_434 : decode cL_law 434 = .ok (.laload, 1) := by decide +kernel
theorem dL_law_435 : decode cL_law 435 = .ok (.iload 6, 2) := by decide +kernel
theorem dL_law_437 : decode cL_law 437 = .ok (.i2l, 1) := by decide +kernel
theorem dL_law_438 : decode cL_law 438 = .ok (.lcmp, 1) := by decide +kernel
theorem dL_law_439 : decode cL_law 439 = .ok (.ifCond .eq 5, 3) := by decide +kernel
theorem dL_law_442 : decode cL_law 442 = .ok (.iconst 0, 1) := by decide +kernel
theorem dL_law_443 : decode cL_law 443 = .ok (.ireturn, 1) := by decide +kernel
theorem dL_law_444 : decode cL_law 444 = .ok (.goto 1052, 3) := by decide +kernel
theorem dL_law_447 : decode cL_law 447 = .ok (.aload_n 1, 1) := by decide +kernel
theorem dL_law_448 : decode cL_law 448 = .ok (.invokevirtual 100, 3) := by decide +kernel
theorem dL_law_451 : decode cL_law 451 = .ok (.aload_n 2, 1) := by decide +kernel
theorem dL_law_452 : decode cL_law 452 = .ok (.invokevirtual 103, 3) := by decide +kernel
theorem dL_law_455 : decode cL_law 455 = .ok (.if_icmp .eq 1041, 3) := by decide +kernel
theorem dL_law_458 : decode cL_law 458 = .ok (.iconst 0, 1) := by decide +kernel
theorem dL_law_459 : decode cL_law 459 = .ok (.ireturn, 1) := by decide +kernel
theorem dL_law_460 : decode cL_law 460 = .ok (.aload_n 1, 1) := by decide +kernel
theorem dL_law_461 : decode cL_law 461 = .ok (.aload_n 0, 1) := by decide +kernel
theorem dL_law_462 : decode cL_law 462 = .ok (.iload 4, 2) := by decide +kernel
theorem dL_law_464 : decode cL_law 464 = .ok (.iconst 1, 1) := by decide +kernel
theorem dL_law_465 : decode cL_law 465 = .ok (.iadd, 1) := by decide +kernel
theorem dL_law_466 : decode cL_law 466 = .ok (.iaload, 1) := by decide +kernel
theorem dL_law_467 : decode cL_law 467 = .ok (.aload_n 3, 1) := by decide +kernel
theorem dL_law_468 : decode cL_law 468 = .ok (.invokestatic 104, 3) := by decide +kernel
theorem dL_law_471 : decode cL_law 471 = .ok (.istore 5, 2) := by decide +kernel
theorem dL_law_473 : decode cL_law 473 = .ok (.aload_n 2, 1) := by decide +kernel
theorem dL_law_474 : decode cL_law 474 = .ok (.aload_n 0, 1) := by decide +kernel
theorem dL_law_475 : decode cL_law 475 = .ok (.iload 4, 2) := by decide +kernel
theorem dL_law_477 : decode cL_law 477 = .ok (.iconst 1, 1) := by decide +kernel
theorem dL_law_478 : decode cL_law 478 = .ok (.iadd, 1) := by decide +kernel
theorem dL_law_479 : decode cL_law 479 = .ok (.iaload, 1) := by decide +kernel
theorem dL_law_480 : decode cL_law 480 = .ok (.invokevirtual 106, 3) := by decide +kernel
theorem dL_law_483 : decode cL_law 483 = .ok (.istore 6, 2) := by decide +kernel
theorem dL_law_485 : decode cL_law 485 = .ok (.aload_n 2, 1) := by decide +kernel
theorem dL_law_486 : decode cL_law 486 = .ok (.invokevirtual 85, 3) := by decide +kernel
theorem dL_law_489 : decode cL_law 489 = .ok (.iload 5, 2) := by decide +kernel
theorem dL_law_491 : decode cL_law 491 = .ok (.if_icmp .eq 5, 3) := by decide +kernel
theorem dL_law_494 : decode cL_law 494 = .ok (.iconst 0, 1) := by decide +kernel
theorem dL_law_495 : decode cL_law 495 = .ok (.ireturn, 1) := by decide +kernel
theorem dL_law_496 : decode cL_law 496 = .ok (.iload 5, 2) := by decide +kernel
theorem dL_law_498 : decode cL_law 498 = .ok (.ifCond .ne 15, 3) := by decide +kernel
theorem dL_law_501 : decode cL_law 501 = .ok (.aload_n 3, 1) := by decide +kernel
theorem dL_law_502 : decode cL_law 502 = .ok (.iconst 0, 1) := by decide +kernel
theorem dL_law_503 : decode cL_law 503 = .ok (.laload, 1) := by decide +kernel
theorem dL_law_504 : decode cL_law 504 = .ok (.iload 6, 2) := by decide +kernel
theorem dL_law_506 : decode cL_law 506 = .ok (.i2l, 1) := by decide +kernel
theorem dL_law_507 : decode cL_law 507 = .ok (.lcmp, 1) := by decide +kernel
theorem dL_law_508 : decode cL_law 508 = .ok (.ifCond .eq 5, 3) := by decide +kernel
theorem dL_law_511 : decode cL_law 511 = .ok (.iconst 0, 1) := by decide +kernel
theorem dL_law_512 : decode cL_law 512 = .ok (.ireturn, 1) := by decide +kernel
theorem dL_law_513 : decode cL_law 513 = .ok (.goto 983, 3) := by decide +kernel
theorem dL_law_516 : decode cL_law 516 = .ok (.aload_n 1, 1) := by decide +kernel
theorem dL_law_517 : decode cL_law 517 = .ok (.aload_n 0, 1) := by decide +kernel
theorem dL_law_518 : decode cL_law 518 = .ok (.iload 4, 2) := by decide +kernel
theorem dL_law_520 : decode cL_law 520 = .ok (.iconst 1, 1) := by decide +kernel
theorem dL_law_521 : decode cL_law 521 = .ok (.iadd, 1) := by decide +kernel
theorem dL_law_522 : decode cL_law 522 = .ok (.iaload, 1) := by decide +kernel
theorem dL_law_523 : decode cL_law 523 = .ok (.aload_n 3, 1) := by decide +kernel
theorem dL_law_524 : decode cL_law 524 = .ok (.invokestatic 107, 3) := by decide +kernel
theorem dL_law_527 : decode cL_law 527 = .ok (.istore 5, 2) := by decide +kernel
theorem dL_law_529 : decode cL_law 529 = .ok (.aload_n 2, 1) := by decide +kernel
theorem dL_law_530 : decode cL_law 530 = .ok (.aload_n 0, 1) := by decide +kernel
theorem dL_law_531 : decode cL_law 531 = .ok (.iload 4, 2) := by decide +kernel
theorem dL_law_533 : decode cL_law 533 = .ok (.iconst 1, 1) := by decide +kernel
theorem dL_law_534 : decode cL_law 534 = .ok (.iadd, 1) := by decide +kernel
theorem dL_law_535 : decode cL_law 535 = .ok (.iaload, 1) := by decide +kernel
theorem dL_law_536 : decode cL_law 536 = .ok (.invokevirtual 109, 3) := by decide +kernel
theorem dL_law_539 : decode cL_law 539 = .ok (.istore 6, 2) := by decide +kernel
theorem dL_law_541 : decode cL_law 541 = .ok (.aload_n 2, 1) := by decide +kernel
theorem dL_law_542 : decode cL_law 542 = .ok (.invokevirtual 85, 3) := by decide +kernel
theorem dL_law_545 : decode cL_law 545 = .ok (.iload 5, 2) := by decide +kernel
theorem dL_law_547 : decode cL_law 547 = .ok (.if_icmp .eq 5, 3) := by decide +kernel
theorem dL_law_550 : decode cL_law 550 = .ok (.iconst 0, 1) := by decide +kernel
theorem dL_law_551 : decode cL_law 551 = .ok (.ireturn, 1) := by decide +kernel
theorem dL_law_552 : decode cL_law 552 = .ok (.iload 5, 2) := by decide +kernel
theorem dL_law_554 : decode cL_law 554 = .ok (.ifCond .ne 15, 3) := by decide +kernel
theorem dL_law_557 : decode cL_law 557 = .ok (.aload_n 3, 1) := by decide +kernel
theorem dL_law_558 : decode cL_law 558 = .ok (.iconst 0, 1) := by decide +kernel
theorem dL_law_559 : decode cL_law 559 = .ok (.laload, 1) := by decide +kernel
theorem dL_law_560 : decode cL_law 560 = .ok (.iload 6, 2) := by decide +kernel
theorem dL_law_562 : decode cL_law 562 = .ok (.i2l, 1) := by decide +kernel
theorem dL_law_563 : decode cL_law 563 = .ok (.lcmp, 1) := by decide +kernel
theorem dL_law_564 : decode cL_law 564 = .ok (.ifCond .eq 5, 3) := by decide +kernel
theorem dL_law_567 : decode cL_law 567 = .ok (.iconst 0, 1) := by decide +kernel
theorem dL_law_568 : decode cL_law 568 = .ok (.ireturn, 1) := by decide +kernel
theorem dL_law_569 : decode cL_law 569 = .ok (.goto 927, 3) := by decide +kernel
theorem dL_law_572 : decode cL_law 572 = .ok (.aload_n 1, 1) := by decide +kernel
theorem dL_law_573 : decode cL_law 573 = .ok (.aload_n 0, 1) := by decide +kernel
theorem dL_law_574 : decode cL_law 574 = .ok (.iload 4, 2) := by decide +kernel
theorem dL_law_576 : decode cL_law 576 = .ok (.iconst 1, 1) := by decide +kernel
theorem dL_law_577 : decode cL_law 577 = .ok (.iadd, 1) := by decide +kernel
theorem dL_law_578 : decode cL_law 578 = .ok (.iaload, 1) := by decide +kernel
theorem dL_law_579 : decode cL_law 579 = .ok (.aload_n 0, 1) := by decide +kernel
theorem dL_law_580 : decode cL_law 580 = .ok (.iload 4, 2) := by decide +kernel
theorem dL_law_582 : decode cL_law 582 = .ok (.iconst 2, 1) := by decide +kernel
theorem dL_law_583 : decode cL_law 583 = .ok (.iadd, 1) := by decide +kernel
theorem dL_law_584 : decode cL_law 584 = .ok (.iaload, 1) := by decide +kernel
theorem dL_law_585 : decode cL_law 585 = .ok (.aload_n 0, 1) := by decide +kernel
theorem dL_law_586 : decode cL_law 586 = .ok (.iload 4, 2) := by decide +kernel
theorem dL_law_588 : decode cL_law 588 = .ok (.iconst 3, 1) := by decide +kernel
theorem dL_law_589 : decode cL_law 589 = .ok (.iadd, 1) := by decide +kernel
theorem dL_law_590 : decode cL_law 590 = .ok (.iaload, 1) := by decide +kernel
theorem dL_law_591 : decode cL_law 591 = .ok (.aload_n 0, 1) := by decide +kernel
theorem dL_law_592 : decode cL_law 592 = .ok (.iload 4, 2) := by decide +kernel
theorem dL_law_594 : decode cL_law 594 = .ok (.iconst 4, 1) := by decide +kernel
theorem dL_law_595 : decode cL_law 595 = .ok (.iadd, 1) := by decide +kernel
theorem dL_law_596 : decode cL_law 596 = .ok (.iaload, 1) := by decide +kernel
theorem dL_law_597 : decode cL_law 597 = .ok (.ifCond .eq 7, 3) := by decide +kernel
theorem dL_law_600 : decode cL_law 600 = .ok (.iconst 1, 1) := by decide +kernel
theorem dL_law_601 : decode cL_law 601 = .ok (.goto 4, 3) := by decide +kernel
theorem dL_law_604 : decode cL_law 604 = .ok (.iconst 0, 1) := by decide +kernel
theorem dL_law_605 : decode cL_law 605 = .ok (.aload_n 3, 1) := by decide +kernel
theorem dL_law_606 : decode cL_law 606 = .ok (.invokestatic 110, 3) := by decide +kernel
theorem dL_law_609 : decode cL_law 609 = .ok (.istore 5, 2) := by decide +kernel
theorem dL_law_611 : decode cL_law 611 = .ok (.aload_n 2, 1) := by decide +kernel
theorem dL_law_612 : decode cL_law 612 = .ok (.aload_n 0, 1) := by decide +kernel
theorem dL_law_613 : decode cL_law 613 = .ok (.iload 4, 2) := by decide +kernel
theorem dL_law_615 : decode cL_law 615 = .ok (.iconst 1, 1) := by decide +kernel
theorem dL_law_616 : decode cL_law 616 = .ok (.iadd, 1) := by decide +kernel
theorem dL_law_617 : decode cL_law 617 = .ok (.iaload, 1) := by decide +kernel
theorem dL_law_618 : decode cL_law 618 = .ok (.aload_n 0, 1) := by decide +kernel
theorem dL_law_619 : decode cL_law 619 = .ok (.iload 4, 2) := by decide +kernel
theorem dL_law_621 : decode cL_law 621 = .ok (.iconst 2, 1) := by decide +kernel
theorem dL_law_622 : decode cL_law 622 = .ok (.iadd, 1) := by decide +kernel
theorem dL_law_623 : decode cL_law 623 = .ok (.iaload, 1) := by decide +kernel
theorem dL_law_624 : decode cL_law 624 = .ok (.aload_n 0, 1) := by decide +kernel
theorem dL_law_625 : decode cL_law 625 = .ok (.iload 4, 2) := by decide +kernel
theorem dL_law_627 : decode cL_law 627 = .ok (.iconst 3, 1) := by decide +kernel
theorem dL_law_628 : decode cL_law 628 = .ok (.iadd, 1) := by decide +kernel
theorem dL_law_629 : decode cL_law 629 = .ok (.iaload, 1) := by decide +kernel
theorem dL_law_630 : decode cL_law 630 = .ok (.aload_n 0, 1) := by decide +kernel
theorem dL_law_631 : decode cL_law 631 = .ok (.iload 4, 2) := by decide +kernel
theorem dL_law_633 : decode cL_law 633 = .ok (.iconst 4, 1) := by decide +kernel
theorem dL_law_634 : decode cL_law 634 = .ok (.iadd, 1) := by decide +kernel
theorem dL_law_635 : decode cL_law 635 = .ok (.iaload, 1) := by decide +kernel
theorem dL_law_636 : decode cL_law 636 = .ok (.ifCond .eq 7, 3) := by decide +kernel
theorem dL_law_639 : decode cL_law 639 = .ok (.iconst 1, 1) := by decide +kernel
theorem dL_law_640 : decode cL_law 640 = .ok (.goto 4, 3) := by decide +kernel
theorem dL_law_643 : decode cL_law 643 = .ok (.iconst 0, 1) := by decide +kernel
theorem dL_law_644 : decode cL_law 644 = .ok (.invokevirtual 113, 3) := by decide +kernel
theorem dL_law_647 : decode cL_law 647 = .ok (.istore 6, 2) := by decide +kernel
theorem dL_law_649 : decode cL_law 649 = .ok (.aload_n 2, 1) := by decide +kernel
theorem dL_law_650 : decode cL_law 650 = .ok (.invokevirtual 85, 3) := by decide +kernel
theorem dL_law_653 : decode cL_law 653 = .ok (.iload 5, 2) := by decide +kernel
theorem dL_law_655 : decode cL_law 655 = .ok (.if_icmp .eq 5, 3) := by decide +kernel
theorem dL_law_658 : decode cL_law 658 = .ok (.iconst 0, 1) := by decide +kernel
theorem dL_law_659 : decode cL_law 659 = .ok (.ireturn, 1) := by decide +kernel
theorem dL_law_660 : decode cL_law 660 = .ok (.iload 5, 2) := by decide +kernel
theorem dL_law_662 : decode cL_law 662 = .ok (.ifCond .ne 15, 3) := by decide +kernel
theorem dL_law_665 : decode cL_law 665 = .ok (.aload_n 3, 1) := by decide +kernel
theorem dL_law_666 : decode cL_law 666 = .ok (.iconst 0, 1) := by decide +kernel
theorem dL_law_667 : decode cL_law 667 = .ok (.laload, 1) := by decide +kernel
theorem dL_law_668 : decode cL_law 668 = .ok (.iload 6, 2) := by decide +kernel
theorem dL_law_670 : decode cL_law 670 = .ok (.i2l, 1) := by decide +kernel
theorem dL_law_671 : decode cL_law 671 = .ok (.lcmp, 1) := by decide +kernel
theorem dL_law_672 : decode cL_law 672 = .ok (.ifCond .eq 5, 3) := by decide +kernel
theorem dL_law_675 : decode cL_law 675 = .ok (.iconst 0, 1) := by decide +kernel
theorem dL_law_676 : decode cL_law 676 = .ok (.ireturn, 1) := by decide +kernel
theorem dL_law_677 : decode cL_law 677 = .ok (.goto 819, 3) := by decide +kernel
theorem dL_law_680 : decode cL_law 680 = .ok (.aload_n 1, 1) := by decide +kernel
theorem dL_law_681 : decode cL_law 681 = .ok (.aload_n 0, 1) := by decide +kernel
theorem dL_law_682 : decode cL_law 682 = .ok (.iload 4, 2) := by decide +kernel
theorem dL_law_684 : decode cL_law 684 = .ok (.iconst 1, 1) := by decide +kernel
theorem dL_law_685 : decode cL_law 685 = .ok (.iadd, 1) := by decide +kernel
theorem dL_law_686 : decode cL_law 686 = .ok (.iaload, 1) := by decide +kernel
theorem dL_law_687 : decode cL_law 687 = .ok (.aload_n 3, 1) := by decide +kernel
theorem dL_law_688 : decode cL_law 688 = .ok (.invokestatic 114, 3) := by decide +kernel
theorem dL_law_691 : decode cL_law 691 = .ok (.istore 5, 2) := by decide +kernel
theorem dL_law_693 : decode cL_law 693 = .ok (.aload_n 2, 1) := by decide +kernel
theorem dL_law_694 : decode cL_law 694 = .ok (.aload_n 0, 1) := by decide +kernel
theorem dL_law_695 : decode cL_law 695 = .ok (.iload 4, 2) := by decide +kernel
theorem dL_law_697 : decode cL_law 697 = .ok (.iconst 1, 1) := by decide +kernel
theorem dL_law_698 : decode cL_law 698 = .ok (.iadd, 1) := by decide +kernel
theorem dL_law_699 : decode cL_law 699 = .ok (.iaload, 1) := by decide +kernel
theorem dL_law_700 : decode cL_law 700 = .ok (.invokevirtual 116, 3) := by decide +kernel
theorem dL_law_703 : decode cL_law 703 = .ok (.istore 6, 2) := by decide +kernel
theorem dL_law_705 : decode cL_law 705 = .ok (.aload_n 2, 1) := by decide +kernel
theorem dL_law_706 : decode cL_law 706 = .ok (.invokevirtual 85, 3) := by decide +kernel
theorem dL_law_709 : decode cL_law 709 = .ok (.iload 5, 2) := by decide +kernel
theorem dL_law_711 : decode cL_law 711 = .ok (.if_icmp .eq 5, 3) := by decide +kernel
theorem dL_law_714 : decode cL_law 714 = .ok (.iconst 0, 1) := by decide +kernel
theorem dL_law_715 : decode cL_law 715 = .ok (.ireturn, 1) := by decide +kernel
theorem dL_law_716 : decode cL_law 716 = .ok (.iload 5, 2) := by decide +kernel
theorem dL_law_718 : decode cL_law 718 = .ok (.ifCond .ne 15, 3) := by decide +kernel
theorem dL_law_721 : decode cL_law 721 = .ok (.aload_n 3, 1) := by decide +kernel
theorem dL_law_722 : decode cL_law 722 = .ok (.iconst 0, 1) := by decide +kernel
theorem dL_law_723 : decode cL_law 723 = .ok (.laload, 1) := by decide +kernel
theorem dL_law_724 : decode cL_law 724 = .ok (.iload 6, 2) := by decide +kernel
theorem dL_law_726 : decode cL_law 726 = .ok (.i2l, 1) := by decide +kernel
theorem dL_law_727 : decode cL_law 727 = .ok (.lcmp, 1) := by decide +kernel
theorem dL_law_728 : decode cL_law 728 = .ok (.ifCond .eq 5, 3) := by decide +kernel
theorem dL_law_731 : decode cL_law 731 = .ok (.iconst 0, 1) := by decide +kernel
theorem dL_law_732 : decode cL_law 732 = .ok (.ireturn, 1) := by decide +kernel
theorem dL_law_733 : decode cL_law 733 = .ok (.goto 763, 3) := by decide +kernel
theorem dL_law_736 : decode cL_law 736 = .ok (.aload_n 1, 1) := by decide +kernel
theorem dL_law_737 : decode cL_law 737 = .ok (.aload_n 0, 1) := by decide +kernel
theorem dL_law_738 : decode cL_law 738 = .ok (.iload 4, 2) := by decide +kernel
theorem dL_law_740 : decode cL_law 740 = .ok (.iconst 1, 1) := by decide +kernel
theorem dL_law_741 : decode cL_law 741 = .ok (.iadd, 1) := by decide +kernel
theorem dL_law_742 : decode cL_law 742 = .ok (.iaload, 1) := by decide +kernel
theorem dL_law_743 : decode cL_law 743 = .ok (.aload_n 0, 1) := by decide +kernel
theorem dL_law_744 : decode cL_law 744 = .ok (.iload 4, 2) := by decide +kernel
theorem dL_law_746 : decode cL_law 746 = .ok (.iconst 2, 1) := by decide +kernel
theorem dL_law_747 : decode cL_law 747 = .ok (.iadd, 1) := by decide +kernel
theorem dL_law_748 : decode cL_law 748 = .ok (.iaload, 1) := by decide +kernel
theorem dL_law_749 : decode cL_law 749 = .ok (.aload_n 0, 1) := by decide +kernel
theorem dL_law_750 : decode cL_law 750 = .ok (.iload 4, 2) := by decide +kernel
theorem dL_law_752 : decode cL_law 752 = .ok (.iconst 3, 1) := by decide +kernel
theorem dL_law_753 : decode cL_law 753 = .ok (.iadd, 1) := by decide +kernel
theorem dL_law_754 : decode cL_law 754 = .ok (.iaload, 1) := by decide +kernel
theorem dL_law_755 : decode cL_law 755 = .ok (.aload_n 0, 1) := by decide +kernel
theorem dL_law_756 : decode cL_law 756 = .ok (.iload 4, 2) := by decide +kernel
theorem dL_law_758 : decode cL_law 758 = .ok (.iconst 4, 1) := by decide +kernel
theorem dL_law_759 : decode cL_law 759 = .ok (.iadd, 1) := by decide +kernel
theorem dL_law_760 : decode cL_law 760 = .ok (.iaload, 1) := by decide +kernel
theorem dL_law_761 : decode cL_law 761 = .ok (.aload_n 3, 1) := by decide +kernel
theorem dL_law_762 : decode cL_law 762 = .ok (.invokestatic 117, 3) := by decide +kernel
theorem dL_law_765 : decode cL_law 765 = .ok (.istore 5, 2) := by decide +kernel
theorem dL_law_767 : decode cL_law 767 = .ok (.aload_n 2, 1) := by decide +kernel
theorem dL_law_768 : decode cL_law 768 = .ok (.aload_n 0, 1) := by decide +kernel
theorem dL_law_769 : decode cL_law 769 = .ok (.iload 4, 2) := by decide +kernel
theorem dL_law_771 : decode cL_law 771 = .ok (.iconst 1, 1) := by decide +kernel
theorem dL_law_772 : decode cL_law 772 = .ok (.iadd, 1) := by decide +kernel
theorem dL_law_773 : decode cL_law 773 = .ok (.iaload, 1) := by decide +kernel
theorem dL_law_774 : decode cL_law 774 = .ok (.aload_n 0, 1) := by decide +kernel
theorem dL_law_775 : decode cL_law 775 = .ok (.iload 4, 2) := by decide +kernel
theorem dL_law_777 : decode cL_law 777 = .ok (.iconst 2, 1) := by decide +kernel
theorem dL_law_778 : decode cL_law 778 = .ok (.iadd, 1) := by decide +kernel
theorem dL_law_779 : decode cL_law 779 = .ok (.iaload, 1) := by decide +kernel
theorem dL_law_780 : decode cL_law 780 = .ok (.aload_n 0, 1) := by decide +kernel
theorem dL_law_781 : decode cL_law 781 = .ok (.iload 4, 2) := by decide +kernel
theorem dL_law_783 : decode cL_law 783 = .ok (.iconst 3, 1) := by decide +kernel
theorem dL_law_784 : decode cL_law 784 = .ok (.iadd, 1) := by decide +kernel
theorem dL_law_785 : decode cL_law 785 = .ok (.iaload, 1) := by decide +kernel
theorem dL_law_786 : decode cL_law 786 = .ok (.aload_n 0, 1) := by decide +kernel
theorem dL_law_787 : decode cL_law 787 = .ok (.iload 4, 2) := by decide +kernel
theorem dL_law_789 : decode cL_law 789 = .ok (.iconst 4, 1) := by decide +kernel
theorem dL_law_790 : decode cL_law 790 = .ok (.iadd, 1) := by decide +kernel
theorem dL_law_791 : decode cL_law 791 = .ok (.iaload, 1) := by decide +kernel
theorem dL_law_792 : decode cL_law 792 = .ok (.invokevirtual 120, 3) := by decide +kernel
theorem dL_law_795 : decode cL_law 795 = .ok (.istore 6, 2) := by decide +kernel
theorem dL_law_797 : decode cL_law 797 = .ok (.aload_n 2, 1) := by decide +kernel
theorem dL_law_798 : decode cL_law 798 = .ok (.invokevirtual 85, 3) := by decide +kernel
theorem dL_law_801 : decode cL_law 801 = .ok (.iload 5, 2) := by decide +kernel
theorem dL_law_803 : decode cL_law 803 = .ok (.if_icmp .eq 5, 3) := by decide +kernel
theorem dL_law_806 : decode cL_law 806 = .ok (.iconst 0, 1) := by decide +kernel
theorem dL_law_807 : decode cL_law 807 = .ok (.ireturn, 1) := by decide +kernel
theorem dL_law_808 : decode cL_law 808 = .ok (.iload 5, 2) := by decide +kernel
theorem dL_law_810 : decode cL_law 810 = .ok (.ifCond .ne 15, 3) := by decide +kernel
theorem dL_law_813 : decode cL_law 813 = .ok (.aload_n 3, 1) := by decide +kernel
theorem dL_law_814 : decode cL_law 814 = .ok (.iconst 0, 1) := by decide +kernel
theorem dL_law_815 : decode cL_law 815 = .ok (.laload, 1) := by decide +kernel
theorem dL_law_816 : decode cL_law 816 = .ok (.iload 6, 2) := by decide +kernel
theorem dL_law_818 : decode cL_law 818 = .ok (.i2l, 1) := by decide +kernel
theorem dL_law_819 : decode cL_law 819 = .ok (.lcmp, 1) := by decide +kernel
theorem dL_law_820 : decode cL_law 820 = .ok (.ifCond .eq 5, 3) := by decide +kernel
theorem dL_law_823 : decode cL_law 823 = .ok (.iconst 0, 1) := by decide +kernel
theorem dL_law_824 : decode cL_law 824 = .ok (.ireturn, 1) := by decide +kernel
theorem dL_law_825 : decode cL_law 825 = .ok (.goto 671, 3) := by decide +kernel
theorem dL_law_828 : decode cL_law 828 = .ok (.aload_n 1, 1) := by decide +kernel
theorem dL_law_829 : decode cL_law 829 = .ok (.aload_n 0, 1) := by decide +kernel
theorem dL_law_830 : decode cL_law 830 = .ok (.iload 4, 2) := by decide +kernel
theorem dL_law_832 : decode cL_law 832 = .ok (.iconst 1, 1) := by decide +kernel
theorem dL_law_833 : decode cL_law 833 = .ok (.iadd, 1) := by decide +kernel
theorem dL_law_834 : decode cL_law 834 = .ok (.iaload, 1) := by decide +kernel
theorem dL_law_835 : decode cL_law 835 = .ok (.aload_n 0, 1) := by decide +kernel
theorem dL_law_836 : decode cL_law 836 = .ok (.iload 4, 2) := by decide +kernel
theorem dL_law_838 : decode cL_law 838 = .ok (.iconst 2, 1) := by decide +kernel
theorem dL_law_839 : decode cL_law 839 = .ok (.iadd, 1) := by decide +kernel
theorem dL_law_840 : decode cL_law 840 = .ok (.iaload, 1) := by decide +kernel
theorem dL_law_841 : decode cL_law 841 = .ok (.aload_n 0, 1) := by decide +kernel
theorem dL_law_842 : decode cL_law 842 = .ok (.iload 4, 2) := by decide +kernel
theorem dL_law_844 : decode cL_law 844 = .ok (.iconst 3, 1) := by decide +kernel
theorem dL_law_845 : decode cL_law 845 = .ok (.iadd, 1) := by decide +kernel
theorem dL_law_846 : decode cL_law 846 = .ok (.iaload, 1) := by decide +kernel
theorem dL_law_847 : decode cL_law 847 = .ok (.aload_n 0, 1) := by decide +kernel
theorem dL_law_848 : decode cL_law 848 = .ok (.iload 4, 2) := by decide +kernel
theorem dL_law_850 : decode cL_law 850 = .ok (.iconst 4, 1) := by decide +kernel
theorem dL_law_851 : decode cL_law 851 = .ok (.iadd, 1) := by decide +kernel
theorem dL_law_852 : decode cL_law 852 = .ok (.iaload, 1) := by decide +kernel
theorem dL_law_853 : decode cL_law 853 = .ok (.aload_n 3, 1) := by decide +kernel
theorem dL_law_854 : decode cL_law 854 = .ok (.invokestatic 121, 3) := by decide +kernel
theorem dL_law_857 : decode cL_law 857 = .ok (.istore 5, 2) := by decide +kernel
theorem dL_law_859 : decode cL_law 859 = .ok (.aload_n 2, 1) := by decide +kernel
theorem dL_law_860 : decode cL_law 860 = .ok (.aload_n 0, 1) := by decide +kernel
theorem dL_law_861 : decode cL_law 861 = .ok (.iload 4, 2) := by decide +kernel
theorem dL_law_863 : decode cL_law 863 = .ok (.iconst 1, 1) := by decide +kernel
theorem dL_law_864 : decode cL_law 864 = .ok (.iadd, 1) := by decide +kernel
theorem dL_law_865 : decode cL_law 865 = .ok (.iaload, 1) := by decide +kernel
theorem dL_law_866 : decode cL_law 866 = .ok (.aload_n 0, 1) := by decide +kernel
theorem dL_law_867 : decode cL_law 867 = .ok (.iload 4, 2) := by decide +kernel
theorem dL_law_869 : decode cL_law 869 = .ok (.iconst 2, 1) := by decide +kernel
theorem dL_law_870 : decode cL_law 870 = .ok (.iadd, 1) := by decide +kernel
theorem dL_law_871 : decode cL_law 871 = .ok (.iaload, 1) := by decide +kernel
theorem dL_law_872 : decode cL_law 872 = .ok (.aload_n 0, 1) := by decide +kernel
theorem dL_law_873 : decode cL_law 873 = .ok (.iload 4, 2) := by decide +kernel
theorem dL_law_875 : decode cL_law 875 = .ok (.iconst 3, 1) := by decide +kernel
theorem dL_law_876 : decode cL_law 876 = .ok (.iadd, 1) := by decide +kernel
theorem dL_law_877 : decode cL_law 877 = .ok (.iaload, 1) := by decide +kernel
theorem dL_law_878 : decode cL_law 878 = .ok (.aload_n 0, 1) := by decide +kernel
theorem dL_law_879 : decode cL_law 879 = .ok (.iload 4, 2) := by decide +kernel
theorem dL_law_881 : decode cL_law 881 = .ok (.iconst 4, 1) := by decide +kernel
theorem dL_law_882 : decode cL_law 882 = .ok (.iadd, 1) := by decide +kernel
theorem dL_law_883 : decode cL_law 883 = .ok (.iaload, 1) := by decide +kernel
theorem dL_law_884 : decode cL_law 884 = .ok (.invokevirtual 123, 3) := by decide +kernel
theorem dL_law_887 : decode cL_law 887 = .ok (.istore 6, 2) := by decide +kernel
theorem dL_law_889 : decode cL_law 889 = .ok (.aload_n 2, 1) := by decide +kernel
theorem dL_law_890 : decode cL_law 890 = .ok (.invokevirtual 85, 3) := by decide +kernel
theorem dL_law_893 : decode cL_law 893 = .ok (.iload 5, 2) := by decide +kernel
theorem dL_law_895 : decode cL_law 895 = .ok (.if_icmp .eq 5, 3) := by decide +kernel
theorem dL_law_898 : decode cL_law 898 = .ok (.iconst 0, 1) := by decide +kernel
theorem dL_law_899 : decode cL_law 899 = .ok (.ireturn, 1) := by decide +kernel
theorem dL_law_900 : decode cL_law 900 = .ok (.iload 5, 2) := by decide +kernel
theorem dL_law_902 : decode cL_law 902 = .ok (.ifCond .ne 15, 3) := by decide +kernel
theorem dL_law_905 : decode cL_law 905 = .ok (.aload_n 3, 1) := by decide +kernel
theorem dL_law_906 : decode cL_law 906 = .ok (.iconst 0, 1) := by decide +kernel
theorem dL_law_907 : decode cL_law 907 = .ok (.laload, 1) := by decide +kernel
theorem dL_law_908 : decode cL_law 908 = .ok (.iload 6, 2) := by decide +kernel
theorem dL_law_910 : decode cL_law 910 = .ok (.i2l, 1) := by decide +kernel
theorem dL_law_911 : decode cL_law 911 = .ok (.lcmp, 1) := by decide +kernel
theorem dL_law_912 : decode cL_law 912 = .ok (.ifCond .eq 5, 3) := by decide +kernel
theorem dL_law_915 : decode cL_law 915 = .ok (.iconst 0, 1) := by decide +kernel
theorem dL_law_916 : decode cL_law 916 = .ok (.ireturn, 1) := by decide +kernel
theorem dL_law_917 : decode cL_law 917 = .ok (.goto 579, 3) := by decide +kernel
theorem dL_law_920 : decode cL_law 920 = .ok (.aload_n 1, 1) := by decide +kernel
theorem dL_law_921 : decode cL_law 921 = .ok (.aload_n 0, 1) := by decide +kernel
theorem dL_law_922 : decode cL_law 922 = .ok (.iload 4, 2) := by decide +kernel
theorem dL_law_924 : decode cL_law 924 = .ok (.iconst 1, 1) := by decide +kernel
theorem dL_law_925 : decode cL_law 925 = .ok (.iadd, 1) := by decide +kernel
theorem dL_law_926 : decode cL_law 926 = .ok (.iaload, 1) := by decide +kernel
theorem dL_law_927 : decode cL_law 927 = .ok (.aload_n 0, 1) := by decide +kernel
theorem dL_law_928 : decode cL_law 928 = .ok (.iload 4, 2) := by decide +kernel
theorem dL_law_930 : decode cL_law 930 = .ok (.iconst 2, 1) := by decide +kernel
theorem dL_law_931 : decode cL_law 931 = .ok (.iadd, 1) := by decide +kernel
theorem dL_law_932 : decode cL_law 932 = .ok (.iaload, 1) := by decide +kernel
theorem dL_law_933 : decode cL_law 933 = .ok (.aload_n 0, 1) := by decide +kernel
theorem dL_law_934 : decode cL_law 934 = .ok (.iload 4, 2) := by decide +kernel
theorem dL_law_936 : decode cL_law 936 = .ok (.iconst 3, 1) := by decide +kernel
theorem dL_law_937 : decode cL_law 937 = .ok (.iadd, 1) := by decide +kernel
theorem dL_law_938 : decode cL_law 938 = .ok (.iaload, 1) := by decide +kernel
theorem dL_law_939 : decode cL_law 939 = .ok (.aload_n 3, 1) := by decide +kernel
theorem dL_law_940 : decode cL_law 940 = .ok (.invokestatic 124, 3) := by decide +kernel
theorem dL_law_943 : decode cL_law 943 = .ok (.istore 5, 2) := by decide +kernel
theorem dL_law_945 : decode cL_law 945 = .ok (.aload_n 2, 1) := by decide +kernel
theorem dL_law_946 : decode cL_law 946 = .ok (.aload_n 0, 1) := by decide +kernel
theorem dL_law_947 : decode cL_law 947 = .ok (.iload 4, 2) := by decide +kernel
theorem dL_law_949 : decode cL_law 949 = .ok (.iconst 1, 1) := by decide +kernel
theorem dL_law_950 : decode cL_law 950 = .ok (.iadd, 1) := by decide +kernel
theorem dL_law_951 : decode cL_law 951 = .ok (.iaload, 1) := by decide +kernel
theorem dL_law_952 : decode cL_law 952 = .ok (.aload_n 0, 1) := by decide +kernel
theorem dL_law_953 : decode cL_law 953 = .ok (.iload 4, 2) := by decide +kernel
theorem dL_law_955 : decode cL_law 955 = .ok (.iconst 2, 1) := by decide +kernel
theorem dL_law_956 : decode cL_law 956 = .ok (.iadd, 1) := by decide +kernel
theorem dL_law_957 : decode cL_law 957 = .ok (.iaload, 1) := by decide +kernel
theorem dL_law_958 : decode cL_law 958 = .ok (.aload_n 0, 1) := by decide +kernel
theorem dL_law_959 : decode cL_law 959 = .ok (.iload 4, 2) := by decide +kernel
theorem dL_law_961 : decode cL_law 961 = .ok (.iconst 3, 1) := by decide +kernel
theorem dL_law_962 : decode cL_law 962 = .ok (.iadd, 1) := by decide +kernel
theorem dL_law_963 : decode cL_law 963 = .ok (.iaload, 1) := by decide +kernel
theorem dL_law_964 : decode cL_law 964 = .ok (.invokevirtual 127, 3) := by decide +kernel
theorem dL_law_967 : decode cL_law 967 = .ok (.istore 6, 2) := by decide +kernel
theorem dL_law_969 : decode cL_law 969 = .ok (.aload_n 2, 1) := by decide +kernel
theorem dL_law_970 : decode cL_law 970 = .ok (.invokevirtual 85, 3) := by decide +kernel
theorem dL_law_973 : decode cL_law 973 = .ok (.iload 5, 2) := by decide +kernel
theorem dL_law_975 : decode cL_law 975 = .ok (.if_icmp .eq 5, 3) := by decide +kernel
theorem dL_law_978 : decode cL_law 978 = .ok (.iconst 0, 1) := by decide +kernel
theorem dL_law_979 : decode cL_law 979 = .ok (.ireturn, 1) := by decide +kernel
theorem dL_law_980 : decode cL_law 980 = .ok (.iload 5, 2) := by decide +kernel
theorem dL_law_982 : decode cL_law 982 = .ok (.ifCond .ne 15, 3) := by decide +kernel
theorem dL_law_985 : decode cL_law 985 = .ok (.aload_n 3, 1) := by decide +kernel
theorem dL_law_986 : decode cL_law 986 = .ok (.iconst 0, 1) := by decide +kernel
theorem dL_law_987 : decode cL_law 987 = .ok (.laload, 1) := by decide +kernel
theorem dL_law_988 : decode cL_law 988 = .ok (.iload 6, 2) := by decide +kernel
theorem dL_law_990 : decode cL_law 990 = .ok (.i2l, 1) := by decide +kernel
theorem dL_law_991 : decode cL_law 991 = .ok (.lcmp, 1) := by decide +kernel
theorem dL_law_992 : decode cL_law 992 = .ok (.ifCond .eq 5, 3) := by decide +kernel
theorem dL_law_995 : decode cL_law 995 = .ok (.iconst 0, 1) := by decide +kernel
theorem dL_law_996 : decode cL_law 996 = .ok (.ireturn, 1) := by decide +kernel
theorem dL_law_997 : decode cL_law 997 = .ok (.goto 499, 3) := by decide +kernel
theorem dL_law_1000 : decode cL_law 1000 = .ok (.aload_n 1, 1) := by decide +kernel
theorem dL_law_1001 : decode cL_law 1001 = .ok (.aload_n 0, 1) := by decide +kernel
theorem dL_law_1002 : decode cL_law 1002 = .ok (.iload 4, 2) := by decide +kernel
theorem dL_law_1004 : decode cL_law 1004 = .ok (.iconst 1, 1) := by decide +kernel
theorem dL_law_1005 : decode cL_law 1005 = .ok (.iadd, 1) := by decide +kernel
theorem dL_law_1006 : decode cL_law 1006 = .ok (.iaload, 1) := by decide +kernel
theorem dL_law_1007 : decode cL_law 1007 = .ok (.aload_n 0, 1) := by decide +kernel
theorem dL_law_1008 : decode cL_law 1008 = .ok (.iload 4, 2) := by decide +kernel
theorem dL_law_1010 : decode cL_law 1010 = .ok (.iconst 2, 1) := by decide +kernel
theorem dL_law_1011 : decode cL_law 1011 = .ok (.iadd, 1) := by decide +kernel
theorem dL_law_1012 : decode cL_law 1012 = .ok (.iaload, 1) := by decide +kernel
theorem dL_law_1013 : decode cL_law 1013 = .ok (.aload_n 0, 1) := by decide +kernel
theorem dL_law_1014 : decode cL_law 1014 = .ok (.iload 4, 2) := by decide +kernel
theorem dL_law_1016 : decode cL_law 1016 = .ok (.iconst 3, 1) := by decide +kernel
theorem dL_law_1017 : decode cL_law 1017 = .ok (.iadd, 1) := by decide +kernel
theorem dL_law_1018 : decode cL_law 1018 = .ok (.iaload, 1) := by decide +kernel
theorem dL_law_1019 : decode cL_law 1019 = .ok (.aload_n 3, 1) := by decide +kernel
theorem dL_law_1020 : decode cL_law 1020 = .ok (.invokestatic 128, 3) := by decide +kernel
theorem dL_law_1023 : decode cL_law 1023 = .ok (.istore 5, 2) := by decide +kernel
theorem dL_law_1025 : decode cL_law 1025 = .ok (.aload_n 2, 1) := by decide +kernel
theorem dL_law_1026 : decode cL_law 1026 = .ok (.aload_n 0, 1) := by decide +kernel
theorem dL_law_1027 : decode cL_law 1027 = .ok (.iload 4, 2) := by decide +kernel
theorem dL_law_1029 : decode cL_law 1029 = .ok (.iconst 1, 1) := by decide +kernel
theorem dL_law_1030 : decode cL_law 1030 = .ok (.iadd, 1) := by decide +kernel
theorem dL_law_1031 : decode cL_law 1031 = .ok (.iaload, 1) := by decide +kernel
theorem dL_law_1032 : decode cL_law 1032 = .ok (.aload_n 0, 1) := by decide +kernel
theorem dL_law_1033 : decode cL_law 1033 = .ok (.iload 4, 2) := by decide +kernel
theorem dL_law_1035 : decode cL_law 1035 = .ok (.iconst 2, 1) := by decide +kernel
theorem dL_law_1036 : decode cL_law 1036 = .ok (.iadd, 1) := by decide +kernel
theorem dL_law_1037 : decode cL_law 1037 = .ok (.iaload, 1) := by decide +kernel
theorem dL_law_1038 : decode cL_law 1038 = .ok (.aload_n 0, 1) := by decide +kernel
theorem dL_law_1039 : decode cL_law 1039 = .ok (.iload 4, 2) := by decide +kernel
theorem dL_law_1041 : decode cL_law 1041 = .ok (.iconst 3, 1) := by decide +kernel
theorem dL_law_1042 : decode cL_law 1042 = .ok (.iadd, 1) := by decide +kernel
theorem dL_law_1043 : decode cL_law 1043 = .ok (.iaload, 1) := by decide +kernel
theorem dL_law_1044 : decode cL_law 1044 = .ok (.invokevirtual 130, 3) := by decide +kernel
theorem dL_law_1047 : decode cL_law 1047 = .ok (.istore 6, 2) := by decide +kernel
theorem dL_law_1049 : decode cL_law 1049 = .ok (.aload_n 2, 1) := by decide +kernel
theorem dL_law_1050 : decode cL_law 1050 = .ok (.invokevirtual 85, 3) := by decide +kernel
theorem dL_law_1053 : decode cL_law 1053 = .ok (.iload 5, 2) := by decide +kernel
theorem dL_law_1055 : decode cL_law 1055 = .ok (.if_icmp .eq 5, 3) := by decide +kernel
theorem dL_law_1058 : decode cL_law 1058 = .ok (.iconst 0, 1) := by decide +kernel
theorem dL_law_1059 : decode cL_law 1059 = .ok (.ireturn, 1) := by decide +kernel
theorem dL_law_1060 : decode cL_law 1060 = .ok (.iload 5, 2) := by decide +kernel
theorem dL_law_1062 : decode cL_law 1062 = .ok (.ifCond .ne 15, 3) := by decide +kernel
theorem dL_law_1065 : decode cL_law 1065 = .ok (.aload_n 3, 1) := by decide +kernel
theorem dL_law_1066 : decode cL_law 1066 = .ok (.iconst 0, 1) := by decide +kernel
theorem dL_law_1067 : decode cL_law 1067 = .ok (.laload, 1) := by decide +kernel
theorem dL_law_1068 : decode cL_law 1068 = .ok (.iload 6, 2) := by decide +kernel
theorem dL_law_1070 : decode cL_law 1070 = .ok (.i2l, 1) := by decide +kernel
theorem dL_law_1071 : decode cL_law 1071 = .ok (.lcmp, 1) := by decide +kernel
theorem dL_law_1072 : decode cL_law 1072 = .ok (.ifCond .eq 5, 3) := by decide +kernel
theorem dL_law_1075 : decode cL_law 1075 = .ok (.iconst 0, 1) := by decide +kernel
theorem dL_law_1076 : decode cL_law 1076 = .ok (.ireturn, 1) := by decide +kernel
theorem dL_law_1077 : decode cL_law 1077 = .ok (.goto 419, 3) := by decide +kernel
theorem dL_law_1080 : decode cL_law 1080 = .ok (.aload_n 1, 1) := by decide +kernel
theorem dL_law_1081 : decode cL_law 1081 = .ok (.aload_n 0, 1) := by decide +kernel
theorem dL_law_1082 : decode cL_law 1082 = .ok (.iload 4, 2) := by decide +kernel
theorem dL_law_1084 : decode cL_law 1084 = .ok (.iconst 1, 1) := by decide +kernel
theorem dL_law_1085 : decode cL_law 1085 = .ok (.iadd, 1) := by decide +kernel
theorem dL_law_1086 : decode cL_law 1086 = .ok (.iaload, 1) := by decide +kernel
theorem dL_law_1087 : decode cL_law 1087 = .ok (.aload_n 0, 1) := by decide +kernel
theorem dL_law_1088 : decode cL_law 1088 = .ok (.iload 4, 2) := by decide +kernel
theorem dL_law_1090 : decode cL_law 1090 = .ok (.iconst 2, 1) := by decide +kernel
theorem dL_law_1091 : decode cL_law 1091 = .ok (.iadd, 1) := by decide +kernel
theorem dL_law_1092 : decode cL_law 1092 = .ok (.iaload, 1) := by decide +kernel
theorem dL_law_1093 : decode cL_law 1093 = .ok (.aload_n 0, 1) := by decide +kernel
theorem dL_law_1094 : decode cL_law 1094 = .ok (.iload 4, 2) := by decide +kernel
theorem dL_law_1096 : decode cL_law 1096 = .ok (.iconst 3, 1) := by decide +kernel
theorem dL_law_1097 : decode cL_law 1097 = .ok (.iadd, 1) := by decide +kernel
theorem dL_law_1098 : decode cL_law 1098 = .ok (.iaload, 1) := by decide +kernel
theorem dL_law_1099 : decode cL_law 1099 = .ok (.aload_n 3, 1) := by decide +kernel
theorem dL_law_1100 : decode cL_law 1100 = .ok (.invokestatic 131, 3) := by decide +kernel
theorem dL_law_1103 : decode cL_law 1103 = .ok (.istore 5, 2) := by decide +kernel
theorem dL_law_1105 : decode cL_law 1105 = .ok (.aload_n 2, 1) := by decide +kernel
theorem dL_law_1106 : decode cL_law 1106 = .ok (.aload_n 0, 1) := by decide +kernel
theorem dL_law_1107 : decode cL_law 1107 = .ok (.iload 4, 2) := by decide +kernel
theorem dL_law_1109 : decode cL_law 1109 = .ok (.iconst 1, 1) := by decide +kernel
theorem dL_law_1110 : decode cL_law 1110 = .ok (.iadd, 1) := by decide +kernel
theorem dL_law_1111 : decode cL_law 1111 = .ok (.iaload, 1) := by decide +kernel
theorem dL_law_1112 : decode cL_law 1112 = .ok (.aload_n 0, 1) := by decide +kernel
theorem dL_law_1113 : decode cL_law 1113 = .ok (.iload 4, 2) := by decide +kernel
theorem dL_law_1115 : decode cL_law 1115 = .ok (.iconst 2, 1) := by decide +kernel
theorem dL_law_1116 : decode cL_law 1116 = .ok (.iadd, 1) := by decide +kernel
theorem dL_law_1117 : decode cL_law 1117 = .ok (.iaload, 1) := by decide +kernel
theorem dL_law_1118 : decode cL_law 1118 = .ok (.aload_n 0, 1) := by decide +kernel
theorem dL_law_1119 : decode cL_law 1119 = .ok (.iload 4, 2) := by decide +kernel
theorem dL_law_1121 : decode cL_law 1121 = .ok (.iconst 3, 1) := by decide +kernel
theorem dL_law_1122 : decode cL_law 1122 = .ok (.iadd, 1) := by decide +kernel
theorem dL_law_1123 : decode cL_law 1123 = .ok (.iaload, 1) := by decide +kernel
theorem dL_law_1124 : decode cL_law 1124 = .ok (.invokevirtual 133, 3) := by decide +kernel
theorem dL_law_1127 : decode cL_law 1127 = .ok (.istore 6, 2) := by decide +kernel
theorem dL_law_1129 : decode cL_law 1129 = .ok (.aload_n 2, 1) := by decide +kernel
theorem dL_law_1130 : decode cL_law 1130 = .ok (.invokevirtual 85, 3) := by decide +kernel
theorem dL_law_1133 : decode cL_law 1133 = .ok (.iload 5, 2) := by decide +kernel
theorem dL_law_1135 : decode cL_law 1135 = .ok (.if_icmp .eq 5, 3) := by decide +kernel
theorem dL_law_1138 : decode cL_law 1138 = .ok (.iconst 0, 1) := by decide +kernel
theorem dL_law_1139 : decode cL_law 1139 = .ok (.ireturn, 1) := by decide +kernel
theorem dL_law_1140 : decode cL_law 1140 = .ok (.iload 5, 2) := by decide +kernel
theorem dL_law_1142 : decode cL_law 1142 = .ok (.ifCond .ne 22, 3) := by decide +kernel
theorem dL_law_1145 : decode cL_law 1145 = .ok (.aload_n 3, 1) := by decide +kernel
theorem dL_law_1146 : decode cL_law 1146 = .ok (.iconst 0, 1) := by decide +kernel
theorem dL_law_1147 : decode cL_law 1147 = .ok (.laload, 1) := by decide +kernel
theorem dL_law_1148 : decode cL_law 1148 = .ok (.iload 6, 2) := by decide +kernel
theorem dL_law_1150 : decode cL_law 1150 = .ok (.ifCond .eq 7, 3) := by decide +kernel
theorem dL_law_1153 : decode cL_law 1153 = .ok (.lconst 1, 1) := by decide +kernel
theorem dL_law_1154 : decode cL_law 1154 = .ok (.goto 4, 3) := by decide +kernel
theorem dL_law_1157 : decode cL_law 1157 = .ok (.lconst 0, 1) := by decide +kernel
theorem dL_law_1158 : decode cL_law 1158 = .ok (.lcmp, 1) := by decide +kernel
theorem dL_law_1159 : decode cL_law 1159 = .ok (.ifCond .eq 5, 3) := by decide +kernel
theorem dL_law_1162 : decode cL_law 1162 = .ok (.iconst 0, 1) := by decide +kernel
theorem dL_law_1163 : decode cL_law 1163 = .ok (.ireturn, 1) := by decide +kernel
theorem dL_law_1164 : decode cL_law 1164 = .ok (.goto 332, 3) := by decide +kernel
theorem dL_law_1167 : decode cL_law 1167 = .ok (.aload_n 1, 1) := by decide +kernel
theorem dL_law_1168 : decode cL_law 1168 = .ok (.aload_n 0, 1) := by decide +kernel
theorem dL_law_1169 : decode cL_law 1169 = .ok (.iload 4, 2) := by decide +kernel
theorem dL_law_1171 : decode cL_law 1171 = .ok (.iconst 1, 1) := by decide +kernel
theorem dL_law_1172 : decode cL_law 1172 = .ok (.iadd, 1) := by decide +kernel
theorem dL_law_1173 : decode cL_law 1173 = .ok (.iaload, 1) := by decide +kernel
theorem dL_law_1174 : decode cL_law 1174 = .ok (.aload_n 0, 1) := by decide +kernel
theorem dL_law_1175 : decode cL_law 1175 = .ok (.iload 4, 2) := by decide +kernel
theorem dL_law_1177 : decode cL_law 1177 = .ok (.iconst 2, 1) := by decide +kernel
theorem dL_law_1178 : decode cL_law 1178 = .ok (.iadd, 1) := by decide +kernel
theorem dL_law_1179 : decode cL_law 1179 = .ok (.iaload, 1) := by decide +kernel
theorem dL_law_1180 : decode cL_law 1180 = .ok (.aload_n 0, 1) := by decide +kernel
theorem dL_law_1181 : decode cL_law 1181 = .ok (.iload 4, 2) := by decide +kernel
theorem dL_law_1183 : decode cL_law 1183 = .ok (.iconst 3, 1) := by decide +kernel
theorem dL_law_1184 : decode cL_law 1184 = .ok (.iadd, 1) := by decide +kernel
theorem dL_law_1185 : decode cL_law 1185 = .ok (.iaload, 1) := by decide +kernel
theorem dL_law_1186 : decode cL_law 1186 = .ok (.aload_n 3, 1) := by decide +kernel
theorem dL_law_1187 : decode cL_law 1187 = .ok (.invokestatic 134, 3) := by decide +kernel
theorem dL_law_1190 : decode cL_law 1190 = .ok (.istore 5, 2) := by decide +kernel
theorem dL_law_1192 : decode cL_law 1192 = .ok (.aload_n 2, 1) := by decide +kernel
theorem dL_law_1193 : decode cL_law 1193 = .ok (.aload_n 0, 1) := by decide +kernel
theorem dL_law_1194 : decode cL_law 1194 = .ok (.iload 4, 2) := by decide +kernel
theorem dL_law_1196 : decode cL_law 1196 = .ok (.iconst 1, 1) := by decide +kernel
theorem dL_law_1197 : decode cL_law 1197 = .ok (.iadd, 1) := by decide +kernel
theorem dL_law_1198 : decode cL_law 1198 = .ok (.iaload, 1) := by decide +kernel
theorem dL_law_1199 : decode cL_law 1199 = .ok (.aload_n 0, 1) := by decide +kernel
theorem dL_law_1200 : decode cL_law 1200 = .ok (.iload 4, 2) := by decide +kernel
theorem dL_law_1202 : decode cL_law 1202 = .ok (.iconst 2, 1) := by decide +kernel
theorem dL_law_1203 : decode cL_law 1203 = .ok (.iadd, 1) := by decide +kernel
theorem dL_law_1204 : decode cL_law 1204 = .ok (.iaload, 1) := by decide +kernel
theorem dL_law_1205 : decode cL_law 1205 = .ok (.aload_n 0, 1) := by decide +kernel
theorem dL_law_1206 : decode cL_law 1206 = .ok (.iload 4, 2) := by decide +kernel
theorem dL_law_1208 : decode cL_law 1208 = .ok (.iconst 3, 1) := by decide +kernel
theorem dL_law_1209 : decode cL_law 1209 = .ok (.iadd, 1) := by decide +kernel
theorem dL_law_1210 : decode cL_law 1210 = .ok (.iaload, 1) := by decide +kernel
theorem dL_law_1211 : decode cL_law 1211 = .ok (.invokevirtual 136, 3) := by decide +kernel
theorem dL_law_1214 : decode cL_law 1214 = .ok (.istore 6, 2) := by decide +kernel
theorem dL_law_1216 : decode cL_law 1216 = .ok (.aload_n 2, 1) := by decide +kernel
theorem dL_law_1217 : decode cL_law 1217 = .ok (.invokevirtual 85, 3) := by decide +kernel
theorem dL_law_1220 : decode cL_law 1220 = .ok (.iload 5, 2) := by decide +kernel
theorem dL_law_1222 : decode cL_law 1222 = .ok (.if_icmp .eq 5, 3) := by decide +kernel
theorem dL_law_1225 : decode cL_law 1225 = .ok (.iconst 0, 1) := by decide +kernel
theorem dL_law_1226 : decode cL_law 1226 = .ok (.ireturn, 1) := by decide +kernel
theorem dL_law_1227 : decode cL_law 1227 = .ok (.iload 5, 2) := by decide +kernel
theorem dL_law_1229 : decode cL_law 1229 = .ok (.ifCond .ne 15, 3) := by decide +kernel
theorem dL_law_1232 : decode cL_law 1232 = .ok (.aload_n 3, 1) := by decide +kernel
theorem dL_law_1233 : decode cL_law 1233 = .ok (.iconst 0, 1) := by decide +kernel
theorem dL_law_1234 : decode cL_law 1234 = .ok (.laload, 1) := by decide +kernel
theorem dL_law_1235 : decode cL_law 1235 = .ok (.iload 6, 2) := by decide +kernel
theorem dL_law_1237 : decode cL_law 1237 = .ok (.i2l, 1) := by decide +kernel
theorem dL_law_1238 : decode cL_law 1238 = .ok (.lcmp, 1) := by decide +kernel
theorem dL_law_1239 : decode cL_law 1239 = .ok (.ifCond .eq 5, 3) := by decide +kernel
theorem dL_law_1242 : decode cL_law 1242 = .ok (.iconst 0, 1) := by decide +kernel
theorem dL_law_1243 : decode cL_law 1243 = .ok (.ireturn, 1) := by decide +kernel
theorem dL_law_1244 : decode cL_law 1244 = .ok (.goto 252, 3) := by decide +kernel
theorem dL_law_1247 : decode cL_law 1247 = .ok (.aload_n 1, 1) := by decide +kernel
theorem dL_law_1248 : decode cL_law 1248 = .ok (.aload_n 0, 1) := by decide +kernel
theorem dL_law_1249 : decode cL_law 1249 = .ok (.iload 4, 2) := by decide +kernel
theorem dL_law_1251 : decode cL_law 1251 = .ok (.iconst 1, 1) := by decide +kernel
theorem dL_law_1252 : decode cL_law 1252 = .ok (.iadd, 1) := by decide +kernel
theorem dL_law_1253 : decode cL_law 1253 = .ok (.iaload, 1) := by decide +kernel
theorem dL_law_1254 : decode cL_law 1254 = .ok (.aload_n 3, 1) := by decide +kernel
theorem dL_law_1255 : decode cL_law 1255 = .ok (.invokestatic 137, 3) := by decide +kernel
theorem dL_law_1258 : decode cL_law 1258 = .ok (.istore 5, 2) := by decide +kernel
theorem dL_law_1260 : decode cL_law 1260 = .ok (.aload_n 2, 1) := by decide +kernel
theorem dL_law_1261 : decode cL_law 1261 = .ok (.aload_n 0, 1) := by decide +kernel
theorem dL_law_1262 : decode cL_law 1262 = .ok (.iload 4, 2) := by decide +kernel
theorem dL_law_1264 : decode cL_law 1264 = .ok (.iconst 1, 1) := by decide +kernel
theorem dL_law_1265 : decode cL_law 1265 = .ok (.iadd, 1) := by decide +kernel
theorem dL_law_1266 : decode cL_law 1266 = .ok (.iaload, 1) := by decide +kernel
theorem dL_law_1267 : decode cL_law 1267 = .ok (.invokevirtual 139, 3) := by decide +kernel
theorem dL_law_1270 : decode cL_law 1270 = .ok (.istore 6, 2) := by decide +kernel
theorem dL_law_1272 : decode cL_law 1272 = .ok (.aload_n 2, 1) := by decide +kernel
theorem dL_law_1273 : decode cL_law 1273 = .ok (.invokevirtual 85, 3) := by decide +kernel
theorem dL_law_1276 : decode cL_law 1276 = .ok (.iload 5, 2) := by decide +kernel
theorem dL_law_1278 : decode cL_law 1278 = .ok (.if_icmp .eq 5, 3) := by decide +kernel
theorem dL_law_1281 : decode cL_law 1281 = .ok (.iconst 0, 1) := by decide +kernel
theorem dL_law_1282 : decode cL_law 1282 = .ok (.ireturn, 1) := by decide +kernel
theorem dL_law_1283 : decode cL_law 1283 = .ok (.iload 5, 2) := by decide +kernel
theorem dL_law_1285 : decode cL_law 1285 = .ok (.ifCond .ne 15, 3) := by decide +kernel
theorem dL_law_1288 : decode cL_law 1288 = .ok (.aload_n 3, 1) := by decide +kernel
theorem dL_law_1289 : decode cL_law 1289 = .ok (.iconst 0, 1) := by decide +kernel
theorem dL_law_1290 : decode cL_law 1290 = .ok (.laload, 1) := by decide +kernel
theorem dL_law_1291 : decode cL_law 1291 = .ok (.iload 6, 2) := by decide +kernel
theorem dL_law_1293 : decode cL_law 1293 = .ok (.i2l, 1) := by decide +kernel
theorem dL_law_1294 : decode cL_law 1294 = .ok (.lcmp, 1) := by decide +kernel
theorem dL_law_1295 : decode cL_law 1295 = .ok (.ifCond .eq 5, 3) := by decide +kernel
theorem dL_law_1298 : decode cL_law 1298 = .ok (.iconst 0, 1) := by decide +kernel
theorem dL_law_1299 : decode cL_law 1299 = .ok (.ireturn, 1) := by decide +kernel
theorem dL_law_1300 : decode cL_law 1300 = .ok (.goto 196, 3) := by decide +kernel
theorem dL_law_1303 : decode cL_law 1303 = .ok (.aload_n 1, 1) := by decide +kernel
theorem dL_law_1304 : decode cL_law 1304 = .ok (.aload_n 0, 1) := by decide +kernel
theorem dL_law_1305 : decode cL_law 1305 = .ok (.iload 4, 2) := by decide +kernel
theorem dL_law_1307 : decode cL_law 1307 = .ok (.iconst 1, 1) := by decide +kernel
theorem dL_law_1308 : decode cL_law 1308 = .ok (.iadd, 1) := by decide +kernel
theorem dL_law_1309 : decode cL_law 1309 = .ok (.iaload, 1) := by decide +kernel
theorem dL_law_1310 : decode cL_law 1310 = .ok (.aload_n 0, 1) := by decide +kernel
theorem dL_law_1311 : decode cL_law 1311 = .ok (.iload 4, 2) := by decide +kernel
theorem dL_law_1313 : decode cL_law 1313 = .ok (.iconst 2, 1) := by decide +kernel
theorem dL_law_1314 : decode cL_law 1314 = .ok (.iadd, 1) := by decide +kernel
theorem dL_law_1315 : decode cL_law 1315 = .ok (.iaload, 1) := by decide +kernel
theorem dL_law_1316 : decode cL_law 1316 = .ok (.aload_n 0, 1) := by decide +kernel
theorem dL_law_1317 : decode cL_law 1317 = .ok (.iload 4, 2) := by decide +kernel
theorem dL_law_1319 : decode cL_law 1319 = .ok (.iconst 3, 1) := by decide +kernel
theorem dL_law_1320 : decode cL_law 1320 = .ok (.iadd, 1) := by decide +kernel
theorem dL_law_1321 : decode cL_law 1321 = .ok (.iaload, 1) := by decide +kernel
theorem dL_law_1322 : decode cL_law 1322 = .ok (.aload_n 0, 1) := by decide +kernel
theorem dL_law_1323 : decode cL_law 1323 = .ok (.iload 4, 2) := by decide +kernel
theorem dL_law_1325 : decode cL_law 1325 = .ok (.iconst 4, 1) := by decide +kernel
theorem dL_law_1326 : decode cL_law 1326 = .ok (.iadd, 1) := by decide +kernel
theorem dL_law_1327 : decode cL_law 1327 = .ok (.iaload, 1) := by decide +kernel
theorem dL_law_1328 : decode cL_law 1328 = .ok (.aload_n 0, 1) := by decide +kernel
theorem dL_law_1329 : decode cL_law 1329 = .ok (.iload 4, 2) := by decide +kernel
theorem dL_law_1331 : decode cL_law 1331 = .ok (.iconst 5, 1) := by decide +kernel
theorem dL_law_1332 : decode cL_law 1332 = .ok (.iadd, 1) := by decide +kernel
theorem dL_law_1333 : decode cL_law 1333 = .ok (.iaload, 1) := by decide +kernel
theorem dL_law_1334 : decode cL_law 1334 = .ok (.aload_n 0, 1) := by decide +kernel
theorem dL_law_1335 : decode cL_law 1335 = .ok (.iload 4, 2) := by decide +kernel
theorem dL_law_1337 : decode cL_law 1337 = .ok (.bipush 6, 2) := by decide +kernel
theorem dL_law_1339 : decode cL_law 1339 = .ok (.iadd, 1) := by decide +kernel
theorem dL_law_1340 : decode cL_law 1340 = .ok (.iaload, 1) := by decide +kernel
theorem dL_law_1341 : decode cL_law 1341 = .ok (.aload_n 3, 1) := by decide +kernel
theorem dL_law_1342 : decode cL_law 1342 = .ok (.invokestatic 140, 3) := by decide +kernel
theorem dL_law_1345 : decode cL_law 1345 = .ok (.istore 5, 2) := by decide +kernel
theorem dL_law_1347 : decode cL_law 1347 = .ok (.aload_n 2, 1) := by decide +kernel
theorem dL_law_1348 : decode cL_law 1348 = .ok (.aload_n 0, 1) := by decide +kernel
theorem dL_law_1349 : decode cL_law 1349 = .ok (.iload 4, 2) := by decide +kernel
theorem dL_law_1351 : decode cL_law 1351 = .ok (.iconst 1, 1) := by decide +kernel
theorem dL_law_1352 : decode cL_law 1352 = .ok (.iadd, 1) := by decide +kernel
theorem dL_law_1353 : decode cL_law 1353 = .ok (.iaload, 1) := by decide +kernel
theorem dL_law_1354 : decode cL_law 1354 = .ok (.aload_n 0, 1) := by decide +kernel
theorem dL_law_1355 : decode cL_law 1355 = .ok (.iload 4, 2) := by decide +kernel
theorem dL_law_1357 : decode cL_law 1357 = .ok (.iconst 2, 1) := by decide +kernel
theorem dL_law_1358 : decode cL_law 1358 = .ok (.iadd, 1) := by decide +kernel
theorem dL_law_1359 : decode cL_law 1359 = .ok (.iaload, 1) := by decide +kernel
theorem dL_law_1360 : decode cL_law 1360 = .ok (.aload_n 0, 1) := by decide +kernel
theorem dL_law_1361 : decode cL_law 1361 = .ok (.iload 4, 2) := by decide +kernel
theorem dL_law_1363 : decode cL_law 1363 = .ok (.iconst 3, 1) := by decide +kernel
theorem dL_law_1364 : decode cL_law 1364 = .ok (.iadd, 1) := by decide +kernel
theorem dL_law_1365 : decode cL_law 1365 = .ok (.iaload, 1) := by decide +kernel
theorem dL_law_1366 : decode cL_law 1366 = .ok (.aload_n 0, 1) := by decide +kernel
theorem dL_law_1367 : decode cL_law 1367 = .ok (.iload 4, 2) := by decide +kernel
theorem dL_law_1369 : decode cL_law 1369 = .ok (.iconst 4, 1) := by decide +kernel
theorem dL_law_1370 : decode cL_law 1370 = .ok (.iadd, 1) := by decide +kernel
theorem dL_law_1371 : decode cL_law 1371 = .ok (.iaload, 1) := by decide +kernel
theorem dL_law_1372 : decode cL_law 1372 = .ok (.aload_n 0, 1) := by decide +kernel
theorem dL_law_1373 : decode cL_law 1373 = .ok (.iload 4, 2) := by decide +kernel
theorem dL_law_1375 : decode cL_law 1375 = .ok (.iconst 5, 1) := by decide +kernel
theorem dL_law_1376 : decode cL_law 1376 = .ok (.iadd, 1) := by decide +kernel
theorem dL_law_1377 : decode cL_law 1377 = .ok (.iaload, 1) := by decide +kernel
theorem dL_law_1378 : decode cL_law 1378 = .ok (.aload_n 0, 1) := by decide +kernel
theorem dL_law_1379 : decode cL_law 1379 = .ok (.iload 4, 2) := by decide +kernel
theorem dL_law_1381 : decode cL_law 1381 = .ok (.bipush 6, 2) := by decide +kernel
theorem dL_law_1383 : decode cL_law 1383 = .ok (.iadd, 1) := by decide +kernel
theorem dL_law_1384 : decode cL_law 1384 = .ok (.iaload, 1) := by decide +kernel
theorem dL_law_1385 : decode cL_law 1385 = .ok (.invokevirtual 143, 3) := by decide +kernel
theorem dL_law_1388 : decode cL_law 1388 = .ok (.istore 6, 2) := by decide +kernel
theorem dL_law_1390 : decode cL_law 1390 = .ok (.aload_n 2, 1) := by decide +kernel
theorem dL_law_1391 : decode cL_law 1391 = .ok (.invokevirtual 85, 3) := by decide +kernel
theorem dL_law_1394 : decode cL_law 1394 = .ok (.iload 5, 2) := by decide +kernel
theorem dL_law_1396 : decode cL_law 1396 = .ok (.if_icmp .eq 5, 3) := by decide +kernel
theorem dL_law_1399 : decode cL_law 1399 = .ok (.iconst 0, 1) := by decide +kernel
theorem dL_law_1400 : decode cL_law 1400 = .ok (.ireturn, 1) := by decide +kernel
theorem dL_law_1401 : decode cL_law 1401 = .ok (.iload 5, 2) := by decide +kernel
theorem dL_law_1403 : decode cL_law 1403 = .ok (.ifCond .ne 15, 3) := by decide +kernel
theorem dL_law_1406 : decode cL_law 1406 = .ok (.aload_n 3, 1) := by decide +kernel
theorem dL_law_1407 : decode cL_law 1407 = .ok (.iconst 0, 1) := by decide +kernel
theorem dL_law_1408 : decode cL_law 1408 = .ok (.laload, 1) := by decide +kernel
theorem dL_law_1409 : decode cL_law 1409 = .ok (.iload 6, 2) := by decide +kernel
theorem dL_law_1411 : decode cL_law 1411 = .ok (.i2l, 1) := by decide +kernel
theorem dL_law_1412 : decode cL_law 1412 = .ok (.lcmp, 1) := by decide +kernel
theorem dL_law_1413 : decode cL_law 1413 = .ok (.ifCond .eq 5, 3) := by decide +kernel
theorem dL_law_1416 : decode cL_law 1416 = .ok (.iconst 0, 1) := by decide +kernel
theorem dL_law_1417 : decode cL_law 1417 = .ok (.ireturn, 1) := by decide +kernel
theorem dL_law_1418 : decode cL_law 1418 = .ok (.goto 78, 3) := by decide +kernel
theorem dL_law_1421 : decode cL_law 1421 = .ok (.aload_n 1, 1) := by decide +kernel
theorem dL_law_1422 : decode cL_law 1422 = .ok (.aload_n 0, 1) := by decide +kernel
theorem dL_law_1423 : decode cL_law 1423 = .ok (.iload 4, 2) := by decide +kernel
theorem dL_law_1425 : decode cL_law 1425 = .ok (.iconst 1, 1) := by decide +kernel
theorem dL_law_1426 : decode cL_law 1426 = .ok (.iadd, 1) := by decide +kernel
theorem dL_law_1427 : decode cL_law 1427 = .ok (.iaload, 1) := by decide +kernel
theorem dL_law_1428 : decode cL_law 1428 = .ok (.aload_n 0, 1) := by decide +kernel
theorem dL_law_1429 : decode cL_law 1429 = .ok (.iload 4, 2) := by decide +kernel
theorem dL_law_1431 : decode cL_law 1431 = .ok (.iconst 2, 1) := by decide +kernel
theorem dL_law_1432 : decode cL_law 1432 = .ok (.iadd, 1) := by decide +kernel
theorem dL_law_1433 : decode cL_law 1433 = .ok (.iaload, 1) := by decide +kernel
theorem dL_law_1434 : decode cL_law 1434 = .ok (.aload_n 3, 1) := by decide +kernel
theorem dL_law_1435 : decode cL_law 1435 = .ok (.invokestatic 144, 3) := by decide +kernel
theorem dL_law_1438 : decode cL_law 1438 = .ok (.istore 5, 2) := by decide +kernel
theorem dL_law_1440 : decode cL_law 1440 = .ok (.aload_n 2, 1) := by decide +kernel
theorem dL_law_1441 : decode cL_law 1441 = .ok (.aload_n 0, 1) := by decide +kernel
theorem dL_law_1442 : decode cL_law 1442 = .ok (.iload 4, 2) := by decide +kernel
theorem dL_law_1444 : decode cL_law 1444 = .ok (.iconst 1, 1) := by decide +kernel
theorem dL_law_1445 : decode cL_law 1445 = .ok (.iadd, 1) := by decide +kernel
theorem dL_law_1446 : decode cL_law 1446 = .ok (.iaload, 1) := by decide +kernel
theorem dL_law_1447 : decode cL_law 1447 = .ok (.aload_n 0, 1) := by decide +kernel
theorem dL_law_1448 : decode cL_law 1448 = .ok (.iload 4, 2) := by decide +kernel
theorem dL_law_1450 : decode cL_law 1450 = .ok (.iconst 2, 1) := by decide +kernel
theorem dL_law_1451 : decode cL_law 1451 = .ok (.iadd, 1) := by decide +kernel
theorem dL_law_1452 : decode cL_law 1452 = .ok (.iaload, 1) := by decide +kernel
theorem dL_law_1453 : decode cL_law 1453 = .ok (.invokevirtual 147, 3) := by decide +kernel
theorem dL_law_1456 : decode cL_law 1456 = .ok (.istore 6, 2) := by decide +kernel
theorem dL_law_1458 : decode cL_law 1458 = .ok (.aload_n 2, 1) := by decide +kernel
theorem dL_law_1459 : decode cL_law 1459 = .ok (.invokevirtual 85, 3) := by decide +kernel
theorem dL_law_1462 : decode cL_law 1462 = .ok (.iload 5, 2) := by decide +kernel
theorem dL_law_1464 : decode cL_law 1464 = .ok (.if_icmp .eq 5, 3) := by decide +kernel
theorem dL_law_1467 : decode cL_law 1467 = .ok (.iconst 0, 1) := by decide +kernel
theorem dL_law_1468 : decode cL_law 1468 = .ok (.ireturn, 1) := by decide +kernel
theorem dL_law_1469 : decode cL_law 1469 = .ok (.iload 5, 2) := by decide +kernel
theorem dL_law_1471 : decode cL_law 1471 = .ok (.ifCond .ne 22, 3) := by decide +kernel
theorem dL_law_1474 : decode cL_law 1474 = .ok (.aload_n 3, 1) := by decide +kernel
theorem dL_law_1475 : decode cL_law 1475 = .ok (.iconst 0, 1) := by decide +kernel
theorem dL_law_1476 : decode cL_law 1476 = .ok (.laload, 1) := by decide +kernel
theorem dL_law_1477 : decode cL_law 1477 = .ok (.iload 6, 2) := by decide +kernel
theorem dL_law_1479 : decode cL_law 1479 = .ok (.ifCond .eq 7, 3) := by decide +kernel
theorem dL_law_1482 : decode cL_law 1482 = .ok (.lconst 1, 1) := by decide +kernel
theorem dL_law_1483 : decode cL_law 1483 = .ok (.goto 4, 3) := by decide +kernel
theorem dL_law_1486 : decode cL_law 1486 = .ok (.lconst 0, 1) := by decide +kernel
theorem dL_law_1487 : decode cL_law 1487 = .ok (.lcmp, 1) := by decide +kernel
theorem dL_law_1488 : decode cL_law 1488 = .ok (.ifCond .eq 5, 3) := by decide +kernel
theorem dL_law_1491 : decode cL_law 1491 = .ok (.iconst 0, 1) := by decide +kernel
theorem dL_law_1492 : decode cL_law 1492 = .ok (.ireturn, 1) := by decide +kernel
theorem dL_law_1493 : decode cL_law 1493 = .ok (.goto 3, 3) := by decide +kernel
theorem dL_law_1496 : decode cL_law 1496 = .ok (.iinc 4 7, 3) := by decide +kernel
theorem dL_law_1499 : decode cL_law 1499 = .ok (.goto (-1476), 3) := by decide +kernel
theorem dL_law_1502 : decode cL_law 1502 = .ok (.iconst 1, 1) := by decide +kernel
theorem dL_law_1503 : decode cL_law 1503 = .ok (.ireturn, 1) := by decide +kernel
abbrev vwCl : List vw_C := [(RX0, TX0, 1), (RX1, TX1, 8), (RX2, TX2, 5), (RX3, TX3, 2), (RX4, TX4, 3), (RX5, TX5, 11), (RX6, TX6, 21)]
end
section
/-! my own layer: worlds of fixed order, contracts by which cells are written, one row a call -/
abbrev bG : Type := va_G × ClassId × ClassId × ClassId
abbrev bT (G : bG) : List (ClassId × FieldType) := [(G.2.1, .int), (G.2.2.1, .boolean), (G.2.2.2, .long)]
/-- addresses that differ pairwise -/
def apL (l : List Nat) : Prop := ∀ (i j a : Nat), l[i]? = some a → l[j]? = some a → i = j
/-- what may be written: the cells ms, and what is new -/
def Aw (ms : List Nat) (sz : Nat) : Nat → Prop := fun q => q ∈ ms ∨ sz ≤ q
def bSt (G : bG) (cl : List vw_C) (ms : List Nat) (s : State) (ws : va_W) (H : Heap) (locs : List Loc) : Prop := va_P G.1 cl ws H ∧ va_S (Aw ms s.heap.size) s.heap H locs ∧ apL (ws.map Prod.fst)
theorem b_D {ws : va_W} (h : apL (ws.map Prod.fst)) : va_D (fun _ => True) ws :=
  ⟨fun i j p q hi hj e => h i j p.1 (by simp [List.getElem?_map, hi]) (by simp [List.getElem?_map, hj, e]), fun _ _ _ => trivial⟩
theorem b_ap {A : Nat → Prop} {ws : va_W} (h : va_D A ws) : apL (ws.map Prod.fst) := by
  intro i j a hi hj
  rw [List.getElem?_map] at hi hj
  cases e1 : ws[i]? with
  | none => rw [e1] at hi; cases hi
  | some p =>
    cases e2 : ws[j]? with
    | none => rw [e2] at hj; cases hj
    | some q =>
      rw [e1] at hi; rw [e2] at hj
      exact h.1 i j p q e1 e2 ((Option.some.inj hi).trans (Option.some.inj hj).symm)
theorem b_mset {ws : va_W} {k a : Nat} {e0 e : va_E} (h : ws[k]? = some (a, e0)) : (ws.set k (a, e)).map Prod.fst = ws.map Prod.fst := by
  apply List.ext_getElem?
  intro i
  rw [List.getElem?_map, List.getElem?_map]
  by_cases hi : i = k
  · subst hi
    rw [List.getElem?_set_self (List.getElem?_eq_some_iff.mp h).1, h]
    rfl
  · rw [List.getElem?_set_ne (Ne.symm hi)]
theorem b_mset2 {ws : va_W} {k : Nat} {c : Nat × va_E} (h : (ws.map Prod.fst)[k]? = some c.1) : (ws.set k c).map Prod.fst = ws.map Prod.fst := by
  rw [List.getElem?_map] at h
  cases e1 : ws[k]? with
  | none => rw [e1] at h; cases h
  | some p =>
    rw [e1] at h
    have e2 : p.1 = c.1 := Option.some.inj h
    obtain ⟨a, e0⟩ := p
    obtain ⟨b, e⟩ := c
    have e3 : a = b := e2
    subst e3
    exact b_mset e1
def bSets : va_W → List Nat → va_W → va_W
  | ws, k :: ks, c :: cs => bSets (ws.set k c) ks cs
  | ws, _, _ => ws
theorem b_setsM : ∀ (ks : List Nat) (w1 ws : va_W), ks.map (fun k => (ws.map Prod.fst)[k]?) = w1.map (fun c => some c.1) → (bSets ws ks w1).map Prod.fst = ws.map Prod.fst
  | [], w1, ws, _ => by simp [bSets]
  | k :: ks, [], ws, h => by simp at h
  | k :: ks, c :: cs, ws, h => by
    have h1 : (ws.map Prod.fst)[k]? = some c.1 := (List.cons.inj h).1
    have h2 := (List.cons.inj h).2
    have e := b_mset2 (c := c) h1
    show (bSets (ws.set k c) ks cs).map Prod.fst = _
    rw [b_setsM ks cs (ws.set k c) (by rw [e]; exact h2), e]
theorem b_setsE : ∀ (ks : List Nat) (w1 ws : va_W) (i : Nat) (q : Nat × va_E), ks.length = w1.length → (bSets ws ks w1)[i]? = some q → q ∈ w1 ∨ (ws[i]? = some q ∧ i ∉ ks)
  | [], w1, ws, i, q, _, h => Or.inr ⟨by simpa [bSets] using h, by simp⟩
  | k :: ks, [], ws, i, q, hl, h => by simp at hl
  | k :: ks, c :: cs, ws, i, q, hl, h => by
    rcases b_setsE ks cs (ws.set k c) i q (by simpa using hl) h with h1 | ⟨h1, h2⟩
    · exact Or.inl (List.mem_cons_of_mem _ h1)
    · by_cases hi : i = k
      · subst hi
        rw [List.getElem?_set] at h1
        simp only [if_true] at h1
        split at h1
        · exact Or.inl (by rw [← Option.some.inj h1]; exact List.mem_cons_self)
        · cases h1
      · rw [List.getElem?_set_ne (Ne.symm hi)] at h1
        exact Or.inr ⟨h1, by simp [hi, h2]⟩
theorem b_sets {D : va_G} {cl : List vw_C} {ws w1 : va_W} {H H1 : Heap} {mz : List Nat} (hP : va_P D cl ws H) (hD : apL (ws.map Prod.fst)) (ks : List Nat) (hm : w1.map Prod.fst = mz) (hks : ks.map (fun k => (ws.map Prod.fst)[k]?) = mz.map some)
    (hk : ∀ q : Nat, q < H.size → ¬ Aw mz H.size q → H1[q]? = H[q]?) (hP1 : va_P D cl w1 H1) : va_P D cl (bSets ws ks w1) H1 ∧ apL ((bSets ws ks w1).map Prod.fst) := by
  have hks' : ks.map (fun k => (ws.map Prod.fst)[k]?) = w1.map (fun c => some c.1) := by rw [hks, ← hm, List.map_map]; rfl
  have hlen : ks.length = w1.length := by simpa using congrArg List.length hks'
  refine ⟨fun i q hi => ?_, by rw [b_setsM ks w1 ws hks']; exact hD⟩
  rcases b_setsE ks w1 ws i q hlen hi with h | ⟨h, hn⟩
  · obtain ⟨j, hj⟩ := List.getElem?_of_mem h
    exact hP1 j q hj
  · have hlt := (hP i q h).lt
    refine (hP i q h).kept (hk q.1 hlt ?_)
    rintro (hm1 | hm1)
    · rw [← hm] at hm1
      obtain ⟨j, hj⟩ := List.getElem?_of_mem hm1
      rw [List.getElem?_map] at hj
      have h9 : (w1.map (fun c => some c.1))[j]? = some (some q.1) := by
        rw [List.getElem?_map]
        cases e1 : w1[j]? with
        | none => rw [e1] at hj; cases hj
        | some z => rw [e1] at hj; exact congrArg (fun x => some x) hj
      rw [← hks', List.getElem?_map] at h9
      cases e2 : ks[j]? with
      | none => rw [e2] at h9; cases h9
      | some k =>
        rw [e2] at h9
        have h10 : (ws.map Prod.fst)[k]? = some q.1 := Option.some.inj h9
        have h11 : (ws.map Prod.fst)[i]? = some q.1 := by rw [List.getElem?_map, h]; rfl
        have := hD i k q.1 h11 h10
        subst this
        exact hn (List.mem_of_getElem? e2)
    · omega
theorem b_wide {G : bG} {cl : List vw_C} {m1 : List Nat} (m2 : List Nat) {s : State} {ws : va_W} {H : Heap} {locs : List Loc} (hm : ∀ a ∈ m1, a ∈ m2) (w : bSt G cl m1 s ws H locs) : bSt G cl m2 s ws H locs :=
  ⟨w.1, ⟨w.2.1.1, fun q h1 h2 => w.2.1.2.1 q h1 (fun z => h2 (z.elim (fun z => Or.inl (hm q z)) Or.inr)), fun l hl => (w.2.1.2.2 l hl).elim (fun z => Or.inl (hm _ z)) Or.inr⟩, w.2.2⟩
theorem b_nil {P : Nat → Prop} : ∀ a ∈ ([] : List Nat), P a := fun _ h => nomatch h
theorem b_subL {m2 mz : List Nat} (is : List Nat) (h : is.map (fun i => m2[i]?) = mz.map some) : ∀ a ∈ mz, a ∈ m2 := by
  intro a ha
  have h1 : some a ∈ mz.map some := List.mem_map.mpr ⟨a, ha, rfl⟩
  rw [← h] at h1
  obtain ⟨i, -, hi⟩ := List.mem_map.mp h1
  exact List.mem_of_getElem? hi
theorem b_subA {m2 mz : List Nat} {sz : Nat} (is : List Nat) (h : is.map (fun i => m2[i]?) = mz.map some) : ∀ a ∈ mz, Aw m2 sz a := fun a ha => Or.inl (b_subL is h a ha)
/-- words that the tables decide, of nest mates, casts: kept by every warming -/
def bStable : Cond → Bool
  | .fieldLinkNest .. => true
  | .methodLinkNest .. => true
  | .castable .. => true
  | .not (.castable ..) => true
  | _ => false
theorem b_stable {s U : State} (hW : s.WarmedH U.vm) : ∀ (w : Cond), bStable w = true → va_Nw w s → va_Nw w U := by
  intro w hw h
  match w, hw with
  | .fieldLinkNest .., _ => exact va_Nw.warmF hW h
  | .methodLinkNest .., _ => exact va_Nw.warmM hW h
  | .castable .., _ =>
    have hv := hW.alike
    simp only [va_Nw, Cond.before, Cond.holds, Cond.value, hv.findClass] at h ⊢
    simpa only [hv.assignable] using h
  | .not (.castable ..), _ =>
    have hv := hW.alike
    simp only [va_Nw, Cond.before, Cond.holds, Cond.value, hv.findClass] at h ⊢
    simpa only [hv.assignable] using h
/-- nest words, casts, String constants -/
def bN (nw : List Cond) (sw : List (String × Nat × String)) (U : State) : Prop := (∀ w ∈ nw, bStable w = true ∧ va_Nw w U) ∧ ∀ q ∈ sw, ∃ sa : Nat, vk_R q.1 q.2.1 q.2.2 sa U
theorem bN.moved {nw : List Cond} {sw : List (String × Nat × String)} {s U : State} (hW : s.WarmedH U.vm) (h : bN nw sw s) : bN nw sw U :=
  ⟨fun w hw => ⟨(h.1 w hw).1, b_stable hW w (h.1 w hw).1 (h.1 w hw).2⟩, fun q hq => by obtain ⟨sa, h1⟩ := h.2 q hq; exact ⟨sa, vk_R.warm hW h1⟩⟩
/-- the two statics that every exception takes along -/
def bZ (ms : List Nat) (U : State) : Prop := vx_Zq Bundle.tN "UNASSIGNED_STACK" Bundle.steD (Aw ms U.heap.size) U U.heap ∧ vx_Zq Bundle.tN "SUPPRESSED_SENTINEL" Bundle.listD (Aw ms U.heap.size) U U.heap
def bE (G : bG) (cl : List vw_C) (nw : List Cond) (sw : List (String × Nat × String)) (U : State) : Prop := va_K G.1 cl (bT G) U ∧ bN nw sw U
def bPre (G : bG) (cl : List vw_C) (nw : List Cond) (sw : List (String × Nat × String)) (sz : Nat) (ws : va_W) (ms : List Nat) (U : State) : Prop := U.heap.size = sz ∧ va_P G.1 cl ws U.heap ∧ apL (ws.map Prod.fst) ∧ bE G cl nw sw U ∧ bZ ms U
theorem b_blind {av : List Value} {G : bG} {cl : List vw_C} {nw : List Cond} {sw : List (String × Nat × String)} {sz : Nat} {ws : va_W} {ms : List Nat} : FrameBlind (va_Pc av (bPre G cl nw sw sz ws ms)) := by
  intro a U g mk h
  obtain ⟨h0, h1, h2, h3, ⟨h4, h5⟩, h6, h7⟩ := h
  have hW : U.WarmedH (U.calling g mk a).vm := State.WarmedH.refl U
  exact ⟨h0, h1, h2, h3, ⟨va_K.moved (u := U) (U := U.calling g mk a) (Vm.Alike.refl U.vm) h4, bN.moved hW h5⟩, vx_Zq.moved (u := U) (U := U.calling g mk a) (Vm.Alike.refl U.vm) h6, vx_Zq.moved (u := U) (U := U.calling g mk a) (Vm.Alike.refl U.vm) h7⟩
theorem b_pre {G : bG} {cl : List vw_C} {nw : List Cond} {sw : List (String × Nat × String)} {ms mz : List Nat} {s : State} {ws ws0 : va_W} {H : Heap} {locs : List Loc} (E : bE G cl nw sw s) (Z : bZ ms s) (w : bSt G cl ms s ws H locs) (is : List Nat) (hn : va_nd is = true) (hsub : is.map (fun i => ws[i]?) = ws0.map some) (hmz : ∀ a ∈ mz, Aw ms s.heap.size a) (U : State) (hU : U.heap = H) (hW : s.WarmedH U.vm) : bPre G cl nw sw H.size ws0 mz U := by
  obtain ⟨hP, hS, hD⟩ := w
  have hn0 : ∀ q : Nat, Aw mz U.heap.size q → Aw ms s.heap.size q := fun q h => h.elim (hmz q) (fun z => Or.inr (Nat.le_trans hS.1 (by rw [← hU]; exact z)))
  refine ⟨by rw [hU], ?_, b_ap ((b_D hD).sub is hn hsub), ⟨va_K.moved hW.alike E.1, E.2.moved hW⟩, ?_, ?_⟩
  · rw [hU]
    intro k q hk
    have h1 : (is.map (fun i => ws[i]?))[k]? = some (some q) := by rw [hsub, List.getElem?_map, hk]; rfl
    rw [List.getElem?_map] at h1
    cases hi : is[k]? with
    | none => rw [hi] at h1; cases h1
    | some i => rw [hi] at h1; exact hP i q (Option.some.inj h1)
  · have h1 := vx_Zq.moved (U := U) hW.alike Z.1
    have h2 : vx_Zq Bundle.tN "UNASSIGNED_STACK" Bundle.steD (Aw ms s.heap.size) U U.heap := by rw [hU]; exact h1.kept hS.2.1
    exact h2.narrow hn0
  · have h1 := vx_Zq.moved (U := U) hW.alike Z.2
    have h2 : vx_Zq Bundle.tN "SUPPRESSED_SENTINEL" Bundle.listD (Aw ms s.heap.size) U U.heap := by rw [hU]; exact h1.kept hS.2.1
    exact h2.narrow hn0
section BR
variable {p : Program} {l : Launch} {e : Env} {R : Room} {s : State} {m : MethodId} {args : Array Value} {below : List Frame} {meth : Method} {c : Code} {H : Heap} {locs : List Loc} {cells slots : Nat} {Q : State → Prop}
variable {cc : ByteArray} {pc nL : Nat} {ls : Array Slot} {rest st0 : List Value} {G : bG} {cl : List vw_C} {nw : List Cond} {sw : List (String × Nat × String)} {ms mz : List Nat} {ws ws0 : va_W} {Ts : List Cond} {own : String} {a : Nat}
/-- the top of the stack under another name -/
theorem b_tp {x y : Int32} (h : x = y) (k : W p l e R s m args below meth c H locs cells slots Q (F0 m pc ls (.int y :: rest))) : W p l e R s m args below meth c H locs cells slots Q (F0 m pc ls (.int x :: rest)) := by
  rw [h]; exact k
theorem b_get (X : CallFix p m c cc nL s args Ts own) (E : bE G cl nw sw s) (w : bSt G cl ms s ws H locs) (q0 : Nat) {C : String} {T : u_T} {N ci index : Nat} {fs : List Value} (he : ws[q0]? = some (a, .inr (ci, fs))) (hc : cl[ci]? = some (C, T, N)) (k : Nat) (hk : k < N) (hin : ∀ w ∈ u_ws C T N, w ∈ Ts)
    (hlink : Cond.fieldLink own index C (T k).2.1 (T k).2.2.1 ∈ Ts) (hd : (T k).1 = C) {v : Value} (hv : fs[k]? = some v) (hdg : decode cc pc = .ok (.getfield index, 3))
    (kk : W p l e R s m args below meth c H locs cells slots Q (F0 m (pc + 3) ls (v :: rest))) : W p l e R s m args below meth c H locs cells slots Q (F0 m pc ls (.ref a :: rest)) :=
  va_get (D := G.1) X.1 X.2.1 X.2.2.2.2 hin X.2.2.2.1 E.1 w.1 q0 he hc k hk (X.2.2.2.2 _ hlink) (fun x h => by rw [hd] at h; exact h) hv hdg kk
theorem b_getN (X : CallFix p m c cc nL s args Ts own) (E : bE G cl nw sw s) (w : bSt G cl ms s ws H locs) (q0 : Nat) {C host : String} {T : u_T} {N ci index : Nat} {fs : List Value} (he : ws[q0]? = some (a, .inr (ci, fs))) (hc : cl[ci]? = some (C, T, N)) (k : Nat) (hk : k < N) (hin : ∀ w ∈ u_ws C T N, w ∈ Ts)
    (hlink : Cond.fieldLinkNest own index C (T k).2.1 (T k).2.2.1 host ∈ nw) (hd : (T k).1 = C) {v : Value} (hv : fs[k]? = some v) (hdg : decode cc pc = .ok (.getfield index, 3))
    (kk : W p l e R s m args below meth c H locs cells slots Q (F0 m (pc + 3) ls (v :: rest))) : W p l e R s m args below meth c H locs cells slots Q (F0 m pc ls (.ref a :: rest)) :=
  va_getN (D := G.1) (host := host) X.1 X.2.1 X.2.2.2.2 hin X.2.2.2.1 E.1 w.1 q0 he hc k hk (va_Nw.use rfl (E.2.1 _ hlink).2) (fun x h => by rw [hd] at h; exact h) hv hdg kk
theorem b_put (X : CallFix p m c cc nL s args Ts own) (E : bE G cl nw sw s) (w : bSt G cl ms s ws H locs) (ha : Aw ms s.heap.size a) (q0 : Nat) {C : String} {T : u_T} {N ci index : Nat} {fs : List Value} (he : ws[q0]? = some (a, .inr (ci, fs))) (hc : cl[ci]? = some (C, T, N)) (k : Nat) (hk : k < N) (hin : ∀ w ∈ u_ws C T N, w ∈ Ts)
    (ty0 : Nat → FieldType) (hty : ∀ k, k < N → parseFieldDescriptor (T k).2.2.1 = some (ty0 k)) (hnm : ∀ a, a < N → ∀ b, b < N → a ≠ b → (T a).2.1 ≠ (T b).2.1)
    (hlink : Cond.fieldLink own index C (T k).2.1 (T k).2.2.1 ∈ Ts) (hd0 : (T k).1 = C) (hfin : (T k).2.2.2 = false) {ty : FieldType} {v : Value} (hd : parseFieldDescriptor (T k).2.2.1 = some ty) (hn : narrow ty v = v) (hfit : fits ty v = true) (hl : k < fs.length) (hdg : decode cc pc = .ok (.putfield index, 3))
    (kk : ∀ (H1 : Heap) (locs1 : List Loc), bSt G cl ms s (ws.set q0 (a, .inr (ci, fs.set k v))) H1 locs1 → W p l e R s m args below meth c H1 locs1 cells slots Q (F0 m (pc + 3) ls rest)) : W p l e R s m args below meth c H locs cells slots Q (F0 m pc ls (v :: .ref a :: rest)) := by
  obtain ⟨hP, hS0, hD⟩ := w
  have hx := X.1
  have hb := X.2.1
  have hts := X.2.2.2.2
  have hown := X.2.2.2.1
  have hK := E.1
  have hap := va_apart (own := own) hts hin ty0 hty hnm hK hc
  obtain ⟨r, h1, cell, q1, q2, q3, q4⟩ := hP q0 _ he
  have hr : r = (C, T, N) := Option.some.inj (h1.symm.trans hc)
  subst hr
  obtain ⟨hS, hfc, kC, hkC, hkind⟩ := hK.1 ci _ hc
  obtain ⟨cf, kf, fi, f, hi, hsl⟩ := hS k hk
  have hlay := hts _ (hin _ (u_in_lay hk))
  unfold u_lay at hlay
  rw [if_neg (by rw [hfin]; decide)] at hlay
  have hst := (u_facts hfc hkC (u_lays hts hin hk) hi).1
  have h6 := u_store hfc hkC hkind hlay hi hd hn hfit
  have hi' : s.fieldFound? C (T k).2.1 (T k).2.2.1 = some (cf, kf, fi, f) := by rw [hd0] at hi; exact hi
  refine W.putK hx hb (f := f) ⟨hown, hts _ hlink, ⟨_, _, _, hi'⟩, hst⟩ (by rw [q2]; exact h6) q1 q3 (by rw [hsl]; exact k2_hasslot (q4 k hk)) rfl rfl hdg fun H' e1 e2 e3 => ?_
  rw [hsl] at e1 ⊢
  exact kk H' _ ⟨hP.set (b_D hD) he ⟨_, hc, t_OB.to (V := updV (vp_V fs) k v) ⟨_, e1, q2, q3, t_set q4 hap hk v⟩ (fun j _ => vp_updV_set hl v j)⟩ e3, hS0.put e2 e3 ha, by rw [b_mset he]; exact hD⟩
theorem b_putF (X : CallFix p m c cc nL s args Ts own) (E : bE G cl nw sw s) (w : bSt G cl ms s ws H locs) (ha : Aw ms s.heap.size a) (hin2 : meth.name = "<init>") (q0 : Nat) {C : String} {T : u_T} {N ci index : Nat} {fs : List Value} (he : ws[q0]? = some (a, .inr (ci, fs))) (hc : cl[ci]? = some (C, T, N)) (k : Nat) (hk : k < N) (hin : ∀ w ∈ u_ws C T N, w ∈ Ts)
    (ty0 : Nat → FieldType) (hty : ∀ k, k < N → parseFieldDescriptor (T k).2.2.1 = some (ty0 k)) (hnm : ∀ a, a < N → ∀ b, b < N → a ≠ b → (T a).2.1 ≠ (T b).2.1)
    (hlink : Cond.fieldLink own index C (T k).2.1 (T k).2.2.1 ∈ Ts) (hd0 : (T k).1 = C) (hCo : C = own) (hfin : (T k).2.2.2 = true) {ty : FieldType} {v : Value} (hd : parseFieldDescriptor (T k).2.2.1 = some ty) (hn : narrow ty v = v) (hfit : fits ty v = true) (hl : k < fs.length) (hdg : decode cc pc = .ok (.putfield index, 3))
    (kk : ∀ (H1 : Heap) (locs1 : List Loc), bSt G cl ms s (ws.set q0 (a, .inr (ci, fs.set k v))) H1 locs1 → W p l e R s m args below meth c H1 locs1 cells slots Q (F0 m (pc + 3) ls rest)) : W p l e R s m args below meth c H locs cells slots Q (F0 m pc ls (v :: .ref a :: rest)) := by
  obtain ⟨hP, hS0, hD⟩ := w
  have hx := X.1
  have hb := X.2.1
  have hts := X.2.2.2.2
  have hown := X.2.2.2.1
  have hK := E.1
  have hap := va_apart (own := own) hts hin ty0 hty hnm hK hc
  obtain ⟨r, h1, cell, q1, q2, q3, q4⟩ := hP q0 _ he
  have hr : r = (C, T, N) := Option.some.inj (h1.symm.trans hc)
  subst hr
  obtain ⟨hS, hfc, kC, hkC, hkind⟩ := hK.1 ci _ hc
  obtain ⟨cf, kf, fi, f, hi, hsl⟩ := hS k hk
  have hlay := hts _ (hin _ (u_in_lay hk))
  unfold u_lay at hlay
  rw [if_pos hfin] at hlay
  have hst := (u_facts hfc hkC (u_lays hts hin hk) hi).1
  have hcf : m.cls = cf := by
    obtain ⟨_, _, c', _, _, _, -, -, hf', -, -, -, hown2, -⟩ := Cond.laysFinal_spec hlay
    have e1 : c' = cf := by have := hi.symm.trans hf'; simp at this; exact this.1.symm
    rw [hd0, hCo] at hown2
    rw [← e1]; exact Option.some.inj (hown.symm.trans hown2)
  have h6 := u_fits hfc hkC hkind (Or.inr hlay) hi hd hn hfit
  refine W.putFinK hx hb hown (hts _ hlink) (show s.fieldFound? C (T k).2.1 (T k).2.2.1 = some (cf, kf, fi, f) by rw [hd0] at hi; exact hi) hst hcf hin2 (by rw [q2]; exact h6) q1 q3 (by rw [hsl]; exact k2_hasslot (q4 k hk)) rfl rfl hdg fun H' e1 e2 e3 => ?_
  rw [hsl] at e1 ⊢
  exact kk H' _ ⟨hP.set (b_D hD) he ⟨_, hc, t_OB.to (V := updV (vp_V fs) k v) ⟨_, e1, q2, q3, t_set q4 hap hk v⟩ (fun j _ => vp_updV_set hl v j)⟩ e3, hS0.put e2 e3 ha, by rw [b_mset he]; exact hD⟩
theorem b_in {i : Int32} {j n : Nat} (hi : i = nI j) (hj : j < n) (hn : n < 2 ^ 31) : vp_in i n ∧ i.toNatClampNeg = j := by
  subst hi
  exact ⟨vp_in_nI hj hn, nI_clamp (Nat.lt_trans hj hn)⟩
theorem b_iald (X : CallFix p m c cc nL s args Ts own) (E : bE G cl nw sw s) (w : bSt G cl ms s ws H locs) (q0 : Nat) {n : Nat} {f : Nat → Int32} (ha : ws[q0]? = some (a, .inl (G.2.1, n, .inl f))) {i : Int32} (j : Nat) (hi : i = nI j) (hj : j < n) (hn : n < 2 ^ 31) (hdg : decode cc pc = .ok (.iaload, 1))
    (kk : W p l e R s m args below meth c H locs cells slots Q (F0 m (pc + 1) ls (.int (f j) :: rest))) : W p l e R s m args below meth c H locs cells slots Q (F0 m pc ls (.int i :: .ref a :: rest)) := by
  obtain ⟨h1, h2⟩ := b_in hi hj hn
  exact va_iald (D := G.1) (tys := bT G) X.1 X.2.1 E.1 w.1 q0 0 ha rfl h1 hdg (by rw [h2]; exact kk)
theorem b_zald (X : CallFix p m c cc nL s args Ts own) (E : bE G cl nw sw s) (w : bSt G cl ms s ws H locs) (q0 : Nat) {n : Nat} {f : Nat → Int32} (ha : ws[q0]? = some (a, .inl (G.2.2.1, n, .inl f))) {i : Int32} (j : Nat) (hi : i = nI j) (hj : j < n) (hn : n < 2 ^ 31) (hdg : decode cc pc = .ok (.baload, 1))
    (kk : W p l e R s m args below meth c H locs cells slots Q (F0 m (pc + 1) ls (.int (f j) :: rest))) : W p l e R s m args below meth c H locs cells slots Q (F0 m pc ls (.int i :: .ref a :: rest)) := by
  obtain ⟨h1, h2⟩ := b_in hi hj hn
  exact va_zald (D := G.1) (tys := bT G) X.1 X.2.1 E.1 w.1 q0 1 ha rfl h1 hdg (by rw [h2]; exact kk)
theorem b_jald (X : CallFix p m c cc nL s args Ts own) (E : bE G cl nw sw s) (w : bSt G cl ms s ws H locs) (q0 : Nat) {n : Nat} {f : Nat → Int64} (ha : ws[q0]? = some (a, .inl (G.2.2.2, n, .inr (.inl f)))) {i : Int32} (j : Nat) (hi : i = nI j) (hj : j < n) (hn : n < 2 ^ 31) (hdg : decode cc pc = .ok (.laload, 1))
    (kk : W p l e R s m args below meth c H locs cells slots Q (F0 m (pc + 1) ls (.long (f j) :: rest))) : W p l e R s m args below meth c H locs cells slots Q (F0 m pc ls (.int i :: .ref a :: rest)) := by
  obtain ⟨h1, h2⟩ := b_in hi hj hn
  exact va_lald (D := G.1) (tys := bT G) X.1 X.2.1 E.1 w.1 q0 2 ha rfl h1 hdg (by rw [h2]; exact kk)
theorem b_alen (X : CallFix p m c cc nL s args Ts own) (E : bE G cl nw sw s) (w : bSt G cl ms s ws H locs) (q0 : Nat) {n : Nat} {f : Nat → Int32} (ha : ws[q0]? = some (a, .inl (G.2.1, n, .inl f))) (hdg : decode cc pc = .ok (.arraylength, 1))
    (kk : W p l e R s m args below meth c H locs cells slots Q (F0 m (pc + 1) ls (.int (nI n) :: rest))) : W p l e R s m args below meth c H locs cells slots Q (F0 m pc ls (.ref a :: rest)) :=
  va_alen (D := G.1) (tys := bT G) X.1 X.2.1 E.1 w.1 q0 0 ha rfl rfl hdg kk
theorem b_iast (X : CallFix p m c cc nL s args Ts own) (E : bE G cl nw sw s) (w : bSt G cl ms s ws H locs) (ha0 : Aw ms s.heap.size a) (q0 : Nat) {n : Nat} {f : Nat → Int32} (ha : ws[q0]? = some (a, .inl (G.2.1, n, .inl f))) {i x : Int32} (j : Nat) (hi : i = nI j) (hj : j < n) (hn : n < 2 ^ 31) (hdg : decode cc pc = .ok (.iastore, 1))
    (kk : ∀ (H1 : Heap) (locs1 : List Loc), bSt G cl ms s (ws.set q0 (a, .inl (G.2.1, n, .inl (upd f j x)))) H1 locs1 → W p l e R s m args below meth c H1 locs1 cells slots Q (F0 m (pc + 1) ls rest)) : W p l e R s m args below meth c H locs cells slots Q (F0 m pc ls (.int x :: .int i :: .ref a :: rest)) := by
  obtain ⟨h1, h2⟩ := b_in hi hj hn
  obtain ⟨hP, hS, hD⟩ := w
  refine W.iast X.1 X.2.1 (hP q0 _ ha) ((E.1.2 0 (G.2.1, .int) rfl).1 n (fun j => .int (f j))) (fun q => by cases q) (by show ¬ (i < 0 ∨ (arrV _ _ _).slots.size ≤ _); rw [arrV_size]; exact h1) rfl rfl hdg fun H1 e z oq => ?_
  refine kk H1 _ ⟨hP.set (b_D hD) ha ?_ oq, hS.put z oq ha0, by rw [b_mset ha]; exact hD⟩
  show H1[a]? = some (vp_cell _ _)
  rw [e]
  rw [vp_cell_i, vp_cell_i, arrV_store, h2]
  congr 2
  funext q
  by_cases hq : q = j
  · subst hq
    simp [updV, upd]
  · simp [updV, upd, hq]
theorem b_zast (X : CallFix p m c cc nL s args Ts own) (E : bE G cl nw sw s) (w : bSt G cl ms s ws H locs) (ha0 : Aw ms s.heap.size a) (q0 : Nat) {n : Nat} {f : Nat → Int32} (ha : ws[q0]? = some (a, .inl (G.2.2.1, n, .inl f))) {i x : Int32} (j : Nat) (hi : i = nI j) (hj : j < n) (hn : n < 2 ^ 31) (hx0 : x = 0 ∨ x = 1) (hdg : decode cc pc = .ok (.bastore, 1))
    (kk : ∀ (H1 : Heap) (locs1 : List Loc), bSt G cl ms s (ws.set q0 (a, .inl (G.2.2.1, n, .inl (upd f j x)))) H1 locs1 → W p l e R s m args below meth c H1 locs1 cells slots Q (F0 m (pc + 1) ls rest)) : W p l e R s m args below meth c H locs cells slots Q (F0 m pc ls (.int x :: .int i :: .ref a :: rest)) := by
  obtain ⟨h1, h2⟩ := b_in hi hj hn
  obtain ⟨hP, hS, hD⟩ := w
  refine W.zast X.1 X.2.1 (hP q0 _ ha) ((E.1.2 1 (G.2.2.1, .boolean) rfl).1 n (fun j => .int (f j))) (fun q => by cases q) (by show ¬ (i < 0 ∨ (arrV _ _ _).slots.size ≤ _); rw [arrV_size]; exact h1) rfl rfl hdg fun H1 e z oq => ?_
  refine kk H1 _ ⟨hP.set (b_D hD) ha ?_ oq, hS.put z oq ha0, by rw [b_mset ha]; exact hD⟩
  have hnar : narrow .boolean (.int x) = .int x := by rcases hx0 with h | h <;> subst h <;> rfl
  show H1[a]? = some (vp_cell _ _)
  rw [e, hnar]
  rw [vp_cell_i, vp_cell_i, arrV_store, h2]
  congr 2
  funext q
  by_cases hq : q = j
  · subst hq
    simp [updV, upd]
  · simp [updV, upd, hq]
theorem b_jast (X : CallFix p m c cc nL s args Ts own) (E : bE G cl nw sw s) (w : bSt G cl ms s ws H locs) (ha0 : Aw ms s.heap.size a) (q0 : Nat) {n : Nat} {f : Nat → Int64} (ha : ws[q0]? = some (a, .inl (G.2.2.2, n, .inr (.inl f)))) {i : Int32} {x : Int64} (j : Nat) (hi : i = nI j) (hj : j < n) (hn : n < 2 ^ 31) (hdg : decode cc pc = .ok (.lastore, 1))
    (kk : ∀ (H1 : Heap) (locs1 : List Loc), bSt G cl ms s (ws.set q0 (a, .inl (G.2.2.2, n, .inr (.inl (vp_updL f j x))))) H1 locs1 → W p l e R s m args below meth c H1 locs1 cells slots Q (F0 m (pc + 1) ls rest)) : W p l e R s m args below meth c H locs cells slots Q (F0 m pc ls (.long x :: .int i :: .ref a :: rest)) := by
  obtain ⟨h1, h2⟩ := b_in hi hj hn
  obtain ⟨hP, hS, hD⟩ := w
  refine W.last X.1 X.2.1 (hP q0 _ ha) ((E.1.2 2 (G.2.2.2, .long) rfl).1 n (fun j => .long (f j))) (fun q => by cases q) (by show ¬ (i < 0 ∨ (arrV _ _ _).slots.size ≤ _); rw [arrV_size]; exact h1) rfl rfl hdg fun H1 e z oq => ?_
  refine kk H1 _ ⟨hP.set (b_D hD) ha ?_ oq, hS.put z oq ha0, by rw [b_mset ha]; exact hD⟩
  show H1[a]? = some (vp_cell _ _)
  rw [e]
  rw [vp_cell_l, vp_cell_l, arrV_store, h2]
  congr 2
  funext q
  by_cases hq : q = j
  · subst hq
    simp [updV, vp_updL]
  · simp [updV, vp_updL, hq]
theorem b_free {A1 : Nat → Prop} (w : bSt G cl ms s ws H locs) (hmz : ∀ a ∈ mz, Aw ms s.heap.size a) : ∀ q : Nat, Aw mz H.size q → Aw ms s.heap.size q := fun q h => h.elim (hmz q) (fun z => Or.inr (Nat.le_trans w.2.1.1 z))
/-- a call that returns an int -/
theorem b_calli {S : Type} {post : Int32 → S → Prop} {w1 : S → va_W} {av : Array Value} {mc sc : Nat} (w : bSt G cl ms s ws H locs) (hr : va_Run p l e R s m args below meth c H locs cells slots mc sc (F0 m pc ls st0) rest (va_Qi post (fun (u : S) (t : State) => va_P G.1 cl (w1 u) t.heap) (Aw mz H.size) av) (Aw mz H.size))
    (hmz : ∀ a ∈ mz, Aw ms s.heap.size a) (ks : List Nat) (hw1 : ∀ u, (w1 u).map Prod.fst = mz) (hks : ks.map (fun k => (ws.map Prod.fst)[k]?) = mz.map some)
    (kk : ∀ (r : Int32) (u : S) (H1 : Heap) (locs1 : List Loc), post r u → bSt G cl ms s (bSets ws ks (w1 u)) H1 locs1 → W p l e R s m args below meth c H1 locs1 (cells + mc) (slots + sc) Q (F0 m (pc + 3) ls (.int r :: rest))) : W p l e R s m args below meth c H locs cells slots Q (F0 m pc ls st0) :=
  va_calli hr w.2.1 (fun q _ h => b_free (A1 := fun _ => True) w hmz q h) (b_free (A1 := fun _ => True) w hmz) (fun r u t H1 locs1 ht _ hp hB hz hk hS => kk r u H1 locs1 hp (by
    have h9 := b_sets w.1 w.2.2 ks (hw1 u) hks hk (by rw [← ht]; exact hB)
    exact ⟨h9.1, hS, h9.2⟩))
theorem b_callv {S : Type} {post : S → Prop} {w1 : S → va_W} {av : Array Value} {mc sc : Nat} (w : bSt G cl ms s ws H locs) (hr : va_Run p l e R s m args below meth c H locs cells slots mc sc (F0 m pc ls st0) rest (va_Qv post (fun (u : S) (t : State) => va_P G.1 cl (w1 u) t.heap) (Aw mz H.size) av) (Aw mz H.size))
    (hmz : ∀ a ∈ mz, Aw ms s.heap.size a) (ks : List Nat) (hw1 : ∀ u, (w1 u).map Prod.fst = mz) (hks : ks.map (fun k => (ws.map Prod.fst)[k]?) = mz.map some)
    (kk : ∀ (u : S) (H1 : Heap) (locs1 : List Loc), post u → bSt G cl ms s (bSets ws ks (w1 u)) H1 locs1 → W p l e R s m args below meth c H1 locs1 (cells + mc) (slots + sc) Q (F0 m (pc + 3) ls rest)) : W p l e R s m args below meth c H locs cells slots Q (F0 m pc ls st0) :=
  va_callv hr w.2.1 (fun q _ h => b_free (A1 := fun _ => True) w hmz q h) (b_free (A1 := fun _ => True) w hmz) (fun u t H1 locs1 ht _ hp hB hz hk hS => kk u H1 locs1 hp (by
    have h9 := b_sets w.1 w.2.2 ks (hw1 u) hks hk (by rw [← ht]; exact hB)
    exact ⟨h9.1, hS, h9.2⟩))
/-- what a thrown exception leaves: nothing old has changed; the class is one of Ex -/
abbrev bX (Ex : String → Prop) (sz : Nat) : String → State → State → Prop := vx_X (fun _ : Unit => True) (fun E _ _ => Ex E) (Aw [] sz)
theorem b_xcalli {S : Type} {post : Int32 → S → Prop} {w1 : S → va_W} {av : Array Value} {mc sc : Nat} {Ex : String → Prop} (w : bSt G cl ms s ws H locs) (hr : vx_Run p l e R s m args below meth c H locs cells slots mc sc (F0 m pc ls st0) rest (va_Qi post (fun (u : S) (t : State) => va_P G.1 cl (w1 u) t.heap) (Aw mz H.size) av) (bX Ex H.size) (Aw mz H.size))
    (hmz : ∀ a ∈ mz, Aw ms s.heap.size a) (ks : List Nat) (hw1 : ∀ u, (w1 u).map Prod.fst = mz) (hks : ks.map (fun k => (ws.map Prod.fst)[k]?) = mz.map some)
    (kx : ∀ (E : String) (ce : Cell) (q9 : Addr) (H1 : Heap) (locs1 : List Loc), Ex E → bSt G cl ms s ws H1 locs1 → H1[q9]? = some ce → ce.vm = .none → s.vm.findClass E = some ce.cls → vx_W p l e R s m args below meth c H1 locs1 (cells + mc) (slots + sc) Q (F0 m pc ls rest) q9)
    (kk : ∀ (r : Int32) (u : S) (H1 : Heap) (locs1 : List Loc), post r u → bSt G cl ms s (bSets ws ks (w1 u)) H1 locs1 → W p l e R s m args below meth c H1 locs1 (cells + mc) (slots + sc) Q (F0 m (pc + 3) ls (.int r :: rest))) : W p l e R s m args below meth c H locs cells slots Q (F0 m pc ls st0) :=
  vx_calli hr w.2.1 (fun q _ h => b_free (A1 := fun _ => True) w hmz q h) (b_free (A1 := fun _ => True) w hmz) (fun q _ h => b_free (A1 := fun _ => True) w b_nil q h)
    (fun E ce q9 u t H1 locs1 ht _ _ hE hz hk hS h1 h2 h3 => kx E ce q9 H1 locs1 hE ⟨w.1.kept (fun k q hq => hk q.1 (w.1 k q hq).lt (fun z => z.elim (fun z => nomatch z) (fun z => absurd (w.1 k q hq).lt (Nat.not_lt.mpr z)))), hS, w.2.2⟩ h1 h2 h3)
    (fun r u t H1 locs1 ht _ hp hB hz hk hS => kk r u H1 locs1 hp (by
    have h9 := b_sets w.1 w.2.2 ks (hw1 u) hks hk (by rw [← ht]; exact hB)
    exact ⟨h9.1, hS, h9.2⟩))
theorem b_xcallv {S : Type} {post : S → Prop} {w1 : S → va_W} {av : Array Value} {mc sc : Nat} {Ex : String → Prop} (w : bSt G cl ms s ws H locs) (hr : vx_Run p l e R s m args below meth c H locs cells slots mc sc (F0 m pc ls st0) rest (va_Qv post (fun (u : S) (t : State) => va_P G.1 cl (w1 u) t.heap) (Aw mz H.size) av) (bX Ex H.size) (Aw mz H.size))
    (hmz : ∀ a ∈ mz, Aw ms s.heap.size a) (ks : List Nat) (hw1 : ∀ u, (w1 u).map Prod.fst = mz) (hks : ks.map (fun k => (ws.map Prod.fst)[k]?) = mz.map some)
    (kx : ∀ (E : String) (ce : Cell) (q9 : Addr) (H1 : Heap) (locs1 : List Loc), Ex E → bSt G cl ms s ws H1 locs1 → H1[q9]? = some ce → ce.vm = .none → s.vm.findClass E = some ce.cls → vx_W p l e R s m args below meth c H1 locs1 (cells + mc) (slots + sc) Q (F0 m pc ls rest) q9)
    (kk : ∀ (u : S) (H1 : Heap) (locs1 : List Loc), post u → bSt G cl ms s (bSets ws ks (w1 u)) H1 locs1 → W p l e R s m args below meth c H1 locs1 (cells + mc) (slots + sc) Q (F0 m (pc + 3) ls rest)) : W p l e R s m args below meth c H locs cells slots Q (F0 m pc ls st0) :=
  vx_callv hr w.2.1 (fun q _ h => b_free (A1 := fun _ => True) w hmz q h) (b_free (A1 := fun _ => True) w hmz) (fun q _ h => b_free (A1 := fun _ => True) w b_nil q h)
    (fun E ce q9 u t H1 locs1 ht _ _ hE hz hk hS h1 h2 h3 => kx E ce q9 H1 locs1 hE ⟨w.1.kept (fun k q hq => hk q.1 (w.1 k q hq).lt (fun z => z.elim (fun z => nomatch z) (fun z => absurd (w.1 k q hq).lt (Nat.not_lt.mpr z)))), hS, w.2.2⟩ h1 h2 h3)
    (fun u t H1 locs1 ht _ hp hB hz hk hS => kk u H1 locs1 hp (by
    have h9 := b_sets w.1 w.2.2 ks (hw1 u) hks hk (by rw [← ht]; exact hB)
    exact ⟨h9.1, hS, h9.2⟩))
/-- what goes out of this method uncaught -/
theorem b_out {Qc : Array Value → State → Outcome → State → Prop} {Ex : String → Prop} {E : String} {ce : Cell} {q : Addr} {mc sc : Nat} (ht : ∀ x ∈ c.exceptionTable.toList, False) (hlocks : meth.locks = false) (w : bSt G cl [] s ws H locs) (hE : Ex E) (hcell : H[q]? = some ce) (hv : ce.vm = .none) (hcl : s.vm.findClass E = some ce.cls) (hc : cells ≤ mc) (hs : slots ≤ sc) :
    vx_W p l e R s m args below meth c H locs cells slots (vx_MQ below Qc (bX Ex s.heap.size) args s mc sc (Aw ms s.heap.size)) (F0 m pc ls rest) q :=
  vx_out (fun x hx => (ht x hx).elim) hlocks hcell hv hcl (fun t h1 _ => ⟨(), trivial, hE, w.2.1.F h1⟩) (fun z hz => (w.2.1.2.2 z hz).elim (fun h => nomatch h) Or.inr) hc hs
/-- throw new E("text") -/
theorem b_throw {Qc : Array Value → State → Outcome → State → Prop} {Ex : String → Prop} {cls text : String} {ik is ic mc sc : Nat} (X : CallFix p m c cc nL s args Ts own) (E : bE G cl nw sw s) (Z : bZ [] s) (hl : l.stackTraces = false) (ht : ∀ x ∈ c.exceptionTable.toList, False) (hlocks : meth.locks = false) (w : bSt G cl [] s ws H locs) (hE : Ex cls) (hsize : ls.size = nL)
    (hcls : Bundle.fit cls = true) (hk : Cond.classLink own ik cls ∈ Ts) (hini : Cond.initialized cls ∈ Ts) (hat : ∀ w ∈ (vx_atS own ic cls ["java/lang/RuntimeException", "java/lang/Exception"]).filter goodWord, w ∈ Ts) (hat2 : ∀ w ∈ (vx_atS own ic cls ["java/lang/RuntimeException", "java/lang/Exception"]).filter (fun w => !goodWord w), w ∈ [Cond.castable cls cls]) (hcast : Cond.castable cls cls ∈ nw)
    (hgood : ∀ w ∈ Cond.classLink own ik cls :: Cond.initialized cls :: vx_atS own ic cls ["java/lang/RuntimeException", "java/lang/Exception"], vx_ot w = true) (hstr : (own, is, text) ∈ sw)
    (d0 : decode cc pc = .ok (.new ik, 3)) (d3 : decode cc (pc + 3) = .ok (.dup, 1)) (d4 : decode cc (pc + 4) = .ok (.ldc is, 2)) (d6 : decode cc (pc + 6) = .ok (.invokespecial ic, 3)) (d9 : decode cc (pc + 9) = .ok (.athrow, 1))
    (hRframes : 5 < R.frames) (hRlocals : (rest.map fun v => v.category).sum + 82 ≤ R.locals) (hRcells : cells + 1 ≤ R.cells) (hRslots : slots + 6 ≤ R.slots) (hc : cells + 1 ≤ mc) (hs : slots + 6 ≤ sc) :
    W p l e R s m args below meth c H locs cells slots (vx_MQ below Qc (bX Ex s.heap.size) args s mc sc (Aw ms s.heap.size)) (F0 m pc ls rest) := by
  obtain ⟨sa, hsa⟩ := E.2.2 _ hstr
  refine vx_throwS (cls := cls) (text := text) (names := ["java/lang/RuntimeException", "java/lang/Exception"]) (A := Aw [] s.heap.size) X.1 X.2.1 hl X.2.2.2.1 hcls (by decide) (X.2.2.2.2 _ hk) (X.2.2.2.2 _ hini) hsa (vx_hat (B := [Cond.castable cls cls]) (fun w hw => X.2.2.2.2 w (hat w hw)) hat2 (vx_c (va_Nw.use rfl (E.2.1 _ hcast).2) vx_n)) hgood Z.1 Z.2 w.2.1 (hsize.trans X.2.2.1.symm) d0 d3 d4 d6 d9 (fun x hx => (ht x hx).elim) hRframes hRlocals hRcells hRslots hlocks
    (fun t h1 h2 h3 => ⟨(), trivial, hE, ⟨Nat.le_trans w.2.1.1 h2, fun q g1 g2 => (h3 q (Nat.lt_of_lt_of_le g1 w.2.1.1)).trans (w.2.1.2.1 q g1 g2)⟩⟩) (fun z hz => (w.2.1.2.2 z hz).elim (fun h => nomatch h) Or.inr) hc hs
theorem b_recv {q0 ci : Nat} {q : vw_C} {fs : List Value} (E : bE G cl nw sw s) (w : bSt G cl ms s ws H locs) (hc : cl[ci]? = some q) (he : ws[q0]? = some (a, .inr (ci, fs))) : ∃ cell : Cell, H[a]? = some cell ∧ cell.vm.isStatics = false ∧ s.vm.findClass q.1 = some cell.cls := va_recv E.1 w.1 hc he
end BR
/-- booleans as the machine has them -/
def bI (b : Bool) : Int32 := if b then 1 else 0
theorem bI_0 {b : Bool} : bI b = 0 ↔ b = false := by cases b <;> simp [bI]
theorem bI_n0 {b : Bool} : ¬ bI b = 0 ↔ b = true := by cases b <;> simp [bI]
theorem bI_01 (b : Bool) : bI b = 0 ∨ bI b = 1 := by cases b <;> simp [bI]
theorem bI_t : bI true = 1 := rfl
theorem bI_f : bI false = 0 := rfl
theorem bI_inj {a b : Bool} : bI a = bI b ↔ a = b := by cases a <;> cases b <;> simp [bI]
theorem bI_nar (b : Bool) : narrow .boolean (.int (bI b)) = .int (bI b) := by cases b <;> rfl
theorem nI_z {a : Nat} (h : a < 2 ^ 31) : nI a = 0 ↔ a = 0 := by rw [← nI_0]; exact nI_eq h (by decide)
def zB (b : Nat → Bool) : Nat → Int32 := fun j => bI (b j)
def uB (b : Nat → Bool) (k : Nat) (x : Bool) : Nat → Bool := fun j => if j = k then x else b j
theorem zB_upd (b : Nat → Bool) (k : Nat) (x : Bool) : upd (zB b) k (bI x) = zB (uB b k x) := by
  funext j
  by_cases h : j = k <;> simp [upd, zB, uB, h]
theorem zB_0 : (fun _ => (0 : Int32)) = zB (fun _ => false) := rfl
theorem bI_or (a b : Bool) : bI a ||| bI b = bI (a || b) := by cases a <;> cases b <;> rfl
theorem bI_and (a b : Bool) : bI a &&& bI b = bI (a && b) := by cases a <;> cases b <;> rfl
theorem q_lt {a b : Nat} (ha : a < 2 ^ 31) (hb : b < 2 ^ 31) (c : nI a < nI b) : a < b := (nI_ltI ha hb).mp c
theorem q_nlt {a b : Nat} (ha : a < 2 ^ 31) (hb : b < 2 ^ 31) (c : ¬ nI a < nI b) : b ≤ a := Nat.not_lt.mp (fun h => c ((nI_ltI ha hb).mpr h))
theorem q_le {a b : Nat} (hb : b < 2 ^ 31) (ha : a < 2 ^ 31) (c : nI a ≤ nI b) : a ≤ b := (nI_leI ha hb).mp c
theorem q_nle {a b : Nat} (hb : b < 2 ^ 31) (ha : a < 2 ^ 31) (c : ¬ nI a ≤ nI b) : b < a := Nat.not_le.mp (fun h => c ((nI_leI ha hb).mpr h))
theorem b_dec {a d : Nat} (h : d ≤ a) : nI a + Int32.ofInt (-(d : Int)) = nI (a - d) := by
  rw [← pk_sub h, Int32.sub_eq_add_neg]
  congr 1
  rw [Int32.ofInt_neg]
  rfl
theorem b_m1 {a : Nat} (h : a < 2 ^ 31) : ¬ nI a = -1 := by
  intro h9
  have := congrArg Int32.toInt h9
  rw [nI_toInt h] at this
  have h2 : (-1 : Int32).toInt = -1 := by decide
  rw [h2] at this
  omega
abbrev MIS : Int32 := -2000000001
abbrev HID : Int32 := -2000000002
theorem b_cg {D : va_G} {cl : List vw_C} {w1 w2 : va_W} {H : Heap} (h : w1 = w2) (hP : va_P D cl w1 H) : va_P D cl w2 H := h ▸ hP
section BL
variable {p : Program} {l : Launch} {e : Env} {R : Room} {s : State} {m : MethodId} {args : Array Value} {below : List Frame} {meth : Method} {c : Code} {cells slots : Nat} {Q : State → Prop}
/-- a loop at pc: I holds at its head, with the fuel that is left -/
theorem b_loop {pc : Nat} {st : List Value} (I : Nat → Heap → List Loc → Array Slot → Prop) (h0 : ∀ (H : Heap) (locs : List Loc) (ls : Array Slot), I 0 H locs ls → False)
    (step : ∀ (n : Nat) (H : Heap) (locs : List Loc) (ls : Array Slot), I (n + 1) H locs ls → (∀ (H' : Heap) (locs' : List Loc) (ls' : Array Slot), I n H' locs' ls' → W p l e R s m args below meth c H' locs' cells slots Q (F0 m pc ls' st)) → W p l e R s m args below meth c H locs cells slots Q (F0 m pc ls st))
    (n : Nat) {H : Heap} {locs : List Loc} {ls : Array Slot} (h : I n H locs ls) : W p l e R s m args below meth c H locs cells slots Q (F0 m pc ls st) := by
  induction n generalizing H locs ls with
  | zero => exact (h0 H locs ls h).elim
  | succ n ih => exact step n H locs ls h (fun H' locs' ls' h' => ih h')
end BL
end
section
/-! words that are not good ones: nest mates, casts; String constants -/
def bNW : List Cond := [.fieldLinkNest "Figurehouse" 112 "Figurehouse$Draft" "size" "I" "Figurehouse", .fieldLinkNest "Figurehouse" 164 "Figurehouse$Book" "earliest" "[I" "Figurehouse", .fieldLinkNest "Figurehouse" 167 "Figurehouse$Book" "linesDone" "[I" "Figurehouse", .fieldLinkNest "Figurehouse" 170 "Figurehouse$Book" "latest" "[I" "Figurehouse", .fieldLinkNest "Figurehouse" 228 "Figurehouse$Draft" "cells" "[I" "Figurehouse", .fieldLinkNest "Figurehouse" 238 "Figurehouse$Draft" "areas" "[I" "Figurehouse", .fieldLinkNest "Figurehouse" 240 "Figurehouse$Draft" "whats" "[I" "Figurehouse", .fieldLinkNest "Figurehouse" 243 "Figurehouse$Draft" "values" "[I" "Figurehouse", .fieldLinkNest "Figurehouse" 250 "Figurehouse$Tree" "size" "I" "Figurehouse", .fieldLinkNest "Figurehouse$Agreements" 15 "Figurehouse$Tree" "size" "I" "Figurehouse", .fieldLinkNest "Figurehouse$Sheet" 24 "Figurehouse$Tree" "size" "I" "Figurehouse", .fieldLinkNest "Figurehouse$Sheet" 44 "Figurehouse$Book" "size" "I" "Figurehouse", .fieldLinkNest "Figurehouse$Sheet" 47 "Figurehouse$Book" "days" "[I" "Figurehouse", .fieldLinkNest "Figurehouse$Sheet" 50 "Figurehouse$Book" "cells" "[I" "Figurehouse", .fieldLinkNest "Figurehouse$Sheet" 53 "Figurehouse$Book" "figures" "[I" "Figurehouse", .fieldLinkNest "Figurehouse$Sheet" 68 "Figurehouse$Tree" "stride" "I" "Figurehouse",
  .methodLinkNest "Figurehouse" 23 yX0_init "Figurehouse", .methodLinkNest "Figurehouse" 30 yX2_init "Figurehouse", .methodLinkNest "Figurehouse" 44 yX3_init "Figurehouse", .methodLinkNest "Figurehouse$Sheet" 30 yX5_slotOf "Figurehouse",
  .castable "java/lang/IndexOutOfBoundsException" "java/lang/IndexOutOfBoundsException", .castable "java/lang/IllegalArgumentException" "java/lang/IllegalArgumentException", .castable "java/lang/IllegalStateException" "java/lang/IllegalStateException",
  .not (.castable "java/lang/IllegalArgumentException" "java/lang/IndexOutOfBoundsException"), .not (.castable "java/lang/IllegalArgumentException" "java/lang/IllegalStateException"), .not (.castable "java/lang/IllegalStateException" "java/lang/IndexOutOfBoundsException"), .not (.castable "java/lang/IllegalStateException" "java/lang/IllegalArgumentException"), .not (.castable "java/lang/IndexOutOfBoundsException" "java/lang/IllegalArgumentException"), .not (.castable "java/lang/IndexOutOfBoundsException" "java/lang/IllegalStateException")]
def bSW : List (String × Nat × String) := [("Figurehouse", 101, "the draft is full"), ("Figurehouse", 116, "the draft is empty"), ("Figurehouse", 121, "too many lines would have been sent"), ("Figurehouse", 131, "no such line"), ("Figurehouse", 140, "days is out of range"), ("Figurehouse", 145, "today would be behind the last day"), ("Figurehouse", 190, "no such period"), ("Figurehouse", 192, "place is below 0"), ("Figurehouse", 194, "from or to is out of range"), ("Figurehouse", 196, "since is out of range"), ("Figurehouse", 206, "no such sender"), ("Figurehouse", 211, "no such area or item"), ("Figurehouse", 214, "no more areas or items"), ("Figurehouse", 216, "no such area"), ("Figurehouse", 218, "no such area, item or period"), ("Figurehouse", 223, "day is out of range"), ("Figurehouse", 86, "what is out of range"), ("Figurehouse", 93, "value is out of range")]
theorem bI_one {b : Bool} (h : b = true) : nI 1 = bI b := by subst h; rfl
theorem bI_zero {b : Bool} (h : b = false) : nI 0 = bI b := by subst h; rfl
def b_abs (x : Int32) : Int32 := if 0 ≤ x then x else 0 - x
/-! trees: numbers that lie in an earlier one or in none -/
def TI (f : Nat → Int32) (n : Nat) : Prop := ∀ k, k < n → f k = -1 ∨ ∃ j, j < k ∧ f k = nI j
def tHas (n : Nat) (x : Int32) : Bool := !decide (x < 0) && !decide (nI n ≤ x)
theorem tHas_iff {n : Nat} {x : Int32} (hn : n < 2 ^ 31) : tHas n x = true ↔ ∃ j, j < n ∧ x = nI j := by
  constructor
  · intro h
    simp only [tHas, Bool.and_eq_true, Bool.not_eq_true', decide_eq_false_iff_not] at h
    rcases pk_ix x hn with h1 | h1 | h1
    · exact absurd h1 h.1
    · exact absurd h1 h.2
    · exact h1
  · rintro ⟨j, hj, rfl⟩
    simp only [tHas, Bool.and_eq_true, Bool.not_eq_true', decide_eq_false_iff_not]
    exact ⟨nI_pos (by omega), nI_ge hj hn⟩
theorem tHas_nI {n j : Nat} (hj : j < n) (hn : n < 2 ^ 31) : tHas n (nI j) = true := (tHas_iff hn).mpr ⟨j, hj, rfl⟩
theorem tHas_m1 {n : Nat} : tHas n (-1) = false := by
  have h : decide ((-1 : Int32) < 0) = true := by decide
  simp [tHas, h]
theorem tHas_yes {n : Nat} {y : Int32} (hy : y = -1 ∨ ∃ j, j < n ∧ y = nI j) (h : tHas n y = true) : ∃ j, j < n ∧ y = nI j := by
  rcases hy with rfl | hy
  · rw [tHas_m1] at h; cases h
  · exact hy
theorem tHas_not {n : Nat} {y : Int32} (hn : n < 2 ^ 31) (hy : y = -1 ∨ ∃ j, j < n ∧ y = nI j) (h : tHas n y = false) : y = -1 := by
  rcases hy with rfl | ⟨j, hj, rfl⟩
  · rfl
  · rw [tHas_nI hj hn] at h; cases h
theorem tI_next {f : Nat → Int32} {n j : Nat} (hT : TI f n) (hj : j < n) : f j = -1 ∨ ∃ i, i < n ∧ f j = nI i := by
  rcases hT j hj with h | ⟨i, hi, h⟩
  · exact Or.inl h
  · exact Or.inr ⟨i, Nat.lt_trans hi hj, h⟩
/-- whether the walk from y outwards meets x -/
def tW (f : Nat → Int32) (x : Int32) : Nat → Int32 → Bool
  | 0, y => decide (y = x)
  | m + 1, y => if y = x then true else if y < 0 then false else tW f x m (f y.toNatClampNeg)
theorem tW_end {f : Nat → Int32} {x y : Int32} {m : Nat} (h : m = 0) : tW f x m y = decide (y = x) := by subst h; rfl
theorem tW_out {f : Nat → Int32} {x y : Int32} {m : Nat} (h : y = -1) : tW f x m y = decide (y = x) := by
  subst h
  cases m with
  | zero => rfl
  | succ m =>
    have h9 : (-1 : Int32) < 0 := by decide
    by_cases hx : (-1 : Int32) = x <;> simp [tW, hx, h9]
theorem tW_hit {f : Nat → Int32} {x y : Int32} {m : Nat} (h : y = x) : tW f x m y = decide (y = x) := by
  cases m <;> simp [tW, h]
theorem tW_next {f : Nat → Int32} {x : Int32} {m m' j : Nat} (hm : m = m' + 1) (hx : ¬ nI j = x) (hj : j < 2 ^ 31) : tW f x m (nI j) = tW f x m' (f j) := by
  subst hm
  show (if nI j = x then true else if nI j < 0 then false else tW f x m' (f (nI j).toNatClampNeg)) = _
  rw [if_neg hx, if_neg (nI_pos hj), nI_clamp hj]
/-- some number below n -/
def anyB (p : Nat → Bool) : Nat → Bool
  | 0 => false
  | n + 1 => anyB p n || p n
theorem anyB_iff {p : Nat → Bool} : ∀ {n : Nat}, anyB p n = true ↔ ∃ k, k < n ∧ p k = true
  | 0 => ⟨fun h => (by cases h), fun ⟨k, hk, _⟩ => absurd hk (Nat.not_lt_zero k)⟩
  | n + 1 => by
    simp only [anyB, Bool.or_eq_true, anyB_iff (n := n)]
    constructor
    · rintro (⟨k, hk, h⟩ | h)
      · exact ⟨k, Nat.lt_succ_of_lt hk, h⟩
      · exact ⟨n, Nat.lt_succ_self n, h⟩
    · rintro ⟨k, hk, h⟩
      rcases Nat.lt_succ_iff_lt_or_eq.mp hk with h1 | h1
      · exact Or.inl ⟨k, h1, h⟩
      · subst h1; exact Or.inr h
theorem anyB_no {p : Nat → Bool} {n : Nat} (h : ∀ k, k < n → p k = false) : anyB p n = false := by
  cases e : anyB p n with
  | false => rfl
  | true =>
    obtain ⟨k, hk, h1⟩ := anyB_iff.mp e
    rw [h k hk] at h1; cases h1
/-- the last figure told of a cell by a day, among the first n lines -/
def fo (bc bd bf : Nat → Int32) (x d : Int32) : Nat → Int32
  | 0 => MIS
  | n + 1 => if bc n = x ∧ bd n ≤ d then bf n else fo bc bd bf x d n
theorem pred_0 {m : Nat} (hm : m < 2 ^ 31) (h : nI m - nI 1 < 0) : m = 0 := by
  cases m with
  | zero => rfl
  | succ m =>
    exfalso
    have h2 : nI (m + 1) - nI 1 = nI m := nI_pred m
    rw [h2] at h
    exact nI_pos (by omega) h
theorem pred_s {m : Nat} (hm : m < 2 ^ 31) (h : ¬ nI m - nI 1 < 0) : ∃ k, m = k + 1 := by
  cases m with
  | zero => exact absurd (by decide) h
  | succ m => exact ⟨m, rfl⟩
theorem pred_e (m : Nat) : nI (m + 1) - nI 1 = nI m := nI_pred m
theorem pred_i (k : Nat) : nI (k + 1) - nI 1 + Int32.ofInt (-1) = nI k - nI 1 := by
  rw [pred_e, Int32.sub_eq_add_neg]
  rfl
theorem fo_hit {bc bd bf : Nat → Int32} {x d : Int32} {k : Nat} (h1 : bc k = x) (h2 : ¬ d < bd k) : fo bc bd bf x d (k + 1) = bf k := by
  have h3 : bd k ≤ d := by
    rw [Int32.le_iff_toInt_le]
    rw [Int32.lt_iff_toInt_lt] at h2
    omega
  show (if bc k = x ∧ bd k ≤ d then bf k else fo bc bd bf x d k) = _
  rw [if_pos ⟨h1, h3⟩]
theorem fo_miss1 {bc bd bf : Nat → Int32} {x d : Int32} {k : Nat} (h1 : ¬ bc k = x) : fo bc bd bf x d (k + 1) = fo bc bd bf x d k := by
  show (if bc k = x ∧ bd k ≤ d then bf k else fo bc bd bf x d k) = _
  rw [if_neg (fun h => h1 h.1)]
theorem fo_miss2 {bc bd bf : Nat → Int32} {x d : Int32} {k : Nat} (h1 : d < bd k) : fo bc bd bf x d (k + 1) = fo bc bd bf x d k := by
  have h3 : ¬ bd k ≤ d := by
    rw [Int32.le_iff_toInt_le]
    rw [Int32.lt_iff_toInt_lt] at h1
    omega
  show (if bc k = x ∧ bd k ≤ d then bf k else fo bc bd bf x d k) = _
  rw [if_neg (fun h => h3 h.2)]
theorem allN_s {p : Nat → Bool} {k : Nat} (h : ∀ j, j < k → p j = false) (hk : p k = false) : ∀ j, j < k + 1 → p j = false := fun j hj => (Nat.lt_succ_iff_lt_or_eq.mp hj).elim (h j) (fun e => by subst e; exact hk)
end
section
set_option maxHeartbeats 4000000 in
set_option maxRecDepth 100000 in
theorem c_X4_has (l : Launch) (hl0 : l.stackTraces = false) (G : bG) (sz : Nat) (h o : Nat) (str n : Nat) (x : Int32) : Met l yX4_has wsX4_has ({ frames := 0, cells := 0, slots := 0, locals := 0 }) (va_Pc [.ref h, .int x] (bPre G vwCl bNW bSW sz [(h, .inr (4, [.ref o, .int (nI str), .int (nI n)]))] [])) (va_Qi (fun (r : Int32) (_ : Unit) => r = bI (tHas n x)) (fun (_ : Unit) (t : State) => va_P G.1 vwCl [] t.heap) (Aw [] sz)) 0 0 (Aw [] sz) := by
  refine Met.ofW (cc := cX4_has) (maxL := 2) (ret := (some .boolean)) (by decide) rfl ?_
  intro p e s m args below meth c s₁ B hml hv
  obtain ⟨rfl, hsz, hP, hD, E, Z⟩ := hv
  have hts := atoms_spec (ws := wsX4_has) B.pre
  have hown : s.vm.findClass RX4 = some m.cls := findClass_of_methodNamed B.named
  have X : CallFix p m c cX4_has 2 s _ wsX4_has RX4 := ⟨B.exec, B.bytes, hml, hown, hts⟩
  have hx := B.exec
  have hb := B.bytes
  have hr := B.returns
  have hlocks := B.notSynchronized
  subst hsz
  have w : bSt G vwCl [] s [(h, .inr (4, [.ref o, .int (nI str), .int (nI n)]))] s.heap [] := ⟨hP, va_S.rf, hD⟩
  have Z0 : bZ [] s := ⟨Z.1.narrow (fun q h => h.elim (fun h => nomatch h) Or.inr), Z.2.narrow (fun q h => h.elim (fun h => nomatch h) Or.inr)⟩
  have iX4 : ∀ w ∈ wsX40, w ∈ wsX4_has := by decide +kernel
  have hl := lv_entry ([.ref h, .int x]) (n := 2) (Nat.le_of_ble_eq_true rfl)
  rw [lg_entry_eq]
  generalize (lg_sl ([.ref h, .int x]) ++ List.replicate (2 - (lg_sl ([.ref h, .int x])).length) Slot.unset).toArray = ls at hl ⊢
  have hl : lv_has ls 2 [(0, .ref h), (1, .int x)] := hl
  refine lv_iload_n hx hb dX4_has_0 rfl (lv_at hl 1 rfl) ?_
  refine lv_if_lt (tgt := 16) hx hb dX4_has_1 (by decide) (fun c_1_3 => ?_) (fun c_1_3 => ?_)
  · refine lv_iconst (v := nI 0) hx hb dX4_has_16 (by decide) ?_
    exact W.zret (v := nI 0) hx hb hr rfl (fun t ht hW => ⟨⟨nI 0, (), rfl, bI_zero (by simp [tHas, c_1_3]), fun k q h => by cases k <;> cases h⟩, w.2.1.F ht⟩) w.2.1.2.2 dX4_has_17
  · refine lv_iload_n hx hb dX4_has_4 rfl (lv_at hl 1 rfl) ?_
    refine lv_aload_n hx hb dX4_has_5 rfl (lv_at hl 0 rfl) ?_
    refine b_get X E w 0 rfl rfl 2 (by decide) iX4 (by decide +kernel) rfl rfl dX4_has_6 ?_
    refine lv_icmp_ge (tgt := 16) hx hb dX4_has_9 (by decide) (fun c_9_4 => ?_) (fun c_9_4 => ?_)
    · refine lv_iconst (v := nI 0) hx hb dX4_has_16 (by decide) ?_
      exact W.zret (v := nI 0) hx hb hr rfl (fun t ht hW => ⟨⟨nI 0, (), rfl, bI_zero (by simp [tHas, c_1_3, c_9_4]), fun k q h => by cases k <;> cases h⟩, w.2.1.F ht⟩) w.2.1.2.2 dX4_has_17
    · refine lv_iconst (v := nI 1) hx hb dX4_has_12 (by decide) ?_
      refine lv_goto (tgt := 17) hx hb dX4_has_13 (by decide) ?_
      exact W.zret (v := nI 1) hx hb hr rfl (fun t ht hW => ⟨⟨nI 1, (), rfl, bI_one (by simp [tHas, c_1_3, c_9_4]), fun k q h => by cases k <;> cases h⟩, w.2.1.F ht⟩) w.2.1.2.2 dX4_has_17
set_option maxHeartbeats 4000000 in
set_option maxRecDepth 100000 in
theorem c_X4_isFull (l : Launch) (hl0 : l.stackTraces = false) (G : bG) (sz : Nat) (h o : Nat) (cap str n : Nat) (f : Nat → Int32) (hn : n ≤ 100) (hc : cap ≤ 100) : Met l yX4_isFull wsX4_isFull ({ frames := 0, cells := 0, slots := 0, locals := 0 }) (va_Pc [.ref h] (bPre G vwCl bNW bSW sz [(h, .inr (4, [.ref o, .int (nI str), .int (nI n)])), (o, .inl (G.2.1, cap, .inl f))] [])) (va_Qi (fun (r : Int32) (_ : Unit) => r = bI (decide (cap ≤ n))) (fun (_ : Unit) (t : State) => va_P G.1 vwCl [] t.heap) (Aw [] sz)) 0 0 (Aw [] sz) := by
  refine Met.ofW (cc := cX4_isFull) (maxL := 1) (ret := (some .boolean)) (by decide) rfl ?_
  intro p e s m args below meth c s₁ B hml hv
  obtain ⟨rfl, hsz, hP, hD, E, Z⟩ := hv
  have hts := atoms_spec (ws := wsX4_isFull) B.pre
  have hown : s.vm.findClass RX4 = some m.cls := findClass_of_methodNamed B.named
  have X : CallFix p m c cX4_isFull 1 s _ wsX4_isFull RX4 := ⟨B.exec, B.bytes, hml, hown, hts⟩
  have hx := B.exec
  have hb := B.bytes
  have hr := B.returns
  have hlocks := B.notSynchronized
  subst hsz
  have w : bSt G vwCl [] s [(h, .inr (4, [.ref o, .int (nI str), .int (nI n)])), (o, .inl (G.2.1, cap, .inl f))] s.heap [] := ⟨hP, va_S.rf, hD⟩
  have Z0 : bZ [] s := ⟨Z.1.narrow (fun q h => h.elim (fun h => nomatch h) Or.inr), Z.2.narrow (fun q h => h.elim (fun h => nomatch h) Or.inr)⟩
  have iX4 : ∀ w ∈ wsX40, w ∈ wsX4_isFull := by decide +kernel
  have hl := lv_entry ([.ref h]) (n := 1) (Nat.le_of_ble_eq_true rfl)
  rw [lg_entry_eq]
  generalize (lg_sl ([.ref h]) ++ List.replicate (1 - (lg_sl ([.ref h])).length) Slot.unset).toArray = ls at hl ⊢
  have hl : lv_has ls 1 [(0, .ref h)] := hl
  refine lv_aload_n hx hb dX4_isFull_0 rfl (lv_at hl 0 rfl) ?_
  refine b_get X E w 0 rfl rfl 2 (by decide) iX4 (by decide +kernel) rfl rfl dX4_isFull_1 ?_
  refine lv_aload_n hx hb dX4_isFull_4 rfl (lv_at hl 0 rfl) ?_
  refine b_get X E w 0 rfl rfl 0 (by decide) iX4 (by decide +kernel) rfl rfl dX4_isFull_5 ?_
  refine b_alen X E w 1 rfl dX4_isFull_8 ?_
  refine lv_icmp_lt (tgt := 16) hx hb dX4_isFull_9 (by decide) (fun c_9_3 => ?_) (fun c_9_3 => ?_)
  · have q_9_4 : n < cap := q_lt (by omega) (by omega) c_9_3
    refine lv_iconst (v := nI 0) hx hb dX4_isFull_16 (by decide) ?_
    exact W.zret (v := nI 0) hx hb hr rfl (fun t ht hW => ⟨⟨nI 0, (), rfl, bI_zero (by simp [q_9_4]; try omega), fun k q h => by cases k <;> cases h⟩, w.2.1.F ht⟩) w.2.1.2.2 dX4_isFull_17
  · have q_9_4 : cap ≤ n := q_nlt (by omega) (by omega) c_9_3
    refine lv_iconst (v := nI 1) hx hb dX4_isFull_12 (by decide) ?_
    refine lv_goto (tgt := 17) hx hb dX4_isFull_13 (by decide) ?_
    exact W.zret (v := nI 1) hx hb hr rfl (fun t ht hW => ⟨⟨nI 1, (), rfl, bI_one (by simp [q_9_4]; try omega), fun k q h => by cases k <;> cases h⟩, w.2.1.F ht⟩) w.2.1.2.2 dX4_isFull_17
set_option maxHeartbeats 4000000 in
set_option maxRecDepth 100000 in
theorem c_X4_grow (l : Launch) (hl0 : l.stackTraces = false) (G : bG) (sz : Nat) (h o : Nat) (cap str n : Nat) (f : Nat → Int32) (x : Int32) (hn : n < cap) (hc : cap ≤ 100) : Met l yX4_grow wsX4_grow ({ frames := 0, cells := 0, slots := 0, locals := 0 }) (va_Pc [.ref h, .int x] (bPre G vwCl bNW bSW sz [(h, .inr (4, [.ref o, .int (nI str), .int (nI n)])), (o, .inl (G.2.1, cap, .inl f))] [h, o])) (va_Qi (fun (r : Int32) (_ : Unit) => r = nI n) (fun (_ : Unit) (t : State) => va_P G.1 vwCl [(h, .inr (4, [.ref o, .int (nI str), .int (nI (n + 1))])), (o, .inl (G.2.1, cap, .inl (upd f n x)))] t.heap) (Aw [h, o] sz)) 0 0 (Aw [h, o] sz) := by
  refine Met.ofW (cc := cX4_grow) (maxL := 3) (ret := (some .int)) (by decide) rfl ?_
  intro p e s m args below meth c s₁ B hml hv
  obtain ⟨rfl, hsz, hP, hD, E, Z⟩ := hv
  have hts := atoms_spec (ws := wsX4_grow) B.pre
  have hown : s.vm.findClass RX4 = some m.cls := findClass_of_methodNamed B.named
  have X : CallFix p m c cX4_grow 3 s _ wsX4_grow RX4 := ⟨B.exec, B.bytes, hml, hown, hts⟩
  have hx := B.exec
  have hb := B.bytes
  have hr := B.returns
  have hlocks := B.notSynchronized
  subst hsz
  have w : bSt G vwCl [] s [(h, .inr (4, [.ref o, .int (nI str), .int (nI n)])), (o, .inl (G.2.1, cap, .inl f))] s.heap [] := ⟨hP, va_S.rf, hD⟩
  have Z0 : bZ [] s := ⟨Z.1.narrow (fun q h => h.elim (fun h => nomatch h) Or.inr), Z.2.narrow (fun q h => h.elim (fun h => nomatch h) Or.inr)⟩
  have iX4 : ∀ w ∈ wsX40, w ∈ wsX4_grow := by decide +kernel
  have hl := lv_entry ([.ref h, .int x]) (n := 3) (Nat.le_of_ble_eq_true rfl)
  rw [lg_entry_eq]
  generalize (lg_sl ([.ref h, .int x]) ++ List.replicate (3 - (lg_sl ([.ref h, .int x])).length) Slot.unset).toArray = ls at hl ⊢
  have hl : lv_has ls 3 [(0, .ref h), (1, .int x)] := hl
  refine lv_aload_n hx hb dX4_grow_0 rfl (lv_at hl 0 rfl) ?_
  refine b_get X E w 0 rfl rfl 2 (by decide) iX4 (by decide +kernel) rfl rfl dX4_grow_1 ?_
  refine lv_istore_n (lv' := [(2, .int (nI n)), (0, .ref h), (1, .int x)]) hx hb dX4_grow_4 rfl hl (by decide) rfl (fun ls hl => ?_)
  refine lv_iload_n hx hb dX4_grow_5 rfl (lv_at hl 0 rfl) ?_
  refine lv_aload_n hx hb dX4_grow_6 rfl (lv_at hl 1 rfl) ?_
  refine b_get X E w 0 rfl rfl 0 (by decide) iX4 (by decide +kernel) rfl rfl dX4_grow_7 ?_
  refine b_alen X E w 1 rfl dX4_grow_10 ?_
  refine lv_icmp_ge (tgt := 28) hx hb dX4_grow_11 (by decide) (fun c_11_3 => ?_) (fun c_11_3 => ?_)
  · exact absurd (q_le (by omega) (by omega) c_11_3) (by omega)
  · have q_11_4 : n < cap := q_nle (by omega) (by omega) c_11_3
    refine lv_aload_n hx hb dX4_grow_14 rfl (lv_at hl 1 rfl) ?_
    refine b_get X E w 0 rfl rfl 0 (by decide) iX4 (by decide +kernel) rfl rfl dX4_grow_15 ?_
    refine lv_iload_n hx hb dX4_grow_18 rfl (lv_at hl 0 rfl) ?_
    refine lv_iload_n hx hb dX4_grow_19 rfl (lv_at hl 2 rfl) ?_
    have w := b_wide [h, o] b_nil w
    refine b_iast X E w (Or.inl (List.mem_of_getElem? (i := 1) rfl)) 1 rfl n rfl (by omega) (by first | decide | omega) dX4_grow_20 (fun H locs w => ?_)
    have w : bSt G vwCl [h, o] s [(h, .inr (4, [.ref o, .int (nI str), .int (nI n)])), (o, .inl (G.2.1, cap, .inl (upd f n x)))] H locs := w
    refine lv_aload_n hx hb dX4_grow_21 rfl (lv_at hl 1 rfl) ?_
    refine lv_iload_n hx hb dX4_grow_22 rfl (lv_at hl 0 rfl) ?_
    refine lv_iconst (v := nI 1) hx hb dX4_grow_23 (by decide) ?_
    refine lv_iadd hx hb dX4_grow_24 ?_
    refine b_tp (show (nI n) + (nI 1) = nI (n + 1) from nI_add n 1) ?_
    refine b_put (ty := .int) X E w (Or.inl (List.mem_of_getElem? (i := 0) rfl)) 0 rfl rfl 2 (by decide) iX4 tyX4 tyX4_ok nmX4 (by decide +kernel) rfl rfl (by decide +kernel) rfl rfl (Nat.le_of_ble_eq_true rfl) dX4_grow_25 (fun H locs w => ?_)
    have w : bSt G vwCl [h, o] s [(h, .inr (4, [.ref o, .int (nI str), .int (nI (n + 1))])), (o, .inl (G.2.1, cap, .inl (upd f n x)))] H locs := w
    refine lv_iload_n hx hb dX4_grow_28 rfl (lv_at hl 0 rfl) ?_
    exact W.iret (v := nI n) hx hb hr (fun t ht hW => ⟨⟨nI n, (), rfl, rfl, by show va_P G.1 vwCl _ t.heap; rw [ht]; exact b_cg (rfl) (w.1.sub (ws' := [(h, .inr (4, [.ref o, .int (nI str), .int (nI (n + 1))])), (o, .inl (G.2.1, cap, .inl (upd f n x)))]) [0, 1] rfl)⟩, w.2.1.F ht⟩) w.2.1.2.2 dX4_grow_29
set_option maxHeartbeats 4000000 in
set_option maxRecDepth 100000 in
theorem c_X4_isRightIn (l : Launch) (hl0 : l.stackTraces = false) (G : bG) (sz : Nat) (h o : Nat) (cap str n : Nat) (f : Nat → Int32) (k : Nat) (y : Int32) (hk : k < n) (hn : n ≤ cap) (hc : cap ≤ 100) : Met l yX4_isRightIn wsX4_isRightIn ({ frames := 0, cells := 0, slots := 0, locals := 0 }) (va_Pc [.ref h, .int (nI k), .int y] (bPre G vwCl bNW bSW sz [(h, .inr (4, [.ref o, .int (nI str), .int (nI n)])), (o, .inl (G.2.1, cap, .inl f))] [])) (va_Qi (fun (r : Int32) (_ : Unit) => r = bI (decide (f k = y))) (fun (_ : Unit) (t : State) => va_P G.1 vwCl [] t.heap) (Aw [] sz)) 0 0 (Aw [] sz) := by
  refine Met.ofW (cc := cX4_isRightIn) (maxL := 3) (ret := (some .boolean)) (by decide) rfl ?_
  intro p e s m args below meth c s₁ B hml hv
  obtain ⟨rfl, hsz, hP, hD, E, Z⟩ := hv
  have hts := atoms_spec (ws := wsX4_isRightIn) B.pre
  have hown : s.vm.findClass RX4 = some m.cls := findClass_of_methodNamed B.named
  have X : CallFix p m c cX4_isRightIn 3 s _ wsX4_isRightIn RX4 := ⟨B.exec, B.bytes, hml, hown, hts⟩
  have hx := B.exec
  have hb := B.bytes
  have hr := B.returns
  have hlocks := B.notSynchronized
  subst hsz
  have w : bSt G vwCl [] s [(h, .inr (4, [.ref o, .int (nI str), .int (nI n)])), (o, .inl (G.2.1, cap, .inl f))] s.heap [] := ⟨hP, va_S.rf, hD⟩
  have Z0 : bZ [] s := ⟨Z.1.narrow (fun q h => h.elim (fun h => nomatch h) Or.inr), Z.2.narrow (fun q h => h.elim (fun h => nomatch h) Or.inr)⟩
  have iX4 : ∀ w ∈ wsX40, w ∈ wsX4_isRightIn := by decide +kernel
  have hl := lv_entry ([.ref h, .int (nI k), .int y]) (n := 3) (Nat.le_of_ble_eq_true rfl)
  rw [lg_entry_eq]
  generalize (lg_sl ([.ref h, .int (nI k), .int y]) ++ List.replicate (3 - (lg_sl ([.ref h, .int (nI k), .int y])).length) Slot.unset).toArray = ls at hl ⊢
  have hl : lv_has ls 3 [(0, .ref h), (1, .int (nI k)), (2, .int y)] := hl
  refine lv_iload_n hx hb dX4_isRightIn_0 rfl (lv_at hl 1 rfl) ?_
  refine lv_if_lt (tgt := 26) hx hb dX4_isRightIn_1 (by decide) (fun c_1_6 => ?_) (fun c_1_6 => ?_)
  · exact absurd c_1_6 (nI_pos (by omega))
  · refine lv_iload_n hx hb dX4_isRightIn_4 rfl (lv_at hl 1 rfl) ?_
    refine lv_aload_n hx hb dX4_isRightIn_5 rfl (lv_at hl 0 rfl) ?_
    refine b_get X E w 0 rfl rfl 2 (by decide) iX4 (by decide +kernel) rfl rfl dX4_isRightIn_6 ?_
    refine lv_icmp_ge (tgt := 26) hx hb dX4_isRightIn_9 (by decide) (fun c_9_8 => ?_) (fun c_9_8 => ?_)
    · exact absurd (q_le (by omega) (by omega) c_9_8) (by omega)
    · have q_9_9 : k < n := q_nle (by omega) (by omega) c_9_8
      refine lv_aload_n hx hb dX4_isRightIn_12 rfl (lv_at hl 0 rfl) ?_
      refine b_get X E w 0 rfl rfl 0 (by decide) iX4 (by decide +kernel) rfl rfl dX4_isRightIn_13 ?_
      refine lv_iload_n hx hb dX4_isRightIn_16 rfl (lv_at hl 1 rfl) ?_
      refine b_iald X E w 1 rfl k rfl (by omega) (by first | decide | omega) dX4_isRightIn_17 ?_
      refine lv_iload_n hx hb dX4_isRightIn_18 rfl (lv_at hl 2 rfl) ?_
      refine lv_icmp_ne (tgt := 26) hx hb dX4_isRightIn_19 (by decide) (fun c_19_10 => ?_) (fun c_19_10 => ?_)
      · refine lv_iconst (v := nI 0) hx hb dX4_isRightIn_26 (by decide) ?_
        exact W.zret (v := nI 0) hx hb hr rfl (fun t ht hW => ⟨⟨nI 0, (), rfl, bI_zero (by simp [q_9_9, c_19_10]), fun k q h => by cases k <;> cases h⟩, w.2.1.F ht⟩) w.2.1.2.2 dX4_isRightIn_27
      · refine lv_iconst (v := nI 1) hx hb dX4_isRightIn_22 (by decide) ?_
        refine lv_goto (tgt := 27) hx hb dX4_isRightIn_23 (by decide) ?_
        exact W.zret (v := nI 1) hx hb hr rfl (fun t ht hW => ⟨⟨nI 1, (), rfl, bI_one (by simp [q_9_9, c_19_10]), fun k q h => by cases k <;> cases h⟩, w.2.1.F ht⟩) w.2.1.2.2 dX4_isRightIn_27
set_option maxHeartbeats 4000000 in
set_option maxRecDepth 100000 in
theorem c_X4_isWithin (l : Launch) (hl0 : l.stackTraces = false) (G : bG) (sz : Nat) (h o : Nat) (cap str n : Nat) (f : Nat → Int32) (k : Nat) (x : Int32) (hk : k < n) (hn : n ≤ cap) (hc : cap ≤ 100) (hT : TI f n) : Met l yX4_isWithin wsX4_isWithin ({ frames := 1, cells := 0, slots := 0, locals := 21 }) (va_Pc [.ref h, .int (nI k), .int x] (bPre G vwCl bNW bSW sz [(h, .inr (4, [.ref o, .int (nI str), .int (nI n)])), (o, .inl (G.2.1, cap, .inl f))] [])) (va_Qi (fun (r : Int32) (_ : Unit) => r = bI (tW f x n (nI k))) (fun (_ : Unit) (t : State) => va_P G.1 vwCl [] t.heap) (Aw [] sz)) 0 0 (Aw [] sz) := by
  refine Met.ofW (cc := cX4_isWithin) (maxL := 5) (ret := (some .boolean)) (by decide) rfl ?_
  intro p e s m args below meth c s₁ B hml hv
  obtain ⟨rfl, hsz, hP, hD, E, Z⟩ := hv
  have hts := atoms_spec (ws := wsX4_isWithin) B.pre
  have hown : s.vm.findClass RX4 = some m.cls := findClass_of_methodNamed B.named
  have X : CallFix p m c cX4_isWithin 5 s _ wsX4_isWithin RX4 := ⟨B.exec, B.bytes, hml, hown, hts⟩
  have hx := B.exec
  have hb := B.bytes
  have hr := B.returns
  have hlocks := B.notSynchronized
  subst hsz
  have w : bSt G vwCl [] s [(h, .inr (4, [.ref o, .int (nI str), .int (nI n)])), (o, .inl (G.2.1, cap, .inl f))] s.heap [] := ⟨hP, va_S.rf, hD⟩
  have Z0 : bZ [] s := ⟨Z.1.narrow (fun q h => h.elim (fun h => nomatch h) Or.inr), Z.2.narrow (fun q h => h.elim (fun h => nomatch h) Or.inr)⟩
  have iX4 : ∀ w ∈ wsX40, w ∈ wsX4_isWithin := by decide +kernel
  have hl := lv_entry ([.ref h, .int (nI k), .int x]) (n := 5) (Nat.le_of_ble_eq_true rfl)
  rw [lg_entry_eq]
  generalize (lg_sl ([.ref h, .int (nI k), .int x]) ++ List.replicate (5 - (lg_sl ([.ref h, .int (nI k), .int x])).length) Slot.unset).toArray = ls at hl ⊢
  have hl : lv_has ls 5 [(0, .ref h), (1, .int (nI k)), (2, .int x)] := hl
  refine lv_iload_n hx hb dX4_isWithin_0 rfl (lv_at hl 1 rfl) ?_
  refine lv_istore_n (lv' := [(3, .int (nI k)), (0, .ref h), (1, .int (nI k)), (2, .int x)]) hx hb dX4_isWithin_1 rfl hl (by decide) rfl (fun ls hl => ?_)
  refine lv_iconst (v := nI 0) hx hb dX4_isWithin_2 (by decide) ?_
  refine lv_istore (lv' := [(4, .int (nI 0)), (3, .int (nI k)), (0, .ref h), (1, .int (nI k)), (2, .int x)]) hx hb dX4_isWithin_3 hl (by decide) rfl (fun ls hl => ?_)
  refine b_loop (pc := 5) (st := []) (fun (fuel : Nat) (H : Heap) (locs : List Loc) (ls : Array Slot) => ∃ (i : Nat) (y : Int32), (i ≤ n) ∧ (n + 1 ≤ i + fuel) ∧ (y = -1 ∨ ∃ j, j < n ∧ y = nI j) ∧ (tW f x n (nI k) = tW f x (n - i) y) ∧ bSt G vwCl [] s [(h, .inr (4, [.ref o, .int (nI str), .int (nI n)])), (o, .inl (G.2.1, cap, .inl f))] H locs ∧ lv_has ls 5 [(0, .ref h), (2, .int x), (3, .int y), (4, .int (nI i))]) (fun H locs ls h9 => ?_) (fun fuel H locs ls hI ih5 => ?_) (n + 1) ⟨0, nI k, (by omega), (by omega), Or.inr ⟨k, hk, rfl⟩, rfl, w, lv_sub hl [2, 4, 1, 0] rfl⟩
  · obtain ⟨i, y, hi, hf, hy, hW, w, hl⟩ := h9
    omega
  · obtain ⟨i, y, hi, hf, hy, hW, w, hl⟩ := hI
    refine lv_iload hx hb dX4_isWithin_5 (lv_at hl 3 rfl) ?_
    refine lv_aload_n hx hb dX4_isWithin_7 rfl (lv_at hl 0 rfl) ?_
    refine b_get X E w 0 rfl rfl 2 (by decide) iX4 (by decide +kernel) rfl rfl dX4_isWithin_8 ?_
    refine lv_icmp_ge (tgt := 40) hx hb dX4_isWithin_11 (by decide) (fun c_11_10 => ?_) (fun c_11_10 => ?_)
    · have q_11_11 : n ≤ i := q_le (by omega) (by omega) c_11_10
      have hE : tW f x n (nI k) = decide (y = x) := hW.trans (tW_end (by omega))
      refine lv_iload_n hx hb dX4_isWithin_40 rfl (lv_at hl 2 rfl) ?_
      refine lv_iload_n hx hb dX4_isWithin_41 rfl (lv_at hl 1 rfl) ?_
      refine lv_icmp_ne (tgt := 49) hx hb dX4_isWithin_42 (by decide) (fun c_42_12 => ?_) (fun c_42_12 => ?_)
      · refine lv_iconst (v := nI 0) hx hb dX4_isWithin_49 (by decide) ?_
        exact W.zret (v := nI 0) hx hb hr rfl (fun t ht hW => ⟨⟨nI 0, (), rfl, bI_zero (by rw [hE]; first | (simp [q_11_11, c_42_12]; done) | contradiction), fun k q h => by cases k <;> cases h⟩, w.2.1.F ht⟩) w.2.1.2.2 dX4_isWithin_50
      · refine lv_iconst (v := nI 1) hx hb dX4_isWithin_45 (by decide) ?_
        refine lv_goto (tgt := 50) hx hb dX4_isWithin_46 (by decide) ?_
        exact W.zret (v := nI 1) hx hb hr rfl (fun t ht hW => ⟨⟨nI 1, (), rfl, bI_one (by rw [hE]; first | (simp [q_11_11, c_42_12]; done) | contradiction), fun k q h => by cases k <;> cases h⟩, w.2.1.F ht⟩) w.2.1.2.2 dX4_isWithin_50
    · have q_11_11 : i < n := q_nle (by omega) (by omega) c_11_10
      refine lv_aload_n hx hb dX4_isWithin_14 rfl (lv_at hl 0 rfl) ?_
      refine lv_iload_n hx hb dX4_isWithin_15 rfl (lv_at hl 2 rfl) ?_
      refine b_calli w (va_runV (As := [.int y]) (rest := []) X (c_X4_has l hl0 G H.size (h := h) (x := y) (o := o) (str := str) (n := n) ) (cwV 1 hts gX4_isWithin_X4_has rfl rfl rfl (by decide +kernel) ⟨Nat.le_of_ble_eq_true rfl, Nat.le_of_ble_eq_true rfl⟩) ⟨b_blind, b_recv E w (ci := 4) (q0 := 0) rfl rfl, (fun U9 hU9 hW9 => ⟨rfl, b_pre E Z0 w [0] (by decide) rfl b_nil U9 hU9 hW9⟩)⟩ rfl rfl hl.1 rfl (lv_room (Nat.le_of_ble_eq_true rfl)) dX4_isWithin_16 ⟨Nat.le_of_ble_eq_true rfl, Nat.le_of_ble_eq_true rfl⟩) b_nil [] (fun _ => rfl) rfl (fun r16_13 u16_13 H locs hr16_13 w => ?_)
      have w : bSt G vwCl [] s [(h, .inr (4, [.ref o, .int (nI str), .int (nI n)])), (o, .inl (G.2.1, cap, .inl f))] H locs := w
      subst hr16_13
      refine lv_if_eq (tgt := 40) hx hb dX4_isWithin_19 (by decide) (fun c_19_14 => ?_) (fun c_19_14 => ?_)
      · have q_19_15 : (tHas n y) = false := bI_0.mp c_19_14
        have hE : tW f x n (nI k) = decide (y = x) := hW.trans (tW_out (tHas_not (by omega) hy q_19_15))
        refine lv_iload_n hx hb dX4_isWithin_40 rfl (lv_at hl 2 rfl) ?_
        refine lv_iload_n hx hb dX4_isWithin_41 rfl (lv_at hl 1 rfl) ?_
        refine lv_icmp_ne (tgt := 49) hx hb dX4_isWithin_42 (by decide) (fun c_42_16 => ?_) (fun c_42_16 => ?_)
        · refine lv_iconst (v := nI 0) hx hb dX4_isWithin_49 (by decide) ?_
          exact W.zret (v := nI 0) hx hb hr rfl (fun t ht hW => ⟨⟨nI 0, (), rfl, bI_zero (by rw [hE]; first | (simp [q_11_11, q_19_15, c_42_16]; done) | contradiction), fun k q h => by cases k <;> cases h⟩, w.2.1.F ht⟩) w.2.1.2.2 dX4_isWithin_50
        · refine lv_iconst (v := nI 1) hx hb dX4_isWithin_45 (by decide) ?_
          refine lv_goto (tgt := 50) hx hb dX4_isWithin_46 (by decide) ?_
          exact W.zret (v := nI 1) hx hb hr rfl (fun t ht hW => ⟨⟨nI 1, (), rfl, bI_one (by rw [hE]; first | (simp [q_11_11, q_19_15, c_42_16]; done) | contradiction), fun k q h => by cases k <;> cases h⟩, w.2.1.F ht⟩) w.2.1.2.2 dX4_isWithin_50
      · have q_19_15 : (tHas n y) = true := bI_n0.mp c_19_14
        obtain ⟨j, hj, rfl⟩ := tHas_yes hy q_19_15
        refine lv_iload_n hx hb dX4_isWithin_22 rfl (lv_at hl 2 rfl) ?_
        refine lv_iload_n hx hb dX4_isWithin_23 rfl (lv_at hl 1 rfl) ?_
        refine lv_icmp_eq (tgt := 40) hx hb dX4_isWithin_24 (by decide) (fun c_24_17 => ?_) (fun c_24_17 => ?_)
        · have hE : tW f x n (nI k) = decide (nI j = x) := hW.trans (tW_hit c_24_17)
          refine lv_iload_n hx hb dX4_isWithin_40 rfl (lv_at hl 2 rfl) ?_
          refine lv_iload_n hx hb dX4_isWithin_41 rfl (lv_at hl 1 rfl) ?_
          refine lv_icmp_ne (tgt := 49) hx hb dX4_isWithin_42 (by decide) (fun c_42_18 => ?_) (fun c_42_18 => ?_)
          · refine lv_iconst (v := nI 0) hx hb dX4_isWithin_49 (by decide) ?_
            exact W.zret (v := nI 0) hx hb hr rfl (fun t ht hW => ⟨⟨nI 0, (), rfl, bI_zero (by rw [hE]; first | (simp [q_11_11, q_19_15, c_24_17, c_42_18]; done) | contradiction), fun k q h => by cases k <;> cases h⟩, w.2.1.F ht⟩) w.2.1.2.2 dX4_isWithin_50
          · refine lv_iconst (v := nI 1) hx hb dX4_isWithin_45 (by decide) ?_
            refine lv_goto (tgt := 50) hx hb dX4_isWithin_46 (by decide) ?_
            exact W.zret (v := nI 1) hx hb hr rfl (fun t ht hW => ⟨⟨nI 1, (), rfl, bI_one (by rw [hE]; first | (simp [q_11_11, q_19_15, c_24_17, c_42_18]; done) | contradiction), fun k q h => by cases k <;> cases h⟩, w.2.1.F ht⟩) w.2.1.2.2 dX4_isWithin_50
        · have c24 := c_24_17
          refine lv_aload_n hx hb dX4_isWithin_27 rfl (lv_at hl 0 rfl) ?_
          refine b_get X E w 0 rfl rfl 0 (by decide) iX4 (by decide +kernel) rfl rfl dX4_isWithin_28 ?_
          refine lv_iload_n hx hb dX4_isWithin_31 rfl (lv_at hl 2 rfl) ?_
          refine b_iald X E w 1 rfl j rfl (by omega) (by first | decide | omega) dX4_isWithin_32 ?_
          refine lv_istore_n (lv' := [(3, .int (f j)), (0, .ref h), (2, .int x), (4, .int (nI i))]) hx hb dX4_isWithin_33 rfl hl (by decide) rfl (fun ls hl => ?_)
          refine lv_iinc (v := nI (i + 1)) (lv' := [(4, .int (nI (i + 1))), (3, .int (f j)), (0, .ref h), (2, .int x)]) hx hb dX4_isWithin_34 hl (k := 3) rfl (nI_add i 1) (by decide) rfl (fun ls hl => ?_)
          refine lv_goto (tgt := 5) hx hb dX4_isWithin_37 (by decide) ?_
          exact ih5 _ _ _ ⟨i + 1, f j, (by omega), (by omega), tI_next hT hj, hW.trans (tW_next (by omega) c24 (by omega)), w, lv_sub hl [2, 3, 1, 0] rfl⟩
set_option maxHeartbeats 4000000 in
set_option maxRecDepth 100000 in
theorem c_X0_change (l : Launch) (hl0 : l.stackTraces = false) (G : bG) (sz : Nat) (h q : Nat) (on : Nat → Bool) (sd a : Nat) (b : Bool) (hs : sd < 4) (ha : a < 14) : Met l yX0_change wsX0_change ({ frames := 0, cells := 0, slots := 0, locals := 0 }) (va_Pc [.ref h, .int (nI sd), .int (nI a), .int (bI b)] (bPre G vwCl bNW bSW sz [(h, .inr (0, [.ref q])), (q, .inl (G.2.2.1, 56, .inl (zB on)))] [q])) (va_Qi (fun (r : Int32) (_ : Unit) => r = bI ((on (sd * 14 + a) != b))) (fun (_ : Unit) (t : State) => va_P G.1 vwCl [(q, .inl (G.2.2.1, 56, .inl (zB (uB on (sd * 14 + a) b))))] t.heap) (Aw [q] sz)) 0 0 (Aw [q] sz) := by
  refine Met.ofW (cc := cX0_change) (maxL := 6) (ret := (some .boolean)) (by decide) rfl ?_
  intro p e s m args below meth c s₁ B hml hv
  obtain ⟨rfl, hsz, hP, hD, E, Z⟩ := hv
  have hts := atoms_spec (ws := wsX0_change) B.pre
  have hown : s.vm.findClass RX0 = some m.cls := findClass_of_methodNamed B.named
  have X : CallFix p m c cX0_change 6 s _ wsX0_change RX0 := ⟨B.exec, B.bytes, hml, hown, hts⟩
  have hx := B.exec
  have hb := B.bytes
  have hr := B.returns
  have hlocks := B.notSynchronized
  subst hsz
  have w : bSt G vwCl [] s [(h, .inr (0, [.ref q])), (q, .inl (G.2.2.1, 56, .inl (zB on)))] s.heap [] := ⟨hP, va_S.rf, hD⟩
  have Z0 : bZ [] s := ⟨Z.1.narrow (fun q h => h.elim (fun h => nomatch h) Or.inr), Z.2.narrow (fun q h => h.elim (fun h => nomatch h) Or.inr)⟩
  have iX0 : ∀ w ∈ wsX00, w ∈ wsX0_change := by decide +kernel
  have hl := lv_entry ([.ref h, .int (nI sd), .int (nI a), .int (bI b)]) (n := 6) (Nat.le_of_ble_eq_true rfl)
  rw [lg_entry_eq]
  generalize (lg_sl ([.ref h, .int (nI sd), .int (nI a), .int (bI b)]) ++ List.replicate (6 - (lg_sl ([.ref h, .int (nI sd), .int (nI a), .int (bI b)])).length) Slot.unset).toArray = ls at hl ⊢
  have hl : lv_has ls 6 [(0, .ref h), (1, .int (nI sd)), (2, .int (nI a)), (3, .int (bI b))] := hl
  refine lv_iload_n hx hb dX0_change_0 rfl (lv_at hl 1 rfl) ?_
  refine lv_bipush (v := nI 14) hx hb dX0_change_1 (by decide) ?_
  refine lv_imul hx hb dX0_change_3 ?_
  refine b_tp (show (nI sd) * (nI 14) = nI (sd * 14) from pk_mul sd 14) ?_
  refine lv_iload_n hx hb dX0_change_4 rfl (lv_at hl 2 rfl) ?_
  refine lv_iadd hx hb dX0_change_5 ?_
  refine b_tp (show (nI (sd * 14)) + (nI a) = nI ((sd * 14) + a) from nI_add (sd * 14) a) ?_
  refine lv_istore (lv' := [(4, .int (nI ((sd * 14) + a))), (0, .ref h), (1, .int (nI sd)), (2, .int (nI a)), (3, .int (bI b))]) hx hb dX0_change_6 hl (by decide) rfl (fun ls hl => ?_)
  refine lv_aload_n hx hb dX0_change_8 rfl (lv_at hl 1 rfl) ?_
  refine b_get X E w 0 rfl rfl 0 (by decide) iX0 (by decide +kernel) rfl rfl dX0_change_9 ?_
  refine lv_iload hx hb dX0_change_12 (lv_at hl 0 rfl) ?_
  refine b_zald X E w 1 rfl ((sd * 14) + a) rfl (by omega) (by first | decide | omega) dX0_change_14 ?_
  refine b_tp (show zB on ((sd * 14) + a) = bI (on ((sd * 14) + a)) from rfl) ?_
  refine lv_iload_n hx hb dX0_change_15 rfl (lv_at hl 4 rfl) ?_
  refine lv_icmp_eq (tgt := 23) hx hb dX0_change_16 (by decide) (fun c_16_3 => ?_) (fun c_16_3 => ?_)
  · have q_16_4 : (on ((sd * 14) + a)) = b := bI_inj.mp c_16_3
    refine lv_iconst (v := nI 0) hx hb dX0_change_23 (by decide) ?_
    refine lv_istore (lv' := [(5, .int (nI 0)), (4, .int (nI ((sd * 14) + a))), (0, .ref h), (1, .int (nI sd)), (2, .int (nI a)), (3, .int (bI b))]) hx hb dX0_change_24 hl (by decide) rfl (fun ls hl => ?_)
    refine lv_aload_n hx hb dX0_change_26 rfl (lv_at hl 2 rfl) ?_
    refine b_get X E w 0 rfl rfl 0 (by decide) iX0 (by decide +kernel) rfl rfl dX0_change_27 ?_
    refine lv_iload hx hb dX0_change_30 (lv_at hl 1 rfl) ?_
    refine lv_iload_n hx hb dX0_change_32 rfl (lv_at hl 5 rfl) ?_
    have w := b_wide [q] b_nil w
    refine b_zast X E w (Or.inl (List.mem_of_getElem? (i := 0) rfl)) 1 rfl ((sd * 14) + a) rfl (by omega) (by first | decide | omega) (bI_01 _) dX0_change_33 (fun H locs w => ?_)
    rw [zB_upd] at w
    have w : bSt G vwCl [q] s [(h, .inr (0, [.ref q])), (q, .inl (G.2.2.1, 56, .inl (zB (uB on ((sd * 14) + a) b))))] H locs := w
    refine lv_iload hx hb dX0_change_34 (lv_at hl 0 rfl) ?_
    exact W.zret (v := nI 0) hx hb hr rfl (fun t ht hW => ⟨⟨nI 0, (), rfl, bI_zero (by simp [q_16_4]), by show va_P G.1 vwCl _ t.heap; rw [ht]; exact b_cg (rfl) (w.1.sub (ws' := [(q, .inl (G.2.2.1, 56, .inl (zB (uB on ((sd * 14) + a) b))))]) [1] rfl)⟩, w.2.1.F ht⟩) w.2.1.2.2 dX0_change_36
  · have q_16_4 : ¬ (on ((sd * 14) + a)) = b := fun h9 => c_16_3 (bI_inj.mpr h9)
    refine lv_iconst (v := nI 1) hx hb dX0_change_19 (by decide) ?_
    refine lv_goto (tgt := 24) hx hb dX0_change_20 (by decide) ?_
    refine lv_istore (lv' := [(5, .int (nI 1)), (4, .int (nI ((sd * 14) + a))), (0, .ref h), (1, .int (nI sd)), (2, .int (nI a)), (3, .int (bI b))]) hx hb dX0_change_24 hl (by decide) rfl (fun ls hl => ?_)
    refine lv_aload_n hx hb dX0_change_26 rfl (lv_at hl 2 rfl) ?_
    refine b_get X E w 0 rfl rfl 0 (by decide) iX0 (by decide +kernel) rfl rfl dX0_change_27 ?_
    refine lv_iload hx hb dX0_change_30 (lv_at hl 1 rfl) ?_
    refine lv_iload_n hx hb dX0_change_32 rfl (lv_at hl 5 rfl) ?_
    have w := b_wide [q] b_nil w
    refine b_zast X E w (Or.inl (List.mem_of_getElem? (i := 0) rfl)) 1 rfl ((sd * 14) + a) rfl (by omega) (by first | decide | omega) (bI_01 _) dX0_change_33 (fun H locs w => ?_)
    rw [zB_upd] at w
    have w : bSt G vwCl [q] s [(h, .inr (0, [.ref q])), (q, .inl (G.2.2.1, 56, .inl (zB (uB on ((sd * 14) + a) b))))] H locs := w
    refine lv_iload hx hb dX0_change_34 (lv_at hl 0 rfl) ?_
    exact W.zret (v := nI 1) hx hb hr rfl (fun t ht hW => ⟨⟨nI 1, (), rfl, bI_one (by simp [q_16_4]), by show va_P G.1 vwCl _ t.heap; rw [ht]; exact b_cg (rfl) (w.1.sub (ws' := [(q, .inl (G.2.2.1, 56, .inl (zB (uB on ((sd * 14) + a) b))))]) [1] rfl)⟩, w.2.1.F ht⟩) w.2.1.2.2 dX0_change_36
set_option maxHeartbeats 4000000 in
set_option maxRecDepth 100000 in
theorem c_X0_cover (l : Launch) (hl0 : l.stackTraces = false) (G : bG) (sz : Nat) (h q : Nat) (on : Nat → Bool) (sd a : Nat) (th o cap str n : Nat) (f : Nat → Int32) (hs : sd < 4) (ha : a < n) (hn : n ≤ cap) (hc : cap ≤ 14) (hT : TI f n) : Met l yX0_cover wsX0_cover ({ frames := 2, cells := 0, slots := 0, locals := 45 }) (va_Pc [.ref h, .int (nI sd), .int (nI a), .ref th] (bPre G vwCl bNW bSW sz [(h, .inr (0, [.ref q])), (q, .inl (G.2.2.1, 56, .inl (zB on))), (th, .inr (4, [.ref o, .int (nI str), .int (nI n)])), (o, .inl (G.2.1, cap, .inl f))] [])) (va_Qi (fun (r : Int32) (_ : Unit) => r = bI (anyB (fun k => on (sd * 14 + k) && tW f (nI k) n (nI a)) n)) (fun (_ : Unit) (t : State) => va_P G.1 vwCl [] t.heap) (Aw [] sz)) 0 0 (Aw [] sz) := by
  refine Met.ofW (cc := cX0_cover) (maxL := 5) (ret := (some .boolean)) (by decide) rfl ?_
  intro p e s m args below meth c s₁ B hml hv
  obtain ⟨rfl, hsz, hP, hD, E, Z⟩ := hv
  have hts := atoms_spec (ws := wsX0_cover) B.pre
  have hown : s.vm.findClass RX0 = some m.cls := findClass_of_methodNamed B.named
  have X : CallFix p m c cX0_cover 5 s _ wsX0_cover RX0 := ⟨B.exec, B.bytes, hml, hown, hts⟩
  have hx := B.exec
  have hb := B.bytes
  have hr := B.returns
  have hlocks := B.notSynchronized
  subst hsz
  have w : bSt G vwCl [] s [(h, .inr (0, [.ref q])), (q, .inl (G.2.2.1, 56, .inl (zB on))), (th, .inr (4, [.ref o, .int (nI str), .int (nI n)])), (o, .inl (G.2.1, cap, .inl f))] s.heap [] := ⟨hP, va_S.rf, hD⟩
  have Z0 : bZ [] s := ⟨Z.1.narrow (fun q h => h.elim (fun h => nomatch h) Or.inr), Z.2.narrow (fun q h => h.elim (fun h => nomatch h) Or.inr)⟩
  have iX0 : ∀ w ∈ wsX00, w ∈ wsX0_cover := by decide +kernel
  have iX4 : ∀ w ∈ wsX40, w ∈ wsX0_cover := by decide +kernel
  have hl := lv_entry ([.ref h, .int (nI sd), .int (nI a), .ref th]) (n := 5) (Nat.le_of_ble_eq_true rfl)
  rw [lg_entry_eq]
  generalize (lg_sl ([.ref h, .int (nI sd), .int (nI a), .ref th]) ++ List.replicate (5 - (lg_sl ([.ref h, .int (nI sd), .int (nI a), .ref th])).length) Slot.unset).toArray = ls at hl ⊢
  have hl : lv_has ls 5 [(0, .ref h), (1, .int (nI sd)), (2, .int (nI a)), (3, .ref th)] := hl
  refine lv_iconst (v := nI 0) hx hb dX0_cover_0 (by decide) ?_
  refine lv_istore (lv' := [(4, .int (nI 0)), (0, .ref h), (1, .int (nI sd)), (2, .int (nI a)), (3, .ref th)]) hx hb dX0_cover_1 hl (by decide) rfl (fun ls hl => ?_)
  refine b_loop (pc := 3) (st := []) (fun (fuel : Nat) (H : Heap) (locs : List Loc) (ls : Array Slot) => ∃ (k : Nat), (k ≤ n) ∧ (n + 1 ≤ k + fuel) ∧ (∀ j, j < k → (fun k => on (sd * 14 + k) && tW f (nI k) n (nI a)) j = false) ∧ bSt G vwCl [] s [(h, .inr (0, [.ref q])), (q, .inl (G.2.2.1, 56, .inl (zB on))), (th, .inr (4, [.ref o, .int (nI str), .int (nI n)])), (o, .inl (G.2.1, cap, .inl f))] H locs ∧ lv_has ls 5 [(0, .ref h), (1, .int (nI sd)), (2, .int (nI a)), (3, .ref th), (4, .int (nI k))]) (fun H locs ls h9 => ?_) (fun fuel H locs ls hI ih3 => ?_) (n + 1) ⟨0, (by omega), (by omega), fun j hj => absurd hj (Nat.not_lt_zero j), w, lv_sub hl [1, 2, 3, 4, 0] rfl⟩
  · obtain ⟨k, hk, hf, hno, w, hl⟩ := h9
    omega
  · obtain ⟨k, hk, hf, hno, w, hl⟩ := hI
    refine lv_iload hx hb dX0_cover_3 (lv_at hl 4 rfl) ?_
    refine lv_aload_n hx hb dX0_cover_5 rfl (lv_at hl 3 rfl) ?_
    refine b_getN (host := "Figurehouse") X E w 2 rfl rfl 2 (by decide) iX4 (by decide +kernel) rfl rfl dX0_cover_6 ?_
    refine lv_icmp_ge (tgt := 45) hx hb dX0_cover_9 (by decide) (fun c_9_8 => ?_) (fun c_9_8 => ?_)
    · have q_9_9 : n ≤ k := q_le (by omega) (by omega) c_9_8
      refine lv_iconst (v := nI 0) hx hb dX0_cover_45 (by decide) ?_
      exact W.zret (v := nI 0) hx hb hr rfl (fun t ht hW => ⟨⟨nI 0, (), rfl, bI_zero (anyB_no (fun j hj => hno j (by omega))), fun k q h => by cases k <;> cases h⟩, w.2.1.F ht⟩) w.2.1.2.2 dX0_cover_46
    · have q_9_9 : k < n := q_nle (by omega) (by omega) c_9_8
      refine lv_aload_n hx hb dX0_cover_12 rfl (lv_at hl 0 rfl) ?_
      refine b_get X E w 0 rfl rfl 0 (by decide) iX0 (by decide +kernel) rfl rfl dX0_cover_13 ?_
      refine lv_iload_n hx hb dX0_cover_16 rfl (lv_at hl 1 rfl) ?_
      refine lv_bipush (v := nI 14) hx hb dX0_cover_17 (by decide) ?_
      refine lv_imul hx hb dX0_cover_19 ?_
      refine b_tp (show (nI sd) * (nI 14) = nI (sd * 14) from pk_mul sd 14) ?_
      refine lv_iload hx hb dX0_cover_20 (lv_at hl 4 rfl) ?_
      refine lv_iadd hx hb dX0_cover_22 ?_
      refine b_tp (show (nI (sd * 14)) + (nI k) = nI ((sd * 14) + k) from nI_add (sd * 14) k) ?_
      refine b_zald X E w 1 rfl ((sd * 14) + k) rfl (by omega) (by first | decide | omega) dX0_cover_23 ?_
      refine b_tp (show zB on ((sd * 14) + k) = bI (on ((sd * 14) + k)) from rfl) ?_
      refine lv_if_eq (tgt := 39) hx hb dX0_cover_24 (by decide) (fun c_24_10 => ?_) (fun c_24_10 => ?_)
      · have q_24_11 : (on ((sd * 14) + k)) = false := bI_0.mp c_24_10
        refine lv_iinc (v := nI (k + 1)) (lv' := [(4, .int (nI (k + 1))), (0, .ref h), (1, .int (nI sd)), (2, .int (nI a)), (3, .ref th)]) hx hb dX0_cover_39 hl (k := 4) rfl (nI_add k 1) (by decide) rfl (fun ls hl => ?_)
        refine lv_goto (tgt := 3) hx hb dX0_cover_42 (by decide) ?_
        exact ih3 _ _ _ ⟨k + 1, (by omega), (by omega), allN_s hno (by simp [q_9_9, q_24_11]), w, lv_sub hl [1, 2, 3, 4, 0] rfl⟩
      · have q_24_11 : (on ((sd * 14) + k)) = true := bI_n0.mp c_24_10
        refine lv_aload_n hx hb dX0_cover_27 rfl (lv_at hl 3 rfl) ?_
        refine lv_iload_n hx hb dX0_cover_28 rfl (lv_at hl 2 rfl) ?_
        refine lv_iload hx hb dX0_cover_29 (lv_at hl 4 rfl) ?_
        refine b_calli w (va_runV (As := [.int (nI a), .int (nI k)]) (rest := []) X (c_X4_isWithin l hl0 G H.size (h := th) (k := a) (x := nI k) (o := o) (str := str) (n := n) (cap := cap) (f := f) (hk := (by first | assumption | omega)) (hn := (by first | assumption | omega)) (hc := (by first | assumption | omega)) (hT := (by first | assumption | omega))) (cwV 2 hts gX0_cover_X4_isWithin rfl rfl rfl (by decide +kernel) ⟨Nat.le_of_ble_eq_true rfl, Nat.le_of_ble_eq_true rfl⟩) ⟨b_blind, b_recv E w (ci := 4) (q0 := 2) rfl rfl, (fun U9 hU9 hW9 => ⟨rfl, b_pre E Z0 w [2, 3] (by decide) rfl b_nil U9 hU9 hW9⟩)⟩ rfl rfl hl.1 rfl (lv_room (Nat.le_of_ble_eq_true rfl)) dX0_cover_31 ⟨Nat.le_of_ble_eq_true rfl, Nat.le_of_ble_eq_true rfl⟩) b_nil [] (fun _ => rfl) rfl (fun r31_12 u31_12 H locs hr31_12 w => ?_)
        have w : bSt G vwCl [] s [(h, .inr (0, [.ref q])), (q, .inl (G.2.2.1, 56, .inl (zB on))), (th, .inr (4, [.ref o, .int (nI str), .int (nI n)])), (o, .inl (G.2.1, cap, .inl f))] H locs := w
        subst hr31_12
        refine lv_if_eq (tgt := 39) hx hb dX0_cover_34 (by decide) (fun c_34_13 => ?_) (fun c_34_13 => ?_)
        · have q_34_14 : (tW f (nI k) n (nI a)) = false := bI_0.mp c_34_13
          refine lv_iinc (v := nI (k + 1)) (lv' := [(4, .int (nI (k + 1))), (0, .ref h), (1, .int (nI sd)), (2, .int (nI a)), (3, .ref th)]) hx hb dX0_cover_39 hl (k := 4) rfl (nI_add k 1) (by decide) rfl (fun ls hl => ?_)
          refine lv_goto (tgt := 3) hx hb dX0_cover_42 (by decide) ?_
          exact ih3 _ _ _ ⟨k + 1, (by omega), (by omega), allN_s hno (by simp [q_9_9, q_24_11, q_34_14]), w, lv_sub hl [1, 2, 3, 4, 0] rfl⟩
        · have q_34_14 : (tW f (nI k) n (nI a)) = true := bI_n0.mp c_34_13
          refine lv_iconst (v := nI 1) hx hb dX0_cover_37 (by decide) ?_
          exact W.zret (v := nI 1) hx hb hr rfl (fun t ht hW => ⟨⟨nI 1, (), rfl, bI_one (anyB_iff.mpr ⟨k, by omega, by simp [q_9_9, q_24_11, q_34_14]⟩), fun k q h => by cases k <;> cases h⟩, w.2.1.F ht⟩) w.2.1.2.2 dX0_cover_38
set_option maxHeartbeats 4000000 in
set_option maxRecDepth 100000 in
theorem c_X2_isFull (l : Launch) (hl0 : l.stackTraces = false) (G : bG) (sz : Nat) (h qw qa qc qv dn : Nat) (hd : dn ≤ 16) : Met l yX2_isFull wsX2_isFull ({ frames := 0, cells := 0, slots := 0, locals := 0 }) (va_Pc [.ref h] (bPre G vwCl bNW bSW sz [(h, .inr (2, [.ref qw, .ref qa, .ref qc, .ref qv, .int (nI dn)]))] [])) (va_Qi (fun (r : Int32) (_ : Unit) => r = bI (decide (16 ≤ dn))) (fun (_ : Unit) (t : State) => va_P G.1 vwCl [] t.heap) (Aw [] sz)) 0 0 (Aw [] sz) := by
  refine Met.ofW (cc := cX2_isFull) (maxL := 1) (ret := (some .boolean)) (by decide) rfl ?_
  intro p e s m args below meth c s₁ B hml hv
  obtain ⟨rfl, hsz, hP, hD, E, Z⟩ := hv
  have hts := atoms_spec (ws := wsX2_isFull) B.pre
  have hown : s.vm.findClass RX2 = some m.cls := findClass_of_methodNamed B.named
  have X : CallFix p m c cX2_isFull 1 s _ wsX2_isFull RX2 := ⟨B.exec, B.bytes, hml, hown, hts⟩
  have hx := B.exec
  have hb := B.bytes
  have hr := B.returns
  have hlocks := B.notSynchronized
  subst hsz
  have w : bSt G vwCl [] s [(h, .inr (2, [.ref qw, .ref qa, .ref qc, .ref qv, .int (nI dn)]))] s.heap [] := ⟨hP, va_S.rf, hD⟩
  have Z0 : bZ [] s := ⟨Z.1.narrow (fun q h => h.elim (fun h => nomatch h) Or.inr), Z.2.narrow (fun q h => h.elim (fun h => nomatch h) Or.inr)⟩
  have iX2 : ∀ w ∈ wsX20, w ∈ wsX2_isFull := by decide +kernel
  have hl := lv_entry ([.ref h]) (n := 1) (Nat.le_of_ble_eq_true rfl)
  rw [lg_entry_eq]
  generalize (lg_sl ([.ref h]) ++ List.replicate (1 - (lg_sl ([.ref h])).length) Slot.unset).toArray = ls at hl ⊢
  have hl : lv_has ls 1 [(0, .ref h)] := hl
  refine lv_aload_n hx hb dX2_isFull_0 rfl (lv_at hl 0 rfl) ?_
  refine b_get X E w 0 rfl rfl 4 (by decide) iX2 (by decide +kernel) rfl rfl dX2_isFull_1 ?_
  refine lv_bipush (v := nI 16) hx hb dX2_isFull_4 (by decide) ?_
  refine lv_icmp_lt (tgt := 13) hx hb dX2_isFull_6 (by decide) (fun c_6_3 => ?_) (fun c_6_3 => ?_)
  · have q_6_4 : dn < 16 := q_lt (by omega) (by omega) c_6_3
    refine lv_iconst (v := nI 0) hx hb dX2_isFull_13 (by decide) ?_
    exact W.zret (v := nI 0) hx hb hr rfl (fun t ht hW => ⟨⟨nI 0, (), rfl, bI_zero (by simp [q_6_4]; try omega), fun k q h => by cases k <;> cases h⟩, w.2.1.F ht⟩) w.2.1.2.2 dX2_isFull_14
  · have q_6_4 : 16 ≤ dn := q_nlt (by omega) (by omega) c_6_3
    refine lv_iconst (v := nI 1) hx hb dX2_isFull_9 (by decide) ?_
    refine lv_goto (tgt := 14) hx hb dX2_isFull_10 (by decide) ?_
    exact W.zret (v := nI 1) hx hb hr rfl (fun t ht hW => ⟨⟨nI 1, (), rfl, bI_one (by simp [q_6_4]; try omega), fun k q h => by cases k <;> cases h⟩, w.2.1.F ht⟩) w.2.1.2.2 dX2_isFull_14
set_option maxHeartbeats 4000000 in
set_option maxRecDepth 100000 in
theorem c_X2_append (l : Launch) (hl0 : l.stackTraces = false) (G : bG) (sz : Nat) (h qw qa qc qv dn : Nat) (dw da dc dv : Nat → Int32) (x1 x2 x3 x4 : Int32) (hd : dn < 16) : Met l yX2_append wsX2_append ({ frames := 0, cells := 0, slots := 0, locals := 0 }) (va_Pc [.ref h, .int x1, .int x2, .int x3, .int x4] (bPre G vwCl bNW bSW sz [(h, .inr (2, [.ref qw, .ref qa, .ref qc, .ref qv, .int (nI dn)])), (qw, .inl (G.2.1, 16, .inl dw)), (qa, .inl (G.2.1, 16, .inl da)), (qc, .inl (G.2.1, 16, .inl dc)), (qv, .inl (G.2.1, 16, .inl dv))] [h, qw, qa, qc, qv])) (va_Qi (fun (r : Int32) (_ : Unit) => r = nI (dn + 1)) (fun (_ : Unit) (t : State) => va_P G.1 vwCl [(h, .inr (2, [.ref qw, .ref qa, .ref qc, .ref qv, .int (nI (dn + 1))])), (qw, .inl (G.2.1, 16, .inl (upd dw dn x1))), (qa, .inl (G.2.1, 16, .inl (upd da dn x2))), (qc, .inl (G.2.1, 16, .inl (upd dc dn x3))), (qv, .inl (G.2.1, 16, .inl (upd dv dn x4)))] t.heap) (Aw [h, qw, qa, qc, qv] sz)) 0 0 (Aw [h, qw, qa, qc, qv] sz) := by
  refine Met.ofW (cc := cX2_append) (maxL := 5) (ret := (some .int)) (by decide) rfl ?_
  intro p e s m args below meth c s₁ B hml hv
  obtain ⟨rfl, hsz, hP, hD, E, Z⟩ := hv
  have hts := atoms_spec (ws := wsX2_append) B.pre
  have hown : s.vm.findClass RX2 = some m.cls := findClass_of_methodNamed B.named
  have X : CallFix p m c cX2_append 5 s _ wsX2_append RX2 := ⟨B.exec, B.bytes, hml, hown, hts⟩
  have hx := B.exec
  have hb := B.bytes
  have hr := B.returns
  have hlocks := B.notSynchronized
  subst hsz
  have w : bSt G vwCl [] s [(h, .inr (2, [.ref qw, .ref qa, .ref qc, .ref qv, .int (nI dn)])), (qw, .inl (G.2.1, 16, .inl dw)), (qa, .inl (G.2.1, 16, .inl da)), (qc, .inl (G.2.1, 16, .inl dc)), (qv, .inl (G.2.1, 16, .inl dv))] s.heap [] := ⟨hP, va_S.rf, hD⟩
  have Z0 : bZ [] s := ⟨Z.1.narrow (fun q h => h.elim (fun h => nomatch h) Or.inr), Z.2.narrow (fun q h => h.elim (fun h => nomatch h) Or.inr)⟩
  have iX2 : ∀ w ∈ wsX20, w ∈ wsX2_append := by decide +kernel
  have hl := lv_entry ([.ref h, .int x1, .int x2, .int x3, .int x4]) (n := 5) (Nat.le_of_ble_eq_true rfl)
  rw [lg_entry_eq]
  generalize (lg_sl ([.ref h, .int x1, .int x2, .int x3, .int x4]) ++ List.replicate (5 - (lg_sl ([.ref h, .int x1, .int x2, .int x3, .int x4])).length) Slot.unset).toArray = ls at hl ⊢
  have hl : lv_has ls 5 [(0, .ref h), (1, .int x1), (2, .int x2), (3, .int x3), (4, .int x4)] := hl
  refine lv_aload_n hx hb dX2_append_0 rfl (lv_at hl 0 rfl) ?_
  refine b_get X E w 0 rfl rfl 4 (by decide) iX2 (by decide +kernel) rfl rfl dX2_append_1 ?_
  refine lv_bipush (v := nI 16) hx hb dX2_append_4 (by decide) ?_
  refine lv_icmp_ge (tgt := 60) hx hb dX2_append_6 (by decide) (fun c_6_3 => ?_) (fun c_6_3 => ?_)
  · exact absurd (q_le (by omega) (by omega) c_6_3) (by omega)
  · have q_6_4 : dn < 16 := q_nle (by omega) (by omega) c_6_3
    refine lv_aload_n hx hb dX2_append_9 rfl (lv_at hl 0 rfl) ?_
    refine b_get X E w 0 rfl rfl 0 (by decide) iX2 (by decide +kernel) rfl rfl dX2_append_10 ?_
    refine lv_aload_n hx hb dX2_append_13 rfl (lv_at hl 0 rfl) ?_
    refine b_get X E w 0 rfl rfl 4 (by decide) iX2 (by decide +kernel) rfl rfl dX2_append_14 ?_
    refine lv_iload_n hx hb dX2_append_17 rfl (lv_at hl 1 rfl) ?_
    have w := b_wide [h, qw, qa, qc, qv] b_nil w
    refine b_iast X E w (Or.inl (List.mem_of_getElem? (i := 1) rfl)) 1 rfl dn rfl (by omega) (by first | decide | omega) dX2_append_18 (fun H locs w => ?_)
    have w : bSt G vwCl [h, qw, qa, qc, qv] s [(h, .inr (2, [.ref qw, .ref qa, .ref qc, .ref qv, .int (nI dn)])), (qw, .inl (G.2.1, 16, .inl (upd dw dn x1))), (qa, .inl (G.2.1, 16, .inl da)), (qc, .inl (G.2.1, 16, .inl dc)), (qv, .inl (G.2.1, 16, .inl dv))] H locs := w
    refine lv_aload_n hx hb dX2_append_19 rfl (lv_at hl 0 rfl) ?_
    refine b_get X E w 0 rfl rfl 1 (by decide) iX2 (by decide +kernel) rfl rfl dX2_append_20 ?_
    refine lv_aload_n hx hb dX2_append_23 rfl (lv_at hl 0 rfl) ?_
    refine b_get X E w 0 rfl rfl 4 (by decide) iX2 (by decide +kernel) rfl rfl dX2_append_24 ?_
    refine lv_iload_n hx hb dX2_append_27 rfl (lv_at hl 2 rfl) ?_
    refine b_iast X E w (Or.inl (List.mem_of_getElem? (i := 2) rfl)) 2 rfl dn rfl (by omega) (by first | decide | omega) dX2_append_28 (fun H locs w => ?_)
    have w : bSt G vwCl [h, qw, qa, qc, qv] s [(h, .inr (2, [.ref qw, .ref qa, .ref qc, .ref qv, .int (nI dn)])), (qw, .inl (G.2.1, 16, .inl (upd dw dn x1))), (qa, .inl (G.2.1, 16, .inl (upd da dn x2))), (qc, .inl (G.2.1, 16, .inl dc)), (qv, .inl (G.2.1, 16, .inl dv))] H locs := w
    refine lv_aload_n hx hb dX2_append_29 rfl (lv_at hl 0 rfl) ?_
    refine b_get X E w 0 rfl rfl 2 (by decide) iX2 (by decide +kernel) rfl rfl dX2_append_30 ?_
    refine lv_aload_n hx hb dX2_append_33 rfl (lv_at hl 0 rfl) ?_
    refine b_get X E w 0 rfl rfl 4 (by decide) iX2 (by decide +kernel) rfl rfl dX2_append_34 ?_
    refine lv_iload_n hx hb dX2_append_37 rfl (lv_at hl 3 rfl) ?_
    refine b_iast X E w (Or.inl (List.mem_of_getElem? (i := 3) rfl)) 3 rfl dn rfl (by omega) (by first | decide | omega) dX2_append_38 (fun H locs w => ?_)
    have w : bSt G vwCl [h, qw, qa, qc, qv] s [(h, .inr (2, [.ref qw, .ref qa, .ref qc, .ref qv, .int (nI dn)])), (qw, .inl (G.2.1, 16, .inl (upd dw dn x1))), (qa, .inl (G.2.1, 16, .inl (upd da dn x2))), (qc, .inl (G.2.1, 16, .inl (upd dc dn x3))), (qv, .inl (G.2.1, 16, .inl dv))] H locs := w
    refine lv_aload_n hx hb dX2_append_39 rfl (lv_at hl 0 rfl) ?_
    refine b_get X E w 0 rfl rfl 3 (by decide) iX2 (by decide +kernel) rfl rfl dX2_append_40 ?_
    refine lv_aload_n hx hb dX2_append_43 rfl (lv_at hl 0 rfl) ?_
    refine b_get X E w 0 rfl rfl 4 (by decide) iX2 (by decide +kernel) rfl rfl dX2_append_44 ?_
    refine lv_iload hx hb dX2_append_47 (lv_at hl 4 rfl) ?_
    refine b_iast X E w (Or.inl (List.mem_of_getElem? (i := 4) rfl)) 4 rfl dn rfl (by omega) (by first | decide | omega) dX2_append_49 (fun H locs w => ?_)
    have w : bSt G vwCl [h, qw, qa, qc, qv] s [(h, .inr (2, [.ref qw, .ref qa, .ref qc, .ref qv, .int (nI dn)])), (qw, .inl (G.2.1, 16, .inl (upd dw dn x1))), (qa, .inl (G.2.1, 16, .inl (upd da dn x2))), (qc, .inl (G.2.1, 16, .inl (upd dc dn x3))), (qv, .inl (G.2.1, 16, .inl (upd dv dn x4)))] H locs := w
    refine lv_aload_n hx hb dX2_append_50 rfl (lv_at hl 0 rfl) ?_
    refine lv_dup hx hb dX2_append_51 rfl ?_
    refine b_get X E w 0 rfl rfl 4 (by decide) iX2 (by decide +kernel) rfl rfl dX2_append_52 ?_
    refine lv_iconst (v := nI 1) hx hb dX2_append_55 (by decide) ?_
    refine lv_iadd hx hb dX2_append_56 ?_
    refine b_tp (show (nI dn) + (nI 1) = nI (dn + 1) from nI_add dn 1) ?_
    refine b_put (ty := .int) X E w (Or.inl (List.mem_of_getElem? (i := 0) rfl)) 0 rfl rfl 4 (by decide) iX2 tyX2 tyX2_ok nmX2 (by decide +kernel) rfl rfl (by decide +kernel) rfl rfl (Nat.le_of_ble_eq_true rfl) dX2_append_57 (fun H locs w => ?_)
    have w : bSt G vwCl [h, qw, qa, qc, qv] s [(h, .inr (2, [.ref qw, .ref qa, .ref qc, .ref qv, .int (nI (dn + 1))])), (qw, .inl (G.2.1, 16, .inl (upd dw dn x1))), (qa, .inl (G.2.1, 16, .inl (upd da dn x2))), (qc, .inl (G.2.1, 16, .inl (upd dc dn x3))), (qv, .inl (G.2.1, 16, .inl (upd dv dn x4)))] H locs := w
    refine lv_aload_n hx hb dX2_append_60 rfl (lv_at hl 0 rfl) ?_
    refine b_get X E w 0 rfl rfl 4 (by decide) iX2 (by decide +kernel) rfl rfl dX2_append_61 ?_
    exact W.iret (v := nI (dn + 1)) hx hb hr (fun t ht hW => ⟨⟨nI (dn + 1), (), rfl, rfl, by show va_P G.1 vwCl _ t.heap; rw [ht]; exact b_cg (rfl) (w.1.sub (ws' := [(h, .inr (2, [.ref qw, .ref qa, .ref qc, .ref qv, .int (nI (dn + 1))])), (qw, .inl (G.2.1, 16, .inl (upd dw dn x1))), (qa, .inl (G.2.1, 16, .inl (upd da dn x2))), (qc, .inl (G.2.1, 16, .inl (upd dc dn x3))), (qv, .inl (G.2.1, 16, .inl (upd dv dn x4)))]) [0, 1, 2, 3, 4] rfl)⟩, w.2.1.F ht⟩) w.2.1.2.2 dX2_append_64
set_option maxHeartbeats 4000000 in
set_option maxRecDepth 100000 in
theorem c_X2_figureBehind (l : Launch) (hl0 : l.stackTraces = false) (G : bG) (sz : Nat) (h qw qa qc qv dn : Nat) (dw dv : Nat → Int32) (k : Nat) (hk : k < 16) : Met l yX2_figureBehind wsX2_figureBehind ({ frames := 0, cells := 0, slots := 0, locals := 0 }) (va_Pc [.ref h, .int (nI k)] (bPre G vwCl bNW bSW sz [(h, .inr (2, [.ref qw, .ref qa, .ref qc, .ref qv, .int (nI dn)])), (qw, .inl (G.2.1, 16, .inl dw)), (qv, .inl (G.2.1, 16, .inl dv))] [])) (va_Qi (fun (r : Int32) (_ : Unit) => r = (if dw k = nI 2 then MIS else dv k)) (fun (_ : Unit) (t : State) => va_P G.1 vwCl [] t.heap) (Aw [] sz)) 0 0 (Aw [] sz) := by
  refine Met.ofW (cc := cX2_figureBehind) (maxL := 2) (ret := (some .int)) (by decide) rfl ?_
  intro p e s m args below meth c s₁ B hml hv
  obtain ⟨rfl, hsz, hP, hD, E, Z⟩ := hv
  have hts := atoms_spec (ws := wsX2_figureBehind) B.pre
  have hown : s.vm.findClass RX2 = some m.cls := findClass_of_methodNamed B.named
  have X : CallFix p m c cX2_figureBehind 2 s _ wsX2_figureBehind RX2 := ⟨B.exec, B.bytes, hml, hown, hts⟩
  have hx := B.exec
  have hb := B.bytes
  have hr := B.returns
  have hlocks := B.notSynchronized
  subst hsz
  have w : bSt G vwCl [] s [(h, .inr (2, [.ref qw, .ref qa, .ref qc, .ref qv, .int (nI dn)])), (qw, .inl (G.2.1, 16, .inl dw)), (qv, .inl (G.2.1, 16, .inl dv))] s.heap [] := ⟨hP, va_S.rf, hD⟩
  have Z0 : bZ [] s := ⟨Z.1.narrow (fun q h => h.elim (fun h => nomatch h) Or.inr), Z.2.narrow (fun q h => h.elim (fun h => nomatch h) Or.inr)⟩
  have iX2 : ∀ w ∈ wsX20, w ∈ wsX2_figureBehind := by decide +kernel
  have hl := lv_entry ([.ref h, .int (nI k)]) (n := 2) (Nat.le_of_ble_eq_true rfl)
  rw [lg_entry_eq]
  generalize (lg_sl ([.ref h, .int (nI k)]) ++ List.replicate (2 - (lg_sl ([.ref h, .int (nI k)])).length) Slot.unset).toArray = ls at hl ⊢
  have hl : lv_has ls 2 [(0, .ref h), (1, .int (nI k))] := hl
  refine lv_aload_n hx hb dX2_figureBehind_0 rfl (lv_at hl 0 rfl) ?_
  refine b_get X E w 0 rfl rfl 0 (by decide) iX2 (by decide +kernel) rfl rfl dX2_figureBehind_1 ?_
  refine lv_iload_n hx hb dX2_figureBehind_4 rfl (lv_at hl 1 rfl) ?_
  refine b_iald X E w 1 rfl k rfl (by omega) (by first | decide | omega) dX2_figureBehind_5 ?_
  refine lv_iconst (v := nI 2) hx hb dX2_figureBehind_6 (by decide) ?_
  refine lv_icmp_ne (tgt := 15) hx hb dX2_figureBehind_7 (by decide) (fun c_7_2 => ?_) (fun c_7_2 => ?_)
  · refine lv_aload_n hx hb dX2_figureBehind_15 rfl (lv_at hl 0 rfl) ?_
    refine b_get X E w 0 rfl rfl 3 (by decide) iX2 (by decide +kernel) rfl rfl dX2_figureBehind_16 ?_
    refine lv_iload_n hx hb dX2_figureBehind_19 rfl (lv_at hl 1 rfl) ?_
    refine b_iald X E w 2 rfl k rfl (by omega) (by first | decide | omega) dX2_figureBehind_20 ?_
    exact W.iret (v := dv k) hx hb hr (fun t ht hW => ⟨⟨dv k, (), rfl, by simp [c_7_2], fun k q h => by cases k <;> cases h⟩, w.2.1.F ht⟩) w.2.1.2.2 dX2_figureBehind_21
  · refine lv_ldc (v := MIS) hx hb hown (hts (.constant RX2 28 (-2000000001)) (by decide +kernel)) dX2_figureBehind_10 ?_
    refine lv_goto (tgt := 21) hx hb dX2_figureBehind_12 (by decide) ?_
    exact W.iret (v := MIS) hx hb hr (fun t ht hW => ⟨⟨MIS, (), rfl, by simp [c_7_2], fun k q h => by cases k <;> cases h⟩, w.2.1.F ht⟩) w.2.1.2.2 dX2_figureBehind_21
set_option maxHeartbeats 4000000 in
set_option maxRecDepth 100000 in
theorem c_X2_clear (l : Launch) (hl0 : l.stackTraces = false) (G : bG) (sz : Nat) (h qw qa qc qv dn : Nat) : Met l yX2_clear wsX2_clear ({ frames := 0, cells := 0, slots := 0, locals := 0 }) (va_Pc [.ref h] (bPre G vwCl bNW bSW sz [(h, .inr (2, [.ref qw, .ref qa, .ref qc, .ref qv, .int (nI dn)]))] [h])) (va_Qi (fun (r : Int32) (_ : Unit) => r = nI dn) (fun (_ : Unit) (t : State) => va_P G.1 vwCl [(h, .inr (2, [.ref qw, .ref qa, .ref qc, .ref qv, .int (nI 0)]))] t.heap) (Aw [h] sz)) 0 0 (Aw [h] sz) := by
  refine Met.ofW (cc := cX2_clear) (maxL := 2) (ret := (some .int)) (by decide) rfl ?_
  intro p e s m args below meth c s₁ B hml hv
  obtain ⟨rfl, hsz, hP, hD, E, Z⟩ := hv
  have hts := atoms_spec (ws := wsX2_clear) B.pre
  have hown : s.vm.findClass RX2 = some m.cls := findClass_of_methodNamed B.named
  have X : CallFix p m c cX2_clear 2 s _ wsX2_clear RX2 := ⟨B.exec, B.bytes, hml, hown, hts⟩
  have hx := B.exec
  have hb := B.bytes
  have hr := B.returns
  have hlocks := B.notSynchronized
  subst hsz
  have w : bSt G vwCl [] s [(h, .inr (2, [.ref qw, .ref qa, .ref qc, .ref qv, .int (nI dn)]))] s.heap [] := ⟨hP, va_S.rf, hD⟩
  have Z0 : bZ [] s := ⟨Z.1.narrow (fun q h => h.elim (fun h => nomatch h) Or.inr), Z.2.narrow (fun q h => h.elim (fun h => nomatch h) Or.inr)⟩
  have iX2 : ∀ w ∈ wsX20, w ∈ wsX2_clear := by decide +kernel
  have hl := lv_entry ([.ref h]) (n := 2) (Nat.le_of_ble_eq_true rfl)
  rw [lg_entry_eq]
  generalize (lg_sl ([.ref h]) ++ List.replicate (2 - (lg_sl ([.ref h])).length) Slot.unset).toArray = ls at hl ⊢
  have hl : lv_has ls 2 [(0, .ref h)] := hl
  refine lv_aload_n hx hb dX2_clear_0 rfl (lv_at hl 0 rfl) ?_
  refine b_get X E w 0 rfl rfl 4 (by decide) iX2 (by decide +kernel) rfl rfl dX2_clear_1 ?_
  refine lv_istore_n (lv' := [(1, .int (nI dn)), (0, .ref h)]) hx hb dX2_clear_4 rfl hl (by decide) rfl (fun ls hl => ?_)
  refine lv_aload_n hx hb dX2_clear_5 rfl (lv_at hl 1 rfl) ?_
  refine lv_iconst (v := nI 0) hx hb dX2_clear_6 (by decide) ?_
  have w := b_wide [h] b_nil w
  refine b_put (ty := .int) X E w (Or.inl (List.mem_of_getElem? (i := 0) rfl)) 0 rfl rfl 4 (by decide) iX2 tyX2 tyX2_ok nmX2 (by decide +kernel) rfl rfl (by decide +kernel) rfl rfl (Nat.le_of_ble_eq_true rfl) dX2_clear_7 (fun H locs w => ?_)
  have w : bSt G vwCl [h] s [(h, .inr (2, [.ref qw, .ref qa, .ref qc, .ref qv, .int (nI 0)]))] H locs := w
  refine lv_iload_n hx hb dX2_clear_10 rfl (lv_at hl 0 rfl) ?_
  exact W.iret (v := nI dn) hx hb hr (fun t ht hW => ⟨⟨nI dn, (), rfl, rfl, by show va_P G.1 vwCl _ t.heap; rw [ht]; exact b_cg (rfl) (w.1.sub (ws' := [(h, .inr (2, [.ref qw, .ref qa, .ref qc, .ref qv, .int (nI 0)]))]) [0] rfl)⟩, w.2.1.F ht⟩) w.2.1.2.2 dX2_clear_11
set_option maxHeartbeats 4000000 in
set_option maxRecDepth 100000 in
theorem c_X1_enter (l : Launch) (hl0 : l.stackTraces = false) (G : bG) (sz : Nat) (h ql qe qn qt qc qd qf bn : Nat) (lat ear cnt ld bc bd bf : Nat → Int32) (c0 : Nat) (d g : Int32) (hb : bn < 300) (hc : c0 < 1680) : Met l yX1_enter wsX1_enter ({ frames := 0, cells := 0, slots := 0, locals := 0 }) (va_Pc [.ref h, .int (nI c0), .int d, .int g] (bPre G vwCl bNW bSW sz [(h, .inr (1, [.ref ql, .ref qe, .ref qn, .ref qt, .ref qc, .ref qd, .ref qf, .int (nI bn)])), (ql, .inl (G.2.1, 1680, .inl lat)), (qe, .inl (G.2.1, 1680, .inl ear)), (qn, .inl (G.2.1, 1680, .inl cnt)), (qt, .inl (G.2.1, 1680, .inl ld)), (qc, .inl (G.2.1, 300, .inl bc)), (qd, .inl (G.2.1, 300, .inl bd)), (qf, .inl (G.2.1, 300, .inl bf))] [h, ql, qe, qn, qt, qc, qd, qf])) (va_Qv (fun (_ : Unit) => True) (fun (_ : Unit) (t : State) => va_P G.1 vwCl [(h, .inr (1, [.ref ql, .ref qe, .ref qn, .ref qt, .ref qc, .ref qd, .ref qf, .int (nI (bn + 1))])), (ql, .inl (G.2.1, 1680, .inl (upd lat c0 g))), (qe, .inl (G.2.1, 1680, .inl (if cnt c0 = 0 then upd ear c0 g else ear))), (qn, .inl (G.2.1, 1680, .inl (upd cnt c0 (cnt c0 + nI 1)))), (qt, .inl (G.2.1, 1680, .inl (upd ld c0 d))), (qc, .inl (G.2.1, 300, .inl (upd bc bn (nI c0)))), (qd, .inl (G.2.1, 300, .inl (upd bd bn d))), (qf, .inl (G.2.1, 300, .inl (upd bf bn g)))] t.heap) (Aw [h, ql, qe, qn, qt, qc, qd, qf] sz)) 0 0 (Aw [h, ql, qe, qn, qt, qc, qd, qf] sz) := by
  refine Met.ofW (cc := cX1_enter) (maxL := 4) (ret := none) (by decide) rfl ?_
  intro p e s m args below meth c s₁ B hml hv
  obtain ⟨rfl, hsz, hP, hD, E, Z⟩ := hv
  have hts := atoms_spec (ws := wsX1_enter) B.pre
  have hown : s.vm.findClass RX1 = some m.cls := findClass_of_methodNamed B.named
  have X : CallFix p m c cX1_enter 4 s _ wsX1_enter RX1 := ⟨B.exec, B.bytes, hml, hown, hts⟩
  have hx := B.exec
  have hb := B.bytes
  have hr := B.returns
  have hlocks := B.notSynchronized
  subst hsz
  have w : bSt G vwCl [] s [(h, .inr (1, [.ref ql, .ref qe, .ref qn, .ref qt, .ref qc, .ref qd, .ref qf, .int (nI bn)])), (ql, .inl (G.2.1, 1680, .inl lat)), (qe, .inl (G.2.1, 1680, .inl ear)), (qn, .inl (G.2.1, 1680, .inl cnt)), (qt, .inl (G.2.1, 1680, .inl ld)), (qc, .inl (G.2.1, 300, .inl bc)), (qd, .inl (G.2.1, 300, .inl bd)), (qf, .inl (G.2.1, 300, .inl bf))] s.heap [] := ⟨hP, va_S.rf, hD⟩
  have Z0 : bZ [] s := ⟨Z.1.narrow (fun q h => h.elim (fun h => nomatch h) Or.inr), Z.2.narrow (fun q h => h.elim (fun h => nomatch h) Or.inr)⟩
  have iX1 : ∀ w ∈ wsX10, w ∈ wsX1_enter := by decide +kernel
  have hl := lv_entry ([.ref h, .int (nI c0), .int d, .int g]) (n := 4) (Nat.le_of_ble_eq_true rfl)
  rw [lg_entry_eq]
  generalize (lg_sl ([.ref h, .int (nI c0), .int d, .int g]) ++ List.replicate (4 - (lg_sl ([.ref h, .int (nI c0), .int d, .int g])).length) Slot.unset).toArray = ls at hl ⊢
  have hl : lv_has ls 4 [(0, .ref h), (1, .int (nI c0)), (2, .int d), (3, .int g)] := hl
  refine lv_aload_n hx hb dX1_enter_0 rfl (lv_at hl 0 rfl) ?_
  refine b_get X E w 0 rfl rfl 7 (by decide) iX1 (by decide +kernel) rfl rfl dX1_enter_1 ?_
  refine lv_sipush (v := nI 300) hx hb dX1_enter_4 (by decide) ?_
  refine lv_icmp_ge (tgt := 90) hx hb dX1_enter_7 (by decide) (fun c_7_4 => ?_) (fun c_7_4 => ?_)
  · exact absurd (q_le (by omega) (by omega) c_7_4) (by omega)
  · have q_7_5 : bn < 300 := q_nle (by omega) (by omega) c_7_4
    refine lv_aload_n hx hb dX1_enter_10 rfl (lv_at hl 0 rfl) ?_
    refine b_get X E w 0 rfl rfl 4 (by decide) iX1 (by decide +kernel) rfl rfl dX1_enter_11 ?_
    refine lv_aload_n hx hb dX1_enter_14 rfl (lv_at hl 0 rfl) ?_
    refine b_get X E w 0 rfl rfl 7 (by decide) iX1 (by decide +kernel) rfl rfl dX1_enter_15 ?_
    refine lv_iload_n hx hb dX1_enter_18 rfl (lv_at hl 1 rfl) ?_
    have w := b_wide [h, ql, qe, qn, qt, qc, qd, qf] b_nil w
    refine b_iast X E w (Or.inl (List.mem_of_getElem? (i := 5) rfl)) 5 rfl bn rfl (by omega) (by first | decide | omega) dX1_enter_19 (fun H locs w => ?_)
    have w : bSt G vwCl [h, ql, qe, qn, qt, qc, qd, qf] s [(h, .inr (1, [.ref ql, .ref qe, .ref qn, .ref qt, .ref qc, .ref qd, .ref qf, .int (nI bn)])), (ql, .inl (G.2.1, 1680, .inl lat)), (qe, .inl (G.2.1, 1680, .inl ear)), (qn, .inl (G.2.1, 1680, .inl cnt)), (qt, .inl (G.2.1, 1680, .inl ld)), (qc, .inl (G.2.1, 300, .inl (upd bc bn (nI c0)))), (qd, .inl (G.2.1, 300, .inl bd)), (qf, .inl (G.2.1, 300, .inl bf))] H locs := w
    refine lv_aload_n hx hb dX1_enter_20 rfl (lv_at hl 0 rfl) ?_
    refine b_get X E w 0 rfl rfl 5 (by decide) iX1 (by decide +kernel) rfl rfl dX1_enter_21 ?_
    refine lv_aload_n hx hb dX1_enter_24 rfl (lv_at hl 0 rfl) ?_
    refine b_get X E w 0 rfl rfl 7 (by decide) iX1 (by decide +kernel) rfl rfl dX1_enter_25 ?_
    refine lv_iload_n hx hb dX1_enter_28 rfl (lv_at hl 2 rfl) ?_
    refine b_iast X E w (Or.inl (List.mem_of_getElem? (i := 6) rfl)) 6 rfl bn rfl (by omega) (by first | decide | omega) dX1_enter_29 (fun H locs w => ?_)
    have w : bSt G vwCl [h, ql, qe, qn, qt, qc, qd, qf] s [(h, .inr (1, [.ref ql, .ref qe, .ref qn, .ref qt, .ref qc, .ref qd, .ref qf, .int (nI bn)])), (ql, .inl (G.2.1, 1680, .inl lat)), (qe, .inl (G.2.1, 1680, .inl ear)), (qn, .inl (G.2.1, 1680, .inl cnt)), (qt, .inl (G.2.1, 1680, .inl ld)), (qc, .inl (G.2.1, 300, .inl (upd bc bn (nI c0)))), (qd, .inl (G.2.1, 300, .inl (upd bd bn d))), (qf, .inl (G.2.1, 300, .inl bf))] H locs := w
    refine lv_aload_n hx hb dX1_enter_30 rfl (lv_at hl 0 rfl) ?_
    refine b_get X E w 0 rfl rfl 6 (by decide) iX1 (by decide +kernel) rfl rfl dX1_enter_31 ?_
    refine lv_aload_n hx hb dX1_enter_34 rfl (lv_at hl 0 rfl) ?_
    refine b_get X E w 0 rfl rfl 7 (by decide) iX1 (by decide +kernel) rfl rfl dX1_enter_35 ?_
    refine lv_iload_n hx hb dX1_enter_38 rfl (lv_at hl 3 rfl) ?_
    refine b_iast X E w (Or.inl (List.mem_of_getElem? (i := 7) rfl)) 7 rfl bn rfl (by omega) (by first | decide | omega) dX1_enter_39 (fun H locs w => ?_)
    have w : bSt G vwCl [h, ql, qe, qn, qt, qc, qd, qf] s [(h, .inr (1, [.ref ql, .ref qe, .ref qn, .ref qt, .ref qc, .ref qd, .ref qf, .int (nI bn)])), (ql, .inl (G.2.1, 1680, .inl lat)), (qe, .inl (G.2.1, 1680, .inl ear)), (qn, .inl (G.2.1, 1680, .inl cnt)), (qt, .inl (G.2.1, 1680, .inl ld)), (qc, .inl (G.2.1, 300, .inl (upd bc bn (nI c0)))), (qd, .inl (G.2.1, 300, .inl (upd bd bn d))), (qf, .inl (G.2.1, 300, .inl (upd bf bn g)))] H locs := w
    refine lv_aload_n hx hb dX1_enter_40 rfl (lv_at hl 0 rfl) ?_
    refine lv_dup hx hb dX1_enter_41 rfl ?_
    refine b_get X E w 0 rfl rfl 7 (by decide) iX1 (by decide +kernel) rfl rfl dX1_enter_42 ?_
    refine lv_iconst (v := nI 1) hx hb dX1_enter_45 (by decide) ?_
    refine lv_iadd hx hb dX1_enter_46 ?_
    refine b_tp (show (nI bn) + (nI 1) = nI (bn + 1) from nI_add bn 1) ?_
    refine b_put (ty := .int) X E w (Or.inl (List.mem_of_getElem? (i := 0) rfl)) 0 rfl rfl 7 (by decide) iX1 tyX1 tyX1_ok nmX1 (by decide +kernel) rfl rfl (by decide +kernel) rfl rfl (Nat.le_of_ble_eq_true rfl) dX1_enter_47 (fun H locs w => ?_)
    have w : bSt G vwCl [h, ql, qe, qn, qt, qc, qd, qf] s [(h, .inr (1, [.ref ql, .ref qe, .ref qn, .ref qt, .ref qc, .ref qd, .ref qf, .int (nI (bn + 1))])), (ql, .inl (G.2.1, 1680, .inl lat)), (qe, .inl (G.2.1, 1680, .inl ear)), (qn, .inl (G.2.1, 1680, .inl cnt)), (qt, .inl (G.2.1, 1680, .inl ld)), (qc, .inl (G.2.1, 300, .inl (upd bc bn (nI c0)))), (qd, .inl (G.2.1, 300, .inl (upd bd bn d))), (qf, .inl (G.2.1, 300, .inl (upd bf bn g)))] H locs := w
    refine lv_aload_n hx hb dX1_enter_50 rfl (lv_at hl 0 rfl) ?_
    refine b_get X E w 0 rfl rfl 2 (by decide) iX1 (by decide +kernel) rfl rfl dX1_enter_51 ?_
    refine lv_iload_n hx hb dX1_enter_54 rfl (lv_at hl 1 rfl) ?_
    refine b_iald X E w 3 rfl c0 rfl (by omega) (by first | decide | omega) dX1_enter_55 ?_
    refine lv_if_ne (tgt := 66) hx hb dX1_enter_56 (by decide) (fun c_56_6 => ?_) (fun c_56_6 => ?_)
    · refine lv_aload_n hx hb dX1_enter_66 rfl (lv_at hl 0 rfl) ?_
      refine b_get X E w 0 rfl rfl 0 (by decide) iX1 (by decide +kernel) rfl rfl dX1_enter_67 ?_
      refine lv_iload_n hx hb dX1_enter_70 rfl (lv_at hl 1 rfl) ?_
      refine lv_iload_n hx hb dX1_enter_71 rfl (lv_at hl 3 rfl) ?_
      refine b_iast X E w (Or.inl (List.mem_of_getElem? (i := 1) rfl)) 1 rfl c0 rfl (by omega) (by first | decide | omega) dX1_enter_72 (fun H locs w => ?_)
      have w : bSt G vwCl [h, ql, qe, qn, qt, qc, qd, qf] s [(h, .inr (1, [.ref ql, .ref qe, .ref qn, .ref qt, .ref qc, .ref qd, .ref qf, .int (nI (bn + 1))])), (ql, .inl (G.2.1, 1680, .inl (upd lat c0 g))), (qe, .inl (G.2.1, 1680, .inl ear)), (qn, .inl (G.2.1, 1680, .inl cnt)), (qt, .inl (G.2.1, 1680, .inl ld)), (qc, .inl (G.2.1, 300, .inl (upd bc bn (nI c0)))), (qd, .inl (G.2.1, 300, .inl (upd bd bn d))), (qf, .inl (G.2.1, 300, .inl (upd bf bn g)))] H locs := w
      refine lv_aload_n hx hb dX1_enter_73 rfl (lv_at hl 0 rfl) ?_
      refine b_get X E w 0 rfl rfl 2 (by decide) iX1 (by decide +kernel) rfl rfl dX1_enter_74 ?_
      refine lv_iload_n hx hb dX1_enter_77 rfl (lv_at hl 1 rfl) ?_
      refine lv_dup2_11 hx hb dX1_enter_78 rfl rfl ?_
      refine b_iald X E w 3 rfl c0 rfl (by omega) (by first | decide | omega) dX1_enter_79 ?_
      refine lv_iconst (v := nI 1) hx hb dX1_enter_80 (by decide) ?_
      refine lv_iadd hx hb dX1_enter_81 ?_
      refine b_iast X E w (Or.inl (List.mem_of_getElem? (i := 3) rfl)) 3 rfl c0 rfl (by omega) (by first | decide | omega) dX1_enter_82 (fun H locs w => ?_)
      have w : bSt G vwCl [h, ql, qe, qn, qt, qc, qd, qf] s [(h, .inr (1, [.ref ql, .ref qe, .ref qn, .ref qt, .ref qc, .ref qd, .ref qf, .int (nI (bn + 1))])), (ql, .inl (G.2.1, 1680, .inl (upd lat c0 g))), (qe, .inl (G.2.1, 1680, .inl ear)), (qn, .inl (G.2.1, 1680, .inl (upd cnt c0 ((cnt c0) + (nI 1))))), (qt, .inl (G.2.1, 1680, .inl ld)), (qc, .inl (G.2.1, 300, .inl (upd bc bn (nI c0)))), (qd, .inl (G.2.1, 300, .inl (upd bd bn d))), (qf, .inl (G.2.1, 300, .inl (upd bf bn g)))] H locs := w
      refine lv_aload_n hx hb dX1_enter_83 rfl (lv_at hl 0 rfl) ?_
      refine b_get X E w 0 rfl rfl 3 (by decide) iX1 (by decide +kernel) rfl rfl dX1_enter_84 ?_
      refine lv_iload_n hx hb dX1_enter_87 rfl (lv_at hl 1 rfl) ?_
      refine lv_iload_n hx hb dX1_enter_88 rfl (lv_at hl 2 rfl) ?_
      refine b_iast X E w (Or.inl (List.mem_of_getElem? (i := 4) rfl)) 4 rfl c0 rfl (by omega) (by first | decide | omega) dX1_enter_89 (fun H locs w => ?_)
      have w : bSt G vwCl [h, ql, qe, qn, qt, qc, qd, qf] s [(h, .inr (1, [.ref ql, .ref qe, .ref qn, .ref qt, .ref qc, .ref qd, .ref qf, .int (nI (bn + 1))])), (ql, .inl (G.2.1, 1680, .inl (upd lat c0 g))), (qe, .inl (G.2.1, 1680, .inl ear)), (qn, .inl (G.2.1, 1680, .inl (upd cnt c0 ((cnt c0) + (nI 1))))), (qt, .inl (G.2.1, 1680, .inl (upd ld c0 d))), (qc, .inl (G.2.1, 300, .inl (upd bc bn (nI c0)))), (qd, .inl (G.2.1, 300, .inl (upd bd bn d))), (qf, .inl (G.2.1, 300, .inl (upd bf bn g)))] H locs := w
      exact W.vret hx hb hr (fun t ht hW => ⟨⟨(), rfl, trivial, by show va_P G.1 vwCl _ t.heap; rw [ht]; exact b_cg (by simp [q_7_5, c_56_6]) (w.1.sub (ws' := [(h, .inr (1, [.ref ql, .ref qe, .ref qn, .ref qt, .ref qc, .ref qd, .ref qf, .int (nI (bn + 1))])), (ql, .inl (G.2.1, 1680, .inl (upd lat c0 g))), (qe, .inl (G.2.1, 1680, .inl ear)), (qn, .inl (G.2.1, 1680, .inl (upd cnt c0 ((cnt c0) + (nI 1))))), (qt, .inl (G.2.1, 1680, .inl (upd ld c0 d))), (qc, .inl (G.2.1, 300, .inl (upd bc bn (nI c0)))), (qd, .inl (G.2.1, 300, .inl (upd bd bn d))), (qf, .inl (G.2.1, 300, .inl (upd bf bn g)))]) [0, 1, 2, 3, 4, 5, 6, 7] rfl)⟩, w.2.1.F ht⟩) w.2.1.2.2 dX1_enter_90
    · refine lv_aload_n hx hb dX1_enter_59 rfl (lv_at hl 0 rfl) ?_
      refine b_get X E w 0 rfl rfl 1 (by decide) iX1 (by decide +kernel) rfl rfl dX1_enter_60 ?_
      refine lv_iload_n hx hb dX1_enter_63 rfl (lv_at hl 1 rfl) ?_
      refine lv_iload_n hx hb dX1_enter_64 rfl (lv_at hl 3 rfl) ?_
      refine b_iast X E w (Or.inl (List.mem_of_getElem? (i := 2) rfl)) 2 rfl c0 rfl (by omega) (by first | decide | omega) dX1_enter_65 (fun H locs w => ?_)
      have w : bSt G vwCl [h, ql, qe, qn, qt, qc, qd, qf] s [(h, .inr (1, [.ref ql, .ref qe, .ref qn, .ref qt, .ref qc, .ref qd, .ref qf, .int (nI (bn + 1))])), (ql, .inl (G.2.1, 1680, .inl lat)), (qe, .inl (G.2.1, 1680, .inl (upd ear c0 g))), (qn, .inl (G.2.1, 1680, .inl cnt)), (qt, .inl (G.2.1, 1680, .inl ld)), (qc, .inl (G.2.1, 300, .inl (upd bc bn (nI c0)))), (qd, .inl (G.2.1, 300, .inl (upd bd bn d))), (qf, .inl (G.2.1, 300, .inl (upd bf bn g)))] H locs := w
      refine lv_aload_n hx hb dX1_enter_66 rfl (lv_at hl 0 rfl) ?_
      refine b_get X E w 0 rfl rfl 0 (by decide) iX1 (by decide +kernel) rfl rfl dX1_enter_67 ?_
      refine lv_iload_n hx hb dX1_enter_70 rfl (lv_at hl 1 rfl) ?_
      refine lv_iload_n hx hb dX1_enter_71 rfl (lv_at hl 3 rfl) ?_
      refine b_iast X E w (Or.inl (List.mem_of_getElem? (i := 1) rfl)) 1 rfl c0 rfl (by omega) (by first | decide | omega) dX1_enter_72 (fun H locs w => ?_)
      have w : bSt G vwCl [h, ql, qe, qn, qt, qc, qd, qf] s [(h, .inr (1, [.ref ql, .ref qe, .ref qn, .ref qt, .ref qc, .ref qd, .ref qf, .int (nI (bn + 1))])), (ql, .inl (G.2.1, 1680, .inl (upd lat c0 g))), (qe, .inl (G.2.1, 1680, .inl (upd ear c0 g))), (qn, .inl (G.2.1, 1680, .inl cnt)), (qt, .inl (G.2.1, 1680, .inl ld)), (qc, .inl (G.2.1, 300, .inl (upd bc bn (nI c0)))), (qd, .inl (G.2.1, 300, .inl (upd bd bn d))), (qf, .inl (G.2.1, 300, .inl (upd bf bn g)))] H locs := w
      refine lv_aload_n hx hb dX1_enter_73 rfl (lv_at hl 0 rfl) ?_
      refine b_get X E w 0 rfl rfl 2 (by decide) iX1 (by decide +kernel) rfl rfl dX1_enter_74 ?_
      refine lv_iload_n hx hb dX1_enter_77 rfl (lv_at hl 1 rfl) ?_
      refine lv_dup2_11 hx hb dX1_enter_78 rfl rfl ?_
      refine b_iald X E w 3 rfl c0 rfl (by omega) (by first | decide | omega) dX1_enter_79 ?_
      refine lv_iconst (v := nI 1) hx hb dX1_enter_80 (by decide) ?_
      refine lv_iadd hx hb dX1_enter_81 ?_
      refine b_iast X E w (Or.inl (List.mem_of_getElem? (i := 3) rfl)) 3 rfl c0 rfl (by omega) (by first | decide | omega) dX1_enter_82 (fun H locs w => ?_)
      have w : bSt G vwCl [h, ql, qe, qn, qt, qc, qd, qf] s [(h, .inr (1, [.ref ql, .ref qe, .ref qn, .ref qt, .ref qc, .ref qd, .ref qf, .int (nI (bn + 1))])), (ql, .inl (G.2.1, 1680, .inl (upd lat c0 g))), (qe, .inl (G.2.1, 1680, .inl (upd ear c0 g))), (qn, .inl (G.2.1, 1680, .inl (upd cnt c0 ((cnt c0) + (nI 1))))), (qt, .inl (G.2.1, 1680, .inl ld)), (qc, .inl (G.2.1, 300, .inl (upd bc bn (nI c0)))), (qd, .inl (G.2.1, 300, .inl (upd bd bn d))), (qf, .inl (G.2.1, 300, .inl (upd bf bn g)))] H locs := w
      refine lv_aload_n hx hb dX1_enter_83 rfl (lv_at hl 0 rfl) ?_
      refine b_get X E w 0 rfl rfl 3 (by decide) iX1 (by decide +kernel) rfl rfl dX1_enter_84 ?_
      refine lv_iload_n hx hb dX1_enter_87 rfl (lv_at hl 1 rfl) ?_
      refine lv_iload_n hx hb dX1_enter_88 rfl (lv_at hl 2 rfl) ?_
      refine b_iast X E w (Or.inl (List.mem_of_getElem? (i := 4) rfl)) 4 rfl c0 rfl (by omega) (by first | decide | omega) dX1_enter_89 (fun H locs w => ?_)
      have w : bSt G vwCl [h, ql, qe, qn, qt, qc, qd, qf] s [(h, .inr (1, [.ref ql, .ref qe, .ref qn, .ref qt, .ref qc, .ref qd, .ref qf, .int (nI (bn + 1))])), (ql, .inl (G.2.1, 1680, .inl (upd lat c0 g))), (qe, .inl (G.2.1, 1680, .inl (upd ear c0 g))), (qn, .inl (G.2.1, 1680, .inl (upd cnt c0 ((cnt c0) + (nI 1))))), (qt, .inl (G.2.1, 1680, .inl (upd ld c0 d))), (qc, .inl (G.2.1, 300, .inl (upd bc bn (nI c0)))), (qd, .inl (G.2.1, 300, .inl (upd bd bn d))), (qf, .inl (G.2.1, 300, .inl (upd bf bn g)))] H locs := w
      exact W.vret hx hb hr (fun t ht hW => ⟨⟨(), rfl, trivial, by show va_P G.1 vwCl _ t.heap; rw [ht]; exact b_cg (by simp [q_7_5, c_56_6]) (w.1.sub (ws' := [(h, .inr (1, [.ref ql, .ref qe, .ref qn, .ref qt, .ref qc, .ref qd, .ref qf, .int (nI (bn + 1))])), (ql, .inl (G.2.1, 1680, .inl (upd lat c0 g))), (qe, .inl (G.2.1, 1680, .inl (upd ear c0 g))), (qn, .inl (G.2.1, 1680, .inl (upd cnt c0 ((cnt c0) + (nI 1))))), (qt, .inl (G.2.1, 1680, .inl (upd ld c0 d))), (qc, .inl (G.2.1, 300, .inl (upd bc bn (nI c0)))), (qd, .inl (G.2.1, 300, .inl (upd bd bn d))), (qf, .inl (G.2.1, 300, .inl (upd bf bn g)))]) [0, 1, 2, 3, 4, 5, 6, 7] rfl)⟩, w.2.1.F ht⟩) w.2.1.2.2 dX1_enter_90
set_option maxHeartbeats 4000000 in
set_option maxRecDepth 100000 in
theorem c_X1_figureOn (l : Launch) (hl0 : l.stackTraces = false) (G : bG) (sz : Nat) (h ql qe qn qt qc qd qf bn : Nat) (bc bd bf : Nat → Int32) (x d : Int32) (hb : bn ≤ 300) : Met l yX1_figureOn wsX1_figureOn ({ frames := 0, cells := 0, slots := 0, locals := 0 }) (va_Pc [.ref h, .int x, .int d] (bPre G vwCl bNW bSW sz [(h, .inr (1, [.ref ql, .ref qe, .ref qn, .ref qt, .ref qc, .ref qd, .ref qf, .int (nI bn)])), (qc, .inl (G.2.1, 300, .inl bc)), (qd, .inl (G.2.1, 300, .inl bd)), (qf, .inl (G.2.1, 300, .inl bf))] [])) (va_Qi (fun (r : Int32) (_ : Unit) => r = fo bc bd bf x d bn) (fun (_ : Unit) (t : State) => va_P G.1 vwCl [] t.heap) (Aw [] sz)) 0 0 (Aw [] sz) := by
  refine Met.ofW (cc := cX1_figureOn) (maxL := 4) (ret := (some .int)) (by decide) rfl ?_
  intro p e s m args below meth c s₁ B hml hv
  obtain ⟨rfl, hsz, hP, hD, E, Z⟩ := hv
  have hts := atoms_spec (ws := wsX1_figureOn) B.pre
  have hown : s.vm.findClass RX1 = some m.cls := findClass_of_methodNamed B.named
  have X : CallFix p m c cX1_figureOn 4 s _ wsX1_figureOn RX1 := ⟨B.exec, B.bytes, hml, hown, hts⟩
  have hx := B.exec
  have hb := B.bytes
  have hr := B.returns
  have hlocks := B.notSynchronized
  subst hsz
  have w : bSt G vwCl [] s [(h, .inr (1, [.ref ql, .ref qe, .ref qn, .ref qt, .ref qc, .ref qd, .ref qf, .int (nI bn)])), (qc, .inl (G.2.1, 300, .inl bc)), (qd, .inl (G.2.1, 300, .inl bd)), (qf, .inl (G.2.1, 300, .inl bf))] s.heap [] := ⟨hP, va_S.rf, hD⟩
  have Z0 : bZ [] s := ⟨Z.1.narrow (fun q h => h.elim (fun h => nomatch h) Or.inr), Z.2.narrow (fun q h => h.elim (fun h => nomatch h) Or.inr)⟩
  have iX1 : ∀ w ∈ wsX10, w ∈ wsX1_figureOn := by decide +kernel
  have hl := lv_entry ([.ref h, .int x, .int d]) (n := 4) (Nat.le_of_ble_eq_true rfl)
  rw [lg_entry_eq]
  generalize (lg_sl ([.ref h, .int x, .int d]) ++ List.replicate (4 - (lg_sl ([.ref h, .int x, .int d])).length) Slot.unset).toArray = ls at hl ⊢
  have hl : lv_has ls 4 [(0, .ref h), (1, .int x), (2, .int d)] := hl
  refine lv_aload_n hx hb dX1_figureOn_0 rfl (lv_at hl 0 rfl) ?_
  refine b_get X E w 0 rfl rfl 7 (by decide) iX1 (by decide +kernel) rfl rfl dX1_figureOn_1 ?_
  refine lv_iconst (v := nI 1) hx hb dX1_figureOn_4 (by decide) ?_
  refine lv_isub hx hb dX1_figureOn_5 ?_
  refine lv_istore_n (lv' := [(3, .int ((nI bn) - (nI 1))), (0, .ref h), (1, .int x), (2, .int d)]) hx hb dX1_figureOn_6 rfl hl (by decide) rfl (fun ls hl => ?_)
  refine b_loop (pc := 7) (st := []) (fun (fuel : Nat) (H : Heap) (locs : List Loc) (ls : Array Slot) => ∃ (m : Nat), (m ≤ bn) ∧ (m + 1 ≤ fuel) ∧ (fo bc bd bf x d bn = fo bc bd bf x d m) ∧ bSt G vwCl [] s [(h, .inr (1, [.ref ql, .ref qe, .ref qn, .ref qt, .ref qc, .ref qd, .ref qf, .int (nI bn)])), (qc, .inl (G.2.1, 300, .inl bc)), (qd, .inl (G.2.1, 300, .inl bd)), (qf, .inl (G.2.1, 300, .inl bf))] H locs ∧ lv_has ls 4 [(0, .ref h), (1, .int x), (2, .int d), (3, .int ((nI m) - (nI 1)))]) (fun H locs ls h9 => ?_) (fun fuel H locs ls hI ih7 => ?_) (bn + 1) ⟨bn, (by omega), (by omega), rfl, w, lv_sub hl [1, 2, 3, 0] rfl⟩
  · obtain ⟨m, hm, hf, hv, w, hl⟩ := h9
    omega
  · obtain ⟨m, hm, hf, hv, w, hl⟩ := hI
    refine lv_iload_n hx hb dX1_figureOn_7 rfl (lv_at hl 3 rfl) ?_
    refine lv_if_lt (tgt := 44) hx hb dX1_figureOn_8 (by decide) (fun c_8_4 => ?_) (fun c_8_4 => ?_)
    · have hm0 := pred_0 (by omega) c_8_4
      subst hm0
      refine lv_ldc (v := MIS) hx hb hown (hts (.constant RX1 33 (-2000000001)) (by decide +kernel)) dX1_figureOn_44 ?_
      exact W.iret (v := MIS) hx hb hr (fun t ht hW => ⟨⟨MIS, (), rfl, hv.symm, fun k q h => by cases k <;> cases h⟩, w.2.1.F ht⟩) w.2.1.2.2 dX1_figureOn_46
    · obtain ⟨k, rfl⟩ := pred_s (by omega) c_8_4
      refine lv_aload_n hx hb dX1_figureOn_11 rfl (lv_at hl 0 rfl) ?_
      refine b_get X E w 0 rfl rfl 4 (by decide) iX1 (by decide +kernel) rfl rfl dX1_figureOn_12 ?_
      refine lv_iload_n hx hb dX1_figureOn_15 rfl (lv_at hl 3 rfl) ?_
      refine b_iald X E w 1 rfl k (pred_e k) (by omega) (by first | decide | omega) dX1_figureOn_16 ?_
      refine lv_iload_n hx hb dX1_figureOn_17 rfl (lv_at hl 1 rfl) ?_
      refine lv_icmp_ne (tgt := 38) hx hb dX1_figureOn_18 (by decide) (fun c_18_5 => ?_) (fun c_18_5 => ?_)
      · have hs := fo_miss1 (bd := bd) (bf := bf) (d := d) c_18_5
        refine lv_iinc (v := (nI k) - (nI 1)) (lv' := [(3, .int ((nI k) - (nI 1))), (0, .ref h), (1, .int x), (2, .int d)]) hx hb dX1_figureOn_38 hl (k := 3) rfl (pred_i k) (by decide) rfl (fun ls hl => ?_)
        refine lv_goto (tgt := 7) hx hb dX1_figureOn_41 (by decide) ?_
        exact ih7 _ _ _ ⟨k, (by omega), (by omega), hv.trans hs, w, lv_sub hl [1, 2, 3, 0] rfl⟩
      · have c18 := c_18_5
        refine lv_aload_n hx hb dX1_figureOn_21 rfl (lv_at hl 0 rfl) ?_
        refine b_get X E w 0 rfl rfl 5 (by decide) iX1 (by decide +kernel) rfl rfl dX1_figureOn_22 ?_
        refine lv_iload_n hx hb dX1_figureOn_25 rfl (lv_at hl 3 rfl) ?_
        refine b_iald X E w 2 rfl k (pred_e k) (by omega) (by first | decide | omega) dX1_figureOn_26 ?_
        refine lv_iload_n hx hb dX1_figureOn_27 rfl (lv_at hl 2 rfl) ?_
        refine lv_icmp_gt (tgt := 38) hx hb dX1_figureOn_28 (by decide) (fun c_28_6 => ?_) (fun c_28_6 => ?_)
        · have hs := fo_miss2 (bc := bc) (bf := bf) (x := x) c_28_6
          refine lv_iinc (v := (nI k) - (nI 1)) (lv' := [(3, .int ((nI k) - (nI 1))), (0, .ref h), (1, .int x), (2, .int d)]) hx hb dX1_figureOn_38 hl (k := 3) rfl (pred_i k) (by decide) rfl (fun ls hl => ?_)
          refine lv_goto (tgt := 7) hx hb dX1_figureOn_41 (by decide) ?_
          exact ih7 _ _ _ ⟨k, (by omega), (by omega), hv.trans hs, w, lv_sub hl [1, 2, 3, 0] rfl⟩
        · have c28 := c_28_6
          refine lv_aload_n hx hb dX1_figureOn_31 rfl (lv_at hl 0 rfl) ?_
          refine b_get X E w 0 rfl rfl 6 (by decide) iX1 (by decide +kernel) rfl rfl dX1_figureOn_32 ?_
          refine lv_iload_n hx hb dX1_figureOn_35 rfl (lv_at hl 3 rfl) ?_
          refine b_iald X E w 3 rfl k (pred_e k) (by omega) (by first | decide | omega) dX1_figureOn_36 ?_
          exact W.iret (v := bf k) hx hb hr (fun t ht hW => ⟨⟨bf k, (), rfl, (hv.trans (fo_hit c18 c28)).symm, fun k q h => by cases k <;> cases h⟩, w.2.1.F ht⟩) w.2.1.2.2 dX1_figureOn_37
set_option maxHeartbeats 4000000 in
set_option maxRecDepth 100000 in
theorem c_X1_isToldSince (l : Launch) (hl0 : l.stackTraces = false) (G : bG) (sz : Nat) (h ql qe qn qt qc qd qf bn : Nat) (lat ld : Nat → Int32) (c0 : Nat) (d : Int32) (hc : c0 < 1680) : Met l yX1_isToldSince wsX1_isToldSince ({ frames := 0, cells := 0, slots := 0, locals := 0 }) (va_Pc [.ref h, .int (nI c0), .int d] (bPre G vwCl bNW bSW sz [(h, .inr (1, [.ref ql, .ref qe, .ref qn, .ref qt, .ref qc, .ref qd, .ref qf, .int (nI bn)])), (ql, .inl (G.2.1, 1680, .inl lat)), (qt, .inl (G.2.1, 1680, .inl ld))] [])) (va_Qi (fun (r : Int32) (_ : Unit) => r = bI ((!decide (lat c0 = MIS) && !decide (ld c0 < d)))) (fun (_ : Unit) (t : State) => va_P G.1 vwCl [] t.heap) (Aw [] sz)) 0 0 (Aw [] sz) := by
  refine Met.ofW (cc := cX1_isToldSince) (maxL := 3) (ret := (some .boolean)) (by decide) rfl ?_
  intro p e s m args below meth c s₁ B hml hv
  obtain ⟨rfl, hsz, hP, hD, E, Z⟩ := hv
  have hts := atoms_spec (ws := wsX1_isToldSince) B.pre
  have hown : s.vm.findClass RX1 = some m.cls := findClass_of_methodNamed B.named
  have X : CallFix p m c cX1_isToldSince 3 s _ wsX1_isToldSince RX1 := ⟨B.exec, B.bytes, hml, hown, hts⟩
  have hx := B.exec
  have hb := B.bytes
  have hr := B.returns
  have hlocks := B.notSynchronized
  subst hsz
  have w : bSt G vwCl [] s [(h, .inr (1, [.ref ql, .ref qe, .ref qn, .ref qt, .ref qc, .ref qd, .ref qf, .int (nI bn)])), (ql, .inl (G.2.1, 1680, .inl lat)), (qt, .inl (G.2.1, 1680, .inl ld))] s.heap [] := ⟨hP, va_S.rf, hD⟩
  have Z0 : bZ [] s := ⟨Z.1.narrow (fun q h => h.elim (fun h => nomatch h) Or.inr), Z.2.narrow (fun q h => h.elim (fun h => nomatch h) Or.inr)⟩
  have iX1 : ∀ w ∈ wsX10, w ∈ wsX1_isToldSince := by decide +kernel
  have hl := lv_entry ([.ref h, .int (nI c0), .int d]) (n := 3) (Nat.le_of_ble_eq_true rfl)
  rw [lg_entry_eq]
  generalize (lg_sl ([.ref h, .int (nI c0), .int d]) ++ List.replicate (3 - (lg_sl ([.ref h, .int (nI c0), .int d])).length) Slot.unset).toArray = ls at hl ⊢
  have hl : lv_has ls 3 [(0, .ref h), (1, .int (nI c0)), (2, .int d)] := hl
  refine lv_aload_n hx hb dX1_isToldSince_0 rfl (lv_at hl 0 rfl) ?_
  refine b_get X E w 0 rfl rfl 0 (by decide) iX1 (by decide +kernel) rfl rfl dX1_isToldSince_1 ?_
  refine lv_iload_n hx hb dX1_isToldSince_4 rfl (lv_at hl 1 rfl) ?_
  refine b_iald X E w 1 rfl c0 rfl (by omega) (by first | decide | omega) dX1_isToldSince_5 ?_
  refine lv_ldc (v := MIS) hx hb hown (hts (.constant RX1 33 (-2000000001)) (by decide +kernel)) dX1_isToldSince_6 ?_
  refine lv_icmp_eq (tgt := 25) hx hb dX1_isToldSince_8 (by decide) (fun c_8_3 => ?_) (fun c_8_3 => ?_)
  · refine lv_iconst (v := nI 0) hx hb dX1_isToldSince_25 (by decide) ?_
    exact W.zret (v := nI 0) hx hb hr rfl (fun t ht hW => ⟨⟨nI 0, (), rfl, bI_zero (by simp [c_8_3]), fun k q h => by cases k <;> cases h⟩, w.2.1.F ht⟩) w.2.1.2.2 dX1_isToldSince_26
  · refine lv_aload_n hx hb dX1_isToldSince_11 rfl (lv_at hl 0 rfl) ?_
    refine b_get X E w 0 rfl rfl 3 (by decide) iX1 (by decide +kernel) rfl rfl dX1_isToldSince_12 ?_
    refine lv_iload_n hx hb dX1_isToldSince_15 rfl (lv_at hl 1 rfl) ?_
    refine b_iald X E w 2 rfl c0 rfl (by omega) (by first | decide | omega) dX1_isToldSince_16 ?_
    refine lv_iload_n hx hb dX1_isToldSince_17 rfl (lv_at hl 2 rfl) ?_
    refine lv_icmp_lt (tgt := 25) hx hb dX1_isToldSince_18 (by decide) (fun c_18_4 => ?_) (fun c_18_4 => ?_)
    · refine lv_iconst (v := nI 0) hx hb dX1_isToldSince_25 (by decide) ?_
      exact W.zret (v := nI 0) hx hb hr rfl (fun t ht hW => ⟨⟨nI 0, (), rfl, bI_zero (by simp [c_8_3, c_18_4]), fun k q h => by cases k <;> cases h⟩, w.2.1.F ht⟩) w.2.1.2.2 dX1_isToldSince_26
    · refine lv_iconst (v := nI 1) hx hb dX1_isToldSince_21 (by decide) ?_
      refine lv_goto (tgt := 26) hx hb dX1_isToldSince_22 (by decide) ?_
      exact W.zret (v := nI 1) hx hb hr rfl (fun t ht hW => ⟨⟨nI 1, (), rfl, bI_one (by simp [c_8_3, c_18_4]), fun k q h => by cases k <;> cases h⟩, w.2.1.F ht⟩) w.2.1.2.2 dX1_isToldSince_26
end
section
theorem zz_last : True := trivial
end
