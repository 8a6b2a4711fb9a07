/-! what is hidden; a message judged; a search -/
def hdn (fA : Nat → Int32) (nA : Nat) (fJ : Nat → Int32) (nJ : Nat) (sc : Nat → Bool) (p : Nat) (u : Nat → Int32) (hid : Nat → Bool) : Nat → Bool := itR (stp fA nA fJ nJ u) 141 (hF hid (fun t => sc (140 * p + t) && !decide (u t = MIS)) 140)
abbrev zT : Type := Nat × (Nat → Int32) × Nat × (Nat → Int32) × (Nat → Int32) × (Nat → Int32) × (Nat → Int32) × (Nat → Int32) × (Nat → Int32) × (Nat → Int32)
/-- done, refusals, lines of the book, its cells, days, figures; latest, earliest, lines done, last day of each cell -/
def zD (z : zT) : Nat := z.1
def zR (z : zT) : Nat → Int32 := z.2.1
def zN (z : zT) : Nat := z.2.2.1
def zC (z : zT) : Nat → Int32 := z.2.2.2.1
def zY (z : zT) : Nat → Int32 := z.2.2.2.2.1
def zF (z : zT) : Nat → Int32 := z.2.2.2.2.2.1
def zL (z : zT) : Nat → Int32 := z.2.2.2.2.2.2.1
def zE (z : zT) : Nat → Int32 := z.2.2.2.2.2.2.2.1
def zM (z : zT) : Nat → Int32 := z.2.2.2.2.2.2.2.2.1
def zS (z : zT) : Nat → Int32 := z.2.2.2.2.2.2.2.2.2
def fgB (w v : Int32) : Int32 := if w = nI 2 then MIS else v
def jS (cov : Nat → Bool) (dw dv : Nat → Int32) (cN_ : Nat → Nat) (td : Int32) (k : Nat) (z : zT) : zT :=
  if jR (cov k) (dw k) (dv k) (zL z (cN_ k)) = 0 then
    (zD z + 1, upd (zR z) k (jR (cov k) (dw k) (dv k) (zL z (cN_ k))), zN z + 1, upd (zC z) (zN z) (nI (cN_ k)), upd (zY z) (zN z) td, upd (zF z) (zN z) (fgB (dw k) (dv k)), upd (zL z) (cN_ k) (fgB (dw k) (dv k)), (if zM z (cN_ k) = 0 then upd (zE z) (cN_ k) (fgB (dw k) (dv k)) else zE z), upd (zM z) (cN_ k) (zM z (cN_ k) + nI 1), upd (zS z) (cN_ k) td)
  else (zD z, upd (zR z) k (jR (cov k) (dw k) (dv k) (zL z (cN_ k))), zN z, zC z, zY z, zF z, zL z, zE z, zM z, zS z)
def jRun (cov : Nat → Bool) (dw dv : Nat → Int32) (cN_ : Nat → Nat) (td : Int32) (z0 : zT) : Nat → zT
  | 0 => z0
  | k + 1 => jS cov dw dv cN_ td k (jRun cov dw dv cN_ td z0 k)
theorem jRun_y {cov : Nat → Bool} {dw dv : Nat → Int32} {cN_ : Nat → Nat} {td : Int32} {z0 z : zT} {k : Nat} (hz : z = jRun cov dw dv cN_ td z0 k) {c : Nat} (hc : cN_ k = c) {r : Int32} (hr : jR (cov k) (dw k) (dv k) (zL z c) = r) (h0 : r = 0) :
    (zD z + 1, upd (zR z) k r, zN z + 1, upd (zC z) (zN z) (nI c), upd (zY z) (zN z) td, upd (zF z) (zN z) (fgB (dw k) (dv k)), upd (zL z) c (fgB (dw k) (dv k)), (if zM z c = 0 then upd (zE z) c (fgB (dw k) (dv k)) else zE z), upd (zM z) c (zM z c + nI 1), upd (zS z) c td) = jRun cov dw dv cN_ td z0 (k + 1) := by
  subst hc
  show _ = jS cov dw dv cN_ td k (jRun cov dw dv cN_ td z0 k)
  rw [← hz]
  unfold jS
  rw [hr]
  exact (if_pos h0).symm
theorem jRun_n {cov : Nat → Bool} {dw dv : Nat → Int32} {cN_ : Nat → Nat} {td : Int32} {z0 z : zT} {k : Nat} (hz : z = jRun cov dw dv cN_ td z0 k) {c : Nat} (hc : cN_ k = c) {r : Int32} (hr : jR (cov k) (dw k) (dv k) (zL z c) = r) (h0 : ¬ r = 0) :
    (zD z, upd (zR z) k r, zN z, zC z, zY z, zF z, zL z, zE z, zM z, zS z) = jRun cov dw dv cN_ td z0 (k + 1) := by
  subst hc
  show _ = jS cov dw dv cN_ td k (jRun cov dw dv cN_ td z0 k)
  rw [← hz]
  unfold jS
  rw [hr]
  exact (if_neg h0).symm
/-! the search: what is left to look through, how many are to be passed -/
def srI (M : Nat → Bool) (code : Nat → Int32) (N : Nat) : Nat → Nat → Nat ⊕ Int32
  | 0, l => .inl l
  | m + 1, l => if M (N - (m + 1)) then (if l = 0 then .inr (code (N - (m + 1))) else srI M code N m (l - 1)) else srI M code N m l
def srA (S : Nat → Nat → Nat ⊕ Int32) (N : Nat) : Nat → Nat → Nat ⊕ Int32
  | 0, l => .inl l
  | m + 1, l => match S (N - (m + 1)) l with
    | .inr c => .inr c
    | .inl l' => srA S N m l'
def srR : Nat ⊕ Int32 → Int32
  | .inl _ => -1
  | .inr c => c
theorem srI_no {M : Nat → Bool} {code : Nat → Int32} {N i l : Nat} (hi : i < N) (h : M i = false) : srI M code N (N - i) l = srI M code N (N - (i + 1)) l := by
  rw [show N - i = N - (i + 1) + 1 by omega]
  show (if M (N - (N - (i + 1) + 1)) = true then _ else _) = _
  rw [show N - (N - (i + 1) + 1) = i by omega, h]
  rfl
theorem srI_hit {M : Nat → Bool} {code : Nat → Int32} {N i l : Nat} (hi : i < N) (h : M i = true) (hl : l = 0) : srI M code N (N - i) l = .inr (code i) := by
  rw [show N - i = N - (i + 1) + 1 by omega]
  show (if M (N - (N - (i + 1) + 1)) = true then _ else _) = _
  rw [show N - (N - (i + 1) + 1) = i by omega, h, if_pos rfl, if_pos hl]
theorem srI_pass {M : Nat → Bool} {code : Nat → Int32} {N i l : Nat} (hi : i < N) (h : M i = true) (hl : ¬ l = 0) : srI M code N (N - i) l = srI M code N (N - (i + 1)) (l - 1) := by
  rw [show N - i = N - (i + 1) + 1 by omega]
  show (if M (N - (N - (i + 1) + 1)) = true then _ else _) = _
  rw [show N - (N - (i + 1) + 1) = i by omega, h, if_pos rfl, if_neg hl]
theorem srI_end {M : Nat → Bool} {code : Nat → Int32} {N i l : Nat} (hi : i = N) : srI M code N (N - i) l = .inl l := by
  subst hi; rw [Nat.sub_self]; rfl
theorem srA_l {S : Nat → Nat → Nat ⊕ Int32} {N a l l' : Nat} (ha : a < N) (h : S a l = .inl l') : srA S N (N - a) l = srA S N (N - (a + 1)) l' := by
  rw [show N - a = N - (a + 1) + 1 by omega]
  show (match S (N - (N - (a + 1) + 1)) l with | Sum.inr c => Sum.inr c | Sum.inl l' => srA S N (N - (a + 1)) l') = _
  rw [show N - (N - (a + 1) + 1) = a by omega, h]
theorem srA_r {S : Nat → Nat → Nat ⊕ Int32} {N a l : Nat} {c : Int32} (ha : a < N) (h : S a l = .inr c) : srA S N (N - a) l = .inr c := by
  rw [show N - a = N - (a + 1) + 1 by omega]
  show (match S (N - (N - (a + 1) + 1)) l with | Sum.inr c => Sum.inr c | Sum.inl l' => srA S N (N - (a + 1)) l') = _
  rw [show N - (N - (a + 1) + 1) = a by omega, h]
theorem srA_end {S : Nat → Nat → Nat ⊕ Int32} {N a l : Nat} (ha : a = N) : srA S N (N - a) l = .inl l := by
  subst ha; rw [Nat.sub_self]; rfl
def codeN (p a i : Nat) : Int32 := nI (1000 * p + 20 * a + i)
def srT (M : Nat → Nat → Nat → Bool) (nA nJ f0 t0 pl : Nat) : Nat ⊕ Int32 := srA (fun p l => srA (fun a l => srI (M p a) (codeN p a) nJ nJ l) nA nA l) (t0 + 1) (t0 + 1 - f0) pl
def mM (fA : Nat → Int32) (nA : Nat) (fJ : Nat → Int32) (nJ : Nat) (lat ld : Nat → Int32) (x y sn : Int32) (p a i : Nat) : Bool :=
  ((!decide (lat (140 * p + (10 * a + i)) = MIS) && !decide (ld (140 * p + (10 * a + i)) < sn)) && tW fA x nA (nI a)) && tW fJ y nJ (nI i)
def sOk (s : Int32) : Bool := !decide (s < 0) && decide (s ≤ nI 1000)
