/-! a house that is new -/
def hs_ad (q : Nat) (u : Nat → Nat) : Nat → Nat := fun k => match k with
  | 0 => q
  | k + 1 => u k
theorem hs_new {q n : Nat} {u : Nat → Nat} (hq : n ≤ q) (hu : ∀ k, k < 24 → n ≤ u k) : ∀ z ∈ hs_M (hs_ad q u), Aw [] n z := by
  intro z hz
  refine Or.inr ?_
  obtain ⟨k, hk⟩ := List.getElem?_of_mem hz
  match k, hk with
  | 0, hk => cases hk; exact hq
  | 1, hk => cases hk; exact hu 0 (by decide)
  | 2, hk => cases hk; exact hu 1 (by decide)
  | 3, hk => cases hk; exact hu 2 (by decide)
  | 4, hk => cases hk; exact hu 3 (by decide)
  | 5, hk => cases hk; exact hu 4 (by decide)
  | 6, hk => cases hk; exact hu 5 (by decide)
  | 7, hk => cases hk; exact hu 6 (by decide)
  | 8, hk => cases hk; exact hu 7 (by decide)
  | 9, hk => cases hk; exact hu 8 (by decide)
  | 10, hk => cases hk; exact hu 9 (by decide)
  | 11, hk => cases hk; exact hu 10 (by decide)
  | 12, hk => cases hk; exact hu 11 (by decide)
  | 13, hk => cases hk; exact hu 12 (by decide)
  | 14, hk => cases hk; exact hu 13 (by decide)
  | 15, hk => cases hk; exact hu 14 (by decide)
  | 16, hk => cases hk; exact hu 15 (by decide)
  | 17, hk => cases hk; exact hu 16 (by decide)
  | 18, hk => cases hk; exact hu 17 (by decide)
  | 19, hk => cases hk; exact hu 18 (by decide)
  | 20, hk => cases hk; exact hu 19 (by decide)
  | 21, hk => cases hk; exact hu 20 (by decide)
  | 22, hk => cases hk; exact hu 21 (by decide)
  | 23, hk => cases hk; exact hu 22 (by decide)
  | 24, hk => cases hk; exact hu 23 (by decide)
  | k + 25, hk => simp [hs_M] at hk
theorem inv_0 {fA fJ da dc bc bd bf ld : Nat → Int32} : Inv 0 0 0 0 0 0 0 fA fJ da dc bc bd bf (fillF (fun _ => 0) MIS 1680) (fillF (fun _ => 0) MIS 1680) (fun _ => 0) ld := by
  refine ⟨⟨by omega, by omega, fun k h => absurd h (Nat.not_lt_zero k), fun k h => absurd h (Nat.not_lt_zero k), by omega, by omega, by omega, by omega, by omega⟩, ⟨fun j h => absurd h (Nat.not_lt_zero j), fun i j _ h => absurd h (Nat.not_lt_zero j), fun j h => absurd h (Nat.not_lt_zero j)⟩, fun k h => absurd h (Nat.not_lt_zero k), fun c hc => ⟨?_, ?_, rfl, fun h => by cases h⟩⟩
  · show (if c < 1680 then MIS else 0) = MIS
    rw [if_pos hc]
  · show (if c < 1680 then MIS else 0) = MIS
    rw [if_pos hc]
def hs_e0 : hs_E := (0, 0, 0, 0, 0, 0, 0, fun _ => 0, fun _ => 0, fun _ => 0, fun _ => 0, fun _ => 0, fun _ => 0, fun _ => 0, fun _ => 0, fun _ => 0, fun _ => 0, fun _ => false, fun _ => false)
def hs_i0 : hs_I := (fillF (fun _ => 0) MIS 1680, fillF (fun _ => 0) MIS 1680, fun _ => 0, fun _ => 0, fun _ => 0, fun _ => false)
theorem hs_inv0 : hs_Inv hs_e0 hs_i0 := inv_0
