def kL (r : Int32) : Int64 := if r = 0 then 0 else 1
theorem b_pn {α : Type} {P : α → Prop} : ∀ a ∈ ([] : List α), P a := fun _ h => nomatch h
theorem b_pc {α : Type} {P : α → Prop} {x : α} {l : List α} (h : P x) (t : ∀ a ∈ l, P a) : ∀ a ∈ x :: l, P a := fun a ha => (List.mem_cons.mp ha).elim (fun e => e ▸ h) (t a)
