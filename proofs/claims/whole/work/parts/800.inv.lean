def Inv (b hm : Nat) (S : pH) : Prop := False
theorem Inv_steps : ∀ b hm, Steps b hm (Inv b hm) := sorry
theorem Inv_init : ∀ b, Init b (Inv b) := sorry
