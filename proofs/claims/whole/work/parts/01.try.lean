abbrev AC : Type := (Nat × List Value) ⊕ (Nat × Nat × ((Nat → Int32) ⊕ (Nat → Int64) ⊕ (Nat → Option Nat)))
theorem foo : (1 : Nat) + 1 = 2 := rfl
