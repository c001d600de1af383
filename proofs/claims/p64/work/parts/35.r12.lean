/-! ===== the reference: the reader of orders ===== -/
/-- the sign that is read, the state behind it -/
def sc (bu : Nat → Int32) (ℓ : Nat) (s : Nat × Bool) : Int32 := if s.1 < ℓ ∧ s.2 = false then bu s.1 else nI 0
