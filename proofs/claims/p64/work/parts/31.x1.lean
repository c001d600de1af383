/-! ===== the class: the reader of orders ===== -/
abbrev PS : Type := Option Nat × Nat × Int32 × Int32 × Nat × Nat
abbrev PS.lt (s : PS) : Option Nat := s.1
abbrev PS.step (s : PS) : Nat := s.2.1
abbrev PS.client (s : PS) : Int32 := s.2.2.1
abbrev PS.kind (s : PS) : Int32 := s.2.2.2.1
abbrev PS.number (s : PS) : Nat := s.2.2.2.2.1
abbrev PS.digits (s : PS) : Nat := s.2.2.2.2.2
def ltI : Option Nat → Int32
  | none => -1
  | some l => nI l
def tE (ℓ : Nat) (s : PS) : Nat → Int32 := fun i => match i with
  | 0 => nI ℓ
  | 1 => ltI s.lt
  | 2 => nI s.step
  | 3 => s.client
  | 4 => s.kind
  | 5 => nI s.number
  | 6 => nI s.digits
  | _ => 0
