/-! ===== constructors: the reference, the house ===== -/
def m4 (b : Nat) (F : Nat → Int32) : PW := [.inr (4, [.ref (b + 1), .ref (b + 2), .int (nI 0), .ref (b + 3), .ref (b + 4), .ref (b + 5), .ref (b + 6), .int (nI 0), .int (nI 0), .int (nI 0), .int (nI 0), .long 0]), .inl (0, 109, .inl (tr 109 F)), .inl (0, 654, .inl (tr 654 (fun _ => nI 0))), .inl (0, 218, .inl (tr 218 (fun _ => nI 0))), .inl (1, 2, .inl (tr 2 (fun _ => nI 0))), .inl (0, 109, .inl (tr 109 (fun _ => nI 0))), .inl (0, 60, .inl (tr 60 (fun _ => nI 0)))]
def ldg : List Nat → PW → PW
  | [], g => g
  | b :: bs, g => ledC b σ0 (ldg bs g)
abbrev q0 : Nat → Option Nat := fun _ => none
def h3 (fs : List Value) (f7 f9 : Nat → Option Nat) (g : PW) : PW := .inr (3, fs) :: .inr (1, [.ref 2, .int (nI 0), .int (nI 0), .int (nI 0), .int (nI 0), .int (nI 0), .int (nI 0), .int (nI 0)]) :: .inl (0, 60, .inl (tr 60 (fun _ => nI 0))) :: .inr (2, [.ref 4, .ref 5, .int (nI 0), .int (nI 0), .int (nI 0), .int (nI 0), .int (nI 0), .int (nI 0)]) :: .inl (0, 6, .inl (tr 6 (fun _ => nI 0))) :: .inl (0, 6, .inl (tr 6 (fun _ => nI 0))) :: .inl (0, 8, .inl (tr 8 (fun _ => nI 0))) :: .inl (3, 2, .inr (.inr (.inr (.inr f7)))) :: .inl (1, 2, .inl (tr 2 (fun _ => nI 0))) :: .inl (3, 6, .inr (.inr (.inr (.inr f9)))) :: g
abbrev l0 : va_E := .inr (0, [.null, .null, .null, .null, .null, .null, .null, .null, .int (nI 0), .int (nI 0), .int (nI 0), .int (nI 0), .int (nI 0), .int (nI 0), .int (nI 0), .int (nI 0), .int (nI 0), .int (nI 0), .int (nI 0)])
