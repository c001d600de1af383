/-! ===== the reference: sales, payments ===== -/
def byS (σ : Nat → Int32) (k o : Nat) : Int32 := if σ 101 = 0 then σ k - σ o else if σ 101 = nI 1 then σ (6 + o) - σ (6 + k) else σ (6 + k) - σ (6 + o)
def ahead (σ : Nat → Int32) (k o : Nat) : Bool := decide (0 < byS σ k o)
def selS (σ : Nat → Int32) (c : Nat) : Nat → Option Nat
  | 0 => none
  | n + 1 => match selS σ c n with
    | none => if 0 < σ (ix c n) then some n else none
    | some o => if 0 < σ (ix c n) ∧ ahead σ n o = true then some n else some o
theorem oI_lt {x : Option Nat} {n : Nat} (hn : n < 2147483648) (h : ∀ o, x = some o → o < n) : oI x = -1 ↔ x = none := by
  cases x with
  | none => simp [oI]
  | some o =>
    have ho := h o rfl
    simp only [oI, reduceCtorEq, iff_false]
    intro e
    have h1 := congrArg Int32.toInt e
    rw [nI_toInt (by omega)] at h1
    have h2 : (-1 : Int32).toInt = -1 := by decide
    omega
def paid (σ : Nat → Int32) (c : Nat) (x : Int32) : Int32 := if x < σ (ix c 7) then x else σ (ix c 7)
def pay1 (σ : Nat → Int32) (c : Nat) (t : Int32) : Nat → Int32 := upd σ (ix c 7) (σ (ix c 7) + -t)
def pay2 (σ : Nat → Int32) (c : Nat) (t x : Int32) : Nat → Int32 := upd (pay1 σ c t) (ix c 6) (pay1 σ c t (ix c 6) + (x - t))
def payS (σ : Nat → Int32) (c : Nat) (x : Int32) : Nat → Int32 := upd (pay2 σ c (paid σ c x) x) 105 (pay2 σ c (paid σ c x) x 105 + paid σ c x)
def backS (σ : Nat → Int32) (c : Nat) (x : Int32) : Nat → Int32 := upd (pay1 σ c (paid σ c x)) 105 (pay1 σ c (paid σ c x) 105 + paid σ c x)
def lendS (σ : Nat → Int32) (c : Nat) (x : Int32) : Nat → Int32 := upd (upd σ (ix c 7) (σ (ix c 7) + x)) 103 (upd σ (ix c 7) (σ (ix c 7) + x) 103 + x)
def lackS (σ : Nat → Int32) (c w : Nat) (m : Int32) : Nat → Int32 := upd σ (ix c w) (σ (ix c w) + -m)
def canL (σ : Nat → Int32) (c w : Nat) (m : Int32) : Bool := decide (m ≤ σ (ix c w)) && isC (lackS σ c w m) c
def canB (σ : Nat → Int32) (c : Nat) (x : Int32) : Bool := decide (σ (ix c 9) = 0) && decide (σ (ix c 7) + x ≤ covI σ c (nI 0) (nI 1))
