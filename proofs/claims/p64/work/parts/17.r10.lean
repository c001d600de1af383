/-! ===== the reference: what is told ===== -/
def pldS (σ : Nat → Int32) (k : Nat) : Nat → Int32
  | 0 => nI 0
  | n + 1 => pldS σ k n + σ (ix n k)
def worS (σ : Nat → Int32) (c : Nat) : Nat → Int32
  | 0 => σ (ix c 6)
  | n + 1 => worS σ c n + σ (ix c n) * σ n
def romD (σ : Nat → Int32) (c : Nat) : Int32 := covI σ c (nI 0) (nI 1) - σ (ix c 7)
def romS (σ : Nat → Int32) (c : Nat) : Int32 := if romD σ c < 0 ∨ σ (ix c 9) = nI 1 then nI 0 else romD σ c
def rskD (σ : Nat → Int32) (a b : Nat) : Int64 := (covI σ a (nI 0) (nI 1)).toInt64 * (σ (ix b 7)).toInt64 - (covI σ b (nI 0) (nI 1)).toInt64 * (σ (ix a 7)).toInt64
def rsk0 (σ : Nat → Int32) (a b : Nat) : Bool := decide (0 < σ (ix a 7)) || (decide (σ (ix b 7) = 0) && decide (a < b))
def rsk1 (σ : Nat → Int32) (a b : Nat) : Bool := decide (lg_cmp (rskD σ a b) (lN 0) < 0) || (decide (lg_cmp (rskD σ a b) (lN 0) = 0) && decide (a < b))
def rsk (σ : Nat → Int32) (a b : Nat) : Bool := if σ (ix a 7) = 0 ∨ σ (ix b 7) = 0 then rsk0 σ a b else rsk1 σ a b
def rnkS (σ : Nat → Int32) (c : Nat) : Nat → Int32
  | 0 => nI 0
  | n + 1 => rnkS σ c n + bI (!decide (n = c) && rsk σ n c)
def rkyS (σ : Nat → Int32) (p : Int32) : Nat → Int32
  | 0 => -1
  | n + 1 => if rnkS σ n 8 = p then nI n else rkyS σ p n
def allS (σ : Nat → Int32) : Nat → Int32
  | 0 => nI 0
  | n + 1 => allS σ n + bI (isK σ n)
def falF (σ : Nat → Int32) (c : Nat) : Nat → Nat → Int32
  | 0, _ => -1
  | f + 1, p => if covI σ c (nI p) (nI 0) < σ (ix c 7) then nI p else falF σ c f (p + 1)
def falS (σ : Nat → Int32) (c : Nat) : Int32 := if isK σ c = true then nI 0 else falF σ c 100 1
def intD (σ : Nat → Int32) (d : Int32) : Int32 := (d * σ 98 + nI 9999) / nI 10000
def htF (σ : Nat → Int32) (cv : Int32) : Nat → Int32 → Nat → Nat
  | 0, _, n => n
  | f + 1, d, n => if cv < d then n else htF σ cv f (d + intD σ d) (n + 1)
def htS (σ : Nat → Int32) (c : Nat) : Nat := htF σ (covI σ c (nI 0) (nI 1)) 1000 (σ (ix c 7)) 0
def ifFS (σ : Nat → Int32) (q : Int32) : Nat → Int32
  | 0 => nI 0
  | n + 1 => ifFS σ q n + bI (decide (covI σ n q (nI 1) < σ (ix n 7)))
def dbS (σ : Nat → Int32) : Nat → Int32
  | 0 => nI 0
  | n + 1 => dbS σ n + σ (ix n 7)
def cvS (σ : Nat → Int32) : Nat → Int32
  | 0 => nI 0
  | n + 1 => cvS σ n + covI σ n (nI 0) (nI 1)
def useD (σ : Nat → Int32) : UInt64 := FP.ddiv (FP.i2d (dbS σ 8)) (FP.i2d (cvS σ 8))
theorem nIlt {a b : Nat} (ha : a < 8) (hb : b < 8) : nI b ≤ nI a ↔ ¬ a < b := by
  rw [nI_leI (by omega) (by omega)]; omega
