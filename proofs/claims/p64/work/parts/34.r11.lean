/-! ===== the reference: fall, the share, the digest ===== -/
def hR (Y : RY) : Int64 := Y.2.2.2.2.2
def rgF (σ : Nat → Int32) (lo : Nat) (h : Int64) : Nat → Int64
  | 0 => h
  | n + 1 => mx (rgF σ lo h n) (σ (lo + n)).toInt64
def drC (σ : Nat → Int32) (h : Int64) (c : Nat) : Int64 := mxL (hpF σ c h 8) [worS σ c 6, covI σ c (nI 0) (nI 1), romS σ c, bI (isK σ c), σ (ix c 8), σ (ix c 9), rnkS σ c 8, falS σ c + nI 1, falS σ c + nI 1, (sellsS σ c).2, (sellsS σ c).1 106 - σ 106]
def drN (σ : Nat → Int32) : Nat → Int64
  | 0 => dgK σ 6
  | n + 1 => drC σ (drN σ n) n
def drP (σ : Nat → Int32) (h : Int64) : Nat → Int64
  | 0 => h
  | n + 1 => mxL (drP σ h n) [rkyS σ (nI n) 8, rkyS σ (nI n) 8]
def drA (σ : Nat → Int32) (n : Nat) (B h : Int64) : Int64 := mx (mx (rgF σ 103 (mxL (mxL (rgF σ 98 (mxL h [allS σ 8]) 4) [ifFS σ (nI 10) 8, ifFS σ (nI 50) 8]) [σ 102, dbS σ 8, σ 103 + σ 104 - σ 105 - σ 106]) 6) (nI n).toInt64) B
def drD (σ : Nat → Int32) (n : Nat) (B : Int64) (ik bu : Nat → Int32) (ℓ : Nat) : Int64 := hsC bu (mx (mxL (drA σ n B (drP σ (drN σ 8) 8)) [ik 0, ik 1]) (nI ℓ).toInt64) ℓ
