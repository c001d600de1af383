/-! ===== the reference: hours ===== -/
def NP (σ : Nat → Int32) : Prop := ∀ c, c < 8 → nP σ c 6 ≤ 594
theorem lookN_at {σ : Nat → Int32} {i : Nat} (h107 : i ≠ 107) : ∀ {n : Nat}, (∀ c, c < n → i ≠ ix c 8) → lookN σ n i = σ i
  | 0, _ => rfl
  | n + 1, h => by
    have e := lookN_at (σ := σ) h107 (n := n) (fun c hc => h c (by omega))
    simp only [lookN, look1]
    split <;> rw [upd_n _ _ (h n (by omega)), upd_n _ _ h107, e]
def intI (σ : Nat → Int32) (c : Nat) : Int32 := (σ (ix c 7) * σ 98 + nI 9999) / nI 10000
def hr0 (σ : Nat → Int32) (c : Nat) : Nat → Int32 := upd σ (ix c 7) (σ (ix c 7) + intI σ c)
def hr1 (σ : Nat → Int32) (c : Nat) : Nat → Int32 := upd (hr0 σ c) 104 (hr0 σ c 104 + intI σ c)
def hrN (σ : Nat → Int32) : Nat → Nat → Int32
  | 0 => σ
  | n + 1 => hr1 (hrN σ n) n
theorem isK_congr {σ τ : Nat → Int32} {c : Nat} (h : σ (ix c 8) = τ (ix c 8)) : isK σ c = isK τ c := by simp only [isK, h]
def bitN (b : Nat → Bool) : Nat → Int32
  | 0 => nI 0
  | n + 1 => bitN b n ||| (if b n = true then nI 1 <<< (nI n &&& 31) else nI 0)
theorem bit_all : ∀ b0 b1 b2 b3 b4 b5 b6 b7 : Bool, ∀ c : Fin 8, ((((((((((nI 0 ||| (if b0 = true then nI 1 <<< (nI 0 &&& 31) else nI 0)) ||| (if b1 = true then nI 1 <<< (nI 1 &&& 31) else nI 0)) ||| (if b2 = true then nI 1 <<< (nI 2 &&& 31) else nI 0)) ||| (if b3 = true then nI 1 <<< (nI 3 &&& 31) else nI 0)) ||| (if b4 = true then nI 1 <<< (nI 4 &&& 31) else nI 0)) ||| (if b5 = true then nI 1 <<< (nI 5 &&& 31) else nI 0)) ||| (if b6 = true then nI 1 <<< (nI 6 &&& 31) else nI 0)) ||| (if b7 = true then nI 1 <<< (nI 7 &&& 31) else nI 0)) >>> (nI c.val &&& 31)) &&& nI 1) = bI ([b0, b1, b2, b3, b4, b5, b6, b7].getD c.val false) := by decide +kernel
theorem bit_at (b : Nat → Bool) {c : Nat} (hc : c < 8) : (bitN b 8 >>> (nI c &&& 31)) &&& nI 1 = bI (b c) := by
  have h := bit_all (b 0) (b 1) (b 2) (b 3) (b 4) (b 5) (b 6) (b 7) ⟨c, hc⟩
  have e : [b 0, b 1, b 2, b 3, b 4, b 5, b 6, b 7].getD c false = b c := by
    rcases (show c = 0 ∨ c = 1 ∨ c = 2 ∨ c = 3 ∨ c = 4 ∨ c = 5 ∨ c = 6 ∨ c = 7 by omega) with rfl | rfl | rfl | rfl | rfl | rfl | rfl | rfl <;> rfl
  simp only at h
  rw [e] at h
  exact h
def low1 (σ : Nat → Int32) (c : Nat) : Nat → Int32 := upd σ (ix c 8) (σ (ix c 8) + -1)
/-- a client's hour -/
def dn1 (b : Bool) (p : (Nat → Int32) × Int32) (c : Nat) : (Nat → Int32) × Int32 :=
  if (b && isK p.1 c) = true then (if low1 p.1 c (ix c 8) = 0 then ((sellsS (low1 p.1 c) c).1, p.2 + nI 1) else (low1 p.1 c, p.2)) else p
def dnN (b : Nat → Bool) (p : (Nat → Int32) × Int32) : Nat → (Nat → Int32) × Int32
  | 0 => p
  | n + 1 => dn1 (b n) (dnN b p n) n
def hour0 (σ : Nat → Int32) : Nat → Int32 := upd σ 102 (σ 102 + nI 1)
def hourS (σ : Nat → Int32) : (Nat → Int32) × Int32 := dnN (isK (hour0 σ)) (lookN (hrN (hour0 σ) 8) 8, nI 0) 8
def pasN (σ : Nat → Int32) : Nat → (Nat → Int32) × Int32
  | 0 => (σ, nI 0)
  | n + 1 => ((hourS (pasN σ n).1).1, (pasN σ n).2 + (hourS (pasN σ n).1).2)
