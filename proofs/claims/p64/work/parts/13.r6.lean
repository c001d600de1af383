/-! ===== the reference: selling out, hours ===== -/
def nP (σ : Nat → Int32) (c : Nat) : Nat → Nat
  | 0 => 0
  | n + 1 => nP σ c n + (σ (ix c n)).toNatClampNeg
theorem cl_99 {x : Int32} (h0 : 0 ≤ x) (h : x ≤ nI 99) : x.toNatClampNeg ≤ 99 := by
  obtain ⟨j, hj, rfl⟩ := nI_of2 (M := nI 99) (n := 99) (by decide) (by rw [Int32.not_lt]; exact h0) h
  rw [nI_clamp (by omega)]; exact hj
theorem nP_le {σ : Nat → Int32} {c : Nat} (h : ∀ k, k < 6 → 0 ≤ σ (ix c k) ∧ σ (ix c k) ≤ nI 99) : nP σ c 6 ≤ 594 := by
  have := fun k hk => cl_99 (h k hk).1 (h k hk).2
  have h0 := this 0 (by omega); have h1 := this 1 (by omega); have h2 := this 2 (by omega); have h3 := this 3 (by omega); have h4 := this 4 (by omega); have h5 := this 5 (by omega)
  simp only [nP]
  omega
/-- one less of kind k -/
def less1 (σ : Nat → Int32) (c k : Nat) : Nat → Int32 := upd σ (ix c k) (σ (ix c k) + -1)
def sell1 (σ : Nat → Int32) (c k : Nat) : Nat → Int32 :=
  let s := upd (less1 σ c k) (12 + k) (less1 σ c k (12 + k) + nI 1)
  payS s c (s k * (nI 100 - s 100) / nI 100)
theorem payS_at {σ : Nat → Int32} {c i : Nat} {x : Int32} (h7 : i ≠ ix c 7) (h6 : i ≠ ix c 6) (h5 : i ≠ 105) : payS σ c x i = σ i := by
  simp only [payS, pay2, pay1]
  rw [upd_n _ _ h5, upd_n _ _ h6, upd_n _ _ h7]
/-- umbrellas are sold one by one -/
def sellW (c : Nat) : Nat → (Nat → Int32) → Int32 → (Nat → Int32) × Int32
  | 0, τ, n => (τ, n)
  | f + 1, τ, n => match selS τ c 6 with
    | none => (τ, n)
    | some k => if isC τ c = true then (τ, n) else sellW c f (sell1 τ c k) (n + nI 1)
def lossS (τ : Nat → Int32) (c : Nat) : Nat → Int32 :=
  if isC τ c = true then τ else
    let s := upd τ 106 (τ 106 + τ (ix c 7))
    upd (upd s (ix c 7) (nI 0)) (ix c 9) (nI 1)
def outS (τ : Nat → Int32) (c : Nat) : Nat → Int32 :=
  let s := upd (lossS τ c) (ix c 8) (nI 0)
  upd s 108 (s 108 + nI 1)
def begS (σ : Nat → Int32) (c : Nat) : Nat → Int32 := payS (upd σ (ix c 6) (nI 0)) c (σ (ix c 6))
def sellsS (σ : Nat → Int32) (c : Nat) : (Nat → Int32) × Int32 := (outS (sellW c 594 (begS σ c) (nI 0)).1 c, (sellW c 594 (begS σ c) (nI 0)).2)
theorem sellW_none {c : Nat} {τ : Nat → Int32} {n : Int32} (h : selS τ c 6 = none) : ∀ f, sellW c f τ n = (τ, n)
  | 0 => rfl
  | f + 1 => by simp only [sellW, h]
theorem sellW_cov {c k : Nat} {τ : Nat → Int32} {n : Int32} (h : selS τ c 6 = some k) (hc : isC τ c = true) : ∀ f, sellW c f τ n = (τ, n)
  | 0 => rfl
  | f + 1 => by simp only [sellW, h, hc, if_true]
