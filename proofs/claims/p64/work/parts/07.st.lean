/-! ===== the reference's cells, and rows over them ===== -/
theorem ev_w {M : MT} {po : PO} {px : PX} {k pc : Nat} {L : LV} {st : List Value} {w w' : PW} (h : w = w') (kk : Ev M po px k pc L st w') : Ev M po px k pc L st w := by rw [h]; exact kk
theorem ev_top {M : MT} {po : PO} {px : PX} {k pc : Nat} {L : LV} {st : List Value} {w : PW} {x : Int32} (y : Int32) (h : x = y) (kk : Ev M po px k pc L (.int y :: st) w) : Ev M po px k pc L (.int x :: st) w := by rw [h]; exact kk
theorem ev_LL {M : MT} {po : PO} {px : PX} {k pc : Nat} {L : LV} (L' : LV) {st : List Value} {w : PW} (h : L = L') (kk : Ev M po px k pc L' st w) : Ev M po px k pc L st w := by rw [h]; exact kk
/-- the first n of a row; behind them nothing -/
def tr (n : Nat) (f : Nat → Int32) : Nat → Int32 := fun k => if k < n then f k else 0
theorem tr_at {n j : Nat} {f : Nat → Int32} (h : j < n) : tr n f j = f j := by simp [tr, h]
theorem tr_upd {n j : Nat} {f : Nat → Int32} {x : Int32} (h : j < n) : upd (tr n f) j x = tr n (upd f j x) := by
  funext k
  simp only [upd, tr]
  by_cases hk : k = j
  · subst hk; simp [h]
  · simp [hk]
theorem tr_ext {n : Nat} {f g : Nat → Int32} (h : ∀ k, k < n → f k = g k) : tr n f = tr n g := by
  funext k
  simp only [tr]
  split
  · next hk => exact h k hk
  · rfl
theorem upd_s (f : Nat → Int32) (k : Nat) (x : Int32) : upd f k x k = x := by simp [upd]
theorem upd_n (f : Nat → Int32) {k j : Nat} (x : Int32) (h : j ≠ k) : upd f k x j = f j := by simp [upd, h]
theorem nI_m (a b : Nat) : nI a * nI b = nI (a * b) := pk_mul a b
theorem vpi {j n : Nat} (h : j < n) (hn : n < 2147483648) : vp_in (nI j) n := vp_in_nI h hn
theorem cl_nI {j n : Nat} (h : j < n) (hn : n < 2147483648) : (nI j).toNatClampNeg = j := nI_clamp (Nat.lt_trans h hn)
section
variable {M : MT} {po : PO} {px : PX} {k pc : Nat} {L : LV} {st : List Value} {w : PW}
theorem ev_ild {a n : Nat} {i : Int32} {F : Nat → Int32} (j : Nat) (d : decode (mC M) pc = .ok (.iaload, 1)) (hw : w[a]? = some (.inl (0, n, .inl (tr n F)))) (hi : i = nI j) (hj : j < n) (hn : Nat.blt n 2147483648 = true) (kk : Ev M po px k (pc + 1) L (.int (F j) :: st) w) : Ev M po px k pc L (.int i :: .ref a :: st) w := by
  have hn : n < 2147483648 := by simpa using hn
  subst hi
  refine ev_iaload d hw (vpi hj hn) ?_
  rw [cl_nI hj hn, tr_at hj]
  exact kk
theorem ev_bld {a n : Nat} {i : Int32} {F : Nat → Int32} (j : Nat) (d : decode (mC M) pc = .ok (.baload, 1)) (hw : w[a]? = some (.inl (1, n, .inl (tr n F)))) (hi : i = nI j) (hj : j < n) (hn : Nat.blt n 2147483648 = true) (kk : Ev M po px k (pc + 1) L (.int (F j) :: st) w) : Ev M po px k pc L (.int i :: .ref a :: st) w := by
  have hn : n < 2147483648 := by simpa using hn
  subst hi
  refine ev_baload d hw (vpi hj hn) ?_
  rw [cl_nI hj hn, tr_at hj]
  exact kk
theorem ev_ist {a n : Nat} {i x : Int32} {F : Nat → Int32} {w' : PW} (j : Nat) (d : decode (mC M) pc = .ok (.iastore, 1)) (hw : w[a]? = some (.inl (0, n, .inl (tr n F)))) (hi : i = nI j) (hj : j < n) (hn : Nat.blt n 2147483648 = true) (hw' : w.set a (.inl (0, n, .inl (tr n (upd F j x)))) = w') (kk : Ev M po px k (pc + 1) L st w') : Ev M po px k pc L (.int x :: .int i :: .ref a :: st) w := by
  have hn : n < 2147483648 := by simpa using hn
  subst hi
  refine ev_iastore d hw (vpi hj hn) ?_ kk
  rw [cl_nI hj hn, tr_upd hj]
  exact hw'
theorem ev_bst {a n : Nat} {i x : Int32} {F : Nat → Int32} {w' : PW} (j : Nat) (d : decode (mC M) pc = .ok (.bastore, 1)) (hw : w[a]? = some (.inl (1, n, .inl (tr n F)))) (hi : i = nI j) (hj : j < n) (hn : Nat.blt n 2147483648 = true) (hx : vp_nar .boolean x = x) (hw' : w.set a (.inl (1, n, .inl (tr n (upd F j x)))) = w') (kk : Ev M po px k (pc + 1) L st w') : Ev M po px k pc L (.int x :: .int i :: .ref a :: st) w := by
  have hn : n < 2147483648 := by simpa using hn
  subst hi
  refine ev_bastore d hw (vpi hj hn) hx ?_ kk
  rw [cl_nI hj hn, tr_upd hj]
  exact hw'
end
def oI : Option Nat → Int32
  | none => -1
  | some k => nI k
/-- saved rows, slots, isKept, aside, buffer, hash -/
abbrev RY : Type := (Nat → Int32) × (Nat → Int32) × (Nat → Int32) × (Nat → Int32) × (Nat → Int32) × Int64
/-- pieces, coins, debt, call, barred of a client -/
abbrev ix (c w : Nat) : Nat := 18 + 10 * c + w
def bI (b : Bool) : Int32 := if b then 1 else 0
theorem bI_nar (b : Bool) : narrow .boolean (.int (bI b)) = .int (bI b) := by cases b <;> rfl
def falI (p q : Int32) : Int32 := p * (nI 100 - q) / nI 100
def covS (σ : Nat → Int32) (c : Nat) (q least : Int32) : Nat → Int32
  | 0 => nI 0
  | k + 1 => covS σ c q least k + σ (ix c k) * (if falI (σ k) q < least then least else falI (σ k) q) * (nI 100 - σ (6 + k))
def covI (σ : Nat → Int32) (c : Nat) (q least : Int32) : Int32 := σ (ix c 6) + covS σ c q least 6 / nI 100
def isC (σ : Nat → Int32) (c : Nat) : Bool := decide (σ (ix c 7) ≤ covI σ c (nI 0) (nI 1))
def isK (σ : Nat → Int32) (c : Nat) : Bool := decide (nI 0 < σ (ix c 8))
theorem bI_0 {b : Bool} : bI b = 0 ↔ b = false := by cases b <;> simp [bI]
theorem bI_1 {b : Bool} : ¬ bI b = 0 ↔ b = true := by cases b <;> simp [bI]
def inB (v lo hi : Int32) : Bool := decide (lo ≤ v) && decide (v ≤ hi)
/-- Clients are looked at -/
def look1 (σ : Nat → Int32) (c : Nat) : Nat → Int32 :=
  if (isC σ c || isK σ c) = false then upd (upd σ 107 (σ 107 + nI 1)) (ix c 8) (σ 99) else upd (upd σ 107 (σ 107 + nI 0)) (ix c 8) (if isC σ c = true then nI 0 else σ (ix c 8))
def lookN (σ : Nat → Int32) : Nat → Nat → Int32
  | 0 => σ
  | n + 1 => look1 (lookN σ n) n
theorem covS_congr {σ τ : Nat → Int32} {c : Nat} {q l : Int32} (hc : c < 8) (h : ∀ i, i < 98 → σ i = τ i) : ∀ n, n ≤ 6 → covS σ c q l n = covS τ c q l n
  | 0, _ => rfl
  | n + 1, hn => by
    simp only [covS]
    rw [covS_congr hc h n (by omega), h (ix c n) (by simp only [ix]; omega), h n (by omega), h (6 + n) (by omega)]
theorem covI_congr {σ τ : Nat → Int32} {c : Nat} {q l : Int32} (hc : c < 8) (h : ∀ i, i < 98 → σ i = τ i) : covI σ c q l = covI τ c q l := by
  simp only [covI]
  rw [covS_congr hc h 6 (by omega), h (ix c 6) (by simp only [ix]; omega)]
