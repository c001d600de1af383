/-! ===== the reference: what is told ===== -/
def pldS (σ : Nat → Int32) (k : Nat) : Nat → Int32
  | 0 => nI 0
  | n + 1 => pldS σ k n + σ (ix n k)
def worS (σ : Nat → Int32) (c : Nat) : Nat → Int32
  | 0 => σ (ix c 6)
  | n + 1 => worS σ c n + σ (ix c n) * σ n
def romD (σ : Nat → Int32) (c : Nat) : Int32 := covI σ c (nI 0) (nI 1) - σ (ix c 7)
def romS (σ : Nat → Int32) (c : Nat) : Int32 := if romD σ c < 0 ∨ σ (ix c 9) = nI 1 then nI 0 else romD σ c
def rskD (σ : Nat → Int32) (a b : Nat) : Int64 := (covI σ a (nI 0) (nI 1)).toInt64 * (σ (ix b 7)).toInt64 - (covI σ b (nI 0) (nI 1)).toInt64 * (σ (ix a 7)).toInt64
def rsk0 (σ : Nat → Int32) (a b : Nat) : Bool := decide (0 < σ (ix a 7)) || (decide (σ (ix b 7) = 0) && decide (a < b))
def rsk1 (σ : Nat → Int32) (a b : Nat) : Bool := decide (lg_cmp (rskD σ a b) (lN 0) < 0) || (decide (lg_cmp (rskD σ a b) (lN 0) = 0) && decide (a < b))
def rsk (σ : Nat → Int32) (a b : Nat) : Bool := if σ (ix a 7) = 0 ∨ σ (ix b 7) = 0 then rsk0 σ a b else rsk1 σ a b
def rnkS (σ : Nat → Int32) (c : Nat) : Nat → Int32
  | 0 => nI 0
  | n + 1 => rnkS σ c n + bI (!decide (n = c) && rsk σ n c)
def rkyS (σ : Nat → Int32) (p : Int32) : Nat → Int32
  | 0 => -1
  | n + 1 => if rnkS σ n 8 = p then nI n else rkyS σ p n
def allS (σ : Nat → Int32) : Nat → Int32
  | 0 => nI 0
  | n + 1 => allS σ n + bI (isK σ n)
def falF (σ : Nat → Int32) (c : Nat) : Nat → Nat → Int32
  | 0, _ => -1
  | f + 1, p => if covI σ c (nI p) (nI 0) < σ (ix c 7) then nI p else falF σ c f (p + 1)
def falS (σ : Nat → Int32) (c : Nat) : Int32 := if isK σ c = true then nI 0 else falF σ c 100 1
def intD (σ : Nat → Int32) (d : Int32) : Int32 := (d * σ 98 + nI 9999) / nI 10000
def htF (σ : Nat → Int32) (cv : Int32) : Nat → Int32 → Nat → Nat
  | 0, _, n => n
  | f + 1, d, n => if cv < d then n else htF σ cv f (d + intD σ d) (n + 1)
def htS (σ : Nat → Int32) (c : Nat) : Nat := htF σ (covI σ c (nI 0) (nI 1)) 1000 (σ (ix c 7)) 0
theorem htF_le {σ : Nat → Int32} {cv : Int32} : ∀ {f : Nat} {d : Int32} {n : Nat}, htF σ cv f d n ≤ n + f
  | 0, _, _ => Nat.le_refl _
  | f + 1, d, n => by
    simp only [htF]
    split
    · omega
    · have := htF_le (σ := σ) (cv := cv) (f := f) (d := d + intD σ d) (n := n + 1); omega
def ifFS (σ : Nat → Int32) (q : Int32) : Nat → Int32
  | 0 => nI 0
  | n + 1 => ifFS σ q n + bI (decide (covI σ n q (nI 1) < σ (ix n 7)))
def dbS (σ : Nat → Int32) : Nat → Int32
  | 0 => nI 0
  | n + 1 => dbS σ n + σ (ix n 7)
def cvS (σ : Nat → Int32) : Nat → Int32
  | 0 => nI 0
  | n + 1 => cvS σ n + covI σ n (nI 0) (nI 1)
def useD (σ : Nat → Int32) : UInt64 := FP.ddiv (FP.i2d (dbS σ 8)) (FP.i2d (cvS σ 8))
def useS (σ : Nat → Int32) : UInt64 := if cvS σ 8 = 0 then FP.dconst0 else useD σ
def useOK (σ : Nat → Int32) : Prop := ¬ cvS σ 8 = 0 → vf_n64 (useD σ)
theorem rw_back {σ τ z : Nat → Int32} {Y : RY} {g : PW} {a : Nat → Int32} : rw9 (va_cpy (va_cpy σ a 0 0 109) τ 0 0 109) z (Y.1, Y.2.1, Y.2.2.1, va_cpy σ a 0 0 109, Y.2.2.2.2) g = rw9 σ z (Y.1, Y.2.1, Y.2.2.1, σ, Y.2.2.2.2) g := by
  simp only [rw9, tr_cpyo (Nat.le_refl 109)]
theorem rsk_z {σ : Nat → Int32} {a b : Nat} (h : σ (ix a 7) = 0 ∨ σ (ix b 7) = 0) : rsk σ a b = rsk0 σ a b := if_pos h
theorem rsk_n {σ : Nat → Int32} {a b : Nat} (h1 : ¬ σ (ix a 7) = 0) (h2 : ¬ σ (ix b 7) = 0) : rsk σ a b = rsk1 σ a b := if_neg (fun h => h.elim h1 h2)
theorem rsk0_t1 {σ : Nat → Int32} {a b : Nat} (h : 0 < σ (ix a 7)) : rsk0 σ a b = true := by simp [rsk0, h]
theorem rsk0_f1 {σ : Nat → Int32} {a b : Nat} (h : ¬ 0 < σ (ix a 7)) (h2 : ¬ σ (ix b 7) = 0) : rsk0 σ a b = false := by simp [rsk0, Int32.not_lt.mp h, h2]
theorem nIlt {a b : Nat} (ha : a < 8) (hb : b < 8) : nI b ≤ nI a ↔ ¬ a < b := by
  rw [nI_leI (by omega) (by omega)]; omega
theorem rsk0_f2 {σ : Nat → Int32} {a b : Nat} (ha : a < 8) (hb : b < 8) (h : ¬ 0 < σ (ix a 7)) (h3 : nI b ≤ nI a) : rsk0 σ a b = false := by simp [rsk0, Int32.not_lt.mp h, (nIlt ha hb).mp h3]
theorem rsk0_t2 {σ : Nat → Int32} {a b : Nat} (ha : a < 8) (hb : b < 8) (h2 : σ (ix b 7) = 0) (h3 : ¬ nI b ≤ nI a) : rsk0 σ a b = true := by
  have h4 : a < b := by rcases Nat.lt_or_ge a b with q | q; exact q; exact absurd ((nIlt ha hb).mpr (by omega)) h3
  simp [rsk0, h2, h4]
theorem rsk1_t1 {σ : Nat → Int32} {a b : Nat} (h : lg_cmp (rskD σ a b) (lN 0) < 0) : rsk1 σ a b = true := by simp [rsk1, h]
theorem rsk1_f1 {σ : Nat → Int32} {a b : Nat} (h : ¬ lg_cmp (rskD σ a b) (lN 0) < 0) (h2 : ¬ lg_cmp (rskD σ a b) (lN 0) = 0) : rsk1 σ a b = false := by simp [rsk1, Int32.not_lt.mp h, h2]
theorem rsk1_f2 {σ : Nat → Int32} {a b : Nat} (ha : a < 8) (hb : b < 8) (h : ¬ lg_cmp (rskD σ a b) (lN 0) < 0) (h3 : nI b ≤ nI a) : rsk1 σ a b = false := by simp [rsk1, Int32.not_lt.mp h, (nIlt ha hb).mp h3]
theorem rsk1_t2 {σ : Nat → Int32} {a b : Nat} (ha : a < 8) (hb : b < 8) (h2 : lg_cmp (rskD σ a b) (lN 0) = 0) (h3 : ¬ nI b ≤ nI a) : rsk1 σ a b = true := by
  have h4 : a < b := by rcases Nat.lt_or_ge a b with q | q; exact q; exact absurd ((nIlt ha hb).mpr (by omega)) h3
  simp [rsk1, h2, h4]

set_option maxHeartbeats 1000000 in
theorem c4_told_1 (σ z : Nat → Int32) (Y : RY) (g : PW) (i : Int32) {v : Int32} (h : inB v (nI 0) (nI 5) = false) : Ct mX4_told [.ref 0, .int v, .int i] (rw9 σ z Y g) (d1 (some (.int (nI 0))) (rw9 σ (upd (upd z 2 (nI 0)) 2 (nI 1)) Y g)) nx := by
  refine ct_of 2 kX4_told.1 rfl (Nat.le_of_ble_eq_true rfl) (fun v u h => by obtain ⟨rfl, rfl⟩ := h; exact rfl) ?_
  show Ev _ _ _ 0 0 [(0, .ref 0), (1, .int v), (2, .int i)] [] _
  refine ev_aload_n 0 dX4_told_0 rfl rfl ?_
  refine ev_iconst (nI 0) dX4_told_1 rfl ?_
  refine ev_putfield 8 dX4_told_2 fpX4_29 rfl (Nat.le_of_ble_eq_true rfl) (fun _ => rfl) (fun _ => rfl) (rz2 _ _ _ _ _) ?_
  refine ev_iload_n 1 dX4_told_5 rfl rfl ?_
  refine ev_cS1 (c4_isKind0 _ h) kX4_isKind rfl g1162 rfl rfl dX4_told_6 ?_
  refine ev_if_eq 21 dX4_told_9 (by decide) (fun h9 => ?_) (fun h9 => absurd (by decide) h9)
  refine ev_aload_n 0 dX4_told_21 rfl rfl ?_
  refine ev_iconst (nI 1) dX4_told_22 rfl ?_
  refine ev_cV1 (c4_throwing _ _ _ _ _) kX4_throwing rfl g1172 rfl rfl rfl rfl dX4_told_23 ?_
  exact ev_ireturn dX4_told_26 (Nat.le_of_ble_eq_true rfl) ⟨rfl, rfl⟩
set_option maxHeartbeats 1000000 in
theorem c4_told_0 (σ z : Nat → Int32) (Y : RY) (g : PW) {i k : Nat} (hi : i < 109) (hk : k < 6) : Ct mX4_told [.ref 0, .int (nI k), .int (nI i)] (rw9 σ z Y g) (d1 (some (.int (σ i))) (rw9 σ (upd z 2 (nI 0)) Y g)) nx := by
  refine ct_of 2 kX4_told.1 rfl (Nat.le_of_ble_eq_true rfl) (fun v u h => by obtain ⟨rfl, rfl⟩ := h; exact rfl) ?_
  show Ev _ _ _ 0 0 [(0, .ref 0), (1, .int (nI k)), (2, .int (nI i))] [] _
  refine ev_aload_n 0 dX4_told_0 rfl rfl ?_
  refine ev_iconst (nI 0) dX4_told_1 rfl ?_
  refine ev_putfield 8 dX4_told_2 fpX4_29 rfl (Nat.le_of_ble_eq_true rfl) (fun _ => rfl) (fun _ => rfl) (rz2 _ _ _ _ _) ?_
  refine ev_iload_n 1 dX4_told_5 rfl rfl ?_
  refine ev_cS1 (c4_isKind1 _ hk) kX4_isKind rfl g1162 rfl rfl dX4_told_6 ?_
  refine ev_if_eq 21 dX4_told_9 (by decide) (fun h9 => absurd h9 (by decide)) (fun h9 => ?_)
  refine ev_aload_n 0 dX4_told_12 rfl rfl ?_
  refine ev_getfield 0 dX4_told_13 foX4_7 rfl rfl ?_
  refine ev_iload_n 2 dX4_told_16 rfl rfl ?_
  refine ev_ild (i) dX4_told_17 rfl (by simp only [nI_m, nI_add, ix, oI]) (by omega) rfl ?_
  refine ev_goto 26 dX4_told_18 (by decide) ?_
  exact ev_ireturn dX4_told_26 (Nat.le_of_ble_eq_true rfl) ⟨rfl, rfl⟩
set_option maxHeartbeats 1000000 in
theorem p4_priceOf_1 (σ z : Nat → Int32) (Y : RY) (g : PW) {v : Int32} (h : inB v (nI 0) (nI 5) = false) : Ct mX4_priceOf [.ref 0, .int v] (rw9 σ z Y g) (d1 (some (.int (nI 0))) (rw9 σ (upd (upd z 2 (nI 0)) 2 (nI 1)) Y g)) nx := by
  refine ct_of 1 kX4_priceOf.1 rfl (Nat.le_of_ble_eq_true rfl) (fun v u h => by obtain ⟨rfl, rfl⟩ := h; exact rfl) ?_
  show Ev _ _ _ 0 0 [(0, .ref 0), (1, .int v)] [] _
  refine ev_aload_n 0 dX4_priceOf_0 rfl rfl ?_
  refine ev_iload_n 1 dX4_priceOf_1 rfl rfl ?_
  refine ev_iload_n 1 dX4_priceOf_2 rfl rfl ?_
  refine ev_cS1 (c4_isKind0 _ h) kX4_isKind rfl g1162 rfl rfl dX4_priceOf_3 ?_
  refine ev_if_eq 13 dX4_priceOf_6 (by decide) (fun h6 => ?_) (fun h6 => absurd (by decide) h6)
  refine ev_iconst (nI 0) dX4_priceOf_13 rfl ?_
  refine ev_cV2 (c4_told_1 _ _ _ _ _ h) kX4_told rfl g1403 rfl rfl rfl rfl dX4_priceOf_14 ?_
  exact ev_ireturn dX4_priceOf_17 (Nat.le_of_ble_eq_true rfl) ⟨rfl, rfl⟩
set_option maxHeartbeats 1000000 in
theorem p4_priceOf_0 (σ z : Nat → Int32) (Y : RY) (g : PW) {k : Nat} (hk : k < 6) : Ct mX4_priceOf [.ref 0, .int (nI k)] (rw9 σ z Y g) (d1 (some (.int (σ (k)))) (rw9 σ (upd z 2 (nI 0)) Y g)) nx := by
  refine ct_of 1 kX4_priceOf.1 rfl (Nat.le_of_ble_eq_true rfl) (fun v u h => by obtain ⟨rfl, rfl⟩ := h; exact rfl) ?_
  show Ev _ _ _ 0 0 [(0, .ref 0), (1, .int (nI k))] [] _
  refine ev_aload_n 0 dX4_priceOf_0 rfl rfl ?_
  refine ev_iload_n 1 dX4_priceOf_1 rfl rfl ?_
  refine ev_iload_n 1 dX4_priceOf_2 rfl rfl ?_
  refine ev_cS1 (c4_isKind1 _ hk) kX4_isKind rfl g1162 rfl rfl dX4_priceOf_3 ?_
  refine ev_if_eq 13 dX4_priceOf_6 (by decide) (fun h6 => absurd h6 (by decide)) (fun h6 => ?_)
  refine ev_iload_n 1 dX4_priceOf_9 rfl rfl ?_
  refine ev_goto 14 dX4_priceOf_10 (by decide) ?_
  refine ev_cV2 (c4_told_0 _ _ _ _ (by omega) hk) kX4_told rfl g1403 rfl rfl rfl rfl dX4_priceOf_14 ?_
  exact ev_ireturn dX4_priceOf_17 (Nat.le_of_ble_eq_true rfl) ⟨rfl, rfl⟩
set_option maxHeartbeats 1000000 in
theorem p4_cutOf_1 (σ z : Nat → Int32) (Y : RY) (g : PW) {v : Int32} (h : inB v (nI 0) (nI 5) = false) : Ct mX4_cutOf [.ref 0, .int v] (rw9 σ z Y g) (d1 (some (.int (nI 0))) (rw9 σ (upd (upd z 2 (nI 0)) 2 (nI 1)) Y g)) nx := by
  refine ct_of 1 kX4_cutOf.1 rfl (Nat.le_of_ble_eq_true rfl) (fun v u h => by obtain ⟨rfl, rfl⟩ := h; exact rfl) ?_
  show Ev _ _ _ 0 0 [(0, .ref 0), (1, .int v)] [] _
  refine ev_aload_n 0 dX4_cutOf_0 rfl rfl ?_
  refine ev_iload_n 1 dX4_cutOf_1 rfl rfl ?_
  refine ev_iload_n 1 dX4_cutOf_2 rfl rfl ?_
  refine ev_cS1 (c4_isKind0 _ h) kX4_isKind rfl g1162 rfl rfl dX4_cutOf_3 ?_
  refine ev_if_eq 16 dX4_cutOf_6 (by decide) (fun h6 => ?_) (fun h6 => absurd (by decide) h6)
  refine ev_iconst (nI 0) dX4_cutOf_16 rfl ?_
  refine ev_cV2 (c4_told_1 _ _ _ _ _ h) kX4_told rfl g1403 rfl rfl rfl rfl dX4_cutOf_17 ?_
  exact ev_ireturn dX4_cutOf_20 (Nat.le_of_ble_eq_true rfl) ⟨rfl, rfl⟩
set_option maxHeartbeats 1000000 in
theorem p4_cutOf_0 (σ z : Nat → Int32) (Y : RY) (g : PW) {k : Nat} (hk : k < 6) : Ct mX4_cutOf [.ref 0, .int (nI k)] (rw9 σ z Y g) (d1 (some (.int (σ (6 + k)))) (rw9 σ (upd z 2 (nI 0)) Y g)) nx := by
  refine ct_of 1 kX4_cutOf.1 rfl (Nat.le_of_ble_eq_true rfl) (fun v u h => by obtain ⟨rfl, rfl⟩ := h; exact rfl) ?_
  show Ev _ _ _ 0 0 [(0, .ref 0), (1, .int (nI k))] [] _
  refine ev_aload_n 0 dX4_cutOf_0 rfl rfl ?_
  refine ev_iload_n 1 dX4_cutOf_1 rfl rfl ?_
  refine ev_iload_n 1 dX4_cutOf_2 rfl rfl ?_
  refine ev_cS1 (c4_isKind1 _ hk) kX4_isKind rfl g1162 rfl rfl dX4_cutOf_3 ?_
  refine ev_if_eq 16 dX4_cutOf_6 (by decide) (fun h6 => absurd h6 (by decide)) (fun h6 => ?_)
  refine ev_bipush (nI 6) dX4_cutOf_9 rfl ?_
  refine ev_iload_n 1 dX4_cutOf_11 rfl rfl ?_
  refine ev_iadd dX4_cutOf_12 ?_
  refine ev_top (nI (6 + k)) (nI_add _ k) ?_
  refine ev_goto 17 dX4_cutOf_13 (by decide) ?_
  refine ev_cV2 (c4_told_0 _ _ _ _ (by omega) hk) kX4_told rfl g1403 rfl rfl rfl rfl dX4_cutOf_17 ?_
  exact ev_ireturn dX4_cutOf_20 (Nat.le_of_ble_eq_true rfl) ⟨rfl, rfl⟩
set_option maxHeartbeats 1000000 in
theorem p4_soldOf_1 (σ z : Nat → Int32) (Y : RY) (g : PW) {v : Int32} (h : inB v (nI 0) (nI 5) = false) : Ct mX4_soldOf [.ref 0, .int v] (rw9 σ z Y g) (d1 (some (.int (nI 0))) (rw9 σ (upd (upd z 2 (nI 0)) 2 (nI 1)) Y g)) nx := by
  refine ct_of 1 kX4_soldOf.1 rfl (Nat.le_of_ble_eq_true rfl) (fun v u h => by obtain ⟨rfl, rfl⟩ := h; exact rfl) ?_
  show Ev _ _ _ 0 0 [(0, .ref 0), (1, .int v)] [] _
  refine ev_aload_n 0 dX4_soldOf_0 rfl rfl ?_
  refine ev_iload_n 1 dX4_soldOf_1 rfl rfl ?_
  refine ev_iload_n 1 dX4_soldOf_2 rfl rfl ?_
  refine ev_cS1 (c4_isKind0 _ h) kX4_isKind rfl g1162 rfl rfl dX4_soldOf_3 ?_
  refine ev_if_eq 16 dX4_soldOf_6 (by decide) (fun h6 => ?_) (fun h6 => absurd (by decide) h6)
  refine ev_iconst (nI 0) dX4_soldOf_16 rfl ?_
  refine ev_cV2 (c4_told_1 _ _ _ _ _ h) kX4_told rfl g1403 rfl rfl rfl rfl dX4_soldOf_17 ?_
  exact ev_ireturn dX4_soldOf_20 (Nat.le_of_ble_eq_true rfl) ⟨rfl, rfl⟩
set_option maxHeartbeats 1000000 in
theorem p4_soldOf_0 (σ z : Nat → Int32) (Y : RY) (g : PW) {k : Nat} (hk : k < 6) : Ct mX4_soldOf [.ref 0, .int (nI k)] (rw9 σ z Y g) (d1 (some (.int (σ (12 + k)))) (rw9 σ (upd z 2 (nI 0)) Y g)) nx := by
  refine ct_of 1 kX4_soldOf.1 rfl (Nat.le_of_ble_eq_true rfl) (fun v u h => by obtain ⟨rfl, rfl⟩ := h; exact rfl) ?_
  show Ev _ _ _ 0 0 [(0, .ref 0), (1, .int (nI k))] [] _
  refine ev_aload_n 0 dX4_soldOf_0 rfl rfl ?_
  refine ev_iload_n 1 dX4_soldOf_1 rfl rfl ?_
  refine ev_iload_n 1 dX4_soldOf_2 rfl rfl ?_
  refine ev_cS1 (c4_isKind1 _ hk) kX4_isKind rfl g1162 rfl rfl dX4_soldOf_3 ?_
  refine ev_if_eq 16 dX4_soldOf_6 (by decide) (fun h6 => absurd h6 (by decide)) (fun h6 => ?_)
  refine ev_bipush (nI 12) dX4_soldOf_9 rfl ?_
  refine ev_iload_n 1 dX4_soldOf_11 rfl rfl ?_
  refine ev_iadd dX4_soldOf_12 ?_
  refine ev_top (nI (12 + k)) (nI_add _ k) ?_
  refine ev_goto 17 dX4_soldOf_13 (by decide) ?_
  refine ev_cV2 (c4_told_0 _ _ _ _ (by omega) hk) kX4_told rfl g1403 rfl rfl rfl rfl dX4_soldOf_17 ?_
  exact ev_ireturn dX4_soldOf_20 (Nat.le_of_ble_eq_true rfl) ⟨rfl, rfl⟩
set_option maxHeartbeats 1000000 in
theorem c4_pledged (σ z : Nat → Int32) (Y : RY) (g : PW) {k : Nat} (hk : k < 6) : Ct mX4_pledged [.ref 0, .int (nI k)] (rw9 σ z Y g) (d1 (some (.int (pldS σ k 8))) (rw9 σ z Y g)) nx := by
  refine ct_of 1 kX4_pledged.1 rfl (Nat.le_of_ble_eq_true rfl) (fun v u h => by obtain ⟨rfl, rfl⟩ := h; exact rfl) ?_
  show Ev _ _ _ 0 0 [(0, .ref 0), (1, .int (nI k))] [] _
  refine ev_iconst (nI 0) dX4_pledged_0 rfl ?_
  refine ev_istore_n 2 dX4_pledged_1 rfl (Nat.le_of_ble_eq_true rfl) rfl ?_
  refine ev_iconst (nI 0) dX4_pledged_2 rfl ?_
  refine ev_istore_n 3 dX4_pledged_3 rfl (Nat.le_of_ble_eq_true rfl) rfl ?_
  suffices H : ∀ fu j, j + fu = 8 → Ev mX4_pledged (d1 (some (.int (pldS σ k 8))) (rw9 σ z Y g)) nx 0 4 [(3, .int (nI (j))), (2, .int (pldS σ k (j))), (0, .ref 0), (1, .int (nI k))] [] ((rw9 σ z Y g)) from ev_sub [0, 1, 2, 3] rfl (H 8 0 (Nat.zero_add _))
  intro fu
  induction fu with
  | zero =>
    intro j hj
    obtain rfl : 8 = j := by omega
    refine ev_iload_n 3 dX4_pledged_4 rfl rfl ?_
    refine ev_bipush (nI 8) dX4_pledged_5 rfl ?_
    refine ev_icmp_ge 25 dX4_pledged_7 (by decide) (fun h7 => ?_) (fun h7 => absurd (nI_le (Nat.le_refl 8) (by omega)) h7)
    refine ev_iload_n 2 dX4_pledged_25 rfl rfl ?_
    exact ev_ireturn dX4_pledged_26 (Nat.le_of_ble_eq_true rfl) ⟨rfl, rfl⟩
  | succ fu ih =>
    intro j hj
    have hj6 : j < 8 := by omega
    refine ev_iload_n 3 dX4_pledged_4 rfl rfl ?_
    refine ev_bipush (nI 8) dX4_pledged_5 rfl ?_
    refine ev_icmp_ge 25 dX4_pledged_7 (by decide) (fun h7 => absurd h7 (nI_ge hj6 (by omega))) (fun h7 => ?_)
    refine ev_iload_n 2 dX4_pledged_10 rfl rfl ?_
    refine ev_aload_n 0 dX4_pledged_11 rfl rfl ?_
    refine ev_iload_n 3 dX4_pledged_12 rfl rfl ?_
    refine ev_iload_n 1 dX4_pledged_13 rfl rfl ?_
    refine ev_cV2 (c4_of _ _ _ _ (by omega) (by omega)) kX4_of rfl g1188 rfl rfl rfl rfl dX4_pledged_14 ?_
    refine ev_iadd dX4_pledged_17 ?_
    refine ev_istore_n 2 dX4_pledged_18 rfl (Nat.le_of_ble_eq_true rfl) rfl ?_
    refine ev_iinc (nI (j + 1)) dX4_pledged_19 rfl (nI_1 j) (Nat.le_of_ble_eq_true rfl) rfl ?_
    refine ev_goto 4 dX4_pledged_22 (by decide) ?_
    exact ev_sub [0, 1, 2, 3] rfl (ih (j + 1) (by omega))
set_option maxHeartbeats 1000000 in
theorem p4_pledgedOf_1 (σ z : Nat → Int32) (Y : RY) (g : PW) {v : Int32} (h : inB v (nI 0) (nI 5) = false) : Ct mX4_pledgedOf [.ref 0, .int v] (rw9 σ z Y g) (d1 (some (.int (nI 0))) (rw9 σ (upd (upd z 2 (nI 0)) 2 (nI 1)) Y g)) nx := by
  refine ct_of 1 kX4_pledgedOf.1 rfl (Nat.le_of_ble_eq_true rfl) (fun v u h => by obtain ⟨rfl, rfl⟩ := h; exact rfl) ?_
  show Ev _ _ _ 0 0 [(0, .ref 0), (1, .int v)] [] _
  refine ev_aload_n 0 dX4_pledgedOf_0 rfl rfl ?_
  refine ev_iconst (nI 0) dX4_pledgedOf_1 rfl ?_
  refine ev_putfield 8 dX4_pledgedOf_2 fpX4_29 rfl (Nat.le_of_ble_eq_true rfl) (fun _ => rfl) (fun _ => rfl) (rz2 _ _ _ _ _) ?_
  refine ev_iload_n 1 dX4_pledgedOf_5 rfl rfl ?_
  refine ev_cS1 (c4_isKind0 _ h) kX4_isKind rfl g1162 rfl rfl dX4_pledgedOf_6 ?_
  refine ev_if_eq 20 dX4_pledgedOf_9 (by decide) (fun h9 => ?_) (fun h9 => absurd (by decide) h9)
  refine ev_aload_n 0 dX4_pledgedOf_20 rfl rfl ?_
  refine ev_iconst (nI 1) dX4_pledgedOf_21 rfl ?_
  refine ev_cV1 (c4_throwing _ _ _ _ _) kX4_throwing rfl g1172 rfl rfl rfl rfl dX4_pledgedOf_22 ?_
  exact ev_ireturn dX4_pledgedOf_25 (Nat.le_of_ble_eq_true rfl) ⟨rfl, rfl⟩
set_option maxHeartbeats 1000000 in
theorem p4_pledgedOf_0 (σ z : Nat → Int32) (Y : RY) (g : PW) {k : Nat} (hk : k < 6) : Ct mX4_pledgedOf [.ref 0, .int (nI k)] (rw9 σ z Y g) (d1 (some (.int (pldS σ k 8))) (rw9 σ (upd z 2 (nI 0)) Y g)) nx := by
  refine ct_of 1 kX4_pledgedOf.1 rfl (Nat.le_of_ble_eq_true rfl) (fun v u h => by obtain ⟨rfl, rfl⟩ := h; exact rfl) ?_
  show Ev _ _ _ 0 0 [(0, .ref 0), (1, .int (nI k))] [] _
  refine ev_aload_n 0 dX4_pledgedOf_0 rfl rfl ?_
  refine ev_iconst (nI 0) dX4_pledgedOf_1 rfl ?_
  refine ev_putfield 8 dX4_pledgedOf_2 fpX4_29 rfl (Nat.le_of_ble_eq_true rfl) (fun _ => rfl) (fun _ => rfl) (rz2 _ _ _ _ _) ?_
  refine ev_iload_n 1 dX4_pledgedOf_5 rfl rfl ?_
  refine ev_cS1 (c4_isKind1 _ hk) kX4_isKind rfl g1162 rfl rfl dX4_pledgedOf_6 ?_
  refine ev_if_eq 20 dX4_pledgedOf_9 (by decide) (fun h9 => absurd h9 (by decide)) (fun h9 => ?_)
  refine ev_aload_n 0 dX4_pledgedOf_12 rfl rfl ?_
  refine ev_iload_n 1 dX4_pledgedOf_13 rfl rfl ?_
  refine ev_cV1 (c4_pledged _ _ _ _ (by omega)) kX4_pledged rfl g1415 rfl rfl rfl rfl dX4_pledgedOf_14 ?_
  refine ev_goto 25 dX4_pledgedOf_17 (by decide) ?_
  exact ev_ireturn dX4_pledgedOf_25 (Nat.le_of_ble_eq_true rfl) ⟨rfl, rfl⟩
set_option maxHeartbeats 1000000 in
theorem p4_piecesOf_1 (σ z : Nat → Int32) (Y : RY) (g : PW) {p q : Int32} (h : (inB p (nI 0) (nI 7) && inB q (nI 0) (nI 5)) = false) : Ct mX4_piecesOf [.ref 0, .int p, .int q] (rw9 σ z Y g) (d1 (some (.int (nI 0))) (rw9 σ (upd z 2 (nI 1)) Y g)) nx := by
  refine ct_of 2 kX4_piecesOf.1 rfl (Nat.le_of_ble_eq_true rfl) (fun v u h => by obtain ⟨rfl, rfl⟩ := h; exact rfl) ?_
  show Ev _ _ _ 0 0 [(0, .ref 0), (1, .int p), (2, .int q)] [] _
  refine ev_aload_n 0 dX4_piecesOf_0 rfl rfl ?_
  refine ev_iload_n 1 dX4_piecesOf_1 rfl rfl ?_
  refine ev_iload_n 2 dX4_piecesOf_2 rfl rfl ?_
  refine ev_cV2 (c4_are0 _ _ _ _ h) kX4_areThere rfl g1224 rfl rfl rfl rfl dX4_piecesOf_3 ?_
  refine ev_if_eq 18 dX4_piecesOf_6 (by decide) (fun h6 => ?_) (fun h6 => absurd (by decide) h6)
  refine ev_iconst (nI 0) dX4_piecesOf_18 rfl ?_
  exact ev_ireturn dX4_piecesOf_19 (Nat.le_of_ble_eq_true rfl) ⟨rfl, rfl⟩
set_option maxHeartbeats 1000000 in
theorem p4_piecesOf_0 (σ z : Nat → Int32) (Y : RY) (g : PW) {c k : Nat} (hc : c < 8) (hk : k < 6) : Ct mX4_piecesOf [.ref 0, .int (nI c), .int (nI k)] (rw9 σ z Y g) (d1 (some (.int (σ (ix c k)))) (rw9 σ (upd z 2 (nI 0)) Y g)) nx := by
  refine ct_of 2 kX4_piecesOf.1 rfl (Nat.le_of_ble_eq_true rfl) (fun v u h => by obtain ⟨rfl, rfl⟩ := h; exact rfl) ?_
  show Ev _ _ _ 0 0 [(0, .ref 0), (1, .int (nI c)), (2, .int (nI k))] [] _
  refine ev_aload_n 0 dX4_piecesOf_0 rfl rfl ?_
  refine ev_iload_n 1 dX4_piecesOf_1 rfl rfl ?_
  refine ev_iload_n 2 dX4_piecesOf_2 rfl rfl ?_
  refine ev_cV2 (c4_are1 _ _ _ _ hc hk) kX4_areThere rfl g1224 rfl rfl rfl rfl dX4_piecesOf_3 ?_
  refine ev_if_eq 18 dX4_piecesOf_6 (by decide) (fun h6 => absurd h6 (by decide)) (fun h6 => ?_)
  refine ev_aload_n 0 dX4_piecesOf_9 rfl rfl ?_
  refine ev_iload_n 1 dX4_piecesOf_10 rfl rfl ?_
  refine ev_iload_n 2 dX4_piecesOf_11 rfl rfl ?_
  refine ev_cV2 (c4_of _ _ _ _ (by omega) (by omega)) kX4_of rfl g1188 rfl rfl rfl rfl dX4_piecesOf_12 ?_
  refine ev_goto 19 dX4_piecesOf_15 (by decide) ?_
  exact ev_ireturn dX4_piecesOf_19 (Nat.le_of_ble_eq_true rfl) ⟨rfl, rfl⟩
set_option maxHeartbeats 1000000 in
theorem c4_worth (σ z : Nat → Int32) (Y : RY) (g : PW) {c : Nat} (hc : c < 8) : Ct mX4_worth [.ref 0, .int (nI c)] (rw9 σ z Y g) (d1 (some (.int (worS σ c 6))) (rw9 σ z Y g)) nx := by
  refine ct_of 1 kX4_worth.1 rfl (Nat.le_of_ble_eq_true rfl) (fun v u h => by obtain ⟨rfl, rfl⟩ := h; exact rfl) ?_
  show Ev _ _ _ 0 0 [(0, .ref 0), (1, .int (nI c))] [] _
  refine ev_aload_n 0 dX4_worth_0 rfl rfl ?_
  refine ev_iload_n 1 dX4_worth_1 rfl rfl ?_
  refine ev_bipush (nI 6) dX4_worth_2 rfl ?_
  refine ev_cV2 (c4_of _ _ _ _ (by omega) (by omega)) kX4_of rfl g1188 rfl rfl rfl rfl dX4_worth_4 ?_
  refine ev_istore_n 2 dX4_worth_7 rfl (Nat.le_of_ble_eq_true rfl) rfl ?_
  refine ev_iconst (nI 0) dX4_worth_8 rfl ?_
  refine ev_istore_n 3 dX4_worth_9 rfl (Nat.le_of_ble_eq_true rfl) rfl ?_
  suffices H : ∀ fu j, j + fu = 6 → Ev mX4_worth (d1 (some (.int (worS σ c 6))) (rw9 σ z Y g)) nx 0 10 [(3, .int (nI (j))), (2, .int (worS σ c (j))), (0, .ref 0), (1, .int (nI c))] [] ((rw9 σ z Y g)) from ev_sub [0, 1, 2, 3] rfl (H 6 0 (Nat.zero_add _))
  intro fu
  induction fu with
  | zero =>
    intro j hj
    obtain rfl : 6 = j := by omega
    refine ev_iload_n 3 dX4_worth_10 rfl rfl ?_
    refine ev_bipush (nI 6) dX4_worth_11 rfl ?_
    refine ev_icmp_ge 38 dX4_worth_13 (by decide) (fun h13 => ?_) (fun h13 => absurd (nI_le (Nat.le_refl 6) (by omega)) h13)
    refine ev_iload_n 2 dX4_worth_38 rfl rfl ?_
    exact ev_ireturn dX4_worth_39 (Nat.le_of_ble_eq_true rfl) ⟨rfl, rfl⟩
  | succ fu ih =>
    intro j hj
    have hj6 : j < 6 := by omega
    refine ev_iload_n 3 dX4_worth_10 rfl rfl ?_
    refine ev_bipush (nI 6) dX4_worth_11 rfl ?_
    refine ev_icmp_ge 38 dX4_worth_13 (by decide) (fun h13 => absurd h13 (nI_ge hj6 (by omega))) (fun h13 => ?_)
    refine ev_iload_n 2 dX4_worth_16 rfl rfl ?_
    refine ev_aload_n 0 dX4_worth_17 rfl rfl ?_
    refine ev_iload_n 1 dX4_worth_18 rfl rfl ?_
    refine ev_iload_n 3 dX4_worth_19 rfl rfl ?_
    refine ev_cV2 (c4_of _ _ _ _ (by omega) (by omega)) kX4_of rfl g1188 rfl rfl rfl rfl dX4_worth_20 ?_
    refine ev_aload_n 0 dX4_worth_23 rfl rfl ?_
    refine ev_getfield 0 dX4_worth_24 foX4_7 rfl rfl ?_
    refine ev_iload_n 3 dX4_worth_27 rfl rfl ?_
    refine ev_ild (j) dX4_worth_28 rfl (by simp only [nI_m, nI_add, ix, oI]) (by omega) rfl ?_
    refine ev_imul dX4_worth_29 ?_
    refine ev_iadd dX4_worth_30 ?_
    refine ev_istore_n 2 dX4_worth_31 rfl (Nat.le_of_ble_eq_true rfl) rfl ?_
    refine ev_iinc (nI (j + 1)) dX4_worth_32 rfl (nI_1 j) (Nat.le_of_ble_eq_true rfl) rfl ?_
    refine ev_goto 10 dX4_worth_35 (by decide) ?_
    exact ev_sub [0, 1, 2, 3] rfl (ih (j + 1) (by omega))
set_option maxHeartbeats 1000000 in
theorem c4_room (σ z : Nat → Int32) (Y : RY) (g : PW) {c : Nat} (hc : c < 8) : Ct mX4_room [.ref 0, .int (nI c)] (rw9 σ z Y g) (d1 (some (.int (romS σ c))) (rw9 σ z Y g)) nx := by
  refine ct_of 1 kX4_room.1 rfl (Nat.le_of_ble_eq_true rfl) (fun v u h => by obtain ⟨rfl, rfl⟩ := h; exact rfl) ?_
  show Ev _ _ _ 0 0 [(0, .ref 0), (1, .int (nI c))] [] _
  refine ev_aload_n 0 dX4_room_0 rfl rfl ?_
  refine ev_iload_n 1 dX4_room_1 rfl rfl ?_
  refine ev_cV1 (c4_cover _ _ _ _ (by omega)) kX4_cover rfl g1192 rfl rfl rfl rfl dX4_room_2 ?_
  refine ev_aload_n 0 dX4_room_5 rfl rfl ?_
  refine ev_iload_n 1 dX4_room_6 rfl rfl ?_
  refine ev_bipush (nI 7) dX4_room_7 rfl ?_
  refine ev_cV2 (c4_of _ _ _ _ (by omega) (by omega)) kX4_of rfl g1188 rfl rfl rfl rfl dX4_room_9 ?_
  refine ev_isub dX4_room_12 ?_
  refine ev_istore_n 2 dX4_room_13 rfl (Nat.le_of_ble_eq_true rfl) rfl ?_
  refine ev_iload_n 2 dX4_room_14 rfl rfl ?_
  refine ev_if_lt 29 dX4_room_15 (by decide) (fun h15 => ?_) (fun h15 => ?_)
  · refine ev_iconst (nI 0) dX4_room_29 rfl ?_
    refine ev_goto 34 dX4_room_30 (by decide) ?_
    exact ev_ireturn dX4_room_34 (Nat.le_of_ble_eq_true rfl) ⟨by first | exact congrArg (fun q => some (Value.int q)) (if_pos (Or.inl h15)).symm | exact congrArg (fun q => some (Value.int q)) (if_pos (Or.inr h26)).symm | exact congrArg (fun q => some (Value.int q)) (if_neg (fun h => h.elim h15 h26)).symm, rfl⟩
  · refine ev_aload_n 0 dX4_room_18 rfl rfl ?_
    refine ev_iload_n 1 dX4_room_19 rfl rfl ?_
    refine ev_bipush (nI 9) dX4_room_20 rfl ?_
    refine ev_cV2 (c4_of _ _ _ _ (by omega) (by omega)) kX4_of rfl g1188 rfl rfl rfl rfl dX4_room_22 ?_
    refine ev_iconst (nI 1) dX4_room_25 rfl ?_
    refine ev_icmp_ne 33 dX4_room_26 (by decide) (fun h26 => ?_) (fun h26 => ?_)
    · refine ev_iload_n 2 dX4_room_33 rfl rfl ?_
      exact ev_ireturn dX4_room_34 (Nat.le_of_ble_eq_true rfl) ⟨by first | exact congrArg (fun q => some (Value.int q)) (if_pos (Or.inl h15)).symm | exact congrArg (fun q => some (Value.int q)) (if_pos (Or.inr h26)).symm | exact congrArg (fun q => some (Value.int q)) (if_neg (fun h => h.elim h15 h26)).symm, rfl⟩
    · refine ev_iconst (nI 0) dX4_room_29 rfl ?_
      refine ev_goto 34 dX4_room_30 (by decide) ?_
      exact ev_ireturn dX4_room_34 (Nat.le_of_ble_eq_true rfl) ⟨by first | exact congrArg (fun q => some (Value.int q)) (if_pos (Or.inl h15)).symm | exact congrArg (fun q => some (Value.int q)) (if_pos (Or.inr h26)).symm | exact congrArg (fun q => some (Value.int q)) (if_neg (fun h => h.elim h15 h26)).symm, rfl⟩
set_option maxHeartbeats 1000000 in
theorem p4_coinsOf_1 (σ z : Nat → Int32) (Y : RY) (g : PW) {p : Int32} (h : inB p (nI 0) (nI 7) = false) : Ct mX4_coinsOf [.ref 0, .int p] (rw9 σ z Y g) (d1 (some (.int (nI 0))) (rw9 σ (upd z 2 (nI 1)) Y g)) nx := by
  refine ct_of 1 kX4_coinsOf.1 rfl (Nat.le_of_ble_eq_true rfl) (fun v u h => by obtain ⟨rfl, rfl⟩ := h; exact rfl) ?_
  show Ev _ _ _ 0 0 [(0, .ref 0), (1, .int p)] [] _
  refine ev_aload_n 0 dX4_coinsOf_0 rfl rfl ?_
  refine ev_iload_n 1 dX4_coinsOf_1 rfl rfl ?_
  refine ev_cV1 (c4_is0 _ _ _ _ h) kX4_isThere rfl g1251 rfl rfl rfl rfl dX4_coinsOf_2 ?_
  refine ev_if_eq 18 dX4_coinsOf_5 (by decide) (fun h5 => ?_) (fun h5 => absurd (by decide) h5)
  refine ev_iconst (nI 0) dX4_coinsOf_18 rfl ?_
  exact ev_ireturn dX4_coinsOf_19 (Nat.le_of_ble_eq_true rfl) ⟨rfl, rfl⟩
set_option maxHeartbeats 1000000 in
theorem p4_coinsOf_0 (σ z : Nat → Int32) (Y : RY) (g : PW) {c : Nat} (hc : c < 8) : Ct mX4_coinsOf [.ref 0, .int (nI c)] (rw9 σ z Y g) (d1 (some (.int (σ (ix c 6)))) (rw9 σ (upd z 2 (nI 0)) Y g)) nx := by
  refine ct_of 1 kX4_coinsOf.1 rfl (Nat.le_of_ble_eq_true rfl) (fun v u h => by obtain ⟨rfl, rfl⟩ := h; exact rfl) ?_
  show Ev _ _ _ 0 0 [(0, .ref 0), (1, .int (nI c))] [] _
  refine ev_aload_n 0 dX4_coinsOf_0 rfl rfl ?_
  refine ev_iload_n 1 dX4_coinsOf_1 rfl rfl ?_
  refine ev_cV1 (c4_is1 _ _ _ _ hc) kX4_isThere rfl g1251 rfl rfl rfl rfl dX4_coinsOf_2 ?_
  refine ev_if_eq 18 dX4_coinsOf_5 (by decide) (fun h5 => absurd h5 (by decide)) (fun h5 => ?_)
  refine ev_aload_n 0 dX4_coinsOf_8 rfl rfl ?_
  refine ev_iload_n 1 dX4_coinsOf_9 rfl rfl ?_
  refine ev_bipush (nI 6) dX4_coinsOf_10 rfl ?_
  refine ev_cV2 (c4_of _ _ _ _ (by omega) (by omega)) kX4_of rfl g1188 rfl rfl rfl rfl dX4_coinsOf_12 ?_
  refine ev_goto 19 dX4_coinsOf_15 (by decide) ?_
  exact ev_ireturn dX4_coinsOf_19 (Nat.le_of_ble_eq_true rfl) ⟨rfl, rfl⟩
set_option maxHeartbeats 1000000 in
theorem p4_debtOf_1 (σ z : Nat → Int32) (Y : RY) (g : PW) {p : Int32} (h : inB p (nI 0) (nI 7) = false) : Ct mX4_debtOf [.ref 0, .int p] (rw9 σ z Y g) (d1 (some (.int (nI 0))) (rw9 σ (upd z 2 (nI 1)) Y g)) nx := by
  refine ct_of 1 kX4_debtOf.1 rfl (Nat.le_of_ble_eq_true rfl) (fun v u h => by obtain ⟨rfl, rfl⟩ := h; exact rfl) ?_
  show Ev _ _ _ 0 0 [(0, .ref 0), (1, .int p)] [] _
  refine ev_aload_n 0 dX4_debtOf_0 rfl rfl ?_
  refine ev_iload_n 1 dX4_debtOf_1 rfl rfl ?_
  refine ev_cV1 (c4_is0 _ _ _ _ h) kX4_isThere rfl g1251 rfl rfl rfl rfl dX4_debtOf_2 ?_
  refine ev_if_eq 18 dX4_debtOf_5 (by decide) (fun h5 => ?_) (fun h5 => absurd (by decide) h5)
  refine ev_iconst (nI 0) dX4_debtOf_18 rfl ?_
  exact ev_ireturn dX4_debtOf_19 (Nat.le_of_ble_eq_true rfl) ⟨rfl, rfl⟩
set_option maxHeartbeats 1000000 in
theorem p4_debtOf_0 (σ z : Nat → Int32) (Y : RY) (g : PW) {c : Nat} (hc : c < 8) : Ct mX4_debtOf [.ref 0, .int (nI c)] (rw9 σ z Y g) (d1 (some (.int (σ (ix c 7)))) (rw9 σ (upd z 2 (nI 0)) Y g)) nx := by
  refine ct_of 1 kX4_debtOf.1 rfl (Nat.le_of_ble_eq_true rfl) (fun v u h => by obtain ⟨rfl, rfl⟩ := h; exact rfl) ?_
  show Ev _ _ _ 0 0 [(0, .ref 0), (1, .int (nI c))] [] _
  refine ev_aload_n 0 dX4_debtOf_0 rfl rfl ?_
  refine ev_iload_n 1 dX4_debtOf_1 rfl rfl ?_
  refine ev_cV1 (c4_is1 _ _ _ _ hc) kX4_isThere rfl g1251 rfl rfl rfl rfl dX4_debtOf_2 ?_
  refine ev_if_eq 18 dX4_debtOf_5 (by decide) (fun h5 => absurd h5 (by decide)) (fun h5 => ?_)
  refine ev_aload_n 0 dX4_debtOf_8 rfl rfl ?_
  refine ev_iload_n 1 dX4_debtOf_9 rfl rfl ?_
  refine ev_bipush (nI 7) dX4_debtOf_10 rfl ?_
  refine ev_cV2 (c4_of _ _ _ _ (by omega) (by omega)) kX4_of rfl g1188 rfl rfl rfl rfl dX4_debtOf_12 ?_
  refine ev_goto 19 dX4_debtOf_15 (by decide) ?_
  exact ev_ireturn dX4_debtOf_19 (Nat.le_of_ble_eq_true rfl) ⟨rfl, rfl⟩
set_option maxHeartbeats 1000000 in
theorem p4_worthOf_1 (σ z : Nat → Int32) (Y : RY) (g : PW) {p : Int32} (h : inB p (nI 0) (nI 7) = false) : Ct mX4_worthOf [.ref 0, .int p] (rw9 σ z Y g) (d1 (some (.int (nI 0))) (rw9 σ (upd z 2 (nI 1)) Y g)) nx := by
  refine ct_of 1 kX4_worthOf.1 rfl (Nat.le_of_ble_eq_true rfl) (fun v u h => by obtain ⟨rfl, rfl⟩ := h; exact rfl) ?_
  show Ev _ _ _ 0 0 [(0, .ref 0), (1, .int p)] [] _
  refine ev_aload_n 0 dX4_worthOf_0 rfl rfl ?_
  refine ev_iload_n 1 dX4_worthOf_1 rfl rfl ?_
  refine ev_cV1 (c4_is0 _ _ _ _ h) kX4_isThere rfl g1251 rfl rfl rfl rfl dX4_worthOf_2 ?_
  refine ev_if_eq 16 dX4_worthOf_5 (by decide) (fun h5 => ?_) (fun h5 => absurd (by decide) h5)
  refine ev_iconst (nI 0) dX4_worthOf_16 rfl ?_
  exact ev_ireturn dX4_worthOf_17 (Nat.le_of_ble_eq_true rfl) ⟨rfl, rfl⟩
set_option maxHeartbeats 1000000 in
theorem p4_worthOf_0 (σ z : Nat → Int32) (Y : RY) (g : PW) {c : Nat} (hc : c < 8) : Ct mX4_worthOf [.ref 0, .int (nI c)] (rw9 σ z Y g) (d1 (some (.int (worS σ c 6))) (rw9 σ (upd z 2 (nI 0)) Y g)) nx := by
  refine ct_of 1 kX4_worthOf.1 rfl (Nat.le_of_ble_eq_true rfl) (fun v u h => by obtain ⟨rfl, rfl⟩ := h; exact rfl) ?_
  show Ev _ _ _ 0 0 [(0, .ref 0), (1, .int (nI c))] [] _
  refine ev_aload_n 0 dX4_worthOf_0 rfl rfl ?_
  refine ev_iload_n 1 dX4_worthOf_1 rfl rfl ?_
  refine ev_cV1 (c4_is1 _ _ _ _ hc) kX4_isThere rfl g1251 rfl rfl rfl rfl dX4_worthOf_2 ?_
  refine ev_if_eq 16 dX4_worthOf_5 (by decide) (fun h5 => absurd h5 (by decide)) (fun h5 => ?_)
  refine ev_aload_n 0 dX4_worthOf_8 rfl rfl ?_
  refine ev_iload_n 1 dX4_worthOf_9 rfl rfl ?_
  refine ev_cV1 (c4_worth _ _ _ _ (by omega)) kX4_worth rfl g1439 rfl rfl rfl rfl dX4_worthOf_10 ?_
  refine ev_goto 17 dX4_worthOf_13 (by decide) ?_
  exact ev_ireturn dX4_worthOf_17 (Nat.le_of_ble_eq_true rfl) ⟨rfl, rfl⟩
set_option maxHeartbeats 1000000 in
theorem p4_coverOf_1 (σ z : Nat → Int32) (Y : RY) (g : PW) {p : Int32} (h : inB p (nI 0) (nI 7) = false) : Ct mX4_coverOf [.ref 0, .int p] (rw9 σ z Y g) (d1 (some (.int (nI 0))) (rw9 σ (upd z 2 (nI 1)) Y g)) nx := by
  refine ct_of 1 kX4_coverOf.1 rfl (Nat.le_of_ble_eq_true rfl) (fun v u h => by obtain ⟨rfl, rfl⟩ := h; exact rfl) ?_
  show Ev _ _ _ 0 0 [(0, .ref 0), (1, .int p)] [] _
  refine ev_aload_n 0 dX4_coverOf_0 rfl rfl ?_
  refine ev_iload_n 1 dX4_coverOf_1 rfl rfl ?_
  refine ev_cV1 (c4_is0 _ _ _ _ h) kX4_isThere rfl g1251 rfl rfl rfl rfl dX4_coverOf_2 ?_
  refine ev_if_eq 16 dX4_coverOf_5 (by decide) (fun h5 => ?_) (fun h5 => absurd (by decide) h5)
  refine ev_iconst (nI 0) dX4_coverOf_16 rfl ?_
  exact ev_ireturn dX4_coverOf_17 (Nat.le_of_ble_eq_true rfl) ⟨rfl, rfl⟩
set_option maxHeartbeats 1000000 in
theorem p4_coverOf_0 (σ z : Nat → Int32) (Y : RY) (g : PW) {c : Nat} (hc : c < 8) : Ct mX4_coverOf [.ref 0, .int (nI c)] (rw9 σ z Y g) (d1 (some (.int (covI σ c (nI 0) (nI 1)))) (rw9 σ (upd z 2 (nI 0)) Y g)) nx := by
  refine ct_of 1 kX4_coverOf.1 rfl (Nat.le_of_ble_eq_true rfl) (fun v u h => by obtain ⟨rfl, rfl⟩ := h; exact rfl) ?_
  show Ev _ _ _ 0 0 [(0, .ref 0), (1, .int (nI c))] [] _
  refine ev_aload_n 0 dX4_coverOf_0 rfl rfl ?_
  refine ev_iload_n 1 dX4_coverOf_1 rfl rfl ?_
  refine ev_cV1 (c4_is1 _ _ _ _ hc) kX4_isThere rfl g1251 rfl rfl rfl rfl dX4_coverOf_2 ?_
  refine ev_if_eq 16 dX4_coverOf_5 (by decide) (fun h5 => absurd h5 (by decide)) (fun h5 => ?_)
  refine ev_aload_n 0 dX4_coverOf_8 rfl rfl ?_
  refine ev_iload_n 1 dX4_coverOf_9 rfl rfl ?_
  refine ev_cV1 (c4_cover _ _ _ _ (by omega)) kX4_cover rfl g1192 rfl rfl rfl rfl dX4_coverOf_10 ?_
  refine ev_goto 17 dX4_coverOf_13 (by decide) ?_
  exact ev_ireturn dX4_coverOf_17 (Nat.le_of_ble_eq_true rfl) ⟨rfl, rfl⟩
set_option maxHeartbeats 1000000 in
theorem p4_roomOf_1 (σ z : Nat → Int32) (Y : RY) (g : PW) {p : Int32} (h : inB p (nI 0) (nI 7) = false) : Ct mX4_roomOf [.ref 0, .int p] (rw9 σ z Y g) (d1 (some (.int (nI 0))) (rw9 σ (upd z 2 (nI 1)) Y g)) nx := by
  refine ct_of 1 kX4_roomOf.1 rfl (Nat.le_of_ble_eq_true rfl) (fun v u h => by obtain ⟨rfl, rfl⟩ := h; exact rfl) ?_
  show Ev _ _ _ 0 0 [(0, .ref 0), (1, .int p)] [] _
  refine ev_aload_n 0 dX4_roomOf_0 rfl rfl ?_
  refine ev_iload_n 1 dX4_roomOf_1 rfl rfl ?_
  refine ev_cV1 (c4_is0 _ _ _ _ h) kX4_isThere rfl g1251 rfl rfl rfl rfl dX4_roomOf_2 ?_
  refine ev_if_eq 16 dX4_roomOf_5 (by decide) (fun h5 => ?_) (fun h5 => absurd (by decide) h5)
  refine ev_iconst (nI 0) dX4_roomOf_16 rfl ?_
  exact ev_ireturn dX4_roomOf_17 (Nat.le_of_ble_eq_true rfl) ⟨rfl, rfl⟩
set_option maxHeartbeats 1000000 in
theorem p4_roomOf_0 (σ z : Nat → Int32) (Y : RY) (g : PW) {c : Nat} (hc : c < 8) : Ct mX4_roomOf [.ref 0, .int (nI c)] (rw9 σ z Y g) (d1 (some (.int (romS σ c))) (rw9 σ (upd z 2 (nI 0)) Y g)) nx := by
  refine ct_of 1 kX4_roomOf.1 rfl (Nat.le_of_ble_eq_true rfl) (fun v u h => by obtain ⟨rfl, rfl⟩ := h; exact rfl) ?_
  show Ev _ _ _ 0 0 [(0, .ref 0), (1, .int (nI c))] [] _
  refine ev_aload_n 0 dX4_roomOf_0 rfl rfl ?_
  refine ev_iload_n 1 dX4_roomOf_1 rfl rfl ?_
  refine ev_cV1 (c4_is1 _ _ _ _ hc) kX4_isThere rfl g1251 rfl rfl rfl rfl dX4_roomOf_2 ?_
  refine ev_if_eq 16 dX4_roomOf_5 (by decide) (fun h5 => absurd h5 (by decide)) (fun h5 => ?_)
  refine ev_aload_n 0 dX4_roomOf_8 rfl rfl ?_
  refine ev_iload_n 1 dX4_roomOf_9 rfl rfl ?_
  refine ev_cV1 (c4_room _ _ _ _ (by omega)) kX4_room rfl g1451 rfl rfl rfl rfl dX4_roomOf_10 ?_
  refine ev_goto 17 dX4_roomOf_13 (by decide) ?_
  exact ev_ireturn dX4_roomOf_17 (Nat.le_of_ble_eq_true rfl) ⟨rfl, rfl⟩
set_option maxHeartbeats 1000000 in
theorem p4_isCalled_1 (σ z : Nat → Int32) (Y : RY) (g : PW) {p : Int32} (h : inB p (nI 0) (nI 7) = false) : Ct mX4_isCalled [.ref 0, .int p] (rw9 σ z Y g) (d1 (some (.int (bI false))) (rw9 σ (upd z 2 (nI 1)) Y g)) nx := by
  refine ct_of 1 kX4_isCalled.1 rfl (Nat.le_of_ble_eq_true rfl) (fun v u h => by obtain ⟨rfl, rfl⟩ := h; exact bI_nar _) ?_
  show Ev _ _ _ 0 0 [(0, .ref 0), (1, .int p)] [] _
  refine ev_aload_n 0 dX4_isCalled_0 rfl rfl ?_
  refine ev_iload_n 1 dX4_isCalled_1 rfl rfl ?_
  refine ev_cV1 (c4_is0 _ _ _ _ h) kX4_isThere rfl g1251 rfl rfl rfl rfl dX4_isCalled_2 ?_
  refine ev_if_eq 20 dX4_isCalled_5 (by decide) (fun h5 => ?_) (fun h5 => absurd (by decide) h5)
  refine ev_iconst (nI 0) dX4_isCalled_20 rfl ?_
  exact ev_ireturn dX4_isCalled_21 (Nat.le_of_ble_eq_true rfl) ⟨rfl, rfl⟩
set_option maxHeartbeats 1000000 in
theorem p4_isCalled_0 (σ z : Nat → Int32) (Y : RY) (g : PW) {c : Nat} (hc : c < 8) : Ct mX4_isCalled [.ref 0, .int (nI c)] (rw9 σ z Y g) (d1 (some (.int (bI (isK σ c)))) (rw9 σ (upd z 2 (nI 0)) Y g)) nx := by
  refine ct_of 1 kX4_isCalled.1 rfl (Nat.le_of_ble_eq_true rfl) (fun v u h => by obtain ⟨rfl, rfl⟩ := h; exact bI_nar _) ?_
  show Ev _ _ _ 0 0 [(0, .ref 0), (1, .int (nI c))] [] _
  refine ev_aload_n 0 dX4_isCalled_0 rfl rfl ?_
  refine ev_iload_n 1 dX4_isCalled_1 rfl rfl ?_
  refine ev_cV1 (c4_is1 _ _ _ _ hc) kX4_isThere rfl g1251 rfl rfl rfl rfl dX4_isCalled_2 ?_
  refine ev_if_eq 20 dX4_isCalled_5 (by decide) (fun h5 => absurd h5 (by decide)) (fun h5 => ?_)
  refine ev_aload_n 0 dX4_isCalled_8 rfl rfl ?_
  refine ev_iload_n 1 dX4_isCalled_9 rfl rfl ?_
  refine ev_cV1 (c4_called _ _ _ _ (by omega)) kX4_called rfl g1204 rfl rfl rfl rfl dX4_isCalled_10 ?_
  refine ev_if_eq 20 dX4_isCalled_13 (by decide) (fun h13 => ?_) (fun h13 => ?_)
  · refine ev_iconst (nI 0) dX4_isCalled_20 rfl ?_
    exact ev_ireturn dX4_isCalled_21 (Nat.le_of_ble_eq_true rfl) ⟨by first | rw [bI_1.mp h13]; rfl | rw [bI_0.mp h13]; rfl, rfl⟩
  · refine ev_iconst (nI 1) dX4_isCalled_16 rfl ?_
    refine ev_goto 21 dX4_isCalled_17 (by decide) ?_
    exact ev_ireturn dX4_isCalled_21 (Nat.le_of_ble_eq_true rfl) ⟨by first | rw [bI_1.mp h13]; rfl | rw [bI_0.mp h13]; rfl, rfl⟩
set_option maxHeartbeats 1000000 in
theorem p4_isBarred_1 (σ z : Nat → Int32) (Y : RY) (g : PW) {p : Int32} (h : inB p (nI 0) (nI 7) = false) : Ct mX4_isBarred [.ref 0, .int p] (rw9 σ z Y g) (d1 (some (.int (bI false))) (rw9 σ (upd z 2 (nI 1)) Y g)) nx := by
  refine ct_of 1 kX4_isBarred.1 rfl (Nat.le_of_ble_eq_true rfl) (fun v u h => by obtain ⟨rfl, rfl⟩ := h; exact bI_nar _) ?_
  show Ev _ _ _ 0 0 [(0, .ref 0), (1, .int p)] [] _
  refine ev_aload_n 0 dX4_isBarred_0 rfl rfl ?_
  refine ev_iload_n 1 dX4_isBarred_1 rfl rfl ?_
  refine ev_cV1 (c4_is0 _ _ _ _ h) kX4_isThere rfl g1251 rfl rfl rfl rfl dX4_isBarred_2 ?_
  refine ev_if_eq 23 dX4_isBarred_5 (by decide) (fun h5 => ?_) (fun h5 => absurd (by decide) h5)
  refine ev_iconst (nI 0) dX4_isBarred_23 rfl ?_
  exact ev_ireturn dX4_isBarred_24 (Nat.le_of_ble_eq_true rfl) ⟨rfl, rfl⟩
set_option maxHeartbeats 1000000 in
theorem p4_isBarred_0 (σ z : Nat → Int32) (Y : RY) (g : PW) {c : Nat} (hc : c < 8) : Ct mX4_isBarred [.ref 0, .int (nI c)] (rw9 σ z Y g) (d1 (some (.int (bI (decide (σ (ix c 9) = nI 1))))) (rw9 σ (upd z 2 (nI 0)) Y g)) nx := by
  refine ct_of 1 kX4_isBarred.1 rfl (Nat.le_of_ble_eq_true rfl) (fun v u h => by obtain ⟨rfl, rfl⟩ := h; exact bI_nar _) ?_
  show Ev _ _ _ 0 0 [(0, .ref 0), (1, .int (nI c))] [] _
  refine ev_aload_n 0 dX4_isBarred_0 rfl rfl ?_
  refine ev_iload_n 1 dX4_isBarred_1 rfl rfl ?_
  refine ev_cV1 (c4_is1 _ _ _ _ hc) kX4_isThere rfl g1251 rfl rfl rfl rfl dX4_isBarred_2 ?_
  refine ev_if_eq 23 dX4_isBarred_5 (by decide) (fun h5 => absurd h5 (by decide)) (fun h5 => ?_)
  refine ev_aload_n 0 dX4_isBarred_8 rfl rfl ?_
  refine ev_iload_n 1 dX4_isBarred_9 rfl rfl ?_
  refine ev_bipush (nI 9) dX4_isBarred_10 rfl ?_
  refine ev_cV2 (c4_of _ _ _ _ (by omega) (by omega)) kX4_of rfl g1188 rfl rfl rfl rfl dX4_isBarred_12 ?_
  refine ev_iconst (nI 1) dX4_isBarred_15 rfl ?_
  refine ev_icmp_ne 23 dX4_isBarred_16 (by decide) (fun h16 => ?_) (fun h16 => ?_)
  · refine ev_iconst (nI 0) dX4_isBarred_23 rfl ?_
    exact ev_ireturn dX4_isBarred_24 (Nat.le_of_ble_eq_true rfl) ⟨by first | (rw [show decide (σ (ix c 9) = nI 1) = false from decide_eq_false (h16)]; rfl) | (rw [show decide (σ (ix c 9) = nI 1) = true from decide_eq_true (h16)]; rfl), rfl⟩
  · refine ev_iconst (nI 1) dX4_isBarred_19 rfl ?_
    refine ev_goto 24 dX4_isBarred_20 (by decide) ?_
    exact ev_ireturn dX4_isBarred_24 (Nat.le_of_ble_eq_true rfl) ⟨by first | (rw [show decide (σ (ix c 9) = nI 1) = false from decide_eq_false (h16)]; rfl) | (rw [show decide (σ (ix c 9) = nI 1) = true from decide_eq_true (h16)]; rfl), rfl⟩
set_option maxHeartbeats 1000000 in
theorem p4_hoursLeft_1 (σ z : Nat → Int32) (Y : RY) (g : PW) {p : Int32} (h : inB p (nI 0) (nI 7) = false) : Ct mX4_hoursLeft [.ref 0, .int p] (rw9 σ z Y g) (d1 (some (.int (nI 0))) (rw9 σ (upd z 2 (nI 1)) Y g)) nx := by
  refine ct_of 1 kX4_hoursLeft.1 rfl (Nat.le_of_ble_eq_true rfl) (fun v u h => by obtain ⟨rfl, rfl⟩ := h; exact rfl) ?_
  show Ev _ _ _ 0 0 [(0, .ref 0), (1, .int p)] [] _
  refine ev_aload_n 0 dX4_hoursLeft_0 rfl rfl ?_
  refine ev_iload_n 1 dX4_hoursLeft_1 rfl rfl ?_
  refine ev_cV1 (c4_is0 _ _ _ _ h) kX4_isThere rfl g1251 rfl rfl rfl rfl dX4_hoursLeft_2 ?_
  refine ev_if_ne 10 dX4_hoursLeft_5 (by decide) (fun h5 => absurd (by decide) h5) (fun h5 => ?_)
  refine ev_iconst (nI 0) dX4_hoursLeft_8 rfl ?_
  exact ev_ireturn dX4_hoursLeft_9 (Nat.le_of_ble_eq_true rfl) ⟨rfl, rfl⟩
set_option maxHeartbeats 1000000 in
theorem p4_hoursLeft_2 (σ z : Nat → Int32) (Y : RY) (g : PW) {c : Nat} (hc : c < 8) (h : isK σ c = false) : Ct mX4_hoursLeft [.ref 0, .int (nI c)] (rw9 σ z Y g) (d1 (some (.int (nI 0))) (rw9 σ (upd (upd z 2 (nI 0)) 2 (nI 2)) Y g)) nx := by
  refine ct_of 1 kX4_hoursLeft.1 rfl (Nat.le_of_ble_eq_true rfl) (fun v u h => by obtain ⟨rfl, rfl⟩ := h; exact rfl) ?_
  show Ev _ _ _ 0 0 [(0, .ref 0), (1, .int (nI c))] [] _
  refine ev_aload_n 0 dX4_hoursLeft_0 rfl rfl ?_
  refine ev_iload_n 1 dX4_hoursLeft_1 rfl rfl ?_
  refine ev_cV1 (c4_is1 _ _ _ _ hc) kX4_isThere rfl g1251 rfl rfl rfl rfl dX4_hoursLeft_2 ?_
  refine ev_if_ne 10 dX4_hoursLeft_5 (by decide) (fun h5 => ?_) (fun h5 => absurd h5 (by decide))
  refine ev_aload_n 0 dX4_hoursLeft_10 rfl rfl ?_
  refine ev_iload_n 1 dX4_hoursLeft_11 rfl rfl ?_
  refine ev_cV1 (c4_called _ _ _ _ (by omega)) kX4_called rfl g1204 rfl rfl rfl rfl dX4_hoursLeft_12 ?_
  refine ev_if_eq 28 dX4_hoursLeft_15 (by decide) (fun h15 => ?_) (fun h15 => absurd (bI_0.mpr h) h15)
  refine ev_aload_n 0 dX4_hoursLeft_28 rfl rfl ?_
  refine ev_iconst (nI 2) dX4_hoursLeft_29 rfl ?_
  refine ev_cV1 (c4_throwing _ _ _ _ _) kX4_throwing rfl g1172 rfl rfl rfl rfl dX4_hoursLeft_30 ?_
  exact ev_ireturn dX4_hoursLeft_33 (Nat.le_of_ble_eq_true rfl) ⟨rfl, rfl⟩
set_option maxHeartbeats 1000000 in
theorem p4_hoursLeft_0 (σ z : Nat → Int32) (Y : RY) (g : PW) {c : Nat} (hc : c < 8) (h : isK σ c = true) : Ct mX4_hoursLeft [.ref 0, .int (nI c)] (rw9 σ z Y g) (d1 (some (.int (σ (ix c 8)))) (rw9 σ (upd z 2 (nI 0)) Y g)) nx := by
  refine ct_of 1 kX4_hoursLeft.1 rfl (Nat.le_of_ble_eq_true rfl) (fun v u h => by obtain ⟨rfl, rfl⟩ := h; exact rfl) ?_
  show Ev _ _ _ 0 0 [(0, .ref 0), (1, .int (nI c))] [] _
  refine ev_aload_n 0 dX4_hoursLeft_0 rfl rfl ?_
  refine ev_iload_n 1 dX4_hoursLeft_1 rfl rfl ?_
  refine ev_cV1 (c4_is1 _ _ _ _ hc) kX4_isThere rfl g1251 rfl rfl rfl rfl dX4_hoursLeft_2 ?_
  refine ev_if_ne 10 dX4_hoursLeft_5 (by decide) (fun h5 => ?_) (fun h5 => absurd h5 (by decide))
  refine ev_aload_n 0 dX4_hoursLeft_10 rfl rfl ?_
  refine ev_iload_n 1 dX4_hoursLeft_11 rfl rfl ?_
  refine ev_cV1 (c4_called _ _ _ _ (by omega)) kX4_called rfl g1204 rfl rfl rfl rfl dX4_hoursLeft_12 ?_
  refine ev_if_eq 28 dX4_hoursLeft_15 (by decide) (fun h15 => absurd h15 (bI_1.mpr h)) (fun h15 => ?_)
  refine ev_aload_n 0 dX4_hoursLeft_18 rfl rfl ?_
  refine ev_iload_n 1 dX4_hoursLeft_19 rfl rfl ?_
  refine ev_bipush (nI 8) dX4_hoursLeft_20 rfl ?_
  refine ev_cV2 (c4_of _ _ _ _ (by omega) (by omega)) kX4_of rfl g1188 rfl rfl rfl rfl dX4_hoursLeft_22 ?_
  refine ev_goto 33 dX4_hoursLeft_25 (by decide) ?_
  exact ev_ireturn dX4_hoursLeft_33 (Nat.le_of_ble_eq_true rfl) ⟨rfl, rfl⟩
set_option maxHeartbeats 1000000 in
theorem c4_isRiskier (σ z : Nat → Int32) (Y : RY) (g : PW) {a b : Nat} (ha : a < 8) (hb : b < 8) : Ct mX4_isRiskier [.ref 0, .int (nI a), .int (nI b)] (rw9 σ z Y g) (d1 (some (.int (bI (rsk σ a b)))) (rw9 σ z Y g)) nx := by
  refine ct_of 2 kX4_isRiskier.1 rfl (Nat.le_of_ble_eq_true rfl) (fun v u h => by obtain ⟨rfl, rfl⟩ := h; exact bI_nar _) ?_
  show Ev _ _ _ 0 0 [(0, .ref 0), (1, .int (nI a)), (2, .int (nI b))] [] _
  refine ev_aload_n 0 dX4_isRiskier_0 rfl rfl ?_
  refine ev_iload_n 1 dX4_isRiskier_1 rfl rfl ?_
  refine ev_bipush (nI 7) dX4_isRiskier_2 rfl ?_
  refine ev_cV2 (c4_of _ _ _ _ (by omega) (by omega)) kX4_of rfl g1188 rfl rfl rfl rfl dX4_isRiskier_4 ?_
  refine ev_istore_n 3 dX4_isRiskier_7 rfl (Nat.le_of_ble_eq_true rfl) rfl ?_
  refine ev_aload_n 0 dX4_isRiskier_8 rfl rfl ?_
  refine ev_iload_n 2 dX4_isRiskier_9 rfl rfl ?_
  refine ev_bipush (nI 7) dX4_isRiskier_10 rfl ?_
  refine ev_cV2 (c4_of _ _ _ _ (by omega) (by omega)) kX4_of rfl g1188 rfl rfl rfl rfl dX4_isRiskier_12 ?_
  refine ev_istore dX4_isRiskier_15 (Nat.le_of_ble_eq_true rfl) rfl ?_
  refine ev_iload_n 3 dX4_isRiskier_17 rfl rfl ?_
  refine ev_if_eq 26 dX4_isRiskier_18 (by decide) (fun h18 => ?_) (fun h18 => ?_)
  · refine ev_iload_n 3 dX4_isRiskier_26 rfl rfl ?_
    refine ev_if_gt 40 dX4_isRiskier_27 (by decide) (fun h27 => ?_) (fun h27 => ?_)
    · refine ev_iconst (nI 1) dX4_isRiskier_40 rfl ?_
      refine ev_goto 45 dX4_isRiskier_41 (by decide) ?_
      exact ev_ireturn dX4_isRiskier_45 (Nat.le_of_ble_eq_true rfl) ⟨by first | (rw [rsk_z (Or.inl h18), rsk0_t1 h27]; rfl) | (rw [rsk_z (Or.inl h18), rsk0_f1 h27 h32]; rfl) | (rw [rsk_z (Or.inl h18), rsk0_f2 ha hb h27 h37]; rfl) | (rw [rsk_z (Or.inl h18), rsk0_t2 ha hb h32 h37]; rfl) | (rw [rsk_z (Or.inr h23), rsk0_t1 h27]; rfl) | (rw [rsk_z (Or.inr h23), rsk0_f1 h27 h32]; rfl) | (rw [rsk_z (Or.inr h23), rsk0_f2 ha hb h27 h37]; rfl) | (rw [rsk_z (Or.inr h23), rsk0_t2 ha hb h32 h37]; rfl), rfl⟩
    · refine ev_iload dX4_isRiskier_30 rfl ?_
      refine ev_if_ne 44 dX4_isRiskier_32 (by decide) (fun h32 => ?_) (fun h32 => ?_)
      · refine ev_iconst (nI 0) dX4_isRiskier_44 rfl ?_
        exact ev_ireturn dX4_isRiskier_45 (Nat.le_of_ble_eq_true rfl) ⟨by first | (rw [rsk_z (Or.inl h18), rsk0_t1 h27]; rfl) | (rw [rsk_z (Or.inl h18), rsk0_f1 h27 h32]; rfl) | (rw [rsk_z (Or.inl h18), rsk0_f2 ha hb h27 h37]; rfl) | (rw [rsk_z (Or.inl h18), rsk0_t2 ha hb h32 h37]; rfl) | (rw [rsk_z (Or.inr h23), rsk0_t1 h27]; rfl) | (rw [rsk_z (Or.inr h23), rsk0_f1 h27 h32]; rfl) | (rw [rsk_z (Or.inr h23), rsk0_f2 ha hb h27 h37]; rfl) | (rw [rsk_z (Or.inr h23), rsk0_t2 ha hb h32 h37]; rfl), rfl⟩
      · refine ev_iload_n 1 dX4_isRiskier_35 rfl rfl ?_
        refine ev_iload_n 2 dX4_isRiskier_36 rfl rfl ?_
        refine ev_icmp_ge 44 dX4_isRiskier_37 (by decide) (fun h37 => ?_) (fun h37 => ?_)
        · refine ev_iconst (nI 0) dX4_isRiskier_44 rfl ?_
          exact ev_ireturn dX4_isRiskier_45 (Nat.le_of_ble_eq_true rfl) ⟨by first | (rw [rsk_z (Or.inl h18), rsk0_t1 h27]; rfl) | (rw [rsk_z (Or.inl h18), rsk0_f1 h27 h32]; rfl) | (rw [rsk_z (Or.inl h18), rsk0_f2 ha hb h27 h37]; rfl) | (rw [rsk_z (Or.inl h18), rsk0_t2 ha hb h32 h37]; rfl) | (rw [rsk_z (Or.inr h23), rsk0_t1 h27]; rfl) | (rw [rsk_z (Or.inr h23), rsk0_f1 h27 h32]; rfl) | (rw [rsk_z (Or.inr h23), rsk0_f2 ha hb h27 h37]; rfl) | (rw [rsk_z (Or.inr h23), rsk0_t2 ha hb h32 h37]; rfl), rfl⟩
        · refine ev_iconst (nI 1) dX4_isRiskier_40 rfl ?_
          refine ev_goto 45 dX4_isRiskier_41 (by decide) ?_
          exact ev_ireturn dX4_isRiskier_45 (Nat.le_of_ble_eq_true rfl) ⟨by first | (rw [rsk_z (Or.inl h18), rsk0_t1 h27]; rfl) | (rw [rsk_z (Or.inl h18), rsk0_f1 h27 h32]; rfl) | (rw [rsk_z (Or.inl h18), rsk0_f2 ha hb h27 h37]; rfl) | (rw [rsk_z (Or.inl h18), rsk0_t2 ha hb h32 h37]; rfl) | (rw [rsk_z (Or.inr h23), rsk0_t1 h27]; rfl) | (rw [rsk_z (Or.inr h23), rsk0_f1 h27 h32]; rfl) | (rw [rsk_z (Or.inr h23), rsk0_f2 ha hb h27 h37]; rfl) | (rw [rsk_z (Or.inr h23), rsk0_t2 ha hb h32 h37]; rfl), rfl⟩
  · refine ev_iload dX4_isRiskier_21 rfl ?_
    refine ev_if_ne 46 dX4_isRiskier_23 (by decide) (fun h23 => ?_) (fun h23 => ?_)
    · refine ev_aload_n 0 dX4_isRiskier_46 rfl rfl ?_
      refine ev_iload_n 1 dX4_isRiskier_47 rfl rfl ?_
      refine ev_cV1 (c4_cover _ _ _ _ (by omega)) kX4_cover rfl g1192 rfl rfl rfl rfl dX4_isRiskier_48 ?_
      refine ev_i2l dX4_isRiskier_51 ?_
      refine ev_iload dX4_isRiskier_52 rfl ?_
      refine ev_i2l dX4_isRiskier_54 ?_
      refine ev_lmul dX4_isRiskier_55 ?_
      refine ev_aload_n 0 dX4_isRiskier_56 rfl rfl ?_
      refine ev_iload_n 2 dX4_isRiskier_57 rfl rfl ?_
      refine ev_cV1 (c4_cover _ _ _ _ (by omega)) kX4_cover rfl g1192 rfl rfl rfl rfl dX4_isRiskier_58 ?_
      refine ev_i2l dX4_isRiskier_61 ?_
      refine ev_iload_n 3 dX4_isRiskier_62 rfl rfl ?_
      refine ev_i2l dX4_isRiskier_63 ?_
      refine ev_lmul dX4_isRiskier_64 ?_
      refine ev_lsub dX4_isRiskier_65 ?_
      refine ev_lstore dX4_isRiskier_66 (Nat.le_of_ble_eq_true rfl) rfl ?_
      refine ev_lload dX4_isRiskier_68 rfl ?_
      refine ev_lconst (lN 0) dX4_isRiskier_70 rfl ?_
      refine ev_lcmp dX4_isRiskier_71 ?_
      refine ev_if_lt 87 dX4_isRiskier_72 (by decide) (fun h72 => ?_) (fun h72 => ?_)
      · refine ev_iconst (nI 1) dX4_isRiskier_87 rfl ?_
        refine ev_goto 92 dX4_isRiskier_88 (by decide) ?_
        exact ev_ireturn dX4_isRiskier_92 (Nat.le_of_ble_eq_true rfl) ⟨by first | (rw [rsk_n h18 h23, rsk1_t1 h72]; rfl) | (rw [rsk_n h18 h23, rsk1_f1 h72 h79]; rfl) | (rw [rsk_n h18 h23, rsk1_f2 ha hb h72 h84]; rfl) | (rw [rsk_n h18 h23, rsk1_t2 ha hb h79 h84]; rfl), rfl⟩
      · refine ev_lload dX4_isRiskier_75 rfl ?_
        refine ev_lconst (lN 0) dX4_isRiskier_77 rfl ?_
        refine ev_lcmp dX4_isRiskier_78 ?_
        refine ev_if_ne 91 dX4_isRiskier_79 (by decide) (fun h79 => ?_) (fun h79 => ?_)
        · refine ev_iconst (nI 0) dX4_isRiskier_91 rfl ?_
          exact ev_ireturn dX4_isRiskier_92 (Nat.le_of_ble_eq_true rfl) ⟨by first | (rw [rsk_n h18 h23, rsk1_t1 h72]; rfl) | (rw [rsk_n h18 h23, rsk1_f1 h72 h79]; rfl) | (rw [rsk_n h18 h23, rsk1_f2 ha hb h72 h84]; rfl) | (rw [rsk_n h18 h23, rsk1_t2 ha hb h79 h84]; rfl), rfl⟩
        · refine ev_iload_n 1 dX4_isRiskier_82 rfl rfl ?_
          refine ev_iload_n 2 dX4_isRiskier_83 rfl rfl ?_
          refine ev_icmp_ge 91 dX4_isRiskier_84 (by decide) (fun h84 => ?_) (fun h84 => ?_)
          · refine ev_iconst (nI 0) dX4_isRiskier_91 rfl ?_
            exact ev_ireturn dX4_isRiskier_92 (Nat.le_of_ble_eq_true rfl) ⟨by first | (rw [rsk_n h18 h23, rsk1_t1 h72]; rfl) | (rw [rsk_n h18 h23, rsk1_f1 h72 h79]; rfl) | (rw [rsk_n h18 h23, rsk1_f2 ha hb h72 h84]; rfl) | (rw [rsk_n h18 h23, rsk1_t2 ha hb h79 h84]; rfl), rfl⟩
          · refine ev_iconst (nI 1) dX4_isRiskier_87 rfl ?_
            refine ev_goto 92 dX4_isRiskier_88 (by decide) ?_
            exact ev_ireturn dX4_isRiskier_92 (Nat.le_of_ble_eq_true rfl) ⟨by first | (rw [rsk_n h18 h23, rsk1_t1 h72]; rfl) | (rw [rsk_n h18 h23, rsk1_f1 h72 h79]; rfl) | (rw [rsk_n h18 h23, rsk1_f2 ha hb h72 h84]; rfl) | (rw [rsk_n h18 h23, rsk1_t2 ha hb h79 h84]; rfl), rfl⟩
    · refine ev_iload_n 3 dX4_isRiskier_26 rfl rfl ?_
      refine ev_if_gt 40 dX4_isRiskier_27 (by decide) (fun h27 => ?_) (fun h27 => ?_)
      · refine ev_iconst (nI 1) dX4_isRiskier_40 rfl ?_
        refine ev_goto 45 dX4_isRiskier_41 (by decide) ?_
        exact ev_ireturn dX4_isRiskier_45 (Nat.le_of_ble_eq_true rfl) ⟨by first | (rw [rsk_z (Or.inl h18), rsk0_t1 h27]; rfl) | (rw [rsk_z (Or.inl h18), rsk0_f1 h27 h32]; rfl) | (rw [rsk_z (Or.inl h18), rsk0_f2 ha hb h27 h37]; rfl) | (rw [rsk_z (Or.inl h18), rsk0_t2 ha hb h32 h37]; rfl) | (rw [rsk_z (Or.inr h23), rsk0_t1 h27]; rfl) | (rw [rsk_z (Or.inr h23), rsk0_f1 h27 h32]; rfl) | (rw [rsk_z (Or.inr h23), rsk0_f2 ha hb h27 h37]; rfl) | (rw [rsk_z (Or.inr h23), rsk0_t2 ha hb h32 h37]; rfl), rfl⟩
      · refine ev_iload dX4_isRiskier_30 rfl ?_
        refine ev_if_ne 44 dX4_isRiskier_32 (by decide) (fun h32 => ?_) (fun h32 => ?_)
        · refine ev_iconst (nI 0) dX4_isRiskier_44 rfl ?_
          exact ev_ireturn dX4_isRiskier_45 (Nat.le_of_ble_eq_true rfl) ⟨by first | (rw [rsk_z (Or.inl h18), rsk0_t1 h27]; rfl) | (rw [rsk_z (Or.inl h18), rsk0_f1 h27 h32]; rfl) | (rw [rsk_z (Or.inl h18), rsk0_f2 ha hb h27 h37]; rfl) | (rw [rsk_z (Or.inl h18), rsk0_t2 ha hb h32 h37]; rfl) | (rw [rsk_z (Or.inr h23), rsk0_t1 h27]; rfl) | (rw [rsk_z (Or.inr h23), rsk0_f1 h27 h32]; rfl) | (rw [rsk_z (Or.inr h23), rsk0_f2 ha hb h27 h37]; rfl) | (rw [rsk_z (Or.inr h23), rsk0_t2 ha hb h32 h37]; rfl), rfl⟩
        · refine ev_iload_n 1 dX4_isRiskier_35 rfl rfl ?_
          refine ev_iload_n 2 dX4_isRiskier_36 rfl rfl ?_
          refine ev_icmp_ge 44 dX4_isRiskier_37 (by decide) (fun h37 => ?_) (fun h37 => ?_)
          · refine ev_iconst (nI 0) dX4_isRiskier_44 rfl ?_
            exact ev_ireturn dX4_isRiskier_45 (Nat.le_of_ble_eq_true rfl) ⟨by first | (rw [rsk_z (Or.inl h18), rsk0_t1 h27]; rfl) | (rw [rsk_z (Or.inl h18), rsk0_f1 h27 h32]; rfl) | (rw [rsk_z (Or.inl h18), rsk0_f2 ha hb h27 h37]; rfl) | (rw [rsk_z (Or.inl h18), rsk0_t2 ha hb h32 h37]; rfl) | (rw [rsk_z (Or.inr h23), rsk0_t1 h27]; rfl) | (rw [rsk_z (Or.inr h23), rsk0_f1 h27 h32]; rfl) | (rw [rsk_z (Or.inr h23), rsk0_f2 ha hb h27 h37]; rfl) | (rw [rsk_z (Or.inr h23), rsk0_t2 ha hb h32 h37]; rfl), rfl⟩
          · refine ev_iconst (nI 1) dX4_isRiskier_40 rfl ?_
            refine ev_goto 45 dX4_isRiskier_41 (by decide) ?_
            exact ev_ireturn dX4_isRiskier_45 (Nat.le_of_ble_eq_true rfl) ⟨by first | (rw [rsk_z (Or.inl h18), rsk0_t1 h27]; rfl) | (rw [rsk_z (Or.inl h18), rsk0_f1 h27 h32]; rfl) | (rw [rsk_z (Or.inl h18), rsk0_f2 ha hb h27 h37]; rfl) | (rw [rsk_z (Or.inl h18), rsk0_t2 ha hb h32 h37]; rfl) | (rw [rsk_z (Or.inr h23), rsk0_t1 h27]; rfl) | (rw [rsk_z (Or.inr h23), rsk0_f1 h27 h32]; rfl) | (rw [rsk_z (Or.inr h23), rsk0_f2 ha hb h27 h37]; rfl) | (rw [rsk_z (Or.inr h23), rsk0_t2 ha hb h32 h37]; rfl), rfl⟩
set_option maxHeartbeats 1000000 in
theorem c4_rank (σ z : Nat → Int32) (Y : RY) (g : PW) {c : Nat} (hc : c < 8) : Ct mX4_rank [.ref 0, .int (nI c)] (rw9 σ z Y g) (d1 (some (.int (rnkS σ c 8))) (rw9 σ z Y g)) nx := by
  refine ct_of 1 kX4_rank.1 rfl (Nat.le_of_ble_eq_true rfl) (fun v u h => by obtain ⟨rfl, rfl⟩ := h; exact rfl) ?_
  show Ev _ _ _ 0 0 [(0, .ref 0), (1, .int (nI c))] [] _
  refine ev_iconst (nI 0) dX4_rank_0 rfl ?_
  refine ev_istore_n 2 dX4_rank_1 rfl (Nat.le_of_ble_eq_true rfl) rfl ?_
  refine ev_iconst (nI 0) dX4_rank_2 rfl ?_
  refine ev_istore_n 3 dX4_rank_3 rfl (Nat.le_of_ble_eq_true rfl) rfl ?_
  suffices H : ∀ fu j, j + fu = 8 → Ev mX4_rank (d1 (some (.int (rnkS σ c 8))) (rw9 σ z Y g)) nx 0 4 [(3, .int (nI (j))), (2, .int (rnkS σ c (j))), (0, .ref 0), (1, .int (nI c))] [] ((rw9 σ z Y g)) from ev_sub [0, 1, 2, 3] rfl (H 8 0 (Nat.zero_add _))
  intro fu
  induction fu with
  | zero =>
    intro j hj
    obtain rfl : 8 = j := by omega
    refine ev_iload_n 3 dX4_rank_4 rfl rfl ?_
    refine ev_bipush (nI 8) dX4_rank_5 rfl ?_
    refine ev_icmp_ge 38 dX4_rank_7 (by decide) (fun h7 => ?_) (fun h7 => absurd (nI_le (Nat.le_refl 8) (by omega)) h7)
    refine ev_iload_n 2 dX4_rank_38 rfl rfl ?_
    exact ev_ireturn dX4_rank_39 (Nat.le_of_ble_eq_true rfl) ⟨rfl, rfl⟩
  | succ fu ih =>
    intro j hj
    have hj6 : j < 8 := by omega
    refine ev_iload_n 3 dX4_rank_4 rfl rfl ?_
    refine ev_bipush (nI 8) dX4_rank_5 rfl ?_
    refine ev_icmp_ge 38 dX4_rank_7 (by decide) (fun h7 => absurd h7 (nI_ge hj6 (by omega))) (fun h7 => ?_)
    refine ev_iload_n 2 dX4_rank_10 rfl rfl ?_
    refine ev_iload_n 3 dX4_rank_11 rfl rfl ?_
    refine ev_iload_n 1 dX4_rank_12 rfl rfl ?_
    suffices J13 : Ev mX4_rank (d1 (some (.int (rnkS σ c 8))) (rw9 σ z Y g)) nx 0 30 [(3, .int (nI j)), (2, .int (rnkS σ c j)), (0, .ref 0), (1, .int (nI c))] [.int (bI (!decide (j = c) && rsk σ j c)), .int (rnkS σ c j)] (rw9 σ z Y g) by
      refine ev_icmp_eq 29 dX4_rank_13 (by decide) (fun h13 => ?_) (fun h13 => ?_)
      · refine ev_iconst (nI 0) dX4_rank_29 rfl ?_
        exact ev_sub [0, 1, 2, 3] rfl (ev_top _ (by first | rw [decide_eq_true ((nI_eq (by omega) (by omega)).mp h13)]; rfl | rw [decide_eq_false (fun e => h13 ((nI_eq (by omega) (by omega)).mpr e)), bI_0.mp h22]; rfl | rw [decide_eq_false (fun e => h13 ((nI_eq (by omega) (by omega)).mpr e)), bI_1.mp h22]; rfl) J13)
      · refine ev_aload_n 0 dX4_rank_16 rfl rfl ?_
        refine ev_iload_n 3 dX4_rank_17 rfl rfl ?_
        refine ev_iload_n 1 dX4_rank_18 rfl rfl ?_
        refine ev_cV2 (c4_isRiskier _ _ _ _ (by omega) (by omega)) kX4_isRiskier rfl g1475 rfl rfl rfl rfl dX4_rank_19 ?_
        refine ev_if_eq 29 dX4_rank_22 (by decide) (fun h22 => ?_) (fun h22 => ?_)
        · refine ev_iconst (nI 0) dX4_rank_29 rfl ?_
          exact ev_sub [0, 1, 2, 3] rfl (ev_top _ (by first | rw [decide_eq_true ((nI_eq (by omega) (by omega)).mp h13)]; rfl | rw [decide_eq_false (fun e => h13 ((nI_eq (by omega) (by omega)).mpr e)), bI_0.mp h22]; rfl | rw [decide_eq_false (fun e => h13 ((nI_eq (by omega) (by omega)).mpr e)), bI_1.mp h22]; rfl) J13)
        · refine ev_iconst (nI 1) dX4_rank_25 rfl ?_
          refine ev_goto 30 dX4_rank_26 (by decide) ?_
          exact ev_sub [0, 1, 2, 3] rfl (ev_top _ (by first | rw [decide_eq_true ((nI_eq (by omega) (by omega)).mp h13)]; rfl | rw [decide_eq_false (fun e => h13 ((nI_eq (by omega) (by omega)).mpr e)), bI_0.mp h22]; rfl | rw [decide_eq_false (fun e => h13 ((nI_eq (by omega) (by omega)).mpr e)), bI_1.mp h22]; rfl) J13)
    refine ev_iadd dX4_rank_30 ?_
    refine ev_istore_n 2 dX4_rank_31 rfl (Nat.le_of_ble_eq_true rfl) rfl ?_
    refine ev_iinc (nI (j + 1)) dX4_rank_32 rfl (nI_1 j) (Nat.le_of_ble_eq_true rfl) rfl ?_
    refine ev_goto 4 dX4_rank_35 (by decide) ?_
    exact ev_sub [0, 1, 2, 3] rfl (ih (j + 1) (by omega))
set_option maxHeartbeats 1000000 in
theorem c4_risky (σ z : Nat → Int32) (Y : RY) (g : PW) (p : Int32) : Ct mX4_risky [.ref 0, .int p] (rw9 σ z Y g) (d1 (some (.int (rkyS σ p 8))) (rw9 σ z Y g)) nx := by
  refine ct_of 1 kX4_risky.1 rfl (Nat.le_of_ble_eq_true rfl) (fun v u h => by obtain ⟨rfl, rfl⟩ := h; exact rfl) ?_
  show Ev _ _ _ 0 0 [(0, .ref 0), (1, .int p)] [] _
  refine ev_iconst (-1) dX4_risky_0 rfl ?_
  refine ev_istore_n 2 dX4_risky_1 rfl (Nat.le_of_ble_eq_true rfl) rfl ?_
  refine ev_iconst (nI 0) dX4_risky_2 rfl ?_
  refine ev_istore_n 3 dX4_risky_3 rfl (Nat.le_of_ble_eq_true rfl) rfl ?_
  suffices H : ∀ fu j, j + fu = 8 → Ev mX4_risky (d1 (some (.int (rkyS σ p 8))) (rw9 σ z Y g)) nx 0 4 [(3, .int (nI (j))), (2, .int (rkyS σ p (j))), (0, .ref 0), (1, .int p)] [] ((rw9 σ z Y g)) from ev_sub [0, 1, 2, 3] rfl (H 8 0 (Nat.zero_add _))
  intro fu
  induction fu with
  | zero =>
    intro j hj
    obtain rfl : 8 = j := by omega
    refine ev_iload_n 3 dX4_risky_4 rfl rfl ?_
    refine ev_bipush (nI 8) dX4_risky_5 rfl ?_
    refine ev_icmp_ge 31 dX4_risky_7 (by decide) (fun h7 => ?_) (fun h7 => absurd (nI_le (Nat.le_refl 8) (by omega)) h7)
    refine ev_iload_n 2 dX4_risky_31 rfl rfl ?_
    exact ev_ireturn dX4_risky_32 (Nat.le_of_ble_eq_true rfl) ⟨rfl, rfl⟩
  | succ fu ih =>
    intro j hj
    have hj6 : j < 8 := by omega
    refine ev_iload_n 3 dX4_risky_4 rfl rfl ?_
    refine ev_bipush (nI 8) dX4_risky_5 rfl ?_
    refine ev_icmp_ge 31 dX4_risky_7 (by decide) (fun h7 => absurd h7 (nI_ge hj6 (by omega))) (fun h7 => ?_)
    refine ev_aload_n 0 dX4_risky_10 rfl rfl ?_
    refine ev_iload_n 3 dX4_risky_11 rfl rfl ?_
    refine ev_cV1 (c4_rank _ _ _ _ (by omega)) kX4_rank rfl g1471 rfl rfl rfl rfl dX4_risky_12 ?_
    refine ev_iload_n 1 dX4_risky_15 rfl rfl ?_
    suffices J16 : Ev mX4_risky (d1 (some (.int (rkyS σ p 8))) (rw9 σ z Y g)) nx 0 24 [(3, .int (nI j)), (2, .int (rkyS σ p j)), (0, .ref 0), (1, .int p)] [.int (rkyS σ p (j + 1))] (rw9 σ z Y g) by
      refine ev_icmp_ne 23 dX4_risky_16 (by decide) (fun h16 => ?_) (fun h16 => ?_)
      · refine ev_iload_n 2 dX4_risky_23 rfl rfl ?_
        exact ev_sub [0, 1, 2, 3] rfl (ev_top _ (by first | exact (if_pos h16).symm | exact (if_neg h16).symm) J16)
      · refine ev_iload_n 3 dX4_risky_19 rfl rfl ?_
        refine ev_goto 24 dX4_risky_20 (by decide) ?_
        exact ev_sub [0, 1, 2, 3] rfl (ev_top _ (by first | exact (if_pos h16).symm | exact (if_neg h16).symm) J16)
    refine ev_istore_n 2 dX4_risky_24 rfl (Nat.le_of_ble_eq_true rfl) rfl ?_
    refine ev_iinc (nI (j + 1)) dX4_risky_25 rfl (nI_1 j) (Nat.le_of_ble_eq_true rfl) rfl ?_
    refine ev_goto 4 dX4_risky_28 (by decide) ?_
    exact ev_sub [0, 1, 2, 3] rfl (ih (j + 1) (by omega))
set_option maxHeartbeats 1000000 in
theorem p4_rankOf_1 (σ z : Nat → Int32) (Y : RY) (g : PW) {p : Int32} (h : inB p (nI 0) (nI 7) = false) : Ct mX4_rankOf [.ref 0, .int p] (rw9 σ z Y g) (d1 (some (.int (nI 0))) (rw9 σ (upd z 2 (nI 1)) Y g)) nx := by
  refine ct_of 1 kX4_rankOf.1 rfl (Nat.le_of_ble_eq_true rfl) (fun v u h => by obtain ⟨rfl, rfl⟩ := h; exact rfl) ?_
  show Ev _ _ _ 0 0 [(0, .ref 0), (1, .int p)] [] _
  refine ev_aload_n 0 dX4_rankOf_0 rfl rfl ?_
  refine ev_iload_n 1 dX4_rankOf_1 rfl rfl ?_
  refine ev_cV1 (c4_is0 _ _ _ _ h) kX4_isThere rfl g1251 rfl rfl rfl rfl dX4_rankOf_2 ?_
  refine ev_if_eq 16 dX4_rankOf_5 (by decide) (fun h5 => ?_) (fun h5 => absurd (by decide) h5)
  refine ev_iconst (nI 0) dX4_rankOf_16 rfl ?_
  exact ev_ireturn dX4_rankOf_17 (Nat.le_of_ble_eq_true rfl) ⟨rfl, rfl⟩
set_option maxHeartbeats 1000000 in
theorem p4_rankOf_0 (σ z : Nat → Int32) (Y : RY) (g : PW) {c : Nat} (hc : c < 8) : Ct mX4_rankOf [.ref 0, .int (nI c)] (rw9 σ z Y g) (d1 (some (.int (rnkS σ c 8))) (rw9 σ (upd z 2 (nI 0)) Y g)) nx := by
  refine ct_of 1 kX4_rankOf.1 rfl (Nat.le_of_ble_eq_true rfl) (fun v u h => by obtain ⟨rfl, rfl⟩ := h; exact rfl) ?_
  show Ev _ _ _ 0 0 [(0, .ref 0), (1, .int (nI c))] [] _
  refine ev_aload_n 0 dX4_rankOf_0 rfl rfl ?_
  refine ev_iload_n 1 dX4_rankOf_1 rfl rfl ?_
  refine ev_cV1 (c4_is1 _ _ _ _ hc) kX4_isThere rfl g1251 rfl rfl rfl rfl dX4_rankOf_2 ?_
  refine ev_if_eq 16 dX4_rankOf_5 (by decide) (fun h5 => absurd h5 (by decide)) (fun h5 => ?_)
  refine ev_aload_n 0 dX4_rankOf_8 rfl rfl ?_
  refine ev_iload_n 1 dX4_rankOf_9 rfl rfl ?_
  refine ev_cV1 (c4_rank _ _ _ _ (by omega)) kX4_rank rfl g1471 rfl rfl rfl rfl dX4_rankOf_10 ?_
  refine ev_goto 17 dX4_rankOf_13 (by decide) ?_
  exact ev_ireturn dX4_rankOf_17 (Nat.le_of_ble_eq_true rfl) ⟨rfl, rfl⟩
set_option maxHeartbeats 1000000 in
theorem p4_riskyBySorting_1 (σ z : Nat → Int32) (Y : RY) (g : PW) {p : Int32} (h : inB p (nI 0) (nI 7) = false) : Ct mX4_riskyBySorting [.ref 0, .int p] (rw9 σ z Y g) (d1 (some (.int (nI 0))) (rw9 σ (upd z 2 (nI 1)) Y g)) nx := by
  refine ct_of 1 kX4_riskyBySorting.1 rfl (Nat.le_of_ble_eq_true rfl) (fun v u h => by obtain ⟨rfl, rfl⟩ := h; exact rfl) ?_
  show Ev _ _ _ 0 0 [(0, .ref 0), (1, .int p)] [] _
  refine ev_aload_n 0 dX4_riskyBySorting_0 rfl rfl ?_
  refine ev_iload_n 1 dX4_riskyBySorting_1 rfl rfl ?_
  refine ev_cV1 (c4_is0 _ _ _ _ h) kX4_isThere rfl g1251 rfl rfl rfl rfl dX4_riskyBySorting_2 ?_
  refine ev_if_eq 16 dX4_riskyBySorting_5 (by decide) (fun h5 => ?_) (fun h5 => absurd (by decide) h5)
  refine ev_iconst (nI 0) dX4_riskyBySorting_16 rfl ?_
  exact ev_ireturn dX4_riskyBySorting_17 (Nat.le_of_ble_eq_true rfl) ⟨rfl, rfl⟩
set_option maxHeartbeats 1000000 in
theorem p4_riskyBySorting_0 (σ z : Nat → Int32) (Y : RY) (g : PW) {c : Nat} (hc : c < 8) : Ct mX4_riskyBySorting [.ref 0, .int (nI c)] (rw9 σ z Y g) (d1 (some (.int (rkyS σ (nI c) 8))) (rw9 σ (upd z 2 (nI 0)) Y g)) nx := by
  refine ct_of 1 kX4_riskyBySorting.1 rfl (Nat.le_of_ble_eq_true rfl) (fun v u h => by obtain ⟨rfl, rfl⟩ := h; exact rfl) ?_
  show Ev _ _ _ 0 0 [(0, .ref 0), (1, .int (nI c))] [] _
  refine ev_aload_n 0 dX4_riskyBySorting_0 rfl rfl ?_
  refine ev_iload_n 1 dX4_riskyBySorting_1 rfl rfl ?_
  refine ev_cV1 (c4_is1 _ _ _ _ hc) kX4_isThere rfl g1251 rfl rfl rfl rfl dX4_riskyBySorting_2 ?_
  refine ev_if_eq 16 dX4_riskyBySorting_5 (by decide) (fun h5 => absurd h5 (by decide)) (fun h5 => ?_)
  refine ev_aload_n 0 dX4_riskyBySorting_8 rfl rfl ?_
  refine ev_iload_n 1 dX4_riskyBySorting_9 rfl rfl ?_
  refine ev_cV1 (c4_risky _ _ _ _ _) kX4_risky rfl g1483 rfl rfl rfl rfl dX4_riskyBySorting_10 ?_
  refine ev_goto 17 dX4_riskyBySorting_13 (by decide) ?_
  exact ev_ireturn dX4_riskyBySorting_17 (Nat.le_of_ble_eq_true rfl) ⟨rfl, rfl⟩
set_option maxHeartbeats 1000000 in
theorem p4_riskyByTaking_1 (σ z : Nat → Int32) (Y : RY) (g : PW) {p : Int32} (h : inB p (nI 0) (nI 7) = false) : Ct mX4_riskyByTaking [.ref 0, .int p] (rw9 σ z Y g) (d1 (some (.int (nI 0))) (rw9 σ (upd z 2 (nI 1)) Y g)) nx := by
  refine ct_of 1 kX4_riskyByTaking.1 rfl (Nat.le_of_ble_eq_true rfl) (fun v u h => by obtain ⟨rfl, rfl⟩ := h; exact rfl) ?_
  show Ev _ _ _ 0 0 [(0, .ref 0), (1, .int p)] [] _
  refine ev_aload_n 0 dX4_riskyByTaking_0 rfl rfl ?_
  refine ev_iload_n 1 dX4_riskyByTaking_1 rfl rfl ?_
  refine ev_cV1 (c4_is0 _ _ _ _ h) kX4_isThere rfl g1251 rfl rfl rfl rfl dX4_riskyByTaking_2 ?_
  refine ev_if_eq 16 dX4_riskyByTaking_5 (by decide) (fun h5 => ?_) (fun h5 => absurd (by decide) h5)
  refine ev_iconst (nI 0) dX4_riskyByTaking_16 rfl ?_
  exact ev_ireturn dX4_riskyByTaking_17 (Nat.le_of_ble_eq_true rfl) ⟨rfl, rfl⟩
set_option maxHeartbeats 1000000 in
theorem p4_riskyByTaking_0 (σ z : Nat → Int32) (Y : RY) (g : PW) {c : Nat} (hc : c < 8) : Ct mX4_riskyByTaking [.ref 0, .int (nI c)] (rw9 σ z Y g) (d1 (some (.int (rkyS σ (nI c) 8))) (rw9 σ (upd z 2 (nI 0)) Y g)) nx := by
  refine ct_of 1 kX4_riskyByTaking.1 rfl (Nat.le_of_ble_eq_true rfl) (fun v u h => by obtain ⟨rfl, rfl⟩ := h; exact rfl) ?_
  show Ev _ _ _ 0 0 [(0, .ref 0), (1, .int (nI c))] [] _
  refine ev_aload_n 0 dX4_riskyByTaking_0 rfl rfl ?_
  refine ev_iload_n 1 dX4_riskyByTaking_1 rfl rfl ?_
  refine ev_cV1 (c4_is1 _ _ _ _ hc) kX4_isThere rfl g1251 rfl rfl rfl rfl dX4_riskyByTaking_2 ?_
  refine ev_if_eq 16 dX4_riskyByTaking_5 (by decide) (fun h5 => absurd h5 (by decide)) (fun h5 => ?_)
  refine ev_aload_n 0 dX4_riskyByTaking_8 rfl rfl ?_
  refine ev_iload_n 1 dX4_riskyByTaking_9 rfl rfl ?_
  refine ev_cV1 (c4_risky _ _ _ _ _) kX4_risky rfl g1483 rfl rfl rfl rfl dX4_riskyByTaking_10 ?_
  refine ev_goto 17 dX4_riskyByTaking_13 (by decide) ?_
  exact ev_ireturn dX4_riskyByTaking_17 (Nat.le_of_ble_eq_true rfl) ⟨rfl, rfl⟩
set_option maxHeartbeats 1000000 in
theorem c4_allCalled (σ z : Nat → Int32) (Y : RY) (g : PW)  : Ct mX4_allCalled [.ref 0] (rw9 σ z Y g) (d1 (some (.int (allS σ 8))) (rw9 σ z Y g)) nx := by
  refine ct_of 0 kX4_allCalled.1 rfl (Nat.le_of_ble_eq_true rfl) (fun v u h => by obtain ⟨rfl, rfl⟩ := h; exact rfl) ?_
  show Ev _ _ _ 0 0 [(0, .ref 0)] [] _
  refine ev_iconst (nI 0) dX4_allCalled_0 rfl ?_
  refine ev_istore_n 1 dX4_allCalled_1 rfl (Nat.le_of_ble_eq_true rfl) rfl ?_
  refine ev_iconst (nI 0) dX4_allCalled_2 rfl ?_
  refine ev_istore_n 2 dX4_allCalled_3 rfl (Nat.le_of_ble_eq_true rfl) rfl ?_
  suffices H : ∀ fu j, j + fu = 8 → Ev mX4_allCalled (d1 (some (.int (allS σ 8))) (rw9 σ z Y g)) nx 0 4 [(2, .int (nI (j))), (1, .int (allS σ (j))), (0, .ref 0)] [] ((rw9 σ z Y g)) from ev_sub [0, 1, 2] rfl (H 8 0 (Nat.zero_add _))
  intro fu
  induction fu with
  | zero =>
    intro j hj
    obtain rfl : 8 = j := by omega
    refine ev_iload_n 2 dX4_allCalled_4 rfl rfl ?_
    refine ev_bipush (nI 8) dX4_allCalled_5 rfl ?_
    refine ev_icmp_ge 32 dX4_allCalled_7 (by decide) (fun h7 => ?_) (fun h7 => absurd (nI_le (Nat.le_refl 8) (by omega)) h7)
    refine ev_iload_n 1 dX4_allCalled_32 rfl rfl ?_
    exact ev_ireturn dX4_allCalled_33 (Nat.le_of_ble_eq_true rfl) ⟨rfl, rfl⟩
  | succ fu ih =>
    intro j hj
    have hj6 : j < 8 := by omega
    refine ev_iload_n 2 dX4_allCalled_4 rfl rfl ?_
    refine ev_bipush (nI 8) dX4_allCalled_5 rfl ?_
    refine ev_icmp_ge 32 dX4_allCalled_7 (by decide) (fun h7 => absurd h7 (nI_ge hj6 (by omega))) (fun h7 => ?_)
    refine ev_iload_n 1 dX4_allCalled_10 rfl rfl ?_
    refine ev_aload_n 0 dX4_allCalled_11 rfl rfl ?_
    refine ev_iload_n 2 dX4_allCalled_12 rfl rfl ?_
    refine ev_cV1 (c4_called _ _ _ _ (by omega)) kX4_called rfl g1204 rfl rfl rfl rfl dX4_allCalled_13 ?_
    suffices J16 : Ev mX4_allCalled (d1 (some (.int (allS σ 8))) (rw9 σ z Y g)) nx 0 24 [(2, .int (nI j)), (1, .int (allS σ j)), (0, .ref 0)] [.int (bI (isK σ j)), .int (allS σ j)] (rw9 σ z Y g) by
      refine ev_if_eq 23 dX4_allCalled_16 (by decide) (fun h16 => ?_) (fun h16 => ?_)
      · refine ev_iconst (nI 0) dX4_allCalled_23 rfl ?_
        exact ev_sub [0, 1, 2] rfl (ev_top _ (by first | (rw [bI_0.mp h16]; rfl) | (rw [bI_1.mp h16]; rfl)) J16)
      · refine ev_iconst (nI 1) dX4_allCalled_19 rfl ?_
        refine ev_goto 24 dX4_allCalled_20 (by decide) ?_
        exact ev_sub [0, 1, 2] rfl (ev_top _ (by first | (rw [bI_0.mp h16]; rfl) | (rw [bI_1.mp h16]; rfl)) J16)
    refine ev_iadd dX4_allCalled_24 ?_
    refine ev_istore_n 1 dX4_allCalled_25 rfl (Nat.le_of_ble_eq_true rfl) rfl ?_
    refine ev_iinc (nI (j + 1)) dX4_allCalled_26 rfl (nI_1 j) (Nat.le_of_ble_eq_true rfl) rfl ?_
    refine ev_goto 4 dX4_allCalled_29 (by decide) ?_
    exact ev_sub [0, 1, 2] rfl (ih (j + 1) (by omega))
set_option maxHeartbeats 1000000 in
theorem p4_calledNow (σ z : Nat → Int32) (Y : RY) (g : PW)  : Ct mX4_calledNow [.ref 0] (rw9 σ z Y g) (d1 (some (.int (allS σ 8))) (rw9 σ (upd z 2 (nI 0)) Y g)) nx := by
  refine ct_of 0 kX4_calledNow.1 rfl (Nat.le_of_ble_eq_true rfl) (fun v u h => by obtain ⟨rfl, rfl⟩ := h; exact rfl) ?_
  show Ev _ _ _ 0 0 [(0, .ref 0)] [] _
  refine ev_aload_n 0 dX4_calledNow_0 rfl rfl ?_
  refine ev_iconst (nI 0) dX4_calledNow_1 rfl ?_
  refine ev_putfield 8 dX4_calledNow_2 fpX4_29 rfl (Nat.le_of_ble_eq_true rfl) (fun _ => rfl) (fun _ => rfl) (rz2 _ _ _ _ _) ?_
  refine ev_aload_n 0 dX4_calledNow_5 rfl rfl ?_
  refine ev_cV0 (c4_allCalled _ _ _ _) kX4_allCalled rfl g1379 rfl rfl rfl rfl dX4_calledNow_6 ?_
  exact ev_ireturn dX4_calledNow_9 (Nat.le_of_ble_eq_true rfl) ⟨rfl, rfl⟩
set_option maxHeartbeats 1000000 in
theorem c4_rule (σ z : Nat → Int32) (Y : RY) (g : PW) {i : Nat} (hi : i < 109) : Ct mX4_rule [.ref 0, .int (nI i)] (rw9 σ z Y g) (d1 (some (.int (σ i))) (rw9 σ (upd z 2 (nI 0)) Y g)) nx := by
  refine ct_of 1 kX4_rule.1 rfl (Nat.le_of_ble_eq_true rfl) (fun v u h => by obtain ⟨rfl, rfl⟩ := h; exact rfl) ?_
  show Ev _ _ _ 0 0 [(0, .ref 0), (1, .int (nI i))] [] _
  refine ev_aload_n 0 dX4_rule_0 rfl rfl ?_
  refine ev_iconst (nI 0) dX4_rule_1 rfl ?_
  refine ev_putfield 8 dX4_rule_2 fpX4_29 rfl (Nat.le_of_ble_eq_true rfl) (fun _ => rfl) (fun _ => rfl) (rz2 _ _ _ _ _) ?_
  refine ev_aload_n 0 dX4_rule_5 rfl rfl ?_
  refine ev_getfield 0 dX4_rule_6 foX4_7 rfl rfl ?_
  refine ev_iload_n 1 dX4_rule_9 rfl rfl ?_
  refine ev_ild (i) dX4_rule_10 rfl (by simp only [nI_m, nI_add, ix, oI]) (by omega) rfl ?_
  exact ev_ireturn dX4_rule_11 (Nat.le_of_ble_eq_true rfl) ⟨rfl, rfl⟩
set_option maxHeartbeats 1000000 in
theorem p4_rate (σ z : Nat → Int32) (Y : RY) (g : PW)  : Ct mX4_rate [.ref 0] (rw9 σ z Y g) (d1 (some (.int (σ 98))) (rw9 σ (upd z 2 (nI 0)) Y g)) nx := by
  refine ct_of 0 kX4_rate.1 rfl (Nat.le_of_ble_eq_true rfl) (fun v u h => by obtain ⟨rfl, rfl⟩ := h; exact rfl) ?_
  show Ev _ _ _ 0 0 [(0, .ref 0)] [] _
  refine ev_aload_n 0 dX4_rate_0 rfl rfl ?_
  refine ev_bipush (nI 98) dX4_rate_1 rfl ?_
  refine ev_cV1 (c4_rule _ _ _ _ (by omega)) kX4_rule rfl g1499 rfl rfl rfl rfl dX4_rate_3 ?_
  exact ev_ireturn dX4_rate_6 (Nat.le_of_ble_eq_true rfl) ⟨rfl, rfl⟩
set_option maxHeartbeats 1000000 in
theorem p4_grace (σ z : Nat → Int32) (Y : RY) (g : PW)  : Ct mX4_grace [.ref 0] (rw9 σ z Y g) (d1 (some (.int (σ 99))) (rw9 σ (upd z 2 (nI 0)) Y g)) nx := by
  refine ct_of 0 kX4_grace.1 rfl (Nat.le_of_ble_eq_true rfl) (fun v u h => by obtain ⟨rfl, rfl⟩ := h; exact rfl) ?_
  show Ev _ _ _ 0 0 [(0, .ref 0)] [] _
  refine ev_aload_n 0 dX4_grace_0 rfl rfl ?_
  refine ev_bipush (nI 99) dX4_grace_1 rfl ?_
  refine ev_cV1 (c4_rule _ _ _ _ (by omega)) kX4_rule rfl g1499 rfl rfl rfl rfl dX4_grace_3 ?_
  exact ev_ireturn dX4_grace_6 (Nat.le_of_ble_eq_true rfl) ⟨rfl, rfl⟩
set_option maxHeartbeats 1000000 in
theorem p4_slip (σ z : Nat → Int32) (Y : RY) (g : PW)  : Ct mX4_slip [.ref 0] (rw9 σ z Y g) (d1 (some (.int (σ 100))) (rw9 σ (upd z 2 (nI 0)) Y g)) nx := by
  refine ct_of 0 kX4_slip.1 rfl (Nat.le_of_ble_eq_true rfl) (fun v u h => by obtain ⟨rfl, rfl⟩ := h; exact rfl) ?_
  show Ev _ _ _ 0 0 [(0, .ref 0)] [] _
  refine ev_aload_n 0 dX4_slip_0 rfl rfl ?_
  refine ev_bipush (nI 100) dX4_slip_1 rfl ?_
  refine ev_cV1 (c4_rule _ _ _ _ (by omega)) kX4_rule rfl g1499 rfl rfl rfl rfl dX4_slip_3 ?_
  exact ev_ireturn dX4_slip_6 (Nat.le_of_ble_eq_true rfl) ⟨rfl, rfl⟩
set_option maxHeartbeats 1000000 in
theorem p4_order (σ z : Nat → Int32) (Y : RY) (g : PW)  : Ct mX4_order [.ref 0] (rw9 σ z Y g) (d1 (some (.int (σ 101))) (rw9 σ (upd z 2 (nI 0)) Y g)) nx := by
  refine ct_of 0 kX4_order.1 rfl (Nat.le_of_ble_eq_true rfl) (fun v u h => by obtain ⟨rfl, rfl⟩ := h; exact rfl) ?_
  show Ev _ _ _ 0 0 [(0, .ref 0)] [] _
  refine ev_aload_n 0 dX4_order_0 rfl rfl ?_
  refine ev_bipush (nI 101) dX4_order_1 rfl ?_
  refine ev_cV1 (c4_rule _ _ _ _ (by omega)) kX4_rule rfl g1499 rfl rfl rfl rfl dX4_order_3 ?_
  exact ev_ireturn dX4_order_6 (Nat.le_of_ble_eq_true rfl) ⟨rfl, rfl⟩
set_option maxHeartbeats 1000000 in
theorem p4_hours (σ z : Nat → Int32) (Y : RY) (g : PW)  : Ct mX4_hours [.ref 0] (rw9 σ z Y g) (d1 (some (.int (σ 102))) (rw9 σ (upd z 2 (nI 0)) Y g)) nx := by
  refine ct_of 0 kX4_hours.1 rfl (Nat.le_of_ble_eq_true rfl) (fun v u h => by obtain ⟨rfl, rfl⟩ := h; exact rfl) ?_
  show Ev _ _ _ 0 0 [(0, .ref 0)] [] _
  refine ev_aload_n 0 dX4_hours_0 rfl rfl ?_
  refine ev_bipush (nI 102) dX4_hours_1 rfl ?_
  refine ev_cV1 (c4_rule _ _ _ _ (by omega)) kX4_rule rfl g1499 rfl rfl rfl rfl dX4_hours_3 ?_
  exact ev_ireturn dX4_hours_6 (Nat.le_of_ble_eq_true rfl) ⟨rfl, rfl⟩
set_option maxHeartbeats 1000000 in
theorem p4_lent (σ z : Nat → Int32) (Y : RY) (g : PW)  : Ct mX4_lent [.ref 0] (rw9 σ z Y g) (d1 (some (.int (σ 103))) (rw9 σ (upd z 2 (nI 0)) Y g)) nx := by
  refine ct_of 0 kX4_lent.1 rfl (Nat.le_of_ble_eq_true rfl) (fun v u h => by obtain ⟨rfl, rfl⟩ := h; exact rfl) ?_
  show Ev _ _ _ 0 0 [(0, .ref 0)] [] _
  refine ev_aload_n 0 dX4_lent_0 rfl rfl ?_
  refine ev_bipush (nI 103) dX4_lent_1 rfl ?_
  refine ev_cV1 (c4_rule _ _ _ _ (by omega)) kX4_rule rfl g1499 rfl rfl rfl rfl dX4_lent_3 ?_
  exact ev_ireturn dX4_lent_6 (Nat.le_of_ble_eq_true rfl) ⟨rfl, rfl⟩
set_option maxHeartbeats 1000000 in
theorem p4_interest (σ z : Nat → Int32) (Y : RY) (g : PW)  : Ct mX4_interest [.ref 0] (rw9 σ z Y g) (d1 (some (.int (σ 104))) (rw9 σ (upd z 2 (nI 0)) Y g)) nx := by
  refine ct_of 0 kX4_interest.1 rfl (Nat.le_of_ble_eq_true rfl) (fun v u h => by obtain ⟨rfl, rfl⟩ := h; exact rfl) ?_
  show Ev _ _ _ 0 0 [(0, .ref 0)] [] _
  refine ev_aload_n 0 dX4_interest_0 rfl rfl ?_
  refine ev_bipush (nI 104) dX4_interest_1 rfl ?_
  refine ev_cV1 (c4_rule _ _ _ _ (by omega)) kX4_rule rfl g1499 rfl rfl rfl rfl dX4_interest_3 ?_
  exact ev_ireturn dX4_interest_6 (Nat.le_of_ble_eq_true rfl) ⟨rfl, rfl⟩
set_option maxHeartbeats 1000000 in
theorem p4_repaid (σ z : Nat → Int32) (Y : RY) (g : PW)  : Ct mX4_repaid [.ref 0] (rw9 σ z Y g) (d1 (some (.int (σ 105))) (rw9 σ (upd z 2 (nI 0)) Y g)) nx := by
  refine ct_of 0 kX4_repaid.1 rfl (Nat.le_of_ble_eq_true rfl) (fun v u h => by obtain ⟨rfl, rfl⟩ := h; exact rfl) ?_
  show Ev _ _ _ 0 0 [(0, .ref 0)] [] _
  refine ev_aload_n 0 dX4_repaid_0 rfl rfl ?_
  refine ev_bipush (nI 105) dX4_repaid_1 rfl ?_
  refine ev_cV1 (c4_rule _ _ _ _ (by omega)) kX4_rule rfl g1499 rfl rfl rfl rfl dX4_repaid_3 ?_
  exact ev_ireturn dX4_repaid_6 (Nat.le_of_ble_eq_true rfl) ⟨rfl, rfl⟩
set_option maxHeartbeats 1000000 in
theorem p4_lost (σ z : Nat → Int32) (Y : RY) (g : PW)  : Ct mX4_lost [.ref 0] (rw9 σ z Y g) (d1 (some (.int (σ 106))) (rw9 σ (upd z 2 (nI 0)) Y g)) nx := by
  refine ct_of 0 kX4_lost.1 rfl (Nat.le_of_ble_eq_true rfl) (fun v u h => by obtain ⟨rfl, rfl⟩ := h; exact rfl) ?_
  show Ev _ _ _ 0 0 [(0, .ref 0)] [] _
  refine ev_aload_n 0 dX4_lost_0 rfl rfl ?_
  refine ev_bipush (nI 106) dX4_lost_1 rfl ?_
  refine ev_cV1 (c4_rule _ _ _ _ (by omega)) kX4_rule rfl g1499 rfl rfl rfl rfl dX4_lost_3 ?_
  exact ev_ireturn dX4_lost_6 (Nat.le_of_ble_eq_true rfl) ⟨rfl, rfl⟩
set_option maxHeartbeats 1000000 in
theorem p4_calls (σ z : Nat → Int32) (Y : RY) (g : PW)  : Ct mX4_calls [.ref 0] (rw9 σ z Y g) (d1 (some (.int (σ 107))) (rw9 σ (upd z 2 (nI 0)) Y g)) nx := by
  refine ct_of 0 kX4_calls.1 rfl (Nat.le_of_ble_eq_true rfl) (fun v u h => by obtain ⟨rfl, rfl⟩ := h; exact rfl) ?_
  show Ev _ _ _ 0 0 [(0, .ref 0)] [] _
  refine ev_aload_n 0 dX4_calls_0 rfl rfl ?_
  refine ev_bipush (nI 107) dX4_calls_1 rfl ?_
  refine ev_cV1 (c4_rule _ _ _ _ (by omega)) kX4_rule rfl g1499 rfl rfl rfl rfl dX4_calls_3 ?_
  exact ev_ireturn dX4_calls_6 (Nat.le_of_ble_eq_true rfl) ⟨rfl, rfl⟩
set_option maxHeartbeats 1000000 in
theorem p4_soldOut (σ z : Nat → Int32) (Y : RY) (g : PW)  : Ct mX4_soldOut [.ref 0] (rw9 σ z Y g) (d1 (some (.int (σ 108))) (rw9 σ (upd z 2 (nI 0)) Y g)) nx := by
  refine ct_of 0 kX4_soldOut.1 rfl (Nat.le_of_ble_eq_true rfl) (fun v u h => by obtain ⟨rfl, rfl⟩ := h; exact rfl) ?_
  show Ev _ _ _ 0 0 [(0, .ref 0)] [] _
  refine ev_aload_n 0 dX4_soldOut_0 rfl rfl ?_
  refine ev_bipush (nI 108) dX4_soldOut_1 rfl ?_
  refine ev_cV1 (c4_rule _ _ _ _ (by omega)) kX4_rule rfl g1499 rfl rfl rfl rfl dX4_soldOut_3 ?_
  exact ev_ireturn dX4_soldOut_6 (Nat.le_of_ble_eq_true rfl) ⟨rfl, rfl⟩
set_option maxHeartbeats 1000000 in
theorem c4_falling (σ z : Nat → Int32) (Y : RY) (g : PW) {c : Nat} (hc : c < 8) : Ct mX4_falling [.ref 0, .int (nI c)] (rw9 σ z Y g) (d1 (some (.int (falS σ c))) (rw9 σ z Y g)) nx := by
  refine ct_of 1 kX4_falling.1 rfl (Nat.le_of_ble_eq_true rfl) (fun v u h => by obtain ⟨rfl, rfl⟩ := h; exact rfl) ?_
  show Ev _ _ _ 0 0 [(0, .ref 0), (1, .int (nI c))] [] _
  refine ev_aload_n 0 dX4_falling_0 rfl rfl ?_
  refine ev_iload_n 1 dX4_falling_1 rfl rfl ?_
  refine ev_cV1 (c4_called _ _ _ _ (by omega)) kX4_called rfl g1204 rfl rfl rfl rfl dX4_falling_2 ?_
  refine ev_if_eq 10 dX4_falling_5 (by decide) (fun h5 => ?_) (fun h5 => ?_)
  · refine ev_iconst (nI 1) dX4_falling_10 rfl ?_
    refine ev_istore_n 2 dX4_falling_11 rfl (Nat.le_of_ble_eq_true rfl) rfl ?_
    have hk := bI_0.mp h5
    have e8 : falS σ c = falF σ c 100 1 := if_neg (by rw [hk]; decide)
    rw [e8]
    suffices H : ∀ fu p, p + fu = 101 → falF σ c fu p = falF σ c 100 1 → Ev mX4_falling (d1 (some (.int (falF σ c 100 1))) (rw9 σ z Y g)) nx 0 12 [(2, .int (nI p)), (0, .ref 0), (1, .int (nI c))] [] (rw9 σ z Y g) from ev_sub [0, 1, 2] rfl (H 100 1 rfl rfl)
    intro fu
    induction fu with
    | zero =>
      intro p hp hw
      obtain rfl : 101 = p := by omega
      refine ev_iload_n 2 dX4_falling_12 rfl rfl ?_
      refine ev_bipush (nI 100) dX4_falling_13 rfl ?_
      refine ev_icmp_gt 43 dX4_falling_15 (by decide) (fun h15 => ?_) (fun h15 => absurd (nI_lt (by omega) (by omega)) h15)
      refine ev_iconst (-1) dX4_falling_43 rfl ?_
      exact ev_ireturn dX4_falling_44 (Nat.le_of_ble_eq_true rfl) ⟨by rw [← hw]; rfl, rfl⟩
    | succ fu ih =>
      intro p hp hw
      refine ev_iload_n 2 dX4_falling_12 rfl rfl ?_
      refine ev_bipush (nI 100) dX4_falling_13 rfl ?_
      refine ev_icmp_gt 43 dX4_falling_15 (by decide) (fun h15 => absurd h15 (nI_nlt (by omega) (by omega))) (fun h15 => ?_)
      refine ev_aload_n 0 dX4_falling_18 rfl rfl ?_
      refine ev_iload_n 1 dX4_falling_19 rfl rfl ?_
      refine ev_bipush (nI 7) dX4_falling_20 rfl ?_
      refine ev_cV2 (c4_of _ _ _ _ (by omega) (by omega)) kX4_of rfl g1188 rfl rfl rfl rfl dX4_falling_22 ?_
      refine ev_aload_n 0 dX4_falling_25 rfl rfl ?_
      refine ev_iload_n 1 dX4_falling_26 rfl rfl ?_
      refine ev_iload_n 2 dX4_falling_27 rfl rfl ?_
      refine ev_iconst (nI 0) dX4_falling_28 rfl ?_
      refine ev_cV3 (c4_coverIf _ _ _ _ (by omega) _ _) kX4_coverIf rfl g1196 rfl rfl rfl rfl dX4_falling_29 ?_
      refine ev_icmp_le 37 dX4_falling_32 (by decide) (fun h32 => ?_) (fun h32 => ?_)
      · have e9 : falF σ c (fu + 1) p = falF σ c fu (p + 1) := if_neg (Int32.not_lt.mpr h32)
        refine ev_iinc (nI (p + 1)) dX4_falling_37 rfl (nI_1 p) (Nat.le_of_ble_eq_true rfl) rfl ?_
        refine ev_goto 12 dX4_falling_40 (by decide) ?_
        exact ev_sub [0, 1, 2] rfl (ih (p + 1) (by omega) (by rw [← e9]; exact hw))
      · have e9 : falF σ c (fu + 1) p = nI p := if_pos (Int32.not_le.mp h32)
        refine ev_iload_n 2 dX4_falling_35 rfl rfl ?_
        exact ev_ireturn dX4_falling_36 (Nat.le_of_ble_eq_true rfl) ⟨by rw [← hw, e9], rfl⟩
  · refine ev_iconst (nI 0) dX4_falling_8 rfl ?_
    exact ev_ireturn dX4_falling_9 (Nat.le_of_ble_eq_true rfl) ⟨by rw [show falS σ c = nI 0 from if_pos (bI_1.mp h5)], rfl⟩
set_option maxHeartbeats 1000000 in
theorem c4_toldFall_1 (σ z : Nat → Int32) (Y : RY) (g : PW) {p : Int32} (h : inB p (nI 0) (nI 7) = false) : Ct mX4_toldFall [.ref 0, .int p] (rw9 σ z Y g) (d1 (some (.int (nI 0))) (rw9 σ (upd z 2 (nI 1)) Y g)) nx := by
  refine ct_of 1 kX4_toldFall.1 rfl (Nat.le_of_ble_eq_true rfl) (fun v u h => by obtain ⟨rfl, rfl⟩ := h; exact rfl) ?_
  show Ev _ _ _ 0 0 [(0, .ref 0), (1, .int p)] [] _
  refine ev_aload_n 0 dX4_toldFall_0 rfl rfl ?_
  refine ev_iload_n 1 dX4_toldFall_1 rfl rfl ?_
  refine ev_cV1 (c4_is0 _ _ _ _ h) kX4_isThere rfl g1251 rfl rfl rfl rfl dX4_toldFall_2 ?_
  refine ev_if_ne 10 dX4_toldFall_5 (by decide) (fun h5 => absurd (by decide) h5) (fun h5 => ?_)
  refine ev_iconst (nI 0) dX4_toldFall_8 rfl ?_
  exact ev_ireturn dX4_toldFall_9 (Nat.le_of_ble_eq_true rfl) ⟨rfl, rfl⟩
set_option maxHeartbeats 1000000 in
theorem c4_toldFall_2 (σ z : Nat → Int32) (Y : RY) (g : PW) {c : Nat} (hc : c < 8) (h : falS σ c = -1) : Ct mX4_toldFall [.ref 0, .int (nI c)] (rw9 σ z Y g) (d1 (some (.int (nI 0))) (rw9 σ (upd (upd z 2 (nI 0)) 2 (nI 2)) Y g)) nx := by
  refine ct_of 1 kX4_toldFall.1 rfl (Nat.le_of_ble_eq_true rfl) (fun v u h => by obtain ⟨rfl, rfl⟩ := h; exact rfl) ?_
  show Ev _ _ _ 0 0 [(0, .ref 0), (1, .int (nI c))] [] _
  refine ev_aload_n 0 dX4_toldFall_0 rfl rfl ?_
  refine ev_iload_n 1 dX4_toldFall_1 rfl rfl ?_
  refine ev_cV1 (c4_is1 _ _ _ _ hc) kX4_isThere rfl g1251 rfl rfl rfl rfl dX4_toldFall_2 ?_
  refine ev_if_ne 10 dX4_toldFall_5 (by decide) (fun h5 => ?_) (fun h5 => absurd h5 (by decide))
  refine ev_aload_n 0 dX4_toldFall_10 rfl rfl ?_
  refine ev_iload_n 1 dX4_toldFall_11 rfl rfl ?_
  refine ev_cV1 (c4_falling _ _ _ _ (by omega)) kX4_falling rfl g1523 rfl rfl rfl rfl dX4_toldFall_12 ?_
  refine ev_istore_n 2 dX4_toldFall_15 rfl (Nat.le_of_ble_eq_true rfl) rfl ?_
  refine ev_iload_n 2 dX4_toldFall_16 rfl rfl ?_
  refine ev_iconst (-1) dX4_toldFall_17 rfl ?_
  refine ev_icmp_ne 29 dX4_toldFall_18 (by decide) (fun h18 => absurd h h18) (fun h18 => ?_)
  refine ev_aload_n 0 dX4_toldFall_21 rfl rfl ?_
  refine ev_iconst (nI 2) dX4_toldFall_22 rfl ?_
  refine ev_cV1 (c4_throwing _ _ _ _ _) kX4_throwing rfl g1172 rfl rfl rfl rfl dX4_toldFall_23 ?_
  refine ev_goto 30 dX4_toldFall_26 (by decide) ?_
  exact ev_ireturn dX4_toldFall_30 (Nat.le_of_ble_eq_true rfl) ⟨rfl, rfl⟩
set_option maxHeartbeats 1000000 in
theorem c4_toldFall_0 (σ z : Nat → Int32) (Y : RY) (g : PW) {c : Nat} (hc : c < 8) (h : ¬ falS σ c = -1) : Ct mX4_toldFall [.ref 0, .int (nI c)] (rw9 σ z Y g) (d1 (some (.int (falS σ c))) (rw9 σ (upd z 2 (nI 0)) Y g)) nx := by
  refine ct_of 1 kX4_toldFall.1 rfl (Nat.le_of_ble_eq_true rfl) (fun v u h => by obtain ⟨rfl, rfl⟩ := h; exact rfl) ?_
  show Ev _ _ _ 0 0 [(0, .ref 0), (1, .int (nI c))] [] _
  refine ev_aload_n 0 dX4_toldFall_0 rfl rfl ?_
  refine ev_iload_n 1 dX4_toldFall_1 rfl rfl ?_
  refine ev_cV1 (c4_is1 _ _ _ _ hc) kX4_isThere rfl g1251 rfl rfl rfl rfl dX4_toldFall_2 ?_
  refine ev_if_ne 10 dX4_toldFall_5 (by decide) (fun h5 => ?_) (fun h5 => absurd h5 (by decide))
  refine ev_aload_n 0 dX4_toldFall_10 rfl rfl ?_
  refine ev_iload_n 1 dX4_toldFall_11 rfl rfl ?_
  refine ev_cV1 (c4_falling _ _ _ _ (by omega)) kX4_falling rfl g1523 rfl rfl rfl rfl dX4_toldFall_12 ?_
  refine ev_istore_n 2 dX4_toldFall_15 rfl (Nat.le_of_ble_eq_true rfl) rfl ?_
  refine ev_iload_n 2 dX4_toldFall_16 rfl rfl ?_
  refine ev_iconst (-1) dX4_toldFall_17 rfl ?_
  refine ev_icmp_ne 29 dX4_toldFall_18 (by decide) (fun h18 => ?_) (fun h18 => absurd h18 h)
  refine ev_iload_n 2 dX4_toldFall_29 rfl rfl ?_
  exact ev_ireturn dX4_toldFall_30 (Nat.le_of_ble_eq_true rfl) ⟨rfl, rfl⟩
set_option maxHeartbeats 1000000 in
theorem p4_fallToCallByTrying_1 (σ z : Nat → Int32) (Y : RY) (g : PW) {p : Int32} (h : inB p (nI 0) (nI 7) = false) : Ct mX4_fallToCallByTrying [.ref 0, .int p] (rw9 σ z Y g) (d1 (some (.int (nI 0))) (rw9 σ (upd z 2 (nI 1)) Y g)) nx := by
  refine ct_of 1 kX4_fallToCallByTrying.1 rfl (Nat.le_of_ble_eq_true rfl) (fun v u h => by obtain ⟨rfl, rfl⟩ := h; exact rfl) ?_
  show Ev _ _ _ 0 0 [(0, .ref 0), (1, .int p)] [] _
  refine ev_aload_n 0 dX4_fallToCallByTrying_0 rfl rfl ?_
  refine ev_iload_n 1 dX4_fallToCallByTrying_1 rfl rfl ?_
  refine ev_cV1 (c4_toldFall_1 _ _ _ _ h) kX4_toldFall rfl g1519 rfl rfl rfl rfl dX4_fallToCallByTrying_2 ?_
  exact ev_ireturn dX4_fallToCallByTrying_5 (Nat.le_of_ble_eq_true rfl) ⟨rfl, rfl⟩
set_option maxHeartbeats 1000000 in
theorem p4_fallToCallByTrying_2 (σ z : Nat → Int32) (Y : RY) (g : PW) {c : Nat} (hc : c < 8) (h : falS σ c = -1) : Ct mX4_fallToCallByTrying [.ref 0, .int (nI c)] (rw9 σ z Y g) (d1 (some (.int (nI 0))) (rw9 σ (upd (upd z 2 (nI 0)) 2 (nI 2)) Y g)) nx := by
  refine ct_of 1 kX4_fallToCallByTrying.1 rfl (Nat.le_of_ble_eq_true rfl) (fun v u h => by obtain ⟨rfl, rfl⟩ := h; exact rfl) ?_
  show Ev _ _ _ 0 0 [(0, .ref 0), (1, .int (nI c))] [] _
  refine ev_aload_n 0 dX4_fallToCallByTrying_0 rfl rfl ?_
  refine ev_iload_n 1 dX4_fallToCallByTrying_1 rfl rfl ?_
  refine ev_cV1 (c4_toldFall_2 _ _ _ _ hc h) kX4_toldFall rfl g1519 rfl rfl rfl rfl dX4_fallToCallByTrying_2 ?_
  exact ev_ireturn dX4_fallToCallByTrying_5 (Nat.le_of_ble_eq_true rfl) ⟨rfl, rfl⟩
set_option maxHeartbeats 1000000 in
theorem p4_fallToCallByTrying_0 (σ z : Nat → Int32) (Y : RY) (g : PW) {c : Nat} (hc : c < 8) (h : ¬ falS σ c = -1) : Ct mX4_fallToCallByTrying [.ref 0, .int (nI c)] (rw9 σ z Y g) (d1 (some (.int (falS σ c))) (rw9 σ (upd z 2 (nI 0)) Y g)) nx := by
  refine ct_of 1 kX4_fallToCallByTrying.1 rfl (Nat.le_of_ble_eq_true rfl) (fun v u h => by obtain ⟨rfl, rfl⟩ := h; exact rfl) ?_
  show Ev _ _ _ 0 0 [(0, .ref 0), (1, .int (nI c))] [] _
  refine ev_aload_n 0 dX4_fallToCallByTrying_0 rfl rfl ?_
  refine ev_iload_n 1 dX4_fallToCallByTrying_1 rfl rfl ?_
  refine ev_cV1 (c4_toldFall_0 _ _ _ _ hc h) kX4_toldFall rfl g1519 rfl rfl rfl rfl dX4_fallToCallByTrying_2 ?_
  exact ev_ireturn dX4_fallToCallByTrying_5 (Nat.le_of_ble_eq_true rfl) ⟨rfl, rfl⟩
set_option maxHeartbeats 1000000 in
theorem p4_fallToCallByHalving_1 (σ z : Nat → Int32) (Y : RY) (g : PW) {p : Int32} (h : inB p (nI 0) (nI 7) = false) : Ct mX4_fallToCallByHalving [.ref 0, .int p] (rw9 σ z Y g) (d1 (some (.int (nI 0))) (rw9 σ (upd z 2 (nI 1)) Y g)) nx := by
  refine ct_of 1 kX4_fallToCallByHalving.1 rfl (Nat.le_of_ble_eq_true rfl) (fun v u h => by obtain ⟨rfl, rfl⟩ := h; exact rfl) ?_
  show Ev _ _ _ 0 0 [(0, .ref 0), (1, .int p)] [] _
  refine ev_aload_n 0 dX4_fallToCallByHalving_0 rfl rfl ?_
  refine ev_iload_n 1 dX4_fallToCallByHalving_1 rfl rfl ?_
  refine ev_cV1 (c4_toldFall_1 _ _ _ _ h) kX4_toldFall rfl g1519 rfl rfl rfl rfl dX4_fallToCallByHalving_2 ?_
  exact ev_ireturn dX4_fallToCallByHalving_5 (Nat.le_of_ble_eq_true rfl) ⟨rfl, rfl⟩
set_option maxHeartbeats 1000000 in
theorem p4_fallToCallByHalving_2 (σ z : Nat → Int32) (Y : RY) (g : PW) {c : Nat} (hc : c < 8) (h : falS σ c = -1) : Ct mX4_fallToCallByHalving [.ref 0, .int (nI c)] (rw9 σ z Y g) (d1 (some (.int (nI 0))) (rw9 σ (upd (upd z 2 (nI 0)) 2 (nI 2)) Y g)) nx := by
  refine ct_of 1 kX4_fallToCallByHalving.1 rfl (Nat.le_of_ble_eq_true rfl) (fun v u h => by obtain ⟨rfl, rfl⟩ := h; exact rfl) ?_
  show Ev _ _ _ 0 0 [(0, .ref 0), (1, .int (nI c))] [] _
  refine ev_aload_n 0 dX4_fallToCallByHalving_0 rfl rfl ?_
  refine ev_iload_n 1 dX4_fallToCallByHalving_1 rfl rfl ?_
  refine ev_cV1 (c4_toldFall_2 _ _ _ _ hc h) kX4_toldFall rfl g1519 rfl rfl rfl rfl dX4_fallToCallByHalving_2 ?_
  exact ev_ireturn dX4_fallToCallByHalving_5 (Nat.le_of_ble_eq_true rfl) ⟨rfl, rfl⟩
set_option maxHeartbeats 1000000 in
theorem p4_fallToCallByHalving_0 (σ z : Nat → Int32) (Y : RY) (g : PW) {c : Nat} (hc : c < 8) (h : ¬ falS σ c = -1) : Ct mX4_fallToCallByHalving [.ref 0, .int (nI c)] (rw9 σ z Y g) (d1 (some (.int (falS σ c))) (rw9 σ (upd z 2 (nI 0)) Y g)) nx := by
  refine ct_of 1 kX4_fallToCallByHalving.1 rfl (Nat.le_of_ble_eq_true rfl) (fun v u h => by obtain ⟨rfl, rfl⟩ := h; exact rfl) ?_
  show Ev _ _ _ 0 0 [(0, .ref 0), (1, .int (nI c))] [] _
  refine ev_aload_n 0 dX4_fallToCallByHalving_0 rfl rfl ?_
  refine ev_iload_n 1 dX4_fallToCallByHalving_1 rfl rfl ?_
  refine ev_cV1 (c4_toldFall_0 _ _ _ _ hc h) kX4_toldFall rfl g1519 rfl rfl rfl rfl dX4_fallToCallByHalving_2 ?_
  exact ev_ireturn dX4_fallToCallByHalving_5 (Nat.le_of_ble_eq_true rfl) ⟨rfl, rfl⟩
set_option maxHeartbeats 1000000 in
theorem p4_hoursToCall_1 (σ z : Nat → Int32) (Y : RY) (g : PW) {p : Int32} (h : inB p (nI 0) (nI 7) = false) : Ct mX4_hoursToCall [.ref 0, .int p] (rw9 σ z Y g) (d1 (some (.int (nI 0))) (rw9 σ (upd z 2 (nI 1)) Y g)) nx := by
  refine ct_of 1 kX4_hoursToCall.1 rfl (Nat.le_of_ble_eq_true rfl) (fun v u h => by obtain ⟨rfl, rfl⟩ := h; exact rfl) ?_
  show Ev _ _ _ 0 0 [(0, .ref 0), (1, .int p)] [] _
  refine ev_aload_n 0 dX4_hoursToCall_0 rfl rfl ?_
  refine ev_iload_n 1 dX4_hoursToCall_1 rfl rfl ?_
  refine ev_cV1 (c4_is0 _ _ _ _ h) kX4_isThere rfl g1251 rfl rfl rfl rfl dX4_hoursToCall_2 ?_
  refine ev_if_eq 16 dX4_hoursToCall_5 (by decide) (fun h5 => ?_) (fun h5 => absurd (by decide) h5)
  refine ev_iconst (nI 0) dX4_hoursToCall_16 rfl ?_
  exact ev_ireturn dX4_hoursToCall_17 (Nat.le_of_ble_eq_true rfl) ⟨rfl, rfl⟩
set_option maxHeartbeats 1000000 in
theorem p4_hoursToCall_9 (σ z : Nat → Int32) (Y : RY) (g : PW) {c : Nat} (hc : c < 8) (h : isK σ c = true) : Ct mX4_hoursToCall [.ref 0, .int (nI c)] (rw9 σ z Y g) (d1 (some (.int (nI 0))) (rw9 σ (upd z 2 (nI 0)) Y g)) nx := by
  refine ct_of 1 kX4_hoursToCall.1 rfl (Nat.le_of_ble_eq_true rfl) (fun v u h => by obtain ⟨rfl, rfl⟩ := h; exact rfl) ?_
  show Ev _ _ _ 0 0 [(0, .ref 0), (1, .int (nI c))] [] _
  refine ev_aload_n 0 dX4_hoursToCall_0 rfl rfl ?_
  refine ev_iload_n 1 dX4_hoursToCall_1 rfl rfl ?_
  refine ev_cV1 (c4_is1 _ _ _ _ hc) kX4_isThere rfl g1251 rfl rfl rfl rfl dX4_hoursToCall_2 ?_
  refine ev_if_eq 16 dX4_hoursToCall_5 (by decide) (fun h5 => absurd h5 (by decide)) (fun h5 => ?_)
  refine ev_aload_n 0 dX4_hoursToCall_8 rfl rfl ?_
  refine ev_iload_n 1 dX4_hoursToCall_9 rfl rfl ?_
  refine ev_cV1 (c4_called _ _ _ _ (by omega)) kX4_called rfl g1204 rfl rfl rfl rfl dX4_hoursToCall_10 ?_
  refine ev_if_eq 18 dX4_hoursToCall_13 (by decide) (fun h13 => absurd h13 (bI_1.mpr h)) (fun h13 => ?_)
  refine ev_iconst (nI 0) dX4_hoursToCall_16 rfl ?_
  exact ev_ireturn dX4_hoursToCall_17 (Nat.le_of_ble_eq_true rfl) ⟨rfl, rfl⟩
set_option maxHeartbeats 1000000 in
theorem p4_hoursToCall_0 (σ z : Nat → Int32) (Y : RY) (g : PW) {c : Nat} (hc : c < 8) (h : isK σ c = false) (hh : htS σ c < 1000) : Ct mX4_hoursToCall [.ref 0, .int (nI c)] (rw9 σ z Y g) (d1 (some (.int (nI (htS σ c)))) (rw9 σ (upd z 2 (nI 0)) Y g)) nx := by
  refine ct_of 1 kX4_hoursToCall.1 rfl (Nat.le_of_ble_eq_true rfl) (fun v u h => by obtain ⟨rfl, rfl⟩ := h; exact rfl) ?_
  show Ev _ _ _ 0 0 [(0, .ref 0), (1, .int (nI c))] [] _
  refine ev_aload_n 0 dX4_hoursToCall_0 rfl rfl ?_
  refine ev_iload_n 1 dX4_hoursToCall_1 rfl rfl ?_
  refine ev_cV1 (c4_is1 _ _ _ _ hc) kX4_isThere rfl g1251 rfl rfl rfl rfl dX4_hoursToCall_2 ?_
  refine ev_if_eq 16 dX4_hoursToCall_5 (by decide) (fun h5 => absurd h5 (by decide)) (fun h5 => ?_)
  refine ev_aload_n 0 dX4_hoursToCall_8 rfl rfl ?_
  refine ev_iload_n 1 dX4_hoursToCall_9 rfl rfl ?_
  refine ev_cV1 (c4_called _ _ _ _ (by omega)) kX4_called rfl g1204 rfl rfl rfl rfl dX4_hoursToCall_10 ?_
  refine ev_if_eq 18 dX4_hoursToCall_13 (by decide) (fun h13 => ?_) (fun h13 => absurd (bI_0.mpr h) h13)
  refine ev_aload_n 0 dX4_hoursToCall_18 rfl rfl ?_
  refine ev_iload_n 1 dX4_hoursToCall_19 rfl rfl ?_
  refine ev_bipush (nI 7) dX4_hoursToCall_20 rfl ?_
  refine ev_cV2 (c4_of _ _ _ _ (by omega) (by omega)) kX4_of rfl g1188 rfl rfl rfl rfl dX4_hoursToCall_22 ?_
  refine ev_istore_n 2 dX4_hoursToCall_25 rfl (Nat.le_of_ble_eq_true rfl) rfl ?_
  refine ev_aload_n 0 dX4_hoursToCall_26 rfl rfl ?_
  refine ev_iload_n 1 dX4_hoursToCall_27 rfl rfl ?_
  refine ev_cV1 (c4_cover _ _ _ _ (by omega)) kX4_cover rfl g1192 rfl rfl rfl rfl dX4_hoursToCall_28 ?_
  refine ev_istore_n 3 dX4_hoursToCall_31 rfl (Nat.le_of_ble_eq_true rfl) rfl ?_
  refine ev_iconst (nI 0) dX4_hoursToCall_32 rfl ?_
  refine ev_istore dX4_hoursToCall_33 (Nat.le_of_ble_eq_true rfl) rfl ?_
  suffices H : ∀ fu (d : Int32) n, n + fu = 1000 → htF σ (covI σ c (nI 0) (nI 1)) fu d n = htS σ c → Ev mX4_hoursToCall (d1 (some (.int (nI (htS σ c)))) (rw9 σ (upd z 2 (nI 0)) Y g)) nx 0 35 [(4, .int (nI n)), (3, .int (covI σ c (nI 0) (nI 1))), (2, .int d), (0, .ref 0), (1, .int (nI c))] [] (rw9 σ (upd z 2 (nI 0)) Y g) from ev_sub [0, 1, 2, 3, 4] rfl (H 1000 (σ (ix c 7)) 0 rfl rfl)
  have F : ∀ (d : Int32) n, n = htS σ c → Ev mX4_hoursToCall (d1 (some (.int (nI (htS σ c)))) (rw9 σ (upd z 2 (nI 0)) Y g)) nx 0 68 [(4, .int (nI n)), (3, .int (covI σ c (nI 0) (nI 1))), (2, .int d), (0, .ref 0), (1, .int (nI c))] [] (rw9 σ (upd z 2 (nI 0)) Y g) := by
    intro d n hw
    subst hw
    refine ev_iload dX4_hoursToCall_68 rfl ?_
    refine ev_sipush (nI 1000) dX4_hoursToCall_70 rfl ?_
    refine ev_icmp_ge 81 dX4_hoursToCall_73 (by decide) (fun h73 => absurd h73 (nI_ge hh (by omega))) (fun h73 => ?_)
    refine ev_iload dX4_hoursToCall_76 rfl ?_
    refine ev_goto 86 dX4_hoursToCall_78 (by decide) ?_
    exact ev_ireturn dX4_hoursToCall_86 (Nat.le_of_ble_eq_true rfl) ⟨rfl, rfl⟩
  intro fu
  induction fu with
  | zero =>
    intro d n hn hw
    obtain rfl : 1000 = n := by omega
    refine ev_iload dX4_hoursToCall_35 rfl ?_
    refine ev_sipush (nI 1000) dX4_hoursToCall_37 rfl ?_
    refine ev_icmp_ge 68 dX4_hoursToCall_40 (by decide) (fun h40 => ?_) (fun h40 => absurd (nI_le (Nat.le_refl 1000) (by omega)) h40)
    exact ev_sub [0, 1, 2, 3, 4] rfl (F _ _ hw)
  | succ fu ih =>
    intro d n hn hw
    refine ev_iload dX4_hoursToCall_35 rfl ?_
    refine ev_sipush (nI 1000) dX4_hoursToCall_37 rfl ?_
    refine ev_icmp_ge 68 dX4_hoursToCall_40 (by decide) (fun h40 => absurd h40 (nI_ge (by omega) (by omega))) (fun h40 => ?_)
    refine ev_iload_n 2 dX4_hoursToCall_43 rfl rfl ?_
    refine ev_iload_n 3 dX4_hoursToCall_44 rfl rfl ?_
    refine ev_icmp_gt 68 dX4_hoursToCall_45 (by decide) (fun h45 => ?_) (fun h45 => ?_)
    · exact ev_sub [0, 1, 2, 3, 4] rfl (F _ _ (by rw [← hw]; exact (if_pos h45).symm))
    · have e9 : htF σ (covI σ c (nI 0) (nI 1)) (fu + 1) d n = htF σ (covI σ c (nI 0) (nI 1)) fu (d + intD σ d) (n + 1) := if_neg h45
      refine ev_iload_n 2 dX4_hoursToCall_48 rfl rfl ?_
      refine ev_iload_n 2 dX4_hoursToCall_49 rfl rfl ?_
      refine ev_aload_n 0 dX4_hoursToCall_50 rfl rfl ?_
      refine ev_getfield 0 dX4_hoursToCall_51 foX4_7 rfl rfl ?_
      refine ev_bipush (nI 98) dX4_hoursToCall_54 rfl ?_
      refine ev_ild (98) dX4_hoursToCall_56 rfl (by simp only [nI_m, nI_add, ix, oI]) (by omega) rfl ?_
      refine ev_cS2 (c4_interestOf _ _ _) kX4_interestOf rfl g1296 rfl rfl dX4_hoursToCall_57 ?_
      refine ev_iadd dX4_hoursToCall_60 ?_
      refine ev_istore_n 2 dX4_hoursToCall_61 rfl (Nat.le_of_ble_eq_true rfl) rfl ?_
      refine ev_iinc (nI (n + 1)) dX4_hoursToCall_62 rfl (nI_1 n) (Nat.le_of_ble_eq_true rfl) rfl ?_
      refine ev_goto 35 dX4_hoursToCall_65 (by decide) ?_
      exact ev_sub [0, 2, 1, 3, 4] rfl (ih (d + intD σ d) (n + 1) (by omega) (by rw [← e9]; exact hw))
set_option maxHeartbeats 1000000 in
theorem p4_hoursToCall_2 (σ z : Nat → Int32) (Y : RY) (g : PW) {c : Nat} (hc : c < 8) (h : isK σ c = false) (hh : 1000 ≤ htS σ c) : Ct mX4_hoursToCall [.ref 0, .int (nI c)] (rw9 σ z Y g) (d1 (some (.int (nI 0))) (rw9 σ (upd (upd z 2 (nI 0)) 2 (nI 2)) Y g)) nx := by
  refine ct_of 1 kX4_hoursToCall.1 rfl (Nat.le_of_ble_eq_true rfl) (fun v u h => by obtain ⟨rfl, rfl⟩ := h; exact rfl) ?_
  show Ev _ _ _ 0 0 [(0, .ref 0), (1, .int (nI c))] [] _
  refine ev_aload_n 0 dX4_hoursToCall_0 rfl rfl ?_
  refine ev_iload_n 1 dX4_hoursToCall_1 rfl rfl ?_
  refine ev_cV1 (c4_is1 _ _ _ _ hc) kX4_isThere rfl g1251 rfl rfl rfl rfl dX4_hoursToCall_2 ?_
  refine ev_if_eq 16 dX4_hoursToCall_5 (by decide) (fun h5 => absurd h5 (by decide)) (fun h5 => ?_)
  refine ev_aload_n 0 dX4_hoursToCall_8 rfl rfl ?_
  refine ev_iload_n 1 dX4_hoursToCall_9 rfl rfl ?_
  refine ev_cV1 (c4_called _ _ _ _ (by omega)) kX4_called rfl g1204 rfl rfl rfl rfl dX4_hoursToCall_10 ?_
  refine ev_if_eq 18 dX4_hoursToCall_13 (by decide) (fun h13 => ?_) (fun h13 => absurd (bI_0.mpr h) h13)
  refine ev_aload_n 0 dX4_hoursToCall_18 rfl rfl ?_
  refine ev_iload_n 1 dX4_hoursToCall_19 rfl rfl ?_
  refine ev_bipush (nI 7) dX4_hoursToCall_20 rfl ?_
  refine ev_cV2 (c4_of _ _ _ _ (by omega) (by omega)) kX4_of rfl g1188 rfl rfl rfl rfl dX4_hoursToCall_22 ?_
  refine ev_istore_n 2 dX4_hoursToCall_25 rfl (Nat.le_of_ble_eq_true rfl) rfl ?_
  refine ev_aload_n 0 dX4_hoursToCall_26 rfl rfl ?_
  refine ev_iload_n 1 dX4_hoursToCall_27 rfl rfl ?_
  refine ev_cV1 (c4_cover _ _ _ _ (by omega)) kX4_cover rfl g1192 rfl rfl rfl rfl dX4_hoursToCall_28 ?_
  refine ev_istore_n 3 dX4_hoursToCall_31 rfl (Nat.le_of_ble_eq_true rfl) rfl ?_
  refine ev_iconst (nI 0) dX4_hoursToCall_32 rfl ?_
  refine ev_istore dX4_hoursToCall_33 (Nat.le_of_ble_eq_true rfl) rfl ?_
  suffices H : ∀ fu (d : Int32) n, n + fu = 1000 → htF σ (covI σ c (nI 0) (nI 1)) fu d n = htS σ c → Ev mX4_hoursToCall (d1 (some (.int (nI 0))) (rw9 σ (upd (upd z 2 (nI 0)) 2 (nI 2)) Y g)) nx 0 35 [(4, .int (nI n)), (3, .int (covI σ c (nI 0) (nI 1))), (2, .int d), (0, .ref 0), (1, .int (nI c))] [] (rw9 σ (upd z 2 (nI 0)) Y g) from ev_sub [0, 1, 2, 3, 4] rfl (H 1000 (σ (ix c 7)) 0 rfl rfl)
  have F : ∀ (d : Int32) n, n = htS σ c → Ev mX4_hoursToCall (d1 (some (.int (nI 0))) (rw9 σ (upd (upd z 2 (nI 0)) 2 (nI 2)) Y g)) nx 0 68 [(4, .int (nI n)), (3, .int (covI σ c (nI 0) (nI 1))), (2, .int d), (0, .ref 0), (1, .int (nI c))] [] (rw9 σ (upd z 2 (nI 0)) Y g) := by
    intro d n hw
    subst hw
    refine ev_iload dX4_hoursToCall_68 rfl ?_
    refine ev_sipush (nI 1000) dX4_hoursToCall_70 rfl ?_
    refine ev_icmp_ge 81 dX4_hoursToCall_73 (by decide) (fun h73 => ?_) (fun h73 => absurd (nI_le hh (by have := htF_le (σ := σ) (cv := covI σ c (nI 0) (nI 1)) (f := 1000) (d := σ (ix c 7)) (n := 0); simp only [htS]; omega)) h73)
    refine ev_aload_n 0 dX4_hoursToCall_81 rfl rfl ?_
    refine ev_iconst (nI 2) dX4_hoursToCall_82 rfl ?_
    refine ev_cV1 (c4_throwing _ _ _ _ _) kX4_throwing rfl g1172 rfl rfl rfl rfl dX4_hoursToCall_83 ?_
    exact ev_ireturn dX4_hoursToCall_86 (Nat.le_of_ble_eq_true rfl) ⟨rfl, rfl⟩
  intro fu
  induction fu with
  | zero =>
    intro d n hn hw
    obtain rfl : 1000 = n := by omega
    refine ev_iload dX4_hoursToCall_35 rfl ?_
    refine ev_sipush (nI 1000) dX4_hoursToCall_37 rfl ?_
    refine ev_icmp_ge 68 dX4_hoursToCall_40 (by decide) (fun h40 => ?_) (fun h40 => absurd (nI_le (Nat.le_refl 1000) (by omega)) h40)
    exact ev_sub [0, 1, 2, 3, 4] rfl (F _ _ hw)
  | succ fu ih =>
    intro d n hn hw
    refine ev_iload dX4_hoursToCall_35 rfl ?_
    refine ev_sipush (nI 1000) dX4_hoursToCall_37 rfl ?_
    refine ev_icmp_ge 68 dX4_hoursToCall_40 (by decide) (fun h40 => absurd h40 (nI_ge (by omega) (by omega))) (fun h40 => ?_)
    refine ev_iload_n 2 dX4_hoursToCall_43 rfl rfl ?_
    refine ev_iload_n 3 dX4_hoursToCall_44 rfl rfl ?_
    refine ev_icmp_gt 68 dX4_hoursToCall_45 (by decide) (fun h45 => ?_) (fun h45 => ?_)
    · exact ev_sub [0, 1, 2, 3, 4] rfl (F _ _ (by rw [← hw]; exact (if_pos h45).symm))
    · have e9 : htF σ (covI σ c (nI 0) (nI 1)) (fu + 1) d n = htF σ (covI σ c (nI 0) (nI 1)) fu (d + intD σ d) (n + 1) := if_neg h45
      refine ev_iload_n 2 dX4_hoursToCall_48 rfl rfl ?_
      refine ev_iload_n 2 dX4_hoursToCall_49 rfl rfl ?_
      refine ev_aload_n 0 dX4_hoursToCall_50 rfl rfl ?_
      refine ev_getfield 0 dX4_hoursToCall_51 foX4_7 rfl rfl ?_
      refine ev_bipush (nI 98) dX4_hoursToCall_54 rfl ?_
      refine ev_ild (98) dX4_hoursToCall_56 rfl (by simp only [nI_m, nI_add, ix, oI]) (by omega) rfl ?_
      refine ev_cS2 (c4_interestOf _ _ _) kX4_interestOf rfl g1296 rfl rfl dX4_hoursToCall_57 ?_
      refine ev_iadd dX4_hoursToCall_60 ?_
      refine ev_istore_n 2 dX4_hoursToCall_61 rfl (Nat.le_of_ble_eq_true rfl) rfl ?_
      refine ev_iinc (nI (n + 1)) dX4_hoursToCall_62 rfl (nI_1 n) (Nat.le_of_ble_eq_true rfl) rfl ?_
      refine ev_goto 35 dX4_hoursToCall_65 (by decide) ?_
      exact ev_sub [0, 2, 1, 3, 4] rfl (ih (d + intD σ d) (n + 1) (by omega) (by rw [← e9]; exact hw))
set_option maxHeartbeats 1000000 in
theorem c4_would_n (σ z : Nat → Int32) (Y : RY) (g : PW) {c : Nat} (hc : c < 8) (hn : nP σ c 6 ≤ 594) : Ct mX4_would [.ref 0, .int (nI c), .int (nI 0)] (rw9 σ z Y g) (d1 (some (.int ((sellsS σ c).2))) (rw9 σ z (Y.1, Y.2.1, Y.2.2.1, σ, Y.2.2.2.2) g)) nx := by
  refine ct_of 2 kX4_would.1 rfl (Nat.le_of_ble_eq_true rfl) (fun v u h => by obtain ⟨rfl, rfl⟩ := h; exact rfl) ?_
  show Ev _ _ _ 0 0 [(0, .ref 0), (1, .int (nI c)), (2, .int (nI 0))] [] _
  refine ev_aload_n 0 dX4_would_0 rfl rfl ?_
  refine ev_cV0v (c4_keepsAside _ _ _ _) kX4_keepsAside rfl g1371 rfl rfl rfl rfl dX4_would_1 ?_
  refine ev_aload_n 0 dX4_would_4 rfl rfl ?_
  refine ev_getfield 0 dX4_would_5 foX4_7 rfl rfl ?_
  refine ev_bipush (nI 106) dX4_would_8 rfl ?_
  refine ev_ild (106) dX4_would_10 rfl (by simp only [nI_m, nI_add, ix, oI]) (by omega) rfl ?_
  refine ev_istore_n 3 dX4_would_11 rfl (Nat.le_of_ble_eq_true rfl) rfl ?_
  refine ev_aload_n 0 dX4_would_12 rfl rfl ?_
  refine ev_iload_n 1 dX4_would_13 rfl rfl ?_
  refine ev_cV1 (c4_sellsOut _ _ _ _ (by omega) (by assumption)) kX4_sellsOut rfl g1299 rfl rfl rfl rfl dX4_would_14 ?_
  refine ev_istore dX4_would_17 (Nat.le_of_ble_eq_true rfl) rfl ?_
  refine ev_aload_n 0 dX4_would_19 rfl rfl ?_
  refine ev_getfield 0 dX4_would_20 foX4_7 rfl rfl ?_
  refine ev_bipush (nI 106) dX4_would_23 rfl ?_
  refine ev_ild (106) dX4_would_25 rfl (by simp only [nI_m, nI_add, ix, oI]) (by omega) rfl ?_
  refine ev_iload_n 3 dX4_would_26 rfl rfl ?_
  refine ev_isub dX4_would_27 ?_
  refine ev_istore dX4_would_28 (Nat.le_of_ble_eq_true rfl) rfl ?_
  refine ev_aload_n 0 dX4_would_30 rfl rfl ?_
  refine ev_cV0v (c4_putsBack _ _ _ _) kX4_putsBack rfl g1375 rfl rfl rfl rfl dX4_would_31 ?_
  refine ev_w rw_back ?_
  refine ev_iload_n 2 dX4_would_34 rfl rfl ?_
  refine ev_if_eq 43 dX4_would_35 (by decide) (fun h35 => ?_) (fun h35 => absurd rfl h35)
  refine ev_iload dX4_would_43 rfl ?_
  exact ev_ireturn dX4_would_45 (Nat.le_of_ble_eq_true rfl) ⟨rfl, rfl⟩
set_option maxHeartbeats 1000000 in
theorem c4_would_l (σ z : Nat → Int32) (Y : RY) (g : PW) {c : Nat} (hc : c < 8) (hn : nP σ c 6 ≤ 594) : Ct mX4_would [.ref 0, .int (nI c), .int (nI 1)] (rw9 σ z Y g) (d1 (some (.int ((sellsS σ c).1 106 - σ 106))) (rw9 σ z (Y.1, Y.2.1, Y.2.2.1, σ, Y.2.2.2.2) g)) nx := by
  refine ct_of 2 kX4_would.1 rfl (Nat.le_of_ble_eq_true rfl) (fun v u h => by obtain ⟨rfl, rfl⟩ := h; exact rfl) ?_
  show Ev _ _ _ 0 0 [(0, .ref 0), (1, .int (nI c)), (2, .int (nI 1))] [] _
  refine ev_aload_n 0 dX4_would_0 rfl rfl ?_
  refine ev_cV0v (c4_keepsAside _ _ _ _) kX4_keepsAside rfl g1371 rfl rfl rfl rfl dX4_would_1 ?_
  refine ev_aload_n 0 dX4_would_4 rfl rfl ?_
  refine ev_getfield 0 dX4_would_5 foX4_7 rfl rfl ?_
  refine ev_bipush (nI 106) dX4_would_8 rfl ?_
  refine ev_ild (106) dX4_would_10 rfl (by simp only [nI_m, nI_add, ix, oI]) (by omega) rfl ?_
  refine ev_istore_n 3 dX4_would_11 rfl (Nat.le_of_ble_eq_true rfl) rfl ?_
  refine ev_aload_n 0 dX4_would_12 rfl rfl ?_
  refine ev_iload_n 1 dX4_would_13 rfl rfl ?_
  refine ev_cV1 (c4_sellsOut _ _ _ _ (by omega) (by assumption)) kX4_sellsOut rfl g1299 rfl rfl rfl rfl dX4_would_14 ?_
  refine ev_istore dX4_would_17 (Nat.le_of_ble_eq_true rfl) rfl ?_
  refine ev_aload_n 0 dX4_would_19 rfl rfl ?_
  refine ev_getfield 0 dX4_would_20 foX4_7 rfl rfl ?_
  refine ev_bipush (nI 106) dX4_would_23 rfl ?_
  refine ev_ild (106) dX4_would_25 rfl (by simp only [nI_m, nI_add, ix, oI]) (by omega) rfl ?_
  refine ev_iload_n 3 dX4_would_26 rfl rfl ?_
  refine ev_isub dX4_would_27 ?_
  refine ev_istore dX4_would_28 (Nat.le_of_ble_eq_true rfl) rfl ?_
  refine ev_aload_n 0 dX4_would_30 rfl rfl ?_
  refine ev_cV0v (c4_putsBack _ _ _ _) kX4_putsBack rfl g1375 rfl rfl rfl rfl dX4_would_31 ?_
  refine ev_w rw_back ?_
  refine ev_iload_n 2 dX4_would_34 rfl rfl ?_
  refine ev_if_eq 43 dX4_would_35 (by decide) (fun h35 => absurd h35 (by decide)) (fun h35 => ?_)
  refine ev_iload dX4_would_38 rfl ?_
  refine ev_goto 45 dX4_would_40 (by decide) ?_
  exact ev_ireturn dX4_would_45 (Nat.le_of_ble_eq_true rfl) ⟨rfl, rfl⟩
set_option maxHeartbeats 1000000 in
theorem p4_wouldSell_1 (σ z : Nat → Int32) (Y : RY) (g : PW) {p : Int32} (h : inB p (nI 0) (nI 7) = false) : Ct mX4_wouldSell [.ref 0, .int p] (rw9 σ z Y g) (d1 (some (.int (nI 0))) (rw9 σ (upd z 2 (nI 1)) Y g)) nx := by
  refine ct_of 1 kX4_wouldSell.1 rfl (Nat.le_of_ble_eq_true rfl) (fun v u h => by obtain ⟨rfl, rfl⟩ := h; exact rfl) ?_
  show Ev _ _ _ 0 0 [(0, .ref 0), (1, .int p)] [] _
  refine ev_aload_n 0 dX4_wouldSell_0 rfl rfl ?_
  refine ev_iload_n 1 dX4_wouldSell_1 rfl rfl ?_
  refine ev_cV1 (c4_is0 _ _ _ _ h) kX4_isThere rfl g1251 rfl rfl rfl rfl dX4_wouldSell_2 ?_
  refine ev_if_eq 17 dX4_wouldSell_5 (by decide) (fun h5 => ?_) (fun h5 => absurd (by decide) h5)
  refine ev_iconst (nI 0) dX4_wouldSell_17 rfl ?_
  exact ev_ireturn dX4_wouldSell_18 (Nat.le_of_ble_eq_true rfl) ⟨rfl, rfl⟩
set_option maxHeartbeats 1000000 in
theorem p4_wouldSell_0 (σ z : Nat → Int32) (Y : RY) (g : PW) {c : Nat} (hc : c < 8) (hn : nP σ c 6 ≤ 594) : Ct mX4_wouldSell [.ref 0, .int (nI c)] (rw9 σ z Y g) (d1 (some (.int ((sellsS σ c).2))) (rw9 σ (upd z 2 (nI 0)) (Y.1, Y.2.1, Y.2.2.1, σ, Y.2.2.2.2) g)) nx := by
  refine ct_of 1 kX4_wouldSell.1 rfl (Nat.le_of_ble_eq_true rfl) (fun v u h => by obtain ⟨rfl, rfl⟩ := h; exact rfl) ?_
  show Ev _ _ _ 0 0 [(0, .ref 0), (1, .int (nI c))] [] _
  refine ev_aload_n 0 dX4_wouldSell_0 rfl rfl ?_
  refine ev_iload_n 1 dX4_wouldSell_1 rfl rfl ?_
  refine ev_cV1 (c4_is1 _ _ _ _ hc) kX4_isThere rfl g1251 rfl rfl rfl rfl dX4_wouldSell_2 ?_
  refine ev_if_eq 17 dX4_wouldSell_5 (by decide) (fun h5 => absurd h5 (by decide)) (fun h5 => ?_)
  refine ev_aload_n 0 dX4_wouldSell_8 rfl rfl ?_
  refine ev_iload_n 1 dX4_wouldSell_9 rfl rfl ?_
  refine ev_iconst (nI 0) dX4_wouldSell_10 rfl ?_
  refine ev_cV2 (c4_would_n _ _ _ _ hc hn) kX4_would rfl g1539 rfl rfl rfl rfl dX4_wouldSell_11 ?_
  refine ev_goto 18 dX4_wouldSell_14 (by decide) ?_
  exact ev_ireturn dX4_wouldSell_18 (Nat.le_of_ble_eq_true rfl) ⟨rfl, rfl⟩
set_option maxHeartbeats 1000000 in
theorem p4_wouldLose_1 (σ z : Nat → Int32) (Y : RY) (g : PW) {p : Int32} (h : inB p (nI 0) (nI 7) = false) : Ct mX4_wouldLose [.ref 0, .int p] (rw9 σ z Y g) (d1 (some (.int (nI 0))) (rw9 σ (upd z 2 (nI 1)) Y g)) nx := by
  refine ct_of 1 kX4_wouldLose.1 rfl (Nat.le_of_ble_eq_true rfl) (fun v u h => by obtain ⟨rfl, rfl⟩ := h; exact rfl) ?_
  show Ev _ _ _ 0 0 [(0, .ref 0), (1, .int p)] [] _
  refine ev_aload_n 0 dX4_wouldLose_0 rfl rfl ?_
  refine ev_iload_n 1 dX4_wouldLose_1 rfl rfl ?_
  refine ev_cV1 (c4_is0 _ _ _ _ h) kX4_isThere rfl g1251 rfl rfl rfl rfl dX4_wouldLose_2 ?_
  refine ev_if_eq 17 dX4_wouldLose_5 (by decide) (fun h5 => ?_) (fun h5 => absurd (by decide) h5)
  refine ev_iconst (nI 0) dX4_wouldLose_17 rfl ?_
  exact ev_ireturn dX4_wouldLose_18 (Nat.le_of_ble_eq_true rfl) ⟨rfl, rfl⟩
set_option maxHeartbeats 1000000 in
theorem p4_wouldLose_0 (σ z : Nat → Int32) (Y : RY) (g : PW) {c : Nat} (hc : c < 8) (hn : nP σ c 6 ≤ 594) : Ct mX4_wouldLose [.ref 0, .int (nI c)] (rw9 σ z Y g) (d1 (some (.int ((sellsS σ c).1 106 - σ 106))) (rw9 σ (upd z 2 (nI 0)) (Y.1, Y.2.1, Y.2.2.1, σ, Y.2.2.2.2) g)) nx := by
  refine ct_of 1 kX4_wouldLose.1 rfl (Nat.le_of_ble_eq_true rfl) (fun v u h => by obtain ⟨rfl, rfl⟩ := h; exact rfl) ?_
  show Ev _ _ _ 0 0 [(0, .ref 0), (1, .int (nI c))] [] _
  refine ev_aload_n 0 dX4_wouldLose_0 rfl rfl ?_
  refine ev_iload_n 1 dX4_wouldLose_1 rfl rfl ?_
  refine ev_cV1 (c4_is1 _ _ _ _ hc) kX4_isThere rfl g1251 rfl rfl rfl rfl dX4_wouldLose_2 ?_
  refine ev_if_eq 17 dX4_wouldLose_5 (by decide) (fun h5 => absurd h5 (by decide)) (fun h5 => ?_)
  refine ev_aload_n 0 dX4_wouldLose_8 rfl rfl ?_
  refine ev_iload_n 1 dX4_wouldLose_9 rfl rfl ?_
  refine ev_iconst (nI 1) dX4_wouldLose_10 rfl ?_
  refine ev_cV2 (c4_would_l _ _ _ _ hc hn) kX4_would rfl g1539 rfl rfl rfl rfl dX4_wouldLose_11 ?_
  refine ev_goto 18 dX4_wouldLose_14 (by decide) ?_
  exact ev_ireturn dX4_wouldLose_18 (Nat.le_of_ble_eq_true rfl) ⟨rfl, rfl⟩
set_option maxHeartbeats 1000000 in
theorem c4_ifFallen (σ z : Nat → Int32) (Y : RY) (g : PW) (q : Int32) : Ct mX4_ifFallen [.ref 0, .int q] (rw9 σ z Y g) (d1 (some (.int (ifFS σ q 8))) (rw9 σ z Y g)) nx := by
  refine ct_of 1 kX4_ifFallen.1 rfl (Nat.le_of_ble_eq_true rfl) (fun v u h => by obtain ⟨rfl, rfl⟩ := h; exact rfl) ?_
  show Ev _ _ _ 0 0 [(0, .ref 0), (1, .int q)] [] _
  refine ev_iconst (nI 0) dX4_ifFallen_0 rfl ?_
  refine ev_istore_n 2 dX4_ifFallen_1 rfl (Nat.le_of_ble_eq_true rfl) rfl ?_
  refine ev_iconst (nI 0) dX4_ifFallen_2 rfl ?_
  refine ev_istore_n 3 dX4_ifFallen_3 rfl (Nat.le_of_ble_eq_true rfl) rfl ?_
  suffices H : ∀ fu j, j + fu = 8 → Ev mX4_ifFallen (d1 (some (.int (ifFS σ q 8))) (rw9 σ z Y g)) nx 0 4 [(3, .int (nI (j))), (2, .int (ifFS σ q (j))), (0, .ref 0), (1, .int q)] [] ((rw9 σ z Y g)) from ev_sub [0, 1, 2, 3] rfl (H 8 0 (Nat.zero_add _))
  intro fu
  induction fu with
  | zero =>
    intro j hj
    obtain rfl : 8 = j := by omega
    refine ev_iload_n 3 dX4_ifFallen_4 rfl rfl ?_
    refine ev_bipush (nI 8) dX4_ifFallen_5 rfl ?_
    refine ev_icmp_ge 41 dX4_ifFallen_7 (by decide) (fun h7 => ?_) (fun h7 => absurd (nI_le (Nat.le_refl 8) (by omega)) h7)
    refine ev_iload_n 2 dX4_ifFallen_41 rfl rfl ?_
    exact ev_ireturn dX4_ifFallen_42 (Nat.le_of_ble_eq_true rfl) ⟨rfl, rfl⟩
  | succ fu ih =>
    intro j hj
    have hj6 : j < 8 := by omega
    refine ev_iload_n 3 dX4_ifFallen_4 rfl rfl ?_
    refine ev_bipush (nI 8) dX4_ifFallen_5 rfl ?_
    refine ev_icmp_ge 41 dX4_ifFallen_7 (by decide) (fun h7 => absurd h7 (nI_ge hj6 (by omega))) (fun h7 => ?_)
    refine ev_iload_n 2 dX4_ifFallen_10 rfl rfl ?_
    refine ev_aload_n 0 dX4_ifFallen_11 rfl rfl ?_
    refine ev_iload_n 3 dX4_ifFallen_12 rfl rfl ?_
    refine ev_bipush (nI 7) dX4_ifFallen_13 rfl ?_
    refine ev_cV2 (c4_of _ _ _ _ (by omega) (by omega)) kX4_of rfl g1188 rfl rfl rfl rfl dX4_ifFallen_15 ?_
    refine ev_aload_n 0 dX4_ifFallen_18 rfl rfl ?_
    refine ev_iload_n 3 dX4_ifFallen_19 rfl rfl ?_
    refine ev_iload_n 1 dX4_ifFallen_20 rfl rfl ?_
    refine ev_iconst (nI 1) dX4_ifFallen_21 rfl ?_
    refine ev_cV3 (c4_coverIf _ _ _ _ (by omega) _ _) kX4_coverIf rfl g1196 rfl rfl rfl rfl dX4_ifFallen_22 ?_
    suffices J25 : Ev mX4_ifFallen (d1 (some (.int (ifFS σ q 8))) (rw9 σ z Y g)) nx 0 33 [(3, .int (nI j)), (2, .int (ifFS σ q j)), (0, .ref 0), (1, .int q)] [.int (bI (decide (covI σ j q (nI 1) < σ (ix j 7)))), .int (ifFS σ q j)] (rw9 σ z Y g) by
      refine ev_icmp_le 32 dX4_ifFallen_25 (by decide) (fun h25 => ?_) (fun h25 => ?_)
      · refine ev_iconst (nI 0) dX4_ifFallen_32 rfl ?_
        exact ev_sub [0, 1, 2, 3] rfl (ev_top _ (by first | (rw [decide_eq_false (Int32.not_lt.mpr h25)]; rfl) | (rw [decide_eq_true (Int32.not_le.mp h25)]; rfl)) J25)
      · refine ev_iconst (nI 1) dX4_ifFallen_28 rfl ?_
        refine ev_goto 33 dX4_ifFallen_29 (by decide) ?_
        exact ev_sub [0, 1, 2, 3] rfl (ev_top _ (by first | (rw [decide_eq_false (Int32.not_lt.mpr h25)]; rfl) | (rw [decide_eq_true (Int32.not_le.mp h25)]; rfl)) J25)
    refine ev_iadd dX4_ifFallen_33 ?_
    refine ev_istore_n 2 dX4_ifFallen_34 rfl (Nat.le_of_ble_eq_true rfl) rfl ?_
    refine ev_iinc (nI (j + 1)) dX4_ifFallen_35 rfl (nI_1 j) (Nat.le_of_ble_eq_true rfl) rfl ?_
    refine ev_goto 4 dX4_ifFallen_38 (by decide) ?_
    exact ev_sub [0, 1, 2, 3] rfl (ih (j + 1) (by omega))
set_option maxHeartbeats 1000000 in
theorem p4_calledIfFallen_1 (σ z : Nat → Int32) (Y : RY) (g : PW) {v : Int32} (h : inB v (nI 1) (nI 90) = false) : Ct mX4_calledIfFallen [.ref 0, .int v] (rw9 σ z Y g) (d1 (some (.int (nI 0))) (rw9 σ (upd (upd z 2 (nI 0)) 2 (nI 1)) Y g)) nx := by
  refine ct_of 1 kX4_calledIfFallen.1 rfl (Nat.le_of_ble_eq_true rfl) (fun v u h => by obtain ⟨rfl, rfl⟩ := h; exact rfl) ?_
  show Ev _ _ _ 0 0 [(0, .ref 0), (1, .int v)] [] _
  refine ev_aload_n 0 dX4_calledIfFallen_0 rfl rfl ?_
  refine ev_iconst (nI 0) dX4_calledIfFallen_1 rfl ?_
  refine ev_putfield 8 dX4_calledIfFallen_2 fpX4_29 rfl (Nat.le_of_ble_eq_true rfl) (fun _ => rfl) (fun _ => rfl) (rz2 _ _ _ _ _) ?_
  refine ev_iload_n 1 dX4_calledIfFallen_5 rfl rfl ?_
  refine ev_iconst (nI 1) dX4_calledIfFallen_6 rfl ?_
  refine ev_bipush (nI 90) dX4_calledIfFallen_7 rfl ?_
  refine ev_cS3 (c4_in0 _ h) kX4_in rfl g1165 rfl rfl dX4_calledIfFallen_9 ?_
  refine ev_if_eq 23 dX4_calledIfFallen_12 (by decide) (fun h12 => ?_) (fun h12 => absurd (by decide) h12)
  refine ev_aload_n 0 dX4_calledIfFallen_23 rfl rfl ?_
  refine ev_iconst (nI 1) dX4_calledIfFallen_24 rfl ?_
  refine ev_cV1 (c4_throwing _ _ _ _ _) kX4_throwing rfl g1172 rfl rfl rfl rfl dX4_calledIfFallen_25 ?_
  exact ev_ireturn dX4_calledIfFallen_28 (Nat.le_of_ble_eq_true rfl) ⟨rfl, rfl⟩
set_option maxHeartbeats 1000000 in
theorem p4_calledIfFallen_0 (σ z : Nat → Int32) (Y : RY) (g : PW) {v : Int32} (h : inB v (nI 1) (nI 90) = true) : Ct mX4_calledIfFallen [.ref 0, .int v] (rw9 σ z Y g) (d1 (some (.int (ifFS σ v 8))) (rw9 σ (upd z 2 (nI 0)) Y g)) nx := by
  refine ct_of 1 kX4_calledIfFallen.1 rfl (Nat.le_of_ble_eq_true rfl) (fun v u h => by obtain ⟨rfl, rfl⟩ := h; exact rfl) ?_
  show Ev _ _ _ 0 0 [(0, .ref 0), (1, .int v)] [] _
  refine ev_aload_n 0 dX4_calledIfFallen_0 rfl rfl ?_
  refine ev_iconst (nI 0) dX4_calledIfFallen_1 rfl ?_
  refine ev_putfield 8 dX4_calledIfFallen_2 fpX4_29 rfl (Nat.le_of_ble_eq_true rfl) (fun _ => rfl) (fun _ => rfl) (rz2 _ _ _ _ _) ?_
  refine ev_iload_n 1 dX4_calledIfFallen_5 rfl rfl ?_
  refine ev_iconst (nI 1) dX4_calledIfFallen_6 rfl ?_
  refine ev_bipush (nI 90) dX4_calledIfFallen_7 rfl ?_
  refine ev_cS3 (c4_in1 _ h) kX4_in rfl g1165 rfl rfl dX4_calledIfFallen_9 ?_
  refine ev_if_eq 23 dX4_calledIfFallen_12 (by decide) (fun h12 => absurd h12 (by decide)) (fun h12 => ?_)
  refine ev_aload_n 0 dX4_calledIfFallen_15 rfl rfl ?_
  refine ev_iload_n 1 dX4_calledIfFallen_16 rfl rfl ?_
  refine ev_cV1 (c4_ifFallen _ _ _ _ _) kX4_ifFallen rfl g1551 rfl rfl rfl rfl dX4_calledIfFallen_17 ?_
  refine ev_goto 28 dX4_calledIfFallen_20 (by decide) ?_
  exact ev_ireturn dX4_calledIfFallen_28 (Nat.le_of_ble_eq_true rfl) ⟨rfl, rfl⟩
set_option maxHeartbeats 1000000 in
theorem c4_debts (σ z : Nat → Int32) (Y : RY) (g : PW)  : Ct mX4_debts [.ref 0] (rw9 σ z Y g) (d1 (some (.int (dbS σ 8))) (rw9 σ z Y g)) nx := by
  refine ct_of 0 kX4_debts.1 rfl (Nat.le_of_ble_eq_true rfl) (fun v u h => by obtain ⟨rfl, rfl⟩ := h; exact rfl) ?_
  show Ev _ _ _ 0 0 [(0, .ref 0)] [] _
  refine ev_iconst (nI 0) dX4_debts_0 rfl ?_
  refine ev_istore_n 1 dX4_debts_1 rfl (Nat.le_of_ble_eq_true rfl) rfl ?_
  refine ev_iconst (nI 0) dX4_debts_2 rfl ?_
  refine ev_istore_n 2 dX4_debts_3 rfl (Nat.le_of_ble_eq_true rfl) rfl ?_
  suffices H : ∀ fu j, j + fu = 8 → Ev mX4_debts (d1 (some (.int (dbS σ 8))) (rw9 σ z Y g)) nx 0 4 [(2, .int (nI (j))), (1, .int (dbS σ (j))), (0, .ref 0)] [] ((rw9 σ z Y g)) from ev_sub [0, 1, 2] rfl (H 8 0 (Nat.zero_add _))
  intro fu
  induction fu with
  | zero =>
    intro j hj
    obtain rfl : 8 = j := by omega
    refine ev_iload_n 2 dX4_debts_4 rfl rfl ?_
    refine ev_bipush (nI 8) dX4_debts_5 rfl ?_
    refine ev_icmp_ge 26 dX4_debts_7 (by decide) (fun h7 => ?_) (fun h7 => absurd (nI_le (Nat.le_refl 8) (by omega)) h7)
    refine ev_iload_n 1 dX4_debts_26 rfl rfl ?_
    exact ev_ireturn dX4_debts_27 (Nat.le_of_ble_eq_true rfl) ⟨rfl, rfl⟩
  | succ fu ih =>
    intro j hj
    have hj6 : j < 8 := by omega
    refine ev_iload_n 2 dX4_debts_4 rfl rfl ?_
    refine ev_bipush (nI 8) dX4_debts_5 rfl ?_
    refine ev_icmp_ge 26 dX4_debts_7 (by decide) (fun h7 => absurd h7 (nI_ge hj6 (by omega))) (fun h7 => ?_)
    refine ev_iload_n 1 dX4_debts_10 rfl rfl ?_
    refine ev_aload_n 0 dX4_debts_11 rfl rfl ?_
    refine ev_iload_n 2 dX4_debts_12 rfl rfl ?_
    refine ev_bipush (nI 7) dX4_debts_13 rfl ?_
    refine ev_cV2 (c4_of _ _ _ _ (by omega) (by omega)) kX4_of rfl g1188 rfl rfl rfl rfl dX4_debts_15 ?_
    refine ev_iadd dX4_debts_18 ?_
    refine ev_istore_n 1 dX4_debts_19 rfl (Nat.le_of_ble_eq_true rfl) rfl ?_
    refine ev_iinc (nI (j + 1)) dX4_debts_20 rfl (nI_1 j) (Nat.le_of_ble_eq_true rfl) rfl ?_
    refine ev_goto 4 dX4_debts_23 (by decide) ?_
    exact ev_sub [0, 1, 2] rfl (ih (j + 1) (by omega))
set_option maxHeartbeats 1000000 in
theorem p4_debtsByClients (σ z : Nat → Int32) (Y : RY) (g : PW)  : Ct mX4_debtsByClients [.ref 0] (rw9 σ z Y g) (d1 (some (.int (dbS σ 8))) (rw9 σ (upd z 2 (nI 0)) Y g)) nx := by
  refine ct_of 0 kX4_debtsByClients.1 rfl (Nat.le_of_ble_eq_true rfl) (fun v u h => by obtain ⟨rfl, rfl⟩ := h; exact rfl) ?_
  show Ev _ _ _ 0 0 [(0, .ref 0)] [] _
  refine ev_aload_n 0 dX4_debtsByClients_0 rfl rfl ?_
  refine ev_iconst (nI 0) dX4_debtsByClients_1 rfl ?_
  refine ev_putfield 8 dX4_debtsByClients_2 fpX4_29 rfl (Nat.le_of_ble_eq_true rfl) (fun _ => rfl) (fun _ => rfl) (rz2 _ _ _ _ _) ?_
  refine ev_aload_n 0 dX4_debtsByClients_5 rfl rfl ?_
  refine ev_cV0 (c4_debts _ _ _ _) kX4_debts rfl g1563 rfl rfl rfl rfl dX4_debtsByClients_6 ?_
  exact ev_ireturn dX4_debtsByClients_9 (Nat.le_of_ble_eq_true rfl) ⟨rfl, rfl⟩
set_option maxHeartbeats 1000000 in
theorem p4_debtsByAccount (σ z : Nat → Int32) (Y : RY) (g : PW)  : Ct mX4_debtsByAccount [.ref 0] (rw9 σ z Y g) (d1 (some (.int (σ 103 + σ 104 - σ 105 - σ 106))) (rw9 σ (upd z 2 (nI 0)) Y g)) nx := by
  refine ct_of 0 kX4_debtsByAccount.1 rfl (Nat.le_of_ble_eq_true rfl) (fun v u h => by obtain ⟨rfl, rfl⟩ := h; exact rfl) ?_
  show Ev _ _ _ 0 0 [(0, .ref 0)] [] _
  refine ev_aload_n 0 dX4_debtsByAccount_0 rfl rfl ?_
  refine ev_iconst (nI 0) dX4_debtsByAccount_1 rfl ?_
  refine ev_putfield 8 dX4_debtsByAccount_2 fpX4_29 rfl (Nat.le_of_ble_eq_true rfl) (fun _ => rfl) (fun _ => rfl) (rz2 _ _ _ _ _) ?_
  refine ev_aload_n 0 dX4_debtsByAccount_5 rfl rfl ?_
  refine ev_getfield 0 dX4_debtsByAccount_6 foX4_7 rfl rfl ?_
  refine ev_bipush (nI 103) dX4_debtsByAccount_9 rfl ?_
  refine ev_ild (103) dX4_debtsByAccount_11 rfl (by simp only [nI_m, nI_add, ix, oI]) (by omega) rfl ?_
  refine ev_aload_n 0 dX4_debtsByAccount_12 rfl rfl ?_
  refine ev_getfield 0 dX4_debtsByAccount_13 foX4_7 rfl rfl ?_
  refine ev_bipush (nI 104) dX4_debtsByAccount_16 rfl ?_
  refine ev_ild (104) dX4_debtsByAccount_18 rfl (by simp only [nI_m, nI_add, ix, oI]) (by omega) rfl ?_
  refine ev_iadd dX4_debtsByAccount_19 ?_
  refine ev_aload_n 0 dX4_debtsByAccount_20 rfl rfl ?_
  refine ev_getfield 0 dX4_debtsByAccount_21 foX4_7 rfl rfl ?_
  refine ev_bipush (nI 105) dX4_debtsByAccount_24 rfl ?_
  refine ev_ild (105) dX4_debtsByAccount_26 rfl (by simp only [nI_m, nI_add, ix, oI]) (by omega) rfl ?_
  refine ev_isub dX4_debtsByAccount_27 ?_
  refine ev_aload_n 0 dX4_debtsByAccount_28 rfl rfl ?_
  refine ev_getfield 0 dX4_debtsByAccount_29 foX4_7 rfl rfl ?_
  refine ev_bipush (nI 106) dX4_debtsByAccount_32 rfl ?_
  refine ev_ild (106) dX4_debtsByAccount_34 rfl (by simp only [nI_m, nI_add, ix, oI]) (by omega) rfl ?_
  refine ev_isub dX4_debtsByAccount_35 ?_
  exact ev_ireturn dX4_debtsByAccount_36 (Nat.le_of_ble_eq_true rfl) ⟨rfl, rfl⟩
