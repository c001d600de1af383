/-! ===== the class: falls, hours, risk ===== -/
/-- halving: a is harmless, b calls -/
def hlvF (τ : Nat → Int32) (c : Nat) : Nat → Nat → Nat → Nat
  | 0, _, b => b
  | f + 1, a, b => if b - a ≤ 1 then b else if stC τ c (nI ((a + b) / 2)) (nI 0) = true then hlvF τ c f ((a + b) / 2) b else hlvF τ c f a ((a + b) / 2)
def hlvS (τ : Nat → Int32) (c : Nat) : Int32 := if isK τ c = true then nI 0 else if stC τ c (nI 100) (nI 0) = true then -1 else nI (hlvF τ c 100 0 100)
def hucF (τ : Nat → Int32) (cv : Int32) : Nat → Int32 → Nat → Int32
  | 0, _, _ => -1
  | f + 1, d, n => if cv < d + intL τ d then nI n else hucF τ cv f (d + intL τ d) (n + 1)
def hucS (τ : Nat → Int32) (c : Nat) : Int32 := if isK τ c = true then nI 0 else hucF τ (covI τ c (nI 0) (nI 1)) 999 (τ (ix c 7)) 1
def rkC0 (τ : Nat → Int32) (a b : Nat) : Bool := if τ (ix a 7) = τ (ix b 7) then decide (a < b) else decide (0 < τ (ix a 7))
def rkL (τ : Nat → Int32) (a b : Nat) : Int64 := (covI τ a (nI 0) (nI 1)).toInt64 * (τ (ix b 7)).toInt64
def rkC1 (τ : Nat → Int32) (a b : Nat) : Bool := if lg_cmp (rkL τ a b) (rkL τ b a) = 0 then decide (a < b) else decide (lg_cmp (rkL τ a b) (rkL τ b a) < 0)
def rkC (τ : Nat → Int32) (a b : Nat) : Bool := if τ (ix a 7) = 0 ∨ τ (ix b 7) = 0 then rkC0 τ a b else rkC1 τ a b
theorem rkC_z {τ : Nat → Int32} {a b : Nat} (h : τ (ix a 7) = 0 ∨ τ (ix b 7) = 0) : rkC τ a b = rkC0 τ a b := if_pos h
theorem rkC_n {τ : Nat → Int32} {a b : Nat} (h1 : ¬ τ (ix a 7) = 0) (h2 : ¬ τ (ix b 7) = 0) : rkC τ a b = rkC1 τ a b := if_neg (fun h => h.elim h1 h2)
theorem rkC0_e {τ : Nat → Int32} {a b : Nat} (h : τ (ix a 7) = τ (ix b 7)) : rkC0 τ a b = decide (a < b) := if_pos h
theorem rkC0_n {τ : Nat → Int32} {a b : Nat} (h : ¬ τ (ix a 7) = τ (ix b 7)) : rkC0 τ a b = decide (0 < τ (ix a 7)) := if_neg h
theorem rkC1_e {τ : Nat → Int32} {a b : Nat} (h : lg_cmp (rkL τ a b) (rkL τ b a) = 0) : rkC1 τ a b = decide (a < b) := if_pos h
theorem rkC1_n {τ : Nat → Int32} {a b : Nat} (h : ¬ lg_cmp (rkL τ a b) (rkL τ b a) = 0) : rkC1 τ a b = decide (lg_cmp (rkL τ a b) (rkL τ b a) < 0) := if_neg h
theorem dab_f {a b : Nat} (ha : a < 8) (hb : b < 8) (h : nI b ≤ nI a) : decide (a < b) = false := decide_eq_false ((nIlt ha hb).mp h)
theorem dab_t {a b : Nat} (ha : a < 8) (hb : b < 8) (h : ¬ nI b ≤ nI a) : decide (a < b) = true := decide_eq_true (Decidable.of_not_not (fun q => h ((nIlt ha hb).mpr q)))
def rplS (τ : Nat → Int32) (c : Nat) : Nat → Int32
  | 0 => nI 0
  | n + 1 => rplS τ c n + bI (!decide (n = c) && rkC τ n c)
theorem rpl_no {τ : Nat → Int32} {c n : Nat} (h : (!decide (n = c) && rkC τ n c) = false) : rplS τ c (n + 1) = rplS τ c n := by
  simp only [rplS]; rw [h]; exact Int32.add_zero _
theorem rpl_yes {τ : Nat → Int32} {c n : Nat} (h1 : ¬ n = c) (h : rkC τ n c = true) : rplS τ c n + Int32.ofInt 1 = rplS τ c (n + 1) := by
  simp only [rplS]; rw [h, decide_eq_false h1]; rfl
/-- a row of clients -/
def rN (ρ : Nat → Nat) : Nat → Int32 := fun k => nI (ρ k)
def updN (ρ : Nat → Nat) (k c : Nat) : Nat → Nat := fun j => if j = k then c else ρ j
theorem upd_rN (ρ : Nat → Nat) (k c : Nat) : upd (rN ρ) k (nI c) = rN (updN ρ k c) := by
  funext j
  simp only [upd, rN, updN]
  split <;> rfl
def R8 (ρ : Nat → Nat) : Prop := ∀ k, ρ k < 8
theorem R8_upd {ρ : Nat → Nat} {k c : Nat} (h : R8 ρ) (hc : c < 8) : R8 (updN ρ k c) := fun j => by
  simp only [updN]; split
  · exact hc
  · exact h j
def insF (τ : Nat → Int32) (c : Nat) : Nat → (Nat → Nat) → Nat → Nat
  | 0, r => updN r 0 c
  | q + 1, r => if rkC τ c (r q) = true then insF τ c q (updN r (q + 1) (r q)) else updN r (q + 1) c
def srtN (τ : Nat → Int32) (ρ : Nat → Nat) : Nat → Nat → Nat
  | 0 => ρ
  | n + 1 => insF τ n n (srtN τ ρ n)
theorem R8_ins {τ : Nat → Int32} {c : Nat} (hc : c < 8) : ∀ (q : Nat) {r : Nat → Nat}, R8 r → R8 (insF τ c q r)
  | 0, _, h => R8_upd h hc
  | q + 1, r, h => by
    simp only [insF]; split
    · exact R8_ins hc q (R8_upd h (h q))
    · exact R8_upd h hc
theorem R8_srt {τ : Nat → Int32} {ρ : Nat → Nat} (h : R8 ρ) : ∀ n, n ≤ 8 → R8 (srtN τ ρ n)
  | 0, _ => h
  | n + 1, hn => R8_ins (by omega) n (R8_srt h n (by omega))
def setB (b : Nat → Bool) (c : Nat) : Nat → Bool := fun k => b k || decide (k = c)
theorem bit_or_all : ∀ b0 b1 b2 b3 b4 b5 b6 b7 : Bool, ∀ c : Fin 8, ((((((((((nI 0 ||| (if b0 = true then nI 1 <<< (nI 0 &&& 31) else nI 0)) ||| (if b1 = true then nI 1 <<< (nI 1 &&& 31) else nI 0)) ||| (if b2 = true then nI 1 <<< (nI 2 &&& 31) else nI 0)) ||| (if b3 = true then nI 1 <<< (nI 3 &&& 31) else nI 0)) ||| (if b4 = true then nI 1 <<< (nI 4 &&& 31) else nI 0)) ||| (if b5 = true then nI 1 <<< (nI 5 &&& 31) else nI 0)) ||| (if b6 = true then nI 1 <<< (nI 6 &&& 31) else nI 0)) ||| (if b7 = true then nI 1 <<< (nI 7 &&& 31) else nI 0)) ||| (nI 1 <<< (nI c.val &&& 31))) = ((((((((nI 0 ||| (if (b0 || decide (0 = c.val)) = true then nI 1 <<< (nI 0 &&& 31) else nI 0)) ||| (if (b1 || decide (1 = c.val)) = true then nI 1 <<< (nI 1 &&& 31) else nI 0)) ||| (if (b2 || decide (2 = c.val)) = true then nI 1 <<< (nI 2 &&& 31) else nI 0)) ||| (if (b3 || decide (3 = c.val)) = true then nI 1 <<< (nI 3 &&& 31) else nI 0)) ||| (if (b4 || decide (4 = c.val)) = true then nI 1 <<< (nI 4 &&& 31) else nI 0)) ||| (if (b5 || decide (5 = c.val)) = true then nI 1 <<< (nI 5 &&& 31) else nI 0)) ||| (if (b6 || decide (6 = c.val)) = true then nI 1 <<< (nI 6 &&& 31) else nI 0)) ||| (if (b7 || decide (7 = c.val)) = true then nI 1 <<< (nI 7 &&& 31) else nI 0))) := by decide +kernel
theorem bit_or (b : Nat → Bool) {c : Nat} (hc : c < 8) : bitN b 8 ||| (nI 1 <<< (nI c &&& 31)) = bitN (setB b c) 8 :=
  bit_or_all (b 0) (b 1) (b 2) (b 3) (b 4) (b 5) (b 6) (b 7) ⟨c, hc⟩
/-- the riskiest of those who are left -/
def rbF (τ : Nat → Int32) (b : Nat → Bool) : Nat → Option Nat
  | 0 => none
  | n + 1 => match rbF τ b n with
    | none => if b n = false then some n else none
    | some o => if b n = false ∧ rkC τ n o = true then some n else some o
theorem rbF_lt {τ : Nat → Int32} {b : Nat → Bool} {o : Nat} : ∀ {n : Nat}, rbF τ b n = some o → o < n
  | 0, h => by simp [rbF] at h
  | n + 1, h => by
    simp only [rbF] at h
    cases hs : rbF τ b n with
    | none =>
      rw [hs] at h
      simp only at h
      split at h
      · cases h; omega
      · cases h
    | some p =>
      rw [hs] at h
      simp only at h
      split at h
      · cases h; omega
      · cases h
        have := rbF_lt hs
        omega
theorem rb_not {τ : Nat → Int32} {b : Nat → Bool} {n : Nat} (h : b n = true) : rbF τ b (n + 1) = rbF τ b n := by
  simp only [rbF]
  cases rbF τ b n <;> simp [h]
theorem rb_first {τ : Nat → Int32} {b : Nat → Bool} {n : Nat} (h : b n = false) (hs : rbF τ b n = none) : rbF τ b (n + 1) = some n := by
  simp only [rbF, hs, h, if_true]
theorem rb_more {τ : Nat → Int32} {b : Nat → Bool} {n o : Nat} (h : b n = false) (hs : rbF τ b n = some o) (ha : rkC τ n o = true) : rbF τ b (n + 1) = some n := by
  simp only [rbF, hs, h, ha, and_self, if_true]
theorem rb_less {τ : Nat → Int32} {b : Nat → Bool} {n o : Nat} (hs : rbF τ b n = some o) (ha : rkC τ n o = false) : rbF τ b (n + 1) = some o := by
  simp only [rbF, hs, ha, Bool.false_eq_true, and_false, if_false]
def rbS (τ : Nat → Int32) (b : Nat → Bool) : Nat := (rbF τ b 8).getD 0
theorem rbS_lt (τ : Nat → Int32) (b : Nat → Bool) : rbS τ b < 8 := by
  unfold rbS
  cases h : rbF τ b 8 with
  | none => decide
  | some o => exact rbF_lt h
def tkN (τ : Nat → Int32) : Nat → (Nat → Bool) × Nat
  | 0 => (fun _ => false, 0)
  | n + 1 => (setB (tkN τ n).1 (rbS τ (tkN τ n).1), rbS τ (tkN τ n).1)
theorem oIs_ne {o : Nat} (h : o < 8) : ¬ oI (some o) = -1 := fun e => by have := (oI_lt (x := some o) (n := 8) (by omega) (fun _ h => by cases h; omega)).mp e; cases this
set_option maxHeartbeats 1000000 in
theorem c0_try (p : Nat → va_E) (sl pl ks rr τ : Nat → Int32) (g : PW) {c : Nat} (hc : c < 8) : Ct mX0_callingFallByTrying [.ref 17, .int (nI c)] (nw p sl pl ks rr τ g) (d1 (some (.int (tryS τ c))) (nw p sl pl ks rr τ g)) nx := by
  refine ct_of 1 kX0_callingFallByTrying.1 rfl (Nat.le_of_ble_eq_true rfl) (fun v u h => by obtain ⟨rfl, rfl⟩ := h; exact rfl) ?_
  show Ev _ _ _ 0 0 [(0, .ref 17), (1, .int (nI c))] [] _
  refine ev_aload_n 0 dX0_callingFallByTrying_0 rfl rfl ?_
  refine ev_getfield 6 dX0_callingFallByTrying_1 foX0_30 rfl rfl ?_
  refine ev_iload_n 1 dX0_callingFallByTrying_4 rfl rfl ?_
  refine ev_ild (c) dX0_callingFallByTrying_5 rfl (by simp only [nI_m, nI_add, ix, oI]) (by omega) rfl ?_
  refine ev_if_le 11 dX0_callingFallByTrying_6 (by decide) (fun h6 => ?_) (fun h6 => ?_)
  · have hk : isK τ c = false := (decide_eq_false (Int32.not_lt.mpr h6))
    have e8 : tryS τ c = tryF τ c 100 1 := if_neg (by rw [hk]; decide)
    rw [e8]
    refine ev_iconst (nI 1) dX0_callingFallByTrying_11 rfl ?_
    refine ev_istore_n 2 dX0_callingFallByTrying_12 rfl (Nat.le_of_ble_eq_true rfl) rfl ?_
    suffices H : ∀ fu n, n + fu = 101 → tryF τ c fu n = tryF τ c 100 1 → Ev mX0_callingFallByTrying (d1 (some (.int (tryF τ c 100 1))) (nw p sl pl ks rr τ g)) nx 0 13 [(2, .int (nI n)), (0, .ref 17), (1, .int (nI c))] [] (nw p sl pl ks rr τ g) from ev_sub [0, 1, 2] rfl (H 100 1 rfl rfl)
    intro fu
    induction fu with
    | zero =>
      intro n hn hw
      obtain rfl : 101 = n := by omega
      refine ev_iload_n 2 dX0_callingFallByTrying_13 rfl rfl ?_
      refine ev_bipush (nI 100) dX0_callingFallByTrying_14 rfl ?_
      refine ev_icmp_gt 37 dX0_callingFallByTrying_16 (by decide) (fun h16 => ?_) (fun h16 => absurd (nI_lt (by omega) (by omega)) h16)
      refine ev_iconst (-1) dX0_callingFallByTrying_37 rfl ?_
      exact ev_ireturn dX0_callingFallByTrying_38 (Nat.le_of_ble_eq_true rfl) ⟨by rw [← hw]; rfl, rfl⟩
    | succ fu ih =>
      intro n hn hw
      refine ev_iload_n 2 dX0_callingFallByTrying_13 rfl rfl ?_
      refine ev_bipush (nI 100) dX0_callingFallByTrying_14 rfl ?_
      refine ev_icmp_gt 37 dX0_callingFallByTrying_16 (by decide) (fun h16 => absurd h16 (nI_nlt (by omega) (by omega))) (fun h16 => ?_)
      refine ev_aload_n 0 dX0_callingFallByTrying_19 rfl rfl ?_
      refine ev_iload_n 1 dX0_callingFallByTrying_20 rfl rfl ?_
      refine ev_iload_n 2 dX0_callingFallByTrying_21 rfl rfl ?_
      refine ev_iconst (nI 0) dX0_callingFallByTrying_22 rfl ?_
      refine ev_cV3 (c0_staysCovered _ _ _ _ _ _ _ (by omega) _ _) kX0_staysCovered rfl g373 rfl rfl rfl rfl dX0_callingFallByTrying_23 ?_
      refine ev_if_ne 31 dX0_callingFallByTrying_26 (by decide) (fun h26 => ?_) (fun h26 => ?_)
      · have e9 : tryF τ c (fu + 1) n = tryF τ c fu (n + 1) := if_pos (bI_1.mp h26)
        refine ev_iinc (nI (n + 1)) dX0_callingFallByTrying_31 rfl (nI_1 n) (Nat.le_of_ble_eq_true rfl) rfl ?_
        refine ev_goto 13 dX0_callingFallByTrying_34 (by decide) ?_
        exact ev_sub [0, 1, 2] rfl (ih (n + 1) (by omega) (by rw [← e9]; exact hw))
      · have e9 : tryF τ c (fu + 1) n = nI n := if_neg (by rw [bI_0.mp h26]; decide)
        refine ev_iload_n 2 dX0_callingFallByTrying_29 rfl rfl ?_
        exact ev_ireturn dX0_callingFallByTrying_30 (Nat.le_of_ble_eq_true rfl) ⟨by rw [← hw, e9], rfl⟩
  · have hk : isK τ c = true := (decide_eq_true (Int32.not_le.mp h6))
    refine ev_iconst (nI 0) dX0_callingFallByTrying_9 rfl ?_
    exact ev_ireturn dX0_callingFallByTrying_10 (Nat.le_of_ble_eq_true rfl) ⟨by rw [show tryS τ c = nI 0 from if_pos hk], rfl⟩
set_option maxHeartbeats 1000000 in
theorem c0_halve (p : Nat → va_E) (sl pl ks rr τ : Nat → Int32) (g : PW) {c : Nat} (hc : c < 8) : Ct mX0_callingFallByHalving [.ref 17, .int (nI c)] (nw p sl pl ks rr τ g) (d1 (some (.int (hlvS τ c))) (nw p sl pl ks rr τ g)) nx := by
  refine ct_of 1 kX0_callingFallByHalving.1 rfl (Nat.le_of_ble_eq_true rfl) (fun v u h => by obtain ⟨rfl, rfl⟩ := h; exact rfl) ?_
  show Ev _ _ _ 0 0 [(0, .ref 17), (1, .int (nI c))] [] _
  refine ev_aload_n 0 dX0_callingFallByHalving_0 rfl rfl ?_
  refine ev_getfield 6 dX0_callingFallByHalving_1 foX0_30 rfl rfl ?_
  refine ev_iload_n 1 dX0_callingFallByHalving_4 rfl rfl ?_
  refine ev_ild (c) dX0_callingFallByHalving_5 rfl (by simp only [nI_m, nI_add, ix, oI]) (by omega) rfl ?_
  refine ev_if_le 11 dX0_callingFallByHalving_6 (by decide) (fun h6 => ?_) (fun h6 => ?_)
  · have hk : isK τ c = false := (decide_eq_false (Int32.not_lt.mpr h6))
    refine ev_aload_n 0 dX0_callingFallByHalving_11 rfl rfl ?_
    refine ev_iload_n 1 dX0_callingFallByHalving_12 rfl rfl ?_
    refine ev_bipush (nI 100) dX0_callingFallByHalving_13 rfl ?_
    refine ev_iconst (nI 0) dX0_callingFallByHalving_15 rfl ?_
    refine ev_cV3 (c0_staysCovered _ _ _ _ _ _ _ (by omega) _ _) kX0_staysCovered rfl g373 rfl rfl rfl rfl dX0_callingFallByHalving_16 ?_
    refine ev_if_eq 24 dX0_callingFallByHalving_19 (by decide) (fun h19 => ?_) (fun h19 => ?_)
    · have e8 : hlvS τ c = nI (hlvF τ c 100 0 100) := by unfold hlvS; rw [if_neg (by rw [hk]; decide), if_neg (by rw [bI_0.mp h19]; decide)]
      rw [e8]
      refine ev_iconst (nI 0) dX0_callingFallByHalving_24 rfl ?_
      refine ev_istore_n 2 dX0_callingFallByHalving_25 rfl (Nat.le_of_ble_eq_true rfl) rfl ?_
      refine ev_bipush (nI 100) dX0_callingFallByHalving_26 rfl ?_
      refine ev_istore_n 3 dX0_callingFallByHalving_28 rfl (Nat.le_of_ble_eq_true rfl) rfl ?_
      refine ev_iconst (nI 0) dX0_callingFallByHalving_29 rfl ?_
      refine ev_istore dX0_callingFallByHalving_30 (Nat.le_of_ble_eq_true rfl) rfl ?_
      suffices H : ∀ fu n a b, n + fu = 100 → a < b → b ≤ 100 → hlvF τ c fu a b = hlvF τ c 100 0 100 → Ev mX0_callingFallByHalving (d1 (some (.int (nI (hlvF τ c 100 0 100)))) (nw p sl pl ks rr τ g)) nx 0 32 [(4, .int (nI n)), (3, .int (nI b)), (2, .int (nI a)), (0, .ref 17), (1, .int (nI c))] [] (nw p sl pl ks rr τ g) from ev_sub [0, 1, 2, 3, 4] rfl (H 100 0 0 100 rfl (by omega) (by omega) rfl)
      have F : ∀ n a b, b = hlvF τ c 100 0 100 → Ev mX0_callingFallByHalving (d1 (some (.int (nI (hlvF τ c 100 0 100)))) (nw p sl pl ks rr τ g)) nx 0 79 [(4, .int (nI n)), (3, .int (nI b)), (2, .int (nI a)), (0, .ref 17), (1, .int (nI c))] [] (nw p sl pl ks rr τ g) := by
        intro n a b hw
        subst hw
        refine ev_iload_n 3 dX0_callingFallByHalving_79 rfl rfl ?_
        exact ev_ireturn dX0_callingFallByHalving_80 (Nat.le_of_ble_eq_true rfl) ⟨rfl, rfl⟩
      intro fu
      induction fu with
      | zero =>
        intro n a b hn hab hb hw
        obtain rfl : 100 = n := by omega
        refine ev_iload dX0_callingFallByHalving_32 rfl ?_
        refine ev_bipush (nI 100) dX0_callingFallByHalving_34 rfl ?_
        refine ev_icmp_ge 79 dX0_callingFallByHalving_36 (by decide) (fun h36 => ?_) (fun h36 => absurd (nI_le (Nat.le_refl 100) (by omega)) h36)
        exact ev_sub [0, 1, 2, 3, 4] rfl (F _ _ _ hw)
      | succ fu ih =>
        intro n a b hn hab hb hw
        refine ev_iload dX0_callingFallByHalving_32 rfl ?_
        refine ev_bipush (nI 100) dX0_callingFallByHalving_34 rfl ?_
        refine ev_icmp_ge 79 dX0_callingFallByHalving_36 (by decide) (fun h36 => absurd h36 (nI_ge (by omega) (by omega))) (fun h36 => ?_)
        refine ev_iload_n 3 dX0_callingFallByHalving_39 rfl rfl ?_
        refine ev_iload_n 2 dX0_callingFallByHalving_40 rfl rfl ?_
        refine ev_isub dX0_callingFallByHalving_41 ?_
        refine ev_top (nI (b - a)) (pk_sub (by omega)) ?_
        refine ev_iconst (nI 1) dX0_callingFallByHalving_42 rfl ?_
        refine ev_icmp_le 79 dX0_callingFallByHalving_43 (by decide) (fun h43 => ?_) (fun h43 => ?_)
        · have h2 : b - a ≤ 1 := (nI_leI (by omega) (by omega)).mp h43
          exact ev_sub [0, 1, 2, 3, 4] rfl (F _ _ _ (by rw [← hw]; exact (if_pos h2).symm))
        · have h2 : ¬ b - a ≤ 1 := fun e => h43 ((nI_leI (by omega) (by omega)).mpr e)
          refine ev_iload_n 2 dX0_callingFallByHalving_46 rfl rfl ?_
          refine ev_iload_n 3 dX0_callingFallByHalving_47 rfl rfl ?_
          refine ev_iadd dX0_callingFallByHalving_48 ?_
          refine ev_top (nI (a + b)) (nI_add a b) ?_
          refine ev_iconst (nI 2) dX0_callingFallByHalving_49 rfl ?_
          refine ev_idiv dX0_callingFallByHalving_50 (by decide) ?_
          refine ev_top (nI ((a + b) / 2)) (pk_div (by omega) (by omega) (by omega)) ?_
          refine ev_istore dX0_callingFallByHalving_51 (Nat.le_of_ble_eq_true rfl) rfl ?_
          refine ev_aload_n 0 dX0_callingFallByHalving_53 rfl rfl ?_
          refine ev_iload_n 1 dX0_callingFallByHalving_54 rfl rfl ?_
          refine ev_iload dX0_callingFallByHalving_55 rfl ?_
          refine ev_iconst (nI 0) dX0_callingFallByHalving_57 rfl ?_
          refine ev_cV3 (c0_staysCovered _ _ _ _ _ _ _ (by omega) _ _) kX0_staysCovered rfl g373 rfl rfl rfl rfl dX0_callingFallByHalving_58 ?_
          refine ev_if_eq 70 dX0_callingFallByHalving_61 (by decide) (fun h61 => ?_) (fun h61 => ?_)
          · have e9 : hlvF τ c (fu + 1) a b = hlvF τ c fu a ((a + b) / 2) := by simp only [hlvF]; rw [if_neg h2, if_neg (by rw [bI_0.mp h61]; decide)]
            refine ev_iload dX0_callingFallByHalving_70 rfl ?_
            refine ev_istore_n 3 dX0_callingFallByHalving_72 rfl (Nat.le_of_ble_eq_true rfl) rfl ?_
            refine ev_iinc (nI (n + 1)) dX0_callingFallByHalving_73 rfl (nI_1 n) (Nat.le_of_ble_eq_true rfl) rfl ?_
            refine ev_goto 32 dX0_callingFallByHalving_76 (by decide) ?_
            exact ev_sub [0, 1, 3, 4, 5] rfl (ih (n + 1) a ((a + b) / 2) (by omega) (by omega) (by omega) (by rw [← e9]; exact hw))
          · have e9 : hlvF τ c (fu + 1) a b = hlvF τ c fu ((a + b) / 2) b := by simp only [hlvF]; rw [if_neg h2, if_pos (bI_1.mp h61)]
            refine ev_iload dX0_callingFallByHalving_64 rfl ?_
            refine ev_istore_n 2 dX0_callingFallByHalving_66 rfl (Nat.le_of_ble_eq_true rfl) rfl ?_
            refine ev_goto 73 dX0_callingFallByHalving_67 (by decide) ?_
            refine ev_iinc (nI (n + 1)) dX0_callingFallByHalving_73 rfl (nI_1 n) (Nat.le_of_ble_eq_true rfl) rfl ?_
            refine ev_goto 32 dX0_callingFallByHalving_76 (by decide) ?_
            exact ev_sub [0, 3, 1, 4, 5] rfl (ih (n + 1) ((a + b) / 2) b (by omega) (by omega) (by omega) (by rw [← e9]; exact hw))
    · have e8 : hlvS τ c = -1 := by unfold hlvS; rw [if_neg (by rw [hk]; decide), if_pos (bI_1.mp h19)]
      refine ev_iconst (-1) dX0_callingFallByHalving_22 rfl ?_
      exact ev_ireturn dX0_callingFallByHalving_23 (Nat.le_of_ble_eq_true rfl) ⟨by rw [e8], rfl⟩
  · have hk : isK τ c = true := (decide_eq_true (Int32.not_le.mp h6))
    refine ev_iconst (nI 0) dX0_callingFallByHalving_9 rfl ?_
    exact ev_ireturn dX0_callingFallByHalving_10 (Nat.le_of_ble_eq_true rfl) ⟨by rw [show hlvS τ c = nI 0 from if_pos hk], rfl⟩
set_option maxHeartbeats 1000000 in
theorem c0_huc (p : Nat → va_E) (sl pl ks rr τ : Nat → Int32) (g : PW) {c : Nat} (hc : c < 8) : Ct mX0_hoursUntilCall [.ref 17, .int (nI c)] (nw p sl pl ks rr τ g) (d1 (some (.int (hucS τ c))) (nw p sl pl ks rr τ g)) nx := by
  refine ct_of 1 kX0_hoursUntilCall.1 rfl (Nat.le_of_ble_eq_true rfl) (fun v u h => by obtain ⟨rfl, rfl⟩ := h; exact rfl) ?_
  show Ev _ _ _ 0 0 [(0, .ref 17), (1, .int (nI c))] [] _
  refine ev_aload_n 0 dX0_hoursUntilCall_0 rfl rfl ?_
  refine ev_getfield 6 dX0_hoursUntilCall_1 foX0_30 rfl rfl ?_
  refine ev_iload_n 1 dX0_hoursUntilCall_4 rfl rfl ?_
  refine ev_ild (c) dX0_hoursUntilCall_5 rfl (by simp only [nI_m, nI_add, ix, oI]) (by omega) rfl ?_
  refine ev_if_le 11 dX0_hoursUntilCall_6 (by decide) (fun h6 => ?_) (fun h6 => ?_)
  · have hk : isK τ c = false := (decide_eq_false (Int32.not_lt.mpr h6))
    have e8 : hucS τ c = hucF τ (covI τ c (nI 0) (nI 1)) 999 (τ (ix c 7)) 1 := if_neg (by rw [hk]; decide)
    rw [e8]
    refine ev_aload_n 0 dX0_hoursUntilCall_11 rfl rfl ?_
    refine ev_iload_n 1 dX0_hoursUntilCall_12 rfl rfl ?_
    refine ev_cV1 (c0_cover _ _ _ _ _ _ _ (by omega)) kX0_cover rfl g335 rfl rfl rfl rfl dX0_hoursUntilCall_13 ?_
    refine ev_istore_n 2 dX0_hoursUntilCall_16 rfl (Nat.le_of_ble_eq_true rfl) rfl ?_
    refine ev_aload_n 0 dX0_hoursUntilCall_17 rfl rfl ?_
    refine ev_getfield 5 dX0_hoursUntilCall_18 foX0_27 rfl rfl ?_
    refine ev_iload_n 1 dX0_hoursUntilCall_21 rfl rfl ?_
    refine ev_ild (c) dX0_hoursUntilCall_22 rfl (by simp only [nI_m, nI_add, ix, oI]) (by omega) rfl ?_
    refine ev_istore_n 3 dX0_hoursUntilCall_23 rfl (Nat.le_of_ble_eq_true rfl) rfl ?_
    refine ev_iconst (nI 1) dX0_hoursUntilCall_24 rfl ?_
    refine ev_istore dX0_hoursUntilCall_25 (Nat.le_of_ble_eq_true rfl) rfl ?_
    suffices H : ∀ fu n (d : Int32), n + fu = 1000 → hucF τ (covI τ c (nI 0) (nI 1)) fu d n = hucF τ (covI τ c (nI 0) (nI 1)) 999 (τ (ix c 7)) 1 → Ev mX0_hoursUntilCall (d1 (some (.int (hucF τ (covI τ c (nI 0) (nI 1)) 999 (τ (ix c 7)) 1))) (nw p sl pl ks rr τ g)) nx 0 27 [(4, .int (nI n)), (3, .int d), (2, .int (covI τ c (nI 0) (nI 1))), (0, .ref 17), (1, .int (nI c))] [] (nw p sl pl ks rr τ g) from ev_sub [0, 1, 2, 3, 4] rfl (H 999 1 _ rfl rfl)
    intro fu
    induction fu with
    | zero =>
      intro n d hn hw
      obtain rfl : 1000 = n := by omega
      refine ev_iload dX0_hoursUntilCall_27 rfl ?_
      refine ev_sipush (nI 999) dX0_hoursUntilCall_29 rfl ?_
      refine ev_icmp_gt 57 dX0_hoursUntilCall_32 (by decide) (fun h32 => ?_) (fun h32 => absurd (nI_lt (by omega) (by omega)) h32)
      refine ev_iconst (-1) dX0_hoursUntilCall_57 rfl ?_
      exact ev_ireturn dX0_hoursUntilCall_58 (Nat.le_of_ble_eq_true rfl) ⟨by rw [← hw]; rfl, rfl⟩
    | succ fu ih =>
      intro n d hn hw
      refine ev_iload dX0_hoursUntilCall_27 rfl ?_
      refine ev_sipush (nI 999) dX0_hoursUntilCall_29 rfl ?_
      refine ev_icmp_gt 57 dX0_hoursUntilCall_32 (by decide) (fun h32 => absurd h32 (nI_nlt (by omega) (by omega))) (fun h32 => ?_)
      refine ev_iload_n 3 dX0_hoursUntilCall_35 rfl rfl ?_
      refine ev_aload_n 0 dX0_hoursUntilCall_36 rfl rfl ?_
      refine ev_iload_n 3 dX0_hoursUntilCall_37 rfl rfl ?_
      refine ev_cV1 (c0_interestOn _ _ _ _ _ _ _ _) kX0_interestOn rfl g551 rfl rfl rfl rfl dX0_hoursUntilCall_38 ?_
      refine ev_iadd dX0_hoursUntilCall_41 ?_
      refine ev_istore_n 3 dX0_hoursUntilCall_42 rfl (Nat.le_of_ble_eq_true rfl) rfl ?_
      refine ev_iload_n 3 dX0_hoursUntilCall_43 rfl rfl ?_
      refine ev_iload_n 2 dX0_hoursUntilCall_44 rfl rfl ?_
      refine ev_icmp_le 51 dX0_hoursUntilCall_45 (by decide) (fun h45 => ?_) (fun h45 => ?_)
      · have e9 : hucF τ (covI τ c (nI 0) (nI 1)) (fu + 1) d n = hucF τ (covI τ c (nI 0) (nI 1)) fu (d + intL τ d) (n + 1) := if_neg (Int32.not_lt.mpr h45)
        refine ev_iinc (nI (n + 1)) dX0_hoursUntilCall_51 rfl (nI_1 n) (Nat.le_of_ble_eq_true rfl) rfl ?_
        refine ev_goto 27 dX0_hoursUntilCall_54 (by decide) ?_
        exact ev_sub [0, 1, 2, 3, 4] rfl (ih (n + 1) _ (by omega) (by rw [← e9]; exact hw))
      · have e9 : hucF τ (covI τ c (nI 0) (nI 1)) (fu + 1) d n = nI n := if_pos (Int32.not_le.mp h45)
        refine ev_iload dX0_hoursUntilCall_48 rfl ?_
        exact ev_ireturn dX0_hoursUntilCall_50 (Nat.le_of_ble_eq_true rfl) ⟨by rw [← hw, e9], rfl⟩
  · have hk : isK τ c = true := (decide_eq_true (Int32.not_le.mp h6))
    refine ev_iconst (nI 0) dX0_hoursUntilCall_9 rfl ?_
    exact ev_ireturn dX0_hoursUntilCall_10 (Nat.le_of_ble_eq_true rfl) ⟨by rw [show hucS τ c = nI 0 from if_pos hk], rfl⟩
set_option maxHeartbeats 1000000 in
theorem c0_isRiskier (p : Nat → va_E) (sl pl ks rr τ : Nat → Int32) (g : PW) {a b : Nat} (ha : a < 8) (hb : b < 8) : Ct mX0_isRiskier [.ref 17, .int (nI a), .int (nI b)] (nw p sl pl ks rr τ g) (d1 (some (.int (bI (rkC τ a b)))) (nw p sl pl ks rr τ g)) nx := by
  refine ct_of 2 kX0_isRiskier.1 rfl (Nat.le_of_ble_eq_true rfl) (fun v u h => by obtain ⟨rfl, rfl⟩ := h; exact bI_nar _) ?_
  show Ev _ _ _ 0 0 [(0, .ref 17), (1, .int (nI a)), (2, .int (nI b))] [] _
  refine ev_aload_n 0 dX0_isRiskier_0 rfl rfl ?_
  refine ev_getfield 5 dX0_isRiskier_1 foX0_27 rfl rfl ?_
  refine ev_iload_n 1 dX0_isRiskier_4 rfl rfl ?_
  refine ev_ild (a) dX0_isRiskier_5 rfl (by simp only [nI_m, nI_add, ix, oI]) (by omega) rfl ?_
  refine ev_istore_n 3 dX0_isRiskier_6 rfl (Nat.le_of_ble_eq_true rfl) rfl ?_
  refine ev_aload_n 0 dX0_isRiskier_7 rfl rfl ?_
  refine ev_getfield 5 dX0_isRiskier_8 foX0_27 rfl rfl ?_
  refine ev_iload_n 2 dX0_isRiskier_11 rfl rfl ?_
  refine ev_ild (b) dX0_isRiskier_12 rfl (by simp only [nI_m, nI_add, ix, oI]) (by omega) rfl ?_
  refine ev_istore dX0_isRiskier_13 (Nat.le_of_ble_eq_true rfl) rfl ?_
  refine ev_iload_n 3 dX0_isRiskier_15 rfl rfl ?_
  refine ev_if_eq 24 dX0_isRiskier_16 (by decide) (fun h16 => ?_) (fun h16 => ?_)
  · refine ev_iload_n 3 dX0_isRiskier_24 rfl rfl ?_
    refine ev_iload dX0_isRiskier_25 rfl ?_
    refine ev_icmp_eq 42 dX0_isRiskier_27 (by decide) (fun h27 => ?_) (fun h27 => ?_)
    · refine ev_iload_n 1 dX0_isRiskier_42 rfl rfl ?_
      refine ev_iload_n 2 dX0_isRiskier_43 rfl rfl ?_
      refine ev_icmp_ge 51 dX0_isRiskier_44 (by decide) (fun h44 => ?_) (fun h44 => ?_)
      · refine ev_iconst (nI 0) dX0_isRiskier_51 rfl ?_
        exact ev_ireturn dX0_isRiskier_52 (Nat.le_of_ble_eq_true rfl) ⟨by first | (rw [rkC_z (Or.inl h16), rkC0_e h27, dab_f ha hb h44]; rfl) | (rw [rkC_z (Or.inl h16), rkC0_e h27, dab_t ha hb h44]; rfl) | (rw [rkC_z (Or.inl h16), rkC0_n h27, decide_eq_false (Int32.not_lt.mpr h31)]; rfl) | (rw [rkC_z (Or.inl h16), rkC0_n h27, decide_eq_true (Int32.not_le.mp h31)]; rfl) | (rw [rkC_z (Or.inr h21), rkC0_e h27, dab_f ha hb h44]; rfl) | (rw [rkC_z (Or.inr h21), rkC0_e h27, dab_t ha hb h44]; rfl) | (rw [rkC_z (Or.inr h21), rkC0_n h27, decide_eq_false (Int32.not_lt.mpr h31)]; rfl) | (rw [rkC_z (Or.inr h21), rkC0_n h27, decide_eq_true (Int32.not_le.mp h31)]; rfl), rfl⟩
      · refine ev_iconst (nI 1) dX0_isRiskier_47 rfl ?_
        refine ev_goto 52 dX0_isRiskier_48 (by decide) ?_
        exact ev_ireturn dX0_isRiskier_52 (Nat.le_of_ble_eq_true rfl) ⟨by first | (rw [rkC_z (Or.inl h16), rkC0_e h27, dab_f ha hb h44]; rfl) | (rw [rkC_z (Or.inl h16), rkC0_e h27, dab_t ha hb h44]; rfl) | (rw [rkC_z (Or.inl h16), rkC0_n h27, decide_eq_false (Int32.not_lt.mpr h31)]; rfl) | (rw [rkC_z (Or.inl h16), rkC0_n h27, decide_eq_true (Int32.not_le.mp h31)]; rfl) | (rw [rkC_z (Or.inr h21), rkC0_e h27, dab_f ha hb h44]; rfl) | (rw [rkC_z (Or.inr h21), rkC0_e h27, dab_t ha hb h44]; rfl) | (rw [rkC_z (Or.inr h21), rkC0_n h27, decide_eq_false (Int32.not_lt.mpr h31)]; rfl) | (rw [rkC_z (Or.inr h21), rkC0_n h27, decide_eq_true (Int32.not_le.mp h31)]; rfl), rfl⟩
    · refine ev_iload_n 3 dX0_isRiskier_30 rfl rfl ?_
      refine ev_if_le 38 dX0_isRiskier_31 (by decide) (fun h31 => ?_) (fun h31 => ?_)
      · refine ev_iconst (nI 0) dX0_isRiskier_38 rfl ?_
        refine ev_goto 52 dX0_isRiskier_39 (by decide) ?_
        exact ev_ireturn dX0_isRiskier_52 (Nat.le_of_ble_eq_true rfl) ⟨by first | (rw [rkC_z (Or.inl h16), rkC0_e h27, dab_f ha hb h44]; rfl) | (rw [rkC_z (Or.inl h16), rkC0_e h27, dab_t ha hb h44]; rfl) | (rw [rkC_z (Or.inl h16), rkC0_n h27, decide_eq_false (Int32.not_lt.mpr h31)]; rfl) | (rw [rkC_z (Or.inl h16), rkC0_n h27, decide_eq_true (Int32.not_le.mp h31)]; rfl) | (rw [rkC_z (Or.inr h21), rkC0_e h27, dab_f ha hb h44]; rfl) | (rw [rkC_z (Or.inr h21), rkC0_e h27, dab_t ha hb h44]; rfl) | (rw [rkC_z (Or.inr h21), rkC0_n h27, decide_eq_false (Int32.not_lt.mpr h31)]; rfl) | (rw [rkC_z (Or.inr h21), rkC0_n h27, decide_eq_true (Int32.not_le.mp h31)]; rfl), rfl⟩
      · refine ev_iconst (nI 1) dX0_isRiskier_34 rfl ?_
        refine ev_goto 52 dX0_isRiskier_35 (by decide) ?_
        exact ev_ireturn dX0_isRiskier_52 (Nat.le_of_ble_eq_true rfl) ⟨by first | (rw [rkC_z (Or.inl h16), rkC0_e h27, dab_f ha hb h44]; rfl) | (rw [rkC_z (Or.inl h16), rkC0_e h27, dab_t ha hb h44]; rfl) | (rw [rkC_z (Or.inl h16), rkC0_n h27, decide_eq_false (Int32.not_lt.mpr h31)]; rfl) | (rw [rkC_z (Or.inl h16), rkC0_n h27, decide_eq_true (Int32.not_le.mp h31)]; rfl) | (rw [rkC_z (Or.inr h21), rkC0_e h27, dab_f ha hb h44]; rfl) | (rw [rkC_z (Or.inr h21), rkC0_e h27, dab_t ha hb h44]; rfl) | (rw [rkC_z (Or.inr h21), rkC0_n h27, decide_eq_false (Int32.not_lt.mpr h31)]; rfl) | (rw [rkC_z (Or.inr h21), rkC0_n h27, decide_eq_true (Int32.not_le.mp h31)]; rfl), rfl⟩
  · refine ev_iload dX0_isRiskier_19 rfl ?_
    refine ev_if_ne 53 dX0_isRiskier_21 (by decide) (fun h21 => ?_) (fun h21 => ?_)
    · refine ev_aload_n 0 dX0_isRiskier_53 rfl rfl ?_
      refine ev_iload_n 1 dX0_isRiskier_54 rfl rfl ?_
      refine ev_cV1 (c0_cover _ _ _ _ _ _ _ (by omega)) kX0_cover rfl g335 rfl rfl rfl rfl dX0_isRiskier_55 ?_
      refine ev_i2l dX0_isRiskier_58 ?_
      refine ev_iload dX0_isRiskier_59 rfl ?_
      refine ev_i2l dX0_isRiskier_61 ?_
      refine ev_lmul dX0_isRiskier_62 ?_
      refine ev_lstore dX0_isRiskier_63 (Nat.le_of_ble_eq_true rfl) rfl ?_
      refine ev_aload_n 0 dX0_isRiskier_65 rfl rfl ?_
      refine ev_iload_n 2 dX0_isRiskier_66 rfl rfl ?_
      refine ev_cV1 (c0_cover _ _ _ _ _ _ _ (by omega)) kX0_cover rfl g335 rfl rfl rfl rfl dX0_isRiskier_67 ?_
      refine ev_i2l dX0_isRiskier_70 ?_
      refine ev_iload_n 3 dX0_isRiskier_71 rfl rfl ?_
      refine ev_i2l dX0_isRiskier_72 ?_
      refine ev_lmul dX0_isRiskier_73 ?_
      refine ev_lstore dX0_isRiskier_74 (Nat.le_of_ble_eq_true rfl) rfl ?_
      refine ev_lload dX0_isRiskier_76 rfl ?_
      refine ev_lload dX0_isRiskier_78 rfl ?_
      refine ev_lcmp dX0_isRiskier_80 ?_
      refine ev_if_eq 100 dX0_isRiskier_81 (by decide) (fun h81 => ?_) (fun h81 => ?_)
      · refine ev_iload_n 1 dX0_isRiskier_100 rfl rfl ?_
        refine ev_iload_n 2 dX0_isRiskier_101 rfl rfl ?_
        refine ev_icmp_ge 109 dX0_isRiskier_102 (by decide) (fun h102 => ?_) (fun h102 => ?_)
        · refine ev_iconst (nI 0) dX0_isRiskier_109 rfl ?_
          exact ev_ireturn dX0_isRiskier_110 (Nat.le_of_ble_eq_true rfl) ⟨by first | (rw [rkC_n h16 h21, rkC1_e h81, dab_f ha hb h102]; rfl) | (rw [rkC_n h16 h21, rkC1_e h81, dab_t ha hb h102]; rfl) | (rw [rkC_n h16 h21, rkC1_n h81, show decide (lg_cmp (rkL τ a b) (rkL τ b a) < 0) = false from decide_eq_false (Int32.not_lt.mpr h89)]; rfl) | (rw [rkC_n h16 h21, rkC1_n h81, show decide (lg_cmp (rkL τ a b) (rkL τ b a) < 0) = true from decide_eq_true (Int32.not_le.mp h89)]; rfl), rfl⟩
        · refine ev_iconst (nI 1) dX0_isRiskier_105 rfl ?_
          refine ev_goto 110 dX0_isRiskier_106 (by decide) ?_
          exact ev_ireturn dX0_isRiskier_110 (Nat.le_of_ble_eq_true rfl) ⟨by first | (rw [rkC_n h16 h21, rkC1_e h81, dab_f ha hb h102]; rfl) | (rw [rkC_n h16 h21, rkC1_e h81, dab_t ha hb h102]; rfl) | (rw [rkC_n h16 h21, rkC1_n h81, show decide (lg_cmp (rkL τ a b) (rkL τ b a) < 0) = false from decide_eq_false (Int32.not_lt.mpr h89)]; rfl) | (rw [rkC_n h16 h21, rkC1_n h81, show decide (lg_cmp (rkL τ a b) (rkL τ b a) < 0) = true from decide_eq_true (Int32.not_le.mp h89)]; rfl), rfl⟩
      · refine ev_lload dX0_isRiskier_84 rfl ?_
        refine ev_lload dX0_isRiskier_86 rfl ?_
        refine ev_lcmp dX0_isRiskier_88 ?_
        refine ev_if_ge 96 dX0_isRiskier_89 (by decide) (fun h89 => ?_) (fun h89 => ?_)
        · refine ev_iconst (nI 0) dX0_isRiskier_96 rfl ?_
          refine ev_goto 110 dX0_isRiskier_97 (by decide) ?_
          exact ev_ireturn dX0_isRiskier_110 (Nat.le_of_ble_eq_true rfl) ⟨by first | (rw [rkC_n h16 h21, rkC1_e h81, dab_f ha hb h102]; rfl) | (rw [rkC_n h16 h21, rkC1_e h81, dab_t ha hb h102]; rfl) | (rw [rkC_n h16 h21, rkC1_n h81, show decide (lg_cmp (rkL τ a b) (rkL τ b a) < 0) = false from decide_eq_false (Int32.not_lt.mpr h89)]; rfl) | (rw [rkC_n h16 h21, rkC1_n h81, show decide (lg_cmp (rkL τ a b) (rkL τ b a) < 0) = true from decide_eq_true (Int32.not_le.mp h89)]; rfl), rfl⟩
        · refine ev_iconst (nI 1) dX0_isRiskier_92 rfl ?_
          refine ev_goto 110 dX0_isRiskier_93 (by decide) ?_
          exact ev_ireturn dX0_isRiskier_110 (Nat.le_of_ble_eq_true rfl) ⟨by first | (rw [rkC_n h16 h21, rkC1_e h81, dab_f ha hb h102]; rfl) | (rw [rkC_n h16 h21, rkC1_e h81, dab_t ha hb h102]; rfl) | (rw [rkC_n h16 h21, rkC1_n h81, show decide (lg_cmp (rkL τ a b) (rkL τ b a) < 0) = false from decide_eq_false (Int32.not_lt.mpr h89)]; rfl) | (rw [rkC_n h16 h21, rkC1_n h81, show decide (lg_cmp (rkL τ a b) (rkL τ b a) < 0) = true from decide_eq_true (Int32.not_le.mp h89)]; rfl), rfl⟩
    · refine ev_iload_n 3 dX0_isRiskier_24 rfl rfl ?_
      refine ev_iload dX0_isRiskier_25 rfl ?_
      refine ev_icmp_eq 42 dX0_isRiskier_27 (by decide) (fun h27 => ?_) (fun h27 => ?_)
      · refine ev_iload_n 1 dX0_isRiskier_42 rfl rfl ?_
        refine ev_iload_n 2 dX0_isRiskier_43 rfl rfl ?_
        refine ev_icmp_ge 51 dX0_isRiskier_44 (by decide) (fun h44 => ?_) (fun h44 => ?_)
        · refine ev_iconst (nI 0) dX0_isRiskier_51 rfl ?_
          exact ev_ireturn dX0_isRiskier_52 (Nat.le_of_ble_eq_true rfl) ⟨by first | (rw [rkC_z (Or.inl h16), rkC0_e h27, dab_f ha hb h44]; rfl) | (rw [rkC_z (Or.inl h16), rkC0_e h27, dab_t ha hb h44]; rfl) | (rw [rkC_z (Or.inl h16), rkC0_n h27, decide_eq_false (Int32.not_lt.mpr h31)]; rfl) | (rw [rkC_z (Or.inl h16), rkC0_n h27, decide_eq_true (Int32.not_le.mp h31)]; rfl) | (rw [rkC_z (Or.inr h21), rkC0_e h27, dab_f ha hb h44]; rfl) | (rw [rkC_z (Or.inr h21), rkC0_e h27, dab_t ha hb h44]; rfl) | (rw [rkC_z (Or.inr h21), rkC0_n h27, decide_eq_false (Int32.not_lt.mpr h31)]; rfl) | (rw [rkC_z (Or.inr h21), rkC0_n h27, decide_eq_true (Int32.not_le.mp h31)]; rfl), rfl⟩
        · refine ev_iconst (nI 1) dX0_isRiskier_47 rfl ?_
          refine ev_goto 52 dX0_isRiskier_48 (by decide) ?_
          exact ev_ireturn dX0_isRiskier_52 (Nat.le_of_ble_eq_true rfl) ⟨by first | (rw [rkC_z (Or.inl h16), rkC0_e h27, dab_f ha hb h44]; rfl) | (rw [rkC_z (Or.inl h16), rkC0_e h27, dab_t ha hb h44]; rfl) | (rw [rkC_z (Or.inl h16), rkC0_n h27, decide_eq_false (Int32.not_lt.mpr h31)]; rfl) | (rw [rkC_z (Or.inl h16), rkC0_n h27, decide_eq_true (Int32.not_le.mp h31)]; rfl) | (rw [rkC_z (Or.inr h21), rkC0_e h27, dab_f ha hb h44]; rfl) | (rw [rkC_z (Or.inr h21), rkC0_e h27, dab_t ha hb h44]; rfl) | (rw [rkC_z (Or.inr h21), rkC0_n h27, decide_eq_false (Int32.not_lt.mpr h31)]; rfl) | (rw [rkC_z (Or.inr h21), rkC0_n h27, decide_eq_true (Int32.not_le.mp h31)]; rfl), rfl⟩
      · refine ev_iload_n 3 dX0_isRiskier_30 rfl rfl ?_
        refine ev_if_le 38 dX0_isRiskier_31 (by decide) (fun h31 => ?_) (fun h31 => ?_)
        · refine ev_iconst (nI 0) dX0_isRiskier_38 rfl ?_
          refine ev_goto 52 dX0_isRiskier_39 (by decide) ?_
          exact ev_ireturn dX0_isRiskier_52 (Nat.le_of_ble_eq_true rfl) ⟨by first | (rw [rkC_z (Or.inl h16), rkC0_e h27, dab_f ha hb h44]; rfl) | (rw [rkC_z (Or.inl h16), rkC0_e h27, dab_t ha hb h44]; rfl) | (rw [rkC_z (Or.inl h16), rkC0_n h27, decide_eq_false (Int32.not_lt.mpr h31)]; rfl) | (rw [rkC_z (Or.inl h16), rkC0_n h27, decide_eq_true (Int32.not_le.mp h31)]; rfl) | (rw [rkC_z (Or.inr h21), rkC0_e h27, dab_f ha hb h44]; rfl) | (rw [rkC_z (Or.inr h21), rkC0_e h27, dab_t ha hb h44]; rfl) | (rw [rkC_z (Or.inr h21), rkC0_n h27, decide_eq_false (Int32.not_lt.mpr h31)]; rfl) | (rw [rkC_z (Or.inr h21), rkC0_n h27, decide_eq_true (Int32.not_le.mp h31)]; rfl), rfl⟩
        · refine ev_iconst (nI 1) dX0_isRiskier_34 rfl ?_
          refine ev_goto 52 dX0_isRiskier_35 (by decide) ?_
          exact ev_ireturn dX0_isRiskier_52 (Nat.le_of_ble_eq_true rfl) ⟨by first | (rw [rkC_z (Or.inl h16), rkC0_e h27, dab_f ha hb h44]; rfl) | (rw [rkC_z (Or.inl h16), rkC0_e h27, dab_t ha hb h44]; rfl) | (rw [rkC_z (Or.inl h16), rkC0_n h27, decide_eq_false (Int32.not_lt.mpr h31)]; rfl) | (rw [rkC_z (Or.inl h16), rkC0_n h27, decide_eq_true (Int32.not_le.mp h31)]; rfl) | (rw [rkC_z (Or.inr h21), rkC0_e h27, dab_f ha hb h44]; rfl) | (rw [rkC_z (Or.inr h21), rkC0_e h27, dab_t ha hb h44]; rfl) | (rw [rkC_z (Or.inr h21), rkC0_n h27, decide_eq_false (Int32.not_lt.mpr h31)]; rfl) | (rw [rkC_z (Or.inr h21), rkC0_n h27, decide_eq_true (Int32.not_le.mp h31)]; rfl), rfl⟩
set_option maxHeartbeats 1000000 in
theorem c0_riskPlace (p : Nat → va_E) (sl pl ks rr τ : Nat → Int32) (g : PW) {c : Nat} (hc : c < 8) : Ct mX0_riskPlace [.ref 17, .int (nI c)] (nw p sl pl ks rr τ g) (d1 (some (.int (rplS τ c 8))) (nw p sl pl ks rr τ g)) nx := by
  refine ct_of 1 kX0_riskPlace.1 rfl (Nat.le_of_ble_eq_true rfl) (fun v u h => by obtain ⟨rfl, rfl⟩ := h; exact rfl) ?_
  show Ev _ _ _ 0 0 [(0, .ref 17), (1, .int (nI c))] [] _
  refine ev_iconst (nI 0) dX0_riskPlace_0 rfl ?_
  refine ev_istore_n 2 dX0_riskPlace_1 rfl (Nat.le_of_ble_eq_true rfl) rfl ?_
  refine ev_iconst (nI 0) dX0_riskPlace_2 rfl ?_
  refine ev_istore_n 3 dX0_riskPlace_3 rfl (Nat.le_of_ble_eq_true rfl) rfl ?_
  suffices H : ∀ fu j, j + fu = 8 → Ev mX0_riskPlace (d1 (some (.int (rplS τ c 8))) (nw p sl pl ks rr τ g)) nx 0 4 [(3, .int (nI (j))), (2, .int (rplS τ c (j))), (0, .ref 17), (1, .int (nI c))] [] ((nw p sl pl ks rr τ g)) from ev_sub [0, 1, 2, 3] rfl (H 8 0 (Nat.zero_add _))
  intro fu
  induction fu with
  | zero =>
    intro j hj
    obtain rfl : 8 = j := by omega
    refine ev_iload_n 3 dX0_riskPlace_4 rfl rfl ?_
    refine ev_bipush (nI 8) dX0_riskPlace_5 rfl ?_
    refine ev_icmp_ge 33 dX0_riskPlace_7 (by decide) (fun h7 => ?_) (fun h7 => absurd (nI_le (Nat.le_refl 8) (by omega)) h7)
    refine ev_iload_n 2 dX0_riskPlace_33 rfl rfl ?_
    exact ev_ireturn dX0_riskPlace_34 (Nat.le_of_ble_eq_true rfl) ⟨rfl, rfl⟩
  | succ fu ih =>
    intro j hj
    have hj6 : j < 8 := by omega
    refine ev_iload_n 3 dX0_riskPlace_4 rfl rfl ?_
    refine ev_bipush (nI 8) dX0_riskPlace_5 rfl ?_
    refine ev_icmp_ge 33 dX0_riskPlace_7 (by decide) (fun h7 => absurd h7 (nI_ge hj6 (by omega))) (fun h7 => ?_)
    refine ev_iload_n 3 dX0_riskPlace_10 rfl rfl ?_
    refine ev_iload_n 1 dX0_riskPlace_11 rfl rfl ?_
    refine ev_icmp_eq 27 dX0_riskPlace_12 (by decide) (fun h12 => ?_) (fun h12 => ?_)
    · have hj : j = c := (nI_eq (by omega) (by omega)).mp h12
      refine ev_iinc (nI (j + 1)) dX0_riskPlace_27 rfl (nI_1 j) (Nat.le_of_ble_eq_true rfl) rfl ?_
      refine ev_goto 4 dX0_riskPlace_30 (by decide) ?_
      have I := ih (j + 1) (by omega)
      rw [rpl_no (n := j) (by rw [decide_eq_true hj]; rfl)] at I
      exact ev_sub [0, 1, 2, 3] rfl I
    · have hj : ¬ j = c := fun e => h12 (by rw [e])
      refine ev_aload_n 0 dX0_riskPlace_15 rfl rfl ?_
      refine ev_iload_n 3 dX0_riskPlace_16 rfl rfl ?_
      refine ev_iload_n 1 dX0_riskPlace_17 rfl rfl ?_
      refine ev_cV2 (c0_isRiskier _ _ _ _ _ _ _ (by omega) (by omega)) kX0_isRiskier rfl g675 rfl rfl rfl rfl dX0_riskPlace_18 ?_
      refine ev_if_eq 27 dX0_riskPlace_21 (by decide) (fun h21 => ?_) (fun h21 => ?_)
      · refine ev_iinc (nI (j + 1)) dX0_riskPlace_27 rfl (nI_1 j) (Nat.le_of_ble_eq_true rfl) rfl ?_
        refine ev_goto 4 dX0_riskPlace_30 (by decide) ?_
        have I := ih (j + 1) (by omega)
        rw [rpl_no (n := j) (by rw [bI_0.mp h21, Bool.and_false])] at I
        exact ev_sub [0, 1, 2, 3] rfl I
      · refine ev_iinc (rplS τ c (j + 1)) dX0_riskPlace_24 rfl (rpl_yes hj (bI_1.mp h21)) (Nat.le_of_ble_eq_true rfl) rfl ?_
        refine ev_iinc (nI (j + 1)) dX0_riskPlace_27 rfl (nI_1 j) (Nat.le_of_ble_eq_true rfl) rfl ?_
        refine ev_goto 4 dX0_riskPlace_30 (by decide) ?_
        have I := ih (j + 1) (by omega)
        exact ev_sub [0, 1, 2, 3] rfl I
set_option maxHeartbeats 1000000 in
theorem c0_sort (p : Nat → va_E) (sl pl ks : Nat → Int32) (ρ : Nat → Nat) (τ : Nat → Int32) (g : PW) (hR : R8 ρ) : Ct mX0_sortByRisk [.ref 17, .ref 13] (nw p sl pl ks (rN (ρ)) τ g) (d1 none (nw p sl pl ks (rN (srtN τ ρ 8)) τ g)) nx := by
  refine ct_of 1 kX0_sortByRisk.1 rfl (Nat.le_of_ble_eq_true rfl) (fun v u h => by obtain ⟨rfl, rfl⟩ := h; exact trivial) ?_
  show Ev _ _ _ 0 0 [(0, .ref 17), (1, .ref 13)] [] _
  refine ev_iconst (nI 0) dX0_sortByRisk_0 rfl ?_
  refine ev_istore_n 2 dX0_sortByRisk_1 rfl (Nat.le_of_ble_eq_true rfl) rfl ?_
  suffices H : ∀ fu j, j + fu = 8 → Ev mX0_sortByRisk (d1 none (nw p sl pl ks (rN (srtN τ ρ 8)) τ g)) nx 0 2 [(2, .int (nI (j))), (0, .ref 17), (1, .ref 13)] [] (nw p sl pl ks (rN (srtN τ ρ (j))) τ g) from ev_sub [0, 1, 2] rfl (H 8 0 (Nat.zero_add _))
  intro fu
  induction fu with
  | zero =>
    intro j hj
    obtain rfl : 8 = j := by omega
    refine ev_iload_n 2 dX0_sortByRisk_2 rfl rfl ?_
    refine ev_bipush (nI 8) dX0_sortByRisk_3 rfl ?_
    refine ev_icmp_ge 51 dX0_sortByRisk_5 (by decide) (fun h5 => ?_) (fun h5 => absurd (nI_le (Nat.le_refl 8) (by omega)) h5)
    exact ev_return dX0_sortByRisk_51 (Nat.le_of_ble_eq_true rfl) ⟨rfl, rfl⟩
  | succ fu ih =>
    intro j hj
    have hj6 : j < 8 := by omega
    refine ev_iload_n 2 dX0_sortByRisk_2 rfl rfl ?_
    refine ev_bipush (nI 8) dX0_sortByRisk_3 rfl ?_
    refine ev_icmp_ge 51 dX0_sortByRisk_5 (by decide) (fun h5 => absurd h5 (nI_ge hj6 (by omega))) (fun h5 => ?_)
    refine ev_iload_n 2 dX0_sortByRisk_8 rfl rfl ?_
    refine ev_istore_n 3 dX0_sortByRisk_9 rfl (Nat.le_of_ble_eq_true rfl) rfl ?_
    suffices I : ∀ q (r : Nat → Nat), q ≤ j → R8 r → insF τ j q r = srtN τ ρ (j + 1) → Ev mX0_sortByRisk (d1 none (nw p sl pl ks (rN (srtN τ ρ 8)) τ g)) nx 0 10 [(3, .int (nI q)), (2, .int (nI j)), (0, .ref 17), (1, .ref 13)] [] (nw p sl pl ks (rN (r)) τ g) from ev_sub [0, 1, 2, 3] rfl (I j (srtN τ ρ j) (Nat.le_refl j) (R8_srt hR j (by omega)) rfl)
    intro q
    induction q with
    | zero =>
      intro r hq hr hw
      refine ev_iload_n 3 dX0_sortByRisk_10 rfl rfl ?_
      refine ev_if_le 41 dX0_sortByRisk_11 (by decide) (fun h11 => ?_) (fun h11 => absurd (by decide) h11)
      refine ev_aload_n 1 dX0_sortByRisk_41 rfl rfl ?_
      refine ev_iload_n 3 dX0_sortByRisk_42 rfl rfl ?_
      refine ev_iload_n 2 dX0_sortByRisk_43 rfl rfl ?_
      refine ev_ist (0) dX0_sortByRisk_44 rfl rfl (by omega) rfl (nw_rr _ _ _ _ _ _ _ _) ?_
      refine ev_w (w' := nw p sl pl ks (rN (srtN τ ρ (j + 1))) τ g) (by rw [upd_rN, ← hw]; rfl) ?_
      refine ev_iinc (nI (j + 1)) dX0_sortByRisk_45 rfl (nI_1 j) (Nat.le_of_ble_eq_true rfl) rfl ?_
      refine ev_goto 2 dX0_sortByRisk_48 (by decide) ?_
      exact ev_sub [0, 2, 3] rfl (ih (j + 1) (by omega))
    | succ q iq =>
      intro r hq hr hw
      have hrq : r q < 8 := hr q
      refine ev_iload_n 3 dX0_sortByRisk_10 rfl rfl ?_
      refine ev_if_le 41 dX0_sortByRisk_11 (by decide) (fun h11 => absurd h11 (nI_nle (by omega) (by omega))) (fun h11 => ?_)
      refine ev_aload_n 0 dX0_sortByRisk_14 rfl rfl ?_
      refine ev_iload_n 2 dX0_sortByRisk_15 rfl rfl ?_
      refine ev_aload_n 1 dX0_sortByRisk_16 rfl rfl ?_
      refine ev_iload_n 3 dX0_sortByRisk_17 rfl rfl ?_
      refine ev_iconst (nI 1) dX0_sortByRisk_18 rfl ?_
      refine ev_isub dX0_sortByRisk_19 ?_
      refine ev_top (nI q) (nI_pred q) ?_
      refine ev_ild (q) dX0_sortByRisk_20 rfl rfl (by omega) rfl ?_
      refine ev_top (nI (r q)) rfl ?_
      refine ev_cV2 (c0_isRiskier _ _ _ _ _ _ _ (by omega) (by omega)) kX0_isRiskier rfl g675 rfl rfl rfl rfl dX0_sortByRisk_21 ?_
      refine ev_if_eq 41 dX0_sortByRisk_24 (by decide) (fun h24 => ?_) (fun h24 => ?_)
      · have e9 : insF τ j (q + 1) r = updN r (q + 1) j := if_neg (by rw [bI_0.mp h24]; decide)
        refine ev_aload_n 1 dX0_sortByRisk_41 rfl rfl ?_
        refine ev_iload_n 3 dX0_sortByRisk_42 rfl rfl ?_
        refine ev_iload_n 2 dX0_sortByRisk_43 rfl rfl ?_
        refine ev_ist (q + 1) dX0_sortByRisk_44 rfl rfl (by omega) rfl (nw_rr _ _ _ _ _ _ _ _) ?_
        refine ev_w (w' := nw p sl pl ks (rN (srtN τ ρ (j + 1))) τ g) (by rw [upd_rN, ← hw]; rw [e9]) ?_
        refine ev_iinc (nI (j + 1)) dX0_sortByRisk_45 rfl (nI_1 j) (Nat.le_of_ble_eq_true rfl) rfl ?_
        refine ev_goto 2 dX0_sortByRisk_48 (by decide) ?_
        exact ev_sub [0, 2, 3] rfl (ih (j + 1) (by omega))
      · have e9 : insF τ j (q + 1) r = insF τ j q (updN r (q + 1) (r q)) := if_pos (bI_1.mp h24)
        refine ev_aload_n 1 dX0_sortByRisk_27 rfl rfl ?_
        refine ev_iload_n 3 dX0_sortByRisk_28 rfl rfl ?_
        refine ev_aload_n 1 dX0_sortByRisk_29 rfl rfl ?_
        refine ev_iload_n 3 dX0_sortByRisk_30 rfl rfl ?_
        refine ev_iconst (nI 1) dX0_sortByRisk_31 rfl ?_
        refine ev_isub dX0_sortByRisk_32 ?_
        refine ev_top (nI q) (nI_pred q) ?_
        refine ev_ild (q) dX0_sortByRisk_33 rfl rfl (by omega) rfl ?_
        refine ev_top (nI (r q)) rfl ?_
        refine ev_ist (q + 1) dX0_sortByRisk_34 rfl rfl (by omega) rfl (nw_rr _ _ _ _ _ _ _ _) ?_
        refine ev_w (w' := nw p sl pl ks (rN (updN r (q + 1) (r q))) τ g) (by rw [upd_rN]) ?_
        refine ev_iinc (nI q) dX0_sortByRisk_35 rfl (pk_m1 q) (Nat.le_of_ble_eq_true rfl) rfl ?_
        refine ev_goto 10 dX0_sortByRisk_38 (by decide) ?_
        exact ev_sub [0, 1, 2, 3] rfl (iq _ (by omega) (R8_upd hr hrq) (by rw [← e9]; exact hw))
set_option maxHeartbeats 1000000 in
theorem c0_riskiestBut (p : Nat → va_E) (sl pl ks rr τ : Nat → Int32) (g : PW) (b : Nat → Bool) : Ct mX0_riskiestBut [.ref 17, .int (bitN b 8)] (nw p sl pl ks rr τ g) (d1 (some (.int (nI (rbS τ b)))) (nw p sl pl ks rr τ g)) nx := by
  refine ct_of 1 kX0_riskiestBut.1 rfl (Nat.le_of_ble_eq_true rfl) (fun v u h => by obtain ⟨rfl, rfl⟩ := h; exact rfl) ?_
  show Ev _ _ _ 0 0 [(0, .ref 17), (1, .int (bitN b 8))] [] _
  refine ev_iconst (-1) dX0_riskiestBut_0 rfl ?_
  refine ev_istore_n 2 dX0_riskiestBut_1 rfl (Nat.le_of_ble_eq_true rfl) rfl ?_
  refine ev_iconst (nI 0) dX0_riskiestBut_2 rfl ?_
  refine ev_istore_n 3 dX0_riskiestBut_3 rfl (Nat.le_of_ble_eq_true rfl) rfl ?_
  suffices H : ∀ fu j, j + fu = 8 → Ev mX0_riskiestBut (d1 (some (.int (nI (rbS τ b)))) (nw p sl pl ks rr τ g)) nx 0 4 [(3, .int (nI (j))), (2, .int (oI (rbF τ b (j)))), (0, .ref 17), (1, .int (bitN b 8))] [] ((nw p sl pl ks rr τ g)) from ev_sub [0, 1, 2, 3] rfl (H 8 0 (Nat.zero_add _))
  intro fu
  induction fu with
  | zero =>
    intro j hj
    obtain rfl : 8 = j := by omega
    refine ev_iload_n 3 dX0_riskiestBut_4 rfl rfl ?_
    refine ev_bipush (nI 8) dX0_riskiestBut_5 rfl ?_
    refine ev_icmp_ge 52 dX0_riskiestBut_7 (by decide) (fun h7 => ?_) (fun h7 => absurd (nI_le (Nat.le_refl 8) (by omega)) h7)
    cases hs : rbF τ b 8 with
    | none =>
      refine ev_LL [(3, .int (nI 8)), (2, .int (-1)), (0, .ref 17), (1, .int (bitN b 8))] (by rfl) ?_
      refine ev_iload_n 2 dX0_riskiestBut_52 rfl rfl ?_
      refine ev_iconst (-1) dX0_riskiestBut_53 rfl ?_
      refine ev_icmp_ne 61 dX0_riskiestBut_54 (by decide) (fun h54 => absurd (by rfl) h54) (fun h54 => ?_)
      refine ev_iconst (nI 0) dX0_riskiestBut_57 rfl ?_
      refine ev_goto 62 dX0_riskiestBut_58 (by decide) ?_
      exact ev_ireturn dX0_riskiestBut_62 (Nat.le_of_ble_eq_true rfl) ⟨by rw [show rbS τ b = 0 by unfold rbS; rw [hs]; rfl], rfl⟩
    | some q =>
      refine ev_LL [(3, .int (nI 8)), (2, .int (oI (some q))), (0, .ref 17), (1, .int (bitN b 8))] (by rfl) ?_
      refine ev_iload_n 2 dX0_riskiestBut_52 rfl rfl ?_
      refine ev_iconst (-1) dX0_riskiestBut_53 rfl ?_
      refine ev_icmp_ne 61 dX0_riskiestBut_54 (by decide) (fun h54 => ?_) (fun h54 => absurd h54 (oIs_ne (rbF_lt hs)))
      refine ev_iload_n 2 dX0_riskiestBut_61 rfl rfl ?_
      exact ev_ireturn dX0_riskiestBut_62 (Nat.le_of_ble_eq_true rfl) ⟨by rw [show rbS τ b = q by unfold rbS; rw [hs]; rfl]; rfl, rfl⟩
  | succ fu ih =>
    intro j hj
    have hj6 : j < 8 := by omega
    refine ev_iload_n 3 dX0_riskiestBut_4 rfl rfl ?_
    refine ev_bipush (nI 8) dX0_riskiestBut_5 rfl ?_
    refine ev_icmp_ge 52 dX0_riskiestBut_7 (by decide) (fun h7 => absurd h7 (nI_ge hj6 (by omega))) (fun h7 => ?_)
    refine ev_iload_n 1 dX0_riskiestBut_10 rfl rfl ?_
    refine ev_iload_n 3 dX0_riskiestBut_11 rfl rfl ?_
    refine ev_ishr dX0_riskiestBut_12 ?_
    refine ev_iconst (nI 1) dX0_riskiestBut_13 rfl ?_
    refine ev_iand dX0_riskiestBut_14 ?_
    refine ev_top (bI (b j)) (bit_at b hj6) ?_
    refine ev_if_ne 22 dX0_riskiestBut_15 (by decide) (fun h15 => ?_) (fun h15 => ?_)
    · refine ev_iconst (nI 0) dX0_riskiestBut_22 rfl ?_
      refine ev_istore dX0_riskiestBut_23 (Nat.le_of_ble_eq_true rfl) rfl ?_
      refine ev_iload dX0_riskiestBut_25 rfl ?_
      refine ev_if_eq 46 dX0_riskiestBut_27 (by decide) (fun h27 => ?_) (fun h27 => absurd (by rfl) h27)
      refine ev_iinc (nI (j + 1)) dX0_riskiestBut_46 rfl (nI_1 j) (Nat.le_of_ble_eq_true rfl) rfl ?_
      refine ev_goto 4 dX0_riskiestBut_49 (by decide) ?_
      have I := ih (j + 1) (by omega)
      rw [rb_not (bI_1.mp h15)] at I
      exact ev_sub [0, 2, 3, 4] rfl I
    · have hb := bI_0.mp h15
      refine ev_iconst (nI 1) dX0_riskiestBut_18 rfl ?_
      refine ev_goto 23 dX0_riskiestBut_19 (by decide) ?_
      refine ev_istore dX0_riskiestBut_23 (Nat.le_of_ble_eq_true rfl) rfl ?_
      refine ev_iload dX0_riskiestBut_25 rfl ?_
      refine ev_if_eq 46 dX0_riskiestBut_27 (by decide) (fun h27 => absurd h27 (by decide)) (fun h27 => ?_)
      cases hs : rbF τ b j with
      | none =>
        refine ev_LL [(4, .int (nI 1)), (3, .int (nI j)), (2, .int (-1)), (0, .ref 17), (1, .int (bitN b 8))] (by rfl) ?_
        refine ev_iload_n 2 dX0_riskiestBut_30 rfl rfl ?_
        refine ev_iconst (-1) dX0_riskiestBut_31 rfl ?_
        refine ev_icmp_eq 44 dX0_riskiestBut_32 (by decide) (fun h32 => ?_) (fun h32 => absurd (by rfl) h32)
        refine ev_iload_n 3 dX0_riskiestBut_44 rfl rfl ?_
        refine ev_istore_n 2 dX0_riskiestBut_45 rfl (Nat.le_of_ble_eq_true rfl) rfl ?_
        refine ev_iinc (nI (j + 1)) dX0_riskiestBut_46 rfl (nI_1 j) (Nat.le_of_ble_eq_true rfl) rfl ?_
        refine ev_goto 4 dX0_riskiestBut_49 (by decide) ?_
        have I := ih (j + 1) (by omega)
        rw [rb_first hb hs] at I
        exact ev_sub [0, 1, 3, 4] rfl I
      | some q =>
        have hq := rbF_lt hs
        refine ev_LL [(4, .int (nI 1)), (3, .int (nI j)), (2, .int (oI (some q))), (0, .ref 17), (1, .int (bitN b 8))] (by rfl) ?_
        refine ev_iload_n 2 dX0_riskiestBut_30 rfl rfl ?_
        refine ev_iconst (-1) dX0_riskiestBut_31 rfl ?_
        refine ev_icmp_eq 44 dX0_riskiestBut_32 (by decide) (fun h32 => absurd h32 (oIs_ne (by omega))) (fun h32 => ?_)
        refine ev_aload_n 0 dX0_riskiestBut_35 rfl rfl ?_
        refine ev_iload_n 3 dX0_riskiestBut_36 rfl rfl ?_
        refine ev_iload_n 2 dX0_riskiestBut_37 rfl rfl ?_
        refine ev_top (nI q) rfl ?_
        refine ev_cV2 (c0_isRiskier _ _ _ _ _ _ _ (by omega) (by omega)) kX0_isRiskier rfl g675 rfl rfl rfl rfl dX0_riskiestBut_38 ?_
        refine ev_if_eq 46 dX0_riskiestBut_41 (by decide) (fun h41 => ?_) (fun h41 => ?_)
        · refine ev_iinc (nI (j + 1)) dX0_riskiestBut_46 rfl (nI_1 j) (Nat.le_of_ble_eq_true rfl) rfl ?_
          refine ev_goto 4 dX0_riskiestBut_49 (by decide) ?_
          have I := ih (j + 1) (by omega)
          rw [rb_less hs (bI_0.mp h41)] at I
          exact ev_sub [0, 2, 3, 4] rfl I
        · refine ev_iload_n 3 dX0_riskiestBut_44 rfl rfl ?_
          refine ev_istore_n 2 dX0_riskiestBut_45 rfl (Nat.le_of_ble_eq_true rfl) rfl ?_
          refine ev_iinc (nI (j + 1)) dX0_riskiestBut_46 rfl (nI_1 j) (Nat.le_of_ble_eq_true rfl) rfl ?_
          refine ev_goto 4 dX0_riskiestBut_49 (by decide) ?_
          have I := ih (j + 1) (by omega)
          rw [rb_more hb hs (bI_1.mp h41)] at I
          exact ev_sub [0, 1, 3, 4] rfl I
set_option maxHeartbeats 1000000 in
theorem c0_take (p : Nat → va_E) (sl pl ks rr τ : Nat → Int32) (g : PW) {t : Nat} (ht : t < 8) : Ct mX0_takeRiskiest [.ref 17, .int (nI t)] (nw p sl pl ks rr τ g) (d1 (some (.int (nI (tkN τ (t + 1)).2))) (nw p sl pl ks rr τ g)) nx := by
  refine ct_of 1 kX0_takeRiskiest.1 rfl (Nat.le_of_ble_eq_true rfl) (fun v u h => by obtain ⟨rfl, rfl⟩ := h; exact rfl) ?_
  show Ev _ _ _ 0 0 [(0, .ref 17), (1, .int (nI t))] [] _
  refine ev_iconst (nI 0) dX0_takeRiskiest_0 rfl ?_
  refine ev_istore_n 2 dX0_takeRiskiest_1 rfl (Nat.le_of_ble_eq_true rfl) rfl ?_
  refine ev_iconst (nI 0) dX0_takeRiskiest_2 rfl ?_
  refine ev_istore_n 3 dX0_takeRiskiest_3 rfl (Nat.le_of_ble_eq_true rfl) rfl ?_
  refine ev_iconst (nI 0) dX0_takeRiskiest_4 rfl ?_
  refine ev_istore dX0_takeRiskiest_5 (Nat.le_of_ble_eq_true rfl) rfl ?_
  have e0 : nI 0 = bitN (tkN τ 0).1 8 := (by decide +kernel : nI 0 = bitN (fun _ => false) 8)
  refine ev_LL [(4, .int (nI 0)), (3, .int (nI 0)), (2, .int (bitN (tkN τ 0).1 8)), (0, .ref 17), (1, .int (nI t))] (by rw [← e0]; rfl) ?_
  suffices H : ∀ fu j, j + fu = t + 1 → Ev mX0_takeRiskiest (d1 (some (.int (nI (tkN τ (t + 1)).2))) (nw p sl pl ks rr τ g)) nx 0 7 [(4, .int (nI (j))), (3, .int (nI (tkN τ (j)).2)), (2, .int (bitN (tkN τ (j)).1 8)), (0, .ref 17), (1, .int (nI t))] [] ((nw p sl pl ks rr τ g)) from ev_sub [0, 1, 2, 3, 4] rfl (H (t + 1) 0 (Nat.zero_add _))
  intro fu
  induction fu with
  | zero =>
    intro j hj
    obtain rfl : t + 1 = j := by omega
    refine ev_iload dX0_takeRiskiest_7 rfl ?_
    refine ev_iload_n 1 dX0_takeRiskiest_9 rfl rfl ?_
    refine ev_icmp_gt 31 dX0_takeRiskiest_10 (by decide) (fun h10 => ?_) (fun h10 => absurd (nI_lt (by omega) (by omega)) h10)
    refine ev_iload_n 3 dX0_takeRiskiest_31 rfl rfl ?_
    exact ev_ireturn dX0_takeRiskiest_32 (Nat.le_of_ble_eq_true rfl) ⟨rfl, rfl⟩
  | succ fu ih =>
    intro j hj
    have hj6 : j < t + 1 := by omega
    refine ev_iload dX0_takeRiskiest_7 rfl ?_
    refine ev_iload_n 1 dX0_takeRiskiest_9 rfl rfl ?_
    refine ev_icmp_gt 31 dX0_takeRiskiest_10 (by decide) (fun h10 => absurd h10 (nI_nlt (by omega) (by omega))) (fun h10 => ?_)
    refine ev_aload_n 0 dX0_takeRiskiest_13 rfl rfl ?_
    refine ev_iload_n 2 dX0_takeRiskiest_14 rfl rfl ?_
    refine ev_cV1 (c0_riskiestBut _ _ _ _ _ _ _ _) kX0_riskiestBut rfl g687 rfl rfl rfl rfl dX0_takeRiskiest_15 ?_
    refine ev_istore_n 3 dX0_takeRiskiest_18 rfl (Nat.le_of_ble_eq_true rfl) rfl ?_
    refine ev_iload_n 2 dX0_takeRiskiest_19 rfl rfl ?_
    refine ev_iconst (nI 1) dX0_takeRiskiest_20 rfl ?_
    refine ev_iload_n 3 dX0_takeRiskiest_21 rfl rfl ?_
    refine ev_ishl dX0_takeRiskiest_22 ?_
    refine ev_ior dX0_takeRiskiest_23 ?_
    refine ev_top (bitN (tkN τ (j + 1)).1 8) (bit_or _ (rbS_lt _ _)) ?_
    refine ev_istore_n 2 dX0_takeRiskiest_24 rfl (Nat.le_of_ble_eq_true rfl) rfl ?_
    refine ev_iinc (nI (j + 1)) dX0_takeRiskiest_25 rfl (nI_1 j) (Nat.le_of_ble_eq_true rfl) rfl ?_
    refine ev_goto 7 dX0_takeRiskiest_28 (by decide) ?_
    exact ev_sub [0, 2, 1, 3, 4] rfl (ih (j + 1) (by omega))
