/-! ===== the class: sales ===== -/
def keyS (τ : Nat → Int32) (k : Nat) : Int32 := if τ 101 = nI 1 then -τ (6 + k) else if τ 101 = nI 2 then τ (6 + k) else τ k
def oneC (τ : Nat → Int32) (k : Nat) : Int32 := τ k * (nI 100 - τ (6 + k))
def layP (τ : Nat → Int32) (c : Nat) (pl : Nat → Int32) : Nat → Nat → Int32
  | 0 => pl
  | n + 1 => upd (layP τ c pl n) n (τ (ix c n))
def layK (τ : Nat → Int32) (ks : Nat → Int32) : Nat → Nat → Int32
  | 0 => ks
  | n + 1 => upd (layK τ ks n) n (keyS τ n)
def spS (τ : Nat → Int32) (c : Nat) : Nat → Int32
  | 0 => nI 0
  | n + 1 => spS τ c n + τ (ix c n)
def cvL (τ : Nat → Int32) (c : Nat) : Nat → Int32
  | 0 => nI 0
  | n + 1 => cvL τ c n + τ (ix c n) * oneC τ n
def pwP (sl : Nat → Int32) (x : Int32) : Int32 := if x < sl 1 then x else sl 1
def pw1 (sl : Nat → Int32) (t : Int32) : Nat → Int32 := upd sl 1 (sl 1 - t)
def pw2 (sl : Nat → Int32) (t : Int32) : Nat → Int32 := upd (pw1 sl t) 4 (pw1 sl t 4 + t)
def pwS (sl : Nat → Int32) (x : Int32) : Nat → Int32 := upd (pw2 sl (pwP sl x)) 0 (pw2 sl (pwP sl x) 0 + (x - pwP sl x))
def pfS (sl : Nat → Int32) : Nat → Int32 := pwS (upd sl 0 (nI 0)) (sl 0)
def cvD (sl : Nat → Int32) : Bool := decide (sl 1 ≤ sl 0 + sl 2 / nI 100)
def fkS (pl ks : Nat → Int32) : Nat → Option Nat
  | 0 => none
  | n + 1 => match fkS pl ks n with
    | none => if 0 < pl n then some n else none
    | some o => if 0 < pl n ∧ ks o < ks n then some n else some o
theorem fkS_lt {pl ks : Nat → Int32} {o : Nat} : ∀ {n : Nat}, fkS pl ks n = some o → o < n
  | 0, h => by simp [fkS] at h
  | n + 1, h => by
    simp only [fkS] at h
    cases hs : fkS pl ks n with
    | none =>
      rw [hs] at h
      simp only at h
      split at h
      · cases h; omega
      · cases h
    | some p =>
      rw [hs] at h
      simp only at h
      split at h
      · cases h; omega
      · cases h
        have := fkS_lt hs
        omega
theorem fk_not {pl ks : Nat → Int32} {n : Nat} (h : ¬ 0 < pl n) : fkS pl ks (n + 1) = fkS pl ks n := by
  simp only [fkS]
  cases fkS pl ks n <;> simp [h]
theorem fk_first {pl ks : Nat → Int32} {n : Nat} (h : 0 < pl n) (hs : fkS pl ks n = none) : fkS pl ks (n + 1) = some n := by
  simp only [fkS, hs, h, if_true]
theorem fk_more {pl ks : Nat → Int32} {n o : Nat} (h : 0 < pl n) (hs : fkS pl ks n = some o) (ha : ks o < ks n) : fkS pl ks (n + 1) = some n := by
  simp only [fkS, hs, h, ha, and_self, if_true]
theorem fk_less {pl ks : Nat → Int32} {n o : Nat} (hs : fkS pl ks n = some o) (ha : ¬ ks o < ks n) : fkS pl ks (n + 1) = some o := by
  simp only [fkS, hs, ha, and_false, if_false]
def so1 (τ sl : Nat → Int32) (k : Nat) : Nat → Int32 := upd sl 2 (sl 2 - oneC τ k)
def so2 (τ sl : Nat → Int32) (k : Nat) : Nat → Int32 := upd (so1 τ sl k) 3 (so1 τ sl k 3 + nI 1)
def soS (τ sl : Nat → Int32) (k : Nat) : Nat → Int32 := pwS (so2 τ sl k) (τ k * (nI 100 - τ 100) / nI 100)
def soP (pl : Nat → Int32) (k : Nat) : Nat → Int32 := upd pl k (pl k - nI 1)
/-- one sale, if there is something -/
def soX (τ ks : Nat → Int32) (q : (Nat → Int32) × (Nat → Int32)) : (Nat → Int32) × (Nat → Int32) := match fkS q.2 ks 6 with
  | none => q
  | some k => (soS τ q.1 k, soP q.2 k)
def rkW (τ ks : Nat → Int32) : Nat → (Nat → Int32) × (Nat → Int32) → (Nat → Int32) × (Nat → Int32)
  | 0, q => q
  | f + 1, q => if cvD q.1 = true then q else rkW τ ks f (soX τ ks q)
def rkE (sl : Nat → Int32) : Nat → Int32 := if cvD sl = true then sl else upd (upd sl 5 (sl 1)) 1 (nI 0)
def rk0 (τ sl : Nat → Int32) (c : Nat) : Nat → Int32 := upd (upd (upd (upd (upd (upd sl 0 (τ (ix c 6))) 1 (τ (ix c 7))) 3 (nI 0)) 4 (nI 0)) 5 (nI 0)) 2 (cvL τ c 6)
/-- sale fields and pieces left, behind reckon -/
def rkS (τ sl pl ks : Nat → Int32) (c m : Nat) : (Nat → Int32) × (Nat → Int32) := rkW τ (layK τ ks 6) m (pfS (rk0 τ sl c), layP τ c pl 6)
theorem rkW_cov {τ ks : Nat → Int32} {q : (Nat → Int32) × (Nat → Int32)} (h : cvD q.1 = true) : ∀ f, rkW τ ks f q = q
  | 0 => rfl
  | f + 1 => by simp only [rkW, h, if_true]
theorem rkW_go {τ ks : Nat → Int32} {q : (Nat → Int32) × (Nat → Int32)} (h : cvD q.1 = false) (f : Nat) : rkW τ ks (f + 1) q = rkW τ ks f (soX τ ks q) := by
  simp only [rkW, h, Bool.false_eq_true, if_false]
def es0 (τ pl : Nat → Int32) (c n : Nat) : Nat → Int32 := upd τ (12 + n) (τ (12 + n) + (τ (ix c n) - pl n))
def esN (τ pl : Nat → Int32) (c : Nat) : Nat → Nat → Int32
  | 0 => τ
  | n + 1 => upd (es0 (esN τ pl c n) pl c n) (ix c n) (pl n)
def es1 (τ pl sl : Nat → Int32) (c : Nat) : Nat → Int32 := upd (upd (esN τ pl c 6) (ix c 6) (sl 0)) (ix c 7) (sl 1)
def es2 (τ pl sl : Nat → Int32) (c : Nat) : Nat → Int32 := upd (es1 τ pl sl c) 105 (es1 τ pl sl c 105 + sl 4)
def es3 (τ pl sl : Nat → Int32) (c : Nat) : Nat → Int32 := upd (es2 τ pl sl c) 106 (es2 τ pl sl c 106 + sl 5)
def es4 (τ pl sl : Nat → Int32) (c : Nat) : Nat → Int32 := if 0 < sl 5 then upd (es3 τ pl sl c) (ix c 9) (nI 1) else es3 τ pl sl c
def es5 (τ pl sl : Nat → Int32) (c : Nat) : Nat → Int32 := upd (es4 τ pl sl c) (ix c 8) (nI 0)
def esS (τ pl sl : Nat → Int32) (c : Nat) : Nat → Int32 := upd (es5 τ pl sl c) 108 (es5 τ pl sl c 108 + nI 1)
/-- ledger, sale fields, pieces left, keys -/
abbrev CQ : Type := (Nat → Int32) × (Nat → Int32) × (Nat → Int32) × (Nat → Int32)
def sellC (q : CQ) (c : Nat) : CQ :=
  let r := rkS q.1 q.2.1 q.2.2.1 q.2.2.2 c (nP q.1 c 6)
  (esS q.1 r.2 (rkE r.1) c, rkE r.1, r.2, layK q.1 q.2.2.2 6)
def lowC (τ : Nat → Int32) (c : Nat) : Nat → Int32 := upd τ (ix c 8) (τ (ix c 8) - nI 1)
def cd1 (b : Bool) (q : CQ) (c : Nat) : CQ :=
  if (b && isK q.1 c) = true then (if lowC q.1 c (ix c 8) = 0 then sellC (lowC q.1 c, q.2) c else (lowC q.1 c, q.2)) else q
def cdN (b : Nat → Bool) (q : CQ) : Nat → CQ
  | 0 => q
  | n + 1 => cd1 (b n) (cdN b q n) n
theorem cd_sell {b : Bool} {q : CQ} {c : Nat} (h1 : b = true) (h2 : isK q.1 c = true) (h3 : lowC q.1 c (ix c 8) = 0) : cd1 b q c = sellC (lowC q.1 c, q.2) c := by
  unfold cd1; rw [if_pos (by rw [h1, h2]; rfl), if_pos h3]
theorem cd_low {b : Bool} {q : CQ} {c : Nat} (h1 : b = true) (h2 : isK q.1 c = true) (h3 : ¬ lowC q.1 c (ix c 8) = 0) : cd1 b q c = (lowC q.1 c, q.2) := by
  unfold cd1; rw [if_pos (by rw [h1, h2]; rfl), if_neg h3]
theorem cd_no {b : Bool} {q : CQ} {c : Nat} (h : (b && isK q.1 c) = false) : cd1 b q c = q := by
  unfold cd1; rw [if_neg (by rw [h]; decide)]
def ph0 (q : CQ) : Nat → Int32 := upd q.1 102 (q.1 102 + nI 1)
def phC (q : CQ) : CQ := cdN (isK q.1) (lookN (hrLN (ph0 q) 8) 8, q.2) 8
def phN (q : CQ) : Nat → CQ
  | 0 => q
  | n + 1 => phC (phN q n)
theorem spS_nP {τ : Nat → Int32} {c : Nat} (h : ∀ k, k < 6 → 0 ≤ τ (ix c k)) : ∀ n, n ≤ 6 → spS τ c n = nI (nP τ c n)
  | 0, _ => rfl
  | n + 1, hn => by
    simp only [spS, nP]
    rw [spS_nP h n (by omega), ← nI_add]
    congr 1
    obtain ⟨j, hj, e⟩ := nI_of (x := τ (ix c n)) (by rw [Int32.not_lt]; exact h n (by omega))
    rw [e, nI_clamp hj]
def nwq (p : Nat → va_E) (q : CQ) (rr : Nat → Int32) (g : PW) : PW := nw p q.2.1 q.2.2.1 q.2.2.2 rr q.1 g
theorem key_1 {τ : Nat → Int32} {k : Nat} (h : τ 101 = nI 1) : keyS τ k = -τ (6 + k) := if_pos h
theorem key_2 {τ : Nat → Int32} {k : Nat} (h : τ 101 = nI 2) : keyS τ k = τ (6 + k) := by
  unfold keyS; rw [if_neg (by rw [h]; decide), if_pos h]
theorem key_0 {τ : Nat → Int32} {k : Nat} (h1 : ¬ τ 101 = nI 1) (h2 : ¬ τ 101 = nI 2) : keyS τ k = τ k := by
  unfold keyS; rw [if_neg h1, if_neg h2]
theorem tI_ne {x : Int32} {n : Nat} (hn : n < 2147483648) (h : ¬ x = nI n) : ¬ x.toInt = (n : Int) := fun e => h (Int32.toInt_inj.mp (e.trans (nI_toInt hn).symm))
theorem lks_d {x : Int} (h1 : ¬ x = ((1 : Nat) : Int)) (h2 : ¬ x = ((2 : Nat) : Int)) : Op.lookupswitch.offset (#[((1 : Int), (28 : Int)), (2, 36)] : Array (Int × Int)).toList 43 x = 43 := by
  have h1' : ¬ (1 : Int) = x := fun e => h1 e.symm
  have h2' : ¬ (2 : Int) = x := fun e => h2 e.symm
  have h3 : ¬ x = 1 := h1
  have h4 : ¬ x = 2 := h2
  simp [Op.lookupswitch.offset, h1', h2', h3, h4]
set_option maxHeartbeats 1000000 in
theorem c2_keyOf (p : Nat → va_E) (sl pl ks rr τ : Nat → Int32) (g : PW) {k : Nat} (hk : k < 6) : Ct mX2_keyOf [.ref 10, .ref 17, .int (nI k)] (nw p sl pl ks rr τ g) (d1 (some (.int (keyS τ k))) (nw p sl pl ks rr τ g)) nx := by
  refine ct_of 2 kX2_keyOf.1 rfl (Nat.le_of_ble_eq_true rfl) (fun v u h => by obtain ⟨rfl, rfl⟩ := h; exact rfl) ?_
  show Ev _ _ _ 0 0 [(0, .ref 10), (1, .ref 17), (2, .int (nI k))] [] _
  refine ev_aload_n 1 dX2_keyOf_0 rfl rfl ?_
  refine ev_getfield 11 dX2_keyOf_1 foX2_73 rfl rfl ?_
  by_cases h1 : τ 101 = nI 1
  · refine ev_lookup (off := 28) 32 dX2_keyOf_4 (by decide) (by rw [h1]; decide) (by decide) ?_
    refine ev_aload_n 1 dX2_keyOf_32 rfl rfl ?_
    refine ev_getfield 1 dX2_keyOf_33 foX2_76 rfl rfl ?_
    refine ev_iload_n 2 dX2_keyOf_36 rfl rfl ?_
    refine ev_ild (k) dX2_keyOf_37 rfl rfl (by omega) rfl ?_
    refine ev_ineg dX2_keyOf_38 ?_
    exact ev_ireturn dX2_keyOf_39 (Nat.le_of_ble_eq_true rfl) ⟨by rw [key_1 h1], rfl⟩
  · by_cases h2 : τ 101 = nI 2
    · refine ev_lookup (off := 36) 40 dX2_keyOf_4 (by decide) (by rw [h2]; decide) (by decide) ?_
      refine ev_aload_n 1 dX2_keyOf_40 rfl rfl ?_
      refine ev_getfield 1 dX2_keyOf_41 foX2_76 rfl rfl ?_
      refine ev_iload_n 2 dX2_keyOf_44 rfl rfl ?_
      refine ev_ild (k) dX2_keyOf_45 rfl rfl (by omega) rfl ?_
      exact ev_ireturn dX2_keyOf_46 (Nat.le_of_ble_eq_true rfl) ⟨by rw [key_2 h2], rfl⟩
    · refine ev_lookup (off := 43) 47 dX2_keyOf_4 (by decide) (lks_d (tI_ne (by omega) h1) (tI_ne (by omega) h2)) (by decide) ?_
      refine ev_aload_n 1 dX2_keyOf_47 rfl rfl ?_
      refine ev_getfield 0 dX2_keyOf_48 foX2_79 rfl rfl ?_
      refine ev_iload_n 2 dX2_keyOf_51 rfl rfl ?_
      refine ev_ild (k) dX2_keyOf_52 rfl rfl (by omega) rfl ?_
      exact ev_ireturn dX2_keyOf_53 (Nat.le_of_ble_eq_true rfl) ⟨by rw [key_0 h1 h2], rfl⟩
set_option maxHeartbeats 1000000 in
theorem c2_coverOfOne (p : Nat → va_E) (sl pl ks rr τ : Nat → Int32) (g : PW) {k : Nat} (hk : k < 6) : Ct mX2_coverOfOne [.ref 10, .ref 17, .int (nI k)] (nw p sl pl ks rr τ g) (d1 (some (.int (oneC τ k))) (nw p sl pl ks rr τ g)) nx := by
  refine ct_of 2 kX2_coverOfOne.1 rfl (Nat.le_of_ble_eq_true rfl) (fun v u h => by obtain ⟨rfl, rfl⟩ := h; exact rfl) ?_
  show Ev _ _ _ 0 0 [(0, .ref 10), (1, .ref 17), (2, .int (nI k))] [] _
  refine ev_aload_n 1 dX2_coverOfOne_0 rfl rfl ?_
  refine ev_getfield 0 dX2_coverOfOne_1 foX2_79 rfl rfl ?_
  refine ev_iload_n 2 dX2_coverOfOne_4 rfl rfl ?_
  refine ev_ild (k) dX2_coverOfOne_5 rfl rfl (by omega) rfl ?_
  refine ev_bipush (nI 100) dX2_coverOfOne_6 rfl ?_
  refine ev_aload_n 1 dX2_coverOfOne_8 rfl rfl ?_
  refine ev_getfield 1 dX2_coverOfOne_9 foX2_76 rfl rfl ?_
  refine ev_iload_n 2 dX2_coverOfOne_12 rfl rfl ?_
  refine ev_ild (k) dX2_coverOfOne_13 rfl rfl (by omega) rfl ?_
  refine ev_isub dX2_coverOfOne_14 ?_
  refine ev_imul dX2_coverOfOne_15 ?_
  exact ev_ireturn dX2_coverOfOne_16 (Nat.le_of_ble_eq_true rfl) ⟨rfl, rfl⟩
set_option maxHeartbeats 1000000 in
theorem c2_isCovered (p : Nat → va_E) (sl pl ks rr τ : Nat → Int32) (g : PW)  : Ct mX2_isCovered [.ref 10] (nw p sl pl ks rr τ g) (d1 (some (.int (bI (cvD sl)))) (nw p sl pl ks rr τ g)) nx := by
  refine ct_of 0 kX2_isCovered.1 rfl (Nat.le_of_ble_eq_true rfl) (fun v u h => by obtain ⟨rfl, rfl⟩ := h; exact bI_nar _) ?_
  show Ev _ _ _ 0 0 [(0, .ref 10)] [] _
  refine ev_aload_n 0 dX2_isCovered_0 rfl rfl ?_
  refine ev_getfield 3 dX2_isCovered_1 foX2_30 rfl rfl ?_
  refine ev_aload_n 0 dX2_isCovered_4 rfl rfl ?_
  refine ev_getfield 2 dX2_isCovered_5 foX2_23 rfl rfl ?_
  refine ev_aload_n 0 dX2_isCovered_8 rfl rfl ?_
  refine ev_getfield 4 dX2_isCovered_9 foX2_57 rfl rfl ?_
  refine ev_bipush (nI 100) dX2_isCovered_12 rfl ?_
  refine ev_idiv dX2_isCovered_14 (by decide) ?_
  refine ev_iadd dX2_isCovered_15 ?_
  refine ev_icmp_gt 23 dX2_isCovered_16 (by decide) (fun h16 => ?_) (fun h16 => ?_)
  · refine ev_iconst (nI 0) dX2_isCovered_23 rfl ?_
    exact ev_ireturn dX2_isCovered_24 (Nat.le_of_ble_eq_true rfl) ⟨by first | (rw [show cvD sl = false from decide_eq_false (Int32.not_le.mpr h16)]; rfl) | (rw [show cvD sl = true from decide_eq_true (Int32.not_lt.mp h16)]; rfl), rfl⟩
  · refine ev_iconst (nI 1) dX2_isCovered_19 rfl ?_
    refine ev_goto 24 dX2_isCovered_20 (by decide) ?_
    exact ev_ireturn dX2_isCovered_24 (Nat.le_of_ble_eq_true rfl) ⟨by first | (rw [show cvD sl = false from decide_eq_false (Int32.not_le.mpr h16)]; rfl) | (rw [show cvD sl = true from decide_eq_true (Int32.not_lt.mp h16)]; rfl), rfl⟩
set_option maxHeartbeats 1000000 in
theorem c2_payWith (p : Nat → va_E) (sl pl ks rr τ : Nat → Int32) (g : PW) (x : Int32) : Ct mX2_payWith [.ref 10, .int x] (nw p sl pl ks rr τ g) (d1 none (nw p (pwS sl x) pl ks rr τ g)) nx := by
  refine ct_of 1 kX2_payWith.1 rfl (Nat.le_of_ble_eq_true rfl) (fun v u h => by obtain ⟨rfl, rfl⟩ := h; exact trivial) ?_
  show Ev _ _ _ 0 0 [(0, .ref 10), (1, .int x)] [] _
  refine ev_iload_n 1 dX2_payWith_0 rfl rfl ?_
  refine ev_aload_n 0 dX2_payWith_1 rfl rfl ?_
  refine ev_getfield 3 dX2_payWith_2 foX2_30 rfl rfl ?_
  suffices J5 : Ev mX2_payWith (d1 none (nw p (pwS sl x) pl ks rr τ g)) nx 0 16 [(0, .ref 10), (1, .int x)] [.int (pwP sl x)] (nw p sl pl ks rr τ g) by
    refine ev_icmp_ge 12 dX2_payWith_5 (by decide) (fun h5 => ?_) (fun h5 => ?_)
    · refine ev_aload_n 0 dX2_payWith_12 rfl rfl ?_
      refine ev_getfield 3 dX2_payWith_13 foX2_30 rfl rfl ?_
      exact ev_sub [0, 1] rfl (ev_top _ (by first | exact (if_pos (Int32.not_le.mp h5)).symm | exact (if_neg (Int32.not_lt.mpr h5)).symm) J5)
    · refine ev_iload_n 1 dX2_payWith_8 rfl rfl ?_
      refine ev_goto 16 dX2_payWith_9 (by decide) ?_
      exact ev_sub [0, 1] rfl (ev_top _ (by first | exact (if_pos (Int32.not_le.mp h5)).symm | exact (if_neg (Int32.not_lt.mpr h5)).symm) J5)
  refine ev_istore_n 2 dX2_payWith_16 rfl (Nat.le_of_ble_eq_true rfl) rfl ?_
  refine ev_aload_n 0 dX2_payWith_17 rfl rfl ?_
  refine ev_dup dX2_payWith_18 rfl ?_
  refine ev_getfield 3 dX2_payWith_19 foX2_30 rfl rfl ?_
  refine ev_iload_n 2 dX2_payWith_22 rfl rfl ?_
  refine ev_isub dX2_payWith_23 ?_
  refine ev_putfield 3 dX2_payWith_24 fpX2_30 rfl (Nat.le_of_ble_eq_true rfl) (fun _ => rfl) (fun _ => rfl) (nw_s1 _ _ _ _ _ _ _ _) ?_
  refine ev_aload_n 0 dX2_payWith_27 rfl rfl ?_
  refine ev_dup dX2_payWith_28 rfl ?_
  refine ev_getfield 6 dX2_payWith_29 foX2_36 rfl rfl ?_
  refine ev_iload_n 2 dX2_payWith_32 rfl rfl ?_
  refine ev_iadd dX2_payWith_33 ?_
  refine ev_putfield 6 dX2_payWith_34 fpX2_36 rfl (Nat.le_of_ble_eq_true rfl) (fun _ => rfl) (fun _ => rfl) (nw_s4 _ _ _ _ _ _ _ _) ?_
  refine ev_aload_n 0 dX2_payWith_37 rfl rfl ?_
  refine ev_dup dX2_payWith_38 rfl ?_
  refine ev_getfield 2 dX2_payWith_39 foX2_23 rfl rfl ?_
  refine ev_iload_n 1 dX2_payWith_42 rfl rfl ?_
  refine ev_iload_n 2 dX2_payWith_43 rfl rfl ?_
  refine ev_isub dX2_payWith_44 ?_
  refine ev_iadd dX2_payWith_45 ?_
  refine ev_putfield 2 dX2_payWith_46 fpX2_23 rfl (Nat.le_of_ble_eq_true rfl) (fun _ => rfl) (fun _ => rfl) (nw_s0 _ _ _ _ _ _ _ _) ?_
  exact ev_return dX2_payWith_49 (Nat.le_of_ble_eq_true rfl) ⟨rfl, rfl⟩
set_option maxHeartbeats 1000000 in
theorem c2_payFromCoins (p : Nat → va_E) (sl pl ks rr τ : Nat → Int32) (g : PW)  : Ct mX2_payFromCoins [.ref 10] (nw p sl pl ks rr τ g) (d1 none (nw p (pfS sl) pl ks rr τ g)) nx := by
  refine ct_of 0 kX2_payFromCoins.1 rfl (Nat.le_of_ble_eq_true rfl) (fun v u h => by obtain ⟨rfl, rfl⟩ := h; exact trivial) ?_
  show Ev _ _ _ 0 0 [(0, .ref 10)] [] _
  refine ev_aload_n 0 dX2_payFromCoins_0 rfl rfl ?_
  refine ev_getfield 2 dX2_payFromCoins_1 foX2_23 rfl rfl ?_
  refine ev_istore_n 1 dX2_payFromCoins_4 rfl (Nat.le_of_ble_eq_true rfl) rfl ?_
  refine ev_aload_n 0 dX2_payFromCoins_5 rfl rfl ?_
  refine ev_iconst (nI 0) dX2_payFromCoins_6 rfl ?_
  refine ev_putfield 2 dX2_payFromCoins_7 fpX2_23 rfl (Nat.le_of_ble_eq_true rfl) (fun _ => rfl) (fun _ => rfl) (nw_s0 _ _ _ _ _ _ _ _) ?_
  refine ev_aload_n 0 dX2_payFromCoins_10 rfl rfl ?_
  refine ev_iload_n 1 dX2_payFromCoins_11 rfl rfl ?_
  refine ev_cV1v (c2_payWith _ _ _ _ _ _ _ _) kX2_payWith rfl g582 rfl rfl rfl rfl dX2_payFromCoins_12 ?_
  exact ev_return dX2_payFromCoins_15 (Nat.le_of_ble_eq_true rfl) ⟨rfl, rfl⟩
set_option maxHeartbeats 1000000 in
theorem c2_firstKind (p : Nat → va_E) (sl pl ks rr τ : Nat → Int32) (g : PW)  : Ct mX2_firstKind [.ref 10] (nw p sl pl ks rr τ g) (d1 (some (.int (oI (fkS pl ks 6)))) (nw p sl pl ks rr τ g)) nx := by
  refine ct_of 0 kX2_firstKind.1 rfl (Nat.le_of_ble_eq_true rfl) (fun v u h => by obtain ⟨rfl, rfl⟩ := h; exact rfl) ?_
  show Ev _ _ _ 0 0 [(0, .ref 10)] [] _
  refine ev_iconst (-1) dX2_firstKind_0 rfl ?_
  refine ev_istore_n 1 dX2_firstKind_1 rfl (Nat.le_of_ble_eq_true rfl) rfl ?_
  refine ev_iconst (nI 0) dX2_firstKind_2 rfl ?_
  refine ev_istore_n 2 dX2_firstKind_3 rfl (Nat.le_of_ble_eq_true rfl) rfl ?_
  suffices H : ∀ fu j, j + fu = 6 → Ev mX2_firstKind (d1 (some (.int (oI (fkS pl ks 6)))) (nw p sl pl ks rr τ g)) nx 0 4 [(2, .int (nI (j))), (1, .int (oI (fkS pl ks (j)))), (0, .ref 10)] [] ((nw p sl pl ks rr τ g)) from ev_sub [0, 1, 2] rfl (H 6 0 (Nat.zero_add _))
  intro fu
  induction fu with
  | zero =>
    intro j hj
    obtain rfl : 6 = j := by omega
    refine ev_iload_n 2 dX2_firstKind_4 rfl rfl ?_
    refine ev_bipush (nI 6) dX2_firstKind_5 rfl ?_
    refine ev_icmp_ge 47 dX2_firstKind_7 (by decide) (fun h7 => ?_) (fun h7 => absurd (nI_le (Nat.le_refl 6) (by omega)) h7)
    refine ev_iload_n 1 dX2_firstKind_47 rfl rfl ?_
    exact ev_ireturn dX2_firstKind_48 (Nat.le_of_ble_eq_true rfl) ⟨rfl, rfl⟩
  | succ fu ih =>
    intro j hj
    have hj6 : j < 6 := by omega
    refine ev_iload_n 2 dX2_firstKind_4 rfl rfl ?_
    refine ev_bipush (nI 6) dX2_firstKind_5 rfl ?_
    refine ev_icmp_ge 47 dX2_firstKind_7 (by decide) (fun h7 => absurd h7 (nI_ge hj6 (by omega))) (fun h7 => ?_)
    refine ev_aload_n 0 dX2_firstKind_10 rfl rfl ?_
    refine ev_getfield 0 dX2_firstKind_11 foX2_9 rfl rfl ?_
    refine ev_iload_n 2 dX2_firstKind_14 rfl rfl ?_
    refine ev_ild (j) dX2_firstKind_15 rfl (by simp only [nI_m, nI_add, ix, oI]) (by omega) rfl ?_
    suffices J : Ev mX2_firstKind (d1 (some (.int (oI (fkS pl ks 6)))) (nw p sl pl ks rr τ g)) nx 0 41 [(2, .int (nI j)), (1, .int (oI (fkS pl ks (j + 1)))), (0, .ref 10)] [] (nw p sl pl ks rr τ g) by
      refine ev_if_le 41 dX2_firstKind_16 (by decide) (fun h16 => ?_) (fun h16 => ?_)
      · rw [fk_not (Int32.not_lt.mpr h16)] at J
        exact ev_sub [0, 1, 2] rfl J
      · cases hs : fkS pl ks j with
        | none =>
          rw [fk_first (Int32.not_le.mp h16) hs] at J
          refine ev_iload_n 1 dX2_firstKind_19 rfl rfl ?_
          refine ev_iconst (-1) dX2_firstKind_20 rfl ?_
          refine ev_icmp_eq 39 dX2_firstKind_21 (by decide) (fun h21 => ?_) (fun h21 => absurd (by rfl) h21)
          refine ev_iload_n 2 dX2_firstKind_39 rfl rfl ?_
          refine ev_istore_n 1 dX2_firstKind_40 rfl (Nat.le_of_ble_eq_true rfl) rfl ?_
          exact ev_sub [1, 0, 2] rfl J
        | some q =>
          have hq := fkS_lt hs
          refine ev_LL [(2, .int (nI j)), (1, .int (nI q)), (0, .ref 10)] (by rfl) ?_
          refine ev_iload_n 1 dX2_firstKind_19 rfl rfl ?_
          refine ev_iconst (-1) dX2_firstKind_20 rfl ?_
          refine ev_icmp_eq 39 dX2_firstKind_21 (by decide) (fun h21 => absurd h21 (fun e => by have := (oI_lt (x := some q) (n := 6) (by omega) (fun _ h => by cases h; omega)).mp e; cases this)) (fun h21 => ?_)
          refine ev_aload_n 0 dX2_firstKind_24 rfl rfl ?_
          refine ev_getfield 1 dX2_firstKind_25 foX2_15 rfl rfl ?_
          refine ev_iload_n 2 dX2_firstKind_28 rfl rfl ?_
          refine ev_ild (j) dX2_firstKind_29 rfl (by simp only [nI_m, nI_add, ix, oI]) (by omega) rfl ?_
          refine ev_aload_n 0 dX2_firstKind_30 rfl rfl ?_
          refine ev_getfield 1 dX2_firstKind_31 foX2_15 rfl rfl ?_
          refine ev_iload_n 1 dX2_firstKind_34 rfl rfl ?_
          refine ev_ild (q) dX2_firstKind_35 rfl (by simp only [nI_m, nI_add, ix, oI]) (by omega) rfl ?_
          refine ev_icmp_le 41 dX2_firstKind_36 (by decide) (fun h36 => ?_) (fun h36 => ?_)
          · rw [fk_less hs (Int32.not_lt.mpr h36)] at J
            exact ev_sub [0, 1, 2] rfl J
          · rw [fk_more (Int32.not_le.mp h16) hs (Int32.not_le.mp h36)] at J
            refine ev_iload_n 2 dX2_firstKind_39 rfl rfl ?_
            refine ev_istore_n 1 dX2_firstKind_40 rfl (Nat.le_of_ble_eq_true rfl) rfl ?_
            exact ev_sub [1, 0, 2] rfl J
    refine ev_iinc (nI (j + 1)) dX2_firstKind_41 rfl (nI_1 j) (Nat.le_of_ble_eq_true rfl) rfl ?_
    refine ev_goto 4 dX2_firstKind_44 (by decide) ?_
    exact ev_sub [0, 1, 2] rfl (ih (j + 1) (by omega))
set_option maxHeartbeats 1000000 in
theorem c2_sellOne_0 (p : Nat → va_E) (sl pl ks rr τ : Nat → Int32) (g : PW) (hs : fkS pl ks 6 = none) : Ct mX2_sellOne [.ref 10, .ref 17] (nw p sl pl ks rr τ g) (d1 none (nw p sl pl ks rr τ g)) nx := by
  refine ct_of 1 kX2_sellOne.1 rfl (Nat.le_of_ble_eq_true rfl) (fun v u h => by obtain ⟨rfl, rfl⟩ := h; exact trivial) ?_
  show Ev _ _ _ 0 0 [(0, .ref 10), (1, .ref 17)] [] _
  refine ev_aload_n 0 dX2_sellOne_0 rfl rfl ?_
  refine ev_cV0 (c2_firstKind _ _ _ _ _ _ _) kX2_firstKind rfl g594 rfl rfl rfl rfl dX2_sellOne_1 ?_
  refine ev_istore_n 2 dX2_sellOne_4 rfl (Nat.le_of_ble_eq_true rfl) rfl ?_
  refine ev_iload_n 2 dX2_sellOne_5 rfl rfl ?_
  refine ev_iconst (-1) dX2_sellOne_6 rfl ?_
  refine ev_icmp_eq 66 dX2_sellOne_7 (by decide) (fun h7 => ?_) (fun h7 => absurd (by rw [hs]; rfl) h7)
  exact ev_return dX2_sellOne_66 (Nat.le_of_ble_eq_true rfl) ⟨rfl, rfl⟩
set_option maxHeartbeats 1000000 in
theorem c2_sellOne_1 (p : Nat → va_E) (sl pl ks rr τ : Nat → Int32) (g : PW) {k : Nat} (hs : fkS pl ks 6 = some k) (hk : k < 6) : Ct mX2_sellOne [.ref 10, .ref 17] (nw p sl pl ks rr τ g) (d1 none (nw p (soS τ sl k) (soP pl k) ks rr τ g)) nx := by
  refine ct_of 1 kX2_sellOne.1 rfl (Nat.le_of_ble_eq_true rfl) (fun v u h => by obtain ⟨rfl, rfl⟩ := h; exact trivial) ?_
  show Ev _ _ _ 0 0 [(0, .ref 10), (1, .ref 17)] [] _
  refine ev_aload_n 0 dX2_sellOne_0 rfl rfl ?_
  refine ev_cV0 (c2_firstKind _ _ _ _ _ _ _) kX2_firstKind rfl g594 rfl rfl rfl rfl dX2_sellOne_1 ?_
  refine ev_istore_n 2 dX2_sellOne_4 rfl (Nat.le_of_ble_eq_true rfl) rfl ?_
  refine ev_LL [(2, .int (nI k)), (0, .ref 10), (1, .ref 17)] (by rw [hs]; rfl) ?_
  refine ev_iload_n 2 dX2_sellOne_5 rfl rfl ?_
  refine ev_iconst (-1) dX2_sellOne_6 rfl ?_
  refine ev_icmp_eq 66 dX2_sellOne_7 (by decide) (fun h7 => absurd h7 (fun e => by have := (oI_lt (x := some k) (n := 6) (by omega) (fun _ h => by cases h; omega)).mp e; cases this)) (fun h7 => ?_)
  refine ev_aload_n 0 dX2_sellOne_10 rfl rfl ?_
  refine ev_getfield 0 dX2_sellOne_11 foX2_9 rfl rfl ?_
  refine ev_iload_n 2 dX2_sellOne_14 rfl rfl ?_
  refine ev_dup2 dX2_sellOne_15 rfl rfl ?_
  refine ev_ild (k) dX2_sellOne_16 rfl rfl (by omega) rfl ?_
  refine ev_iconst (nI 1) dX2_sellOne_17 rfl ?_
  refine ev_isub dX2_sellOne_18 ?_
  refine ev_ist (k) dX2_sellOne_19 rfl rfl (by omega) rfl (nw_pl _ _ _ _ _ _ _ _) ?_
  refine ev_aload_n 0 dX2_sellOne_20 rfl rfl ?_
  refine ev_dup dX2_sellOne_21 rfl ?_
  refine ev_getfield 4 dX2_sellOne_22 foX2_57 rfl rfl ?_
  refine ev_aload_n 0 dX2_sellOne_25 rfl rfl ?_
  refine ev_aload_n 1 dX2_sellOne_26 rfl rfl ?_
  refine ev_iload_n 2 dX2_sellOne_27 rfl rfl ?_
  refine ev_cV2 (c2_coverOfOne _ _ _ _ _ _ _ (by omega)) kX2_coverOfOne rfl g574 rfl rfl rfl rfl dX2_sellOne_28 ?_
  refine ev_isub dX2_sellOne_31 ?_
  refine ev_putfield 4 dX2_sellOne_32 fpX2_57 rfl (Nat.le_of_ble_eq_true rfl) (fun _ => rfl) (fun _ => rfl) (nw_s2 _ _ _ _ _ _ _ _) ?_
  refine ev_aload_n 0 dX2_sellOne_35 rfl rfl ?_
  refine ev_dup dX2_sellOne_36 rfl ?_
  refine ev_getfield 5 dX2_sellOne_37 foX2_33 rfl rfl ?_
  refine ev_iconst (nI 1) dX2_sellOne_40 rfl ?_
  refine ev_iadd dX2_sellOne_41 ?_
  refine ev_putfield 5 dX2_sellOne_42 fpX2_33 rfl (Nat.le_of_ble_eq_true rfl) (fun _ => rfl) (fun _ => rfl) (nw_s3 _ _ _ _ _ _ _ _) ?_
  refine ev_aload_n 0 dX2_sellOne_45 rfl rfl ?_
  refine ev_aload_n 1 dX2_sellOne_46 rfl rfl ?_
  refine ev_getfield 0 dX2_sellOne_47 foX2_79 rfl rfl ?_
  refine ev_iload_n 2 dX2_sellOne_50 rfl rfl ?_
  refine ev_ild (k) dX2_sellOne_51 rfl rfl (by omega) rfl ?_
  refine ev_bipush (nI 100) dX2_sellOne_52 rfl ?_
  refine ev_aload_n 1 dX2_sellOne_54 rfl rfl ?_
  refine ev_getfield 10 dX2_sellOne_55 foX2_90 rfl rfl ?_
  refine ev_isub dX2_sellOne_58 ?_
  refine ev_imul dX2_sellOne_59 ?_
  refine ev_bipush (nI 100) dX2_sellOne_60 rfl ?_
  refine ev_idiv dX2_sellOne_62 (by decide) ?_
  refine ev_cV1v (c2_payWith _ _ _ _ _ _ _ _) kX2_payWith rfl g582 rfl rfl rfl rfl dX2_sellOne_63 ?_
  exact ev_return dX2_sellOne_66 (Nat.le_of_ble_eq_true rfl) ⟨rfl, rfl⟩
theorem c2_sellOne (p : Nat → va_E) (sl pl ks rr τ : Nat → Int32) (g : PW) : Ct mX2_sellOne [.ref 10, .ref 17] (nw p sl pl ks rr τ g) (d1 none (nw p (soX τ ks (sl, pl)).1 (soX τ ks (sl, pl)).2 ks rr τ g)) nx := by
  cases hs : fkS pl ks 6 with
  | none =>
    have e : soX τ ks (sl, pl) = (sl, pl) := by simp only [soX, hs]
    rw [e]
    exact c2_sellOne_0 p sl pl ks rr τ g hs
  | some k =>
    have e : soX τ ks (sl, pl) = (soS τ sl k, soP pl k) := by simp only [soX, hs]
    rw [e]
    exact c2_sellOne_1 p sl pl ks rr τ g hs (fkS_lt hs)
set_option maxHeartbeats 1000000 in
theorem c2_layOutPieces (p : Nat → va_E) (sl pl ks rr τ : Nat → Int32) (g : PW) {c : Nat} (hc : c < 8) : Ct mX2_layOutPieces [.ref 10, .ref 17, .int (nI c)] (nw p sl pl ks rr τ g) (d1 (some (.int (spS τ c 6))) (nw p (upd sl 2 (cvL τ c (6))) (layP τ c pl (6)) (layK τ ks (6)) rr τ g)) nx := by
  refine ct_of 2 kX2_layOutPieces.1 rfl (Nat.le_of_ble_eq_true rfl) (fun v u h => by obtain ⟨rfl, rfl⟩ := h; exact rfl) ?_
  show Ev _ _ _ 0 0 [(0, .ref 10), (1, .ref 17), (2, .int (nI c))] [] _
  refine ev_iconst (nI 0) dX2_layOutPieces_0 rfl ?_
  refine ev_istore_n 3 dX2_layOutPieces_1 rfl (Nat.le_of_ble_eq_true rfl) rfl ?_
  refine ev_aload_n 0 dX2_layOutPieces_2 rfl rfl ?_
  refine ev_iconst (nI 0) dX2_layOutPieces_3 rfl ?_
  refine ev_putfield 4 dX2_layOutPieces_4 fpX2_57 rfl (Nat.le_of_ble_eq_true rfl) (fun _ => rfl) (fun _ => rfl) (nw_s2 _ _ _ _ _ _ _ _) ?_
  refine ev_iconst (nI 0) dX2_layOutPieces_7 rfl ?_
  refine ev_istore dX2_layOutPieces_8 (Nat.le_of_ble_eq_true rfl) rfl ?_
  suffices H : ∀ fu j, j + fu = 6 → Ev mX2_layOutPieces (d1 (some (.int (spS τ c 6))) (nw p (upd sl 2 (cvL τ c (6))) (layP τ c pl (6)) (layK τ ks (6)) rr τ g)) nx 0 10 [(4, .int (nI (j))), (3, .int (spS τ c (j))), (0, .ref 10), (1, .ref 17), (2, .int (nI c))] [] (nw p (upd sl 2 (cvL τ c (j))) (layP τ c pl (j)) (layK τ ks (j)) rr τ g) from ev_sub [0, 1, 2, 3, 4] rfl (H 6 0 (Nat.zero_add _))
  intro fu
  induction fu with
  | zero =>
    intro j hj
    obtain rfl : 6 = j := by omega
    refine ev_iload dX2_layOutPieces_10 rfl ?_
    refine ev_bipush (nI 6) dX2_layOutPieces_12 rfl ?_
    refine ev_icmp_ge 89 dX2_layOutPieces_14 (by decide) (fun h14 => ?_) (fun h14 => absurd (nI_le (Nat.le_refl 6) (by omega)) h14)
    refine ev_iload_n 3 dX2_layOutPieces_89 rfl rfl ?_
    exact ev_ireturn dX2_layOutPieces_90 (Nat.le_of_ble_eq_true rfl) ⟨rfl, rfl⟩
  | succ fu ih =>
    intro j hj
    have hj6 : j < 6 := by omega
    refine ev_iload dX2_layOutPieces_10 rfl ?_
    refine ev_bipush (nI 6) dX2_layOutPieces_12 rfl ?_
    refine ev_icmp_ge 89 dX2_layOutPieces_14 (by decide) (fun h14 => absurd h14 (nI_ge hj6 (by omega))) (fun h14 => ?_)
    refine ev_aload_n 0 dX2_layOutPieces_17 rfl rfl ?_
    refine ev_getfield 0 dX2_layOutPieces_18 foX2_9 rfl rfl ?_
    refine ev_iload dX2_layOutPieces_21 rfl ?_
    refine ev_aload_n 1 dX2_layOutPieces_23 rfl rfl ?_
    refine ev_getfield 3 dX2_layOutPieces_24 foX2_60 rfl rfl ?_
    refine ev_iload_n 2 dX2_layOutPieces_27 rfl rfl ?_
    refine ev_iload dX2_layOutPieces_28 rfl ?_
    refine ev_cN2 (c3_at _ _ _) kX3_at rfl (fun _ _ _ _ h => h.1.2.2.1) rfl rfl dX2_layOutPieces_30 ?_
    refine ev_ild (c * 6 + j) dX2_layOutPieces_33 rfl (by simp only [nI_m, nI_add, ix, oI]) (by omega) rfl ?_
    refine ev_top (τ (ix c j)) (pc6 (by omega)) ?_
    refine ev_ist (j) dX2_layOutPieces_34 rfl rfl (by omega) rfl (nw_pl _ _ _ _ _ _ _ _) ?_
    refine ev_aload_n 0 dX2_layOutPieces_35 rfl rfl ?_
    refine ev_getfield 1 dX2_layOutPieces_36 foX2_15 rfl rfl ?_
    refine ev_iload dX2_layOutPieces_39 rfl ?_
    refine ev_aload_n 0 dX2_layOutPieces_41 rfl rfl ?_
    refine ev_aload_n 1 dX2_layOutPieces_42 rfl rfl ?_
    refine ev_iload dX2_layOutPieces_43 rfl ?_
    refine ev_cV2 (c2_keyOf _ _ _ _ _ _ _ (by omega)) kX2_keyOf rfl g570 rfl rfl rfl rfl dX2_layOutPieces_45 ?_
    refine ev_ist (j) dX2_layOutPieces_48 rfl rfl (by omega) rfl (nw_ks _ _ _ _ _ _ _ _) ?_
    refine ev_iload_n 3 dX2_layOutPieces_49 rfl rfl ?_
    refine ev_aload_n 0 dX2_layOutPieces_50 rfl rfl ?_
    refine ev_getfield 0 dX2_layOutPieces_51 foX2_9 rfl rfl ?_
    refine ev_iload dX2_layOutPieces_54 rfl ?_
    refine ev_ild (j) dX2_layOutPieces_56 rfl rfl (by omega) rfl ?_
    refine ev_top (τ (ix c j)) (upd_s _ _ _) ?_
    refine ev_iadd dX2_layOutPieces_57 ?_
    refine ev_istore_n 3 dX2_layOutPieces_58 rfl (Nat.le_of_ble_eq_true rfl) rfl ?_
    refine ev_aload_n 0 dX2_layOutPieces_59 rfl rfl ?_
    refine ev_dup dX2_layOutPieces_60 rfl ?_
    refine ev_getfield 4 dX2_layOutPieces_61 foX2_57 rfl rfl ?_
    refine ev_aload_n 0 dX2_layOutPieces_64 rfl rfl ?_
    refine ev_getfield 0 dX2_layOutPieces_65 foX2_9 rfl rfl ?_
    refine ev_iload dX2_layOutPieces_68 rfl ?_
    refine ev_ild (j) dX2_layOutPieces_70 rfl rfl (by omega) rfl ?_
    refine ev_top (τ (ix c j)) (upd_s _ _ _) ?_
    refine ev_aload_n 0 dX2_layOutPieces_71 rfl rfl ?_
    refine ev_aload_n 1 dX2_layOutPieces_72 rfl rfl ?_
    refine ev_iload dX2_layOutPieces_73 rfl ?_
    refine ev_cV2 (c2_coverOfOne _ _ _ _ _ _ _ (by omega)) kX2_coverOfOne rfl g574 rfl rfl rfl rfl dX2_layOutPieces_75 ?_
    refine ev_imul dX2_layOutPieces_78 ?_
    refine ev_iadd dX2_layOutPieces_79 ?_
    refine ev_putfield 4 dX2_layOutPieces_80 fpX2_57 rfl (Nat.le_of_ble_eq_true rfl) (fun _ => rfl) (fun _ => rfl) (nw_s2 _ _ _ _ _ _ _ _) ?_
    refine ev_w (w' := nw p (upd sl 2 (cvL τ c (j + 1))) (layP τ c pl (j + 1)) (layK τ ks (j + 1)) rr τ g) (by rw [upd_twice, upd_s]; rfl) ?_
    refine ev_iinc (nI (j + 1)) dX2_layOutPieces_83 rfl (nI_1 j) (Nat.le_of_ble_eq_true rfl) rfl ?_
    refine ev_goto 10 dX2_layOutPieces_86 (by decide) ?_
    exact ev_sub [0, 1, 2, 3, 4] rfl (ih (j + 1) (by omega))
