/-! ===== the class: what a ledger tells ===== -/
def fal3 (p q l : Int32) : Int32 := if falI p q < l then l else falI p q
def intL (σ : Nat → Int32) (d : Int32) : Int32 := ((d.toInt64 * (σ 98).toInt64 + lN 9999) / lN 10000).toInt32
def opnS (σ : Nat → Int32) (c : Nat) : Int32 := if ¬ σ (ix c 9) = 0 ∨ romD σ c < 0 then nI 0 else romD σ c
def stC (σ : Nat → Int32) (c : Nat) (q l : Int32) : Bool := decide (σ (ix c 7) ≤ covI σ c q l)
/-- the class's own way to the least fall -/
def tryF (σ : Nat → Int32) (c : Nat) : Nat → Nat → Int32
  | 0, _ => -1
  | f + 1, p => if stC σ c (nI p) (nI 0) = true then tryF σ c f (p + 1) else nI p
def tryS (σ : Nat → Int32) (c : Nat) : Int32 := if isK σ c = true then nI 0 else tryF σ c 100 1
/-- hours of calls are no less than 0 -/
def HK (σ : Nat → Int32) : Prop := ∀ c, c < 8 → 0 ≤ σ (ix c 8)
def lkC (τ : Nat → Int32) (j : Nat) : Nat → Int32 := upd (lookN τ j) 107 (τ 107)
def lkF (τ : Nat → Int32) (j : Nat) : Int32 := lookN τ j 107 - τ 107
theorem lk_0 (τ : Nat → Int32) : lkC τ 0 = τ := upd_self τ 107
theorem lkF_0 (τ : Nat → Int32) : lkF τ 0 = nI 0 := Int32.sub_self _
theorem lk_8 (τ : Nat → Int32) : upd (lkC τ 8) 107 (lkC τ 8 107 + lkF τ 8) = lookN τ 8 := by
  have e : lkC τ 8 107 + lkF τ 8 = lookN τ 8 107 := by
    simp only [lkC, lkF]
    rw [upd_s, Int32.add_comm, Int32.sub_add_cancel]
  rw [e]
  simp only [lkC]
  rw [upd_twice, upd_self]
theorem lkC_at {τ : Nat → Int32} {j i : Nat} (h : i ≠ 107) : lkC τ j i = lookN τ j i := upd_n _ _ h
theorem lkC_cov {τ : Nat → Int32} {j c : Nat} {q l : Int32} (hc : c < 8) : covI (lkC τ j) c q l = covI (lookN τ j) c q l := covI_hi hc (by omega)
theorem lk_call {τ : Nat → Int32} {j : Nat} (hj : j < 8) : lookN τ j (ix j 8) = τ (ix j 8) := lookN_at (by simp only [ix]; omega) (fun c hc => by simp only [ix]; omega)
theorem lk_grace {τ : Nat → Int32} {j : Nat} (hj : j ≤ 8) : lookN τ j 99 = τ 99 := lookN_at (by omega) (fun c hc => by simp only [ix]; omega)
theorem look1_107 (σ : Nat → Int32) (c : Nat) : look1 σ c 107 = σ 107 + bI (!(isC σ c || isK σ c)) := by
  unfold look1
  split
  · next h => rw [upd_n _ _ (by simp only [ix]; omega), upd_s, h]; rfl
  · next h => rw [upd_n _ _ (by simp only [ix]; omega), upd_s, show (isC σ c || isK σ c) = true from eq_true_of_ne_false h]; rfl
/-- covered -/
theorem lk_cov {τ : Nat → Int32} {j : Nat} (hj : j < 8) (h : isC (lookN τ j) j = true) : upd (lkC τ j) (ix j 8) (nI 0) = lkC τ (j + 1) ∧ lkF τ j = lkF τ (j + 1) := by
  have e : lookN τ (j + 1) = look1 (lookN τ j) j := rfl
  have e1 : look1 (lookN τ j) j = upd (upd (lookN τ j) 107 (lookN τ j 107 + nI 0)) (ix j 8) (nI 0) := by
    unfold look1; rw [if_neg (by rw [h]; simp), if_pos h]
  constructor
  · simp only [lkC]
    rw [e, e1, upd_comm _ _ _ (show ix j 8 ≠ 107 by simp only [ix]; omega), upd_twice, upd_comm _ _ _ (show (107 : Nat) ≠ ix j 8 by simp only [ix]; omega)]
  · simp only [lkF]
    rw [e, look1_107, h]
    simp [bI]
/-- called already -/
theorem lk_old {τ : Nat → Int32} {j : Nat} (hj : j < 8) (h : isC (lookN τ j) j = false) (hk : isK (lookN τ j) j = true) : lkC τ j = lkC τ (j + 1) ∧ lkF τ j = lkF τ (j + 1) := by
  have e : lookN τ (j + 1) = look1 (lookN τ j) j := rfl
  have e1 : look1 (lookN τ j) j = upd (upd (lookN τ j) 107 (lookN τ j 107 + nI 0)) (ix j 8) (lookN τ j (ix j 8)) := by
    unfold look1; rw [if_neg (by rw [hk]; simp), if_neg (by rw [h]; simp)]
  constructor
  · simp only [lkC]
    rw [e, e1, upd_comm _ _ _ (show ix j 8 ≠ 107 by simp only [ix]; omega), upd_twice, upd_comm _ _ _ (show (107 : Nat) ≠ ix j 8 by simp only [ix]; omega), upd_self]
  · simp only [lkF]
    rw [e, look1_107, h, hk]
    simp [bI]
/-- called anew -/
theorem lk_new {τ : Nat → Int32} {j : Nat} (hj : j < 8) (h : isC (lookN τ j) j = false) (hk : isK (lookN τ j) j = false) : upd (lkC τ j) (ix j 8) (τ 99) = lkC τ (j + 1) ∧ lkF τ j + nI 1 = lkF τ (j + 1) := by
  have e : lookN τ (j + 1) = look1 (lookN τ j) j := rfl
  have e1 : look1 (lookN τ j) j = upd (upd (lookN τ j) 107 (lookN τ j 107 + nI 1)) (ix j 8) (τ 99) := by
    unfold look1; rw [if_pos (by rw [h, hk]; rfl), lk_grace (by omega)]
  constructor
  · simp only [lkC]
    rw [e, e1, upd_comm _ _ _ (show ix j 8 ≠ 107 by simp only [ix]; omega), upd_twice, upd_comm _ _ _ (show (107 : Nat) ≠ ix j 8 by simp only [ix]; omega)]
  · simp only [lkF]
    rw [e, look1_107, h, hk]
    show lookN τ j 107 - τ 107 + nI 1 = lookN τ j 107 + nI 1 - τ 107
    rw [Int32.sub_eq_add_neg, Int32.sub_eq_add_neg, Int32.add_assoc, Int32.add_comm (-τ 107), ← Int32.add_assoc]
set_option maxHeartbeats 1000000 in
theorem c3_at (w : PW) (a b : Int32) : Ct mX3_at [.int a, .int b] w (d1 (some (.int (a * nI 6 + b))) w) nx := by
  refine ct_of 2 kX3_at.1 rfl (Nat.le_of_ble_eq_true rfl) (fun v u h => by obtain ⟨rfl, rfl⟩ := h; exact rfl) ?_
  show Ev _ _ _ 0 0 [(0, .int a), (1, .int b)] [] _
  refine ev_iload_n 0 dX3_at_0 rfl rfl ?_
  refine ev_bipush (nI 6) dX3_at_1 rfl ?_
  refine ev_imul dX3_at_3 ?_
  refine ev_iload_n 1 dX3_at_4 rfl rfl ?_
  refine ev_iadd dX3_at_5 ?_
  exact ev_ireturn dX3_at_6 (Nat.le_of_ble_eq_true rfl) ⟨rfl, rfl⟩
set_option maxHeartbeats 1000000 in
theorem c3_fallen (w : PW) (a q l : Int32) : Ct mX3_fallen [.int a, .int q, .int l] w (d1 (some (.int (fal3 a q l))) w) nx := by
  refine ct_of 3 kX3_fallen.1 rfl (Nat.le_of_ble_eq_true rfl) (fun v u h => by obtain ⟨rfl, rfl⟩ := h; exact rfl) ?_
  show Ev _ _ _ 0 0 [(0, .int a), (1, .int q), (2, .int l)] [] _
  refine ev_iload_n 0 dX3_fallen_0 rfl rfl ?_
  refine ev_bipush (nI 100) dX3_fallen_1 rfl ?_
  refine ev_iload_n 1 dX3_fallen_3 rfl rfl ?_
  refine ev_isub dX3_fallen_4 ?_
  refine ev_imul dX3_fallen_5 ?_
  refine ev_bipush (nI 100) dX3_fallen_6 rfl ?_
  refine ev_idiv dX3_fallen_8 (by decide) ?_
  refine ev_istore_n 3 dX3_fallen_9 rfl (Nat.le_of_ble_eq_true rfl) rfl ?_
  refine ev_iload_n 3 dX3_fallen_10 rfl rfl ?_
  refine ev_iload_n 2 dX3_fallen_11 rfl rfl ?_
  refine ev_icmp_ge 19 dX3_fallen_12 (by decide) (fun h12 => ?_) (fun h12 => ?_)
  · refine ev_iload_n 3 dX3_fallen_19 rfl rfl ?_
    exact ev_ireturn dX3_fallen_20 (Nat.le_of_ble_eq_true rfl) ⟨by first | exact congrArg (fun x => some (Value.int x)) (if_pos (Int32.not_le.mp h12)).symm | exact congrArg (fun x => some (Value.int x)) (if_neg (Int32.not_lt.mpr h12)).symm, rfl⟩
  · refine ev_iload_n 2 dX3_fallen_15 rfl rfl ?_
    refine ev_goto 20 dX3_fallen_16 (by decide) ?_
    exact ev_ireturn dX3_fallen_20 (Nat.le_of_ble_eq_true rfl) ⟨by first | exact congrArg (fun x => some (Value.int x)) (if_pos (Int32.not_le.mp h12)).symm | exact congrArg (fun x => some (Value.int x)) (if_neg (Int32.not_lt.mpr h12)).symm, rfl⟩
set_option maxHeartbeats 1000000 in
theorem c0_worth (p : Nat → va_E) (sl pl ks rr τ : Nat → Int32) (g : PW) {c : Nat} (hc : c < 8) : Ct mX0_worth [.ref 17, .int (nI c)] (nw p sl pl ks rr τ g) (d1 (some (.int (worS τ c 6))) (nw p sl pl ks rr τ g)) nx := by
  refine ct_of 1 kX0_worth.1 rfl (Nat.le_of_ble_eq_true rfl) (fun v u h => by obtain ⟨rfl, rfl⟩ := h; exact rfl) ?_
  show Ev _ _ _ 0 0 [(0, .ref 17), (1, .int (nI c))] [] _
  refine ev_aload_n 0 dX0_worth_0 rfl rfl ?_
  refine ev_getfield 4 dX0_worth_1 foX0_24 rfl rfl ?_
  refine ev_iload_n 1 dX0_worth_4 rfl rfl ?_
  refine ev_ild (c) dX0_worth_5 rfl (by simp only [nI_m, nI_add, ix, oI]) (by omega) rfl ?_
  refine ev_istore_n 2 dX0_worth_6 rfl (Nat.le_of_ble_eq_true rfl) rfl ?_
  refine ev_iconst (nI 0) dX0_worth_7 rfl ?_
  refine ev_istore_n 3 dX0_worth_8 rfl (Nat.le_of_ble_eq_true rfl) rfl ?_
  suffices H : ∀ fu j, j + fu = 6 → Ev mX0_worth (d1 (some (.int (worS τ c 6))) (nw p sl pl ks rr τ g)) nx 0 9 [(3, .int (nI (j))), (2, .int (worS τ c (j))), (0, .ref 17), (1, .int (nI c))] [] ((nw p sl pl ks rr τ g)) from ev_sub [0, 1, 2, 3] rfl (H 6 0 (Nat.zero_add _))
  intro fu
  induction fu with
  | zero =>
    intro j hj
    obtain rfl : 6 = j := by omega
    refine ev_iload_n 3 dX0_worth_9 rfl rfl ?_
    refine ev_bipush (nI 6) dX0_worth_10 rfl ?_
    refine ev_icmp_ge 41 dX0_worth_12 (by decide) (fun h12 => ?_) (fun h12 => absurd (nI_le (Nat.le_refl 6) (by omega)) h12)
    refine ev_iload_n 2 dX0_worth_41 rfl rfl ?_
    exact ev_ireturn dX0_worth_42 (Nat.le_of_ble_eq_true rfl) ⟨rfl, rfl⟩
  | succ fu ih =>
    intro j hj
    have hj6 : j < 6 := by omega
    refine ev_iload_n 3 dX0_worth_9 rfl rfl ?_
    refine ev_bipush (nI 6) dX0_worth_10 rfl ?_
    refine ev_icmp_ge 41 dX0_worth_12 (by decide) (fun h12 => absurd h12 (nI_ge hj6 (by omega))) (fun h12 => ?_)
    refine ev_iload_n 2 dX0_worth_15 rfl rfl ?_
    refine ev_aload_n 0 dX0_worth_16 rfl rfl ?_
    refine ev_getfield 3 dX0_worth_17 foX0_21 rfl rfl ?_
    refine ev_iload_n 1 dX0_worth_20 rfl rfl ?_
    refine ev_iload_n 3 dX0_worth_21 rfl rfl ?_
    refine ev_cN2 (c3_at _ _ _) kX3_at rfl (fun _ _ _ _ h => h.1.1) rfl rfl dX0_worth_22 ?_
    refine ev_ild (c * 6 + j) dX0_worth_25 rfl (by simp only [nI_m, nI_add, ix, oI]) (by omega) rfl ?_
    refine ev_top (τ (ix c j)) (pc6 (by omega)) ?_
    refine ev_aload_n 0 dX0_worth_26 rfl rfl ?_
    refine ev_getfield 0 dX0_worth_27 foX0_9 rfl rfl ?_
    refine ev_iload_n 3 dX0_worth_30 rfl rfl ?_
    refine ev_ild (j) dX0_worth_31 rfl (by simp only [nI_m, nI_add, ix, oI]) (by omega) rfl ?_
    refine ev_imul dX0_worth_32 ?_
    refine ev_iadd dX0_worth_33 ?_
    refine ev_istore_n 2 dX0_worth_34 rfl (Nat.le_of_ble_eq_true rfl) rfl ?_
    refine ev_iinc (nI (j + 1)) dX0_worth_35 rfl (nI_1 j) (Nat.le_of_ble_eq_true rfl) rfl ?_
    refine ev_goto 9 dX0_worth_38 (by decide) ?_
    exact ev_sub [0, 1, 2, 3] rfl (ih (j + 1) (by omega))
set_option maxHeartbeats 1000000 in
theorem c0_coverAfterFall (p : Nat → va_E) (sl pl ks rr τ : Nat → Int32) (g : PW) {c : Nat} (hc : c < 8) (q l : Int32) : Ct mX0_coverAfterFall [.ref 17, .int (nI c), .int q, .int l] (nw p sl pl ks rr τ g) (d1 (some (.int (covI τ c q l))) (nw p sl pl ks rr τ g)) nx := by
  refine ct_of 3 kX0_coverAfterFall.1 rfl (Nat.le_of_ble_eq_true rfl) (fun v u h => by obtain ⟨rfl, rfl⟩ := h; exact rfl) ?_
  show Ev _ _ _ 0 0 [(0, .ref 17), (1, .int (nI c)), (2, .int q), (3, .int l)] [] _
  refine ev_iconst (nI 0) dX0_coverAfterFall_0 rfl ?_
  refine ev_istore dX0_coverAfterFall_1 (Nat.le_of_ble_eq_true rfl) rfl ?_
  refine ev_iconst (nI 0) dX0_coverAfterFall_3 rfl ?_
  refine ev_istore dX0_coverAfterFall_4 (Nat.le_of_ble_eq_true rfl) rfl ?_
  suffices H : ∀ fu j, j + fu = 6 → Ev mX0_coverAfterFall (d1 (some (.int (covI τ c q l))) (nw p sl pl ks rr τ g)) nx 0 6 [(5, .int (nI (j))), (4, .int (covS τ c q l (j))), (0, .ref 17), (1, .int (nI c)), (2, .int q), (3, .int l)] [] ((nw p sl pl ks rr τ g)) from ev_sub [0, 1, 2, 3, 4, 5] rfl (H 6 0 (Nat.zero_add _))
  intro fu
  induction fu with
  | zero =>
    intro j hj
    obtain rfl : 6 = j := by omega
    refine ev_iload dX0_coverAfterFall_6 rfl ?_
    refine ev_bipush (nI 6) dX0_coverAfterFall_8 rfl ?_
    refine ev_icmp_ge 59 dX0_coverAfterFall_10 (by decide) (fun h10 => ?_) (fun h10 => absurd (nI_le (Nat.le_refl 6) (by omega)) h10)
    refine ev_aload_n 0 dX0_coverAfterFall_59 rfl rfl ?_
    refine ev_getfield 4 dX0_coverAfterFall_60 foX0_24 rfl rfl ?_
    refine ev_iload_n 1 dX0_coverAfterFall_63 rfl rfl ?_
    refine ev_ild (c) dX0_coverAfterFall_64 rfl (by simp only [nI_m, nI_add, ix, oI]) (by omega) rfl ?_
    refine ev_iload dX0_coverAfterFall_65 rfl ?_
    refine ev_bipush (nI 100) dX0_coverAfterFall_67 rfl ?_
    refine ev_idiv dX0_coverAfterFall_69 (by decide) ?_
    refine ev_iadd dX0_coverAfterFall_70 ?_
    exact ev_ireturn dX0_coverAfterFall_71 (Nat.le_of_ble_eq_true rfl) ⟨rfl, rfl⟩
  | succ fu ih =>
    intro j hj
    have hj6 : j < 6 := by omega
    refine ev_iload dX0_coverAfterFall_6 rfl ?_
    refine ev_bipush (nI 6) dX0_coverAfterFall_8 rfl ?_
    refine ev_icmp_ge 59 dX0_coverAfterFall_10 (by decide) (fun h10 => absurd h10 (nI_ge hj6 (by omega))) (fun h10 => ?_)
    refine ev_iload dX0_coverAfterFall_13 rfl ?_
    refine ev_aload_n 0 dX0_coverAfterFall_15 rfl rfl ?_
    refine ev_getfield 3 dX0_coverAfterFall_16 foX0_21 rfl rfl ?_
    refine ev_iload_n 1 dX0_coverAfterFall_19 rfl rfl ?_
    refine ev_iload dX0_coverAfterFall_20 rfl ?_
    refine ev_cN2 (c3_at _ _ _) kX3_at rfl (fun _ _ _ _ h => h.1.1) rfl rfl dX0_coverAfterFall_22 ?_
    refine ev_ild (c * 6 + j) dX0_coverAfterFall_25 rfl (by simp only [nI_m, nI_add, ix, oI]) (by omega) rfl ?_
    refine ev_top (τ (ix c j)) (pc6 (by omega)) ?_
    refine ev_aload_n 0 dX0_coverAfterFall_26 rfl rfl ?_
    refine ev_getfield 0 dX0_coverAfterFall_27 foX0_9 rfl rfl ?_
    refine ev_iload dX0_coverAfterFall_30 rfl ?_
    refine ev_ild (j) dX0_coverAfterFall_32 rfl (by simp only [nI_m, nI_add, ix, oI]) (by omega) rfl ?_
    refine ev_iload_n 2 dX0_coverAfterFall_33 rfl rfl ?_
    refine ev_iload_n 3 dX0_coverAfterFall_34 rfl rfl ?_
    refine ev_cN3 (c3_fallen _ _ _ _) kX3_fallen rfl (fun _ _ _ _ h => h.1.2.1) rfl rfl dX0_coverAfterFall_35 ?_
    refine ev_imul dX0_coverAfterFall_38 ?_
    refine ev_bipush (nI 100) dX0_coverAfterFall_39 rfl ?_
    refine ev_aload_n 0 dX0_coverAfterFall_41 rfl rfl ?_
    refine ev_getfield 1 dX0_coverAfterFall_42 foX0_15 rfl rfl ?_
    refine ev_iload dX0_coverAfterFall_45 rfl ?_
    refine ev_ild (j) dX0_coverAfterFall_47 rfl (by simp only [nI_m, nI_add, ix, oI]) (by omega) rfl ?_
    refine ev_isub dX0_coverAfterFall_48 ?_
    refine ev_imul dX0_coverAfterFall_49 ?_
    refine ev_iadd dX0_coverAfterFall_50 ?_
    refine ev_istore dX0_coverAfterFall_51 (Nat.le_of_ble_eq_true rfl) rfl ?_
    refine ev_iinc (nI (j + 1)) dX0_coverAfterFall_53 rfl (nI_1 j) (Nat.le_of_ble_eq_true rfl) rfl ?_
    refine ev_goto 6 dX0_coverAfterFall_56 (by decide) ?_
    exact ev_sub [0, 1, 2, 3, 4, 5] rfl (ih (j + 1) (by omega))
set_option maxHeartbeats 1000000 in
theorem c0_cover (p : Nat → va_E) (sl pl ks rr τ : Nat → Int32) (g : PW) {c : Nat} (hc : c < 8) : Ct mX0_cover [.ref 17, .int (nI c)] (nw p sl pl ks rr τ g) (d1 (some (.int (covI τ c (nI 0) (nI 1)))) (nw p sl pl ks rr τ g)) nx := by
  refine ct_of 1 kX0_cover.1 rfl (Nat.le_of_ble_eq_true rfl) (fun v u h => by obtain ⟨rfl, rfl⟩ := h; exact rfl) ?_
  show Ev _ _ _ 0 0 [(0, .ref 17), (1, .int (nI c))] [] _
  refine ev_aload_n 0 dX0_cover_0 rfl rfl ?_
  refine ev_iload_n 1 dX0_cover_1 rfl rfl ?_
  refine ev_iconst (nI 0) dX0_cover_2 rfl ?_
  refine ev_iconst (nI 1) dX0_cover_3 rfl ?_
  refine ev_cV3 (c0_coverAfterFall _ _ _ _ _ _ _ (by omega) _ _) kX0_coverAfterFall rfl g339 rfl rfl rfl rfl dX0_cover_4 ?_
  exact ev_ireturn dX0_cover_7 (Nat.le_of_ble_eq_true rfl) ⟨rfl, rfl⟩
set_option maxHeartbeats 1000000 in
theorem c0_staysCovered (p : Nat → va_E) (sl pl ks rr τ : Nat → Int32) (g : PW) {c : Nat} (hc : c < 8) (q l : Int32) : Ct mX0_staysCovered [.ref 17, .int (nI c), .int q, .int l] (nw p sl pl ks rr τ g) (d1 (some (.int (bI (stC τ c q l)))) (nw p sl pl ks rr τ g)) nx := by
  refine ct_of 3 kX0_staysCovered.1 rfl (Nat.le_of_ble_eq_true rfl) (fun v u h => by obtain ⟨rfl, rfl⟩ := h; exact bI_nar _) ?_
  show Ev _ _ _ 0 0 [(0, .ref 17), (1, .int (nI c)), (2, .int q), (3, .int l)] [] _
  refine ev_aload_n 0 dX0_staysCovered_0 rfl rfl ?_
  refine ev_getfield 5 dX0_staysCovered_1 foX0_27 rfl rfl ?_
  refine ev_iload_n 1 dX0_staysCovered_4 rfl rfl ?_
  refine ev_ild (c) dX0_staysCovered_5 rfl (by simp only [nI_m, nI_add, ix, oI]) (by omega) rfl ?_
  refine ev_aload_n 0 dX0_staysCovered_6 rfl rfl ?_
  refine ev_iload_n 1 dX0_staysCovered_7 rfl rfl ?_
  refine ev_iload_n 2 dX0_staysCovered_8 rfl rfl ?_
  refine ev_iload_n 3 dX0_staysCovered_9 rfl rfl ?_
  refine ev_cV3 (c0_coverAfterFall _ _ _ _ _ _ _ (by omega) _ _) kX0_coverAfterFall rfl g339 rfl rfl rfl rfl dX0_staysCovered_10 ?_
  refine ev_icmp_gt 20 dX0_staysCovered_13 (by decide) (fun h13 => ?_) (fun h13 => ?_)
  · refine ev_iconst (nI 0) dX0_staysCovered_20 rfl ?_
    exact ev_ireturn dX0_staysCovered_21 (Nat.le_of_ble_eq_true rfl) ⟨by first | (rw [show stC τ c q l = false from decide_eq_false (Int32.not_le.mpr h13)]; rfl) | (rw [show stC τ c q l = true from decide_eq_true (Int32.not_lt.mp h13)]; rfl), rfl⟩
  · refine ev_iconst (nI 1) dX0_staysCovered_16 rfl ?_
    refine ev_goto 21 dX0_staysCovered_17 (by decide) ?_
    exact ev_ireturn dX0_staysCovered_21 (Nat.le_of_ble_eq_true rfl) ⟨by first | (rw [show stC τ c q l = false from decide_eq_false (Int32.not_le.mpr h13)]; rfl) | (rw [show stC τ c q l = true from decide_eq_true (Int32.not_lt.mp h13)]; rfl), rfl⟩
set_option maxHeartbeats 1000000 in
theorem c0_openRoom (p : Nat → va_E) (sl pl ks rr τ : Nat → Int32) (g : PW) {c : Nat} (hc : c < 8) : Ct mX0_openRoom [.ref 17, .int (nI c)] (nw p sl pl ks rr τ g) (d1 (some (.int (opnS τ c))) (nw p sl pl ks rr τ g)) nx := by
  refine ct_of 1 kX0_openRoom.1 rfl (Nat.le_of_ble_eq_true rfl) (fun v u h => by obtain ⟨rfl, rfl⟩ := h; exact rfl) ?_
  show Ev _ _ _ 0 0 [(0, .ref 17), (1, .int (nI c))] [] _
  refine ev_aload_n 0 dX0_openRoom_0 rfl rfl ?_
  refine ev_iload_n 1 dX0_openRoom_1 rfl rfl ?_
  refine ev_cV1 (c0_cover _ _ _ _ _ _ _ (by omega)) kX0_cover rfl g335 rfl rfl rfl rfl dX0_openRoom_2 ?_
  refine ev_aload_n 0 dX0_openRoom_5 rfl rfl ?_
  refine ev_getfield 5 dX0_openRoom_6 foX0_27 rfl rfl ?_
  refine ev_iload_n 1 dX0_openRoom_9 rfl rfl ?_
  refine ev_ild (c) dX0_openRoom_10 rfl (by simp only [nI_m, nI_add, ix, oI]) (by omega) rfl ?_
  refine ev_isub dX0_openRoom_11 ?_
  refine ev_istore_n 2 dX0_openRoom_12 rfl (Nat.le_of_ble_eq_true rfl) rfl ?_
  refine ev_aload_n 0 dX0_openRoom_13 rfl rfl ?_
  refine ev_getfield 7 dX0_openRoom_14 foX0_33 rfl rfl ?_
  refine ev_iload_n 1 dX0_openRoom_17 rfl rfl ?_
  refine ev_bld (c) dX0_openRoom_18 rfl rfl (by omega) rfl ?_
  refine ev_if_ne 26 dX0_openRoom_19 (by decide) (fun h19 => ?_) (fun h19 => ?_)
  · refine ev_iconst (nI 0) dX0_openRoom_26 rfl ?_
    refine ev_goto 31 dX0_openRoom_27 (by decide) ?_
    exact ev_ireturn dX0_openRoom_31 (Nat.le_of_ble_eq_true rfl) ⟨by first | exact congrArg (fun x => some (Value.int x)) (if_pos (Or.inl h19)).symm | exact congrArg (fun x => some (Value.int x)) (if_neg (fun h => h.elim (fun h => h h19) (Int32.not_lt.mpr h23))).symm | exact congrArg (fun x => some (Value.int x)) (if_pos (Or.inr (Int32.not_le.mp h23))).symm, rfl⟩
  · refine ev_iload_n 2 dX0_openRoom_22 rfl rfl ?_
    refine ev_if_ge 30 dX0_openRoom_23 (by decide) (fun h23 => ?_) (fun h23 => ?_)
    · refine ev_iload_n 2 dX0_openRoom_30 rfl rfl ?_
      exact ev_ireturn dX0_openRoom_31 (Nat.le_of_ble_eq_true rfl) ⟨by first | exact congrArg (fun x => some (Value.int x)) (if_pos (Or.inl h19)).symm | exact congrArg (fun x => some (Value.int x)) (if_neg (fun h => h.elim (fun h => h h19) (Int32.not_lt.mpr h23))).symm | exact congrArg (fun x => some (Value.int x)) (if_pos (Or.inr (Int32.not_le.mp h23))).symm, rfl⟩
    · refine ev_iconst (nI 0) dX0_openRoom_26 rfl ?_
      refine ev_goto 31 dX0_openRoom_27 (by decide) ?_
      exact ev_ireturn dX0_openRoom_31 (Nat.le_of_ble_eq_true rfl) ⟨by first | exact congrArg (fun x => some (Value.int x)) (if_pos (Or.inl h19)).symm | exact congrArg (fun x => some (Value.int x)) (if_neg (fun h => h.elim (fun h => h h19) (Int32.not_lt.mpr h23))).symm | exact congrArg (fun x => some (Value.int x)) (if_pos (Or.inr (Int32.not_le.mp h23))).symm, rfl⟩
theorem gX0_98 : Cond.constantLong RX0 98 (lN 9999) ∈ Gw := g555
theorem gX0_100 : Cond.constantLong RX0 100 (lN 10000) ∈ Gw := g556
set_option maxHeartbeats 1000000 in
theorem c0_interestOn (p : Nat → va_E) (sl pl ks rr τ : Nat → Int32) (g : PW) (d : Int32) : Ct mX0_interestOn [.ref 17, .int d] (nw p sl pl ks rr τ g) (d1 (some (.int (intL τ d))) (nw p sl pl ks rr τ g)) nx := by
  refine ct_of 1 kX0_interestOn.1 rfl (Nat.le_of_ble_eq_true rfl) (fun v u h => by obtain ⟨rfl, rfl⟩ := h; exact rfl) ?_
  show Ev _ _ _ 0 0 [(0, .ref 17), (1, .int d)] [] _
  refine ev_iload_n 1 dX0_interestOn_0 rfl rfl ?_
  refine ev_i2l dX0_interestOn_1 ?_
  refine ev_aload_n 0 dX0_interestOn_2 rfl rfl ?_
  refine ev_getfield 8 dX0_interestOn_3 foX0_37 rfl rfl ?_
  refine ev_i2l dX0_interestOn_6 ?_
  refine ev_lmul dX0_interestOn_7 ?_
  refine ev_ldc2 (lN 9999) dX0_interestOn_8 gX0_98 ?_
  refine ev_ladd dX0_interestOn_11 ?_
  refine ev_ldc2 (lN 10000) dX0_interestOn_12 gX0_100 ?_
  refine ev_ldiv dX0_interestOn_15 (by decide) ?_
  refine ev_l2i dX0_interestOn_16 ?_
  exact ev_ireturn dX0_interestOn_17 (Nat.le_of_ble_eq_true rfl) ⟨rfl, rfl⟩
set_option maxHeartbeats 1000000 in
theorem c0_piecesOfAll (p : Nat → va_E) (sl pl ks rr τ : Nat → Int32) (g : PW) {k : Nat} (hk : k < 6) : Ct mX0_piecesOfAll [.ref 17, .int (nI k)] (nw p sl pl ks rr τ g) (d1 (some (.int (pldS τ k 8))) (nw p sl pl ks rr τ g)) nx := by
  refine ct_of 1 kX0_piecesOfAll.1 rfl (Nat.le_of_ble_eq_true rfl) (fun v u h => by obtain ⟨rfl, rfl⟩ := h; exact rfl) ?_
  show Ev _ _ _ 0 0 [(0, .ref 17), (1, .int (nI k))] [] _
  refine ev_iconst (nI 0) dX0_piecesOfAll_0 rfl ?_
  refine ev_istore_n 2 dX0_piecesOfAll_1 rfl (Nat.le_of_ble_eq_true rfl) rfl ?_
  refine ev_iconst (nI 0) dX0_piecesOfAll_2 rfl ?_
  refine ev_istore_n 3 dX0_piecesOfAll_3 rfl (Nat.le_of_ble_eq_true rfl) rfl ?_
  suffices H : ∀ fu j, j + fu = 8 → Ev mX0_piecesOfAll (d1 (some (.int (pldS τ k 8))) (nw p sl pl ks rr τ g)) nx 0 4 [(3, .int (nI (j))), (2, .int (pldS τ k (j))), (0, .ref 17), (1, .int (nI k))] [] ((nw p sl pl ks rr τ g)) from ev_sub [0, 1, 2, 3] rfl (H 8 0 (Nat.zero_add _))
  intro fu
  induction fu with
  | zero =>
    intro j hj
    obtain rfl : 8 = j := by omega
    refine ev_iload_n 3 dX0_piecesOfAll_4 rfl rfl ?_
    refine ev_bipush (nI 8) dX0_piecesOfAll_5 rfl ?_
    refine ev_icmp_ge 29 dX0_piecesOfAll_7 (by decide) (fun h7 => ?_) (fun h7 => absurd (nI_le (Nat.le_refl 8) (by omega)) h7)
    refine ev_iload_n 2 dX0_piecesOfAll_29 rfl rfl ?_
    exact ev_ireturn dX0_piecesOfAll_30 (Nat.le_of_ble_eq_true rfl) ⟨rfl, rfl⟩
  | succ fu ih =>
    intro j hj
    have hj6 : j < 8 := by omega
    refine ev_iload_n 3 dX0_piecesOfAll_4 rfl rfl ?_
    refine ev_bipush (nI 8) dX0_piecesOfAll_5 rfl ?_
    refine ev_icmp_ge 29 dX0_piecesOfAll_7 (by decide) (fun h7 => absurd h7 (nI_ge hj6 (by omega))) (fun h7 => ?_)
    refine ev_iload_n 2 dX0_piecesOfAll_10 rfl rfl ?_
    refine ev_aload_n 0 dX0_piecesOfAll_11 rfl rfl ?_
    refine ev_getfield 3 dX0_piecesOfAll_12 foX0_21 rfl rfl ?_
    refine ev_iload_n 3 dX0_piecesOfAll_15 rfl rfl ?_
    refine ev_iload_n 1 dX0_piecesOfAll_16 rfl rfl ?_
    refine ev_cN2 (c3_at _ _ _) kX3_at rfl (fun _ _ _ _ h => h.1.1) rfl rfl dX0_piecesOfAll_17 ?_
    refine ev_ild (j * 6 + k) dX0_piecesOfAll_20 rfl (by simp only [nI_m, nI_add, ix, oI]) (by omega) rfl ?_
    refine ev_top (τ (ix j k)) (pc6 (by omega)) ?_
    refine ev_iadd dX0_piecesOfAll_21 ?_
    refine ev_istore_n 2 dX0_piecesOfAll_22 rfl (Nat.le_of_ble_eq_true rfl) rfl ?_
    refine ev_iinc (nI (j + 1)) dX0_piecesOfAll_23 rfl (nI_1 j) (Nat.le_of_ble_eq_true rfl) rfl ?_
    refine ev_goto 4 dX0_piecesOfAll_26 (by decide) ?_
    exact ev_sub [0, 1, 2, 3] rfl (ih (j + 1) (by omega))
set_option maxHeartbeats 1000000 in
theorem c0_debtsOfAll (p : Nat → va_E) (sl pl ks rr τ : Nat → Int32) (g : PW)  : Ct mX0_debtsOfAll [.ref 17] (nw p sl pl ks rr τ g) (d1 (some (.int (dbS τ 8))) (nw p sl pl ks rr τ g)) nx := by
  refine ct_of 0 kX0_debtsOfAll.1 rfl (Nat.le_of_ble_eq_true rfl) (fun v u h => by obtain ⟨rfl, rfl⟩ := h; exact rfl) ?_
  show Ev _ _ _ 0 0 [(0, .ref 17)] [] _
  refine ev_iconst (nI 0) dX0_debtsOfAll_0 rfl ?_
  refine ev_istore_n 1 dX0_debtsOfAll_1 rfl (Nat.le_of_ble_eq_true rfl) rfl ?_
  refine ev_iconst (nI 0) dX0_debtsOfAll_2 rfl ?_
  refine ev_istore_n 2 dX0_debtsOfAll_3 rfl (Nat.le_of_ble_eq_true rfl) rfl ?_
  suffices H : ∀ fu j, j + fu = 8 → Ev mX0_debtsOfAll (d1 (some (.int (dbS τ 8))) (nw p sl pl ks rr τ g)) nx 0 4 [(2, .int (nI (j))), (1, .int (dbS τ (j))), (0, .ref 17)] [] ((nw p sl pl ks rr τ g)) from ev_sub [0, 1, 2] rfl (H 8 0 (Nat.zero_add _))
  intro fu
  induction fu with
  | zero =>
    intro j hj
    obtain rfl : 8 = j := by omega
    refine ev_iload_n 2 dX0_debtsOfAll_4 rfl rfl ?_
    refine ev_bipush (nI 8) dX0_debtsOfAll_5 rfl ?_
    refine ev_icmp_ge 25 dX0_debtsOfAll_7 (by decide) (fun h7 => ?_) (fun h7 => absurd (nI_le (Nat.le_refl 8) (by omega)) h7)
    refine ev_iload_n 1 dX0_debtsOfAll_25 rfl rfl ?_
    exact ev_ireturn dX0_debtsOfAll_26 (Nat.le_of_ble_eq_true rfl) ⟨rfl, rfl⟩
  | succ fu ih =>
    intro j hj
    have hj6 : j < 8 := by omega
    refine ev_iload_n 2 dX0_debtsOfAll_4 rfl rfl ?_
    refine ev_bipush (nI 8) dX0_debtsOfAll_5 rfl ?_
    refine ev_icmp_ge 25 dX0_debtsOfAll_7 (by decide) (fun h7 => absurd h7 (nI_ge hj6 (by omega))) (fun h7 => ?_)
    refine ev_iload_n 1 dX0_debtsOfAll_10 rfl rfl ?_
    refine ev_aload_n 0 dX0_debtsOfAll_11 rfl rfl ?_
    refine ev_getfield 5 dX0_debtsOfAll_12 foX0_27 rfl rfl ?_
    refine ev_iload_n 2 dX0_debtsOfAll_15 rfl rfl ?_
    refine ev_ild (j) dX0_debtsOfAll_16 rfl (by simp only [nI_m, nI_add, ix, oI]) (by omega) rfl ?_
    refine ev_iadd dX0_debtsOfAll_17 ?_
    refine ev_istore_n 1 dX0_debtsOfAll_18 rfl (Nat.le_of_ble_eq_true rfl) rfl ?_
    refine ev_iinc (nI (j + 1)) dX0_debtsOfAll_19 rfl (nI_1 j) (Nat.le_of_ble_eq_true rfl) rfl ?_
    refine ev_goto 4 dX0_debtsOfAll_22 (by decide) ?_
    exact ev_sub [0, 1, 2] rfl (ih (j + 1) (by omega))
set_option maxHeartbeats 1000000 in
theorem c0_coverOfAll (p : Nat → va_E) (sl pl ks rr τ : Nat → Int32) (g : PW)  : Ct mX0_coverOfAll [.ref 17] (nw p sl pl ks rr τ g) (d1 (some (.int (cvS τ 8))) (nw p sl pl ks rr τ g)) nx := by
  refine ct_of 0 kX0_coverOfAll.1 rfl (Nat.le_of_ble_eq_true rfl) (fun v u h => by obtain ⟨rfl, rfl⟩ := h; exact rfl) ?_
  show Ev _ _ _ 0 0 [(0, .ref 17)] [] _
  refine ev_iconst (nI 0) dX0_coverOfAll_0 rfl ?_
  refine ev_istore_n 1 dX0_coverOfAll_1 rfl (Nat.le_of_ble_eq_true rfl) rfl ?_
  refine ev_iconst (nI 0) dX0_coverOfAll_2 rfl ?_
  refine ev_istore_n 2 dX0_coverOfAll_3 rfl (Nat.le_of_ble_eq_true rfl) rfl ?_
  suffices H : ∀ fu j, j + fu = 8 → Ev mX0_coverOfAll (d1 (some (.int (cvS τ 8))) (nw p sl pl ks rr τ g)) nx 0 4 [(2, .int (nI (j))), (1, .int (cvS τ (j))), (0, .ref 17)] [] ((nw p sl pl ks rr τ g)) from ev_sub [0, 1, 2] rfl (H 8 0 (Nat.zero_add _))
  intro fu
  induction fu with
  | zero =>
    intro j hj
    obtain rfl : 8 = j := by omega
    refine ev_iload_n 2 dX0_coverOfAll_4 rfl rfl ?_
    refine ev_bipush (nI 8) dX0_coverOfAll_5 rfl ?_
    refine ev_icmp_ge 24 dX0_coverOfAll_7 (by decide) (fun h7 => ?_) (fun h7 => absurd (nI_le (Nat.le_refl 8) (by omega)) h7)
    refine ev_iload_n 1 dX0_coverOfAll_24 rfl rfl ?_
    exact ev_ireturn dX0_coverOfAll_25 (Nat.le_of_ble_eq_true rfl) ⟨rfl, rfl⟩
  | succ fu ih =>
    intro j hj
    have hj6 : j < 8 := by omega
    refine ev_iload_n 2 dX0_coverOfAll_4 rfl rfl ?_
    refine ev_bipush (nI 8) dX0_coverOfAll_5 rfl ?_
    refine ev_icmp_ge 24 dX0_coverOfAll_7 (by decide) (fun h7 => absurd h7 (nI_ge hj6 (by omega))) (fun h7 => ?_)
    refine ev_iload_n 1 dX0_coverOfAll_10 rfl rfl ?_
    refine ev_aload_n 0 dX0_coverOfAll_11 rfl rfl ?_
    refine ev_iload_n 2 dX0_coverOfAll_12 rfl rfl ?_
    refine ev_cV1 (c0_cover _ _ _ _ _ _ _ (by omega)) kX0_cover rfl g335 rfl rfl rfl rfl dX0_coverOfAll_13 ?_
    refine ev_iadd dX0_coverOfAll_16 ?_
    refine ev_istore_n 1 dX0_coverOfAll_17 rfl (Nat.le_of_ble_eq_true rfl) rfl ?_
    refine ev_iinc (nI (j + 1)) dX0_coverOfAll_18 rfl (nI_1 j) (Nat.le_of_ble_eq_true rfl) rfl ?_
    refine ev_goto 4 dX0_coverOfAll_21 (by decide) ?_
    exact ev_sub [0, 1, 2] rfl (ih (j + 1) (by omega))
set_option maxHeartbeats 1000000 in
theorem c0_countCalled (p : Nat → va_E) (sl pl ks rr τ : Nat → Int32) (g : PW)  : Ct mX0_countCalled [.ref 17] (nw p sl pl ks rr τ g) (d1 (some (.int (allS τ 8))) (nw p sl pl ks rr τ g)) nx := by
  refine ct_of 0 kX0_countCalled.1 rfl (Nat.le_of_ble_eq_true rfl) (fun v u h => by obtain ⟨rfl, rfl⟩ := h; exact rfl) ?_
  show Ev _ _ _ 0 0 [(0, .ref 17)] [] _
  refine ev_iconst (nI 0) dX0_countCalled_0 rfl ?_
  refine ev_istore_n 1 dX0_countCalled_1 rfl (Nat.le_of_ble_eq_true rfl) rfl ?_
  refine ev_iconst (nI 0) dX0_countCalled_2 rfl ?_
  refine ev_istore_n 2 dX0_countCalled_3 rfl (Nat.le_of_ble_eq_true rfl) rfl ?_
  suffices H : ∀ fu j, j + fu = 8 → Ev mX0_countCalled (d1 (some (.int (allS τ 8))) (nw p sl pl ks rr τ g)) nx 0 4 [(2, .int (nI (j))), (1, .int (allS τ (j))), (0, .ref 17)] [] ((nw p sl pl ks rr τ g)) from ev_sub [0, 1, 2] rfl (H 8 0 (Nat.zero_add _))
  intro fu
  induction fu with
  | zero =>
    intro j hj
    obtain rfl : 8 = j := by omega
    refine ev_iload_n 2 dX0_countCalled_4 rfl rfl ?_
    refine ev_bipush (nI 8) dX0_countCalled_5 rfl ?_
    refine ev_icmp_ge 33 dX0_countCalled_7 (by decide) (fun h7 => ?_) (fun h7 => absurd (nI_le (Nat.le_refl 8) (by omega)) h7)
    refine ev_iload_n 1 dX0_countCalled_33 rfl rfl ?_
    exact ev_ireturn dX0_countCalled_34 (Nat.le_of_ble_eq_true rfl) ⟨rfl, rfl⟩
  | succ fu ih =>
    intro j hj
    have hj6 : j < 8 := by omega
    refine ev_iload_n 2 dX0_countCalled_4 rfl rfl ?_
    refine ev_bipush (nI 8) dX0_countCalled_5 rfl ?_
    refine ev_icmp_ge 33 dX0_countCalled_7 (by decide) (fun h7 => absurd h7 (nI_ge hj6 (by omega))) (fun h7 => ?_)
    refine ev_iload_n 1 dX0_countCalled_10 rfl rfl ?_
    refine ev_aload_n 0 dX0_countCalled_11 rfl rfl ?_
    refine ev_getfield 6 dX0_countCalled_12 foX0_30 rfl rfl ?_
    refine ev_iload_n 2 dX0_countCalled_15 rfl rfl ?_
    refine ev_ild (j) dX0_countCalled_16 rfl (by simp only [nI_m, nI_add, ix, oI]) (by omega) rfl ?_
    suffices J17 : Ev mX0_countCalled (d1 (some (.int (allS τ 8))) (nw p sl pl ks rr τ g)) nx 0 25 [(2, .int (nI j)), (1, .int (allS τ j)), (0, .ref 17)] [.int (bI (isK τ j)), .int (allS τ j)] (nw p sl pl ks rr τ g) by
      refine ev_if_le 24 dX0_countCalled_17 (by decide) (fun h17 => ?_) (fun h17 => ?_)
      · refine ev_iconst (nI 0) dX0_countCalled_24 rfl ?_
        exact ev_sub [0, 1, 2] rfl (ev_top _ (by first | (rw [show isK τ j = false from decide_eq_false (Int32.not_lt.mpr h17)]; rfl) | (rw [show isK τ j = true from decide_eq_true (Int32.not_le.mp h17)]; rfl)) J17)
      · refine ev_iconst (nI 1) dX0_countCalled_20 rfl ?_
        refine ev_goto 25 dX0_countCalled_21 (by decide) ?_
        exact ev_sub [0, 1, 2] rfl (ev_top _ (by first | (rw [show isK τ j = false from decide_eq_false (Int32.not_lt.mpr h17)]; rfl) | (rw [show isK τ j = true from decide_eq_true (Int32.not_le.mp h17)]; rfl)) J17)
    refine ev_iadd dX0_countCalled_25 ?_
    refine ev_istore_n 1 dX0_countCalled_26 rfl (Nat.le_of_ble_eq_true rfl) rfl ?_
    refine ev_iinc (nI (j + 1)) dX0_countCalled_27 rfl (nI_1 j) (Nat.le_of_ble_eq_true rfl) rfl ?_
    refine ev_goto 4 dX0_countCalled_30 (by decide) ?_
    exact ev_sub [0, 1, 2] rfl (ih (j + 1) (by omega))
theorem stC_f {σ : Nat → Int32} {c : Nat} {q l : Int32} (h : stC σ c q l = false) : covI σ c q l < σ (ix c 7) := Int32.not_le.mp (of_decide_eq_false h)
theorem stC_t {σ : Nat → Int32} {c : Nat} {q l : Int32} (h : stC σ c q l = true) : ¬ covI σ c q l < σ (ix c 7) := Int32.not_lt.mpr (of_decide_eq_true h)
set_option maxHeartbeats 1000000 in
theorem c0_countUncovered (p : Nat → va_E) (sl pl ks rr τ : Nat → Int32) (g : PW) (q : Int32) : Ct mX0_countUncoveredAfterFall [.ref 17, .int q] (nw p sl pl ks rr τ g) (d1 (some (.int (ifFS τ q 8))) (nw p sl pl ks rr τ g)) nx := by
  refine ct_of 1 kX0_countUncoveredAfterFall.1 rfl (Nat.le_of_ble_eq_true rfl) (fun v u h => by obtain ⟨rfl, rfl⟩ := h; exact rfl) ?_
  show Ev _ _ _ 0 0 [(0, .ref 17), (1, .int q)] [] _
  refine ev_iconst (nI 0) dX0_countUncoveredAfterFall_0 rfl ?_
  refine ev_istore_n 2 dX0_countUncoveredAfterFall_1 rfl (Nat.le_of_ble_eq_true rfl) rfl ?_
  refine ev_iconst (nI 0) dX0_countUncoveredAfterFall_2 rfl ?_
  refine ev_istore_n 3 dX0_countUncoveredAfterFall_3 rfl (Nat.le_of_ble_eq_true rfl) rfl ?_
  suffices H : ∀ fu j, j + fu = 8 → Ev mX0_countUncoveredAfterFall (d1 (some (.int (ifFS τ q 8))) (nw p sl pl ks rr τ g)) nx 0 4 [(3, .int (nI (j))), (2, .int (ifFS τ q (j))), (0, .ref 17), (1, .int q)] [] ((nw p sl pl ks rr τ g)) from ev_sub [0, 1, 2, 3] rfl (H 8 0 (Nat.zero_add _))
  intro fu
  induction fu with
  | zero =>
    intro j hj
    obtain rfl : 8 = j := by omega
    refine ev_iload_n 3 dX0_countUncoveredAfterFall_4 rfl rfl ?_
    refine ev_bipush (nI 8) dX0_countUncoveredAfterFall_5 rfl ?_
    refine ev_icmp_ge 34 dX0_countUncoveredAfterFall_7 (by decide) (fun h7 => ?_) (fun h7 => absurd (nI_le (Nat.le_refl 8) (by omega)) h7)
    refine ev_iload_n 2 dX0_countUncoveredAfterFall_34 rfl rfl ?_
    exact ev_ireturn dX0_countUncoveredAfterFall_35 (Nat.le_of_ble_eq_true rfl) ⟨rfl, rfl⟩
  | succ fu ih =>
    intro j hj
    have hj6 : j < 8 := by omega
    refine ev_iload_n 3 dX0_countUncoveredAfterFall_4 rfl rfl ?_
    refine ev_bipush (nI 8) dX0_countUncoveredAfterFall_5 rfl ?_
    refine ev_icmp_ge 34 dX0_countUncoveredAfterFall_7 (by decide) (fun h7 => absurd h7 (nI_ge hj6 (by omega))) (fun h7 => ?_)
    refine ev_iload_n 2 dX0_countUncoveredAfterFall_10 rfl rfl ?_
    refine ev_aload_n 0 dX0_countUncoveredAfterFall_11 rfl rfl ?_
    refine ev_iload_n 3 dX0_countUncoveredAfterFall_12 rfl rfl ?_
    refine ev_iload_n 1 dX0_countUncoveredAfterFall_13 rfl rfl ?_
    refine ev_iconst (nI 1) dX0_countUncoveredAfterFall_14 rfl ?_
    refine ev_cV3 (c0_staysCovered _ _ _ _ _ _ _ (by omega) _ _) kX0_staysCovered rfl g373 rfl rfl rfl rfl dX0_countUncoveredAfterFall_15 ?_
    suffices J18 : Ev mX0_countUncoveredAfterFall (d1 (some (.int (ifFS τ q 8))) (nw p sl pl ks rr τ g)) nx 0 26 [(3, .int (nI j)), (2, .int (ifFS τ q j)), (0, .ref 17), (1, .int q)] [.int (bI (decide (covI τ j q (nI 1) < τ (ix j 7)))), .int (ifFS τ q j)] (nw p sl pl ks rr τ g) by
      refine ev_if_eq 25 dX0_countUncoveredAfterFall_18 (by decide) (fun h18 => ?_) (fun h18 => ?_)
      · refine ev_iconst (nI 1) dX0_countUncoveredAfterFall_25 rfl ?_
        exact ev_sub [0, 1, 2, 3] rfl (ev_top _ (by first | (rw [decide_eq_true (stC_f (bI_0.mp h18))]; rfl) | (rw [decide_eq_false (stC_t (bI_1.mp h18))]; rfl)) J18)
      · refine ev_iconst (nI 0) dX0_countUncoveredAfterFall_21 rfl ?_
        refine ev_goto 26 dX0_countUncoveredAfterFall_22 (by decide) ?_
        exact ev_sub [0, 1, 2, 3] rfl (ev_top _ (by first | (rw [decide_eq_true (stC_f (bI_0.mp h18))]; rfl) | (rw [decide_eq_false (stC_t (bI_1.mp h18))]; rfl)) J18)
    refine ev_iadd dX0_countUncoveredAfterFall_26 ?_
    refine ev_istore_n 2 dX0_countUncoveredAfterFall_27 rfl (Nat.le_of_ble_eq_true rfl) rfl ?_
    refine ev_iinc (nI (j + 1)) dX0_countUncoveredAfterFall_28 rfl (nI_1 j) (Nat.le_of_ble_eq_true rfl) rfl ?_
    refine ev_goto 4 dX0_countUncoveredAfterFall_31 (by decide) ?_
    exact ev_sub [0, 1, 2, 3] rfl (ih (j + 1) (by omega))
theorem pos_of {x : Int32} (h : 0 ≤ x) (h2 : ¬ x = 0) : 0 < x := by
  rcases Int32.lt_or_eq_of_le h with q | q
  · exact q
  · exact absurd q.symm h2
set_option maxHeartbeats 1000000 in
theorem c0_look (p : Nat → va_E) (sl pl ks rr τ : Nat → Int32) (g : PW) (hK : HK τ) : Ct mX0_lookAtClients [.ref 17] (nw p sl pl ks rr τ g) (d1 (some (.int (lkF τ 8))) (nw p sl pl ks rr (lookN τ 8) g)) nx := by
  refine ct_of 0 kX0_lookAtClients.1 rfl (Nat.le_of_ble_eq_true rfl) (fun v u h => by obtain ⟨rfl, rfl⟩ := h; exact rfl) ?_
  show Ev _ _ _ 0 0 [(0, .ref 17)] [] _
  refine ev_iconst (nI 0) dX0_lookAtClients_0 rfl ?_
  refine ev_istore_n 1 dX0_lookAtClients_1 rfl (Nat.le_of_ble_eq_true rfl) rfl ?_
  refine ev_iconst (nI 0) dX0_lookAtClients_2 rfl ?_
  refine ev_istore_n 2 dX0_lookAtClients_3 rfl (Nat.le_of_ble_eq_true rfl) rfl ?_
  suffices H : ∀ fu j, j + fu = 8 → Ev mX0_lookAtClients (d1 (some (.int (lkF τ 8))) (nw p sl pl ks rr (lookN τ 8) g)) nx 0 4 [(2, .int (nI (j))), (1, .int (lkF τ (j))), (0, .ref 17)] [] (nw p sl pl ks rr (lkC τ (j)) g) from by
    have I := H 8 0 (Nat.zero_add _)
    rw [lk_0, lkF_0] at I
    exact ev_sub [0, 1, 2] rfl I
  intro fu
  induction fu with
  | zero =>
    intro j hj
    obtain rfl : 8 = j := by omega
    refine ev_iload_n 2 dX0_lookAtClients_4 rfl rfl ?_
    refine ev_bipush (nI 8) dX0_lookAtClients_5 rfl ?_
    refine ev_icmp_ge 62 dX0_lookAtClients_7 (by decide) (fun h7 => ?_) (fun h7 => absurd (nI_le (Nat.le_refl 8) (by omega)) h7)
    refine ev_aload_n 0 dX0_lookAtClients_62 rfl rfl ?_
    refine ev_dup dX0_lookAtClients_63 rfl ?_
    refine ev_getfield 17 dX0_lookAtClients_64 foX0_77 rfl rfl ?_
    refine ev_iload_n 1 dX0_lookAtClients_67 rfl rfl ?_
    refine ev_iadd dX0_lookAtClients_68 ?_
    refine ev_putfield 17 dX0_lookAtClients_69 fpX0_77 rfl (Nat.le_of_ble_eq_true rfl) (fun _ => rfl) (fun _ => rfl) (nw_f107 _ _ _ _ _ _ _ _) ?_
    refine ev_w (w' := nw p sl pl ks rr (lookN τ 8) g) (by rw [lk_8]) ?_
    refine ev_iload_n 1 dX0_lookAtClients_72 rfl rfl ?_
    exact ev_ireturn dX0_lookAtClients_73 (Nat.le_of_ble_eq_true rfl) ⟨rfl, rfl⟩
  | succ fu ih =>
    intro j hj
    have hj6 : j < 8 := by omega
    refine ev_iload_n 2 dX0_lookAtClients_4 rfl rfl ?_
    refine ev_bipush (nI 8) dX0_lookAtClients_5 rfl ?_
    refine ev_icmp_ge 62 dX0_lookAtClients_7 (by decide) (fun h7 => absurd h7 (nI_ge hj6 (by omega))) (fun h7 => ?_)
    refine ev_aload_n 0 dX0_lookAtClients_10 rfl rfl ?_
    refine ev_getfield 5 dX0_lookAtClients_11 foX0_27 rfl rfl ?_
    refine ev_iload_n 2 dX0_lookAtClients_14 rfl rfl ?_
    refine ev_ild (j) dX0_lookAtClients_15 rfl (by simp only [nI_m, nI_add, ix, oI]) (by omega) rfl ?_
    refine ev_aload_n 0 dX0_lookAtClients_16 rfl rfl ?_
    refine ev_iload_n 2 dX0_lookAtClients_17 rfl rfl ?_
    refine ev_cV1 (c0_cover _ _ _ _ _ _ _ (by omega)) kX0_cover rfl g335 rfl rfl rfl rfl dX0_lookAtClients_18 ?_
    refine ev_icmp_gt 34 dX0_lookAtClients_21 (by decide) (fun h21 => ?_) (fun h21 => ?_)
    · have hC : isC (lookN τ j) j = false := by
        have h9 : covI (lkC τ j) j (nI 0) (nI 1) < lkC τ j (ix j 7) := h21
        rw [lkC_cov hj6, lkC_at (by simp only [ix]; omega)] at h9
        exact decide_eq_false (Int32.not_le.mpr h9)
      refine ev_aload_n 0 dX0_lookAtClients_34 rfl rfl ?_
      refine ev_getfield 6 dX0_lookAtClients_35 foX0_30 rfl rfl ?_
      refine ev_iload_n 2 dX0_lookAtClients_38 rfl rfl ?_
      refine ev_ild (j) dX0_lookAtClients_39 rfl (by simp only [nI_m, nI_add, ix, oI]) (by omega) rfl ?_
      have e40 : lkC τ j (ix j 8) = τ (ix j 8) := by rw [lkC_at (by simp only [ix]; omega), lk_call hj6]
      have hK9 : isK (lookN τ j) j = isK τ j := isK_congr (lk_call hj6)
      refine ev_if_ne 56 dX0_lookAtClients_40 (by decide) (fun h40 => ?_) (fun h40 => ?_)
      · have hk : isK (lookN τ j) j = true := by
          rw [hK9]
          exact decide_eq_true (pos_of (hK j hj6) (by rw [← e40]; exact h40))
        refine ev_w (w' := nw p sl pl ks rr (lkC τ (j + 1)) g) (by rw [(lk_old hj6 hC hk).1]) ?_
        refine ev_iinc (nI (j + 1)) dX0_lookAtClients_56 rfl (nI_1 j) (Nat.le_of_ble_eq_true rfl) rfl ?_
        refine ev_goto 4 dX0_lookAtClients_59 (by decide) ?_
        have I := ih (j + 1) (by omega)
        rw [← (lk_old hj6 hC hk).2] at I
        exact ev_sub [0, 1, 2] rfl I
      · have hk : isK (lookN τ j) j = false := by
          rw [hK9]
          exact decide_eq_false (by rw [← e40, show lkC τ j (ix j 8) = 0 from h40]; decide)
        refine ev_aload_n 0 dX0_lookAtClients_43 rfl rfl ?_
        refine ev_getfield 6 dX0_lookAtClients_44 foX0_30 rfl rfl ?_
        refine ev_iload_n 2 dX0_lookAtClients_47 rfl rfl ?_
        refine ev_aload_n 0 dX0_lookAtClients_48 rfl rfl ?_
        refine ev_getfield 9 dX0_lookAtClients_49 foX0_41 rfl rfl ?_
        refine ev_top (τ 99) (by rw [lkC_at (by omega), lk_grace (by omega)]) ?_
        refine ev_ist (j) dX0_lookAtClients_52 rfl rfl (by omega) rfl (nw_call _ _ _ _ _ _ _ (by omega) _) ?_
        refine ev_iinc (lkF τ j + nI 1) dX0_lookAtClients_53 rfl (rfl) (Nat.le_of_ble_eq_true rfl) rfl ?_
        refine ev_w (w' := nw p sl pl ks rr (lkC τ (j + 1)) g) (by rw [(lk_new hj6 hC hk).1]) ?_
        refine ev_iinc (nI (j + 1)) dX0_lookAtClients_56 rfl (nI_1 j) (Nat.le_of_ble_eq_true rfl) rfl ?_
        refine ev_goto 4 dX0_lookAtClients_59 (by decide) ?_
        have I := ih (j + 1) (by omega)
        rw [← (lk_new hj6 hC hk).2] at I
        exact ev_sub [0, 1, 2] rfl I
    · have hC : isC (lookN τ j) j = true := by
        have h9 : ¬ covI (lkC τ j) j (nI 0) (nI 1) < lkC τ j (ix j 7) := h21
        rw [lkC_cov hj6, lkC_at (by simp only [ix]; omega)] at h9
        exact decide_eq_true (Int32.not_lt.mp h9)
      refine ev_aload_n 0 dX0_lookAtClients_24 rfl rfl ?_
      refine ev_getfield 6 dX0_lookAtClients_25 foX0_30 rfl rfl ?_
      refine ev_iload_n 2 dX0_lookAtClients_28 rfl rfl ?_
      refine ev_iconst (nI 0) dX0_lookAtClients_29 rfl ?_
      refine ev_ist (j) dX0_lookAtClients_30 rfl rfl (by omega) rfl (nw_call _ _ _ _ _ _ _ (by omega) _) ?_
      refine ev_goto 56 dX0_lookAtClients_31 (by decide) ?_
      refine ev_w (w' := nw p sl pl ks rr (lkC τ (j + 1)) g) (by rw [(lk_cov hj6 hC).1]) ?_
      refine ev_iinc (nI (j + 1)) dX0_lookAtClients_56 rfl (nI_1 j) (Nat.le_of_ble_eq_true rfl) rfl ?_
      refine ev_goto 4 dX0_lookAtClients_59 (by decide) ?_
      have I := ih (j + 1) (by omega)
      rw [← (lk_cov hj6 hC).2] at I
      exact ev_sub [0, 1, 2] rfl I
