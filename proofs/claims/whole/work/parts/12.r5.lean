/-! ===== the reference: sales, payments ===== -/
def byS (σ : Nat → Int32) (k o : Nat) : Int32 := if σ 101 = 0 then σ k - σ o else if σ 101 = nI 1 then σ (6 + o) - σ (6 + k) else σ (6 + k) - σ (6 + o)
def ahead (σ : Nat → Int32) (k o : Nat) : Bool := decide (0 < byS σ k o)
def selS (σ : Nat → Int32) (c : Nat) : Nat → Option Nat
  | 0 => none
  | n + 1 => match selS σ c n with
    | none => if 0 < σ (ix c n) then some n else none
    | some o => if 0 < σ (ix c n) ∧ ahead σ n o = true then some n else some o
theorem selS_lt {σ : Nat → Int32} {c o : Nat} : ∀ {n : Nat}, selS σ c n = some o → o < n
  | 0, h => by simp [selS] at h
  | n + 1, h => by
    simp only [selS] at h
    cases hs : selS σ c n with
    | none =>
      rw [hs] at h
      simp only at h
      split at h
      · cases h; omega
      · cases h
    | some p =>
      rw [hs] at h
      simp only at h
      split at h
      · cases h; omega
      · cases h
        have := selS_lt hs
        omega
theorem selS_pos {σ : Nat → Int32} {c o : Nat} : ∀ {n : Nat}, selS σ c n = some o → 0 < σ (ix c o)
  | 0, h => by simp [selS] at h
  | n + 1, h => by
    simp only [selS] at h
    cases hs : selS σ c n with
    | none =>
      rw [hs] at h
      simp only at h
      split at h
      · next hp => cases h; exact hp
      · cases h
    | some p =>
      rw [hs] at h
      simp only at h
      split at h
      · next hp => cases h; exact hp.1
      · cases h
        exact selS_pos hs
theorem selS_none {σ : Nat → Int32} {c : Nat} : ∀ {n : Nat}, selS σ c n = none → ∀ k, k < n → ¬ 0 < σ (ix c k)
  | 0, _, k, hk => absurd hk (Nat.not_lt_zero k)
  | n + 1, h, k, hk => by
    simp only [selS] at h
    cases hs : selS σ c n with
    | none =>
      rw [hs] at h
      simp only at h
      split at h
      · cases h
      · next hp =>
        rcases Nat.lt_or_ge k n with h1 | h1
        · exact selS_none hs k h1
        · rw [show k = n by omega]; exact hp
    | some p =>
      rw [hs] at h
      simp only at h
      split at h <;> cases h
theorem oI_lt {x : Option Nat} {n : Nat} (hn : n < 2147483648) (h : ∀ o, x = some o → o < n) : oI x = -1 ↔ x = none := by
  cases x with
  | none => simp [oI]
  | some o =>
    have ho := h o rfl
    simp only [oI, reduceCtorEq, iff_false]
    intro e
    have h1 := congrArg Int32.toInt e
    rw [nI_toInt (by omega)] at h1
    have h2 : (-1 : Int32).toInt = -1 := by decide
    omega
theorem sel_not {σ : Nat → Int32} {c n : Nat} (h : ¬ 0 < σ (ix c n)) : selS σ c (n + 1) = selS σ c n := by
  simp only [selS]
  cases selS σ c n with
  | none => simp [h]
  | some o => simp [h]
theorem sel_first {σ : Nat → Int32} {c n : Nat} (h : 0 < σ (ix c n)) (hs : selS σ c n = none) : selS σ c (n + 1) = some n := by
  simp only [selS, hs, h, if_true]
theorem sel_ahead {σ : Nat → Int32} {c n o : Nat} (h : 0 < σ (ix c n)) (hs : selS σ c n = some o) (ha : ahead σ n o = true) : selS σ c (n + 1) = some n := by
  simp only [selS, hs, h, ha, and_self, if_true]
theorem sel_behind {σ : Nat → Int32} {c n o : Nat} (hs : selS σ c n = some o) (ha : ahead σ n o = false) : selS σ c (n + 1) = some o := by
  simp only [selS, hs, ha, Bool.false_eq_true, and_false, if_false]
def paid (σ : Nat → Int32) (c : Nat) (x : Int32) : Int32 := if x < σ (ix c 7) then x else σ (ix c 7)
def pay1 (σ : Nat → Int32) (c : Nat) (t : Int32) : Nat → Int32 := upd σ (ix c 7) (σ (ix c 7) + -t)
def pay2 (σ : Nat → Int32) (c : Nat) (t x : Int32) : Nat → Int32 := upd (pay1 σ c t) (ix c 6) (pay1 σ c t (ix c 6) + (x - t))
def payS (σ : Nat → Int32) (c : Nat) (x : Int32) : Nat → Int32 := upd (pay2 σ c (paid σ c x) x) 105 (pay2 σ c (paid σ c x) x 105 + paid σ c x)
def backS (σ : Nat → Int32) (c : Nat) (x : Int32) : Nat → Int32 := upd (pay1 σ c (paid σ c x)) 105 (pay1 σ c (paid σ c x) 105 + paid σ c x)
def lendS (σ : Nat → Int32) (c : Nat) (x : Int32) : Nat → Int32 := upd (upd σ (ix c 7) (σ (ix c 7) + x)) 103 (upd σ (ix c 7) (σ (ix c 7) + x) 103 + x)
def canP (σ : Nat → Int32) (c k : Nat) (m : Int32) : Bool := decide (σ (ix c k) + m ≤ nI 99)
def lackS (σ : Nat → Int32) (c w : Nat) (m : Int32) : Nat → Int32 := upd σ (ix c w) (σ (ix c w) + -m)
def canL (σ : Nat → Int32) (c w : Nat) (m : Int32) : Bool := decide (m ≤ σ (ix c w)) && isC (lackS σ c w m) c
def canB (σ : Nat → Int32) (c : Nat) (x : Int32) : Bool := decide (σ (ix c 9) = 0) && decide (σ (ix c 7) + x ≤ covI σ c (nI 0) (nI 1))
theorem upd_back (σ : Nat → Int32) (i : Nat) (m : Int32) : upd (upd σ i (σ i + -m)) i (upd σ i (σ i + -m) i + m) = σ := by
  funext k
  simp only [upd]
  by_cases h : k = i
  · subst h; simp [Int32.add_assoc, Int32.add_left_neg]
  · simp [h]
theorem canB_1 {σ : Nat → Int32} {c : Nat} {x : Int32} (h : ¬ σ (ix c 9) = 0) : canB σ c x = false := by simp [canB, h]
theorem canB_2 {σ : Nat → Int32} {c : Nat} {x : Int32} (h : covI σ c (nI 0) (nI 1) < σ (ix c 7) + x) : canB σ c x = false := by simp [canB, h]
theorem canB_3 {σ : Nat → Int32} {c : Nat} {x : Int32} (h : σ (ix c 9) = 0) (h2 : ¬ covI σ c (nI 0) (nI 1) < σ (ix c 7) + x) : canB σ c x = true := by simp [canB, h, Int32.not_lt.mp h2]

set_option maxHeartbeats 1000000 in
theorem c4_isAhead (σ z : Nat → Int32) (Y : RY) (g : PW) {k q : Nat} (hk : k < 6) (hq : q < 6) : Ct mX4_isAhead [.ref 0, .int (nI k), .int (nI q)] (rw9 σ z Y g) (d1 (some (.int (bI (ahead σ k q)))) (rw9 σ z Y g)) nx := by
  refine ct_of 2 kX4_isAhead.1 rfl (Nat.le_of_ble_eq_true rfl) (fun v u h => by obtain ⟨rfl, rfl⟩ := h; exact bI_nar _) ?_
  show Ev _ _ _ 0 0 [(0, .ref 0), (1, .int (nI k)), (2, .int (nI q))] [] _
  refine ev_aload_n 0 dX4_isAhead_0 rfl rfl ?_
  refine ev_getfield 0 dX4_isAhead_1 foX4_7 rfl rfl ?_
  refine ev_bipush (nI 101) dX4_isAhead_4 rfl ?_
  refine ev_ild (101) dX4_isAhead_6 rfl (by simp only [nI_m, nI_add, ix, oI]) (by omega) rfl ?_
  suffices J7 : Ev mX4_isAhead (d1 (some (.int (bI (ahead σ k q)))) (rw9 σ z Y g)) nx 0 78 [(0, .ref 0), (1, .int (nI k)), (2, .int (nI q))] [.int (byS σ k q)] (rw9 σ z Y g) by
    refine ev_if_ne 26 dX4_isAhead_7 (by decide) (fun h7 => ?_) (fun h7 => ?_)
    · refine ev_aload_n 0 dX4_isAhead_26 rfl rfl ?_
      refine ev_getfield 0 dX4_isAhead_27 foX4_7 rfl rfl ?_
      refine ev_bipush (nI 101) dX4_isAhead_30 rfl ?_
      refine ev_ild (101) dX4_isAhead_32 rfl (by simp only [nI_m, nI_add, ix, oI]) (by omega) rfl ?_
      refine ev_iconst (nI 1) dX4_isAhead_33 rfl ?_
      refine ev_icmp_ne 59 dX4_isAhead_34 (by decide) (fun h34 => ?_) (fun h34 => ?_)
      · refine ev_aload_n 0 dX4_isAhead_59 rfl rfl ?_
        refine ev_getfield 0 dX4_isAhead_60 foX4_7 rfl rfl ?_
        refine ev_bipush (nI 6) dX4_isAhead_63 rfl ?_
        refine ev_iload_n 1 dX4_isAhead_65 rfl rfl ?_
        refine ev_iadd dX4_isAhead_66 ?_
        refine ev_ild (6 + k) dX4_isAhead_67 rfl (by simp only [nI_m, nI_add, ix, oI]) (by omega) rfl ?_
        refine ev_aload_n 0 dX4_isAhead_68 rfl rfl ?_
        refine ev_getfield 0 dX4_isAhead_69 foX4_7 rfl rfl ?_
        refine ev_bipush (nI 6) dX4_isAhead_72 rfl ?_
        refine ev_iload_n 2 dX4_isAhead_74 rfl rfl ?_
        refine ev_iadd dX4_isAhead_75 ?_
        refine ev_ild (6 + q) dX4_isAhead_76 rfl (by simp only [nI_m, nI_add, ix, oI]) (by omega) rfl ?_
        refine ev_isub dX4_isAhead_77 ?_
        exact ev_sub [0, 1, 2] rfl (ev_top _ (by first | exact (if_pos h7).symm | exact ((if_neg h7).trans (if_pos h34)).symm | exact ((if_neg h7).trans (if_neg h34)).symm) J7)
      · refine ev_aload_n 0 dX4_isAhead_37 rfl rfl ?_
        refine ev_getfield 0 dX4_isAhead_38 foX4_7 rfl rfl ?_
        refine ev_bipush (nI 6) dX4_isAhead_41 rfl ?_
        refine ev_iload_n 2 dX4_isAhead_43 rfl rfl ?_
        refine ev_iadd dX4_isAhead_44 ?_
        refine ev_ild (6 + q) dX4_isAhead_45 rfl (by simp only [nI_m, nI_add, ix, oI]) (by omega) rfl ?_
        refine ev_aload_n 0 dX4_isAhead_46 rfl rfl ?_
        refine ev_getfield 0 dX4_isAhead_47 foX4_7 rfl rfl ?_
        refine ev_bipush (nI 6) dX4_isAhead_50 rfl ?_
        refine ev_iload_n 1 dX4_isAhead_52 rfl rfl ?_
        refine ev_iadd dX4_isAhead_53 ?_
        refine ev_ild (6 + k) dX4_isAhead_54 rfl (by simp only [nI_m, nI_add, ix, oI]) (by omega) rfl ?_
        refine ev_isub dX4_isAhead_55 ?_
        refine ev_goto 78 dX4_isAhead_56 (by decide) ?_
        exact ev_sub [0, 1, 2] rfl (ev_top _ (by first | exact (if_pos h7).symm | exact ((if_neg h7).trans (if_pos h34)).symm | exact ((if_neg h7).trans (if_neg h34)).symm) J7)
    · refine ev_aload_n 0 dX4_isAhead_10 rfl rfl ?_
      refine ev_getfield 0 dX4_isAhead_11 foX4_7 rfl rfl ?_
      refine ev_iload_n 1 dX4_isAhead_14 rfl rfl ?_
      refine ev_ild (k) dX4_isAhead_15 rfl (by simp only [nI_m, nI_add, ix, oI]) (by omega) rfl ?_
      refine ev_aload_n 0 dX4_isAhead_16 rfl rfl ?_
      refine ev_getfield 0 dX4_isAhead_17 foX4_7 rfl rfl ?_
      refine ev_iload_n 2 dX4_isAhead_20 rfl rfl ?_
      refine ev_ild (q) dX4_isAhead_21 rfl (by simp only [nI_m, nI_add, ix, oI]) (by omega) rfl ?_
      refine ev_isub dX4_isAhead_22 ?_
      refine ev_goto 78 dX4_isAhead_23 (by decide) ?_
      exact ev_sub [0, 1, 2] rfl (ev_top _ (by first | exact (if_pos h7).symm | exact ((if_neg h7).trans (if_pos h34)).symm | exact ((if_neg h7).trans (if_neg h34)).symm) J7)
  refine ev_istore_n 3 dX4_isAhead_78 rfl (Nat.le_of_ble_eq_true rfl) rfl ?_
  refine ev_iload_n 3 dX4_isAhead_79 rfl rfl ?_
  refine ev_if_le 87 dX4_isAhead_80 (by decide) (fun h80 => ?_) (fun h80 => ?_)
  · refine ev_iconst (nI 0) dX4_isAhead_87 rfl ?_
    exact ev_ireturn dX4_isAhead_88 (Nat.le_of_ble_eq_true rfl) ⟨by first | (rw [show ahead σ k q = false from decide_eq_false (Int32.not_lt.mpr h80)]; rfl) | (rw [show ahead σ k q = true from decide_eq_true (Int32.not_le.mp h80)]; rfl), rfl⟩
  · refine ev_iconst (nI 1) dX4_isAhead_83 rfl ?_
    refine ev_goto 88 dX4_isAhead_84 (by decide) ?_
    exact ev_ireturn dX4_isAhead_88 (Nat.le_of_ble_eq_true rfl) ⟨by first | (rw [show ahead σ k q = false from decide_eq_false (Int32.not_lt.mpr h80)]; rfl) | (rw [show ahead σ k q = true from decide_eq_true (Int32.not_le.mp h80)]; rfl), rfl⟩
set_option maxHeartbeats 1000000 in
theorem c4_selling (σ z : Nat → Int32) (Y : RY) (g : PW) {c : Nat} (hc : c < 8) : Ct mX4_selling [.ref 0, .int (nI c)] (rw9 σ z Y g) (d1 (some (.int (oI (selS σ c 6)))) (rw9 σ z Y g)) nx := by
  refine ct_of 1 kX4_selling.1 rfl (Nat.le_of_ble_eq_true rfl) (fun v u h => by obtain ⟨rfl, rfl⟩ := h; exact rfl) ?_
  show Ev _ _ _ 0 0 [(0, .ref 0), (1, .int (nI c))] [] _
  refine ev_iconst (-1) dX4_selling_0 rfl ?_
  refine ev_istore_n 2 dX4_selling_1 rfl (Nat.le_of_ble_eq_true rfl) rfl ?_
  refine ev_iconst (nI 0) dX4_selling_2 rfl ?_
  refine ev_istore_n 3 dX4_selling_3 rfl (Nat.le_of_ble_eq_true rfl) rfl ?_
  suffices H : ∀ fu j, j + fu = 6 → Ev mX4_selling (d1 (some (.int (oI (selS σ c 6)))) (rw9 σ z Y g)) nx 0 4 [(3, .int (nI (j))), (2, .int (oI (selS σ c (j)))), (0, .ref 0), (1, .int (nI c))] [] ((rw9 σ z Y g)) from ev_sub [0, 1, 2, 3] rfl (H 6 0 (Nat.zero_add _))
  intro fu
  induction fu with
  | zero =>
    intro j hj
    obtain rfl : 6 = j := by omega
    refine ev_iload_n 3 dX4_selling_4 rfl rfl ?_
    refine ev_bipush (nI 6) dX4_selling_5 rfl ?_
    refine ev_icmp_ge 45 dX4_selling_7 (by decide) (fun h7 => ?_) (fun h7 => absurd (nI_le (Nat.le_refl 6) (by omega)) h7)
    refine ev_iload_n 2 dX4_selling_45 rfl rfl ?_
    exact ev_ireturn dX4_selling_46 (Nat.le_of_ble_eq_true rfl) ⟨rfl, rfl⟩
  | succ fu ih =>
    intro j hj
    have hj6 : j < 6 := by omega
    refine ev_iload_n 3 dX4_selling_4 rfl rfl ?_
    refine ev_bipush (nI 6) dX4_selling_5 rfl ?_
    refine ev_icmp_ge 45 dX4_selling_7 (by decide) (fun h7 => absurd h7 (nI_ge hj6 (by omega))) (fun h7 => ?_)
    refine ev_aload_n 0 dX4_selling_10 rfl rfl ?_
    refine ev_iload_n 1 dX4_selling_11 rfl rfl ?_
    refine ev_iload_n 3 dX4_selling_12 rfl rfl ?_
    refine ev_cV2 (c4_of _ _ _ _ (by omega) (by omega)) kX4_of rfl g1188 rfl rfl rfl rfl dX4_selling_13 ?_
    suffices J16 : Ev mX4_selling (d1 (some (.int (oI (selS σ c 6)))) (rw9 σ z Y g)) nx 0 38 [(3, .int (nI j)), (2, .int (oI (selS σ c j))), (0, .ref 0), (1, .int (nI c))] [.int (oI (selS σ c (j + 1)))] (rw9 σ z Y g) by
      refine ev_if_le 37 dX4_selling_16 (by decide) (fun h16 => ?_) (fun h16 => ?_)
      · refine ev_iload_n 2 dX4_selling_37 rfl rfl ?_
        exact ev_sub [0, 1, 2, 3] rfl (ev_top _ (by first | rw [sel_not (Int32.not_lt.mpr h16)] | rw [sel_first (Int32.not_le.mp h16) ((oI_lt (by omega) (fun _ h => selS_lt h)).mp h21)]; rfl | rw [sel_behind hs (bI_0.mp h30), hs] | rw [sel_ahead (Int32.not_le.mp h16) hs (bI_1.mp h30)]; rfl) J16)
      · refine ev_iload_n 2 dX4_selling_19 rfl rfl ?_
        refine ev_iconst (-1) dX4_selling_20 rfl ?_
        refine ev_icmp_eq 33 dX4_selling_21 (by decide) (fun h21 => ?_) (fun h21 => ?_)
        · refine ev_iload_n 3 dX4_selling_33 rfl rfl ?_
          refine ev_goto 38 dX4_selling_34 (by decide) ?_
          exact ev_sub [0, 1, 2, 3] rfl (ev_top _ (by first | rw [sel_not (Int32.not_lt.mpr h16)] | rw [sel_first (Int32.not_le.mp h16) ((oI_lt (by omega) (fun _ h => selS_lt h)).mp h21)]; rfl | rw [sel_behind hs (bI_0.mp h30), hs] | rw [sel_ahead (Int32.not_le.mp h16) hs (bI_1.mp h30)]; rfl) J16)
        · obtain ⟨q, hs, hq⟩ : ∃ q, selS σ c j = some q ∧ q < j := by
            cases hs : selS σ c j with
            | none => exact absurd (by rw [hs]; rfl) h21
            | some q => exact ⟨q, rfl, selS_lt hs⟩
          refine ev_aload_n 0 dX4_selling_24 rfl rfl ?_
          refine ev_iload_n 3 dX4_selling_25 rfl rfl ?_
          refine ev_iload_n 2 dX4_selling_26 rfl rfl ?_
          refine ev_top (nI q) (by rw [hs]; rfl) ?_
          refine ev_cV2 (c4_isAhead _ _ _ _ (by omega) (by omega)) kX4_isAhead rfl g1311 rfl rfl rfl rfl dX4_selling_27 ?_
          refine ev_if_eq 37 dX4_selling_30 (by decide) (fun h30 => ?_) (fun h30 => ?_)
          · refine ev_iload_n 2 dX4_selling_37 rfl rfl ?_
            exact ev_sub [0, 1, 2, 3] rfl (ev_top _ (by first | rw [sel_not (Int32.not_lt.mpr h16)] | rw [sel_first (Int32.not_le.mp h16) ((oI_lt (by omega) (fun _ h => selS_lt h)).mp h21)]; rfl | rw [sel_behind hs (bI_0.mp h30), hs] | rw [sel_ahead (Int32.not_le.mp h16) hs (bI_1.mp h30)]; rfl) J16)
          · refine ev_iload_n 3 dX4_selling_33 rfl rfl ?_
            refine ev_goto 38 dX4_selling_34 (by decide) ?_
            exact ev_sub [0, 1, 2, 3] rfl (ev_top _ (by first | rw [sel_not (Int32.not_lt.mpr h16)] | rw [sel_first (Int32.not_le.mp h16) ((oI_lt (by omega) (fun _ h => selS_lt h)).mp h21)]; rfl | rw [sel_behind hs (bI_0.mp h30), hs] | rw [sel_ahead (Int32.not_le.mp h16) hs (bI_1.mp h30)]; rfl) J16)
    refine ev_istore_n 2 dX4_selling_38 rfl (Nat.le_of_ble_eq_true rfl) rfl ?_
    refine ev_iinc (nI (j + 1)) dX4_selling_39 rfl (nI_1 j) (Nat.le_of_ble_eq_true rfl) rfl ?_
    refine ev_goto 4 dX4_selling_42 (by decide) ?_
    exact ev_sub [0, 1, 2, 3] rfl (ih (j + 1) (by omega))
set_option maxHeartbeats 1000000 in
theorem c4_pays (σ z : Nat → Int32) (Y : RY) (g : PW) {c : Nat} (hc : c < 8) (x : Int32) : Ct mX4_pays [.ref 0, .int (nI c), .int x] (rw9 σ z Y g) (d1 none (rw9 (payS σ c x) z Y g)) nx := by
  refine ct_of 2 kX4_pays.1 rfl (Nat.le_of_ble_eq_true rfl) (fun v u h => by obtain ⟨rfl, rfl⟩ := h; exact trivial) ?_
  show Ev _ _ _ 0 0 [(0, .ref 0), (1, .int (nI c)), (2, .int x)] [] _
  refine ev_iload_n 2 dX4_pays_0 rfl rfl ?_
  refine ev_aload_n 0 dX4_pays_1 rfl rfl ?_
  refine ev_iload_n 1 dX4_pays_2 rfl rfl ?_
  refine ev_bipush (nI 7) dX4_pays_3 rfl ?_
  refine ev_cV2 (c4_of _ _ _ _ (by omega) (by omega)) kX4_of rfl g1188 rfl rfl rfl rfl dX4_pays_5 ?_
  suffices J8 : Ev mX4_pays (d1 none (rw9 (payS σ c x) z Y g)) nx 0 22 [(0, .ref 0), (1, .int (nI c)), (2, .int x)] [.int (paid σ c x)] (rw9 σ z Y g) by
    refine ev_icmp_ge 15 dX4_pays_8 (by decide) (fun h8 => ?_) (fun h8 => ?_)
    · refine ev_aload_n 0 dX4_pays_15 rfl rfl ?_
      refine ev_iload_n 1 dX4_pays_16 rfl rfl ?_
      refine ev_bipush (nI 7) dX4_pays_17 rfl ?_
      refine ev_cV2 (c4_of _ _ _ _ (by omega) (by omega)) kX4_of rfl g1188 rfl rfl rfl rfl dX4_pays_19 ?_
      exact ev_sub [0, 1, 2] rfl (ev_top _ (by first | exact (if_pos (Int32.not_le.mp h8)).symm | exact (if_neg (Int32.not_lt.mpr h8)).symm) J8)
    · refine ev_iload_n 2 dX4_pays_11 rfl rfl ?_
      refine ev_goto 22 dX4_pays_12 (by decide) ?_
      exact ev_sub [0, 1, 2] rfl (ev_top _ (by first | exact (if_pos (Int32.not_le.mp h8)).symm | exact (if_neg (Int32.not_lt.mpr h8)).symm) J8)
  refine ev_istore_n 3 dX4_pays_22 rfl (Nat.le_of_ble_eq_true rfl) rfl ?_
  refine ev_aload_n 0 dX4_pays_23 rfl rfl ?_
  refine ev_iload_n 1 dX4_pays_24 rfl rfl ?_
  refine ev_bipush (nI 7) dX4_pays_25 rfl ?_
  refine ev_iload_n 3 dX4_pays_27 rfl rfl ?_
  refine ev_ineg dX4_pays_28 ?_
  refine ev_cV3v (c4_grow _ _ _ _ (by omega) (by omega) _) kX4_grow rfl g1235 rfl rfl rfl rfl dX4_pays_29 ?_
  refine ev_aload_n 0 dX4_pays_32 rfl rfl ?_
  refine ev_iload_n 1 dX4_pays_33 rfl rfl ?_
  refine ev_bipush (nI 6) dX4_pays_34 rfl ?_
  refine ev_iload_n 2 dX4_pays_36 rfl rfl ?_
  refine ev_iload_n 3 dX4_pays_37 rfl rfl ?_
  refine ev_isub dX4_pays_38 ?_
  refine ev_cV3v (c4_grow _ _ _ _ (by omega) (by omega) _) kX4_grow rfl g1235 rfl rfl rfl rfl dX4_pays_39 ?_
  refine ev_aload_n 0 dX4_pays_42 rfl rfl ?_
  refine ev_getfield 0 dX4_pays_43 foX4_7 rfl rfl ?_
  refine ev_bipush (nI 105) dX4_pays_46 rfl ?_
  refine ev_dup2 dX4_pays_48 rfl rfl ?_
  refine ev_ild (105) dX4_pays_49 rfl (by simp only [nI_m, nI_add, ix, oI]) (by omega) rfl ?_
  refine ev_iload_n 3 dX4_pays_50 rfl rfl ?_
  refine ev_iadd dX4_pays_51 ?_
  refine ev_ist (105) dX4_pays_52 rfl (by simp only [nI_m, nI_add, ix, oI]) (by omega) rfl (rw_s _ _ _ _ _) ?_
  exact ev_return dX4_pays_53 (Nat.le_of_ble_eq_true rfl) ⟨rfl, rfl⟩
set_option maxHeartbeats 1000000 in
theorem c4_paysBack (σ z : Nat → Int32) (Y : RY) (g : PW) {c : Nat} (hc : c < 8) (x : Int32) : Ct mX4_paysBack [.ref 0, .int (nI c), .int x] (rw9 σ z Y g) (d1 (some (.int (paid σ c x))) (rw9 (backS σ c x) z Y g)) nx := by
  refine ct_of 2 kX4_paysBack.1 rfl (Nat.le_of_ble_eq_true rfl) (fun v u h => by obtain ⟨rfl, rfl⟩ := h; exact rfl) ?_
  show Ev _ _ _ 0 0 [(0, .ref 0), (1, .int (nI c)), (2, .int x)] [] _
  refine ev_iload_n 2 dX4_paysBack_0 rfl rfl ?_
  refine ev_aload_n 0 dX4_paysBack_1 rfl rfl ?_
  refine ev_iload_n 1 dX4_paysBack_2 rfl rfl ?_
  refine ev_bipush (nI 7) dX4_paysBack_3 rfl ?_
  refine ev_cV2 (c4_of _ _ _ _ (by omega) (by omega)) kX4_of rfl g1188 rfl rfl rfl rfl dX4_paysBack_5 ?_
  suffices J8 : Ev mX4_paysBack (d1 (some (.int (paid σ c x))) (rw9 (backS σ c x) z Y g)) nx 0 22 [(0, .ref 0), (1, .int (nI c)), (2, .int x)] [.int (paid σ c x)] (rw9 σ z Y g) by
    refine ev_icmp_ge 15 dX4_paysBack_8 (by decide) (fun h8 => ?_) (fun h8 => ?_)
    · refine ev_aload_n 0 dX4_paysBack_15 rfl rfl ?_
      refine ev_iload_n 1 dX4_paysBack_16 rfl rfl ?_
      refine ev_bipush (nI 7) dX4_paysBack_17 rfl ?_
      refine ev_cV2 (c4_of _ _ _ _ (by omega) (by omega)) kX4_of rfl g1188 rfl rfl rfl rfl dX4_paysBack_19 ?_
      exact ev_sub [0, 1, 2] rfl (ev_top _ (by first | exact (if_pos (Int32.not_le.mp h8)).symm | exact (if_neg (Int32.not_lt.mpr h8)).symm) J8)
    · refine ev_iload_n 2 dX4_paysBack_11 rfl rfl ?_
      refine ev_goto 22 dX4_paysBack_12 (by decide) ?_
      exact ev_sub [0, 1, 2] rfl (ev_top _ (by first | exact (if_pos (Int32.not_le.mp h8)).symm | exact (if_neg (Int32.not_lt.mpr h8)).symm) J8)
  refine ev_istore_n 3 dX4_paysBack_22 rfl (Nat.le_of_ble_eq_true rfl) rfl ?_
  refine ev_aload_n 0 dX4_paysBack_23 rfl rfl ?_
  refine ev_iload_n 1 dX4_paysBack_24 rfl rfl ?_
  refine ev_bipush (nI 7) dX4_paysBack_25 rfl ?_
  refine ev_iload_n 3 dX4_paysBack_27 rfl rfl ?_
  refine ev_ineg dX4_paysBack_28 ?_
  refine ev_cV3v (c4_grow _ _ _ _ (by omega) (by omega) _) kX4_grow rfl g1235 rfl rfl rfl rfl dX4_paysBack_29 ?_
  refine ev_aload_n 0 dX4_paysBack_32 rfl rfl ?_
  refine ev_getfield 0 dX4_paysBack_33 foX4_7 rfl rfl ?_
  refine ev_bipush (nI 105) dX4_paysBack_36 rfl ?_
  refine ev_dup2 dX4_paysBack_38 rfl rfl ?_
  refine ev_ild (105) dX4_paysBack_39 rfl (by simp only [nI_m, nI_add, ix, oI]) (by omega) rfl ?_
  refine ev_iload_n 3 dX4_paysBack_40 rfl rfl ?_
  refine ev_iadd dX4_paysBack_41 ?_
  refine ev_ist (105) dX4_paysBack_42 rfl (by simp only [nI_m, nI_add, ix, oI]) (by omega) rfl (rw_s _ _ _ _ _) ?_
  refine ev_iload_n 3 dX4_paysBack_43 rfl rfl ?_
  exact ev_ireturn dX4_paysBack_44 (Nat.le_of_ble_eq_true rfl) ⟨rfl, rfl⟩
set_option maxHeartbeats 1000000 in
theorem c4_lends (σ z : Nat → Int32) (Y : RY) (g : PW) {c : Nat} (hc : c < 8) (x : Int32) : Ct mX4_lends [.ref 0, .int (nI c), .int x] (rw9 σ z Y g) (d1 none (rw9 (lendS σ c x) z Y g)) nx := by
  refine ct_of 2 kX4_lends.1 rfl (Nat.le_of_ble_eq_true rfl) (fun v u h => by obtain ⟨rfl, rfl⟩ := h; exact trivial) ?_
  show Ev _ _ _ 0 0 [(0, .ref 0), (1, .int (nI c)), (2, .int x)] [] _
  refine ev_aload_n 0 dX4_lends_0 rfl rfl ?_
  refine ev_iload_n 1 dX4_lends_1 rfl rfl ?_
  refine ev_bipush (nI 7) dX4_lends_2 rfl ?_
  refine ev_iload_n 2 dX4_lends_4 rfl rfl ?_
  refine ev_cV3v (c4_grow _ _ _ _ (by omega) (by omega) _) kX4_grow rfl g1235 rfl rfl rfl rfl dX4_lends_5 ?_
  refine ev_aload_n 0 dX4_lends_8 rfl rfl ?_
  refine ev_getfield 0 dX4_lends_9 foX4_7 rfl rfl ?_
  refine ev_bipush (nI 103) dX4_lends_12 rfl ?_
  refine ev_dup2 dX4_lends_14 rfl rfl ?_
  refine ev_ild (103) dX4_lends_15 rfl (by simp only [nI_m, nI_add, ix, oI]) (by omega) rfl ?_
  refine ev_iload_n 2 dX4_lends_16 rfl rfl ?_
  refine ev_iadd dX4_lends_17 ?_
  refine ev_ist (103) dX4_lends_18 rfl (by simp only [nI_m, nI_add, ix, oI]) (by omega) rfl (rw_s _ _ _ _ _) ?_
  exact ev_return dX4_lends_19 (Nat.le_of_ble_eq_true rfl) ⟨rfl, rfl⟩
set_option maxHeartbeats 1000000 in
theorem c4_canPledge (σ z : Nat → Int32) (Y : RY) (g : PW) {c k : Nat} (hc : c < 8) (hk : k < 10) (m : Int32) : Ct mX4_canPledge [.ref 0, .int (nI c), .int (nI k), .int m] (rw9 σ z Y g) (d1 (some (.int (bI (canP σ c k m)))) (rw9 σ z Y g)) nx := by
  refine ct_of 3 kX4_canPledge.1 rfl (Nat.le_of_ble_eq_true rfl) (fun v u h => by obtain ⟨rfl, rfl⟩ := h; exact bI_nar _) ?_
  show Ev _ _ _ 0 0 [(0, .ref 0), (1, .int (nI c)), (2, .int (nI k)), (3, .int m)] [] _
  refine ev_aload_n 0 dX4_canPledge_0 rfl rfl ?_
  refine ev_iload_n 1 dX4_canPledge_1 rfl rfl ?_
  refine ev_iload_n 2 dX4_canPledge_2 rfl rfl ?_
  refine ev_cV2 (c4_of _ _ _ _ (by omega) (by omega)) kX4_of rfl g1188 rfl rfl rfl rfl dX4_canPledge_3 ?_
  refine ev_iload_n 3 dX4_canPledge_6 rfl rfl ?_
  refine ev_iadd dX4_canPledge_7 ?_
  refine ev_bipush (nI 99) dX4_canPledge_8 rfl ?_
  refine ev_icmp_gt 17 dX4_canPledge_10 (by decide) (fun h10 => ?_) (fun h10 => ?_)
  · refine ev_iconst (nI 0) dX4_canPledge_17 rfl ?_
    exact ev_ireturn dX4_canPledge_18 (Nat.le_of_ble_eq_true rfl) ⟨by first | (rw [show canP σ c k m = false from decide_eq_false (Int32.not_le.mpr h10)]; rfl) | (rw [show canP σ c k m = true from decide_eq_true (Int32.not_lt.mp h10)]; rfl), rfl⟩
  · refine ev_iconst (nI 1) dX4_canPledge_13 rfl ?_
    refine ev_goto 18 dX4_canPledge_14 (by decide) ?_
    exact ev_ireturn dX4_canPledge_18 (Nat.le_of_ble_eq_true rfl) ⟨by first | (rw [show canP σ c k m = false from decide_eq_false (Int32.not_le.mpr h10)]; rfl) | (rw [show canP σ c k m = true from decide_eq_true (Int32.not_lt.mp h10)]; rfl), rfl⟩
set_option maxHeartbeats 1000000 in
theorem c4_canLack (σ z : Nat → Int32) (Y : RY) (g : PW) {c w : Nat} (hc : c < 8) (hw : w < 10) (m : Int32) : Ct mX4_canLack [.ref 0, .int (nI c), .int (nI w), .int m] (rw9 σ z Y g) (d1 (some (.int (bI (canL σ c w m)))) (rw9 σ z Y g)) nx := by
  refine ct_of 3 kX4_canLack.1 rfl (Nat.le_of_ble_eq_true rfl) (fun v u h => by obtain ⟨rfl, rfl⟩ := h; exact bI_nar _) ?_
  show Ev _ _ _ 0 0 [(0, .ref 0), (1, .int (nI c)), (2, .int (nI w)), (3, .int m)] [] _
  refine ev_aload_n 0 dX4_canLack_0 rfl rfl ?_
  refine ev_iload_n 1 dX4_canLack_1 rfl rfl ?_
  refine ev_iload_n 2 dX4_canLack_2 rfl rfl ?_
  refine ev_cV2 (c4_of _ _ _ _ (by omega) (by omega)) kX4_of rfl g1188 rfl rfl rfl rfl dX4_canLack_3 ?_
  refine ev_iload_n 3 dX4_canLack_6 rfl rfl ?_
  refine ev_icmp_ge 12 dX4_canLack_7 (by decide) (fun h7 => ?_) (fun h7 => ?_)
  · refine ev_aload_n 0 dX4_canLack_12 rfl rfl ?_
    refine ev_iload_n 1 dX4_canLack_13 rfl rfl ?_
    refine ev_iload_n 2 dX4_canLack_14 rfl rfl ?_
    refine ev_iload_n 3 dX4_canLack_15 rfl rfl ?_
    refine ev_ineg dX4_canLack_16 ?_
    refine ev_cV3v (c4_grow _ _ _ _ (by omega) (by omega) _) kX4_grow rfl g1235 rfl rfl rfl rfl dX4_canLack_17 ?_
    refine ev_aload_n 0 dX4_canLack_20 rfl rfl ?_
    refine ev_iload_n 1 dX4_canLack_21 rfl rfl ?_
    refine ev_cV1 (c4_isCovered _ _ _ _ (by omega)) kX4_isCovered rfl g1184 rfl rfl rfl rfl dX4_canLack_22 ?_
    refine ev_istore dX4_canLack_25 (Nat.le_of_ble_eq_true rfl) rfl ?_
    refine ev_aload_n 0 dX4_canLack_27 rfl rfl ?_
    refine ev_iload_n 1 dX4_canLack_28 rfl rfl ?_
    refine ev_iload_n 2 dX4_canLack_29 rfl rfl ?_
    refine ev_iload_n 3 dX4_canLack_30 rfl rfl ?_
    refine ev_cV3v (c4_grow _ _ _ _ (by omega) (by omega) _) kX4_grow rfl g1235 rfl rfl rfl rfl dX4_canLack_31 ?_
    refine ev_w (w' := rw9 σ z Y g) (by rw [upd_back]) ?_
    refine ev_iload dX4_canLack_34 rfl ?_
    exact ev_ireturn dX4_canLack_36 (Nat.le_of_ble_eq_true rfl) ⟨by rw [show canL σ c w m = isC (lackS σ c w m) c by simp [canL, h7]]; rfl, rfl⟩
  · refine ev_iconst (nI 0) dX4_canLack_10 rfl ?_
    exact ev_ireturn dX4_canLack_11 (Nat.le_of_ble_eq_true rfl) ⟨by rw [show canL σ c w m = false by simp [canL, Int32.not_le.mpr (Int32.not_le.mp h7)]]; rfl, rfl⟩
set_option maxHeartbeats 1000000 in
theorem c4_canLend (σ z : Nat → Int32) (Y : RY) (g : PW) {c : Nat} (hc : c < 8) (x : Int32) : Ct mX4_canLend [.ref 0, .int (nI c), .int x] (rw9 σ z Y g) (d1 (some (.int (bI (canB σ c x)))) (rw9 σ z Y g)) nx := by
  refine ct_of 2 kX4_canLend.1 rfl (Nat.le_of_ble_eq_true rfl) (fun v u h => by obtain ⟨rfl, rfl⟩ := h; exact bI_nar _) ?_
  show Ev _ _ _ 0 0 [(0, .ref 0), (1, .int (nI c)), (2, .int x)] [] _
  refine ev_aload_n 0 dX4_canLend_0 rfl rfl ?_
  refine ev_iload_n 1 dX4_canLend_1 rfl rfl ?_
  refine ev_bipush (nI 9) dX4_canLend_2 rfl ?_
  refine ev_cV2 (c4_of _ _ _ _ (by omega) (by omega)) kX4_of rfl g1188 rfl rfl rfl rfl dX4_canLend_4 ?_
  refine ev_if_ne 31 dX4_canLend_7 (by decide) (fun h7 => ?_) (fun h7 => ?_)
  · refine ev_iconst (nI 0) dX4_canLend_31 rfl ?_
    exact ev_ireturn dX4_canLend_32 (Nat.le_of_ble_eq_true rfl) ⟨by first | (rw [canB_1 h7]; rfl) | (rw [canB_3 h7 h24]; rfl) | (rw [canB_2 h24]; rfl), rfl⟩
  · refine ev_aload_n 0 dX4_canLend_10 rfl rfl ?_
    refine ev_iload_n 1 dX4_canLend_11 rfl rfl ?_
    refine ev_bipush (nI 7) dX4_canLend_12 rfl ?_
    refine ev_cV2 (c4_of _ _ _ _ (by omega) (by omega)) kX4_of rfl g1188 rfl rfl rfl rfl dX4_canLend_14 ?_
    refine ev_iload_n 2 dX4_canLend_17 rfl rfl ?_
    refine ev_iadd dX4_canLend_18 ?_
    refine ev_aload_n 0 dX4_canLend_19 rfl rfl ?_
    refine ev_iload_n 1 dX4_canLend_20 rfl rfl ?_
    refine ev_cV1 (c4_cover _ _ _ _ (by omega)) kX4_cover rfl g1192 rfl rfl rfl rfl dX4_canLend_21 ?_
    refine ev_icmp_gt 31 dX4_canLend_24 (by decide) (fun h24 => ?_) (fun h24 => ?_)
    · refine ev_iconst (nI 0) dX4_canLend_31 rfl ?_
      exact ev_ireturn dX4_canLend_32 (Nat.le_of_ble_eq_true rfl) ⟨by first | (rw [canB_1 h7]; rfl) | (rw [canB_3 h7 h24]; rfl) | (rw [canB_2 h24]; rfl), rfl⟩
    · refine ev_iconst (nI 1) dX4_canLend_27 rfl ?_
      refine ev_goto 32 dX4_canLend_28 (by decide) ?_
      exact ev_ireturn dX4_canLend_32 (Nat.le_of_ble_eq_true rfl) ⟨by first | (rw [canB_1 h7]; rfl) | (rw [canB_3 h7 h24]; rfl) | (rw [canB_2 h24]; rfl), rfl⟩
