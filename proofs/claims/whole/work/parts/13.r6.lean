/-! ===== the reference: selling out, hours ===== -/
/-- pieces between 0 and 99 -/
def Pcs (σ : Nat → Int32) : Prop := ∀ c k, c < 8 → k < 6 → 0 ≤ σ (ix c k) ∧ σ (ix c k) ≤ nI 99
def nP (σ : Nat → Int32) (c : Nat) : Nat → Nat
  | 0 => 0
  | n + 1 => nP σ c n + (σ (ix c n)).toNatClampNeg
theorem nP_congr {σ τ : Nat → Int32} {c : Nat} : ∀ {n : Nat}, (∀ k, k < n → σ (ix c k) = τ (ix c k)) → nP σ c n = nP τ c n
  | 0, _ => rfl
  | n + 1, h => by simp only [nP]; rw [nP_congr (fun k hk => h k (by omega)), h n (by omega)]
theorem cl_pos {x : Int32} (h : 0 < x) : 1 ≤ x.toNatClampNeg ∧ (x + -1).toNatClampNeg + 1 = x.toNatClampNeg := by
  have h1 : 0 < x.toInt := by simpa using Int32.lt_iff_toInt_lt.mp h
  have h2 := Int32.toInt_lt x
  obtain ⟨j, hj, rfl⟩ := nI_of (x := x) (by rw [Int32.not_lt]; exact Int32.le_of_lt h)
  rw [nI_toInt hj] at h1
  obtain ⟨i, rfl⟩ : ∃ i, j = i + 1 := ⟨j - 1, by omega⟩
  rw [pk_m1, nI_clamp hj, nI_clamp (by omega)]
  omega
theorem cl_99 {x : Int32} (h0 : 0 ≤ x) (h : x ≤ nI 99) : x.toNatClampNeg ≤ 99 := by
  obtain ⟨j, hj, rfl⟩ := nI_of2 (M := nI 99) (n := 99) (by decide) (by rw [Int32.not_lt]; exact h0) h
  rw [nI_clamp (by omega)]; exact hj
theorem nP_le {σ : Nat → Int32} {c : Nat} (h : ∀ k, k < 6 → 0 ≤ σ (ix c k) ∧ σ (ix c k) ≤ nI 99) : nP σ c 6 ≤ 594 := by
  have := fun k hk => cl_99 (h k hk).1 (h k hk).2
  have h0 := this 0 (by omega); have h1 := this 1 (by omega); have h2 := this 2 (by omega); have h3 := this 3 (by omega); have h4 := this 4 (by omega); have h5 := this 5 (by omega)
  simp only [nP]
  omega
theorem nP_part {σ : Nat → Int32} {c k : Nat} : ∀ {n : Nat}, k < n → (σ (ix c k)).toNatClampNeg ≤ nP σ c n
  | 0, h => absurd h (Nat.not_lt_zero k)
  | n + 1, h => by
    simp only [nP]
    rcases Nat.lt_or_ge k n with q | q
    · have := nP_part (σ := σ) (c := c) q; omega
    · rw [show k = n by omega]; omega
/-- one less of kind k -/
def less1 (σ : Nat → Int32) (c k : Nat) : Nat → Int32 := upd σ (ix c k) (σ (ix c k) + -1)
theorem nP_less {σ : Nat → Int32} {c k : Nat} (hp : 0 < σ (ix c k)) : ∀ {n : Nat}, k < n → nP (less1 σ c k) c n + 1 = nP σ c n
  | 0, h => absurd h (Nat.not_lt_zero k)
  | n + 1, h => by
    simp only [nP]
    rcases Nat.lt_or_ge k n with q | q
    · have h1 := nP_less hp q
      rw [show less1 σ c k (ix c n) = σ (ix c n) from upd_n _ _ (by simp only [ix]; omega)]
      omega
    · have hk : k = n := by omega
      subst hk
      rw [show nP (less1 σ c k) c k = nP σ c k from nP_congr (fun j hj => upd_n _ _ (by simp only [ix]; omega)), show less1 σ c k (ix c k) = σ (ix c k) + -1 from upd_s _ _ _]
      have := (cl_pos hp).2
      omega
def sell1 (σ : Nat → Int32) (c k : Nat) : Nat → Int32 :=
  let s := upd (less1 σ c k) (12 + k) (less1 σ c k (12 + k) + nI 1)
  payS s c (s k * (nI 100 - s 100) / nI 100)
theorem payS_at {σ : Nat → Int32} {c i : Nat} {x : Int32} (h7 : i ≠ ix c 7) (h6 : i ≠ ix c 6) (h5 : i ≠ 105) : payS σ c x i = σ i := by
  simp only [payS, pay2, pay1]
  rw [upd_n _ _ h5, upd_n _ _ h6, upd_n _ _ h7]
theorem sell1_at {σ : Nat → Int32} {c k i : Nat} (h7 : i ≠ ix c 7) (h6 : i ≠ ix c 6) (h5 : i ≠ 105) (hk : i ≠ ix c k) (h12 : i ≠ 12 + k) : sell1 σ c k i = σ i := by
  simp only [sell1]
  rw [payS_at h7 h6 h5, upd_n _ _ h12, less1, upd_n _ _ hk]
theorem nP_sell {σ : Nat → Int32} {c k : Nat} (hk : k < 6) (hp : 0 < σ (ix c k)) : nP (sell1 σ c k) c 6 + 1 = nP σ c 6 := by
  rw [← nP_less hp hk]
  congr 1
  refine nP_congr (fun j hj => ?_)
  simp only [sell1]
  rw [payS_at (by simp only [ix]; omega) (by simp only [ix]; omega) (by simp only [ix]; omega), upd_n _ _ (by simp only [ix]; omega)]
/-- umbrellas are sold one by one -/
def sellW (c : Nat) : Nat → (Nat → Int32) → Int32 → (Nat → Int32) × Int32
  | 0, τ, n => (τ, n)
  | f + 1, τ, n => match selS τ c 6 with
    | none => (τ, n)
    | some k => if isC τ c = true then (τ, n) else sellW c f (sell1 τ c k) (n + nI 1)
def lossS (τ : Nat → Int32) (c : Nat) : Nat → Int32 :=
  if isC τ c = true then τ else
    let s := upd τ 106 (τ 106 + τ (ix c 7))
    upd (upd s (ix c 7) (nI 0)) (ix c 9) (nI 1)
def outS (τ : Nat → Int32) (c : Nat) : Nat → Int32 :=
  let s := upd (lossS τ c) (ix c 8) (nI 0)
  upd s 108 (s 108 + nI 1)
def begS (σ : Nat → Int32) (c : Nat) : Nat → Int32 := payS (upd σ (ix c 6) (nI 0)) c (σ (ix c 6))
def sellsS (σ : Nat → Int32) (c : Nat) : (Nat → Int32) × Int32 := (outS (sellW c 594 (begS σ c) (nI 0)).1 c, (sellW c 594 (begS σ c) (nI 0)).2)
theorem sellW_none {c : Nat} {τ : Nat → Int32} {n : Int32} (h : selS τ c 6 = none) : ∀ f, sellW c f τ n = (τ, n)
  | 0 => rfl
  | f + 1 => by simp only [sellW, h]
theorem sellW_cov {c k : Nat} {τ : Nat → Int32} {n : Int32} (h : selS τ c 6 = some k) (hc : isC τ c = true) : ∀ f, sellW c f τ n = (τ, n)
  | 0 => rfl
  | f + 1 => by simp only [sellW, h, hc, if_true]
theorem sellW_go {c k : Nat} {τ : Nat → Int32} {n : Int32} (h : selS τ c 6 = some k) (hc : isC τ c = false) (f : Nat) : sellW c (f + 1) τ n = sellW c f (sell1 τ c k) (n + nI 1) := by
  simp only [sellW, h, hc, Bool.false_eq_true, if_false]
theorem nP_beg {σ : Nat → Int32} {c : Nat} : nP (begS σ c) c 6 = nP σ c 6 := by
  refine nP_congr (fun j hj => ?_)
  simp only [begS]
  rw [payS_at (by simp only [ix]; omega) (by simp only [ix]; omega) (by simp only [ix]; omega), upd_n _ _ (by simp only [ix]; omega)]

set_option maxHeartbeats 1000000 in
theorem c4_sellsOut (σ z : Nat → Int32) (Y : RY) (g : PW) {c : Nat} (hc : c < 8) (hn : nP σ c 6 ≤ 594) : Ct mX4_sellsOut [.ref 0, .int (nI c)] (rw9 σ z Y g) (d1 (some (.int (sellsS σ c).2)) (rw9 (sellsS σ c).1 z Y g)) nx := by
  refine ct_of 1 kX4_sellsOut.1 rfl (Nat.le_of_ble_eq_true rfl) (fun v u h => by obtain ⟨rfl, rfl⟩ := h; exact rfl) ?_
  show Ev _ _ _ 0 0 [(0, .ref 0), (1, .int (nI c))] [] _
  refine ev_aload_n 0 dX4_sellsOut_0 rfl rfl ?_
  refine ev_iload_n 1 dX4_sellsOut_1 rfl rfl ?_
  refine ev_bipush (nI 6) dX4_sellsOut_2 rfl ?_
  refine ev_cV2 (c4_of _ _ _ _ (by omega) (by omega)) kX4_of rfl g1188 rfl rfl rfl rfl dX4_sellsOut_4 ?_
  refine ev_istore_n 2 dX4_sellsOut_7 rfl (Nat.le_of_ble_eq_true rfl) rfl ?_
  refine ev_aload_n 0 dX4_sellsOut_8 rfl rfl ?_
  refine ev_iload_n 1 dX4_sellsOut_9 rfl rfl ?_
  refine ev_bipush (nI 6) dX4_sellsOut_10 rfl ?_
  refine ev_iconst (nI 0) dX4_sellsOut_12 rfl ?_
  refine ev_cV3v (c4_lay _ _ _ _ (by omega) (by omega) _) kX4_lay rfl g1208 rfl rfl rfl rfl dX4_sellsOut_13 ?_
  refine ev_aload_n 0 dX4_sellsOut_16 rfl rfl ?_
  refine ev_iload_n 1 dX4_sellsOut_17 rfl rfl ?_
  refine ev_iload_n 2 dX4_sellsOut_18 rfl rfl ?_
  refine ev_cV2v (c4_pays _ _ _ _ (by omega) _) kX4_pays rfl g1303 rfl rfl rfl rfl dX4_sellsOut_19 ?_
  refine ev_iconst (nI 0) dX4_sellsOut_22 rfl ?_
  refine ev_istore_n 3 dX4_sellsOut_23 rfl (Nat.le_of_ble_eq_true rfl) rfl ?_
  refine ev_aload_n 0 dX4_sellsOut_24 rfl rfl ?_
  refine ev_iload_n 1 dX4_sellsOut_25 rfl rfl ?_
  refine ev_cV1 (c4_selling _ _ _ _ (by omega)) kX4_selling rfl g1307 rfl rfl rfl rfl dX4_sellsOut_26 ?_
  refine ev_istore dX4_sellsOut_29 (Nat.le_of_ble_eq_true rfl) rfl ?_
  suffices H : ∀ f (τ : Nat → Int32) (n : Int32), nP τ c 6 ≤ f → sellW c f τ n = sellW c 594 (begS σ c) (nI 0) → Ev mX4_sellsOut (d1 (some (.int (sellsS σ c).2)) (rw9 (sellsS σ c).1 z Y g)) nx 0 31 [(4, .int (oI (selS τ c 6))), (3, .int n), (2, .int (σ (ix c 6))), (0, .ref 0), (1, .int (nI c))] [] (rw9 τ z Y g) from ev_sub [0, 1, 2, 3, 4] rfl (H 594 (begS σ c) (nI 0) (by rw [nP_beg]; exact hn) rfl)
  have F : ∀ (τ : Nat → Int32) (n : Int32), (τ, n) = sellW c 594 (begS σ c) (nI 0) → Ev mX4_sellsOut (d1 (some (.int (sellsS σ c).2)) (rw9 (sellsS σ c).1 z Y g)) nx 0 106 [(4, .int (oI (selS τ c 6))), (3, .int n), (2, .int (σ (ix c 6))), (0, .ref 0), (1, .int (nI c))] [] (rw9 τ z Y g) := by
    intro τ n hw
    have e1 : sellsS σ c = (outS τ c, n) := by simp only [sellsS]; rw [← hw]
    rw [e1]
    refine ev_aload_n 0 dX4_sellsOut_106 rfl rfl ?_
    refine ev_iload_n 1 dX4_sellsOut_107 rfl rfl ?_
    refine ev_cV1 (c4_isCovered _ _ _ _ (by omega)) kX4_isCovered rfl g1184 rfl rfl rfl rfl dX4_sellsOut_108 ?_
    refine ev_if_ne 147 dX4_sellsOut_111 (by decide) (fun h111 => ?_) (fun h111 => ?_)
    · have e2 : lossS τ c = τ := if_pos (bI_1.mp h111)
      refine ev_w (w' := rw9 (lossS τ c) z Y g) (by rw [e2]) ?_
      refine ev_aload_n 0 dX4_sellsOut_147 rfl rfl ?_
      refine ev_iload_n 1 dX4_sellsOut_148 rfl rfl ?_
      refine ev_bipush (nI 8) dX4_sellsOut_149 rfl ?_
      refine ev_iconst (nI 0) dX4_sellsOut_151 rfl ?_
      refine ev_cV3v (c4_lay _ _ _ _ (by omega) (by omega) _) kX4_lay rfl g1208 rfl rfl rfl rfl dX4_sellsOut_152 ?_
      refine ev_aload_n 0 dX4_sellsOut_155 rfl rfl ?_
      refine ev_getfield 0 dX4_sellsOut_156 foX4_7 rfl rfl ?_
      refine ev_bipush (nI 108) dX4_sellsOut_159 rfl ?_
      refine ev_dup2 dX4_sellsOut_161 rfl rfl ?_
      refine ev_ild (108) dX4_sellsOut_162 rfl (by simp only [nI_m, nI_add, ix, oI]) (by omega) rfl ?_
      refine ev_iconst (nI 1) dX4_sellsOut_163 rfl ?_
      refine ev_iadd dX4_sellsOut_164 ?_
      refine ev_ist (108) dX4_sellsOut_165 rfl (by simp only [nI_m, nI_add, ix, oI]) (by omega) rfl (rw_s _ _ _ _ _) ?_
      refine ev_iload_n 3 dX4_sellsOut_166 rfl rfl ?_
      exact ev_ireturn dX4_sellsOut_167 (Nat.le_of_ble_eq_true rfl) ⟨rfl, rfl⟩
    · have e2 : lossS τ c = upd (upd (upd τ 106 (τ 106 + τ (ix c 7))) (ix c 7) (nI 0)) (ix c 9) (nI 1) := if_neg (by rw [bI_0.mp h111]; decide)
      refine ev_aload_n 0 dX4_sellsOut_114 rfl rfl ?_
      refine ev_getfield 0 dX4_sellsOut_115 foX4_7 rfl rfl ?_
      refine ev_bipush (nI 106) dX4_sellsOut_118 rfl ?_
      refine ev_dup2 dX4_sellsOut_120 rfl rfl ?_
      refine ev_ild (106) dX4_sellsOut_121 rfl (by simp only [nI_m, nI_add, ix, oI]) (by omega) rfl ?_
      refine ev_aload_n 0 dX4_sellsOut_122 rfl rfl ?_
      refine ev_iload_n 1 dX4_sellsOut_123 rfl rfl ?_
      refine ev_bipush (nI 7) dX4_sellsOut_124 rfl ?_
      refine ev_cV2 (c4_of _ _ _ _ (by omega) (by omega)) kX4_of rfl g1188 rfl rfl rfl rfl dX4_sellsOut_126 ?_
      refine ev_iadd dX4_sellsOut_129 ?_
      refine ev_ist (106) dX4_sellsOut_130 rfl (by simp only [nI_m, nI_add, ix, oI]) (by omega) rfl (rw_s _ _ _ _ _) ?_
      refine ev_aload_n 0 dX4_sellsOut_131 rfl rfl ?_
      refine ev_iload_n 1 dX4_sellsOut_132 rfl rfl ?_
      refine ev_bipush (nI 7) dX4_sellsOut_133 rfl ?_
      refine ev_iconst (nI 0) dX4_sellsOut_135 rfl ?_
      refine ev_cV3v (c4_lay _ _ _ _ (by omega) (by omega) _) kX4_lay rfl g1208 rfl rfl rfl rfl dX4_sellsOut_136 ?_
      refine ev_aload_n 0 dX4_sellsOut_139 rfl rfl ?_
      refine ev_iload_n 1 dX4_sellsOut_140 rfl rfl ?_
      refine ev_bipush (nI 9) dX4_sellsOut_141 rfl ?_
      refine ev_iconst (nI 1) dX4_sellsOut_143 rfl ?_
      refine ev_cV3v (c4_lay _ _ _ _ (by omega) (by omega) _) kX4_lay rfl g1208 rfl rfl rfl rfl dX4_sellsOut_144 ?_
      refine ev_w (w' := rw9 (lossS τ c) z Y g) (by rw [e2]) ?_
      refine ev_aload_n 0 dX4_sellsOut_147 rfl rfl ?_
      refine ev_iload_n 1 dX4_sellsOut_148 rfl rfl ?_
      refine ev_bipush (nI 8) dX4_sellsOut_149 rfl ?_
      refine ev_iconst (nI 0) dX4_sellsOut_151 rfl ?_
      refine ev_cV3v (c4_lay _ _ _ _ (by omega) (by omega) _) kX4_lay rfl g1208 rfl rfl rfl rfl dX4_sellsOut_152 ?_
      refine ev_aload_n 0 dX4_sellsOut_155 rfl rfl ?_
      refine ev_getfield 0 dX4_sellsOut_156 foX4_7 rfl rfl ?_
      refine ev_bipush (nI 108) dX4_sellsOut_159 rfl ?_
      refine ev_dup2 dX4_sellsOut_161 rfl rfl ?_
      refine ev_ild (108) dX4_sellsOut_162 rfl (by simp only [nI_m, nI_add, ix, oI]) (by omega) rfl ?_
      refine ev_iconst (nI 1) dX4_sellsOut_163 rfl ?_
      refine ev_iadd dX4_sellsOut_164 ?_
      refine ev_ist (108) dX4_sellsOut_165 rfl (by simp only [nI_m, nI_add, ix, oI]) (by omega) rfl (rw_s _ _ _ _ _) ?_
      refine ev_iload_n 3 dX4_sellsOut_166 rfl rfl ?_
      exact ev_ireturn dX4_sellsOut_167 (Nat.le_of_ble_eq_true rfl) ⟨rfl, rfl⟩
  intro f
  induction f with
  | zero =>
    intro τ n hP hw
    cases hs : selS τ c 6 with
    | none =>
      have F1 := F τ n (by rw [← hw, sellW_none hs])
      rw [hs] at F1
      refine ev_iload dX4_sellsOut_31 rfl ?_
      refine ev_iconst (-1) dX4_sellsOut_33 rfl ?_
      refine ev_icmp_eq 106 dX4_sellsOut_34 (by decide) (fun h34 => ?_) (fun h34 => absurd rfl h34)
      exact ev_sub [0, 1, 2, 3, 4] rfl F1
    | some q =>
      have hq := selS_lt hs
      have hp := selS_pos hs
      exact absurd (nP_part (σ := τ) (c := c) hq) (by have := (cl_pos hp).1; omega)
  | succ f ih =>
    intro τ n hP hw
    cases hs : selS τ c 6 with
    | none =>
      have F1 := F τ n (by rw [← hw, sellW_none hs])
      rw [hs] at F1
      refine ev_iload dX4_sellsOut_31 rfl ?_
      refine ev_iconst (-1) dX4_sellsOut_33 rfl ?_
      refine ev_icmp_eq 106 dX4_sellsOut_34 (by decide) (fun h34 => ?_) (fun h34 => absurd rfl h34)
      exact ev_sub [0, 1, 2, 3, 4] rfl F1
    | some q =>
      have hq := selS_lt hs
      have hp := selS_pos hs
      refine ev_iload dX4_sellsOut_31 rfl ?_
      refine ev_iconst (-1) dX4_sellsOut_33 rfl ?_
      refine ev_icmp_eq 106 dX4_sellsOut_34 (by decide) (fun h34 => absurd h34 (by show ¬ nI q = -1; exact fun e => by have := (oI_lt (x := some q) (n := 6) (by omega) (fun _ h => by cases h; exact hq)).mp e; cases this)) (fun h34 => ?_)
      refine ev_aload_n 0 dX4_sellsOut_37 rfl rfl ?_
      refine ev_iload_n 1 dX4_sellsOut_38 rfl rfl ?_
      refine ev_cV1 (c4_isCovered _ _ _ _ (by omega)) kX4_isCovered rfl g1184 rfl rfl rfl rfl dX4_sellsOut_39 ?_
      refine ev_if_ne 106 dX4_sellsOut_42 (by decide) (fun h42 => ?_) (fun h42 => ?_)
      · have F1 := F τ n (by rw [← hw, sellW_cov hs (bI_1.mp h42)])
        rw [hs] at F1
        exact ev_sub [0, 1, 2, 3, 4] rfl F1
      · refine ev_aload_n 0 dX4_sellsOut_45 rfl rfl ?_
        refine ev_iload_n 1 dX4_sellsOut_46 rfl rfl ?_
        refine ev_iload dX4_sellsOut_47 rfl ?_
        refine ev_iconst (-1) dX4_sellsOut_49 rfl ?_
        refine ev_cV3v (c4_grow _ _ _ _ (by omega) (by omega) _) kX4_grow rfl g1235 rfl rfl rfl rfl dX4_sellsOut_50 ?_
        refine ev_aload_n 0 dX4_sellsOut_53 rfl rfl ?_
        refine ev_getfield 0 dX4_sellsOut_54 foX4_7 rfl rfl ?_
        refine ev_bipush (nI 12) dX4_sellsOut_57 rfl ?_
        refine ev_iload dX4_sellsOut_59 rfl ?_
        refine ev_iadd dX4_sellsOut_61 ?_
        refine ev_dup2 dX4_sellsOut_62 rfl rfl ?_
        refine ev_ild (12 + q) dX4_sellsOut_63 rfl (by simp only [nI_m, nI_add, ix, oI]) (by omega) rfl ?_
        refine ev_iconst (nI 1) dX4_sellsOut_64 rfl ?_
        refine ev_iadd dX4_sellsOut_65 ?_
        refine ev_ist (12 + q) dX4_sellsOut_66 rfl (by simp only [nI_m, nI_add, ix, oI]) (by omega) rfl (rw_s _ _ _ _ _) ?_
        refine ev_iinc (n + nI 1) dX4_sellsOut_67 rfl (rfl) (Nat.le_of_ble_eq_true rfl) rfl ?_
        refine ev_aload_n 0 dX4_sellsOut_70 rfl rfl ?_
        refine ev_iload_n 1 dX4_sellsOut_71 rfl rfl ?_
        refine ev_aload_n 0 dX4_sellsOut_72 rfl rfl ?_
        refine ev_getfield 0 dX4_sellsOut_73 foX4_7 rfl rfl ?_
        refine ev_iload dX4_sellsOut_76 rfl ?_
        refine ev_ild (q) dX4_sellsOut_78 rfl (by simp only [nI_m, nI_add, ix, oI]) (by omega) rfl ?_
        refine ev_bipush (nI 100) dX4_sellsOut_79 rfl ?_
        refine ev_aload_n 0 dX4_sellsOut_81 rfl rfl ?_
        refine ev_getfield 0 dX4_sellsOut_82 foX4_7 rfl rfl ?_
        refine ev_bipush (nI 100) dX4_sellsOut_85 rfl ?_
        refine ev_ild (100) dX4_sellsOut_87 rfl (by simp only [nI_m, nI_add, ix, oI]) (by omega) rfl ?_
        refine ev_isub dX4_sellsOut_88 ?_
        refine ev_imul dX4_sellsOut_89 ?_
        refine ev_bipush (nI 100) dX4_sellsOut_90 rfl ?_
        refine ev_idiv dX4_sellsOut_92 (by decide) ?_
        refine ev_cV2v (c4_pays _ _ _ _ (by omega) _) kX4_pays rfl g1303 rfl rfl rfl rfl dX4_sellsOut_93 ?_
        refine ev_aload_n 0 dX4_sellsOut_96 rfl rfl ?_
        refine ev_iload_n 1 dX4_sellsOut_97 rfl rfl ?_
        refine ev_cV1 (c4_selling _ _ _ _ (by omega)) kX4_selling rfl g1307 rfl rfl rfl rfl dX4_sellsOut_98 ?_
        refine ev_istore dX4_sellsOut_101 (Nat.le_of_ble_eq_true rfl) rfl ?_
        refine ev_goto 31 dX4_sellsOut_103 (by decide) ?_
        exact ev_sub [0, 1, 2, 3, 4] rfl (ih (sell1 τ c q) (n + nI 1) (by have := nP_sell hq hp; omega) (by rw [← hw, sellW_go hs (bI_0.mp h42)]))
