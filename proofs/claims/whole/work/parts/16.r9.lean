/-! ===== the reference: hours ===== -/
def NP (σ : Nat → Int32) : Prop := ∀ c, c < 8 → nP σ c 6 ≤ 594
theorem NP_of {σ τ : Nat → Int32} (h : NP σ) (e : ∀ c k, c < 8 → k < 6 → τ (ix c k) = σ (ix c k)) : NP τ := fun c hc => by
  rw [nP_congr (fun k hk => e c k hc hk)]; exact h c hc
theorem lookN_at {σ : Nat → Int32} {i : Nat} (h107 : i ≠ 107) : ∀ {n : Nat}, (∀ c, c < n → i ≠ ix c 8) → lookN σ n i = σ i
  | 0, _ => rfl
  | n + 1, h => by
    have e := lookN_at (σ := σ) h107 (n := n) (fun c hc => h c (by omega))
    simp only [lookN, look1]
    split <;> rw [upd_n _ _ (h n (by omega)), upd_n _ _ h107, e]
theorem NP_look {σ : Nat → Int32} {n : Nat} (h : NP σ) : NP (lookN σ n) := NP_of h (fun c k hc hk => lookN_at (by simp only [ix]; omega) (fun c' _ => by simp only [ix]; omega))
theorem sellW_le (c c' : Nat) (hc : c < 8) (hc' : c' < 8) : ∀ (f : Nat) (τ : Nat → Int32) (n : Int32), nP (sellW c f τ n).1 c' 6 ≤ nP τ c' 6
  | 0, τ, n => Nat.le_refl _
  | f + 1, τ, n => by
    cases hs : selS τ c 6 with
    | none => rw [sellW_none hs]; exact Nat.le_refl _
    | some k =>
      cases hC : isC τ c with
      | true => rw [sellW_cov hs hC]; exact Nat.le_refl _
      | false =>
        rw [sellW_go hs hC]
        refine Nat.le_trans (sellW_le c c' hc hc' f _ _) ?_
        have hk := selS_lt hs
        by_cases e : c' = c
        · subst e
          have := nP_sell hk (selS_pos hs)
          omega
        · refine Nat.le_of_eq (nP_congr (fun j hj => sell1_at ?_ ?_ ?_ ?_ ?_)) <;> (simp only [ix]; omega)
theorem lossS_at {τ : Nat → Int32} {c i : Nat} (h106 : i ≠ 106) (h7 : i ≠ ix c 7) (h9 : i ≠ ix c 9) : lossS τ c i = τ i := by
  unfold lossS; split
  · rfl
  · simp only; rw [upd_n _ _ h9, upd_n _ _ h7, upd_n _ _ h106]
theorem outS_at {τ : Nat → Int32} {c i : Nat} (h106 : i ≠ 106) (h7 : i ≠ ix c 7) (h9 : i ≠ ix c 9) (h8 : i ≠ ix c 8) (h108 : i ≠ 108) : outS τ c i = τ i := by
  simp only [outS]; rw [upd_n _ _ h108, upd_n _ _ h8, lossS_at h106 h7 h9]
theorem sellsS_le {σ : Nat → Int32} {c c' : Nat} (hc : c < 8) (hc' : c' < 8) : nP (sellsS σ c).1 c' 6 ≤ nP σ c' 6 := by
  have e1 : nP (sellsS σ c).1 c' 6 = nP (sellW c 594 (begS σ c) (nI 0)).1 c' 6 := nP_congr (fun j hj => outS_at (by simp only [ix]; omega) (by simp only [ix]; omega) (by simp only [ix]; omega) (by simp only [ix]; omega) (by simp only [ix]; omega))
  have e2 : nP (begS σ c) c' 6 = nP σ c' 6 := nP_congr (fun j hj => by
    simp only [begS]
    rw [payS_at (by simp only [ix]; omega) (by simp only [ix]; omega) (by simp only [ix]; omega), upd_n _ _ (by simp only [ix]; omega)])
  rw [e1, ← e2]
  exact sellW_le c c' hc hc' _ _ _
theorem NP_sells {σ : Nat → Int32} {c : Nat} (hc : c < 8) (h : NP σ) : NP (sellsS σ c).1 := fun c' hc' => Nat.le_trans (sellsS_le hc hc') (h c' hc')
def intI (σ : Nat → Int32) (c : Nat) : Int32 := (σ (ix c 7) * σ 98 + nI 9999) / nI 10000
def hr0 (σ : Nat → Int32) (c : Nat) : Nat → Int32 := upd σ (ix c 7) (σ (ix c 7) + intI σ c)
def hr1 (σ : Nat → Int32) (c : Nat) : Nat → Int32 := upd (hr0 σ c) 104 (hr0 σ c 104 + intI σ c)
def hrN (σ : Nat → Int32) : Nat → Nat → Int32
  | 0 => σ
  | n + 1 => hr1 (hrN σ n) n
theorem hrN_at {σ : Nat → Int32} {i : Nat} (h104 : i ≠ 104) : ∀ {n : Nat}, (∀ c, c < n → i ≠ ix c 7) → hrN σ n i = σ i
  | 0, _ => rfl
  | n + 1, h => by
    simp only [hrN, hr1, hr0]
    rw [upd_n _ _ h104, upd_n _ _ (h n (by omega)), hrN_at h104 (fun c hc => h c (by omega))]
theorem isK_congr {σ τ : Nat → Int32} {c : Nat} (h : σ (ix c 8) = τ (ix c 8)) : isK σ c = isK τ c := by simp only [isK, h]
theorem isK_hr {σ : Nat → Int32} {n c : Nat} (hc : c < 8) : isK (hrN σ n) c = isK σ c := isK_congr (hrN_at (by simp only [ix]; omega) (fun c' _ => by simp only [ix]; omega))
def bitN (b : Nat → Bool) : Nat → Int32
  | 0 => nI 0
  | n + 1 => bitN b n ||| (if b n = true then nI 1 <<< (nI n &&& 31) else nI 0)
theorem bit_all : ∀ b0 b1 b2 b3 b4 b5 b6 b7 : Bool, ∀ c : Fin 8, ((((((((((nI 0 ||| (if b0 = true then nI 1 <<< (nI 0 &&& 31) else nI 0)) ||| (if b1 = true then nI 1 <<< (nI 1 &&& 31) else nI 0)) ||| (if b2 = true then nI 1 <<< (nI 2 &&& 31) else nI 0)) ||| (if b3 = true then nI 1 <<< (nI 3 &&& 31) else nI 0)) ||| (if b4 = true then nI 1 <<< (nI 4 &&& 31) else nI 0)) ||| (if b5 = true then nI 1 <<< (nI 5 &&& 31) else nI 0)) ||| (if b6 = true then nI 1 <<< (nI 6 &&& 31) else nI 0)) ||| (if b7 = true then nI 1 <<< (nI 7 &&& 31) else nI 0)) >>> (nI c.val &&& 31)) &&& nI 1) = bI ([b0, b1, b2, b3, b4, b5, b6, b7].getD c.val false) := by decide +kernel
theorem bit_at (b : Nat → Bool) {c : Nat} (hc : c < 8) : (bitN b 8 >>> (nI c &&& 31)) &&& nI 1 = bI (b c) := by
  have h := bit_all (b 0) (b 1) (b 2) (b 3) (b 4) (b 5) (b 6) (b 7) ⟨c, hc⟩
  have e : [b 0, b 1, b 2, b 3, b 4, b 5, b 6, b 7].getD c false = b c := by
    rcases (show c = 0 ∨ c = 1 ∨ c = 2 ∨ c = 3 ∨ c = 4 ∨ c = 5 ∨ c = 6 ∨ c = 7 by omega) with rfl | rfl | rfl | rfl | rfl | rfl | rfl | rfl <;> rfl
  simp only at h
  rw [e] at h
  exact h
def low1 (σ : Nat → Int32) (c : Nat) : Nat → Int32 := upd σ (ix c 8) (σ (ix c 8) + -1)
/-- a client's hour -/
def dn1 (b : Bool) (p : (Nat → Int32) × Int32) (c : Nat) : (Nat → Int32) × Int32 :=
  if (b && isK p.1 c) = true then (if low1 p.1 c (ix c 8) = 0 then ((sellsS (low1 p.1 c) c).1, p.2 + nI 1) else (low1 p.1 c, p.2)) else p
def dnN (b : Nat → Bool) (p : (Nat → Int32) × Int32) : Nat → (Nat → Int32) × Int32
  | 0 => p
  | n + 1 => dn1 (b n) (dnN b p n) n
def hour0 (σ : Nat → Int32) : Nat → Int32 := upd σ 102 (σ 102 + nI 1)
def hourS (σ : Nat → Int32) : (Nat → Int32) × Int32 := dnN (isK (hour0 σ)) (lookN (hrN (hour0 σ) 8) 8, nI 0) 8
theorem NP_low {σ : Nat → Int32} {c : Nat} (hc : c < 8) (h : NP σ) : NP (low1 σ c) := NP_of h (fun c' k _ _ => upd_n _ _ (by simp only [ix]; omega))
theorem NP_dn {b : Bool} {p : (Nat → Int32) × Int32} {c : Nat} (hc : c < 8) (h : NP p.1) : NP (dn1 b p c).1 := by
  unfold dn1
  split
  · split
    · exact NP_sells hc (NP_low hc h)
    · exact NP_low hc h
  · exact h
theorem NP_dnN {b : Nat → Bool} {p : (Nat → Int32) × Int32} (h : NP p.1) : ∀ n, n ≤ 8 → NP (dnN b p n).1
  | 0, _ => h
  | n + 1, hn => NP_dn (by omega) (NP_dnN h n (by omega))
theorem NP_hr {σ : Nat → Int32} {n : Nat} (h : NP σ) : NP (hrN σ n) := NP_of h (fun c k _ _ => hrN_at (by simp only [ix]; omega) (fun c' _ => by simp only [ix]; omega))
theorem NP_h0 {σ : Nat → Int32} (h : NP σ) : NP (hour0 σ) := NP_of h (fun c k _ _ => upd_n _ _ (by simp only [ix]; omega))
theorem NP_hour {σ : Nat → Int32} (h : NP σ) : NP (hourS σ).1 := NP_dnN (b := isK (hour0 σ)) (p := (lookN (hrN (hour0 σ) 8) 8, nI 0)) (show NP (lookN (hrN (hour0 σ) 8) 8) from NP_look (NP_hr (NP_h0 h))) 8 (by omega)
def pasN (σ : Nat → Int32) : Nat → (Nat → Int32) × Int32
  | 0 => (σ, nI 0)
  | n + 1 => ((hourS (pasN σ n).1).1, (pasN σ n).2 + (hourS (pasN σ n).1).2)
theorem NP_pas {σ : Nat → Int32} (h : NP σ) : ∀ n, NP (pasN σ n).1
  | 0 => h
  | n + 1 => NP_hour (NP_pas h n)
theorem dn_sell {b : Bool} {p : (Nat → Int32) × Int32} {c : Nat} (h1 : b = true) (h2 : isK p.1 c = true) (h3 : low1 p.1 c (ix c 8) = 0) : dn1 b p c = ((sellsS (low1 p.1 c) c).1, p.2 + nI 1) := by
  unfold dn1; rw [if_pos (by rw [h1, h2]; rfl), if_pos h3]
theorem dn_low {b : Bool} {p : (Nat → Int32) × Int32} {c : Nat} (h1 : b = true) (h2 : isK p.1 c = true) (h3 : ¬ low1 p.1 c (ix c 8) = 0) : dn1 b p c = (low1 p.1 c, p.2) := by
  unfold dn1; rw [if_pos (by rw [h1, h2]; rfl), if_neg h3]
theorem dn_no {b : Bool} {p : (Nat → Int32) × Int32} {c : Nat} (h : (b && isK p.1 c) = false) : dn1 b p c = p := by
  unfold dn1; rw [if_neg (by rw [h]; decide)]

theorem b1_t {b : Bool} (h : bI b = nI 1) : b = true := by cases b <;> first | rfl | exact absurd h (by decide)
theorem b1_f {b : Bool} (h : ¬ bI b = nI 1) : b = false := by cases b <;> first | rfl | exact absurd rfl h
set_option maxHeartbeats 1000000 in
theorem c4_hour (σ z : Nat → Int32) (Y : RY) (g : PW) (hN : NP σ) : Ct mX4_hour [.ref 0] (rw9 σ z Y g) (d1 (some (.int (hourS σ).2)) (rw9 (hourS σ).1 z Y g)) nx := by
  refine ct_of 0 kX4_hour.1 rfl (Nat.le_of_ble_eq_true rfl) (fun v u h => by obtain ⟨rfl, rfl⟩ := h; exact rfl) ?_
  show Ev _ _ _ 0 0 [(0, .ref 0)] [] _
  refine ev_aload_n 0 dX4_hour_0 rfl rfl ?_
  refine ev_getfield 0 dX4_hour_1 foX4_7 rfl rfl ?_
  refine ev_bipush (nI 102) dX4_hour_4 rfl ?_
  refine ev_dup2 dX4_hour_6 rfl rfl ?_
  refine ev_ild (102) dX4_hour_7 rfl (by simp only [nI_m, nI_add, ix, oI]) (by omega) rfl ?_
  refine ev_iconst (nI 1) dX4_hour_8 rfl ?_
  refine ev_iadd dX4_hour_9 ?_
  refine ev_ist (102) dX4_hour_10 rfl (by simp only [nI_m, nI_add, ix, oI]) (by omega) rfl (rw_s _ _ _ _ _) ?_
  refine ev_iconst (nI 0) dX4_hour_11 rfl ?_
  refine ev_istore_n 1 dX4_hour_12 rfl (Nat.le_of_ble_eq_true rfl) rfl ?_
  refine ev_iconst (nI 0) dX4_hour_13 rfl ?_
  refine ev_istore_n 2 dX4_hour_14 rfl (Nat.le_of_ble_eq_true rfl) rfl ?_
  suffices H : ∀ fu j, j + fu = 8 → Ev mX4_hour (d1 (some (.int (hourS σ).2)) (rw9 (hourS σ).1 z Y g)) nx 0 15 [(2, .int (nI (j))), (1, .int (bitN (isK (hour0 σ)) (j))), (0, .ref 0)] [] (rw9 (hrN (hour0 σ) (j)) z Y g) from ev_sub [0, 1, 2] rfl (H 8 0 (Nat.zero_add _))
  intro fu
  induction fu with
  | zero =>
    intro j hj
    obtain rfl : 8 = j := by omega
    refine ev_iload_n 2 dX4_hour_15 rfl rfl ?_
    refine ev_bipush (nI 8) dX4_hour_16 rfl ?_
    refine ev_icmp_ge 82 dX4_hour_18 (by decide) (fun h18 => ?_) (fun h18 => absurd (nI_le (Nat.le_refl 8) (by omega)) h18)
    refine ev_aload_n 0 dX4_hour_82 rfl rfl ?_
    refine ev_cV0v (c4_looks _ _ _ _) kX4_looks rfl g1180 rfl rfl rfl rfl dX4_hour_83 ?_
    refine ev_iconst (nI 0) dX4_hour_86 rfl ?_
    refine ev_istore_n 2 dX4_hour_87 rfl (Nat.le_of_ble_eq_true rfl) rfl ?_
    refine ev_iconst (nI 0) dX4_hour_88 rfl ?_
    refine ev_istore_n 3 dX4_hour_89 rfl (Nat.le_of_ble_eq_true rfl) rfl ?_
    suffices H : ∀ fu j, j + fu = 8 → Ev mX4_hour (d1 (some (.int (hourS σ).2)) (rw9 (hourS σ).1 z Y g)) nx 0 90 [(3, .int (nI (j))), (2, .int (dnN (isK (hour0 σ)) (lookN (hrN (hour0 σ) 8) 8, nI 0) (j)).2), (1, .int (bitN (isK (hour0 σ)) 8)), (0, .ref 0)] [] (rw9 (dnN (isK (hour0 σ)) (lookN (hrN (hour0 σ) 8) 8, nI 0) (j)).1 z Y g) from ev_sub [0, 1, 2, 3] rfl (H 8 0 (Nat.zero_add _))
    intro fu
    induction fu with
    | zero =>
      intro j hj
      obtain rfl : 8 = j := by omega
      refine ev_iload_n 3 dX4_hour_90 rfl rfl ?_
      refine ev_bipush (nI 8) dX4_hour_91 rfl ?_
      refine ev_icmp_ge 147 dX4_hour_93 (by decide) (fun h93 => ?_) (fun h93 => absurd (nI_le (Nat.le_refl 8) (by omega)) h93)
      refine ev_iload_n 2 dX4_hour_147 rfl rfl ?_
      exact ev_ireturn dX4_hour_148 (Nat.le_of_ble_eq_true rfl) ⟨rfl, rfl⟩
    | succ fu ih =>
      intro j hj
      have hj6 : j < 8 := by omega
      refine ev_iload_n 3 dX4_hour_90 rfl rfl ?_
      refine ev_bipush (nI 8) dX4_hour_91 rfl ?_
      refine ev_icmp_ge 147 dX4_hour_93 (by decide) (fun h93 => absurd h93 (nI_ge hj6 (by omega))) (fun h93 => ?_)
      refine ev_iload_n 1 dX4_hour_96 rfl rfl ?_
      refine ev_iload_n 3 dX4_hour_97 rfl rfl ?_
      refine ev_ishr dX4_hour_98 ?_
      refine ev_iconst (nI 1) dX4_hour_99 rfl ?_
      refine ev_iand dX4_hour_100 ?_
      refine ev_top (bI (isK (hour0 σ) j)) (bit_at (isK (hour0 σ)) hj6) ?_
      refine ev_iconst (nI 1) dX4_hour_101 rfl ?_
      skip
      refine ev_icmp_ne 141 dX4_hour_102 (by decide) (fun h102 => ?_) (fun h102 => ?_)
      · refine ev_iinc (nI (j + 1)) dX4_hour_141 rfl (nI_1 j) (Nat.le_of_ble_eq_true rfl) rfl ?_
        refine ev_goto 90 dX4_hour_144 (by decide) ?_
        have e7 : dnN (isK (hour0 σ)) (lookN (hrN (hour0 σ) 8) 8, nI 0) (j + 1) = _ := dn_no (by rw [show (isK (hour0 σ)) j = false from b1_f h102]; rfl)
        have I := ih (j + 1) (by omega)
        rw [e7] at I
        exact ev_sub [0, 1, 2, 3] rfl I
      · have hb := b1_t h102
        refine ev_aload_n 0 dX4_hour_105 rfl rfl ?_
        refine ev_iload_n 3 dX4_hour_106 rfl rfl ?_
        refine ev_cV1 (c4_called _ _ _ _ (by omega)) kX4_called rfl g1204 rfl rfl rfl rfl dX4_hour_107 ?_
        refine ev_if_eq 141 dX4_hour_110 (by decide) (fun h110 => ?_) (fun h110 => ?_)
        · refine ev_iinc (nI (j + 1)) dX4_hour_141 rfl (nI_1 j) (Nat.le_of_ble_eq_true rfl) rfl ?_
          refine ev_goto 90 dX4_hour_144 (by decide) ?_
          have e7 : dnN (isK (hour0 σ)) (lookN (hrN (hour0 σ) 8) 8, nI 0) (j + 1) = _ := dn_no (by rw [bI_0.mp h110, Bool.and_false])
          have I := ih (j + 1) (by omega)
          rw [e7] at I
          exact ev_sub [0, 1, 2, 3] rfl I
        · refine ev_aload_n 0 dX4_hour_113 rfl rfl ?_
          refine ev_iload_n 3 dX4_hour_114 rfl rfl ?_
          refine ev_bipush (nI 8) dX4_hour_115 rfl ?_
          refine ev_iconst (-1) dX4_hour_117 rfl ?_
          refine ev_cV3v (c4_grow _ _ _ _ (by omega) (by omega) _) kX4_grow rfl g1235 rfl rfl rfl rfl dX4_hour_118 ?_
          refine ev_aload_n 0 dX4_hour_121 rfl rfl ?_
          refine ev_iload_n 3 dX4_hour_122 rfl rfl ?_
          refine ev_bipush (nI 8) dX4_hour_123 rfl ?_
          refine ev_cV2 (c4_of _ _ _ _ (by omega) (by omega)) kX4_of rfl g1188 rfl rfl rfl rfl dX4_hour_125 ?_
          refine ev_if_ne 141 dX4_hour_128 (by decide) (fun h128 => ?_) (fun h128 => ?_)
          · refine ev_iinc (nI (j + 1)) dX4_hour_141 rfl (nI_1 j) (Nat.le_of_ble_eq_true rfl) rfl ?_
            refine ev_goto 90 dX4_hour_144 (by decide) ?_
            have e7 : dnN (isK (hour0 σ)) (lookN (hrN (hour0 σ) 8) 8, nI 0) (j + 1) = _ := dn_low hb (bI_1.mp h110) h128
            have I := ih (j + 1) (by omega)
            rw [e7] at I
            exact ev_sub [0, 1, 2, 3] rfl I
          · have hn := NP_low hj6 (NP_dnN (b := isK (hour0 σ)) (p := (lookN (hrN (hour0 σ) 8) 8, nI 0)) (NP_look (NP_hr (NP_h0 hN))) j (by omega)) j hj6
            refine ev_aload_n 0 dX4_hour_131 rfl rfl ?_
            refine ev_iload_n 3 dX4_hour_132 rfl rfl ?_
            refine ev_cV1 (c4_sellsOut _ _ _ _ hj6 hn) kX4_sellsOut rfl g1299 rfl rfl rfl rfl dX4_hour_133 ?_
            refine ev_istore dX4_hour_136 (Nat.le_of_ble_eq_true rfl) rfl ?_
            refine ev_iinc ((dnN (isK (hour0 σ)) (lookN (hrN (hour0 σ) 8) 8, nI 0) j).2 + nI 1) dX4_hour_138 rfl (rfl) (Nat.le_of_ble_eq_true rfl) rfl ?_
            refine ev_iinc (nI (j + 1)) dX4_hour_141 rfl (nI_1 j) (Nat.le_of_ble_eq_true rfl) rfl ?_
            refine ev_goto 90 dX4_hour_144 (by decide) ?_
            have e7 : dnN (isK (hour0 σ)) (lookN (hrN (hour0 σ) 8) 8, nI 0) (j + 1) = _ := dn_sell hb (bI_1.mp h110) h128
            have I := ih (j + 1) (by omega)
            rw [e7] at I
            exact ev_sub [0, 1, 3, 4] rfl I
  | succ fu ih =>
    intro j hj
    have hj6 : j < 8 := by omega
    refine ev_iload_n 2 dX4_hour_15 rfl rfl ?_
    refine ev_bipush (nI 8) dX4_hour_16 rfl ?_
    refine ev_icmp_ge 82 dX4_hour_18 (by decide) (fun h18 => absurd h18 (nI_ge hj6 (by omega))) (fun h18 => ?_)
    refine ev_aload_n 0 dX4_hour_21 rfl rfl ?_
    refine ev_iload_n 2 dX4_hour_22 rfl rfl ?_
    refine ev_bipush (nI 7) dX4_hour_23 rfl ?_
    refine ev_cV2 (c4_of _ _ _ _ (by omega) (by omega)) kX4_of rfl g1188 rfl rfl rfl rfl dX4_hour_25 ?_
    refine ev_aload_n 0 dX4_hour_28 rfl rfl ?_
    refine ev_getfield 0 dX4_hour_29 foX4_7 rfl rfl ?_
    refine ev_bipush (nI 98) dX4_hour_32 rfl ?_
    refine ev_ild (98) dX4_hour_34 rfl (by simp only [nI_m, nI_add, ix, oI]) (by omega) rfl ?_
    refine ev_cS2 (c4_interestOf _ _ _) kX4_interestOf rfl g1296 rfl rfl dX4_hour_35 ?_
    refine ev_istore_n 3 dX4_hour_38 rfl (Nat.le_of_ble_eq_true rfl) rfl ?_
    refine ev_aload_n 0 dX4_hour_39 rfl rfl ?_
    refine ev_iload_n 2 dX4_hour_40 rfl rfl ?_
    refine ev_bipush (nI 7) dX4_hour_41 rfl ?_
    refine ev_iload_n 3 dX4_hour_43 rfl rfl ?_
    refine ev_cV3v (c4_grow _ _ _ _ (by omega) (by omega) _) kX4_grow rfl g1235 rfl rfl rfl rfl dX4_hour_44 ?_
    refine ev_aload_n 0 dX4_hour_47 rfl rfl ?_
    refine ev_getfield 0 dX4_hour_48 foX4_7 rfl rfl ?_
    refine ev_bipush (nI 104) dX4_hour_51 rfl ?_
    refine ev_dup2 dX4_hour_53 rfl rfl ?_
    refine ev_ild (104) dX4_hour_54 rfl (by simp only [nI_m, nI_add, ix, oI]) (by omega) rfl ?_
    refine ev_iload_n 3 dX4_hour_55 rfl rfl ?_
    refine ev_iadd dX4_hour_56 ?_
    refine ev_ist (104) dX4_hour_57 rfl (by simp only [nI_m, nI_add, ix, oI]) (by omega) rfl (rw_s _ _ _ _ _) ?_
    refine ev_iload_n 1 dX4_hour_58 rfl rfl ?_
    refine ev_aload_n 0 dX4_hour_59 rfl rfl ?_
    refine ev_iload_n 2 dX4_hour_60 rfl rfl ?_
    refine ev_w (w' := rw9 (hrN (hour0 σ) (j + 1)) z Y g) rfl ?_
    have e5 := c4_called (hrN (hour0 σ) (j + 1)) z Y g hj6
    rw [isK_hr hj6] at e5
    refine ev_cV1 (e5) kX4_called rfl g1204 rfl rfl rfl rfl dX4_hour_61 ?_
    suffices J64 : Ev mX4_hour (d1 (some (.int (hourS σ).2)) (rw9 (hourS σ).1 z Y g)) nx 0 74 [(2, .int (nI j)), (1, .int (bitN (isK (hour0 σ)) j)), (3, .int (intI (hrN (hour0 σ) j) j)), (0, .ref 0)] [.int (if isK (hour0 σ) j = true then nI 1 <<< (nI j &&& 31) else nI 0), .int (bitN (isK (hour0 σ)) j)] (rw9 (hrN (hour0 σ) (j + 1)) z Y g) by
      refine ev_if_eq 73 dX4_hour_64 (by decide) (fun h64 => ?_) (fun h64 => ?_)
      · refine ev_iconst (nI 0) dX4_hour_73 rfl ?_
        exact ev_sub [1, 2, 0, 3] rfl (ev_top _ (by first | rw [if_pos (bI_1.mp h64)] | rw [if_neg (by rw [bI_0.mp h64]; decide)]) J64)
      · refine ev_iconst (nI 1) dX4_hour_67 rfl ?_
        refine ev_iload_n 2 dX4_hour_68 rfl rfl ?_
        refine ev_ishl dX4_hour_69 ?_
        refine ev_goto 74 dX4_hour_70 (by decide) ?_
        exact ev_sub [1, 2, 0, 3] rfl (ev_top _ (by first | rw [if_pos (bI_1.mp h64)] | rw [if_neg (by rw [bI_0.mp h64]; decide)]) J64)
    refine ev_ior dX4_hour_74 ?_
    refine ev_istore_n 1 dX4_hour_75 rfl (Nat.le_of_ble_eq_true rfl) rfl ?_
    refine ev_iinc (nI (j + 1)) dX4_hour_76 rfl (nI_1 j) (Nat.le_of_ble_eq_true rfl) rfl ?_
    refine ev_goto 15 dX4_hour_79 (by decide) ?_
    exact ev_sub [0, 1, 3] rfl (ih (j + 1) (by omega))
set_option maxHeartbeats 1000000 in
theorem c4_passes (σ z : Nat → Int32) (Y : RY) (g : PW) (hN : NP σ) {h : Nat} (hh : h ≤ 100) : Ct mX4_passes [.ref 0, .int (nI h)] (rw9 σ z Y g) (d1 (some (.int (pasN σ h).2)) (rw9 (pasN σ h).1 z Y g)) nx := by
  refine ct_of 1 kX4_passes.1 rfl (Nat.le_of_ble_eq_true rfl) (fun v u h => by obtain ⟨rfl, rfl⟩ := h; exact rfl) ?_
  show Ev _ _ _ 0 0 [(0, .ref 0), (1, .int (nI h))] [] _
  refine ev_iconst (nI 0) dX4_passes_0 rfl ?_
  refine ev_istore_n 2 dX4_passes_1 rfl (Nat.le_of_ble_eq_true rfl) rfl ?_
  refine ev_iconst (nI 0) dX4_passes_2 rfl ?_
  refine ev_istore_n 3 dX4_passes_3 rfl (Nat.le_of_ble_eq_true rfl) rfl ?_
  suffices H : ∀ fu j, j + fu = h → Ev mX4_passes (d1 (some (.int (pasN σ h).2)) (rw9 (pasN σ h).1 z Y g)) nx 0 4 [(3, .int (nI (j))), (2, .int (pasN σ (j)).2), (0, .ref 0), (1, .int (nI h))] [] (rw9 (pasN σ (j)).1 z Y g) from ev_sub [0, 1, 2, 3] rfl (H h 0 (Nat.zero_add _))
  intro fu
  induction fu with
  | zero =>
    intro j hj
    obtain rfl : h = j := by omega
    refine ev_iload_n 3 dX4_passes_4 rfl rfl ?_
    refine ev_iload_n 1 dX4_passes_5 rfl rfl ?_
    refine ev_icmp_ge 22 dX4_passes_6 (by decide) (fun h6 => ?_) (fun h6 => absurd (nI_le (Nat.le_refl h) (by omega)) h6)
    refine ev_iload_n 2 dX4_passes_22 rfl rfl ?_
    exact ev_ireturn dX4_passes_23 (Nat.le_of_ble_eq_true rfl) ⟨rfl, rfl⟩
  | succ fu ih =>
    intro j hj
    have hj6 : j < h := by omega
    refine ev_iload_n 3 dX4_passes_4 rfl rfl ?_
    refine ev_iload_n 1 dX4_passes_5 rfl rfl ?_
    refine ev_icmp_ge 22 dX4_passes_6 (by decide) (fun h6 => absurd h6 (nI_ge hj6 (by omega))) (fun h6 => ?_)
    refine ev_iload_n 2 dX4_passes_9 rfl rfl ?_
    refine ev_aload_n 0 dX4_passes_10 rfl rfl ?_
    refine ev_cV0 (c4_hour _ _ _ _ (NP_pas hN j)) kX4_hour rfl g1292 rfl rfl rfl rfl dX4_passes_11 ?_
    refine ev_iadd dX4_passes_14 ?_
    refine ev_istore_n 2 dX4_passes_15 rfl (Nat.le_of_ble_eq_true rfl) rfl ?_
    refine ev_iinc (nI (j + 1)) dX4_passes_16 rfl (nI_1 j) (Nat.le_of_ble_eq_true rfl) rfl ?_
    refine ev_goto 4 dX4_passes_19 (by decide) ?_
    exact ev_sub [0, 1, 2, 3] rfl (ih (j + 1) (by omega))
set_option maxHeartbeats 1000000 in
theorem p4_pass_1 (σ z : Nat → Int32) (Y : RY) (g : PW) {v : Int32} (h : inB v (nI 1) (nI 100) = false) : Ct mX4_pass [.ref 0, .int v] (rw9 σ z Y g) (d1 (some (.int (nI 0))) (rw9 σ (upd (upd z 2 (nI 0)) 2 (nI 1)) Y g)) nx := by
  refine ct_of 1 kX4_pass.1 rfl (Nat.le_of_ble_eq_true rfl) (fun v u h => by obtain ⟨rfl, rfl⟩ := h; exact rfl) ?_
  show Ev _ _ _ 0 0 [(0, .ref 0), (1, .int v)] [] _
  refine ev_aload_n 0 dX4_pass_0 rfl rfl ?_
  refine ev_iconst (nI 0) dX4_pass_1 rfl ?_
  refine ev_putfield 8 dX4_pass_2 fpX4_29 rfl (Nat.le_of_ble_eq_true rfl) (fun _ => rfl) (fun _ => rfl) (rz2 _ _ _ _ _) ?_
  refine ev_iload_n 1 dX4_pass_5 rfl rfl ?_
  refine ev_iconst (nI 1) dX4_pass_6 rfl ?_
  refine ev_bipush (nI 100) dX4_pass_7 rfl ?_
  refine ev_cS3 (c4_in0 _ h) kX4_in rfl g1165 rfl rfl dX4_pass_9 ?_
  refine ev_if_ne 21 dX4_pass_12 (by decide) (fun h12 => absurd (by decide) h12) (fun h12 => ?_)
  refine ev_aload_n 0 dX4_pass_15 rfl rfl ?_
  refine ev_iconst (nI 1) dX4_pass_16 rfl ?_
  refine ev_cV1 (c4_throwing _ _ _ _ _) kX4_throwing rfl g1172 rfl rfl rfl rfl dX4_pass_17 ?_
  exact ev_ireturn dX4_pass_20 (Nat.le_of_ble_eq_true rfl) ⟨rfl, rfl⟩
set_option maxHeartbeats 1000000 in
theorem p4_pass_0 (σ z : Nat → Int32) (Y : RY) (g : PW) (hN : NP σ) {q : Nat} (hq : q ≤ 100) (h : inB (nI q) (nI 1) (nI 100) = true) {n : Nat} (hn : n ≤ 6) (hz : z 0 = nI n) : Ct mX4_pass [.ref 0, .int (nI q)] (rw9 σ z Y g) (d1 (some (.int ((pasN σ q).2))) (rw9 (lookN ((pasN σ q).1) 8) (svZ (upd z 2 (nI 0)) n) (svY σ Y n) g)) nx := by
  refine ct_of 1 kX4_pass.1 rfl (Nat.le_of_ble_eq_true rfl) (fun v u h => by obtain ⟨rfl, rfl⟩ := h; exact rfl) ?_
  show Ev _ _ _ 0 0 [(0, .ref 0), (1, .int (nI q))] [] _
  refine ev_aload_n 0 dX4_pass_0 rfl rfl ?_
  refine ev_iconst (nI 0) dX4_pass_1 rfl ?_
  refine ev_putfield 8 dX4_pass_2 fpX4_29 rfl (Nat.le_of_ble_eq_true rfl) (fun _ => rfl) (fun _ => rfl) (rz2 _ _ _ _ _) ?_
  refine ev_iload_n 1 dX4_pass_5 rfl rfl ?_
  refine ev_iconst (nI 1) dX4_pass_6 rfl ?_
  refine ev_bipush (nI 100) dX4_pass_7 rfl ?_
  refine ev_cS3 (c4_in1 _ h) kX4_in rfl g1165 rfl rfl dX4_pass_9 ?_
  refine ev_if_ne 21 dX4_pass_12 (by decide) (fun h12 => ?_) (fun h12 => absurd h12 (by decide))
  refine ev_aload_n 0 dX4_pass_21 rfl rfl ?_
  refine ev_cV0v (c4_save _ _ _ _ hn ((upd_n _ _ (by decide)).trans hz)) kX4_save rfl g1176 rfl rfl rfl rfl dX4_pass_22 ?_
  refine ev_aload_n 0 dX4_pass_25 rfl rfl ?_
  refine ev_iload_n 1 dX4_pass_26 rfl rfl ?_
  refine ev_cV1 (c4_passes _ _ _ _ (by assumption) (by omega)) kX4_passes rfl g1288 rfl rfl rfl rfl dX4_pass_27 ?_
  refine ev_istore_n 2 dX4_pass_30 rfl (Nat.le_of_ble_eq_true rfl) rfl ?_
  refine ev_aload_n 0 dX4_pass_31 rfl rfl ?_
  refine ev_cV0v (c4_looks _ _ _ _) kX4_looks rfl g1180 rfl rfl rfl rfl dX4_pass_32 ?_
  refine ev_iload_n 2 dX4_pass_35 rfl rfl ?_
  exact ev_ireturn dX4_pass_36 (Nat.le_of_ble_eq_true rfl) ⟨rfl, rfl⟩
set_option maxHeartbeats 1000000 in
theorem p4_keep_1 (σ z : Nat → Int32) (Y : RY) (g : PW) {v : Int32} (h : inB v (nI 0) (nI 1) = false) : Ct mX4_keep [.ref 0, .int v] (rw9 σ z Y g) (d1 none (rw9 σ (upd z 2 (nI 1)) Y g)) nx := by
  refine ct_of 1 kX4_keep.1 rfl (Nat.le_of_ble_eq_true rfl) (fun v u h => by obtain ⟨rfl, rfl⟩ := h; exact trivial) ?_
  show Ev _ _ _ 0 0 [(0, .ref 0), (1, .int v)] [] _
  refine ev_aload_n 0 dX4_keep_0 rfl rfl ?_
  refine ev_iload_n 1 dX4_keep_1 rfl rfl ?_
  refine ev_iconst (nI 0) dX4_keep_2 rfl ?_
  refine ev_iconst (nI 1) dX4_keep_3 rfl ?_
  refine ev_cS3 (c4_in0 _ h) kX4_in rfl g1165 rfl rfl dX4_keep_4 ?_
  refine ev_if_eq 14 dX4_keep_7 (by decide) (fun h7 => ?_) (fun h7 => absurd (by decide) h7)
  refine ev_iconst (nI 1) dX4_keep_14 rfl ?_
  refine ev_putfield 8 dX4_keep_15 fpX4_29 rfl (Nat.le_of_ble_eq_true rfl) (fun _ => rfl) (fun _ => rfl) (rz2 _ _ _ _ _) ?_
  refine ev_iconst (nI 0) dX4_keep_18 rfl ?_
  refine ev_istore_n 2 dX4_keep_19 rfl (Nat.le_of_ble_eq_true rfl) rfl ?_
  refine ev_iload_n 2 dX4_keep_20 rfl rfl ?_
  refine ev_bipush (nI 109) dX4_keep_21 rfl ?_
  refine ev_icmp_ge 56 dX4_keep_23 (by decide) (fun h23 => absurd h23 (by decide)) (fun h23 => ?_)
  refine ev_aload_n 0 dX4_keep_26 rfl rfl ?_
  refine ev_getfield 8 dX4_keep_27 foX4_29 rfl rfl ?_
  refine ev_if_ne 56 dX4_keep_30 (by decide) (fun h30 => ?_) (fun h30 => absurd h30 (by show ¬ upd z 2 (nI 1) 2 = 0; rw [upd_s]; decide))
  refine ev_aload_n 0 dX4_keep_56 rfl rfl ?_
  refine ev_getfield 8 dX4_keep_57 foX4_29 rfl rfl ?_
  refine ev_if_ne 70 dX4_keep_60 (by decide) (fun h60 => ?_) (fun h60 => absurd h60 (by show ¬ upd z 2 (nI 1) 2 = 0; rw [upd_s]; decide))
  exact ev_return dX4_keep_70 (Nat.le_of_ble_eq_true rfl) ⟨rfl, rfl⟩
set_option maxHeartbeats 1000000 in
theorem p4_keep_0 (σ z : Nat → Int32) (Y : RY) (g : PW) {q : Nat} (hq : q < 2) : Ct mX4_keep [.ref 0, .int (nI q)] (rw9 σ z Y g) (d1 none (rw9 σ (upd z 2 (nI 0)) (Y.1, va_cpy σ Y.2.1 0 (109 * q) 109, upd Y.2.2.1 q (nI 1), Y.2.2.2) g)) nx := by
  refine ct_of 1 kX4_keep.1 rfl (Nat.le_of_ble_eq_true rfl) (fun v u h => by obtain ⟨rfl, rfl⟩ := h; exact trivial) ?_
  show Ev _ _ _ 0 0 [(0, .ref 0), (1, .int (nI q))] [] _
  refine ev_aload_n 0 dX4_keep_0 rfl rfl ?_
  refine ev_iload_n 1 dX4_keep_1 rfl rfl ?_
  refine ev_iconst (nI 0) dX4_keep_2 rfl ?_
  refine ev_iconst (nI 1) dX4_keep_3 rfl ?_
  refine ev_cS3 (c4_in1 _ (inB_nat (by omega) (by omega))) kX4_in rfl g1165 rfl rfl dX4_keep_4 ?_
  refine ev_if_eq 14 dX4_keep_7 (by decide) (fun h7 => absurd h7 (by decide)) (fun h7 => ?_)
  refine ev_iconst (nI 0) dX4_keep_10 rfl ?_
  refine ev_goto 15 dX4_keep_11 (by decide) ?_
  refine ev_putfield 8 dX4_keep_15 fpX4_29 rfl (Nat.le_of_ble_eq_true rfl) (fun _ => rfl) (fun _ => rfl) (rz2 _ _ _ _ _) ?_
  refine ev_iconst (nI 0) dX4_keep_18 rfl ?_
  refine ev_istore_n 2 dX4_keep_19 rfl (Nat.le_of_ble_eq_true rfl) rfl ?_
  refine ev_w (w' := rw9 σ (upd z 2 (nI 0)) (Y.1, va_cpy σ Y.2.1 0 (109 * q) 0, Y.2.2) g) (by rw [cpy_0]) ?_
  suffices H : ∀ fu j, j + fu = 109 → Ev mX4_keep (d1 none (rw9 σ (upd z 2 (nI 0)) (Y.1, va_cpy σ Y.2.1 0 (109 * q) 109, upd Y.2.2.1 q (nI 1), Y.2.2.2) g)) nx 0 20 [(2, .int (nI (j))), (0, .ref 0), (1, .int (nI q))] [] (rw9 σ (upd z 2 (nI 0)) (Y.1, va_cpy σ Y.2.1 0 (109 * q) j, Y.2.2) g) from ev_sub [0, 1, 2] rfl (H 109 0 (Nat.zero_add _))
  intro fu
  induction fu with
  | zero =>
    intro j hj
    obtain rfl : 109 = j := by omega
    refine ev_iload_n 2 dX4_keep_20 rfl rfl ?_
    refine ev_bipush (nI 109) dX4_keep_21 rfl ?_
    refine ev_icmp_ge 56 dX4_keep_23 (by decide) (fun h23 => ?_) (fun h23 => absurd (nI_le (Nat.le_refl 109) (by omega)) h23)
    refine ev_aload_n 0 dX4_keep_56 rfl rfl ?_
    refine ev_getfield 8 dX4_keep_57 foX4_29 rfl rfl ?_
    refine ev_if_ne 70 dX4_keep_60 (by decide) (fun h60 => absurd (by show upd z 2 (nI 0) 2 = 0; rw [upd_s]; rfl) h60) (fun h60 => ?_)
    refine ev_aload_n 0 dX4_keep_63 rfl rfl ?_
    refine ev_getfield 4 dX4_keep_64 foX4_19 rfl rfl ?_
    refine ev_iload_n 1 dX4_keep_67 rfl rfl ?_
    refine ev_iconst (nI 1) dX4_keep_68 rfl ?_
    refine ev_bst q dX4_keep_69 rfl rfl (by omega) rfl rfl (rw_K _ _ _ _ _) ?_
    exact ev_return dX4_keep_70 (Nat.le_of_ble_eq_true rfl) ⟨rfl, rfl⟩
  | succ fu ih =>
    intro j hj
    have hj6 : j < 109 := by omega
    refine ev_iload_n 2 dX4_keep_20 rfl rfl ?_
    refine ev_bipush (nI 109) dX4_keep_21 rfl ?_
    refine ev_icmp_ge 56 dX4_keep_23 (by decide) (fun h23 => absurd h23 (nI_ge hj6 (by omega))) (fun h23 => ?_)
    refine ev_aload_n 0 dX4_keep_26 rfl rfl ?_
    refine ev_getfield 8 dX4_keep_27 foX4_29 rfl rfl ?_
    refine ev_if_ne 56 dX4_keep_30 (by decide) (fun h30 => absurd (by show upd z 2 (nI 0) 2 = 0; rw [upd_s]; rfl) h30) (fun h30 => ?_)
    refine ev_aload_n 0 dX4_keep_33 rfl rfl ?_
    refine ev_getfield 3 dX4_keep_34 foX4_16 rfl rfl ?_
    refine ev_bipush (nI 109) dX4_keep_37 rfl ?_
    refine ev_iload_n 1 dX4_keep_39 rfl rfl ?_
    refine ev_imul dX4_keep_40 ?_
    refine ev_iload_n 2 dX4_keep_41 rfl rfl ?_
    refine ev_iadd dX4_keep_42 ?_
    refine ev_aload_n 0 dX4_keep_43 rfl rfl ?_
    refine ev_getfield 0 dX4_keep_44 foX4_7 rfl rfl ?_
    refine ev_iload_n 2 dX4_keep_47 rfl rfl ?_
    refine ev_ild (j) dX4_keep_48 rfl (by simp only [nI_m, nI_add, ix, oI]) (by omega) rfl ?_
    refine ev_ist (109 * q + j) dX4_keep_49 rfl (by simp only [nI_m, nI_add, ix, oI]) (by omega) rfl (rw_S _ _ _ _ _) ?_
    refine ev_w (w' := rw9 σ (upd z 2 (nI 0)) (Y.1, va_cpy σ Y.2.1 0 (109 * q) (j + 1), Y.2.2) g) (by rw [← cpy_s (f := σ) (dp := 109 * q) (sp := 0) (n := j) (x := σ j) (by rw [Nat.zero_add])]) ?_
    refine ev_iinc (nI (j + 1)) dX4_keep_50 rfl (nI_1 j) (Nat.le_of_ble_eq_true rfl) rfl ?_
    refine ev_goto 20 dX4_keep_53 (by decide) ?_
    exact ev_sub [0, 1, 2] rfl (ih (j + 1) (by omega))
set_option maxHeartbeats 1000000 in
theorem p4_goBack_1 (σ z : Nat → Int32) (Y : RY) (g : PW) {v : Int32} (h : inB v (nI 0) (nI 1) = false) : Ct mX4_goBack [.ref 0, .int v] (rw9 σ z Y g) (d1 none (rw9 σ (upd z 2 (nI 1)) Y g)) nx := by
  refine ct_of 1 kX4_goBack.1 rfl (Nat.le_of_ble_eq_true rfl) (fun v u h => by obtain ⟨rfl, rfl⟩ := h; exact trivial) ?_
  show Ev _ _ _ 0 0 [(0, .ref 0), (1, .int v)] [] _
  refine ev_aload_n 0 dX4_goBack_0 rfl rfl ?_
  refine ev_iload_n 1 dX4_goBack_1 rfl rfl ?_
  refine ev_iconst (nI 0) dX4_goBack_2 rfl ?_
  refine ev_iconst (nI 1) dX4_goBack_3 rfl ?_
  refine ev_cS3 (c4_in0 _ h) kX4_in rfl g1165 rfl rfl dX4_goBack_4 ?_
  refine ev_if_ne 14 dX4_goBack_7 (by decide) (fun h7 => absurd (by decide) h7) (fun h7 => ?_)
  refine ev_iconst (nI 1) dX4_goBack_10 rfl ?_
  refine ev_goto 28 dX4_goBack_11 (by decide) ?_
  refine ev_putfield 8 dX4_goBack_28 fpX4_29 rfl (Nat.le_of_ble_eq_true rfl) (fun _ => rfl) (fun _ => rfl) (rz2 _ _ _ _ _) ?_
  refine ev_aload_n 0 dX4_goBack_31 rfl rfl ?_
  refine ev_getfield 8 dX4_goBack_32 foX4_29 rfl rfl ?_
  refine ev_if_ne 73 dX4_goBack_35 (by decide) (fun h35 => ?_) (fun h35 => absurd h35 (by show ¬ upd z 2 (nI 1) 2 = 0; rw [upd_s]; decide))
  exact ev_return dX4_goBack_73 (Nat.le_of_ble_eq_true rfl) ⟨rfl, rfl⟩
set_option maxHeartbeats 1000000 in
theorem p4_goBack_2 (σ z : Nat → Int32) (Y : RY) (g : PW) {q : Nat} (hq : q < 2) (h : Y.2.2.1 q = 0) : Ct mX4_goBack [.ref 0, .int (nI q)] (rw9 σ z Y g) (d1 none (rw9 σ (upd z 2 (nI 2)) Y g)) nx := by
  refine ct_of 1 kX4_goBack.1 rfl (Nat.le_of_ble_eq_true rfl) (fun v u h => by obtain ⟨rfl, rfl⟩ := h; exact trivial) ?_
  show Ev _ _ _ 0 0 [(0, .ref 0), (1, .int (nI q))] [] _
  refine ev_aload_n 0 dX4_goBack_0 rfl rfl ?_
  refine ev_iload_n 1 dX4_goBack_1 rfl rfl ?_
  refine ev_iconst (nI 0) dX4_goBack_2 rfl ?_
  refine ev_iconst (nI 1) dX4_goBack_3 rfl ?_
  refine ev_cS3 (c4_in1 _ (inB_nat (by omega) (by omega))) kX4_in rfl g1165 rfl rfl dX4_goBack_4 ?_
  refine ev_if_ne 14 dX4_goBack_7 (by decide) (fun h7 => ?_) (fun h7 => absurd h7 (by decide))
  refine ev_aload_n 0 dX4_goBack_14 rfl rfl ?_
  refine ev_getfield 4 dX4_goBack_15 foX4_19 rfl rfl ?_
  refine ev_iload_n 1 dX4_goBack_18 rfl rfl ?_
  refine ev_bld q dX4_goBack_19 rfl rfl (by omega) rfl ?_
  refine ev_if_eq 27 dX4_goBack_20 (by decide) (fun h20 => ?_) (fun h20 => absurd h h20)
  refine ev_iconst (nI 2) dX4_goBack_27 rfl ?_
  refine ev_putfield 8 dX4_goBack_28 fpX4_29 rfl (Nat.le_of_ble_eq_true rfl) (fun _ => rfl) (fun _ => rfl) (rz2 _ _ _ _ _) ?_
  refine ev_aload_n 0 dX4_goBack_31 rfl rfl ?_
  refine ev_getfield 8 dX4_goBack_32 foX4_29 rfl rfl ?_
  refine ev_if_ne 73 dX4_goBack_35 (by decide) (fun h35 => ?_) (fun h35 => absurd h35 (by show ¬ upd z 2 (nI 2) 2 = 0; rw [upd_s]; decide))
  exact ev_return dX4_goBack_73 (Nat.le_of_ble_eq_true rfl) ⟨rfl, rfl⟩
set_option maxHeartbeats 1000000 in
theorem p4_goBack_0 (σ z : Nat → Int32) (Y : RY) (g : PW) {q : Nat} (hq : q < 2) (h : ¬ Y.2.2.1 q = 0) {n : Nat} (hn : n ≤ 6) (hz : z 0 = nI n) : Ct mX4_goBack [.ref 0, .int (nI q)] (rw9 σ z Y g) (d1 none (rw9 (va_cpy (fun k => Y.2.1 (109 * q + k)) σ 0 0 109) (svZ (upd z 2 (nI 0)) n) (svY σ Y n) g)) nx := by
  refine ct_of 1 kX4_goBack.1 rfl (Nat.le_of_ble_eq_true rfl) (fun v u h => by obtain ⟨rfl, rfl⟩ := h; exact trivial) ?_
  show Ev _ _ _ 0 0 [(0, .ref 0), (1, .int (nI q))] [] _
  refine ev_aload_n 0 dX4_goBack_0 rfl rfl ?_
  refine ev_iload_n 1 dX4_goBack_1 rfl rfl ?_
  refine ev_iconst (nI 0) dX4_goBack_2 rfl ?_
  refine ev_iconst (nI 1) dX4_goBack_3 rfl ?_
  refine ev_cS3 (c4_in1 _ (inB_nat (by omega) (by omega))) kX4_in rfl g1165 rfl rfl dX4_goBack_4 ?_
  refine ev_if_ne 14 dX4_goBack_7 (by decide) (fun h7 => ?_) (fun h7 => absurd h7 (by decide))
  refine ev_aload_n 0 dX4_goBack_14 rfl rfl ?_
  refine ev_getfield 4 dX4_goBack_15 foX4_19 rfl rfl ?_
  refine ev_iload_n 1 dX4_goBack_18 rfl rfl ?_
  refine ev_bld q dX4_goBack_19 rfl rfl (by omega) rfl ?_
  refine ev_if_eq 27 dX4_goBack_20 (by decide) (fun h20 => absurd h20 h) (fun h20 => ?_)
  refine ev_iconst (nI 0) dX4_goBack_23 rfl ?_
  refine ev_goto 28 dX4_goBack_24 (by decide) ?_
  refine ev_putfield 8 dX4_goBack_28 fpX4_29 rfl (Nat.le_of_ble_eq_true rfl) (fun _ => rfl) (fun _ => rfl) (rz2 _ _ _ _ _) ?_
  refine ev_aload_n 0 dX4_goBack_31 rfl rfl ?_
  refine ev_getfield 8 dX4_goBack_32 foX4_29 rfl rfl ?_
  refine ev_if_ne 73 dX4_goBack_35 (by decide) (fun h35 => absurd (by show upd z 2 (nI 0) 2 = 0; rw [upd_s]; rfl) h35) (fun h35 => ?_)
  refine ev_aload_n 0 dX4_goBack_38 rfl rfl ?_
  refine ev_cV0v (c4_save _ _ _ _ hn ((upd_n _ _ (by decide)).trans hz)) kX4_save rfl g1176 rfl rfl rfl rfl dX4_goBack_39 ?_
  refine ev_iconst (nI 0) dX4_goBack_42 rfl ?_
  refine ev_istore_n 2 dX4_goBack_43 rfl (Nat.le_of_ble_eq_true rfl) rfl ?_
  refine ev_w (w' := rw9 (va_cpy (fun k => Y.2.1 (109 * q + k)) σ 0 0 0) (svZ (upd z 2 (nI 0)) n) (svY σ Y n) g) (by rw [cpy_0]) ?_
  suffices H : ∀ fu j, j + fu = 109 → Ev mX4_goBack (d1 none (rw9 (va_cpy (fun k => Y.2.1 (109 * q + k)) σ 0 0 109) (svZ (upd z 2 (nI 0)) n) (svY σ Y n) g)) nx 0 44 [(2, .int (nI (j))), (0, .ref 0), (1, .int (nI q))] [] (rw9 (va_cpy (fun k => Y.2.1 (109 * q + k)) σ 0 0 j) (svZ (upd z 2 (nI 0)) n) (svY σ Y n) g) from ev_sub [0, 1, 2] rfl (H 109 0 (Nat.zero_add _))
  intro fu
  induction fu with
  | zero =>
    intro j hj
    obtain rfl : 109 = j := by omega
    refine ev_iload_n 2 dX4_goBack_44 rfl rfl ?_
    refine ev_bipush (nI 109) dX4_goBack_45 rfl ?_
    refine ev_icmp_ge 73 dX4_goBack_47 (by decide) (fun h47 => ?_) (fun h47 => absurd (nI_le (Nat.le_refl 109) (by omega)) h47)
    exact ev_return dX4_goBack_73 (Nat.le_of_ble_eq_true rfl) ⟨rfl, rfl⟩
  | succ fu ih =>
    intro j hj
    have hj6 : j < 109 := by omega
    refine ev_iload_n 2 dX4_goBack_44 rfl rfl ?_
    refine ev_bipush (nI 109) dX4_goBack_45 rfl ?_
    refine ev_icmp_ge 73 dX4_goBack_47 (by decide) (fun h47 => absurd h47 (nI_ge hj6 (by omega))) (fun h47 => ?_)
    refine ev_aload_n 0 dX4_goBack_50 rfl rfl ?_
    refine ev_getfield 0 dX4_goBack_51 foX4_7 rfl rfl ?_
    refine ev_iload_n 2 dX4_goBack_54 rfl rfl ?_
    refine ev_aload_n 0 dX4_goBack_55 rfl rfl ?_
    refine ev_getfield 3 dX4_goBack_56 foX4_16 rfl rfl ?_
    refine ev_bipush (nI 109) dX4_goBack_59 rfl ?_
    refine ev_iload_n 1 dX4_goBack_61 rfl rfl ?_
    refine ev_imul dX4_goBack_62 ?_
    refine ev_iload_n 2 dX4_goBack_63 rfl rfl ?_
    refine ev_iadd dX4_goBack_64 ?_
    refine ev_ild (109 * q + j) dX4_goBack_65 rfl (by simp only [nI_m, nI_add, ix, oI]) (by omega) rfl ?_
    refine ev_ist (j) dX4_goBack_66 rfl (by simp only [nI_m, nI_add, ix, oI]) (by omega) rfl (rw_s _ _ _ _ _) ?_
    refine ev_w (w' := rw9 (va_cpy (fun k => Y.2.1 (109 * q + k)) σ 0 0 (j + 1)) (svZ (upd z 2 (nI 0)) n) (svY σ Y n) g) (by rw [← cpy_s (f := fun k => Y.2.1 (109 * q + k)) (dp := 0) (sp := 0) (n := j) (x := Y.2.1 (109 * q + j)) (by rw [Nat.zero_add]), Nat.zero_add]; rfl) ?_
    refine ev_iinc (nI (j + 1)) dX4_goBack_67 rfl (nI_1 j) (Nat.le_of_ble_eq_true rfl) rfl ?_
    refine ev_goto 44 dX4_goBack_70 (by decide) ?_
    exact ev_sub [0, 1, 2] rfl (ih (j + 1) (by omega))
set_option maxHeartbeats 1000000 in
theorem p4_undo_1 (σ z : Nat → Int32) (Y : RY) (g : PW) (hz : z 0 = 0) : Ct mX4_undo [.ref 0] (rw9 σ z Y g) (d1 none (rw9 σ (upd z 2 (nI 1)) Y g)) nx := by
  refine ct_of 0 kX4_undo.1 rfl (Nat.le_of_ble_eq_true rfl) (fun v u h => by obtain ⟨rfl, rfl⟩ := h; exact trivial) ?_
  show Ev _ _ _ 0 0 [(0, .ref 0)] [] _
  refine ev_aload_n 0 dX4_undo_0 rfl rfl ?_
  refine ev_aload_n 0 dX4_undo_1 rfl rfl ?_
  refine ev_getfield 2 dX4_undo_2 foX4_37 rfl rfl ?_
  refine ev_if_ne 12 dX4_undo_5 (by decide) (fun h5 => absurd hz h5) (fun h5 => ?_)
  refine ev_iconst (nI 1) dX4_undo_8 rfl ?_
  refine ev_goto 13 dX4_undo_9 (by decide) ?_
  refine ev_putfield 8 dX4_undo_13 fpX4_29 rfl (Nat.le_of_ble_eq_true rfl) (fun _ => rfl) (fun _ => rfl) (rz2 _ _ _ _ _) ?_
  refine ev_aload_n 0 dX4_undo_16 rfl rfl ?_
  refine ev_getfield 8 dX4_undo_17 foX4_29 rfl rfl ?_
  refine ev_if_ne 67 dX4_undo_20 (by decide) (fun h20 => ?_) (fun h20 => absurd h20 (by show ¬ upd z 2 (nI 1) 2 = 0; rw [upd_s]; decide))
  exact ev_return dX4_undo_67 (Nat.le_of_ble_eq_true rfl) ⟨rfl, rfl⟩
set_option maxHeartbeats 1000000 in
theorem p4_undo_0 (σ z : Nat → Int32) (Y : RY) (g : PW) {n : Nat} (hn : n < 6) (hz : z 0 = nI (n + 1)) : Ct mX4_undo [.ref 0] (rw9 σ z Y g) (d1 none (rw9 (va_cpy (fun k => Y.1 (109 * n + k)) σ 0 0 109) (upd (upd z 2 (nI 0)) 0 (nI n)) Y g)) nx := by
  refine ct_of 0 kX4_undo.1 rfl (Nat.le_of_ble_eq_true rfl) (fun v u h => by obtain ⟨rfl, rfl⟩ := h; exact trivial) ?_
  show Ev _ _ _ 0 0 [(0, .ref 0)] [] _
  refine ev_aload_n 0 dX4_undo_0 rfl rfl ?_
  refine ev_aload_n 0 dX4_undo_1 rfl rfl ?_
  refine ev_getfield 2 dX4_undo_2 foX4_37 rfl rfl ?_
  refine ev_if_ne 12 dX4_undo_5 (by decide) (fun h5 => ?_) (fun h5 => absurd h5 (by rw [hz]; exact nI_ne0 (by omega) (by omega)))
  refine ev_iconst (nI 0) dX4_undo_12 rfl ?_
  refine ev_putfield 8 dX4_undo_13 fpX4_29 rfl (Nat.le_of_ble_eq_true rfl) (fun _ => rfl) (fun _ => rfl) (rz2 _ _ _ _ _) ?_
  refine ev_aload_n 0 dX4_undo_16 rfl rfl ?_
  refine ev_getfield 8 dX4_undo_17 foX4_29 rfl rfl ?_
  refine ev_if_ne 67 dX4_undo_20 (by decide) (fun h20 => absurd (by show upd z 2 (nI 0) 2 = 0; rw [upd_s]; rfl) h20) (fun h20 => ?_)
  refine ev_aload_n 0 dX4_undo_23 rfl rfl ?_
  refine ev_dup dX4_undo_24 rfl ?_
  refine ev_getfield 2 dX4_undo_25 foX4_37 rfl rfl ?_
  refine ev_iconst (nI 1) dX4_undo_28 rfl ?_
  refine ev_isub dX4_undo_29 ?_
  refine ev_top (nI n) (by show upd z 2 (nI 0) 0 - nI 1 = _; rw [upd_n _ _ (by decide), hz]; exact nI_pred n) ?_
  refine ev_putfield 2 dX4_undo_30 fpX4_37 rfl (Nat.le_of_ble_eq_true rfl) (fun _ => rfl) (fun _ => rfl) (rz0 _ _ _ _ _) ?_
  refine ev_iconst (nI 0) dX4_undo_33 rfl ?_
  refine ev_istore_n 1 dX4_undo_34 rfl (Nat.le_of_ble_eq_true rfl) rfl ?_
  refine ev_w (w' := rw9 (va_cpy (fun k => Y.1 (109 * n + k)) σ 0 0 0) (upd (upd z 2 (nI 0)) 0 (nI n)) Y g) (by rw [cpy_0]) ?_
  suffices H : ∀ fu j, j + fu = 109 → Ev mX4_undo (d1 none (rw9 (va_cpy (fun k => Y.1 (109 * n + k)) σ 0 0 109) (upd (upd z 2 (nI 0)) 0 (nI n)) Y g)) nx 0 35 [(1, .int (nI (j))), (0, .ref 0)] [] (rw9 (va_cpy (fun k => Y.1 (109 * n + k)) σ 0 0 j) (upd (upd z 2 (nI 0)) 0 (nI n)) Y g) from ev_sub [0, 1] rfl (H 109 0 (Nat.zero_add _))
  intro fu
  induction fu with
  | zero =>
    intro j hj
    obtain rfl : 109 = j := by omega
    refine ev_iload_n 1 dX4_undo_35 rfl rfl ?_
    refine ev_bipush (nI 109) dX4_undo_36 rfl ?_
    refine ev_icmp_ge 67 dX4_undo_38 (by decide) (fun h38 => ?_) (fun h38 => absurd (nI_le (Nat.le_refl 109) (by omega)) h38)
    exact ev_return dX4_undo_67 (Nat.le_of_ble_eq_true rfl) ⟨rfl, rfl⟩
  | succ fu ih =>
    intro j hj
    have hj6 : j < 109 := by omega
    refine ev_iload_n 1 dX4_undo_35 rfl rfl ?_
    refine ev_bipush (nI 109) dX4_undo_36 rfl ?_
    refine ev_icmp_ge 67 dX4_undo_38 (by decide) (fun h38 => absurd h38 (nI_ge hj6 (by omega))) (fun h38 => ?_)
    refine ev_aload_n 0 dX4_undo_41 rfl rfl ?_
    refine ev_getfield 0 dX4_undo_42 foX4_7 rfl rfl ?_
    refine ev_iload_n 1 dX4_undo_45 rfl rfl ?_
    refine ev_aload_n 0 dX4_undo_46 rfl rfl ?_
    refine ev_getfield 1 dX4_undo_47 foX4_13 rfl rfl ?_
    refine ev_bipush (nI 109) dX4_undo_50 rfl ?_
    refine ev_aload_n 0 dX4_undo_52 rfl rfl ?_
    refine ev_getfield 2 dX4_undo_53 foX4_37 rfl rfl ?_
    refine ev_top (nI n) (upd_s _ _ _) ?_
    refine ev_imul dX4_undo_56 ?_
    refine ev_iload_n 1 dX4_undo_57 rfl rfl ?_
    refine ev_iadd dX4_undo_58 ?_
    refine ev_ild (109 * n + j) dX4_undo_59 rfl (by simp only [nI_m, nI_add, ix, oI]) (by omega) rfl ?_
    refine ev_ist (j) dX4_undo_60 rfl (by simp only [nI_m, nI_add, ix, oI]) (by omega) rfl (rw_s _ _ _ _ _) ?_
    refine ev_w (w' := rw9 (va_cpy (fun k => Y.1 (109 * n + k)) σ 0 0 (j + 1)) (upd (upd z 2 (nI 0)) 0 (nI n)) Y g) (by rw [← cpy_s (f := fun k => Y.1 (109 * n + k)) (dp := 0) (sp := 0) (n := j) (x := Y.1 (109 * n + j)) (by rw [Nat.zero_add]), Nat.zero_add]) ?_
    refine ev_iinc (nI (j + 1)) dX4_undo_61 rfl (nI_1 j) (Nat.le_of_ble_eq_true rfl) rfl ?_
    refine ev_goto 35 dX4_undo_64 (by decide) ?_
    exact ev_sub [0, 1] rfl (ih (j + 1) (by omega))
