/-! ===== the class: changes of a ledger ===== -/
theorem HK_upd {τ : Nat → Int32} {i : Nat} {x : Int32} (h : HK τ) (hi : ∀ c, c < 8 → ix c 8 ≠ i) : HK (upd τ i x) := fun c hc => by rw [upd_n _ _ (hi c hc)]; exact h c hc
def canTk (τ : Nat → Int32) (c w : Nat) (m : Int32) : Nat → Int32 := upd τ (ix c w) (τ (ix c w) - m)
def lnd3 (τ : Nat → Int32) (c : Nat) (m : Int32) : Nat → Int32 := upd (upd τ (ix c 7) (τ (ix c 7) + m)) 103 (upd τ (ix c 7) (τ (ix c 7) + m) 103 + m)
def pay3 (τ : Nat → Int32) (c : Nat) (t : Int32) : Nat → Int32 := upd (upd τ (ix c 7) (τ (ix c 7) - t)) 105 (upd τ (ix c 7) (τ (ix c 7) - t) 105 + t)
def drpN (τ : Nat → Int32) (q : Int32) : Nat → Nat → Int32
  | 0 => τ
  | n + 1 => upd (drpN τ q n) n (fal3 (drpN τ q n n) q (nI 1))
theorem drpN_at {τ : Nat → Int32} {q : Int32} {i : Nat} : ∀ {n : Nat}, n ≤ i → drpN τ q n i = τ i
  | 0, _ => rfl
  | n + 1, h => by simp only [drpN]; rw [upd_n _ _ (by omega), drpN_at (by omega)]
theorem HK_drp {τ : Nat → Int32} {q : Int32} (h : HK τ) : HK (drpN τ q 6) := fun c hc => by rw [drpN_at (by simp only [ix]; omega)]; exact h c hc
def hrL0 (σ : Nat → Int32) (c : Nat) : Nat → Int32 := upd σ (ix c 7) (σ (ix c 7) + intL σ (σ (ix c 7)))
def hrL1 (σ : Nat → Int32) (c : Nat) : Nat → Int32 := upd (hrL0 σ c) 104 (hrL0 σ c 104 + intL σ (σ (ix c 7)))
def hrLN (σ : Nat → Int32) : Nat → Nat → Int32
  | 0 => σ
  | n + 1 => hrL1 (hrLN σ n) n
theorem upd_undo (τ : Nat → Int32) (i : Nat) (m : Int32) : upd (upd τ i (τ i - m)) i (upd τ i (τ i - m) i + m) = τ := by
  rw [upd_s, upd_twice, Int32.sub_add_cancel, upd_self]
set_option maxHeartbeats 1000000 in
theorem c0_putPrice (p : Nat → va_E) (sl pl ks rr τ : Nat → Int32) (g : PW) {k : Nat} (hk : k < 6) (v : Int32) (hK : HK τ) : Ct mX0_putPrice [.ref 17, .int (nI k), .int v] (nw p sl pl ks rr τ g) (d1 (some (.int (lkF (upd τ (k) v) 8))) (nw p sl pl ks rr (lookN (upd τ (k) v) 8) g)) nx := by
  refine ct_of 2 kX0_putPrice.1 rfl (Nat.le_of_ble_eq_true rfl) (fun v u h => by obtain ⟨rfl, rfl⟩ := h; exact rfl) ?_
  show Ev _ _ _ 0 0 [(0, .ref 17), (1, .int (nI k)), (2, .int v)] [] _
  refine ev_aload_n 0 dX0_putPrice_0 rfl rfl ?_
  refine ev_getfield 0 dX0_putPrice_1 foX0_9 rfl rfl ?_
  refine ev_iload_n 1 dX0_putPrice_4 rfl rfl ?_
  refine ev_iload_n 2 dX0_putPrice_5 rfl rfl ?_
  refine ev_ist (k) dX0_putPrice_6 rfl (by simp only [nI_m, nI_add, ix, oI]) (by omega) rfl (nw_prices _ _ _ _ _ _ _ hk _) ?_
  refine ev_aload_n 0 dX0_putPrice_7 rfl rfl ?_
  refine ev_cV0 (c0_look _ _ _ _ _ _ _ (HK_upd hK (fun c hc => by simp only [ix]; omega))) kX0_lookAtClients rfl g331 rfl rfl rfl rfl dX0_putPrice_8 ?_
  exact ev_ireturn dX0_putPrice_11 (Nat.le_of_ble_eq_true rfl) ⟨rfl, rfl⟩
set_option maxHeartbeats 1000000 in
theorem c0_putCut (p : Nat → va_E) (sl pl ks rr τ : Nat → Int32) (g : PW) {k : Nat} (hk : k < 6) (v : Int32) (hK : HK τ) : Ct mX0_putCut [.ref 17, .int (nI k), .int v] (nw p sl pl ks rr τ g) (d1 (some (.int (lkF (upd τ (6 + k) v) 8))) (nw p sl pl ks rr (lookN (upd τ (6 + k) v) 8) g)) nx := by
  refine ct_of 2 kX0_putCut.1 rfl (Nat.le_of_ble_eq_true rfl) (fun v u h => by obtain ⟨rfl, rfl⟩ := h; exact rfl) ?_
  show Ev _ _ _ 0 0 [(0, .ref 17), (1, .int (nI k)), (2, .int v)] [] _
  refine ev_aload_n 0 dX0_putCut_0 rfl rfl ?_
  refine ev_getfield 1 dX0_putCut_1 foX0_15 rfl rfl ?_
  refine ev_iload_n 1 dX0_putCut_4 rfl rfl ?_
  refine ev_iload_n 2 dX0_putCut_5 rfl rfl ?_
  refine ev_ist (k) dX0_putCut_6 rfl (by simp only [nI_m, nI_add, ix, oI]) (by omega) rfl (nw_cuts _ _ _ _ _ _ _ hk _) ?_
  refine ev_aload_n 0 dX0_putCut_7 rfl rfl ?_
  refine ev_cV0 (c0_look _ _ _ _ _ _ _ (HK_upd hK (fun c hc => by simp only [ix]; omega))) kX0_lookAtClients rfl g331 rfl rfl rfl rfl dX0_putCut_8 ?_
  exact ev_ireturn dX0_putCut_11 (Nat.le_of_ble_eq_true rfl) ⟨rfl, rfl⟩
set_option maxHeartbeats 1000000 in
theorem c0_dropPrices (p : Nat → va_E) (sl pl ks rr τ : Nat → Int32) (g : PW) (q : Int32) (hK : HK τ) : Ct mX0_dropPrices [.ref 17, .int q] (nw p sl pl ks rr τ g) (d1 (some (.int (lkF (drpN τ q 6) 8))) (nw p sl pl ks rr (lookN (drpN τ q 6) 8) g)) nx := by
  refine ct_of 1 kX0_dropPrices.1 rfl (Nat.le_of_ble_eq_true rfl) (fun v u h => by obtain ⟨rfl, rfl⟩ := h; exact rfl) ?_
  show Ev _ _ _ 0 0 [(0, .ref 17), (1, .int q)] [] _
  refine ev_iconst (nI 0) dX0_dropPrices_0 rfl ?_
  refine ev_istore_n 2 dX0_dropPrices_1 rfl (Nat.le_of_ble_eq_true rfl) rfl ?_
  suffices H : ∀ fu j, j + fu = 6 → Ev mX0_dropPrices (d1 (some (.int (lkF (drpN τ q 6) 8))) (nw p sl pl ks rr (lookN (drpN τ q 6) 8) g)) nx 0 2 [(2, .int (nI (j))), (0, .ref 17), (1, .int q)] [] (nw p sl pl ks rr (drpN τ q (j)) g) from ev_sub [0, 1, 2] rfl (H 6 0 (Nat.zero_add _))
  intro fu
  induction fu with
  | zero =>
    intro j hj
    obtain rfl : 6 = j := by omega
    refine ev_iload_n 2 dX0_dropPrices_2 rfl rfl ?_
    refine ev_bipush (nI 6) dX0_dropPrices_3 rfl ?_
    refine ev_icmp_ge 31 dX0_dropPrices_5 (by decide) (fun h5 => ?_) (fun h5 => absurd (nI_le (Nat.le_refl 6) (by omega)) h5)
    refine ev_aload_n 0 dX0_dropPrices_31 rfl rfl ?_
    refine ev_cV0 (c0_look _ _ _ _ _ _ _ (HK_drp hK)) kX0_lookAtClients rfl g331 rfl rfl rfl rfl dX0_dropPrices_32 ?_
    exact ev_ireturn dX0_dropPrices_35 (Nat.le_of_ble_eq_true rfl) ⟨rfl, rfl⟩
  | succ fu ih =>
    intro j hj
    have hj6 : j < 6 := by omega
    refine ev_iload_n 2 dX0_dropPrices_2 rfl rfl ?_
    refine ev_bipush (nI 6) dX0_dropPrices_3 rfl ?_
    refine ev_icmp_ge 31 dX0_dropPrices_5 (by decide) (fun h5 => absurd h5 (nI_ge hj6 (by omega))) (fun h5 => ?_)
    refine ev_aload_n 0 dX0_dropPrices_8 rfl rfl ?_
    refine ev_getfield 0 dX0_dropPrices_9 foX0_9 rfl rfl ?_
    refine ev_iload_n 2 dX0_dropPrices_12 rfl rfl ?_
    refine ev_aload_n 0 dX0_dropPrices_13 rfl rfl ?_
    refine ev_getfield 0 dX0_dropPrices_14 foX0_9 rfl rfl ?_
    refine ev_iload_n 2 dX0_dropPrices_17 rfl rfl ?_
    refine ev_ild (j) dX0_dropPrices_18 rfl (by simp only [nI_m, nI_add, ix, oI]) (by omega) rfl ?_
    refine ev_iload_n 1 dX0_dropPrices_19 rfl rfl ?_
    refine ev_iconst (nI 1) dX0_dropPrices_20 rfl ?_
    refine ev_cN3 (c3_fallen _ _ _ _) kX3_fallen rfl (fun _ _ _ _ h => h.1.2.1) rfl rfl dX0_dropPrices_21 ?_
    refine ev_ist (j) dX0_dropPrices_24 rfl rfl (by omega) rfl (nw_prices _ _ _ _ _ _ _ hj6 _) ?_
    refine ev_iinc (nI (j + 1)) dX0_dropPrices_25 rfl (nI_1 j) (Nat.le_of_ble_eq_true rfl) rfl ?_
    refine ev_goto 2 dX0_dropPrices_28 (by decide) ?_
    exact ev_sub [0, 1, 2] rfl (ih (j + 1) (by omega))
set_option maxHeartbeats 1000000 in
theorem c0_addPieces_0 (p : Nat → va_E) (sl pl ks rr τ : Nat → Int32) (g : PW) {c k : Nat} (hc : c < 8) (hk : k < 6) {m : Int32} (h : ¬ τ (ix c k) + m ≤ nI 99) : Ct mX0_addPieces [.ref 17, .int (nI c), .int (nI k), .int m] (nw p sl pl ks rr τ g) (d1 (some (.int (nI 0))) (nw p sl pl ks rr τ g)) nx := by
  refine ct_of 3 kX0_addPieces.1 rfl (Nat.le_of_ble_eq_true rfl) (fun v u h => by obtain ⟨rfl, rfl⟩ := h; exact rfl) ?_
  show Ev _ _ _ 0 0 [(0, .ref 17), (1, .int (nI c)), (2, .int (nI k)), (3, .int m)] [] _
  refine ev_iload_n 1 dX0_addPieces_0 rfl rfl ?_
  refine ev_iload_n 2 dX0_addPieces_1 rfl rfl ?_
  refine ev_cN2 (c3_at _ _ _) kX3_at rfl (fun _ _ _ _ h => h.1.1) rfl rfl dX0_addPieces_2 ?_
  refine ev_istore dX0_addPieces_5 (Nat.le_of_ble_eq_true rfl) rfl ?_
  refine ev_aload_n 0 dX0_addPieces_7 rfl rfl ?_
  refine ev_getfield 3 dX0_addPieces_8 foX0_21 rfl rfl ?_
  refine ev_iload dX0_addPieces_11 rfl ?_
  refine ev_ild (c * 6 + k) dX0_addPieces_13 rfl (by simp only [nI_m, nI_add, ix, oI]) (by omega) rfl ?_
  refine ev_top (τ (ix c k)) (pc6 (by omega)) ?_
  refine ev_iload_n 3 dX0_addPieces_14 rfl rfl ?_
  refine ev_iadd dX0_addPieces_15 ?_
  refine ev_bipush (nI 99) dX0_addPieces_16 rfl ?_
  refine ev_icmp_le 23 dX0_addPieces_18 (by decide) (fun h18 => absurd h18 h) (fun h18 => ?_)
  refine ev_iconst (nI 0) dX0_addPieces_21 rfl ?_
  exact ev_ireturn dX0_addPieces_22 (Nat.le_of_ble_eq_true rfl) ⟨rfl, rfl⟩
set_option maxHeartbeats 1000000 in
theorem c0_addPieces_1 (p : Nat → va_E) (sl pl ks rr τ : Nat → Int32) (g : PW) {c k : Nat} (hc : c < 8) (hk : k < 6) {m : Int32} (h : τ (ix c k) + m ≤ nI 99) (hK : HK τ) : Ct mX0_addPieces [.ref 17, .int (nI c), .int (nI k), .int m] (nw p sl pl ks rr τ g) (d1 (some (.int (nI 1))) (nw p sl pl ks rr (lookN (upd τ (ix c k) (τ (ix c k) + m)) 8) g)) nx := by
  refine ct_of 3 kX0_addPieces.1 rfl (Nat.le_of_ble_eq_true rfl) (fun v u h => by obtain ⟨rfl, rfl⟩ := h; exact rfl) ?_
  show Ev _ _ _ 0 0 [(0, .ref 17), (1, .int (nI c)), (2, .int (nI k)), (3, .int m)] [] _
  refine ev_iload_n 1 dX0_addPieces_0 rfl rfl ?_
  refine ev_iload_n 2 dX0_addPieces_1 rfl rfl ?_
  refine ev_cN2 (c3_at _ _ _) kX3_at rfl (fun _ _ _ _ h => h.1.1) rfl rfl dX0_addPieces_2 ?_
  refine ev_istore dX0_addPieces_5 (Nat.le_of_ble_eq_true rfl) rfl ?_
  refine ev_aload_n 0 dX0_addPieces_7 rfl rfl ?_
  refine ev_getfield 3 dX0_addPieces_8 foX0_21 rfl rfl ?_
  refine ev_iload dX0_addPieces_11 rfl ?_
  refine ev_ild (c * 6 + k) dX0_addPieces_13 rfl (by simp only [nI_m, nI_add, ix, oI]) (by omega) rfl ?_
  refine ev_top (τ (ix c k)) (pc6 (by omega)) ?_
  refine ev_iload_n 3 dX0_addPieces_14 rfl rfl ?_
  refine ev_iadd dX0_addPieces_15 ?_
  refine ev_bipush (nI 99) dX0_addPieces_16 rfl ?_
  refine ev_icmp_le 23 dX0_addPieces_18 (by decide) (fun h18 => ?_) (fun h18 => absurd h h18)
  refine ev_aload_n 0 dX0_addPieces_23 rfl rfl ?_
  refine ev_getfield 3 dX0_addPieces_24 foX0_21 rfl rfl ?_
  refine ev_iload dX0_addPieces_27 rfl ?_
  refine ev_dup2 dX0_addPieces_29 rfl rfl ?_
  refine ev_ild (c * 6 + k) dX0_addPieces_30 rfl (by simp only [nI_m, nI_add, ix, oI]) (by omega) rfl ?_
  refine ev_top (τ (ix c k)) (pc6 (by omega)) ?_
  refine ev_iload_n 3 dX0_addPieces_31 rfl rfl ?_
  refine ev_iadd dX0_addPieces_32 ?_
  refine ev_ist (c * 6 + k) dX0_addPieces_33 rfl (by simp only [nI_m, nI_add, ix, oI]) (by omega) rfl (nw_pieces _ _ _ _ _ _ _ hc hk _) ?_
  refine ev_aload_n 0 dX0_addPieces_34 rfl rfl ?_
  refine ev_cV0 (c0_look _ _ _ _ _ _ _ (HK_upd hK (fun c hc => by simp only [ix]; omega))) kX0_lookAtClients rfl g331 rfl rfl rfl rfl dX0_addPieces_35 ?_
  refine ev_pop dX0_addPieces_38 rfl ?_
  refine ev_iconst (nI 1) dX0_addPieces_39 rfl ?_
  exact ev_ireturn dX0_addPieces_40 (Nat.le_of_ble_eq_true rfl) ⟨rfl, rfl⟩
set_option maxHeartbeats 1000000 in
theorem c0_takePieces_0 (p : Nat → va_E) (sl pl ks rr τ : Nat → Int32) (g : PW) {c k : Nat} (hc : c < 8) (hk : k < 6) {m : Int32} (h : ¬ m ≤ τ (ix c k)) : Ct mX0_takePieces [.ref 17, .int (nI c), .int (nI k), .int m] (nw p sl pl ks rr τ g) (d1 (some (.int (nI 0))) (nw p sl pl ks rr τ g)) nx := by
  refine ct_of 3 kX0_takePieces.1 rfl (Nat.le_of_ble_eq_true rfl) (fun v u h => by obtain ⟨rfl, rfl⟩ := h; exact rfl) ?_
  show Ev _ _ _ 0 0 [(0, .ref 17), (1, .int (nI c)), (2, .int (nI k)), (3, .int m)] [] _
  refine ev_iload_n 1 dX0_takePieces_0 rfl rfl ?_
  refine ev_iload_n 2 dX0_takePieces_1 rfl rfl ?_
  refine ev_cN2 (c3_at _ _ _) kX3_at rfl (fun _ _ _ _ h => h.1.1) rfl rfl dX0_takePieces_2 ?_
  refine ev_istore dX0_takePieces_5 (Nat.le_of_ble_eq_true rfl) rfl ?_
  refine ev_aload_n 0 dX0_takePieces_7 rfl rfl ?_
  refine ev_getfield 3 dX0_takePieces_8 foX0_21 rfl rfl ?_
  refine ev_iload dX0_takePieces_11 rfl ?_
  refine ev_ild (c * 6 + k) dX0_takePieces_13 rfl (by simp only [nI_m, nI_add, ix, oI]) (by omega) rfl ?_
  refine ev_top (τ (ix c k)) (pc6 (by omega)) ?_
  refine ev_iload_n 3 dX0_takePieces_14 rfl rfl ?_
  refine ev_icmp_ge 20 dX0_takePieces_15 (by decide) (fun h15 => absurd h15 h) (fun h15 => ?_)
  refine ev_iconst (nI 0) dX0_takePieces_18 rfl ?_
  exact ev_ireturn dX0_takePieces_19 (Nat.le_of_ble_eq_true rfl) ⟨rfl, rfl⟩
set_option maxHeartbeats 1000000 in
theorem c0_takePieces_2 (p : Nat → va_E) (sl pl ks rr τ : Nat → Int32) (g : PW) {c k : Nat} (hc : c < 8) (hk : k < 6) {m : Int32} (h : m ≤ τ (ix c k)) (h2 : ¬ τ (ix c 7) ≤ covI (canTk τ c k m) c (nI 0) (nI 1)) : Ct mX0_takePieces [.ref 17, .int (nI c), .int (nI k), .int m] (nw p sl pl ks rr τ g) (d1 (some (.int (nI 0))) (nw p sl pl ks rr τ g)) nx := by
  refine ct_of 3 kX0_takePieces.1 rfl (Nat.le_of_ble_eq_true rfl) (fun v u h => by obtain ⟨rfl, rfl⟩ := h; exact rfl) ?_
  show Ev _ _ _ 0 0 [(0, .ref 17), (1, .int (nI c)), (2, .int (nI k)), (3, .int m)] [] _
  refine ev_iload_n 1 dX0_takePieces_0 rfl rfl ?_
  refine ev_iload_n 2 dX0_takePieces_1 rfl rfl ?_
  refine ev_cN2 (c3_at _ _ _) kX3_at rfl (fun _ _ _ _ h => h.1.1) rfl rfl dX0_takePieces_2 ?_
  refine ev_istore dX0_takePieces_5 (Nat.le_of_ble_eq_true rfl) rfl ?_
  refine ev_aload_n 0 dX0_takePieces_7 rfl rfl ?_
  refine ev_getfield 3 dX0_takePieces_8 foX0_21 rfl rfl ?_
  refine ev_iload dX0_takePieces_11 rfl ?_
  refine ev_ild (c * 6 + k) dX0_takePieces_13 rfl (by simp only [nI_m, nI_add, ix, oI]) (by omega) rfl ?_
  refine ev_top (τ (ix c k)) (pc6 (by omega)) ?_
  refine ev_iload_n 3 dX0_takePieces_14 rfl rfl ?_
  refine ev_icmp_ge 20 dX0_takePieces_15 (by decide) (fun h15 => ?_) (fun h15 => absurd h h15)
  refine ev_aload_n 0 dX0_takePieces_20 rfl rfl ?_
  refine ev_getfield 3 dX0_takePieces_21 foX0_21 rfl rfl ?_
  refine ev_iload dX0_takePieces_24 rfl ?_
  refine ev_dup2 dX0_takePieces_26 rfl rfl ?_
  refine ev_ild (c * 6 + k) dX0_takePieces_27 rfl (by simp only [nI_m, nI_add, ix, oI]) (by omega) rfl ?_
  refine ev_top (τ (ix c k)) (pc6 (by omega)) ?_
  refine ev_iload_n 3 dX0_takePieces_28 rfl rfl ?_
  refine ev_isub dX0_takePieces_29 ?_
  refine ev_ist (c * 6 + k) dX0_takePieces_30 rfl (by simp only [nI_m, nI_add, ix, oI]) (by omega) rfl (nw_pieces _ _ _ _ _ _ _ hc hk _) ?_
  refine ev_w (w' := nw p sl pl ks rr (canTk τ c k m) g) rfl ?_
  refine ev_aload_n 0 dX0_takePieces_31 rfl rfl ?_
  refine ev_getfield 5 dX0_takePieces_32 foX0_27 rfl rfl ?_
  refine ev_iload_n 1 dX0_takePieces_35 rfl rfl ?_
  refine ev_ild c dX0_takePieces_36 rfl (by simp only [nI_m, nI_add, ix, oI]) (by omega) rfl ?_
  refine ev_top (τ (ix c 7)) (upd_n _ _ (by simp only [ix]; omega)) ?_
  refine ev_aload_n 0 dX0_takePieces_37 rfl rfl ?_
  refine ev_iload_n 1 dX0_takePieces_38 rfl rfl ?_
  refine ev_cV1 (c0_cover _ _ _ _ _ _ _ (by omega)) kX0_cover rfl g335 rfl rfl rfl rfl dX0_takePieces_39 ?_
  refine ev_icmp_le 58 dX0_takePieces_42 (by decide) (fun h42 => absurd h42 h2) (fun h42 => ?_)
  refine ev_aload_n 0 dX0_takePieces_45 rfl rfl ?_
  refine ev_getfield 3 dX0_takePieces_46 foX0_21 rfl rfl ?_
  refine ev_iload dX0_takePieces_49 rfl ?_
  refine ev_dup2 dX0_takePieces_51 rfl rfl ?_
  refine ev_ild (c * 6 + k) dX0_takePieces_52 rfl (by simp only [nI_m, nI_add, ix, oI]) (by omega) rfl ?_
  refine ev_top (canTk τ c k m (ix c k)) (pc6 hk) ?_
  refine ev_iload_n 3 dX0_takePieces_53 rfl rfl ?_
  refine ev_iadd dX0_takePieces_54 ?_
  refine ev_ist (c * 6 + k) dX0_takePieces_55 rfl (by simp only [nI_m, nI_add, ix, oI]) (by omega) rfl (nw_pieces _ _ _ _ _ _ _ hc hk _) ?_
  refine ev_w (w' := nw p sl pl ks rr τ g) (by simp only [canTk]; rw [upd_undo]) ?_
  refine ev_iconst (nI 0) dX0_takePieces_56 rfl ?_
  exact ev_ireturn dX0_takePieces_57 (Nat.le_of_ble_eq_true rfl) ⟨rfl, rfl⟩
set_option maxHeartbeats 1000000 in
theorem c0_takePieces_1 (p : Nat → va_E) (sl pl ks rr τ : Nat → Int32) (g : PW) {c k : Nat} (hc : c < 8) (hk : k < 6) {m : Int32} (h : m ≤ τ (ix c k)) (h2 : τ (ix c 7) ≤ covI (canTk τ c k m) c (nI 0) (nI 1)) (hK : HK τ) : Ct mX0_takePieces [.ref 17, .int (nI c), .int (nI k), .int m] (nw p sl pl ks rr τ g) (d1 (some (.int (nI 1))) (nw p sl pl ks rr (lookN (canTk τ c k m) 8) g)) nx := by
  refine ct_of 3 kX0_takePieces.1 rfl (Nat.le_of_ble_eq_true rfl) (fun v u h => by obtain ⟨rfl, rfl⟩ := h; exact rfl) ?_
  show Ev _ _ _ 0 0 [(0, .ref 17), (1, .int (nI c)), (2, .int (nI k)), (3, .int m)] [] _
  refine ev_iload_n 1 dX0_takePieces_0 rfl rfl ?_
  refine ev_iload_n 2 dX0_takePieces_1 rfl rfl ?_
  refine ev_cN2 (c3_at _ _ _) kX3_at rfl (fun _ _ _ _ h => h.1.1) rfl rfl dX0_takePieces_2 ?_
  refine ev_istore dX0_takePieces_5 (Nat.le_of_ble_eq_true rfl) rfl ?_
  refine ev_aload_n 0 dX0_takePieces_7 rfl rfl ?_
  refine ev_getfield 3 dX0_takePieces_8 foX0_21 rfl rfl ?_
  refine ev_iload dX0_takePieces_11 rfl ?_
  refine ev_ild (c * 6 + k) dX0_takePieces_13 rfl (by simp only [nI_m, nI_add, ix, oI]) (by omega) rfl ?_
  refine ev_top (τ (ix c k)) (pc6 (by omega)) ?_
  refine ev_iload_n 3 dX0_takePieces_14 rfl rfl ?_
  refine ev_icmp_ge 20 dX0_takePieces_15 (by decide) (fun h15 => ?_) (fun h15 => absurd h h15)
  refine ev_aload_n 0 dX0_takePieces_20 rfl rfl ?_
  refine ev_getfield 3 dX0_takePieces_21 foX0_21 rfl rfl ?_
  refine ev_iload dX0_takePieces_24 rfl ?_
  refine ev_dup2 dX0_takePieces_26 rfl rfl ?_
  refine ev_ild (c * 6 + k) dX0_takePieces_27 rfl (by simp only [nI_m, nI_add, ix, oI]) (by omega) rfl ?_
  refine ev_top (τ (ix c k)) (pc6 (by omega)) ?_
  refine ev_iload_n 3 dX0_takePieces_28 rfl rfl ?_
  refine ev_isub dX0_takePieces_29 ?_
  refine ev_ist (c * 6 + k) dX0_takePieces_30 rfl (by simp only [nI_m, nI_add, ix, oI]) (by omega) rfl (nw_pieces _ _ _ _ _ _ _ hc hk _) ?_
  refine ev_w (w' := nw p sl pl ks rr (canTk τ c k m) g) rfl ?_
  refine ev_aload_n 0 dX0_takePieces_31 rfl rfl ?_
  refine ev_getfield 5 dX0_takePieces_32 foX0_27 rfl rfl ?_
  refine ev_iload_n 1 dX0_takePieces_35 rfl rfl ?_
  refine ev_ild c dX0_takePieces_36 rfl (by simp only [nI_m, nI_add, ix, oI]) (by omega) rfl ?_
  refine ev_top (τ (ix c 7)) (upd_n _ _ (by simp only [ix]; omega)) ?_
  refine ev_aload_n 0 dX0_takePieces_37 rfl rfl ?_
  refine ev_iload_n 1 dX0_takePieces_38 rfl rfl ?_
  refine ev_cV1 (c0_cover _ _ _ _ _ _ _ (by omega)) kX0_cover rfl g335 rfl rfl rfl rfl dX0_takePieces_39 ?_
  refine ev_icmp_le 58 dX0_takePieces_42 (by decide) (fun h42 => ?_) (fun h42 => absurd h2 h42)
  refine ev_aload_n 0 dX0_takePieces_58 rfl rfl ?_
  refine ev_cV0 (c0_look _ _ _ _ _ _ _ (HK_upd hK (fun c hc => by simp only [ix]; omega))) kX0_lookAtClients rfl g331 rfl rfl rfl rfl dX0_takePieces_59 ?_
  refine ev_pop dX0_takePieces_62 rfl ?_
  refine ev_iconst (nI 1) dX0_takePieces_63 rfl ?_
  exact ev_ireturn dX0_takePieces_64 (Nat.le_of_ble_eq_true rfl) ⟨rfl, rfl⟩
theorem gX0_120 : Cond.constant RX0 120 (nI 99999) ∈ Gw := g448
set_option maxHeartbeats 1000000 in
theorem c0_addCoins_0 (p : Nat → va_E) (sl pl ks rr τ : Nat → Int32) (g : PW) {c : Nat} (hc : c < 8) {m : Int32} (h : ¬ τ (ix c 6) + m ≤ nI 99999) : Ct mX0_addCoins [.ref 17, .int (nI c), .int m] (nw p sl pl ks rr τ g) (d1 (some (.int (nI 0))) (nw p sl pl ks rr τ g)) nx := by
  refine ct_of 2 kX0_addCoins.1 rfl (Nat.le_of_ble_eq_true rfl) (fun v u h => by obtain ⟨rfl, rfl⟩ := h; exact rfl) ?_
  show Ev _ _ _ 0 0 [(0, .ref 17), (1, .int (nI c)), (2, .int m)] [] _
  refine ev_aload_n 0 dX0_addCoins_0 rfl rfl ?_
  refine ev_getfield 4 dX0_addCoins_1 foX0_24 rfl rfl ?_
  refine ev_iload_n 1 dX0_addCoins_4 rfl rfl ?_
  refine ev_ild (c) dX0_addCoins_5 rfl (by simp only [nI_m, nI_add, ix, oI]) (by omega) rfl ?_
  refine ev_iload_n 2 dX0_addCoins_6 rfl rfl ?_
  refine ev_iadd dX0_addCoins_7 ?_
  refine ev_ldc (nI 99999) dX0_addCoins_8 gX0_120 ?_
  refine ev_icmp_le 15 dX0_addCoins_10 (by decide) (fun h10 => absurd h10 h) (fun h10 => ?_)
  refine ev_iconst (nI 0) dX0_addCoins_13 rfl ?_
  exact ev_ireturn dX0_addCoins_14 (Nat.le_of_ble_eq_true rfl) ⟨rfl, rfl⟩
set_option maxHeartbeats 1000000 in
theorem c0_addCoins_1 (p : Nat → va_E) (sl pl ks rr τ : Nat → Int32) (g : PW) {c : Nat} (hc : c < 8) {m : Int32} (h : τ (ix c 6) + m ≤ nI 99999) (hK : HK τ) : Ct mX0_addCoins [.ref 17, .int (nI c), .int m] (nw p sl pl ks rr τ g) (d1 (some (.int (nI 1))) (nw p sl pl ks rr (lookN (upd τ (ix c 6) (τ (ix c 6) + m)) 8) g)) nx := by
  refine ct_of 2 kX0_addCoins.1 rfl (Nat.le_of_ble_eq_true rfl) (fun v u h => by obtain ⟨rfl, rfl⟩ := h; exact rfl) ?_
  show Ev _ _ _ 0 0 [(0, .ref 17), (1, .int (nI c)), (2, .int m)] [] _
  refine ev_aload_n 0 dX0_addCoins_0 rfl rfl ?_
  refine ev_getfield 4 dX0_addCoins_1 foX0_24 rfl rfl ?_
  refine ev_iload_n 1 dX0_addCoins_4 rfl rfl ?_
  refine ev_ild (c) dX0_addCoins_5 rfl (by simp only [nI_m, nI_add, ix, oI]) (by omega) rfl ?_
  refine ev_iload_n 2 dX0_addCoins_6 rfl rfl ?_
  refine ev_iadd dX0_addCoins_7 ?_
  refine ev_ldc (nI 99999) dX0_addCoins_8 gX0_120 ?_
  refine ev_icmp_le 15 dX0_addCoins_10 (by decide) (fun h10 => ?_) (fun h10 => absurd h h10)
  refine ev_aload_n 0 dX0_addCoins_15 rfl rfl ?_
  refine ev_getfield 4 dX0_addCoins_16 foX0_24 rfl rfl ?_
  refine ev_iload_n 1 dX0_addCoins_19 rfl rfl ?_
  refine ev_dup2 dX0_addCoins_20 rfl rfl ?_
  refine ev_ild (c) dX0_addCoins_21 rfl (by simp only [nI_m, nI_add, ix, oI]) (by omega) rfl ?_
  refine ev_iload_n 2 dX0_addCoins_22 rfl rfl ?_
  refine ev_iadd dX0_addCoins_23 ?_
  refine ev_ist (c) dX0_addCoins_24 rfl (by simp only [nI_m, nI_add, ix, oI]) (by omega) rfl (nw_coins _ _ _ _ _ _ _ hc _) ?_
  refine ev_aload_n 0 dX0_addCoins_25 rfl rfl ?_
  refine ev_cV0 (c0_look _ _ _ _ _ _ _ (HK_upd hK (fun c hc => by simp only [ix]; omega))) kX0_lookAtClients rfl g331 rfl rfl rfl rfl dX0_addCoins_26 ?_
  refine ev_pop dX0_addCoins_29 rfl ?_
  refine ev_iconst (nI 1) dX0_addCoins_30 rfl ?_
  exact ev_ireturn dX0_addCoins_31 (Nat.le_of_ble_eq_true rfl) ⟨rfl, rfl⟩
set_option maxHeartbeats 1000000 in
theorem c0_addDebt_0 (p : Nat → va_E) (sl pl ks rr τ : Nat → Int32) (g : PW) {c : Nat} (hc : c < 8) {m : Int32} (h : ¬ τ (ix c 9) = 0) : Ct mX0_addDebt [.ref 17, .int (nI c), .int m] (nw p sl pl ks rr τ g) (d1 (some (.int (nI 0))) (nw p sl pl ks rr τ g)) nx := by
  refine ct_of 2 kX0_addDebt.1 rfl (Nat.le_of_ble_eq_true rfl) (fun v u h => by obtain ⟨rfl, rfl⟩ := h; exact rfl) ?_
  show Ev _ _ _ 0 0 [(0, .ref 17), (1, .int (nI c)), (2, .int m)] [] _
  refine ev_aload_n 0 dX0_addDebt_0 rfl rfl ?_
  refine ev_getfield 7 dX0_addDebt_1 foX0_33 rfl rfl ?_
  refine ev_iload_n 1 dX0_addDebt_4 rfl rfl ?_
  refine ev_bld (c) dX0_addDebt_5 rfl rfl (by omega) rfl ?_
  refine ev_if_ne 25 dX0_addDebt_6 (by decide) (fun h6 => ?_) (fun h6 => absurd h6 h)
  refine ev_iconst (nI 0) dX0_addDebt_25 rfl ?_
  exact ev_ireturn dX0_addDebt_26 (Nat.le_of_ble_eq_true rfl) ⟨rfl, rfl⟩
set_option maxHeartbeats 1000000 in
theorem c0_addDebt_2 (p : Nat → va_E) (sl pl ks rr τ : Nat → Int32) (g : PW) {c : Nat} (hc : c < 8) {m : Int32} (h : τ (ix c 9) = 0) (h2 : ¬ τ (ix c 7) + m ≤ covI τ c (nI 0) (nI 1)) : Ct mX0_addDebt [.ref 17, .int (nI c), .int m] (nw p sl pl ks rr τ g) (d1 (some (.int (nI 0))) (nw p sl pl ks rr τ g)) nx := by
  refine ct_of 2 kX0_addDebt.1 rfl (Nat.le_of_ble_eq_true rfl) (fun v u h => by obtain ⟨rfl, rfl⟩ := h; exact rfl) ?_
  show Ev _ _ _ 0 0 [(0, .ref 17), (1, .int (nI c)), (2, .int m)] [] _
  refine ev_aload_n 0 dX0_addDebt_0 rfl rfl ?_
  refine ev_getfield 7 dX0_addDebt_1 foX0_33 rfl rfl ?_
  refine ev_iload_n 1 dX0_addDebt_4 rfl rfl ?_
  refine ev_bld (c) dX0_addDebt_5 rfl rfl (by omega) rfl ?_
  refine ev_if_ne 25 dX0_addDebt_6 (by decide) (fun h6 => absurd h h6) (fun h6 => ?_)
  refine ev_aload_n 0 dX0_addDebt_9 rfl rfl ?_
  refine ev_getfield 5 dX0_addDebt_10 foX0_27 rfl rfl ?_
  refine ev_iload_n 1 dX0_addDebt_13 rfl rfl ?_
  refine ev_ild (c) dX0_addDebt_14 rfl (by simp only [nI_m, nI_add, ix, oI]) (by omega) rfl ?_
  refine ev_iload_n 2 dX0_addDebt_15 rfl rfl ?_
  refine ev_iadd dX0_addDebt_16 ?_
  refine ev_aload_n 0 dX0_addDebt_17 rfl rfl ?_
  refine ev_iload_n 1 dX0_addDebt_18 rfl rfl ?_
  refine ev_cV1 (c0_cover _ _ _ _ _ _ _ (by omega)) kX0_cover rfl g335 rfl rfl rfl rfl dX0_addDebt_19 ?_
  refine ev_icmp_le 27 dX0_addDebt_22 (by decide) (fun h22 => absurd h22 h2) (fun h22 => ?_)
  refine ev_iconst (nI 0) dX0_addDebt_25 rfl ?_
  exact ev_ireturn dX0_addDebt_26 (Nat.le_of_ble_eq_true rfl) ⟨rfl, rfl⟩
set_option maxHeartbeats 1000000 in
theorem c0_addDebt_1 (p : Nat → va_E) (sl pl ks rr τ : Nat → Int32) (g : PW) {c : Nat} (hc : c < 8) {m : Int32} (h : τ (ix c 9) = 0) (h2 : τ (ix c 7) + m ≤ covI τ c (nI 0) (nI 1)) (hK : HK τ) : Ct mX0_addDebt [.ref 17, .int (nI c), .int m] (nw p sl pl ks rr τ g) (d1 (some (.int (nI 1))) (nw p sl pl ks rr (lookN (lnd3 τ c m) 8) g)) nx := by
  refine ct_of 2 kX0_addDebt.1 rfl (Nat.le_of_ble_eq_true rfl) (fun v u h => by obtain ⟨rfl, rfl⟩ := h; exact rfl) ?_
  show Ev _ _ _ 0 0 [(0, .ref 17), (1, .int (nI c)), (2, .int m)] [] _
  refine ev_aload_n 0 dX0_addDebt_0 rfl rfl ?_
  refine ev_getfield 7 dX0_addDebt_1 foX0_33 rfl rfl ?_
  refine ev_iload_n 1 dX0_addDebt_4 rfl rfl ?_
  refine ev_bld (c) dX0_addDebt_5 rfl rfl (by omega) rfl ?_
  refine ev_if_ne 25 dX0_addDebt_6 (by decide) (fun h6 => absurd h h6) (fun h6 => ?_)
  refine ev_aload_n 0 dX0_addDebt_9 rfl rfl ?_
  refine ev_getfield 5 dX0_addDebt_10 foX0_27 rfl rfl ?_
  refine ev_iload_n 1 dX0_addDebt_13 rfl rfl ?_
  refine ev_ild (c) dX0_addDebt_14 rfl (by simp only [nI_m, nI_add, ix, oI]) (by omega) rfl ?_
  refine ev_iload_n 2 dX0_addDebt_15 rfl rfl ?_
  refine ev_iadd dX0_addDebt_16 ?_
  refine ev_aload_n 0 dX0_addDebt_17 rfl rfl ?_
  refine ev_iload_n 1 dX0_addDebt_18 rfl rfl ?_
  refine ev_cV1 (c0_cover _ _ _ _ _ _ _ (by omega)) kX0_cover rfl g335 rfl rfl rfl rfl dX0_addDebt_19 ?_
  refine ev_icmp_le 27 dX0_addDebt_22 (by decide) (fun h22 => ?_) (fun h22 => absurd h2 h22)
  refine ev_aload_n 0 dX0_addDebt_27 rfl rfl ?_
  refine ev_getfield 5 dX0_addDebt_28 foX0_27 rfl rfl ?_
  refine ev_iload_n 1 dX0_addDebt_31 rfl rfl ?_
  refine ev_dup2 dX0_addDebt_32 rfl rfl ?_
  refine ev_ild (c) dX0_addDebt_33 rfl (by simp only [nI_m, nI_add, ix, oI]) (by omega) rfl ?_
  refine ev_iload_n 2 dX0_addDebt_34 rfl rfl ?_
  refine ev_iadd dX0_addDebt_35 ?_
  refine ev_ist (c) dX0_addDebt_36 rfl (by simp only [nI_m, nI_add, ix, oI]) (by omega) rfl (nw_debts _ _ _ _ _ _ _ hc _) ?_
  refine ev_aload_n 0 dX0_addDebt_37 rfl rfl ?_
  refine ev_dup dX0_addDebt_38 rfl ?_
  refine ev_getfield 13 dX0_addDebt_39 foX0_65 rfl rfl ?_
  refine ev_iload_n 2 dX0_addDebt_42 rfl rfl ?_
  refine ev_iadd dX0_addDebt_43 ?_
  refine ev_putfield 13 dX0_addDebt_44 fpX0_65 rfl (Nat.le_of_ble_eq_true rfl) (fun _ => rfl) (fun _ => rfl) (nw_f103 _ _ _ _ _ _ _ _) ?_
  refine ev_aload_n 0 dX0_addDebt_47 rfl rfl ?_
  refine ev_cV0 (c0_look _ _ _ _ _ _ _ (HK_upd (HK_upd hK (fun c hc => by simp only [ix]; omega)) (fun c hc => by simp only [ix]; omega))) kX0_lookAtClients rfl g331 rfl rfl rfl rfl dX0_addDebt_48 ?_
  refine ev_pop dX0_addDebt_51 rfl ?_
  refine ev_iconst (nI 1) dX0_addDebt_52 rfl ?_
  exact ev_ireturn dX0_addDebt_53 (Nat.le_of_ble_eq_true rfl) ⟨rfl, rfl⟩
set_option maxHeartbeats 1000000 in
theorem c0_takeDebt_0 (p : Nat → va_E) (sl pl ks rr τ : Nat → Int32) (g : PW) {c : Nat} (hc : c < 8) {m : Int32} (h : τ (ix c 7) = 0) : Ct mX0_takeDebt [.ref 17, .int (nI c), .int m] (nw p sl pl ks rr τ g) (d1 (some (.int (-1))) (nw p sl pl ks rr τ g)) nx := by
  refine ct_of 2 kX0_takeDebt.1 rfl (Nat.le_of_ble_eq_true rfl) (fun v u h => by obtain ⟨rfl, rfl⟩ := h; exact rfl) ?_
  show Ev _ _ _ 0 0 [(0, .ref 17), (1, .int (nI c)), (2, .int m)] [] _
  refine ev_aload_n 0 dX0_takeDebt_0 rfl rfl ?_
  refine ev_getfield 5 dX0_takeDebt_1 foX0_27 rfl rfl ?_
  refine ev_iload_n 1 dX0_takeDebt_4 rfl rfl ?_
  refine ev_ild (c) dX0_takeDebt_5 rfl (by simp only [nI_m, nI_add, ix, oI]) (by omega) rfl ?_
  refine ev_if_ne 11 dX0_takeDebt_6 (by decide) (fun h6 => absurd h h6) (fun h6 => ?_)
  refine ev_iconst (-1) dX0_takeDebt_9 rfl ?_
  exact ev_ireturn dX0_takeDebt_10 (Nat.le_of_ble_eq_true rfl) ⟨rfl, rfl⟩
set_option maxHeartbeats 1000000 in
theorem c0_takeDebt_1 (p : Nat → va_E) (sl pl ks rr τ : Nat → Int32) (g : PW) {c : Nat} (hc : c < 8) {m : Int32} (h : ¬ τ (ix c 7) = 0) (hK : HK τ) : Ct mX0_takeDebt [.ref 17, .int (nI c), .int m] (nw p sl pl ks rr τ g) (d1 (some (.int (paid τ c m))) (nw p sl pl ks rr (lookN (pay3 τ c (paid τ c m)) 8) g)) nx := by
  refine ct_of 2 kX0_takeDebt.1 rfl (Nat.le_of_ble_eq_true rfl) (fun v u h => by obtain ⟨rfl, rfl⟩ := h; exact rfl) ?_
  show Ev _ _ _ 0 0 [(0, .ref 17), (1, .int (nI c)), (2, .int m)] [] _
  refine ev_aload_n 0 dX0_takeDebt_0 rfl rfl ?_
  refine ev_getfield 5 dX0_takeDebt_1 foX0_27 rfl rfl ?_
  refine ev_iload_n 1 dX0_takeDebt_4 rfl rfl ?_
  refine ev_ild (c) dX0_takeDebt_5 rfl (by simp only [nI_m, nI_add, ix, oI]) (by omega) rfl ?_
  refine ev_if_ne 11 dX0_takeDebt_6 (by decide) (fun h6 => ?_) (fun h6 => absurd h6 h)
  refine ev_iload_n 2 dX0_takeDebt_11 rfl rfl ?_
  refine ev_aload_n 0 dX0_takeDebt_12 rfl rfl ?_
  refine ev_getfield 5 dX0_takeDebt_13 foX0_27 rfl rfl ?_
  refine ev_iload_n 1 dX0_takeDebt_16 rfl rfl ?_
  refine ev_ild (c) dX0_takeDebt_17 rfl (by simp only [nI_m, nI_add, ix, oI]) (by omega) rfl ?_
  suffices J18 : Ev mX0_takeDebt (d1 (some (.int (paid τ c m))) (nw p sl pl ks rr (lookN (pay3 τ c (paid τ c m)) 8) g)) nx 0 31 [(0, .ref 17), (1, .int (nI c)), (2, .int m)] [.int (paid τ c m)] (nw p sl pl ks rr τ g) by
    refine ev_icmp_ge 25 dX0_takeDebt_18 (by decide) (fun h18 => ?_) (fun h18 => ?_)
    · refine ev_aload_n 0 dX0_takeDebt_25 rfl rfl ?_
      refine ev_getfield 5 dX0_takeDebt_26 foX0_27 rfl rfl ?_
      refine ev_iload_n 1 dX0_takeDebt_29 rfl rfl ?_
      refine ev_ild (c) dX0_takeDebt_30 rfl (by simp only [nI_m, nI_add, ix, oI]) (by omega) rfl ?_
      exact ev_sub [0, 1, 2] rfl (ev_top _ (by first | exact (if_pos (Int32.not_le.mp h18)).symm | exact (if_neg (Int32.not_lt.mpr h18)).symm) J18)
    · refine ev_iload_n 2 dX0_takeDebt_21 rfl rfl ?_
      refine ev_goto 31 dX0_takeDebt_22 (by decide) ?_
      exact ev_sub [0, 1, 2] rfl (ev_top _ (by first | exact (if_pos (Int32.not_le.mp h18)).symm | exact (if_neg (Int32.not_lt.mpr h18)).symm) J18)
  refine ev_istore_n 3 dX0_takeDebt_31 rfl (Nat.le_of_ble_eq_true rfl) rfl ?_
  refine ev_aload_n 0 dX0_takeDebt_32 rfl rfl ?_
  refine ev_getfield 5 dX0_takeDebt_33 foX0_27 rfl rfl ?_
  refine ev_iload_n 1 dX0_takeDebt_36 rfl rfl ?_
  refine ev_dup2 dX0_takeDebt_37 rfl rfl ?_
  refine ev_ild (c) dX0_takeDebt_38 rfl (by simp only [nI_m, nI_add, ix, oI]) (by omega) rfl ?_
  refine ev_iload_n 3 dX0_takeDebt_39 rfl rfl ?_
  refine ev_isub dX0_takeDebt_40 ?_
  refine ev_ist (c) dX0_takeDebt_41 rfl (by simp only [nI_m, nI_add, ix, oI]) (by omega) rfl (nw_debts _ _ _ _ _ _ _ hc _) ?_
  refine ev_aload_n 0 dX0_takeDebt_42 rfl rfl ?_
  refine ev_dup dX0_takeDebt_43 rfl ?_
  refine ev_getfield 15 dX0_takeDebt_44 foX0_71 rfl rfl ?_
  refine ev_iload_n 3 dX0_takeDebt_47 rfl rfl ?_
  refine ev_iadd dX0_takeDebt_48 ?_
  refine ev_putfield 15 dX0_takeDebt_49 fpX0_71 rfl (Nat.le_of_ble_eq_true rfl) (fun _ => rfl) (fun _ => rfl) (nw_f105 _ _ _ _ _ _ _ _) ?_
  refine ev_aload_n 0 dX0_takeDebt_52 rfl rfl ?_
  refine ev_cV0 (c0_look _ _ _ _ _ _ _ (HK_upd (HK_upd hK (fun c hc => by simp only [ix]; omega)) (fun c hc => by simp only [ix]; omega))) kX0_lookAtClients rfl g331 rfl rfl rfl rfl dX0_takeDebt_53 ?_
  refine ev_pop dX0_takeDebt_56 rfl ?_
  refine ev_iload_n 3 dX0_takeDebt_57 rfl rfl ?_
  exact ev_ireturn dX0_takeDebt_58 (Nat.le_of_ble_eq_true rfl) ⟨rfl, rfl⟩
set_option maxHeartbeats 1000000 in
theorem c0_calledAsBits (p : Nat → va_E) (sl pl ks rr τ : Nat → Int32) (g : PW)  : Ct mX0_calledAsBits [.ref 17] (nw p sl pl ks rr τ g) (d1 (some (.int (bitN (isK τ) 8))) (nw p sl pl ks rr τ g)) nx := by
  refine ct_of 0 kX0_calledAsBits.1 rfl (Nat.le_of_ble_eq_true rfl) (fun v u h => by obtain ⟨rfl, rfl⟩ := h; exact rfl) ?_
  show Ev _ _ _ 0 0 [(0, .ref 17)] [] _
  refine ev_iconst (nI 0) dX0_calledAsBits_0 rfl ?_
  refine ev_istore_n 1 dX0_calledAsBits_1 rfl (Nat.le_of_ble_eq_true rfl) rfl ?_
  refine ev_iconst (nI 0) dX0_calledAsBits_2 rfl ?_
  refine ev_istore_n 2 dX0_calledAsBits_3 rfl (Nat.le_of_ble_eq_true rfl) rfl ?_
  suffices H : ∀ fu j, j + fu = 8 → Ev mX0_calledAsBits (d1 (some (.int (bitN (isK τ) 8))) (nw p sl pl ks rr τ g)) nx 0 4 [(2, .int (nI (j))), (1, .int (bitN (isK τ) (j))), (0, .ref 17)] [] ((nw p sl pl ks rr τ g)) from ev_sub [0, 1, 2] rfl (H 8 0 (Nat.zero_add _))
  intro fu
  induction fu with
  | zero =>
    intro j hj
    obtain rfl : 8 = j := by omega
    refine ev_iload_n 2 dX0_calledAsBits_4 rfl rfl ?_
    refine ev_bipush (nI 8) dX0_calledAsBits_5 rfl ?_
    refine ev_icmp_ge 35 dX0_calledAsBits_7 (by decide) (fun h7 => ?_) (fun h7 => absurd (nI_le (Nat.le_refl 8) (by omega)) h7)
    refine ev_iload_n 1 dX0_calledAsBits_35 rfl rfl ?_
    exact ev_ireturn dX0_calledAsBits_36 (Nat.le_of_ble_eq_true rfl) ⟨rfl, rfl⟩
  | succ fu ih =>
    intro j hj
    have hj6 : j < 8 := by omega
    refine ev_iload_n 2 dX0_calledAsBits_4 rfl rfl ?_
    refine ev_bipush (nI 8) dX0_calledAsBits_5 rfl ?_
    refine ev_icmp_ge 35 dX0_calledAsBits_7 (by decide) (fun h7 => absurd h7 (nI_ge hj6 (by omega))) (fun h7 => ?_)
    refine ev_iload_n 1 dX0_calledAsBits_10 rfl rfl ?_
    refine ev_aload_n 0 dX0_calledAsBits_11 rfl rfl ?_
    refine ev_getfield 6 dX0_calledAsBits_12 foX0_30 rfl rfl ?_
    refine ev_iload_n 2 dX0_calledAsBits_15 rfl rfl ?_
    refine ev_ild (j) dX0_calledAsBits_16 rfl (by simp only [nI_m, nI_add, ix, oI]) (by omega) rfl ?_
    suffices J17 : Ev mX0_calledAsBits (d1 (some (.int (bitN (isK τ) 8))) (nw p sl pl ks rr τ g)) nx 0 27 [(2, .int (nI j)), (1, .int (bitN (isK τ) j)), (0, .ref 17)] [.int (if isK τ j = true then nI 1 <<< (nI j &&& 31) else nI 0), .int (bitN (isK τ) j)] (nw p sl pl ks rr τ g) by
      refine ev_if_le 26 dX0_calledAsBits_17 (by decide) (fun h17 => ?_) (fun h17 => ?_)
      · refine ev_iconst (nI 0) dX0_calledAsBits_26 rfl ?_
        exact ev_sub [0, 1, 2] rfl (ev_top _ (by first | exact (if_neg (by rw [show isK τ j = false from decide_eq_false (Int32.not_lt.mpr h17)]; decide)).symm | exact (if_pos (decide_eq_true (Int32.not_le.mp h17))).symm) J17)
      · refine ev_iconst (nI 1) dX0_calledAsBits_20 rfl ?_
        refine ev_iload_n 2 dX0_calledAsBits_21 rfl rfl ?_
        refine ev_ishl dX0_calledAsBits_22 ?_
        refine ev_goto 27 dX0_calledAsBits_23 (by decide) ?_
        exact ev_sub [0, 1, 2] rfl (ev_top _ (by first | exact (if_neg (by rw [show isK τ j = false from decide_eq_false (Int32.not_lt.mpr h17)]; decide)).symm | exact (if_pos (decide_eq_true (Int32.not_le.mp h17))).symm) J17)
    refine ev_ior dX0_calledAsBits_27 ?_
    refine ev_istore_n 1 dX0_calledAsBits_28 rfl (Nat.le_of_ble_eq_true rfl) rfl ?_
    refine ev_iinc (nI (j + 1)) dX0_calledAsBits_29 rfl (nI_1 j) (Nat.le_of_ble_eq_true rfl) rfl ?_
    refine ev_goto 4 dX0_calledAsBits_32 (by decide) ?_
    exact ev_sub [0, 1, 2] rfl (ih (j + 1) (by omega))
set_option maxHeartbeats 1000000 in
theorem c0_addInterest (p : Nat → va_E) (sl pl ks rr τ : Nat → Int32) (g : PW)  : Ct mX0_addInterest [.ref 17] (nw p sl pl ks rr τ g) (d1 none (nw p sl pl ks rr (hrLN τ 8) g)) nx := by
  refine ct_of 0 kX0_addInterest.1 rfl (Nat.le_of_ble_eq_true rfl) (fun v u h => by obtain ⟨rfl, rfl⟩ := h; exact trivial) ?_
  show Ev _ _ _ 0 0 [(0, .ref 17)] [] _
  refine ev_iconst (nI 0) dX0_addInterest_0 rfl ?_
  refine ev_istore_n 1 dX0_addInterest_1 rfl (Nat.le_of_ble_eq_true rfl) rfl ?_
  suffices H : ∀ fu j, j + fu = 8 → Ev mX0_addInterest (d1 none (nw p sl pl ks rr (hrLN τ 8) g)) nx 0 2 [(1, .int (nI (j))), (0, .ref 17)] [] (nw p sl pl ks rr (hrLN τ (j)) g) from ev_sub [0, 1] rfl (H 8 0 (Nat.zero_add _))
  intro fu
  induction fu with
  | zero =>
    intro j hj
    obtain rfl : 8 = j := by omega
    refine ev_iload_n 1 dX0_addInterest_2 rfl rfl ?_
    refine ev_bipush (nI 8) dX0_addInterest_3 rfl ?_
    refine ev_icmp_ge 45 dX0_addInterest_5 (by decide) (fun h5 => ?_) (fun h5 => absurd (nI_le (Nat.le_refl 8) (by omega)) h5)
    exact ev_return dX0_addInterest_45 (Nat.le_of_ble_eq_true rfl) ⟨rfl, rfl⟩
  | succ fu ih =>
    intro j hj
    have hj6 : j < 8 := by omega
    refine ev_iload_n 1 dX0_addInterest_2 rfl rfl ?_
    refine ev_bipush (nI 8) dX0_addInterest_3 rfl ?_
    refine ev_icmp_ge 45 dX0_addInterest_5 (by decide) (fun h5 => absurd h5 (nI_ge hj6 (by omega))) (fun h5 => ?_)
    refine ev_aload_n 0 dX0_addInterest_8 rfl rfl ?_
    refine ev_aload_n 0 dX0_addInterest_9 rfl rfl ?_
    refine ev_getfield 5 dX0_addInterest_10 foX0_27 rfl rfl ?_
    refine ev_iload_n 1 dX0_addInterest_13 rfl rfl ?_
    refine ev_ild (j) dX0_addInterest_14 rfl (by simp only [nI_m, nI_add, ix, oI]) (by omega) rfl ?_
    refine ev_cV1 (c0_interestOn _ _ _ _ _ _ _ _) kX0_interestOn rfl g551 rfl rfl rfl rfl dX0_addInterest_15 ?_
    refine ev_istore_n 2 dX0_addInterest_18 rfl (Nat.le_of_ble_eq_true rfl) rfl ?_
    refine ev_aload_n 0 dX0_addInterest_19 rfl rfl ?_
    refine ev_getfield 5 dX0_addInterest_20 foX0_27 rfl rfl ?_
    refine ev_iload_n 1 dX0_addInterest_23 rfl rfl ?_
    refine ev_dup2 dX0_addInterest_24 rfl rfl ?_
    refine ev_ild (j) dX0_addInterest_25 rfl (by simp only [nI_m, nI_add, ix, oI]) (by omega) rfl ?_
    refine ev_iload_n 2 dX0_addInterest_26 rfl rfl ?_
    refine ev_iadd dX0_addInterest_27 ?_
    refine ev_ist (j) dX0_addInterest_28 rfl rfl (by omega) rfl (nw_debts _ _ _ _ _ _ _ hj6 _) ?_
    refine ev_aload_n 0 dX0_addInterest_29 rfl rfl ?_
    refine ev_dup dX0_addInterest_30 rfl ?_
    refine ev_getfield 14 dX0_addInterest_31 foX0_68 rfl rfl ?_
    refine ev_iload_n 2 dX0_addInterest_34 rfl rfl ?_
    refine ev_iadd dX0_addInterest_35 ?_
    refine ev_putfield 14 dX0_addInterest_36 fpX0_68 rfl (Nat.le_of_ble_eq_true rfl) (fun _ => rfl) (fun _ => rfl) (nw_f104 _ _ _ _ _ _ _ _) ?_
    refine ev_iinc (nI (j + 1)) dX0_addInterest_39 rfl (nI_1 j) (Nat.le_of_ble_eq_true rfl) rfl ?_
    refine ev_goto 2 dX0_addInterest_42 (by decide) ?_
    exact ev_sub [0, 2] rfl (ih (j + 1) (by omega))
