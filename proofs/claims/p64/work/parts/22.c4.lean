/-! ===== the class: selling out, hours ===== -/
/-- 0 .. 99 pieces of each kind: what reckon needs -/
def PcC (τ : Nat → Int32) (c : Nat) : Prop := ∀ k, k < 6 → 0 ≤ τ (ix c k) ∧ τ (ix c k) ≤ nI 99
theorem pcc_n {τ : Nat → Int32} {c : Nat} (h : PcC τ c) : spS τ c 6 = nI (nP τ c 6) ∧ nP τ c 6 ≤ 594 := ⟨spS_nP (fun k hk => (h k hk).1) 6 (by omega), nP_le h⟩
/-- what holds on the way through countDown -/
def CdI (b : Nat → Bool) (q : CQ) : Prop := ∀ j, j < 8 → PcC (lowC (cdN b q j).1 j) j
def PhI (q : CQ) : Prop := HK (hrLN (ph0 q) 8) ∧ CdI (isK q.1) (lookN (hrLN (ph0 q) 8) 8, q.2)
set_option maxHeartbeats 1000000 in
theorem c2_reckon (p : Nat → va_E) (sl pl ks rr τ : Nat → Int32) (g : PW) {c m : Nat} (hc : c < 8) (hm : spS τ c 6 = nI m) (hm2 : m ≤ 594) : Ct mX2_reckon [.ref 10, .ref 17, .int (nI c)] (nw p sl pl ks rr τ g) (d1 none (nw p (rkE (rkS τ sl pl ks c m).1) (rkS τ sl pl ks c m).2 (layK τ ks 6) rr τ g)) nx := by
  refine ct_of 2 kX2_reckon.1 rfl (Nat.le_of_ble_eq_true rfl) (fun v u h => by obtain ⟨rfl, rfl⟩ := h; exact trivial) ?_
  show Ev _ _ _ 0 0 [(0, .ref 10), (1, .ref 17), (2, .int (nI c))] [] _
  refine ev_aload_n 0 dX2_reckon_0 rfl rfl ?_
  refine ev_aload_n 1 dX2_reckon_1 rfl rfl ?_
  refine ev_getfield 4 dX2_reckon_2 foX2_18 rfl rfl ?_
  refine ev_iload_n 2 dX2_reckon_5 rfl rfl ?_
  refine ev_ild (c) dX2_reckon_6 rfl rfl (by omega) rfl ?_
  refine ev_putfield 2 dX2_reckon_7 fpX2_23 rfl (Nat.le_of_ble_eq_true rfl) (fun _ => rfl) (fun _ => rfl) (nw_s0 _ _ _ _ _ _ _ _) ?_
  refine ev_aload_n 0 dX2_reckon_10 rfl rfl ?_
  refine ev_aload_n 1 dX2_reckon_11 rfl rfl ?_
  refine ev_getfield 5 dX2_reckon_12 foX2_27 rfl rfl ?_
  refine ev_iload_n 2 dX2_reckon_15 rfl rfl ?_
  refine ev_ild (c) dX2_reckon_16 rfl rfl (by omega) rfl ?_
  refine ev_putfield 3 dX2_reckon_17 fpX2_30 rfl (Nat.le_of_ble_eq_true rfl) (fun _ => rfl) (fun _ => rfl) (nw_s1 _ _ _ _ _ _ _ _) ?_
  refine ev_aload_n 0 dX2_reckon_20 rfl rfl ?_
  refine ev_iconst (nI 0) dX2_reckon_21 rfl ?_
  refine ev_putfield 5 dX2_reckon_22 fpX2_33 rfl (Nat.le_of_ble_eq_true rfl) (fun _ => rfl) (fun _ => rfl) (nw_s3 _ _ _ _ _ _ _ _) ?_
  refine ev_aload_n 0 dX2_reckon_25 rfl rfl ?_
  refine ev_iconst (nI 0) dX2_reckon_26 rfl ?_
  refine ev_putfield 6 dX2_reckon_27 fpX2_36 rfl (Nat.le_of_ble_eq_true rfl) (fun _ => rfl) (fun _ => rfl) (nw_s4 _ _ _ _ _ _ _ _) ?_
  refine ev_aload_n 0 dX2_reckon_30 rfl rfl ?_
  refine ev_iconst (nI 0) dX2_reckon_31 rfl ?_
  refine ev_putfield 7 dX2_reckon_32 fpX2_39 rfl (Nat.le_of_ble_eq_true rfl) (fun _ => rfl) (fun _ => rfl) (nw_s5 _ _ _ _ _ _ _ _) ?_
  refine ev_aload_n 0 dX2_reckon_35 rfl rfl ?_
  refine ev_aload_n 1 dX2_reckon_36 rfl rfl ?_
  refine ev_iload_n 2 dX2_reckon_37 rfl rfl ?_
  refine ev_cV2 (c2_layOutPieces _ _ _ _ _ _ _ (by omega)) kX2_layOutPieces rfl g565 rfl rfl rfl rfl dX2_reckon_38 ?_
  refine ev_top (nI m) hm ?_
  refine ev_istore_n 3 dX2_reckon_41 rfl (Nat.le_of_ble_eq_true rfl) rfl ?_
  refine ev_aload_n 0 dX2_reckon_42 rfl rfl ?_
  refine ev_cV0v (c2_payFromCoins _ _ _ _ _ _ _) kX2_payFromCoins rfl g578 rfl rfl rfl rfl dX2_reckon_43 ?_
  refine ev_iconst (nI 0) dX2_reckon_46 rfl ?_
  refine ev_istore dX2_reckon_47 (Nat.le_of_ble_eq_true rfl) rfl ?_
  suffices H : ∀ fu t (q : (Nat → Int32) × (Nat → Int32)), t + fu = m → rkW τ (layK τ ks 6) fu q = rkS τ sl pl ks c m → Ev mX2_reckon (d1 none (nw p (rkE (rkS τ sl pl ks c m).1) (rkS τ sl pl ks c m).2 (layK τ ks 6) rr τ g)) nx 0 49 [(4, .int (nI t)), (3, .int (nI m)), (0, .ref 10), (1, .ref 17), (2, .int (nI c))] [] (nw p q.1 q.2 (layK τ ks 6) rr τ g) from ev_sub [0, 1, 2, 3, 4] rfl (H m 0 (pfS (rk0 τ sl c), layP τ c pl 6) (Nat.zero_add _) rfl)
  have F : ∀ t (q : (Nat → Int32) × (Nat → Int32)), q = rkS τ sl pl ks c m → Ev mX2_reckon (d1 none (nw p (rkE (rkS τ sl pl ks c m).1) (rkS τ sl pl ks c m).2 (layK τ ks 6) rr τ g)) nx 0 73 [(4, .int (nI t)), (3, .int (nI m)), (0, .ref 10), (1, .ref 17), (2, .int (nI c))] [] (nw p q.1 q.2 (layK τ ks 6) rr τ g) := by
    intro t q hw
    subst hw
    refine ev_aload_n 0 dX2_reckon_73 rfl rfl ?_
    refine ev_cV0 (c2_isCovered _ _ _ _ _ _ _) kX2_isCovered rfl g586 rfl rfl rfl rfl dX2_reckon_74 ?_
    refine ev_if_ne 93 dX2_reckon_77 (by decide) (fun h77 => ?_) (fun h77 => ?_)
    · have e : rkE (rkS τ sl pl ks c m).1 = (rkS τ sl pl ks c m).1 := if_pos (bI_1.mp h77)
      rw [e]
      exact ev_return dX2_reckon_93 (Nat.le_of_ble_eq_true rfl) ⟨rfl, rfl⟩
    · have e : rkE (rkS τ sl pl ks c m).1 = upd (upd (rkS τ sl pl ks c m).1 5 ((rkS τ sl pl ks c m).1 1)) 1 (nI 0) := if_neg (by rw [bI_0.mp h77]; decide)
      rw [e]
      refine ev_aload_n 0 dX2_reckon_80 rfl rfl ?_
      refine ev_aload_n 0 dX2_reckon_81 rfl rfl ?_
      refine ev_getfield 3 dX2_reckon_82 foX2_30 rfl rfl ?_
      refine ev_putfield 7 dX2_reckon_85 fpX2_39 rfl (Nat.le_of_ble_eq_true rfl) (fun _ => rfl) (fun _ => rfl) (nw_s5 _ _ _ _ _ _ _ _) ?_
      refine ev_aload_n 0 dX2_reckon_88 rfl rfl ?_
      refine ev_iconst (nI 0) dX2_reckon_89 rfl ?_
      refine ev_putfield 3 dX2_reckon_90 fpX2_30 rfl (Nat.le_of_ble_eq_true rfl) (fun _ => rfl) (fun _ => rfl) (nw_s1 _ _ _ _ _ _ _ _) ?_
      exact ev_return dX2_reckon_93 (Nat.le_of_ble_eq_true rfl) ⟨rfl, rfl⟩
  intro fu
  induction fu with
  | zero =>
    intro t q ht hw
    obtain rfl : m = t := by omega
    refine ev_iload dX2_reckon_49 rfl ?_
    refine ev_iload_n 3 dX2_reckon_51 rfl rfl ?_
    refine ev_icmp_ge 73 dX2_reckon_52 (by decide) (fun h52 => ?_) (fun h52 => absurd (nI_le (Nat.le_refl m) (by omega)) h52)
    exact ev_sub [0, 1, 2, 3, 4] rfl (F _ q hw)
  | succ fu ih =>
    intro t q ht hw
    refine ev_iload dX2_reckon_49 rfl ?_
    refine ev_iload_n 3 dX2_reckon_51 rfl rfl ?_
    refine ev_icmp_ge 73 dX2_reckon_52 (by decide) (fun h52 => absurd h52 (nI_ge (by omega) (by omega))) (fun h52 => ?_)
    refine ev_aload_n 0 dX2_reckon_55 rfl rfl ?_
    refine ev_cV0 (c2_isCovered _ _ _ _ _ _ _) kX2_isCovered rfl g586 rfl rfl rfl rfl dX2_reckon_56 ?_
    refine ev_if_ne 73 dX2_reckon_59 (by decide) (fun h59 => ?_) (fun h59 => ?_)
    · exact ev_sub [0, 1, 2, 3, 4] rfl (F _ q (by rw [← hw, rkW_cov (bI_1.mp h59)]))
    · refine ev_aload_n 0 dX2_reckon_62 rfl rfl ?_
      refine ev_aload_n 1 dX2_reckon_63 rfl rfl ?_
      refine ev_cV1v (c2_sellOne _ _ _ _ _ _ _) kX2_sellOne rfl g590 rfl rfl rfl rfl dX2_reckon_64 ?_
      refine ev_iinc (nI (t + 1)) dX2_reckon_67 rfl (nI_1 t) (Nat.le_of_ble_eq_true rfl) rfl ?_
      refine ev_goto 49 dX2_reckon_70 (by decide) ?_
      exact ev_sub [0, 1, 2, 3, 4] rfl (ih (t + 1) (soX τ (layK τ ks 6) q) (by omega) (by rw [← hw, rkW_go (bI_0.mp h59)]))
set_option maxHeartbeats 1000000 in
theorem c0_enterSale (p : Nat → va_E) (sl pl ks rr τ : Nat → Int32) (g : PW) {c : Nat} (hc : c < 8) : Ct mX0_enterSale [.ref 17, .ref 10, .int (nI c)] (nw p sl pl ks rr τ g) (d1 none (nw p sl pl ks rr (esS τ pl sl c) g)) nx := by
  refine ct_of 2 kX0_enterSale.1 rfl (Nat.le_of_ble_eq_true rfl) (fun v u h => by obtain ⟨rfl, rfl⟩ := h; exact trivial) ?_
  show Ev _ _ _ 0 0 [(0, .ref 17), (1, .ref 10), (2, .int (nI c))] [] _
  refine ev_iconst (nI 0) dX0_enterSale_0 rfl ?_
  refine ev_istore_n 3 dX0_enterSale_1 rfl (Nat.le_of_ble_eq_true rfl) rfl ?_
  suffices H : ∀ fu j, j + fu = 6 → Ev mX0_enterSale (d1 none (nw p sl pl ks rr (esS τ pl sl c) g)) nx 0 2 [(3, .int (nI (j))), (0, .ref 17), (1, .ref 10), (2, .int (nI c))] [] (nw p sl pl ks rr (esN τ pl c (j)) g) from ev_sub [0, 1, 2, 3] rfl (H 6 0 (Nat.zero_add _))
  intro fu
  induction fu with
  | zero =>
    intro j hj
    obtain rfl : 6 = j := by omega
    refine ev_iload_n 3 dX0_enterSale_2 rfl rfl ?_
    refine ev_bipush (nI 6) dX0_enterSale_3 rfl ?_
    refine ev_icmp_ge 57 dX0_enterSale_5 (by decide) (fun h5 => ?_) (fun h5 => absurd (nI_le (Nat.le_refl 6) (by omega)) h5)
    refine ev_aload_n 0 dX0_enterSale_57 rfl rfl ?_
    refine ev_getfield 4 dX0_enterSale_58 foX0_24 rfl rfl ?_
    refine ev_iload_n 2 dX0_enterSale_61 rfl rfl ?_
    refine ev_aload_n 1 dX0_enterSale_62 rfl rfl ?_
    refine ev_getfield 2 dX0_enterSale_63 foX0_144 rfl rfl ?_
    refine ev_ist (c) dX0_enterSale_66 rfl (by simp only [nI_m, nI_add, ix, oI]) (by omega) rfl (nw_coins _ _ _ _ _ _ _ hc _) ?_
    refine ev_aload_n 0 dX0_enterSale_67 rfl rfl ?_
    refine ev_getfield 5 dX0_enterSale_68 foX0_27 rfl rfl ?_
    refine ev_iload_n 2 dX0_enterSale_71 rfl rfl ?_
    refine ev_aload_n 1 dX0_enterSale_72 rfl rfl ?_
    refine ev_getfield 3 dX0_enterSale_73 foX0_147 rfl rfl ?_
    refine ev_ist (c) dX0_enterSale_76 rfl (by simp only [nI_m, nI_add, ix, oI]) (by omega) rfl (nw_debts _ _ _ _ _ _ _ hc _) ?_
    refine ev_aload_n 0 dX0_enterSale_77 rfl rfl ?_
    refine ev_dup dX0_enterSale_78 rfl ?_
    refine ev_getfield 15 dX0_enterSale_79 foX0_71 rfl rfl ?_
    refine ev_aload_n 1 dX0_enterSale_82 rfl rfl ?_
    refine ev_getfield 6 dX0_enterSale_83 foX0_150 rfl rfl ?_
    refine ev_iadd dX0_enterSale_86 ?_
    refine ev_putfield 15 dX0_enterSale_87 fpX0_71 rfl (Nat.le_of_ble_eq_true rfl) (fun _ => rfl) (fun _ => rfl) (nw_f105 _ _ _ _ _ _ _ _) ?_
    refine ev_aload_n 0 dX0_enterSale_90 rfl rfl ?_
    refine ev_dup dX0_enterSale_91 rfl ?_
    refine ev_getfield 16 dX0_enterSale_92 foX0_74 rfl rfl ?_
    refine ev_aload_n 1 dX0_enterSale_95 rfl rfl ?_
    refine ev_getfield 7 dX0_enterSale_96 foX0_153 rfl rfl ?_
    refine ev_iadd dX0_enterSale_99 ?_
    refine ev_putfield 16 dX0_enterSale_100 fpX0_74 rfl (Nat.le_of_ble_eq_true rfl) (fun _ => rfl) (fun _ => rfl) (nw_f106 _ _ _ _ _ _ _ _) ?_
    refine ev_aload_n 1 dX0_enterSale_103 rfl rfl ?_
    refine ev_getfield 7 dX0_enterSale_104 foX0_153 rfl rfl ?_
    refine ev_if_le 117 dX0_enterSale_107 (by decide) (fun h107 => ?_) (fun h107 => ?_)
    · refine ev_w (w' := nw p sl pl ks rr (es4 τ pl sl c) g) (by rw [show es4 τ pl sl c = es3 τ pl sl c from if_neg (Int32.not_lt.mpr h107)]; rfl) ?_
      refine ev_aload_n 0 dX0_enterSale_117 rfl rfl ?_
      refine ev_getfield 6 dX0_enterSale_118 foX0_30 rfl rfl ?_
      refine ev_iload_n 2 dX0_enterSale_121 rfl rfl ?_
      refine ev_iconst (nI 0) dX0_enterSale_122 rfl ?_
      refine ev_ist (c) dX0_enterSale_123 rfl (by simp only [nI_m, nI_add, ix, oI]) (by omega) rfl (nw_call _ _ _ _ _ _ _ hc _) ?_
      refine ev_aload_n 0 dX0_enterSale_124 rfl rfl ?_
      refine ev_dup dX0_enterSale_125 rfl ?_
      refine ev_getfield 18 dX0_enterSale_126 foX0_80 rfl rfl ?_
      refine ev_iconst (nI 1) dX0_enterSale_129 rfl ?_
      refine ev_iadd dX0_enterSale_130 ?_
      refine ev_putfield 18 dX0_enterSale_131 fpX0_80 rfl (Nat.le_of_ble_eq_true rfl) (fun _ => rfl) (fun _ => rfl) (nw_f108 _ _ _ _ _ _ _ _) ?_
      exact ev_return dX0_enterSale_134 (Nat.le_of_ble_eq_true rfl) ⟨rfl, rfl⟩
    · refine ev_aload_n 0 dX0_enterSale_110 rfl rfl ?_
      refine ev_getfield 7 dX0_enterSale_111 foX0_33 rfl rfl ?_
      refine ev_iload_n 2 dX0_enterSale_114 rfl rfl ?_
      refine ev_iconst (nI 1) dX0_enterSale_115 rfl ?_
      refine ev_bst c dX0_enterSale_116 rfl rfl (by omega) rfl rfl (nw_barred _ _ _ _ _ _ _ hc _) ?_
      refine ev_w (w' := nw p sl pl ks rr (es4 τ pl sl c) g) (by rw [show es4 τ pl sl c = upd (es3 τ pl sl c) (ix c 9) (nI 1) from if_pos (Int32.not_le.mp h107)]; rfl) ?_
      refine ev_aload_n 0 dX0_enterSale_117 rfl rfl ?_
      refine ev_getfield 6 dX0_enterSale_118 foX0_30 rfl rfl ?_
      refine ev_iload_n 2 dX0_enterSale_121 rfl rfl ?_
      refine ev_iconst (nI 0) dX0_enterSale_122 rfl ?_
      refine ev_ist (c) dX0_enterSale_123 rfl (by simp only [nI_m, nI_add, ix, oI]) (by omega) rfl (nw_call _ _ _ _ _ _ _ hc _) ?_
      refine ev_aload_n 0 dX0_enterSale_124 rfl rfl ?_
      refine ev_dup dX0_enterSale_125 rfl ?_
      refine ev_getfield 18 dX0_enterSale_126 foX0_80 rfl rfl ?_
      refine ev_iconst (nI 1) dX0_enterSale_129 rfl ?_
      refine ev_iadd dX0_enterSale_130 ?_
      refine ev_putfield 18 dX0_enterSale_131 fpX0_80 rfl (Nat.le_of_ble_eq_true rfl) (fun _ => rfl) (fun _ => rfl) (nw_f108 _ _ _ _ _ _ _ _) ?_
      exact ev_return dX0_enterSale_134 (Nat.le_of_ble_eq_true rfl) ⟨rfl, rfl⟩
  | succ fu ih =>
    intro j hj
    have hj6 : j < 6 := by omega
    refine ev_iload_n 3 dX0_enterSale_2 rfl rfl ?_
    refine ev_bipush (nI 6) dX0_enterSale_3 rfl ?_
    refine ev_icmp_ge 57 dX0_enterSale_5 (by decide) (fun h5 => absurd h5 (nI_ge hj6 (by omega))) (fun h5 => ?_)
    refine ev_iload_n 2 dX0_enterSale_8 rfl rfl ?_
    refine ev_iload_n 3 dX0_enterSale_9 rfl rfl ?_
    refine ev_cN2 (c3_at _ _ _) kX3_at rfl (fun _ _ _ _ h => h.1.1) rfl rfl dX0_enterSale_10 ?_
    refine ev_istore dX0_enterSale_13 (Nat.le_of_ble_eq_true rfl) rfl ?_
    refine ev_aload_n 0 dX0_enterSale_15 rfl rfl ?_
    refine ev_getfield 2 dX0_enterSale_16 foX0_18 rfl rfl ?_
    refine ev_iload_n 3 dX0_enterSale_19 rfl rfl ?_
    refine ev_dup2 dX0_enterSale_20 rfl rfl ?_
    refine ev_ild (j) dX0_enterSale_21 rfl (by simp only [nI_m, nI_add, ix, oI]) (by omega) rfl ?_
    refine ev_aload_n 0 dX0_enterSale_22 rfl rfl ?_
    refine ev_getfield 3 dX0_enterSale_23 foX0_21 rfl rfl ?_
    refine ev_iload dX0_enterSale_26 rfl ?_
    refine ev_ild (c * 6 + j) dX0_enterSale_28 rfl (by simp only [nI_m, nI_add, ix, oI]) (by omega) rfl ?_
    refine ev_top ((esN τ pl c j) (ix c j)) (pc6 hj6) ?_
    refine ev_aload_n 1 dX0_enterSale_29 rfl rfl ?_
    refine ev_getfield 0 dX0_enterSale_30 foX0_141 rfl rfl ?_
    refine ev_iload_n 3 dX0_enterSale_33 rfl rfl ?_
    refine ev_ild (j) dX0_enterSale_34 rfl (by simp only [nI_m, nI_add, ix, oI]) (by omega) rfl ?_
    refine ev_isub dX0_enterSale_35 ?_
    refine ev_iadd dX0_enterSale_36 ?_
    refine ev_ist (j) dX0_enterSale_37 rfl rfl (by omega) rfl (nw_sold _ _ _ _ _ _ _ hj6 _) ?_
    refine ev_aload_n 0 dX0_enterSale_38 rfl rfl ?_
    refine ev_getfield 3 dX0_enterSale_39 foX0_21 rfl rfl ?_
    refine ev_iload dX0_enterSale_42 rfl ?_
    refine ev_aload_n 1 dX0_enterSale_44 rfl rfl ?_
    refine ev_getfield 0 dX0_enterSale_45 foX0_141 rfl rfl ?_
    refine ev_iload_n 3 dX0_enterSale_48 rfl rfl ?_
    refine ev_ild (j) dX0_enterSale_49 rfl (by simp only [nI_m, nI_add, ix, oI]) (by omega) rfl ?_
    refine ev_ist (c * 6 + j) dX0_enterSale_50 rfl (by simp only [nI_m, nI_add, ix, oI]) (by omega) rfl (nw_pieces _ _ _ _ _ _ _ hc hj6 _) ?_
    refine ev_iinc (nI (j + 1)) dX0_enterSale_51 rfl (nI_1 j) (Nat.le_of_ble_eq_true rfl) rfl ?_
    refine ev_goto 2 dX0_enterSale_54 (by decide) ?_
    exact ev_sub [0, 2, 3, 4] rfl (ih (j + 1) (by omega))
set_option maxHeartbeats 1000000 in
theorem c0_countDown (p : Nat → va_E) (q : CQ) (rr : Nat → Int32) (g : PW) {b : Nat → Bool} (hI : CdI b q) : Ct mX0_countDown [.ref 17, .int (bitN b 8), .ref 10] (nwq p q rr g) (d1 none (nwq p (cdN b q 8) rr g)) nx := by
  refine ct_of 2 kX0_countDown.1 rfl (Nat.le_of_ble_eq_true rfl) (fun v u h => by obtain ⟨rfl, rfl⟩ := h; exact trivial) ?_
  show Ev _ _ _ 0 0 [(0, .ref 17), (1, .int (bitN b 8)), (2, .ref 10)] [] _
  refine ev_iconst (nI 0) dX0_countDown_0 rfl ?_
  refine ev_istore_n 3 dX0_countDown_1 rfl (Nat.le_of_ble_eq_true rfl) rfl ?_
  suffices H : ∀ fu j, j + fu = 8 → Ev mX0_countDown (d1 none (nwq p (cdN b q 8) rr g)) nx 0 2 [(3, .int (nI (j))), (0, .ref 17), (1, .int (bitN b 8)), (2, .ref 10)] [] (nwq p (cdN b q (j)) rr g) from ev_sub [0, 1, 2, 3] rfl (H 8 0 (Nat.zero_add _))
  intro fu
  induction fu with
  | zero =>
    intro j hj
    obtain rfl : 8 = j := by omega
    refine ev_iload_n 3 dX0_countDown_2 rfl rfl ?_
    refine ev_bipush (nI 8) dX0_countDown_3 rfl ?_
    refine ev_icmp_ge 74 dX0_countDown_5 (by decide) (fun h5 => ?_) (fun h5 => absurd (nI_le (Nat.le_refl 8) (by omega)) h5)
    exact ev_return dX0_countDown_74 (Nat.le_of_ble_eq_true rfl) ⟨rfl, rfl⟩
  | succ fu ih =>
    intro j hj
    have hj6 : j < 8 := by omega
    refine ev_iload_n 3 dX0_countDown_2 rfl rfl ?_
    refine ev_bipush (nI 8) dX0_countDown_3 rfl ?_
    refine ev_icmp_ge 74 dX0_countDown_5 (by decide) (fun h5 => absurd h5 (nI_ge hj6 (by omega))) (fun h5 => ?_)
    refine ev_iload_n 1 dX0_countDown_8 rfl rfl ?_
    refine ev_iload_n 3 dX0_countDown_9 rfl rfl ?_
    refine ev_ishr dX0_countDown_10 ?_
    refine ev_iconst (nI 1) dX0_countDown_11 rfl ?_
    refine ev_iand dX0_countDown_12 ?_
    refine ev_top (bI (b j)) (bit_at b hj6) ?_
    refine ev_if_eq 20 dX0_countDown_13 (by decide) (fun h13 => ?_) (fun h13 => ?_)
    · refine ev_iconst (nI 0) dX0_countDown_20 rfl ?_
      refine ev_istore dX0_countDown_21 (Nat.le_of_ble_eq_true rfl) rfl ?_
      refine ev_iload dX0_countDown_23 rfl ?_
      refine ev_if_eq 68 dX0_countDown_25 (by decide) (fun h25 => ?_) (fun h25 => absurd rfl h25)
      refine ev_iinc (nI (j + 1)) dX0_countDown_68 rfl (nI_1 j) (Nat.le_of_ble_eq_true rfl) rfl ?_
      refine ev_goto 2 dX0_countDown_71 (by decide) ?_
      have I := ih (j + 1) (by omega)
      rw [show cdN b q (j + 1) = _ from cd_no (by rw [bI_0.mp h13]; rfl)] at I
      exact ev_sub [0, 2, 3, 4] rfl I
    · have hb := bI_1.mp h13
      refine ev_iconst (nI 1) dX0_countDown_16 rfl ?_
      refine ev_goto 21 dX0_countDown_17 (by decide) ?_
      refine ev_istore dX0_countDown_21 (Nat.le_of_ble_eq_true rfl) rfl ?_
      refine ev_iload dX0_countDown_23 rfl ?_
      refine ev_if_eq 68 dX0_countDown_25 (by decide) (fun h25 => absurd h25 (by decide)) (fun h25 => ?_)
      refine ev_aload_n 0 dX0_countDown_28 rfl rfl ?_
      refine ev_getfield 6 dX0_countDown_29 foX0_30 rfl rfl ?_
      refine ev_iload_n 3 dX0_countDown_32 rfl rfl ?_
      refine ev_ild (j) dX0_countDown_33 rfl (by simp only [nI_m, nI_add, ix, oI]) (by omega) rfl ?_
      refine ev_if_le 68 dX0_countDown_34 (by decide) (fun h34 => ?_) (fun h34 => ?_)
      · refine ev_iinc (nI (j + 1)) dX0_countDown_68 rfl (nI_1 j) (Nat.le_of_ble_eq_true rfl) rfl ?_
        refine ev_goto 2 dX0_countDown_71 (by decide) ?_
        have I := ih (j + 1) (by omega)
        rw [show cdN b q (j + 1) = _ from cd_no (by rw [show isK (cdN b q j).1 j = false from decide_eq_false (Int32.not_lt.mpr h34), Bool.and_false])] at I
        exact ev_sub [0, 2, 3, 4] rfl I
      · have hk : isK (cdN b q j).1 j = true := decide_eq_true (Int32.not_le.mp h34)
        refine ev_aload_n 0 dX0_countDown_37 rfl rfl ?_
        refine ev_getfield 6 dX0_countDown_38 foX0_30 rfl rfl ?_
        refine ev_iload_n 3 dX0_countDown_41 rfl rfl ?_
        refine ev_dup2 dX0_countDown_42 rfl rfl ?_
        refine ev_ild (j) dX0_countDown_43 rfl (by simp only [nI_m, nI_add, ix, oI]) (by omega) rfl ?_
        refine ev_iconst (nI 1) dX0_countDown_44 rfl ?_
        refine ev_isub dX0_countDown_45 ?_
        refine ev_ist (j) dX0_countDown_46 rfl rfl (by omega) rfl (nw_call _ _ _ _ _ _ _ hj6 _) ?_
        refine ev_w (w' := nwq p (lowC (cdN b q j).1 j, (cdN b q j).2) rr g) rfl ?_
        refine ev_aload_n 0 dX0_countDown_47 rfl rfl ?_
        refine ev_getfield 6 dX0_countDown_48 foX0_30 rfl rfl ?_
        refine ev_iload_n 3 dX0_countDown_51 rfl rfl ?_
        refine ev_ild (j) dX0_countDown_52 rfl (by simp only [nI_m, nI_add, ix, oI]) (by omega) rfl ?_
        refine ev_if_ne 68 dX0_countDown_53 (by decide) (fun h53 => ?_) (fun h53 => ?_)
        · refine ev_iinc (nI (j + 1)) dX0_countDown_68 rfl (nI_1 j) (Nat.le_of_ble_eq_true rfl) rfl ?_
          refine ev_goto 2 dX0_countDown_71 (by decide) ?_
          have I := ih (j + 1) (by omega)
          rw [show cdN b q (j + 1) = _ from cd_low hb hk h53] at I
          exact ev_sub [0, 2, 3, 4] rfl I
        · obtain ⟨hm, hm2⟩ := pcc_n (hI j hj6)
          refine ev_aload_n 2 dX0_countDown_56 rfl rfl ?_
          refine ev_aload_n 0 dX0_countDown_57 rfl rfl ?_
          refine ev_iload_n 3 dX0_countDown_58 rfl rfl ?_
          refine ev_cV2v (c2_reckon _ _ _ _ _ _ _ hj6 hm hm2) kX2_reckon rfl g561 rfl rfl rfl rfl dX0_countDown_59 ?_
          refine ev_aload_n 0 dX0_countDown_62 rfl rfl ?_
          refine ev_aload_n 2 dX0_countDown_63 rfl rfl ?_
          refine ev_iload_n 3 dX0_countDown_64 rfl rfl ?_
          refine ev_cV2v (c0_enterSale _ _ _ _ _ _ _ hj6) kX0_enterSale rfl g598 rfl rfl rfl rfl dX0_countDown_65 ?_
          refine ev_w (w' := nwq p (sellC (lowC (cdN b q j).1 j, (cdN b q j).2) j) rr g) rfl ?_
          refine ev_iinc (nI (j + 1)) dX0_countDown_68 rfl (nI_1 j) (Nat.le_of_ble_eq_true rfl) rfl ?_
          refine ev_goto 2 dX0_countDown_71 (by decide) ?_
          have I := ih (j + 1) (by omega)
          rw [show cdN b q (j + 1) = _ from cd_sell hb hk h53] at I
          exact ev_sub [0, 2, 3, 4] rfl I
set_option maxHeartbeats 1000000 in
theorem c0_passHours (p : Nat → va_E) (q : CQ) (rr : Nat → Int32) (g : PW) {h : Nat} (hh : h ≤ 100) (hI : ∀ j, j < h → PhI (phN q j)) (hL : HK (phN q h).1) : Ct mX0_passHours [.ref 17, .int (nI h), .ref 10] (nwq p q rr g) (d1 (some (.int (lookN (phN q h).1 8 108 - q.1 108))) (nwq p ((lookN (phN q h).1 8, (phN q h).2)) rr g)) nx := by
  refine ct_of 2 kX0_passHours.1 rfl (Nat.le_of_ble_eq_true rfl) (fun v u h => by obtain ⟨rfl, rfl⟩ := h; exact rfl) ?_
  show Ev _ _ _ 0 0 [(0, .ref 17), (1, .int (nI h)), (2, .ref 10)] [] _
  refine ev_aload_n 0 dX0_passHours_0 rfl rfl ?_
  refine ev_getfield 18 dX0_passHours_1 foX0_80 rfl rfl ?_
  refine ev_istore_n 3 dX0_passHours_4 rfl (Nat.le_of_ble_eq_true rfl) rfl ?_
  refine ev_iconst (nI 0) dX0_passHours_5 rfl ?_
  refine ev_istore dX0_passHours_6 (Nat.le_of_ble_eq_true rfl) rfl ?_
  suffices H : ∀ fu j, j + fu = h → Ev mX0_passHours (d1 (some (.int (lookN (phN q h).1 8 108 - q.1 108))) (nwq p ((lookN (phN q h).1 8, (phN q h).2)) rr g)) nx 0 8 [(4, .int (nI (j))), (3, .int (q.1 108)), (0, .ref 17), (1, .int (nI h)), (2, .ref 10)] [] (nwq p (phN q (j)) rr g) from ev_sub [0, 1, 2, 3, 4] rfl (H h 0 (Nat.zero_add _))
  intro fu
  induction fu with
  | zero =>
    intro j hj
    obtain rfl : h = j := by omega
    refine ev_iload dX0_passHours_8 rfl ?_
    refine ev_iload_n 1 dX0_passHours_10 rfl rfl ?_
    refine ev_icmp_ge 52 dX0_passHours_11 (by decide) (fun h11 => ?_) (fun h11 => absurd (nI_le (Nat.le_refl h) (by omega)) h11)
    refine ev_aload_n 0 dX0_passHours_52 rfl rfl ?_
    refine ev_cV0 (c0_look _ _ _ _ _ _ _ hL) kX0_lookAtClients rfl g331 rfl rfl rfl rfl dX0_passHours_53 ?_
    refine ev_pop dX0_passHours_56 rfl ?_
    refine ev_aload_n 0 dX0_passHours_57 rfl rfl ?_
    refine ev_getfield 18 dX0_passHours_58 foX0_80 rfl rfl ?_
    refine ev_iload_n 3 dX0_passHours_61 rfl rfl ?_
    refine ev_isub dX0_passHours_62 ?_
    exact ev_ireturn dX0_passHours_63 (Nat.le_of_ble_eq_true rfl) ⟨rfl, rfl⟩
  | succ fu ih =>
    intro j hj
    have hj6 : j < h := by omega
    refine ev_iload dX0_passHours_8 rfl ?_
    refine ev_iload_n 1 dX0_passHours_10 rfl rfl ?_
    refine ev_icmp_ge 52 dX0_passHours_11 (by decide) (fun h11 => absurd h11 (nI_ge hj6 (by omega))) (fun h11 => ?_)
    refine ev_aload_n 0 dX0_passHours_14 rfl rfl ?_
    refine ev_cV0 (c0_calledAsBits _ _ _ _ _ _ _) kX0_calledAsBits rfl g543 rfl rfl rfl rfl dX0_passHours_15 ?_
    refine ev_istore dX0_passHours_18 (Nat.le_of_ble_eq_true rfl) rfl ?_
    refine ev_aload_n 0 dX0_passHours_20 rfl rfl ?_
    refine ev_dup dX0_passHours_21 rfl ?_
    refine ev_getfield 12 dX0_passHours_22 foX0_62 rfl rfl ?_
    refine ev_iconst (nI 1) dX0_passHours_25 rfl ?_
    refine ev_iadd dX0_passHours_26 ?_
    refine ev_putfield 12 dX0_passHours_27 fpX0_62 rfl (Nat.le_of_ble_eq_true rfl) (fun _ => rfl) (fun _ => rfl) (nw_f102 _ _ _ _ _ _ _ _) ?_
    refine ev_aload_n 0 dX0_passHours_30 rfl rfl ?_
    refine ev_cV0v (c0_addInterest _ _ _ _ _ _ _) kX0_addInterest rfl g547 rfl rfl rfl rfl dX0_passHours_31 ?_
    refine ev_aload_n 0 dX0_passHours_34 rfl rfl ?_
    refine ev_cV0 (c0_look _ _ _ _ _ _ _ (hI j hj6).1) kX0_lookAtClients rfl g331 rfl rfl rfl rfl dX0_passHours_35 ?_
    refine ev_pop dX0_passHours_38 rfl ?_
    refine ev_aload_n 0 dX0_passHours_39 rfl rfl ?_
    refine ev_iload dX0_passHours_40 rfl ?_
    refine ev_aload_n 2 dX0_passHours_42 rfl rfl ?_
    refine ev_cV2v (c0_countDown p (lookN (hrLN (ph0 (phN q j)) 8) 8, (phN q j).2) rr g (hI j hj6).2) kX0_countDown rfl g557 rfl rfl rfl rfl dX0_passHours_43 ?_
    refine ev_w (w' := nwq p (phN q (j + 1)) rr g) rfl ?_
    refine ev_iinc (nI (j + 1)) dX0_passHours_46 rfl (nI_1 j) (Nat.le_of_ble_eq_true rfl) rfl ?_
    refine ev_goto 8 dX0_passHours_49 (by decide) ?_
    exact ev_sub [0, 2, 3, 4, 5] rfl (ih (j + 1) (by omega))
