/-! ===== the reference: cover ===== -/
set_option maxHeartbeats 1000000 in
theorem c4_coverIf (σ z : Nat → Int32) (Y : RY) (g : PW) {c : Nat} (hc : c < 8) (q least : Int32) : Ct mX4_coverIf [.ref 0, .int (nI c), .int q, .int least] (rw9 σ z Y g) (d1 (some (.int (covI σ c q least))) (rw9 σ z Y g)) nx := by
  refine ct_of 3 kX4_coverIf.1 rfl (Nat.le_of_ble_eq_true rfl) (fun v u h => by obtain ⟨rfl, rfl⟩ := h; exact rfl) ?_
  show Ev _ _ _ 0 0 [(0, .ref 0), (1, .int (nI c)), (2, .int q), (3, .int least)] [] _
  refine ev_iconst (nI 0) dX4_coverIf_0 rfl ?_
  refine ev_istore dX4_coverIf_1 (Nat.le_of_ble_eq_true rfl) rfl ?_
  refine ev_iconst (nI 0) dX4_coverIf_3 rfl ?_
  refine ev_istore dX4_coverIf_4 (Nat.le_of_ble_eq_true rfl) rfl ?_
  suffices H : ∀ fu j, j + fu = 6 → Ev mX4_coverIf (d1 (some (.int (covI σ c q least))) (rw9 σ z Y g)) nx 0 6 [(5, .int (nI j)), (4, .int (covS σ c q least j)), (0, .ref 0), (1, .int (nI c)), (2, .int q), (3, .int least)] [] ((rw9 σ z Y g)) from ev_sub [0, 1, 2, 3, 4, 5] rfl (H 6 0 (Nat.zero_add _))
  intro fu
  induction fu with
  | zero =>
    intro j hj
    obtain rfl : 6 = j := by omega
    refine ev_iload dX4_coverIf_6 rfl ?_
    refine ev_bipush (nI 6) dX4_coverIf_8 rfl ?_
    refine ev_icmp_ge 72 dX4_coverIf_10 (by decide) (fun h10 => ?_) (fun h10 => absurd (nI_le (Nat.le_refl 6) (by omega)) h10)
    refine ev_aload_n 0 dX4_coverIf_72 rfl rfl ?_
    refine ev_iload_n 1 dX4_coverIf_73 rfl rfl ?_
    refine ev_bipush (nI 6) dX4_coverIf_74 rfl ?_
    refine ev_cV2 (c4_of σ z Y g hc (by omega)) kX4_of rfl g1188 rfl rfl rfl rfl dX4_coverIf_76 ?_
    refine ev_iload dX4_coverIf_79 rfl ?_
    refine ev_bipush (nI 100) dX4_coverIf_81 rfl ?_
    refine ev_idiv dX4_coverIf_83 (by decide) ?_
    refine ev_iadd dX4_coverIf_84 ?_
    exact ev_ireturn dX4_coverIf_85 (Nat.le_of_ble_eq_true rfl) ⟨rfl, rfl⟩
  | succ fu ih =>
    intro j hj
    have hj6 : j < 6 := by omega
    refine ev_iload dX4_coverIf_6 rfl ?_
    refine ev_bipush (nI 6) dX4_coverIf_8 rfl ?_
    refine ev_icmp_ge 72 dX4_coverIf_10 (by decide) (fun h10 => absurd h10 (nI_ge hj6 (by omega))) (fun h10 => ?_)
    refine ev_aload_n 0 dX4_coverIf_13 rfl rfl ?_
    refine ev_aload_n 0 dX4_coverIf_14 rfl rfl ?_
    refine ev_getfield 0 dX4_coverIf_15 foX4_7 rfl rfl ?_
    refine ev_iload dX4_coverIf_18 rfl ?_
    refine ev_ild (j) dX4_coverIf_20 rfl (by simp only [nI_m, nI_add, ix, oI]) (by omega) rfl ?_
    refine ev_iload_n 2 dX4_coverIf_21 rfl rfl ?_
    refine ev_cV2 (c4_fallen _ _ _) kX4_fallen rfl g1200 rfl rfl rfl rfl dX4_coverIf_22 ?_
    refine ev_istore dX4_coverIf_25 (Nat.le_of_ble_eq_true rfl) rfl ?_
    refine ev_iload dX4_coverIf_27 rfl ?_
    refine ev_aload_n 0 dX4_coverIf_29 rfl rfl ?_
    refine ev_iload_n 1 dX4_coverIf_30 rfl rfl ?_
    refine ev_iload dX4_coverIf_31 rfl ?_
    refine ev_cV2 (c4_of σ z Y g hc (by omega)) kX4_of rfl g1188 rfl rfl rfl rfl dX4_coverIf_33 ?_
    refine ev_iload dX4_coverIf_36 rfl ?_
    refine ev_iload_n 3 dX4_coverIf_38 rfl rfl ?_
    refine ev_icmp_ge 46 dX4_coverIf_39 (by decide) (fun h39 => ?_) (fun h39 => ?_)
    · refine ev_iload dX4_coverIf_46 rfl ?_
      refine ev_top (if falI (σ j) q < least then least else falI (σ j) q) (by first | rw [if_pos (Int32.not_le.mp h39)] | rw [if_neg (Int32.not_lt.mpr h39)]) ?_
      refine ev_imul dX4_coverIf_48 ?_
      refine ev_bipush (nI 100) dX4_coverIf_49 rfl ?_
      refine ev_aload_n 0 dX4_coverIf_51 rfl rfl ?_
      refine ev_getfield 0 dX4_coverIf_52 foX4_7 rfl rfl ?_
      refine ev_bipush (nI 6) dX4_coverIf_55 rfl ?_
      refine ev_iload dX4_coverIf_57 rfl ?_
      refine ev_iadd dX4_coverIf_59 ?_
      refine ev_ild (6 + j) dX4_coverIf_60 rfl (by simp only [nI_m, nI_add, ix, oI]) (by omega) rfl ?_
      refine ev_isub dX4_coverIf_61 ?_
      refine ev_imul dX4_coverIf_62 ?_
      refine ev_iadd dX4_coverIf_63 ?_
      refine ev_istore dX4_coverIf_64 (Nat.le_of_ble_eq_true rfl) rfl ?_
      refine ev_iinc (nI (j + 1)) dX4_coverIf_66 rfl (nI_1 j) (Nat.le_of_ble_eq_true rfl) rfl ?_
      refine ev_goto 6 dX4_coverIf_69 (by decide) ?_
      exact ev_sub [0, 1, 3, 4, 5, 6] rfl (ih (j + 1) (by omega))
    · refine ev_iload_n 3 dX4_coverIf_42 rfl rfl ?_
      refine ev_goto 48 dX4_coverIf_43 (by decide) ?_
      refine ev_top (if falI (σ j) q < least then least else falI (σ j) q) (by first | rw [if_pos (Int32.not_le.mp h39)] | rw [if_neg (Int32.not_lt.mpr h39)]) ?_
      refine ev_imul dX4_coverIf_48 ?_
      refine ev_bipush (nI 100) dX4_coverIf_49 rfl ?_
      refine ev_aload_n 0 dX4_coverIf_51 rfl rfl ?_
      refine ev_getfield 0 dX4_coverIf_52 foX4_7 rfl rfl ?_
      refine ev_bipush (nI 6) dX4_coverIf_55 rfl ?_
      refine ev_iload dX4_coverIf_57 rfl ?_
      refine ev_iadd dX4_coverIf_59 ?_
      refine ev_ild (6 + j) dX4_coverIf_60 rfl (by simp only [nI_m, nI_add, ix, oI]) (by omega) rfl ?_
      refine ev_isub dX4_coverIf_61 ?_
      refine ev_imul dX4_coverIf_62 ?_
      refine ev_iadd dX4_coverIf_63 ?_
      refine ev_istore dX4_coverIf_64 (Nat.le_of_ble_eq_true rfl) rfl ?_
      refine ev_iinc (nI (j + 1)) dX4_coverIf_66 rfl (nI_1 j) (Nat.le_of_ble_eq_true rfl) rfl ?_
      refine ev_goto 6 dX4_coverIf_69 (by decide) ?_
      exact ev_sub [0, 1, 3, 4, 5, 6] rfl (ih (j + 1) (by omega))
set_option maxHeartbeats 1000000 in
theorem c4_cover (σ z : Nat → Int32) (Y : RY) (g : PW) {c : Nat} (hc : c < 8) : Ct mX4_cover [.ref 0, .int (nI c)] (rw9 σ z Y g) (d1 (some (.int (covI σ c (nI 0) (nI 1)))) (rw9 σ z Y g)) nx := by
  refine ct_of 1 kX4_cover.1 rfl (Nat.le_of_ble_eq_true rfl) (fun v u h => by obtain ⟨rfl, rfl⟩ := h; exact rfl) ?_
  show Ev _ _ _ 0 0 [(0, .ref 0), (1, .int (nI c))] [] _
  refine ev_aload_n 0 dX4_cover_0 rfl rfl ?_
  refine ev_iload_n 1 dX4_cover_1 rfl rfl ?_
  refine ev_iconst (nI 0) dX4_cover_2 rfl ?_
  refine ev_iconst (nI 1) dX4_cover_3 rfl ?_
  refine ev_cV3 (c4_coverIf σ z Y g hc _ _) kX4_coverIf rfl g1196 rfl rfl rfl rfl dX4_cover_4 ?_
  exact ev_ireturn dX4_cover_7 (Nat.le_of_ble_eq_true rfl) ⟨rfl, rfl⟩
set_option maxHeartbeats 1000000 in
theorem c4_isCovered (σ z : Nat → Int32) (Y : RY) (g : PW) {c : Nat} (hc : c < 8) : Ct mX4_isCovered [.ref 0, .int (nI c)] (rw9 σ z Y g) (d1 (some (.int (bI (isC σ c)))) (rw9 σ z Y g)) nx := by
  refine ct_of 1 kX4_isCovered.1 rfl (Nat.le_of_ble_eq_true rfl) (fun v u h => by obtain ⟨rfl, rfl⟩ := h; exact bI_nar _) ?_
  show Ev _ _ _ 0 0 [(0, .ref 0), (1, .int (nI c))] [] _
  refine ev_aload_n 0 dX4_isCovered_0 rfl rfl ?_
  refine ev_iload_n 1 dX4_isCovered_1 rfl rfl ?_
  refine ev_bipush (nI 7) dX4_isCovered_2 rfl ?_
  refine ev_cV2 (c4_of σ z Y g hc (by omega)) kX4_of rfl g1188 rfl rfl rfl rfl dX4_isCovered_4 ?_
  refine ev_aload_n 0 dX4_isCovered_7 rfl rfl ?_
  refine ev_iload_n 1 dX4_isCovered_8 rfl rfl ?_
  refine ev_cV1 (c4_cover σ z Y g hc) kX4_cover rfl g1192 rfl rfl rfl rfl dX4_isCovered_9 ?_
  refine ev_icmp_gt 19 dX4_isCovered_12 (by decide) (fun h12 => ?_) (fun h12 => ?_)
  · refine ev_iconst (nI 0) dX4_isCovered_19 rfl ?_
    exact ev_ireturn dX4_isCovered_20 (Nat.le_of_ble_eq_true rfl) ⟨by first | (rw [show isC σ c = false from decide_eq_false (Int32.not_le.mpr h12)]; rfl) | (rw [show isC σ c = true from decide_eq_true (Int32.not_lt.mp h12)]; rfl), rfl⟩
  · refine ev_iconst (nI 1) dX4_isCovered_15 rfl ?_
    refine ev_goto 20 dX4_isCovered_16 (by decide) ?_
    exact ev_ireturn dX4_isCovered_20 (Nat.le_of_ble_eq_true rfl) ⟨by first | (rw [show isC σ c = false from decide_eq_false (Int32.not_le.mpr h12)]; rfl) | (rw [show isC σ c = true from decide_eq_true (Int32.not_lt.mp h12)]; rfl), rfl⟩
set_option maxHeartbeats 1000000 in
theorem c4_called (σ z : Nat → Int32) (Y : RY) (g : PW) {c : Nat} (hc : c < 8) : Ct mX4_called [.ref 0, .int (nI c)] (rw9 σ z Y g) (d1 (some (.int (bI (isK σ c)))) (rw9 σ z Y g)) nx := by
  refine ct_of 1 kX4_called.1 rfl (Nat.le_of_ble_eq_true rfl) (fun v u h => by obtain ⟨rfl, rfl⟩ := h; exact bI_nar _) ?_
  show Ev _ _ _ 0 0 [(0, .ref 0), (1, .int (nI c))] [] _
  refine ev_aload_n 0 dX4_called_0 rfl rfl ?_
  refine ev_iload_n 1 dX4_called_1 rfl rfl ?_
  refine ev_bipush (nI 8) dX4_called_2 rfl ?_
  refine ev_cV2 (c4_of σ z Y g hc (by omega)) kX4_of rfl g1188 rfl rfl rfl rfl dX4_called_4 ?_
  refine ev_if_le 14 dX4_called_7 (by decide) (fun h7 => ?_) (fun h7 => ?_)
  · refine ev_iconst (nI 0) dX4_called_14 rfl ?_
    exact ev_ireturn dX4_called_15 (Nat.le_of_ble_eq_true rfl) ⟨by first | (rw [show isK σ c = false from decide_eq_false (Int32.not_lt.mpr h7)]; rfl) | (rw [show isK σ c = true from decide_eq_true (Int32.not_le.mp h7)]; rfl), rfl⟩
  · refine ev_iconst (nI 1) dX4_called_10 rfl ?_
    refine ev_goto 15 dX4_called_11 (by decide) ?_
    exact ev_ireturn dX4_called_15 (Nat.le_of_ble_eq_true rfl) ⟨by first | (rw [show isK σ c = false from decide_eq_false (Int32.not_lt.mpr h7)]; rfl) | (rw [show isK σ c = true from decide_eq_true (Int32.not_le.mp h7)]; rfl), rfl⟩
