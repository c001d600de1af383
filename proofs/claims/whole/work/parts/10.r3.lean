/-! ===== the reference: marks, copies, looks ===== -/
set_option maxHeartbeats 1000000 in
theorem c4_in (w : PW) (v lo hi : Int32) : Ct mX4_in [.int v, .int lo, .int hi] w (d1 (some (.int (bI (inB v lo hi)))) w) nx := by
  refine ct_of 3 kX4_in.1 rfl (Nat.le_of_ble_eq_true rfl) (fun v u h => by obtain ⟨rfl, rfl⟩ := h; exact bI_nar _) ?_
  show Ev _ _ _ 0 0 [(0, .int v), (1, .int lo), (2, .int hi)] [] _
  refine ev_iload_n 0 dX4_in_0 rfl rfl ?_
  refine ev_iload_n 1 dX4_in_1 rfl rfl ?_
  refine ev_icmp_lt 14 dX4_in_2 (by decide) (fun h2 => ?_) (fun h2 => ?_)
  · refine ev_iconst (nI 0) dX4_in_14 rfl ?_
    exact ev_ireturn dX4_in_15 (Nat.le_of_ble_eq_true rfl) ⟨by first | rw [inB_in h2 h7]; rfl | rw [inB_hi h7]; rfl | rw [inB_lo h2]; rfl, rfl⟩
  · refine ev_iload_n 0 dX4_in_5 rfl rfl ?_
    refine ev_iload_n 2 dX4_in_6 rfl rfl ?_
    refine ev_icmp_gt 14 dX4_in_7 (by decide) (fun h7 => ?_) (fun h7 => ?_)
    · refine ev_iconst (nI 0) dX4_in_14 rfl ?_
      exact ev_ireturn dX4_in_15 (Nat.le_of_ble_eq_true rfl) ⟨by first | rw [inB_in h2 h7]; rfl | rw [inB_hi h7]; rfl | rw [inB_lo h2]; rfl, rfl⟩
    · refine ev_iconst (nI 1) dX4_in_10 rfl ?_
      refine ev_goto 15 dX4_in_11 (by decide) ?_
      exact ev_ireturn dX4_in_15 (Nat.le_of_ble_eq_true rfl) ⟨by first | rw [inB_in h2 h7]; rfl | rw [inB_hi h7]; rfl | rw [inB_lo h2]; rfl, rfl⟩
set_option maxHeartbeats 1000000 in
theorem c4_isKind (w : PW) (v : Int32) : Ct mX4_isKind [.int v] w (d1 (some (.int (bI (inB v (nI 0) (nI 5))))) w) nx := by
  refine ct_of 1 kX4_isKind.1 rfl (Nat.le_of_ble_eq_true rfl) (fun v u h => by obtain ⟨rfl, rfl⟩ := h; exact bI_nar _) ?_
  show Ev _ _ _ 0 0 [(0, .int v)] [] _
  refine ev_iload_n 0 dX4_isKind_0 rfl rfl ?_
  refine ev_iconst (nI 0) dX4_isKind_1 rfl ?_
  refine ev_iconst (nI 5) dX4_isKind_2 rfl ?_
  refine ev_cS3 (c4_in _ _ _ _) kX4_in rfl g1165 rfl rfl dX4_isKind_3 ?_
  exact ev_ireturn dX4_isKind_6 (Nat.le_of_ble_eq_true rfl) ⟨rfl, rfl⟩
set_option maxHeartbeats 1000000 in
theorem c4_isClient (w : PW) (v : Int32) : Ct mX4_isClient [.int v] w (d1 (some (.int (bI (inB v (nI 0) (nI 7))))) w) nx := by
  refine ct_of 1 kX4_isClient.1 rfl (Nat.le_of_ble_eq_true rfl) (fun v u h => by obtain ⟨rfl, rfl⟩ := h; exact bI_nar _) ?_
  show Ev _ _ _ 0 0 [(0, .int v)] [] _
  refine ev_iload_n 0 dX4_isClient_0 rfl rfl ?_
  refine ev_iconst (nI 0) dX4_isClient_1 rfl ?_
  refine ev_bipush (nI 7) dX4_isClient_2 rfl ?_
  refine ev_cS3 (c4_in _ _ _ _) kX4_in rfl g1165 rfl rfl dX4_isClient_4 ?_
  exact ev_ireturn dX4_isClient_7 (Nat.le_of_ble_eq_true rfl) ⟨rfl, rfl⟩
set_option maxHeartbeats 1000000 in
theorem c4_thrown (σ z : Nat → Int32) (Y : RY) (g : PW) : Ct mX4_thrown [.ref 0] (rw9 σ z Y g) (d1 (some (.int (z 2))) (rw9 σ z Y g)) nx := by
  refine ct_of 0 kX4_thrown.1 rfl (Nat.le_of_ble_eq_true rfl) (fun v u h => by obtain ⟨rfl, rfl⟩ := h; exact rfl) ?_
  show Ev _ _ _ 0 0 [(0, .ref 0)] [] _
  refine ev_aload_n 0 dX4_thrown_0 rfl rfl ?_
  refine ev_getfield 8 dX4_thrown_1 foX4_29 rfl rfl ?_
  exact ev_ireturn dX4_thrown_4 (Nat.le_of_ble_eq_true rfl) ⟨rfl, rfl⟩
set_option maxHeartbeats 1000000 in
theorem c4_throwing (σ z : Nat → Int32) (Y : RY) (g : PW) (p : Int32) : Ct mX4_throwing [.ref 0, .int p] (rw9 σ z Y g) (d1 (some (.int (nI 0))) (rw9 σ (upd z 2 p) Y g)) nx := by
  refine ct_of 1 kX4_throwing.1 rfl (Nat.le_of_ble_eq_true rfl) (fun v u h => by obtain ⟨rfl, rfl⟩ := h; exact rfl) ?_
  show Ev _ _ _ 0 0 [(0, .ref 0), (1, .int p)] [] _
  refine ev_aload_n 0 dX4_throwing_0 rfl rfl ?_
  refine ev_iload_n 1 dX4_throwing_1 rfl rfl ?_
  refine ev_putfield 8 dX4_throwing_2 fpX4_29 rfl (Nat.le_of_ble_eq_true rfl) (fun _ => rfl) (fun _ => rfl) (rz2 _ _ _ _ _) ?_
  refine ev_iconst (nI 0) dX4_throwing_5 rfl ?_
  exact ev_ireturn dX4_throwing_6 (Nat.le_of_ble_eq_true rfl) ⟨rfl, rfl⟩
set_option maxHeartbeats 1000000 in
theorem c4_keepsAside (σ z : Nat → Int32) (Y : RY) (g : PW) : Ct mX4_keepsAside [.ref 0] (rw9 σ z Y g) (d1 none (rw9 σ z (Y.1, Y.2.1, Y.2.2.1, va_cpy σ Y.2.2.2.1 0 0 109, Y.2.2.2.2) g)) nx := by
  refine ct_of 0 kX4_keepsAside.1 rfl (Nat.le_of_ble_eq_true rfl) (fun v u h => by obtain ⟨rfl, rfl⟩ := h; exact trivial) ?_
  show Ev _ _ _ 0 0 [(0, .ref 0)] [] _
  refine ev_iconst (nI 0) dX4_keepsAside_0 rfl ?_
  refine ev_istore_n 1 dX4_keepsAside_1 rfl (Nat.le_of_ble_eq_true rfl) rfl ?_
  refine ev_w (w' := rw9 σ z (Y.1, Y.2.1, Y.2.2.1, va_cpy σ Y.2.2.2.1 0 0 0, Y.2.2.2.2) g) (by rw [cpy_0]) ?_
  suffices H : ∀ fu j, j + fu = 109 → Ev mX4_keepsAside (d1 none (rw9 σ z (Y.1, Y.2.1, Y.2.2.1, va_cpy σ Y.2.2.2.1 0 0 109, Y.2.2.2.2) g)) nx 0 2 [(1, .int (nI (j))), (0, .ref 0)] [] (rw9 σ z (Y.1, Y.2.1, Y.2.2.1, va_cpy σ Y.2.2.2.1 0 0 j, Y.2.2.2.2) g) from ev_sub [0, 1] rfl (H 109 0 (Nat.zero_add _))
  intro fu
  induction fu with
  | zero =>
    intro j hj
    obtain rfl : 109 = j := by omega
    refine ev_iload_n 1 dX4_keepsAside_2 rfl rfl ?_
    refine ev_bipush (nI 109) dX4_keepsAside_3 rfl ?_
    refine ev_icmp_ge 26 dX4_keepsAside_5 (by decide) (fun h5 => ?_) (fun h5 => absurd (nI_le (Nat.le_refl 109) (by omega)) h5)
    exact ev_return dX4_keepsAside_26 (Nat.le_of_ble_eq_true rfl) ⟨rfl, rfl⟩
  | succ fu ih =>
    intro j hj
    have hj6 : j < 109 := by omega
    refine ev_iload_n 1 dX4_keepsAside_2 rfl rfl ?_
    refine ev_bipush (nI 109) dX4_keepsAside_3 rfl ?_
    refine ev_icmp_ge 26 dX4_keepsAside_5 (by decide) (fun h5 => absurd h5 (nI_ge hj6 (by omega))) (fun h5 => ?_)
    refine ev_aload_n 0 dX4_keepsAside_8 rfl rfl ?_
    refine ev_getfield 5 dX4_keepsAside_9 foX4_23 rfl rfl ?_
    refine ev_iload_n 1 dX4_keepsAside_12 rfl rfl ?_
    refine ev_aload_n 0 dX4_keepsAside_13 rfl rfl ?_
    refine ev_getfield 0 dX4_keepsAside_14 foX4_7 rfl rfl ?_
    refine ev_iload_n 1 dX4_keepsAside_17 rfl rfl ?_
    refine ev_ild (j) dX4_keepsAside_18 rfl (by simp only [nI_m, nI_add, ix, oI]) (by omega) rfl ?_
    refine ev_ist (j) dX4_keepsAside_19 rfl rfl (by omega) rfl (rw_a _ _ _ _ _) ?_
    refine ev_w (w' := rw9 σ z (Y.1, Y.2.1, Y.2.2.1, va_cpy σ Y.2.2.2.1 0 0 (j + 1), Y.2.2.2.2) g) (by rw [← cpy_s (dp := 0) (sp := 0) (n := j) (x := σ j) (by rw [Nat.zero_add])]; simp only [Nat.zero_add]) ?_
    refine ev_iinc (nI (j + 1)) dX4_keepsAside_20 rfl (nI_1 j) (Nat.le_of_ble_eq_true rfl) rfl ?_
    refine ev_goto 2 dX4_keepsAside_23 (by decide) ?_
    exact ev_sub [0, 1] rfl (ih (j + 1) (by omega))
set_option maxHeartbeats 1000000 in
theorem c4_putsBack (σ z : Nat → Int32) (Y : RY) (g : PW) : Ct mX4_putsBack [.ref 0] (rw9 σ z Y g) (d1 none (rw9 (va_cpy Y.2.2.2.1 σ 0 0 109) z Y g)) nx := by
  refine ct_of 0 kX4_putsBack.1 rfl (Nat.le_of_ble_eq_true rfl) (fun v u h => by obtain ⟨rfl, rfl⟩ := h; exact trivial) ?_
  show Ev _ _ _ 0 0 [(0, .ref 0)] [] _
  refine ev_iconst (nI 0) dX4_putsBack_0 rfl ?_
  refine ev_istore_n 1 dX4_putsBack_1 rfl (Nat.le_of_ble_eq_true rfl) rfl ?_
  refine ev_w (w' := rw9 (va_cpy Y.2.2.2.1 σ 0 0 0) z Y g) (by rw [cpy_0]) ?_
  suffices H : ∀ fu j, j + fu = 109 → Ev mX4_putsBack (d1 none (rw9 (va_cpy Y.2.2.2.1 σ 0 0 109) z Y g)) nx 0 2 [(1, .int (nI (j))), (0, .ref 0)] [] (rw9 (va_cpy Y.2.2.2.1 σ 0 0 j) z Y g) from ev_sub [0, 1] rfl (H 109 0 (Nat.zero_add _))
  intro fu
  induction fu with
  | zero =>
    intro j hj
    obtain rfl : 109 = j := by omega
    refine ev_iload_n 1 dX4_putsBack_2 rfl rfl ?_
    refine ev_bipush (nI 109) dX4_putsBack_3 rfl ?_
    refine ev_icmp_ge 26 dX4_putsBack_5 (by decide) (fun h5 => ?_) (fun h5 => absurd (nI_le (Nat.le_refl 109) (by omega)) h5)
    exact ev_return dX4_putsBack_26 (Nat.le_of_ble_eq_true rfl) ⟨rfl, rfl⟩
  | succ fu ih =>
    intro j hj
    have hj6 : j < 109 := by omega
    refine ev_iload_n 1 dX4_putsBack_2 rfl rfl ?_
    refine ev_bipush (nI 109) dX4_putsBack_3 rfl ?_
    refine ev_icmp_ge 26 dX4_putsBack_5 (by decide) (fun h5 => absurd h5 (nI_ge hj6 (by omega))) (fun h5 => ?_)
    refine ev_aload_n 0 dX4_putsBack_8 rfl rfl ?_
    refine ev_getfield 0 dX4_putsBack_9 foX4_7 rfl rfl ?_
    refine ev_iload_n 1 dX4_putsBack_12 rfl rfl ?_
    refine ev_aload_n 0 dX4_putsBack_13 rfl rfl ?_
    refine ev_getfield 5 dX4_putsBack_14 foX4_23 rfl rfl ?_
    refine ev_iload_n 1 dX4_putsBack_17 rfl rfl ?_
    refine ev_ild (j) dX4_putsBack_18 rfl (by simp only [nI_m, nI_add, ix, oI]) (by omega) rfl ?_
    refine ev_ist (j) dX4_putsBack_19 rfl rfl (by omega) rfl (rw_s _ _ _ _ _) ?_
    refine ev_w (w' := rw9 (va_cpy Y.2.2.2.1 σ 0 0 (j + 1)) z Y g) (by rw [← cpy_s (dp := 0) (sp := 0) (n := j) (x := Y.2.2.2.1 j) (by rw [Nat.zero_add])]; simp only [Nat.zero_add]) ?_
    refine ev_iinc (nI (j + 1)) dX4_putsBack_20 rfl (nI_1 j) (Nat.le_of_ble_eq_true rfl) rfl ?_
    refine ev_goto 2 dX4_putsBack_23 (by decide) ?_
    exact ev_sub [0, 1] rfl (ih (j + 1) (by omega))
