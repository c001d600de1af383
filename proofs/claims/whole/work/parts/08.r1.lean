/-! ===== the reference: leaves ===== -/
set_option maxHeartbeats 1000000 in
theorem c4_of (σ z : Nat → Int32) (Y : RY) (g : PW) {c w : Nat} (hc : c < 8) (hw : w < 10) : Ct mX4_of [.ref 0, .int (nI c), .int (nI w)] (rw9 σ z Y g) (d1 (some (.int (σ (ix c w)))) (rw9 σ z Y g)) nx := by
  refine ct_of 2 kX4_of.1 rfl (Nat.le_of_ble_eq_true rfl) (fun v u h => by obtain ⟨rfl, rfl⟩ := h; exact rfl) ?_
  show Ev _ _ _ 0 0 [(0, .ref 0), (1, .int (nI c)), (2, .int (nI w))] [] _
  refine ev_aload_n 0 dX4_of_0 rfl rfl ?_
  refine ev_getfield 0 dX4_of_1 foX4_7 rfl rfl ?_
  refine ev_bipush (nI 18) dX4_of_4 rfl ?_
  refine ev_bipush (nI 10) dX4_of_6 rfl ?_
  refine ev_iload_n 1 dX4_of_8 rfl rfl ?_
  refine ev_imul dX4_of_9 ?_
  refine ev_iadd dX4_of_10 ?_
  refine ev_iload_n 2 dX4_of_11 rfl rfl ?_
  refine ev_iadd dX4_of_12 ?_
  refine ev_ild (ix c w) dX4_of_13 rfl (by simp only [nI_m, nI_add, ix, oI]) (by simp only [ix]; omega) rfl ?_
  exact ev_ireturn dX4_of_14 (Nat.le_of_ble_eq_true rfl) ⟨rfl, rfl⟩
set_option maxHeartbeats 1000000 in
theorem c4_lay (σ z : Nat → Int32) (Y : RY) (g : PW) {c w : Nat} (hc : c < 8) (hw : w < 10) (v : Int32) : Ct mX4_lay [.ref 0, .int (nI c), .int (nI w), .int v] (rw9 σ z Y g) (d1 none (rw9 (upd σ (ix c w) v) z Y g)) nx := by
  refine ct_of 3 kX4_lay.1 rfl (Nat.le_of_ble_eq_true rfl) (fun v u h => by obtain ⟨rfl, rfl⟩ := h; exact trivial) ?_
  show Ev _ _ _ 0 0 [(0, .ref 0), (1, .int (nI c)), (2, .int (nI w)), (3, .int v)] [] _
  refine ev_aload_n 0 dX4_lay_0 rfl rfl ?_
  refine ev_getfield 0 dX4_lay_1 foX4_7 rfl rfl ?_
  refine ev_bipush (nI 18) dX4_lay_4 rfl ?_
  refine ev_bipush (nI 10) dX4_lay_6 rfl ?_
  refine ev_iload_n 1 dX4_lay_8 rfl rfl ?_
  refine ev_imul dX4_lay_9 ?_
  refine ev_iadd dX4_lay_10 ?_
  refine ev_iload_n 2 dX4_lay_11 rfl rfl ?_
  refine ev_iadd dX4_lay_12 ?_
  refine ev_iload_n 3 dX4_lay_13 rfl rfl ?_
  refine ev_ist (ix c w) dX4_lay_14 rfl (by simp only [nI_m, nI_add, ix, oI]) (by simp only [ix]; omega) rfl (rw_s _ _ _ _ _) ?_
  exact ev_return dX4_lay_15 (Nat.le_of_ble_eq_true rfl) ⟨rfl, rfl⟩
set_option maxHeartbeats 1000000 in
theorem c4_grow (σ z : Nat → Int32) (Y : RY) (g : PW) {c w : Nat} (hc : c < 8) (hw : w < 10) (v : Int32) : Ct mX4_grow [.ref 0, .int (nI c), .int (nI w), .int v] (rw9 σ z Y g) (d1 none (rw9 (upd σ (ix c w) (σ (ix c w) + v)) z Y g)) nx := by
  refine ct_of 3 kX4_grow.1 rfl (Nat.le_of_ble_eq_true rfl) (fun v u h => by obtain ⟨rfl, rfl⟩ := h; exact trivial) ?_
  show Ev _ _ _ 0 0 [(0, .ref 0), (1, .int (nI c)), (2, .int (nI w)), (3, .int v)] [] _
  refine ev_aload_n 0 dX4_grow_0 rfl rfl ?_
  refine ev_getfield 0 dX4_grow_1 foX4_7 rfl rfl ?_
  refine ev_bipush (nI 18) dX4_grow_4 rfl ?_
  refine ev_bipush (nI 10) dX4_grow_6 rfl ?_
  refine ev_iload_n 1 dX4_grow_8 rfl rfl ?_
  refine ev_imul dX4_grow_9 ?_
  refine ev_iadd dX4_grow_10 ?_
  refine ev_iload_n 2 dX4_grow_11 rfl rfl ?_
  refine ev_iadd dX4_grow_12 ?_
  refine ev_dup2 dX4_grow_13 rfl rfl ?_
  refine ev_ild (ix c w) dX4_grow_14 rfl (by simp only [nI_m, nI_add, ix, oI]) (by simp only [ix]; omega) rfl ?_
  refine ev_iload_n 3 dX4_grow_15 rfl rfl ?_
  refine ev_iadd dX4_grow_16 ?_
  refine ev_ist (ix c w) dX4_grow_17 rfl (by simp only [nI_m, nI_add, ix, oI]) (by simp only [ix]; omega) rfl (rw_s _ _ _ _ _) ?_
  exact ev_return dX4_grow_18 (Nat.le_of_ble_eq_true rfl) ⟨rfl, rfl⟩
set_option maxHeartbeats 1000000 in
theorem c4_fallen (w : PW) (p q : Int32) : Ct mX4_fallen [.ref 0, .int p, .int q] w (d1 (some (.int (falI p q))) w) nx := by
  refine ct_of 2 kX4_fallen.1 rfl (Nat.le_of_ble_eq_true rfl) (fun v u h => by obtain ⟨rfl, rfl⟩ := h; exact rfl) ?_
  show Ev _ _ _ 0 0 [(0, .ref 0), (1, .int p), (2, .int q)] [] _
  refine ev_iload_n 1 dX4_fallen_0 rfl rfl ?_
  refine ev_bipush (nI 100) dX4_fallen_1 rfl ?_
  refine ev_iload_n 2 dX4_fallen_3 rfl rfl ?_
  refine ev_isub dX4_fallen_4 ?_
  refine ev_imul dX4_fallen_5 ?_
  refine ev_bipush (nI 100) dX4_fallen_6 rfl ?_
  refine ev_idiv dX4_fallen_8 (by decide) ?_
  exact ev_ireturn dX4_fallen_9 (Nat.le_of_ble_eq_true rfl) ⟨rfl, rfl⟩
set_option maxHeartbeats 1000000 in
theorem c4_interestOf (w : PW) (p q : Int32) : Ct mX4_interestOf [.int p, .int q] w (d1 (some (.int ((p * q + nI 9999) / nI 10000))) w) nx := by
  refine ct_of 2 kX4_interestOf.1 rfl (Nat.le_of_ble_eq_true rfl) (fun v u h => by obtain ⟨rfl, rfl⟩ := h; exact rfl) ?_
  show Ev _ _ _ 0 0 [(0, .int p), (1, .int q)] [] _
  refine ev_iload_n 0 dX4_interestOf_0 rfl rfl ?_
  refine ev_iload_n 1 dX4_interestOf_1 rfl rfl ?_
  refine ev_imul dX4_interestOf_2 ?_
  refine ev_sipush (nI 9999) dX4_interestOf_3 rfl ?_
  refine ev_iadd dX4_interestOf_6 ?_
  refine ev_sipush (nI 10000) dX4_interestOf_7 rfl ?_
  refine ev_idiv dX4_interestOf_10 (by decide) ?_
  exact ev_ireturn dX4_interestOf_11 (Nat.le_of_ble_eq_true rfl) ⟨rfl, rfl⟩
