/-! ===== calls that may throw ===== -/
section CK
variable {M M' : MT} {po : PO} {px : PX} {k pc : Nat} {L : LV} {st stk : List Value} {w u : PW} {idx b ci : Nat} {fs : List Value}
theorem ev_rd {r : Option Value} (hr : Rn M M' k pc L stk st w (d1 r u) nx) (kk : Ev M po px (k + mK M') (pc + 3) L (r.toList ++ st) u) : Ev M po px k pc L stk w := by
  refine ev_run hr (fun v u' h => ?_) (fun _ _ h => h.elim)
  obtain ⟨rfl, rfl⟩ := h
  exact kk
theorem ev_kS0 {r : Value} (hc : Ct M' [] w (d1 (some r) u) nx) (hM : MKS M' 0) (hlw : Cond.methodLink (mY M).cls idx (mY M') ∈ Gw) (hR : rfB M M' k = true) (hs : stB st = true) (d : decode (mC M) pc = .ok (.invokestatic idx, 3)) (kk : Ev M po px (k + mK M') (pc + 3) L (r :: st) u) : Ev M po px k pc L (st) w :=
  ev_rd (rn_S (As := []) hc hM.1 hM.2.1 hM.2.2 hlw (rf_of hR) rfl (Nat.le_of_ble_eq_true hs) d) kk
theorem ev_kS0v (hc : Ct M' [] w (d1 none u) nx) (hM : MKS M' 0) (hlw : Cond.methodLink (mY M).cls idx (mY M') ∈ Gw) (hR : rfB M M' k = true) (hs : stB st = true) (d : decode (mC M) pc = .ok (.invokestatic idx, 3)) (kk : Ev M po px (k + mK M') (pc + 3) L st u) : Ev M po px k pc L (st) w :=
  ev_rd (rn_S (As := []) hc hM.1 hM.2.1 hM.2.2 hlw (rf_of hR) rfl (Nat.le_of_ble_eq_true hs) d) kk
theorem ev_kV0 {r : Value} (hc : Ct M' [.ref b] w (d1 (some r) u) nx) (hM : MKV M' 0) (hlw : Cond.methodLink (mY M).cls idx (mY M') ∈ Gw) (hR : rfB M M' k = true) (hw : w[b]? = some (.inr (ci, fs))) (hci : (vwC8[ci]?).map (fun q => q.1) = some (mY M').cls) (hs : stB st = true) (d : decode (mC M) pc = .ok (.invokevirtual idx, 3)) (kk : Ev M po px (k + mK M') (pc + 3) L (r :: st) u) : Ev M po px k pc L (.ref b :: st) w :=
  ev_rd (rn_V (As := []) hc hM.1 hM.2.1 hM.2.2 hlw (rf_of hR) rfl hw hci (Nat.le_of_ble_eq_true hs) d) kk
theorem ev_kV0v (hc : Ct M' [.ref b] w (d1 none u) nx) (hM : MKV M' 0) (hlw : Cond.methodLink (mY M).cls idx (mY M') ∈ Gw) (hR : rfB M M' k = true) (hw : w[b]? = some (.inr (ci, fs))) (hci : (vwC8[ci]?).map (fun q => q.1) = some (mY M').cls) (hs : stB st = true) (d : decode (mC M) pc = .ok (.invokevirtual idx, 3)) (kk : Ev M po px (k + mK M') (pc + 3) L st u) : Ev M po px k pc L (.ref b :: st) w :=
  ev_rd (rn_V (As := []) hc hM.1 hM.2.1 hM.2.2 hlw (rf_of hR) rfl hw hci (Nat.le_of_ble_eq_true hs) d) kk
theorem ev_kS1 {x1 : Value} {r : Value} (hc : Ct M' [x1] w (d1 (some r) u) nx) (hM : MKS M' 1) (hlw : Cond.methodLink (mY M).cls idx (mY M') ∈ Gw) (hR : rfB M M' k = true) (hs : stB st = true) (d : decode (mC M) pc = .ok (.invokestatic idx, 3)) (kk : Ev M po px (k + mK M') (pc + 3) L (r :: st) u) : Ev M po px k pc L (x1 :: st) w :=
  ev_rd (rn_S (As := [x1]) hc hM.1 hM.2.1 hM.2.2 hlw (rf_of hR) rfl (Nat.le_of_ble_eq_true hs) d) kk
theorem ev_kS1v {x1 : Value} (hc : Ct M' [x1] w (d1 none u) nx) (hM : MKS M' 1) (hlw : Cond.methodLink (mY M).cls idx (mY M') ∈ Gw) (hR : rfB M M' k = true) (hs : stB st = true) (d : decode (mC M) pc = .ok (.invokestatic idx, 3)) (kk : Ev M po px (k + mK M') (pc + 3) L st u) : Ev M po px k pc L (x1 :: st) w :=
  ev_rd (rn_S (As := [x1]) hc hM.1 hM.2.1 hM.2.2 hlw (rf_of hR) rfl (Nat.le_of_ble_eq_true hs) d) kk
theorem ev_kV1 {x1 : Value} {r : Value} (hc : Ct M' [.ref b, x1] w (d1 (some r) u) nx) (hM : MKV M' 1) (hlw : Cond.methodLink (mY M).cls idx (mY M') ∈ Gw) (hR : rfB M M' k = true) (hw : w[b]? = some (.inr (ci, fs))) (hci : (vwC8[ci]?).map (fun q => q.1) = some (mY M').cls) (hs : stB st = true) (d : decode (mC M) pc = .ok (.invokevirtual idx, 3)) (kk : Ev M po px (k + mK M') (pc + 3) L (r :: st) u) : Ev M po px k pc L (x1 :: .ref b :: st) w :=
  ev_rd (rn_V (As := [x1]) hc hM.1 hM.2.1 hM.2.2 hlw (rf_of hR) rfl hw hci (Nat.le_of_ble_eq_true hs) d) kk
theorem ev_kV1v {x1 : Value} (hc : Ct M' [.ref b, x1] w (d1 none u) nx) (hM : MKV M' 1) (hlw : Cond.methodLink (mY M).cls idx (mY M') ∈ Gw) (hR : rfB M M' k = true) (hw : w[b]? = some (.inr (ci, fs))) (hci : (vwC8[ci]?).map (fun q => q.1) = some (mY M').cls) (hs : stB st = true) (d : decode (mC M) pc = .ok (.invokevirtual idx, 3)) (kk : Ev M po px (k + mK M') (pc + 3) L st u) : Ev M po px k pc L (x1 :: .ref b :: st) w :=
  ev_rd (rn_V (As := [x1]) hc hM.1 hM.2.1 hM.2.2 hlw (rf_of hR) rfl hw hci (Nat.le_of_ble_eq_true hs) d) kk
theorem ev_kS2 {x1 x2 : Value} {r : Value} (hc : Ct M' [x1, x2] w (d1 (some r) u) nx) (hM : MKS M' 2) (hlw : Cond.methodLink (mY M).cls idx (mY M') ∈ Gw) (hR : rfB M M' k = true) (hs : stB st = true) (d : decode (mC M) pc = .ok (.invokestatic idx, 3)) (kk : Ev M po px (k + mK M') (pc + 3) L (r :: st) u) : Ev M po px k pc L (x2 :: x1 :: st) w :=
  ev_rd (rn_S (As := [x1, x2]) hc hM.1 hM.2.1 hM.2.2 hlw (rf_of hR) rfl (Nat.le_of_ble_eq_true hs) d) kk
theorem ev_kS2v {x1 x2 : Value} (hc : Ct M' [x1, x2] w (d1 none u) nx) (hM : MKS M' 2) (hlw : Cond.methodLink (mY M).cls idx (mY M') ∈ Gw) (hR : rfB M M' k = true) (hs : stB st = true) (d : decode (mC M) pc = .ok (.invokestatic idx, 3)) (kk : Ev M po px (k + mK M') (pc + 3) L st u) : Ev M po px k pc L (x2 :: x1 :: st) w :=
  ev_rd (rn_S (As := [x1, x2]) hc hM.1 hM.2.1 hM.2.2 hlw (rf_of hR) rfl (Nat.le_of_ble_eq_true hs) d) kk
theorem ev_kV2 {x1 x2 : Value} {r : Value} (hc : Ct M' [.ref b, x1, x2] w (d1 (some r) u) nx) (hM : MKV M' 2) (hlw : Cond.methodLink (mY M).cls idx (mY M') ∈ Gw) (hR : rfB M M' k = true) (hw : w[b]? = some (.inr (ci, fs))) (hci : (vwC8[ci]?).map (fun q => q.1) = some (mY M').cls) (hs : stB st = true) (d : decode (mC M) pc = .ok (.invokevirtual idx, 3)) (kk : Ev M po px (k + mK M') (pc + 3) L (r :: st) u) : Ev M po px k pc L (x2 :: x1 :: .ref b :: st) w :=
  ev_rd (rn_V (As := [x1, x2]) hc hM.1 hM.2.1 hM.2.2 hlw (rf_of hR) rfl hw hci (Nat.le_of_ble_eq_true hs) d) kk
theorem ev_kV2v {x1 x2 : Value} (hc : Ct M' [.ref b, x1, x2] w (d1 none u) nx) (hM : MKV M' 2) (hlw : Cond.methodLink (mY M).cls idx (mY M') ∈ Gw) (hR : rfB M M' k = true) (hw : w[b]? = some (.inr (ci, fs))) (hci : (vwC8[ci]?).map (fun q => q.1) = some (mY M').cls) (hs : stB st = true) (d : decode (mC M) pc = .ok (.invokevirtual idx, 3)) (kk : Ev M po px (k + mK M') (pc + 3) L st u) : Ev M po px k pc L (x2 :: x1 :: .ref b :: st) w :=
  ev_rd (rn_V (As := [x1, x2]) hc hM.1 hM.2.1 hM.2.2 hlw (rf_of hR) rfl hw hci (Nat.le_of_ble_eq_true hs) d) kk
theorem ev_kS3 {x1 x2 x3 : Value} {r : Value} (hc : Ct M' [x1, x2, x3] w (d1 (some r) u) nx) (hM : MKS M' 3) (hlw : Cond.methodLink (mY M).cls idx (mY M') ∈ Gw) (hR : rfB M M' k = true) (hs : stB st = true) (d : decode (mC M) pc = .ok (.invokestatic idx, 3)) (kk : Ev M po px (k + mK M') (pc + 3) L (r :: st) u) : Ev M po px k pc L (x3 :: x2 :: x1 :: st) w :=
  ev_rd (rn_S (As := [x1, x2, x3]) hc hM.1 hM.2.1 hM.2.2 hlw (rf_of hR) rfl (Nat.le_of_ble_eq_true hs) d) kk
theorem ev_kS3v {x1 x2 x3 : Value} (hc : Ct M' [x1, x2, x3] w (d1 none u) nx) (hM : MKS M' 3) (hlw : Cond.methodLink (mY M).cls idx (mY M') ∈ Gw) (hR : rfB M M' k = true) (hs : stB st = true) (d : decode (mC M) pc = .ok (.invokestatic idx, 3)) (kk : Ev M po px (k + mK M') (pc + 3) L st u) : Ev M po px k pc L (x3 :: x2 :: x1 :: st) w :=
  ev_rd (rn_S (As := [x1, x2, x3]) hc hM.1 hM.2.1 hM.2.2 hlw (rf_of hR) rfl (Nat.le_of_ble_eq_true hs) d) kk
theorem ev_kV3 {x1 x2 x3 : Value} {r : Value} (hc : Ct M' [.ref b, x1, x2, x3] w (d1 (some r) u) nx) (hM : MKV M' 3) (hlw : Cond.methodLink (mY M).cls idx (mY M') ∈ Gw) (hR : rfB M M' k = true) (hw : w[b]? = some (.inr (ci, fs))) (hci : (vwC8[ci]?).map (fun q => q.1) = some (mY M').cls) (hs : stB st = true) (d : decode (mC M) pc = .ok (.invokevirtual idx, 3)) (kk : Ev M po px (k + mK M') (pc + 3) L (r :: st) u) : Ev M po px k pc L (x3 :: x2 :: x1 :: .ref b :: st) w :=
  ev_rd (rn_V (As := [x1, x2, x3]) hc hM.1 hM.2.1 hM.2.2 hlw (rf_of hR) rfl hw hci (Nat.le_of_ble_eq_true hs) d) kk
theorem ev_kV3v {x1 x2 x3 : Value} (hc : Ct M' [.ref b, x1, x2, x3] w (d1 none u) nx) (hM : MKV M' 3) (hlw : Cond.methodLink (mY M).cls idx (mY M') ∈ Gw) (hR : rfB M M' k = true) (hw : w[b]? = some (.inr (ci, fs))) (hci : (vwC8[ci]?).map (fun q => q.1) = some (mY M').cls) (hs : stB st = true) (d : decode (mC M) pc = .ok (.invokevirtual idx, 3)) (kk : Ev M po px (k + mK M') (pc + 3) L st u) : Ev M po px k pc L (x3 :: x2 :: x1 :: .ref b :: st) w :=
  ev_rd (rn_V (As := [x1, x2, x3]) hc hM.1 hM.2.1 hM.2.2 hlw (rf_of hR) rfl hw hci (Nat.le_of_ble_eq_true hs) d) kk
end CK
/-! ===== the class: what it needs, what it throws ===== -/
theorem inB_a {v lo hi : Int32} (h : inB v lo hi = true) : ¬ v < lo := by
  simp only [inB, Bool.and_eq_true, decide_eq_true_eq] at h
  exact Int32.not_lt.mpr h.1
theorem inB_b {v lo hi : Int32} (h : inB v lo hi = true) : v ≤ hi := by
  simp only [inB, Bool.and_eq_true, decide_eq_true_eq] at h
  exact h.2
set_option maxHeartbeats 1000000 in
theorem c3_nKind (w : PW) {k : Nat} (hk : k < 6) : Ct mX3_needKind [.int (nI k)] w (d1 none w) nx := by
  refine ct_of 1 kX3_needKind.1 rfl (Nat.le_of_ble_eq_true rfl) (fun v u h => by obtain ⟨rfl, rfl⟩ := h; exact trivial) ?_
  show Ev _ _ _ 0 0 [(0, .int (nI k))] [] _
  refine ev_iload_n 0 dX3_needKind_0 rfl rfl ?_
  refine ev_if_lt 10 dX3_needKind_1 (by decide) (fun h1 => absurd h1 (nI_pos (by omega))) (fun h1 => ?_)
  refine ev_iload_n 0 dX3_needKind_4 rfl rfl ?_
  refine ev_bipush (nI 6) dX3_needKind_5 rfl ?_
  refine ev_icmp_lt 18 dX3_needKind_7 (by decide) (fun h7 => ?_) (fun h7 => absurd (nI_lt (by omega) (by omega)) h7)
  exact ev_return dX3_needKind_18 (Nat.le_of_ble_eq_true rfl) ⟨rfl, rfl⟩
set_option maxHeartbeats 1000000 in
theorem c3_nClient (w : PW) {k : Nat} (hk : k < 8) : Ct mX3_needClient [.int (nI k)] w (d1 none w) nx := by
  refine ct_of 1 kX3_needClient.1 rfl (Nat.le_of_ble_eq_true rfl) (fun v u h => by obtain ⟨rfl, rfl⟩ := h; exact trivial) ?_
  show Ev _ _ _ 0 0 [(0, .int (nI k))] [] _
  refine ev_iload_n 0 dX3_needClient_0 rfl rfl ?_
  refine ev_if_lt 10 dX3_needClient_1 (by decide) (fun h1 => absurd h1 (nI_pos (by omega))) (fun h1 => ?_)
  refine ev_iload_n 0 dX3_needClient_4 rfl rfl ?_
  refine ev_bipush (nI 8) dX3_needClient_5 rfl ?_
  refine ev_icmp_lt 18 dX3_needClient_7 (by decide) (fun h7 => ?_) (fun h7 => absurd (nI_lt (by omega) (by omega)) h7)
  exact ev_return dX3_needClient_18 (Nat.le_of_ble_eq_true rfl) ⟨rfl, rfl⟩
set_option maxHeartbeats 1000000 in
theorem c3_nPlace (w : PW) {k : Nat} (hk : k < 8) : Ct mX3_needPlace [.int (nI k)] w (d1 none w) nx := by
  refine ct_of 1 kX3_needPlace.1 rfl (Nat.le_of_ble_eq_true rfl) (fun v u h => by obtain ⟨rfl, rfl⟩ := h; exact trivial) ?_
  show Ev _ _ _ 0 0 [(0, .int (nI k))] [] _
  refine ev_iload_n 0 dX3_needPlace_0 rfl rfl ?_
  refine ev_if_lt 10 dX3_needPlace_1 (by decide) (fun h1 => absurd h1 (nI_pos (by omega))) (fun h1 => ?_)
  refine ev_iload_n 0 dX3_needPlace_4 rfl rfl ?_
  refine ev_bipush (nI 8) dX3_needPlace_5 rfl ?_
  refine ev_icmp_lt 18 dX3_needPlace_7 (by decide) (fun h7 => ?_) (fun h7 => absurd (nI_lt (by omega) (by omega)) h7)
  exact ev_return dX3_needPlace_18 (Nat.le_of_ble_eq_true rfl) ⟨rfl, rfl⟩
set_option maxHeartbeats 1000000 in
theorem c3_nRange (w : PW) {v lo hi : Int32} (h : inB v lo hi = true) : Ct mX3_needRange [.int v, .int lo, .int hi] w (d1 none w) nx := by
  refine ct_of 3 kX3_needRange.1 rfl (Nat.le_of_ble_eq_true rfl) (fun v u h => by obtain ⟨rfl, rfl⟩ := h; exact trivial) ?_
  show Ev _ _ _ 0 0 [(0, .int v), (1, .int lo), (2, .int hi)] [] _
  refine ev_iload_n 0 dX3_needRange_0 rfl rfl ?_
  refine ev_iload_n 1 dX3_needRange_1 rfl rfl ?_
  refine ev_icmp_lt 10 dX3_needRange_2 (by decide) (fun h2 => absurd h2 (inB_a h)) (fun h2 => ?_)
  refine ev_iload_n 0 dX3_needRange_5 rfl rfl ?_
  refine ev_iload_n 2 dX3_needRange_6 rfl rfl ?_
  refine ev_icmp_le 18 dX3_needRange_7 (by decide) (fun h7 => ?_) (fun h7 => absurd (inB_b h) h7)
  exact ev_return dX3_needRange_18 (Nat.le_of_ble_eq_true rfl) ⟨rfl, rfl⟩
set_option maxHeartbeats 1000000 in
theorem c3_need (w : PW) {x : Int32} (h : ¬ x = 0) : Ct mX3_need [.int x] w (d1 none w) nx := by
  refine ct_of 1 kX3_need.1 rfl (Nat.le_of_ble_eq_true rfl) (fun v u h => by obtain ⟨rfl, rfl⟩ := h; exact trivial) ?_
  show Ev _ _ _ 0 0 [(0, .int x)] [] _
  refine ev_iload_n 0 dX3_need_0 rfl rfl ?_
  refine ev_if_ne 12 dX3_need_1 (by decide) (fun h1 => ?_) (fun h1 => absurd h1 h)
  exact ev_return dX3_need_12 (Nat.le_of_ble_eq_true rfl) ⟨rfl, rfl⟩
