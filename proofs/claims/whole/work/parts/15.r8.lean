/-! ===== the reference: the public changes ===== -/
theorem gX4_99999 : Cond.constant RX4 121 (nI 99999) ∈ Gw := g1255
theorem c4_in1 (w : PW) {v lo hi : Int32} (h : inB v lo hi = true) : Ct mX4_in [.int v, .int lo, .int hi] w (d1 (some (.int (bI true))) w) nx := by
  have e := c4_in w v lo hi
  rw [h] at e
  exact e
theorem c4_in0 (w : PW) {v lo hi : Int32} (h : inB v lo hi = false) : Ct mX4_in [.int v, .int lo, .int hi] w (d1 (some (.int (bI false))) w) nx := by
  have e := c4_in w v lo hi
  rw [h] at e
  exact e
theorem c4_isKind1 (w : PW) {k : Nat} (h : k < 6) : Ct mX4_isKind [.int (nI k)] w (d1 (some (.int (bI true))) w) nx := by
  have e := c4_isKind w (nI k)
  rw [inB_k h] at e
  exact e
theorem c4_isKind0 (w : PW) {v : Int32} (h : inB v (nI 0) (nI 5) = false) : Ct mX4_isKind [.int v] w (d1 (some (.int (bI false))) w) nx := by
  have e := c4_isKind w v
  rw [h] at e
  exact e
theorem c4_isClient1 (w : PW) {k : Nat} (h : k < 8) : Ct mX4_isClient [.int (nI k)] w (d1 (some (.int (bI true))) w) nx := by
  have e := c4_isClient w (nI k)
  rw [inB_c h] at e
  exact e
theorem c4_isClient0 (w : PW) {v : Int32} (h : inB v (nI 0) (nI 7) = false) : Ct mX4_isClient [.int v] w (d1 (some (.int (bI false))) w) nx := by
  have e := c4_isClient w v
  rw [h] at e
  exact e
theorem c4_are1 (σ z : Nat → Int32) (Y : RY) (g : PW) {c k : Nat} (hc : c < 8) (hk : k < 6) : Ct mX4_areThere [.ref 0, .int (nI c), .int (nI k)] (rw9 σ z Y g) (d1 (some (.int (bI true))) (rw9 σ (upd z 2 (nI 0)) Y g)) nx := by
  have e := c4_areThere σ z Y g (nI c) (nI k)
  rw [inB_c hc, inB_k hk] at e
  exact e
theorem c4_are0 (σ z : Nat → Int32) (Y : RY) (g : PW) {p q : Int32} (h : (inB p (nI 0) (nI 7) && inB q (nI 0) (nI 5)) = false) : Ct mX4_areThere [.ref 0, .int p, .int q] (rw9 σ z Y g) (d1 (some (.int (bI false))) (rw9 σ (upd z 2 (nI 1)) Y g)) nx := by
  have e := c4_areThere σ z Y g p q
  rw [h] at e
  exact e
theorem c4_is1 (σ z : Nat → Int32) (Y : RY) (g : PW) {c : Nat} (hc : c < 8) : Ct mX4_isThere [.ref 0, .int (nI c)] (rw9 σ z Y g) (d1 (some (.int (bI true))) (rw9 σ (upd z 2 (nI 0)) Y g)) nx := by
  have e := c4_isThere σ z Y g (nI c)
  rw [inB_c hc] at e
  exact e
theorem c4_is0 (σ z : Nat → Int32) (Y : RY) (g : PW) {p : Int32} (h : inB p (nI 0) (nI 7) = false) : Ct mX4_isThere [.ref 0, .int p] (rw9 σ z Y g) (d1 (some (.int (bI false))) (rw9 σ (upd z 2 (nI 1)) Y g)) nx := by
  have e := c4_isThere σ z Y g p
  rw [h] at e
  exact e
set_option maxHeartbeats 1000000 in
theorem p4_pledge_1 (σ z : Nat → Int32) (Y : RY) (g : PW) {p q : Int32} (m : Int32) (h : (inB p (nI 0) (nI 7) && inB q (nI 0) (nI 5)) = false) : Ct mX4_pledge [.ref 0, .int p, .int q, .int m] (rw9 σ z Y g) (d1 (some (.int (nI 0))) (rw9 σ (upd z 2 (nI 1)) Y g)) nx := by
  refine ct_of 3 kX4_pledge.1 rfl (Nat.le_of_ble_eq_true rfl) (fun v u h => by obtain ⟨rfl, rfl⟩ := h; exact rfl) ?_
  show Ev _ _ _ 0 0 [(0, .ref 0), (1, .int p), (2, .int q), (3, .int m)] [] _
  refine ev_aload_n 0 dX4_pledge_0 rfl rfl ?_
  refine ev_iload_n 1 dX4_pledge_1 rfl rfl ?_
  refine ev_iload_n 2 dX4_pledge_2 rfl rfl ?_
  refine ev_cV2 (c4_are0 _ _ _ _ h) kX4_areThere rfl g1224 rfl rfl rfl rfl dX4_pledge_3 ?_
  refine ev_if_ne 11 dX4_pledge_6 (by decide) (fun h6 => absurd (by decide) h6) (fun h6 => ?_)
  refine ev_iconst (nI 0) dX4_pledge_9 rfl ?_
  exact ev_ireturn dX4_pledge_10 (Nat.le_of_ble_eq_true rfl) ⟨rfl, rfl⟩
set_option maxHeartbeats 1000000 in
theorem p4_pledge_2 (σ z : Nat → Int32) (Y : RY) (g : PW) {c k : Nat} (hc : c < 8) (hk : k < 6) {m : Int32} (h : inB m (nI 1) (nI 50) = false) : Ct mX4_pledge [.ref 0, .int (nI c), .int (nI k), .int m] (rw9 σ z Y g) (d1 (some (.int (nI 0))) (rw9 σ (upd (upd z 2 (nI 0)) 2 (nI 2)) Y g)) nx := by
  refine ct_of 3 kX4_pledge.1 rfl (Nat.le_of_ble_eq_true rfl) (fun v u h => by obtain ⟨rfl, rfl⟩ := h; exact rfl) ?_
  show Ev _ _ _ 0 0 [(0, .ref 0), (1, .int (nI c)), (2, .int (nI k)), (3, .int m)] [] _
  refine ev_aload_n 0 dX4_pledge_0 rfl rfl ?_
  refine ev_iload_n 1 dX4_pledge_1 rfl rfl ?_
  refine ev_iload_n 2 dX4_pledge_2 rfl rfl ?_
  refine ev_cV2 (c4_are1 _ _ _ _ hc hk) kX4_areThere rfl g1224 rfl rfl rfl rfl dX4_pledge_3 ?_
  refine ev_if_ne 11 dX4_pledge_6 (by decide) (fun h6 => ?_) (fun h6 => absurd h6 (by decide))
  refine ev_iload_n 3 dX4_pledge_11 rfl rfl ?_
  refine ev_iconst (nI 1) dX4_pledge_12 rfl ?_
  refine ev_bipush (nI 50) dX4_pledge_13 rfl ?_
  refine ev_cS3 (c4_in0 _ h) kX4_in rfl g1165 rfl rfl dX4_pledge_15 ?_
  refine ev_if_ne 27 dX4_pledge_18 (by decide) (fun h18 => absurd (by decide) h18) (fun h18 => ?_)
  refine ev_aload_n 0 dX4_pledge_21 rfl rfl ?_
  refine ev_iconst (nI 2) dX4_pledge_22 rfl ?_
  refine ev_cV1 (c4_throwing _ _ _ _ _) kX4_throwing rfl g1172 rfl rfl rfl rfl dX4_pledge_23 ?_
  exact ev_ireturn dX4_pledge_26 (Nat.le_of_ble_eq_true rfl) ⟨rfl, rfl⟩
set_option maxHeartbeats 1000000 in
theorem p4_pledge_3 (σ z : Nat → Int32) (Y : RY) (g : PW) {c k : Nat} (hc : c < 8) (hk : k < 6) {m : Int32} (hm : inB m (nI 1) (nI 50) = true) (h : canP σ c k m = false) : Ct mX4_pledge [.ref 0, .int (nI c), .int (nI k), .int m] (rw9 σ z Y g) (d1 (some (.int (nI 0))) (rw9 σ (upd (upd z 2 (nI 0)) 2 (nI 3)) Y g)) nx := by
  refine ct_of 3 kX4_pledge.1 rfl (Nat.le_of_ble_eq_true rfl) (fun v u h => by obtain ⟨rfl, rfl⟩ := h; exact rfl) ?_
  show Ev _ _ _ 0 0 [(0, .ref 0), (1, .int (nI c)), (2, .int (nI k)), (3, .int m)] [] _
  refine ev_aload_n 0 dX4_pledge_0 rfl rfl ?_
  refine ev_iload_n 1 dX4_pledge_1 rfl rfl ?_
  refine ev_iload_n 2 dX4_pledge_2 rfl rfl ?_
  refine ev_cV2 (c4_are1 _ _ _ _ hc hk) kX4_areThere rfl g1224 rfl rfl rfl rfl dX4_pledge_3 ?_
  refine ev_if_ne 11 dX4_pledge_6 (by decide) (fun h6 => ?_) (fun h6 => absurd h6 (by decide))
  refine ev_iload_n 3 dX4_pledge_11 rfl rfl ?_
  refine ev_iconst (nI 1) dX4_pledge_12 rfl ?_
  refine ev_bipush (nI 50) dX4_pledge_13 rfl ?_
  refine ev_cS3 (c4_in1 _ hm) kX4_in rfl g1165 rfl rfl dX4_pledge_15 ?_
  refine ev_if_ne 27 dX4_pledge_18 (by decide) (fun h18 => ?_) (fun h18 => absurd h18 (by decide))
  refine ev_aload_n 0 dX4_pledge_27 rfl rfl ?_
  refine ev_iload_n 1 dX4_pledge_28 rfl rfl ?_
  refine ev_iload_n 2 dX4_pledge_29 rfl rfl ?_
  refine ev_iload_n 3 dX4_pledge_30 rfl rfl ?_
  refine ev_cV3 (c4_canPledge _ _ _ _ (by omega) (by omega) _) kX4_canPledge rfl g1231 rfl rfl rfl rfl dX4_pledge_31 ?_
  refine ev_if_ne 43 dX4_pledge_34 (by decide) (fun h34 => absurd (by rw [h]; rfl) h34) (fun h34 => ?_)
  refine ev_aload_n 0 dX4_pledge_37 rfl rfl ?_
  refine ev_iconst (nI 3) dX4_pledge_38 rfl ?_
  refine ev_cV1 (c4_throwing _ _ _ _ _) kX4_throwing rfl g1172 rfl rfl rfl rfl dX4_pledge_39 ?_
  exact ev_ireturn dX4_pledge_42 (Nat.le_of_ble_eq_true rfl) ⟨rfl, rfl⟩
set_option maxHeartbeats 1000000 in
theorem p4_pledge_0 (σ z : Nat → Int32) (Y : RY) (g : PW) {c k : Nat} (hc : c < 8) (hk : k < 6) {m : Int32} (hm : inB m (nI 1) (nI 50) = true) (h : canP σ c k m = true) {n : Nat} (hn : n ≤ 6) (hz : z 0 = nI n) : Ct mX4_pledge [.ref 0, .int (nI c), .int (nI k), .int m] (rw9 σ z Y g) (d1 (some (.int (lookN (upd σ (ix c k) (σ (ix c k) + m)) 8 (ix c k)))) (rw9 (lookN (upd σ (ix c k) (σ (ix c k) + m)) 8) (svZ (upd z 2 (nI 0)) n) (svY σ Y n) g)) nx := by
  refine ct_of 3 kX4_pledge.1 rfl (Nat.le_of_ble_eq_true rfl) (fun v u h => by obtain ⟨rfl, rfl⟩ := h; exact rfl) ?_
  show Ev _ _ _ 0 0 [(0, .ref 0), (1, .int (nI c)), (2, .int (nI k)), (3, .int m)] [] _
  refine ev_aload_n 0 dX4_pledge_0 rfl rfl ?_
  refine ev_iload_n 1 dX4_pledge_1 rfl rfl ?_
  refine ev_iload_n 2 dX4_pledge_2 rfl rfl ?_
  refine ev_cV2 (c4_are1 _ _ _ _ hc hk) kX4_areThere rfl g1224 rfl rfl rfl rfl dX4_pledge_3 ?_
  refine ev_if_ne 11 dX4_pledge_6 (by decide) (fun h6 => ?_) (fun h6 => absurd h6 (by decide))
  refine ev_iload_n 3 dX4_pledge_11 rfl rfl ?_
  refine ev_iconst (nI 1) dX4_pledge_12 rfl ?_
  refine ev_bipush (nI 50) dX4_pledge_13 rfl ?_
  refine ev_cS3 (c4_in1 _ hm) kX4_in rfl g1165 rfl rfl dX4_pledge_15 ?_
  refine ev_if_ne 27 dX4_pledge_18 (by decide) (fun h18 => ?_) (fun h18 => absurd h18 (by decide))
  refine ev_aload_n 0 dX4_pledge_27 rfl rfl ?_
  refine ev_iload_n 1 dX4_pledge_28 rfl rfl ?_
  refine ev_iload_n 2 dX4_pledge_29 rfl rfl ?_
  refine ev_iload_n 3 dX4_pledge_30 rfl rfl ?_
  refine ev_cV3 (c4_canPledge _ _ _ _ (by omega) (by omega) _) kX4_canPledge rfl g1231 rfl rfl rfl rfl dX4_pledge_31 ?_
  refine ev_if_ne 43 dX4_pledge_34 (by decide) (fun h34 => ?_) (fun h34 => absurd h34 (by rw [h]; decide))
  refine ev_aload_n 0 dX4_pledge_43 rfl rfl ?_
  refine ev_cV0v (c4_save _ _ _ _ hn ((upd_n _ _ (by decide)).trans hz)) kX4_save rfl g1176 rfl rfl rfl rfl dX4_pledge_44 ?_
  refine ev_aload_n 0 dX4_pledge_47 rfl rfl ?_
  refine ev_iload_n 1 dX4_pledge_48 rfl rfl ?_
  refine ev_iload_n 2 dX4_pledge_49 rfl rfl ?_
  refine ev_iload_n 3 dX4_pledge_50 rfl rfl ?_
  refine ev_cV3v (c4_grow _ _ _ _ (by omega) (by omega) _) kX4_grow rfl g1235 rfl rfl rfl rfl dX4_pledge_51 ?_
  refine ev_aload_n 0 dX4_pledge_54 rfl rfl ?_
  refine ev_cV0v (c4_looks _ _ _ _) kX4_looks rfl g1180 rfl rfl rfl rfl dX4_pledge_55 ?_
  refine ev_aload_n 0 dX4_pledge_58 rfl rfl ?_
  refine ev_iload_n 1 dX4_pledge_59 rfl rfl ?_
  refine ev_iload_n 2 dX4_pledge_60 rfl rfl ?_
  refine ev_cV2 (c4_of _ _ _ _ (by omega) (by omega)) kX4_of rfl g1188 rfl rfl rfl rfl dX4_pledge_61 ?_
  exact ev_ireturn dX4_pledge_64 (Nat.le_of_ble_eq_true rfl) ⟨rfl, rfl⟩
set_option maxHeartbeats 1000000 in
theorem p4_release_1 (σ z : Nat → Int32) (Y : RY) (g : PW) {p q : Int32} (m : Int32) (h : (inB p (nI 0) (nI 7) && inB q (nI 0) (nI 5)) = false) : Ct mX4_release [.ref 0, .int p, .int q, .int m] (rw9 σ z Y g) (d1 (some (.int (nI 0))) (rw9 σ (upd z 2 (nI 1)) Y g)) nx := by
  refine ct_of 3 kX4_release.1 rfl (Nat.le_of_ble_eq_true rfl) (fun v u h => by obtain ⟨rfl, rfl⟩ := h; exact rfl) ?_
  show Ev _ _ _ 0 0 [(0, .ref 0), (1, .int p), (2, .int q), (3, .int m)] [] _
  refine ev_aload_n 0 dX4_release_0 rfl rfl ?_
  refine ev_iload_n 1 dX4_release_1 rfl rfl ?_
  refine ev_iload_n 2 dX4_release_2 rfl rfl ?_
  refine ev_cV2 (c4_are0 _ _ _ _ h) kX4_areThere rfl g1224 rfl rfl rfl rfl dX4_release_3 ?_
  refine ev_if_ne 11 dX4_release_6 (by decide) (fun h6 => absurd (by decide) h6) (fun h6 => ?_)
  refine ev_iconst (nI 0) dX4_release_9 rfl ?_
  exact ev_ireturn dX4_release_10 (Nat.le_of_ble_eq_true rfl) ⟨rfl, rfl⟩
set_option maxHeartbeats 1000000 in
theorem p4_release_2 (σ z : Nat → Int32) (Y : RY) (g : PW) {c k : Nat} (hc : c < 8) (hk : k < 6) {m : Int32} (h : inB m (nI 1) (nI 50) = false) : Ct mX4_release [.ref 0, .int (nI c), .int (nI k), .int m] (rw9 σ z Y g) (d1 (some (.int (nI 0))) (rw9 σ (upd (upd z 2 (nI 0)) 2 (nI 2)) Y g)) nx := by
  refine ct_of 3 kX4_release.1 rfl (Nat.le_of_ble_eq_true rfl) (fun v u h => by obtain ⟨rfl, rfl⟩ := h; exact rfl) ?_
  show Ev _ _ _ 0 0 [(0, .ref 0), (1, .int (nI c)), (2, .int (nI k)), (3, .int m)] [] _
  refine ev_aload_n 0 dX4_release_0 rfl rfl ?_
  refine ev_iload_n 1 dX4_release_1 rfl rfl ?_
  refine ev_iload_n 2 dX4_release_2 rfl rfl ?_
  refine ev_cV2 (c4_are1 _ _ _ _ hc hk) kX4_areThere rfl g1224 rfl rfl rfl rfl dX4_release_3 ?_
  refine ev_if_ne 11 dX4_release_6 (by decide) (fun h6 => ?_) (fun h6 => absurd h6 (by decide))
  refine ev_iload_n 3 dX4_release_11 rfl rfl ?_
  refine ev_iconst (nI 1) dX4_release_12 rfl ?_
  refine ev_bipush (nI 50) dX4_release_13 rfl ?_
  refine ev_cS3 (c4_in0 _ h) kX4_in rfl g1165 rfl rfl dX4_release_15 ?_
  refine ev_if_ne 27 dX4_release_18 (by decide) (fun h18 => absurd (by decide) h18) (fun h18 => ?_)
  refine ev_aload_n 0 dX4_release_21 rfl rfl ?_
  refine ev_iconst (nI 2) dX4_release_22 rfl ?_
  refine ev_cV1 (c4_throwing _ _ _ _ _) kX4_throwing rfl g1172 rfl rfl rfl rfl dX4_release_23 ?_
  exact ev_ireturn dX4_release_26 (Nat.le_of_ble_eq_true rfl) ⟨rfl, rfl⟩
set_option maxHeartbeats 1000000 in
theorem p4_release_3 (σ z : Nat → Int32) (Y : RY) (g : PW) {c k : Nat} (hc : c < 8) (hk : k < 6) {m : Int32} (hm : inB m (nI 1) (nI 50) = true) (h : canL σ c k m = false) : Ct mX4_release [.ref 0, .int (nI c), .int (nI k), .int m] (rw9 σ z Y g) (d1 (some (.int (nI 0))) (rw9 σ (upd (upd z 2 (nI 0)) 2 (nI 3)) Y g)) nx := by
  refine ct_of 3 kX4_release.1 rfl (Nat.le_of_ble_eq_true rfl) (fun v u h => by obtain ⟨rfl, rfl⟩ := h; exact rfl) ?_
  show Ev _ _ _ 0 0 [(0, .ref 0), (1, .int (nI c)), (2, .int (nI k)), (3, .int m)] [] _
  refine ev_aload_n 0 dX4_release_0 rfl rfl ?_
  refine ev_iload_n 1 dX4_release_1 rfl rfl ?_
  refine ev_iload_n 2 dX4_release_2 rfl rfl ?_
  refine ev_cV2 (c4_are1 _ _ _ _ hc hk) kX4_areThere rfl g1224 rfl rfl rfl rfl dX4_release_3 ?_
  refine ev_if_ne 11 dX4_release_6 (by decide) (fun h6 => ?_) (fun h6 => absurd h6 (by decide))
  refine ev_iload_n 3 dX4_release_11 rfl rfl ?_
  refine ev_iconst (nI 1) dX4_release_12 rfl ?_
  refine ev_bipush (nI 50) dX4_release_13 rfl ?_
  refine ev_cS3 (c4_in1 _ hm) kX4_in rfl g1165 rfl rfl dX4_release_15 ?_
  refine ev_if_ne 27 dX4_release_18 (by decide) (fun h18 => ?_) (fun h18 => absurd h18 (by decide))
  refine ev_aload_n 0 dX4_release_27 rfl rfl ?_
  refine ev_iload_n 1 dX4_release_28 rfl rfl ?_
  refine ev_iload_n 2 dX4_release_29 rfl rfl ?_
  refine ev_iload_n 3 dX4_release_30 rfl rfl ?_
  refine ev_cV3 (c4_canLack _ _ _ _ (by omega) (by omega) _) kX4_canLack rfl g1243 rfl rfl rfl rfl dX4_release_31 ?_
  refine ev_if_ne 43 dX4_release_34 (by decide) (fun h34 => absurd (by rw [h]; rfl) h34) (fun h34 => ?_)
  refine ev_aload_n 0 dX4_release_37 rfl rfl ?_
  refine ev_iconst (nI 3) dX4_release_38 rfl ?_
  refine ev_cV1 (c4_throwing _ _ _ _ _) kX4_throwing rfl g1172 rfl rfl rfl rfl dX4_release_39 ?_
  exact ev_ireturn dX4_release_42 (Nat.le_of_ble_eq_true rfl) ⟨rfl, rfl⟩
set_option maxHeartbeats 1000000 in
theorem p4_release_0 (σ z : Nat → Int32) (Y : RY) (g : PW) {c k : Nat} (hc : c < 8) (hk : k < 6) {m : Int32} (hm : inB m (nI 1) (nI 50) = true) (h : canL σ c k m = true) {n : Nat} (hn : n ≤ 6) (hz : z 0 = nI n) : Ct mX4_release [.ref 0, .int (nI c), .int (nI k), .int m] (rw9 σ z Y g) (d1 (some (.int (lookN (upd σ (ix c k) (σ (ix c k) + -m)) 8 (ix c k)))) (rw9 (lookN (upd σ (ix c k) (σ (ix c k) + -m)) 8) (svZ (upd z 2 (nI 0)) n) (svY σ Y n) g)) nx := by
  refine ct_of 3 kX4_release.1 rfl (Nat.le_of_ble_eq_true rfl) (fun v u h => by obtain ⟨rfl, rfl⟩ := h; exact rfl) ?_
  show Ev _ _ _ 0 0 [(0, .ref 0), (1, .int (nI c)), (2, .int (nI k)), (3, .int m)] [] _
  refine ev_aload_n 0 dX4_release_0 rfl rfl ?_
  refine ev_iload_n 1 dX4_release_1 rfl rfl ?_
  refine ev_iload_n 2 dX4_release_2 rfl rfl ?_
  refine ev_cV2 (c4_are1 _ _ _ _ hc hk) kX4_areThere rfl g1224 rfl rfl rfl rfl dX4_release_3 ?_
  refine ev_if_ne 11 dX4_release_6 (by decide) (fun h6 => ?_) (fun h6 => absurd h6 (by decide))
  refine ev_iload_n 3 dX4_release_11 rfl rfl ?_
  refine ev_iconst (nI 1) dX4_release_12 rfl ?_
  refine ev_bipush (nI 50) dX4_release_13 rfl ?_
  refine ev_cS3 (c4_in1 _ hm) kX4_in rfl g1165 rfl rfl dX4_release_15 ?_
  refine ev_if_ne 27 dX4_release_18 (by decide) (fun h18 => ?_) (fun h18 => absurd h18 (by decide))
  refine ev_aload_n 0 dX4_release_27 rfl rfl ?_
  refine ev_iload_n 1 dX4_release_28 rfl rfl ?_
  refine ev_iload_n 2 dX4_release_29 rfl rfl ?_
  refine ev_iload_n 3 dX4_release_30 rfl rfl ?_
  refine ev_cV3 (c4_canLack _ _ _ _ (by omega) (by omega) _) kX4_canLack rfl g1243 rfl rfl rfl rfl dX4_release_31 ?_
  refine ev_if_ne 43 dX4_release_34 (by decide) (fun h34 => ?_) (fun h34 => absurd h34 (by rw [h]; decide))
  refine ev_aload_n 0 dX4_release_43 rfl rfl ?_
  refine ev_cV0v (c4_save _ _ _ _ hn ((upd_n _ _ (by decide)).trans hz)) kX4_save rfl g1176 rfl rfl rfl rfl dX4_release_44 ?_
  refine ev_aload_n 0 dX4_release_47 rfl rfl ?_
  refine ev_iload_n 1 dX4_release_48 rfl rfl ?_
  refine ev_iload_n 2 dX4_release_49 rfl rfl ?_
  refine ev_iload_n 3 dX4_release_50 rfl rfl ?_
  refine ev_ineg dX4_release_51 ?_
  refine ev_cV3v (c4_grow _ _ _ _ (by omega) (by omega) _) kX4_grow rfl g1235 rfl rfl rfl rfl dX4_release_52 ?_
  refine ev_aload_n 0 dX4_release_55 rfl rfl ?_
  refine ev_cV0v (c4_looks _ _ _ _) kX4_looks rfl g1180 rfl rfl rfl rfl dX4_release_56 ?_
  refine ev_aload_n 0 dX4_release_59 rfl rfl ?_
  refine ev_iload_n 1 dX4_release_60 rfl rfl ?_
  refine ev_iload_n 2 dX4_release_61 rfl rfl ?_
  refine ev_cV2 (c4_of _ _ _ _ (by omega) (by omega)) kX4_of rfl g1188 rfl rfl rfl rfl dX4_release_62 ?_
  exact ev_ireturn dX4_release_65 (Nat.le_of_ble_eq_true rfl) ⟨rfl, rfl⟩
set_option maxHeartbeats 1000000 in
theorem p4_deposit_1 (σ z : Nat → Int32) (Y : RY) (g : PW) {p : Int32} (m : Int32) (h : inB p (nI 0) (nI 7) = false) : Ct mX4_deposit [.ref 0, .int p, .int m] (rw9 σ z Y g) (d1 (some (.int (nI 0))) (rw9 σ (upd z 2 (nI 1)) Y g)) nx := by
  refine ct_of 2 kX4_deposit.1 rfl (Nat.le_of_ble_eq_true rfl) (fun v u h => by obtain ⟨rfl, rfl⟩ := h; exact rfl) ?_
  show Ev _ _ _ 0 0 [(0, .ref 0), (1, .int p), (2, .int m)] [] _
  refine ev_aload_n 0 dX4_deposit_0 rfl rfl ?_
  refine ev_iload_n 1 dX4_deposit_1 rfl rfl ?_
  refine ev_cV1 (c4_is0 _ _ _ _ h) kX4_isThere rfl g1251 rfl rfl rfl rfl dX4_deposit_2 ?_
  refine ev_if_ne 10 dX4_deposit_5 (by decide) (fun h5 => absurd (by decide) h5) (fun h5 => ?_)
  refine ev_iconst (nI 0) dX4_deposit_8 rfl ?_
  exact ev_ireturn dX4_deposit_9 (Nat.le_of_ble_eq_true rfl) ⟨rfl, rfl⟩
set_option maxHeartbeats 1000000 in
theorem p4_deposit_2 (σ z : Nat → Int32) (Y : RY) (g : PW) {c : Nat} (hc : c < 8) {m : Int32} (h : inB m (nI 1) (nI 9999) = false) : Ct mX4_deposit [.ref 0, .int (nI c), .int m] (rw9 σ z Y g) (d1 (some (.int (nI 0))) (rw9 σ (upd (upd z 2 (nI 0)) 2 (nI 2)) Y g)) nx := by
  refine ct_of 2 kX4_deposit.1 rfl (Nat.le_of_ble_eq_true rfl) (fun v u h => by obtain ⟨rfl, rfl⟩ := h; exact rfl) ?_
  show Ev _ _ _ 0 0 [(0, .ref 0), (1, .int (nI c)), (2, .int m)] [] _
  refine ev_aload_n 0 dX4_deposit_0 rfl rfl ?_
  refine ev_iload_n 1 dX4_deposit_1 rfl rfl ?_
  refine ev_cV1 (c4_is1 _ _ _ _ hc) kX4_isThere rfl g1251 rfl rfl rfl rfl dX4_deposit_2 ?_
  refine ev_if_ne 10 dX4_deposit_5 (by decide) (fun h5 => ?_) (fun h5 => absurd h5 (by decide))
  refine ev_iload_n 2 dX4_deposit_10 rfl rfl ?_
  refine ev_iconst (nI 1) dX4_deposit_11 rfl ?_
  refine ev_sipush (nI 9999) dX4_deposit_12 rfl ?_
  refine ev_cS3 (c4_in0 _ h) kX4_in rfl g1165 rfl rfl dX4_deposit_15 ?_
  refine ev_if_ne 27 dX4_deposit_18 (by decide) (fun h18 => absurd (by decide) h18) (fun h18 => ?_)
  refine ev_aload_n 0 dX4_deposit_21 rfl rfl ?_
  refine ev_iconst (nI 2) dX4_deposit_22 rfl ?_
  refine ev_cV1 (c4_throwing _ _ _ _ _) kX4_throwing rfl g1172 rfl rfl rfl rfl dX4_deposit_23 ?_
  exact ev_ireturn dX4_deposit_26 (Nat.le_of_ble_eq_true rfl) ⟨rfl, rfl⟩
set_option maxHeartbeats 1000000 in
theorem p4_deposit_3 (σ z : Nat → Int32) (Y : RY) (g : PW) {c : Nat} (hc : c < 8) {m : Int32} (hm : inB m (nI 1) (nI 9999) = true) (h : ¬ σ (ix c 6) + m ≤ nI 99999) : Ct mX4_deposit [.ref 0, .int (nI c), .int m] (rw9 σ z Y g) (d1 (some (.int (nI 0))) (rw9 σ (upd (upd z 2 (nI 0)) 2 (nI 3)) Y g)) nx := by
  refine ct_of 2 kX4_deposit.1 rfl (Nat.le_of_ble_eq_true rfl) (fun v u h => by obtain ⟨rfl, rfl⟩ := h; exact rfl) ?_
  show Ev _ _ _ 0 0 [(0, .ref 0), (1, .int (nI c)), (2, .int m)] [] _
  refine ev_aload_n 0 dX4_deposit_0 rfl rfl ?_
  refine ev_iload_n 1 dX4_deposit_1 rfl rfl ?_
  refine ev_cV1 (c4_is1 _ _ _ _ hc) kX4_isThere rfl g1251 rfl rfl rfl rfl dX4_deposit_2 ?_
  refine ev_if_ne 10 dX4_deposit_5 (by decide) (fun h5 => ?_) (fun h5 => absurd h5 (by decide))
  refine ev_iload_n 2 dX4_deposit_10 rfl rfl ?_
  refine ev_iconst (nI 1) dX4_deposit_11 rfl ?_
  refine ev_sipush (nI 9999) dX4_deposit_12 rfl ?_
  refine ev_cS3 (c4_in1 _ hm) kX4_in rfl g1165 rfl rfl dX4_deposit_15 ?_
  refine ev_if_ne 27 dX4_deposit_18 (by decide) (fun h18 => ?_) (fun h18 => absurd h18 (by decide))
  refine ev_aload_n 0 dX4_deposit_27 rfl rfl ?_
  refine ev_iload_n 1 dX4_deposit_28 rfl rfl ?_
  refine ev_bipush (nI 6) dX4_deposit_29 rfl ?_
  refine ev_cV2 (c4_of _ _ _ _ (by omega) (by omega)) kX4_of rfl g1188 rfl rfl rfl rfl dX4_deposit_31 ?_
  refine ev_iload_n 2 dX4_deposit_34 rfl rfl ?_
  refine ev_iadd dX4_deposit_35 ?_
  refine ev_ldc (nI 99999) dX4_deposit_36 gX4_99999 ?_
  refine ev_icmp_le 47 dX4_deposit_38 (by decide) (fun h38 => absurd h38 h) (fun h38 => ?_)
  refine ev_aload_n 0 dX4_deposit_41 rfl rfl ?_
  refine ev_iconst (nI 3) dX4_deposit_42 rfl ?_
  refine ev_cV1 (c4_throwing _ _ _ _ _) kX4_throwing rfl g1172 rfl rfl rfl rfl dX4_deposit_43 ?_
  exact ev_ireturn dX4_deposit_46 (Nat.le_of_ble_eq_true rfl) ⟨rfl, rfl⟩
set_option maxHeartbeats 1000000 in
theorem p4_deposit_0 (σ z : Nat → Int32) (Y : RY) (g : PW) {c : Nat} (hc : c < 8) {m : Int32} (hm : inB m (nI 1) (nI 9999) = true) (h : σ (ix c 6) + m ≤ nI 99999) {n : Nat} (hn : n ≤ 6) (hz : z 0 = nI n) : Ct mX4_deposit [.ref 0, .int (nI c), .int m] (rw9 σ z Y g) (d1 (some (.int (lookN (upd σ (ix c 6) (σ (ix c 6) + m)) 8 (ix c 6)))) (rw9 (lookN (upd σ (ix c 6) (σ (ix c 6) + m)) 8) (svZ (upd z 2 (nI 0)) n) (svY σ Y n) g)) nx := by
  refine ct_of 2 kX4_deposit.1 rfl (Nat.le_of_ble_eq_true rfl) (fun v u h => by obtain ⟨rfl, rfl⟩ := h; exact rfl) ?_
  show Ev _ _ _ 0 0 [(0, .ref 0), (1, .int (nI c)), (2, .int m)] [] _
  refine ev_aload_n 0 dX4_deposit_0 rfl rfl ?_
  refine ev_iload_n 1 dX4_deposit_1 rfl rfl ?_
  refine ev_cV1 (c4_is1 _ _ _ _ hc) kX4_isThere rfl g1251 rfl rfl rfl rfl dX4_deposit_2 ?_
  refine ev_if_ne 10 dX4_deposit_5 (by decide) (fun h5 => ?_) (fun h5 => absurd h5 (by decide))
  refine ev_iload_n 2 dX4_deposit_10 rfl rfl ?_
  refine ev_iconst (nI 1) dX4_deposit_11 rfl ?_
  refine ev_sipush (nI 9999) dX4_deposit_12 rfl ?_
  refine ev_cS3 (c4_in1 _ hm) kX4_in rfl g1165 rfl rfl dX4_deposit_15 ?_
  refine ev_if_ne 27 dX4_deposit_18 (by decide) (fun h18 => ?_) (fun h18 => absurd h18 (by decide))
  refine ev_aload_n 0 dX4_deposit_27 rfl rfl ?_
  refine ev_iload_n 1 dX4_deposit_28 rfl rfl ?_
  refine ev_bipush (nI 6) dX4_deposit_29 rfl ?_
  refine ev_cV2 (c4_of _ _ _ _ (by omega) (by omega)) kX4_of rfl g1188 rfl rfl rfl rfl dX4_deposit_31 ?_
  refine ev_iload_n 2 dX4_deposit_34 rfl rfl ?_
  refine ev_iadd dX4_deposit_35 ?_
  refine ev_ldc (nI 99999) dX4_deposit_36 gX4_99999 ?_
  refine ev_icmp_le 47 dX4_deposit_38 (by decide) (fun h38 => ?_) (fun h38 => absurd h h38)
  refine ev_aload_n 0 dX4_deposit_47 rfl rfl ?_
  refine ev_cV0v (c4_save _ _ _ _ hn ((upd_n _ _ (by decide)).trans hz)) kX4_save rfl g1176 rfl rfl rfl rfl dX4_deposit_48 ?_
  refine ev_aload_n 0 dX4_deposit_51 rfl rfl ?_
  refine ev_iload_n 1 dX4_deposit_52 rfl rfl ?_
  refine ev_bipush (nI 6) dX4_deposit_53 rfl ?_
  refine ev_iload_n 2 dX4_deposit_55 rfl rfl ?_
  refine ev_cV3v (c4_grow _ _ _ _ (by omega) (by omega) _) kX4_grow rfl g1235 rfl rfl rfl rfl dX4_deposit_56 ?_
  refine ev_aload_n 0 dX4_deposit_59 rfl rfl ?_
  refine ev_cV0v (c4_looks _ _ _ _) kX4_looks rfl g1180 rfl rfl rfl rfl dX4_deposit_60 ?_
  refine ev_aload_n 0 dX4_deposit_63 rfl rfl ?_
  refine ev_iload_n 1 dX4_deposit_64 rfl rfl ?_
  refine ev_bipush (nI 6) dX4_deposit_65 rfl ?_
  refine ev_cV2 (c4_of _ _ _ _ (by omega) (by omega)) kX4_of rfl g1188 rfl rfl rfl rfl dX4_deposit_67 ?_
  exact ev_ireturn dX4_deposit_70 (Nat.le_of_ble_eq_true rfl) ⟨rfl, rfl⟩
set_option maxHeartbeats 1000000 in
theorem p4_withdraw_1 (σ z : Nat → Int32) (Y : RY) (g : PW) {p : Int32} (m : Int32) (h : inB p (nI 0) (nI 7) = false) : Ct mX4_withdraw [.ref 0, .int p, .int m] (rw9 σ z Y g) (d1 (some (.int (nI 0))) (rw9 σ (upd z 2 (nI 1)) Y g)) nx := by
  refine ct_of 2 kX4_withdraw.1 rfl (Nat.le_of_ble_eq_true rfl) (fun v u h => by obtain ⟨rfl, rfl⟩ := h; exact rfl) ?_
  show Ev _ _ _ 0 0 [(0, .ref 0), (1, .int p), (2, .int m)] [] _
  refine ev_aload_n 0 dX4_withdraw_0 rfl rfl ?_
  refine ev_iload_n 1 dX4_withdraw_1 rfl rfl ?_
  refine ev_cV1 (c4_is0 _ _ _ _ h) kX4_isThere rfl g1251 rfl rfl rfl rfl dX4_withdraw_2 ?_
  refine ev_if_ne 10 dX4_withdraw_5 (by decide) (fun h5 => absurd (by decide) h5) (fun h5 => ?_)
  refine ev_iconst (nI 0) dX4_withdraw_8 rfl ?_
  exact ev_ireturn dX4_withdraw_9 (Nat.le_of_ble_eq_true rfl) ⟨rfl, rfl⟩
set_option maxHeartbeats 1000000 in
theorem p4_withdraw_2 (σ z : Nat → Int32) (Y : RY) (g : PW) {c : Nat} (hc : c < 8) {m : Int32} (h : inB m (nI 1) (nI 9999) = false) : Ct mX4_withdraw [.ref 0, .int (nI c), .int m] (rw9 σ z Y g) (d1 (some (.int (nI 0))) (rw9 σ (upd (upd z 2 (nI 0)) 2 (nI 2)) Y g)) nx := by
  refine ct_of 2 kX4_withdraw.1 rfl (Nat.le_of_ble_eq_true rfl) (fun v u h => by obtain ⟨rfl, rfl⟩ := h; exact rfl) ?_
  show Ev _ _ _ 0 0 [(0, .ref 0), (1, .int (nI c)), (2, .int m)] [] _
  refine ev_aload_n 0 dX4_withdraw_0 rfl rfl ?_
  refine ev_iload_n 1 dX4_withdraw_1 rfl rfl ?_
  refine ev_cV1 (c4_is1 _ _ _ _ hc) kX4_isThere rfl g1251 rfl rfl rfl rfl dX4_withdraw_2 ?_
  refine ev_if_ne 10 dX4_withdraw_5 (by decide) (fun h5 => ?_) (fun h5 => absurd h5 (by decide))
  refine ev_iload_n 2 dX4_withdraw_10 rfl rfl ?_
  refine ev_iconst (nI 1) dX4_withdraw_11 rfl ?_
  refine ev_sipush (nI 9999) dX4_withdraw_12 rfl ?_
  refine ev_cS3 (c4_in0 _ h) kX4_in rfl g1165 rfl rfl dX4_withdraw_15 ?_
  refine ev_if_ne 27 dX4_withdraw_18 (by decide) (fun h18 => absurd (by decide) h18) (fun h18 => ?_)
  refine ev_aload_n 0 dX4_withdraw_21 rfl rfl ?_
  refine ev_iconst (nI 2) dX4_withdraw_22 rfl ?_
  refine ev_cV1 (c4_throwing _ _ _ _ _) kX4_throwing rfl g1172 rfl rfl rfl rfl dX4_withdraw_23 ?_
  exact ev_ireturn dX4_withdraw_26 (Nat.le_of_ble_eq_true rfl) ⟨rfl, rfl⟩
set_option maxHeartbeats 1000000 in
theorem p4_withdraw_3 (σ z : Nat → Int32) (Y : RY) (g : PW) {c : Nat} (hc : c < 8) {m : Int32} (hm : inB m (nI 1) (nI 9999) = true) (h : canL σ c 6 m = false) : Ct mX4_withdraw [.ref 0, .int (nI c), .int m] (rw9 σ z Y g) (d1 (some (.int (nI 0))) (rw9 σ (upd (upd z 2 (nI 0)) 2 (nI 3)) Y g)) nx := by
  refine ct_of 2 kX4_withdraw.1 rfl (Nat.le_of_ble_eq_true rfl) (fun v u h => by obtain ⟨rfl, rfl⟩ := h; exact rfl) ?_
  show Ev _ _ _ 0 0 [(0, .ref 0), (1, .int (nI c)), (2, .int m)] [] _
  refine ev_aload_n 0 dX4_withdraw_0 rfl rfl ?_
  refine ev_iload_n 1 dX4_withdraw_1 rfl rfl ?_
  refine ev_cV1 (c4_is1 _ _ _ _ hc) kX4_isThere rfl g1251 rfl rfl rfl rfl dX4_withdraw_2 ?_
  refine ev_if_ne 10 dX4_withdraw_5 (by decide) (fun h5 => ?_) (fun h5 => absurd h5 (by decide))
  refine ev_iload_n 2 dX4_withdraw_10 rfl rfl ?_
  refine ev_iconst (nI 1) dX4_withdraw_11 rfl ?_
  refine ev_sipush (nI 9999) dX4_withdraw_12 rfl ?_
  refine ev_cS3 (c4_in1 _ hm) kX4_in rfl g1165 rfl rfl dX4_withdraw_15 ?_
  refine ev_if_ne 27 dX4_withdraw_18 (by decide) (fun h18 => ?_) (fun h18 => absurd h18 (by decide))
  refine ev_aload_n 0 dX4_withdraw_27 rfl rfl ?_
  refine ev_iload_n 1 dX4_withdraw_28 rfl rfl ?_
  refine ev_bipush (nI 6) dX4_withdraw_29 rfl ?_
  refine ev_iload_n 2 dX4_withdraw_31 rfl rfl ?_
  refine ev_cV3 (c4_canLack _ _ _ _ (by omega) (by omega) _) kX4_canLack rfl g1243 rfl rfl rfl rfl dX4_withdraw_32 ?_
  refine ev_if_ne 44 dX4_withdraw_35 (by decide) (fun h35 => absurd (by rw [h]; rfl) h35) (fun h35 => ?_)
  refine ev_aload_n 0 dX4_withdraw_38 rfl rfl ?_
  refine ev_iconst (nI 3) dX4_withdraw_39 rfl ?_
  refine ev_cV1 (c4_throwing _ _ _ _ _) kX4_throwing rfl g1172 rfl rfl rfl rfl dX4_withdraw_40 ?_
  exact ev_ireturn dX4_withdraw_43 (Nat.le_of_ble_eq_true rfl) ⟨rfl, rfl⟩
set_option maxHeartbeats 1000000 in
theorem p4_withdraw_0 (σ z : Nat → Int32) (Y : RY) (g : PW) {c : Nat} (hc : c < 8) {m : Int32} (hm : inB m (nI 1) (nI 9999) = true) (h : canL σ c 6 m = true) {n : Nat} (hn : n ≤ 6) (hz : z 0 = nI n) : Ct mX4_withdraw [.ref 0, .int (nI c), .int m] (rw9 σ z Y g) (d1 (some (.int (lookN (upd σ (ix c 6) (σ (ix c 6) + -m)) 8 (ix c 6)))) (rw9 (lookN (upd σ (ix c 6) (σ (ix c 6) + -m)) 8) (svZ (upd z 2 (nI 0)) n) (svY σ Y n) g)) nx := by
  refine ct_of 2 kX4_withdraw.1 rfl (Nat.le_of_ble_eq_true rfl) (fun v u h => by obtain ⟨rfl, rfl⟩ := h; exact rfl) ?_
  show Ev _ _ _ 0 0 [(0, .ref 0), (1, .int (nI c)), (2, .int m)] [] _
  refine ev_aload_n 0 dX4_withdraw_0 rfl rfl ?_
  refine ev_iload_n 1 dX4_withdraw_1 rfl rfl ?_
  refine ev_cV1 (c4_is1 _ _ _ _ hc) kX4_isThere rfl g1251 rfl rfl rfl rfl dX4_withdraw_2 ?_
  refine ev_if_ne 10 dX4_withdraw_5 (by decide) (fun h5 => ?_) (fun h5 => absurd h5 (by decide))
  refine ev_iload_n 2 dX4_withdraw_10 rfl rfl ?_
  refine ev_iconst (nI 1) dX4_withdraw_11 rfl ?_
  refine ev_sipush (nI 9999) dX4_withdraw_12 rfl ?_
  refine ev_cS3 (c4_in1 _ hm) kX4_in rfl g1165 rfl rfl dX4_withdraw_15 ?_
  refine ev_if_ne 27 dX4_withdraw_18 (by decide) (fun h18 => ?_) (fun h18 => absurd h18 (by decide))
  refine ev_aload_n 0 dX4_withdraw_27 rfl rfl ?_
  refine ev_iload_n 1 dX4_withdraw_28 rfl rfl ?_
  refine ev_bipush (nI 6) dX4_withdraw_29 rfl ?_
  refine ev_iload_n 2 dX4_withdraw_31 rfl rfl ?_
  refine ev_cV3 (c4_canLack _ _ _ _ (by omega) (by omega) _) kX4_canLack rfl g1243 rfl rfl rfl rfl dX4_withdraw_32 ?_
  refine ev_if_ne 44 dX4_withdraw_35 (by decide) (fun h35 => ?_) (fun h35 => absurd h35 (by rw [h]; decide))
  refine ev_aload_n 0 dX4_withdraw_44 rfl rfl ?_
  refine ev_cV0v (c4_save _ _ _ _ hn ((upd_n _ _ (by decide)).trans hz)) kX4_save rfl g1176 rfl rfl rfl rfl dX4_withdraw_45 ?_
  refine ev_aload_n 0 dX4_withdraw_48 rfl rfl ?_
  refine ev_iload_n 1 dX4_withdraw_49 rfl rfl ?_
  refine ev_bipush (nI 6) dX4_withdraw_50 rfl ?_
  refine ev_iload_n 2 dX4_withdraw_52 rfl rfl ?_
  refine ev_ineg dX4_withdraw_53 ?_
  refine ev_cV3v (c4_grow _ _ _ _ (by omega) (by omega) _) kX4_grow rfl g1235 rfl rfl rfl rfl dX4_withdraw_54 ?_
  refine ev_aload_n 0 dX4_withdraw_57 rfl rfl ?_
  refine ev_cV0v (c4_looks _ _ _ _) kX4_looks rfl g1180 rfl rfl rfl rfl dX4_withdraw_58 ?_
  refine ev_aload_n 0 dX4_withdraw_61 rfl rfl ?_
  refine ev_iload_n 1 dX4_withdraw_62 rfl rfl ?_
  refine ev_bipush (nI 6) dX4_withdraw_63 rfl ?_
  refine ev_cV2 (c4_of _ _ _ _ (by omega) (by omega)) kX4_of rfl g1188 rfl rfl rfl rfl dX4_withdraw_65 ?_
  exact ev_ireturn dX4_withdraw_68 (Nat.le_of_ble_eq_true rfl) ⟨rfl, rfl⟩
set_option maxHeartbeats 1000000 in
theorem p4_lend_1 (σ z : Nat → Int32) (Y : RY) (g : PW) {p : Int32} (m : Int32) (h : inB p (nI 0) (nI 7) = false) : Ct mX4_lend [.ref 0, .int p, .int m] (rw9 σ z Y g) (d1 (some (.int (nI 0))) (rw9 σ (upd z 2 (nI 1)) Y g)) nx := by
  refine ct_of 2 kX4_lend.1 rfl (Nat.le_of_ble_eq_true rfl) (fun v u h => by obtain ⟨rfl, rfl⟩ := h; exact rfl) ?_
  show Ev _ _ _ 0 0 [(0, .ref 0), (1, .int p), (2, .int m)] [] _
  refine ev_aload_n 0 dX4_lend_0 rfl rfl ?_
  refine ev_iload_n 1 dX4_lend_1 rfl rfl ?_
  refine ev_cV1 (c4_is0 _ _ _ _ h) kX4_isThere rfl g1251 rfl rfl rfl rfl dX4_lend_2 ?_
  refine ev_if_ne 10 dX4_lend_5 (by decide) (fun h5 => absurd (by decide) h5) (fun h5 => ?_)
  refine ev_iconst (nI 0) dX4_lend_8 rfl ?_
  exact ev_ireturn dX4_lend_9 (Nat.le_of_ble_eq_true rfl) ⟨rfl, rfl⟩
set_option maxHeartbeats 1000000 in
theorem p4_lend_2 (σ z : Nat → Int32) (Y : RY) (g : PW) {c : Nat} (hc : c < 8) {m : Int32} (h : inB m (nI 1) (nI 9999) = false) : Ct mX4_lend [.ref 0, .int (nI c), .int m] (rw9 σ z Y g) (d1 (some (.int (nI 0))) (rw9 σ (upd (upd z 2 (nI 0)) 2 (nI 2)) Y g)) nx := by
  refine ct_of 2 kX4_lend.1 rfl (Nat.le_of_ble_eq_true rfl) (fun v u h => by obtain ⟨rfl, rfl⟩ := h; exact rfl) ?_
  show Ev _ _ _ 0 0 [(0, .ref 0), (1, .int (nI c)), (2, .int m)] [] _
  refine ev_aload_n 0 dX4_lend_0 rfl rfl ?_
  refine ev_iload_n 1 dX4_lend_1 rfl rfl ?_
  refine ev_cV1 (c4_is1 _ _ _ _ hc) kX4_isThere rfl g1251 rfl rfl rfl rfl dX4_lend_2 ?_
  refine ev_if_ne 10 dX4_lend_5 (by decide) (fun h5 => ?_) (fun h5 => absurd h5 (by decide))
  refine ev_iload_n 2 dX4_lend_10 rfl rfl ?_
  refine ev_iconst (nI 1) dX4_lend_11 rfl ?_
  refine ev_sipush (nI 9999) dX4_lend_12 rfl ?_
  refine ev_cS3 (c4_in0 _ h) kX4_in rfl g1165 rfl rfl dX4_lend_15 ?_
  refine ev_if_ne 27 dX4_lend_18 (by decide) (fun h18 => absurd (by decide) h18) (fun h18 => ?_)
  refine ev_aload_n 0 dX4_lend_21 rfl rfl ?_
  refine ev_iconst (nI 2) dX4_lend_22 rfl ?_
  refine ev_cV1 (c4_throwing _ _ _ _ _) kX4_throwing rfl g1172 rfl rfl rfl rfl dX4_lend_23 ?_
  exact ev_ireturn dX4_lend_26 (Nat.le_of_ble_eq_true rfl) ⟨rfl, rfl⟩
set_option maxHeartbeats 1000000 in
theorem p4_lend_3 (σ z : Nat → Int32) (Y : RY) (g : PW) {c : Nat} (hc : c < 8) {m : Int32} (hm : inB m (nI 1) (nI 9999) = true) (h : canB σ c m = false) : Ct mX4_lend [.ref 0, .int (nI c), .int m] (rw9 σ z Y g) (d1 (some (.int (nI 0))) (rw9 σ (upd (upd z 2 (nI 0)) 2 (nI 3)) Y g)) nx := by
  refine ct_of 2 kX4_lend.1 rfl (Nat.le_of_ble_eq_true rfl) (fun v u h => by obtain ⟨rfl, rfl⟩ := h; exact rfl) ?_
  show Ev _ _ _ 0 0 [(0, .ref 0), (1, .int (nI c)), (2, .int m)] [] _
  refine ev_aload_n 0 dX4_lend_0 rfl rfl ?_
  refine ev_iload_n 1 dX4_lend_1 rfl rfl ?_
  refine ev_cV1 (c4_is1 _ _ _ _ hc) kX4_isThere rfl g1251 rfl rfl rfl rfl dX4_lend_2 ?_
  refine ev_if_ne 10 dX4_lend_5 (by decide) (fun h5 => ?_) (fun h5 => absurd h5 (by decide))
  refine ev_iload_n 2 dX4_lend_10 rfl rfl ?_
  refine ev_iconst (nI 1) dX4_lend_11 rfl ?_
  refine ev_sipush (nI 9999) dX4_lend_12 rfl ?_
  refine ev_cS3 (c4_in1 _ hm) kX4_in rfl g1165 rfl rfl dX4_lend_15 ?_
  refine ev_if_ne 27 dX4_lend_18 (by decide) (fun h18 => ?_) (fun h18 => absurd h18 (by decide))
  refine ev_aload_n 0 dX4_lend_27 rfl rfl ?_
  refine ev_iload_n 1 dX4_lend_28 rfl rfl ?_
  refine ev_iload_n 2 dX4_lend_29 rfl rfl ?_
  refine ev_cV2 (c4_canLend _ _ _ _ (by omega) _) kX4_canLend rfl g1264 rfl rfl rfl rfl dX4_lend_30 ?_
  refine ev_if_ne 42 dX4_lend_33 (by decide) (fun h33 => absurd (by rw [h]; rfl) h33) (fun h33 => ?_)
  refine ev_aload_n 0 dX4_lend_36 rfl rfl ?_
  refine ev_iconst (nI 3) dX4_lend_37 rfl ?_
  refine ev_cV1 (c4_throwing _ _ _ _ _) kX4_throwing rfl g1172 rfl rfl rfl rfl dX4_lend_38 ?_
  exact ev_ireturn dX4_lend_41 (Nat.le_of_ble_eq_true rfl) ⟨rfl, rfl⟩
set_option maxHeartbeats 1000000 in
theorem p4_lend_0 (σ z : Nat → Int32) (Y : RY) (g : PW) {c : Nat} (hc : c < 8) {m : Int32} (hm : inB m (nI 1) (nI 9999) = true) (h : canB σ c m = true) {n : Nat} (hn : n ≤ 6) (hz : z 0 = nI n) : Ct mX4_lend [.ref 0, .int (nI c), .int m] (rw9 σ z Y g) (d1 (some (.int (lookN (lendS σ c m) 8 (ix c 7)))) (rw9 (lookN (lendS σ c m) 8) (svZ (upd z 2 (nI 0)) n) (svY σ Y n) g)) nx := by
  refine ct_of 2 kX4_lend.1 rfl (Nat.le_of_ble_eq_true rfl) (fun v u h => by obtain ⟨rfl, rfl⟩ := h; exact rfl) ?_
  show Ev _ _ _ 0 0 [(0, .ref 0), (1, .int (nI c)), (2, .int m)] [] _
  refine ev_aload_n 0 dX4_lend_0 rfl rfl ?_
  refine ev_iload_n 1 dX4_lend_1 rfl rfl ?_
  refine ev_cV1 (c4_is1 _ _ _ _ hc) kX4_isThere rfl g1251 rfl rfl rfl rfl dX4_lend_2 ?_
  refine ev_if_ne 10 dX4_lend_5 (by decide) (fun h5 => ?_) (fun h5 => absurd h5 (by decide))
  refine ev_iload_n 2 dX4_lend_10 rfl rfl ?_
  refine ev_iconst (nI 1) dX4_lend_11 rfl ?_
  refine ev_sipush (nI 9999) dX4_lend_12 rfl ?_
  refine ev_cS3 (c4_in1 _ hm) kX4_in rfl g1165 rfl rfl dX4_lend_15 ?_
  refine ev_if_ne 27 dX4_lend_18 (by decide) (fun h18 => ?_) (fun h18 => absurd h18 (by decide))
  refine ev_aload_n 0 dX4_lend_27 rfl rfl ?_
  refine ev_iload_n 1 dX4_lend_28 rfl rfl ?_
  refine ev_iload_n 2 dX4_lend_29 rfl rfl ?_
  refine ev_cV2 (c4_canLend _ _ _ _ (by omega) _) kX4_canLend rfl g1264 rfl rfl rfl rfl dX4_lend_30 ?_
  refine ev_if_ne 42 dX4_lend_33 (by decide) (fun h33 => ?_) (fun h33 => absurd h33 (by rw [h]; decide))
  refine ev_aload_n 0 dX4_lend_42 rfl rfl ?_
  refine ev_cV0v (c4_save _ _ _ _ hn ((upd_n _ _ (by decide)).trans hz)) kX4_save rfl g1176 rfl rfl rfl rfl dX4_lend_43 ?_
  refine ev_aload_n 0 dX4_lend_46 rfl rfl ?_
  refine ev_iload_n 1 dX4_lend_47 rfl rfl ?_
  refine ev_iload_n 2 dX4_lend_48 rfl rfl ?_
  refine ev_cV2v (c4_lends _ _ _ _ (by omega) _) kX4_lends rfl g1268 rfl rfl rfl rfl dX4_lend_49 ?_
  refine ev_aload_n 0 dX4_lend_52 rfl rfl ?_
  refine ev_cV0v (c4_looks _ _ _ _) kX4_looks rfl g1180 rfl rfl rfl rfl dX4_lend_53 ?_
  refine ev_aload_n 0 dX4_lend_56 rfl rfl ?_
  refine ev_iload_n 1 dX4_lend_57 rfl rfl ?_
  refine ev_bipush (nI 7) dX4_lend_58 rfl ?_
  refine ev_cV2 (c4_of _ _ _ _ (by omega) (by omega)) kX4_of rfl g1188 rfl rfl rfl rfl dX4_lend_60 ?_
  exact ev_ireturn dX4_lend_63 (Nat.le_of_ble_eq_true rfl) ⟨rfl, rfl⟩
set_option maxHeartbeats 1000000 in
theorem p4_payBack_1 (σ z : Nat → Int32) (Y : RY) (g : PW) {p : Int32} (m : Int32) (h : inB p (nI 0) (nI 7) = false) : Ct mX4_payBack [.ref 0, .int p, .int m] (rw9 σ z Y g) (d1 (some (.int (nI 0))) (rw9 σ (upd z 2 (nI 1)) Y g)) nx := by
  refine ct_of 2 kX4_payBack.1 rfl (Nat.le_of_ble_eq_true rfl) (fun v u h => by obtain ⟨rfl, rfl⟩ := h; exact rfl) ?_
  show Ev _ _ _ 0 0 [(0, .ref 0), (1, .int p), (2, .int m)] [] _
  refine ev_aload_n 0 dX4_payBack_0 rfl rfl ?_
  refine ev_iload_n 1 dX4_payBack_1 rfl rfl ?_
  refine ev_cV1 (c4_is0 _ _ _ _ h) kX4_isThere rfl g1251 rfl rfl rfl rfl dX4_payBack_2 ?_
  refine ev_if_ne 10 dX4_payBack_5 (by decide) (fun h5 => absurd (by decide) h5) (fun h5 => ?_)
  refine ev_iconst (nI 0) dX4_payBack_8 rfl ?_
  exact ev_ireturn dX4_payBack_9 (Nat.le_of_ble_eq_true rfl) ⟨rfl, rfl⟩
set_option maxHeartbeats 1000000 in
theorem p4_payBack_2 (σ z : Nat → Int32) (Y : RY) (g : PW) {c : Nat} (hc : c < 8) {m : Int32} (h : inB m (nI 1) (nI 9999) = false) : Ct mX4_payBack [.ref 0, .int (nI c), .int m] (rw9 σ z Y g) (d1 (some (.int (nI 0))) (rw9 σ (upd (upd z 2 (nI 0)) 2 (nI 2)) Y g)) nx := by
  refine ct_of 2 kX4_payBack.1 rfl (Nat.le_of_ble_eq_true rfl) (fun v u h => by obtain ⟨rfl, rfl⟩ := h; exact rfl) ?_
  show Ev _ _ _ 0 0 [(0, .ref 0), (1, .int (nI c)), (2, .int m)] [] _
  refine ev_aload_n 0 dX4_payBack_0 rfl rfl ?_
  refine ev_iload_n 1 dX4_payBack_1 rfl rfl ?_
  refine ev_cV1 (c4_is1 _ _ _ _ hc) kX4_isThere rfl g1251 rfl rfl rfl rfl dX4_payBack_2 ?_
  refine ev_if_ne 10 dX4_payBack_5 (by decide) (fun h5 => ?_) (fun h5 => absurd h5 (by decide))
  refine ev_iload_n 2 dX4_payBack_10 rfl rfl ?_
  refine ev_iconst (nI 1) dX4_payBack_11 rfl ?_
  refine ev_sipush (nI 9999) dX4_payBack_12 rfl ?_
  refine ev_cS3 (c4_in0 _ h) kX4_in rfl g1165 rfl rfl dX4_payBack_15 ?_
  refine ev_if_ne 27 dX4_payBack_18 (by decide) (fun h18 => absurd (by decide) h18) (fun h18 => ?_)
  refine ev_aload_n 0 dX4_payBack_21 rfl rfl ?_
  refine ev_iconst (nI 2) dX4_payBack_22 rfl ?_
  refine ev_cV1 (c4_throwing _ _ _ _ _) kX4_throwing rfl g1172 rfl rfl rfl rfl dX4_payBack_23 ?_
  exact ev_ireturn dX4_payBack_26 (Nat.le_of_ble_eq_true rfl) ⟨rfl, rfl⟩
set_option maxHeartbeats 1000000 in
theorem p4_payBack_3 (σ z : Nat → Int32) (Y : RY) (g : PW) {c : Nat} (hc : c < 8) {m : Int32} (hm : inB m (nI 1) (nI 9999) = true) (h : σ (ix c 7) = 0) : Ct mX4_payBack [.ref 0, .int (nI c), .int m] (rw9 σ z Y g) (d1 (some (.int (nI 0))) (rw9 σ (upd (upd z 2 (nI 0)) 2 (nI 3)) Y g)) nx := by
  refine ct_of 2 kX4_payBack.1 rfl (Nat.le_of_ble_eq_true rfl) (fun v u h => by obtain ⟨rfl, rfl⟩ := h; exact rfl) ?_
  show Ev _ _ _ 0 0 [(0, .ref 0), (1, .int (nI c)), (2, .int m)] [] _
  refine ev_aload_n 0 dX4_payBack_0 rfl rfl ?_
  refine ev_iload_n 1 dX4_payBack_1 rfl rfl ?_
  refine ev_cV1 (c4_is1 _ _ _ _ hc) kX4_isThere rfl g1251 rfl rfl rfl rfl dX4_payBack_2 ?_
  refine ev_if_ne 10 dX4_payBack_5 (by decide) (fun h5 => ?_) (fun h5 => absurd h5 (by decide))
  refine ev_iload_n 2 dX4_payBack_10 rfl rfl ?_
  refine ev_iconst (nI 1) dX4_payBack_11 rfl ?_
  refine ev_sipush (nI 9999) dX4_payBack_12 rfl ?_
  refine ev_cS3 (c4_in1 _ hm) kX4_in rfl g1165 rfl rfl dX4_payBack_15 ?_
  refine ev_if_ne 27 dX4_payBack_18 (by decide) (fun h18 => ?_) (fun h18 => absurd h18 (by decide))
  refine ev_aload_n 0 dX4_payBack_27 rfl rfl ?_
  refine ev_iload_n 1 dX4_payBack_28 rfl rfl ?_
  refine ev_bipush (nI 7) dX4_payBack_29 rfl ?_
  refine ev_cV2 (c4_of _ _ _ _ (by omega) (by omega)) kX4_of rfl g1188 rfl rfl rfl rfl dX4_payBack_31 ?_
  refine ev_if_ne 43 dX4_payBack_34 (by decide) (fun h34 => absurd h h34) (fun h34 => ?_)
  refine ev_aload_n 0 dX4_payBack_37 rfl rfl ?_
  refine ev_iconst (nI 3) dX4_payBack_38 rfl ?_
  refine ev_cV1 (c4_throwing _ _ _ _ _) kX4_throwing rfl g1172 rfl rfl rfl rfl dX4_payBack_39 ?_
  exact ev_ireturn dX4_payBack_42 (Nat.le_of_ble_eq_true rfl) ⟨rfl, rfl⟩
set_option maxHeartbeats 1000000 in
theorem p4_payBack_0 (σ z : Nat → Int32) (Y : RY) (g : PW) {c : Nat} (hc : c < 8) {m : Int32} (hm : inB m (nI 1) (nI 9999) = true) (h : ¬ σ (ix c 7) = 0) {n : Nat} (hn : n ≤ 6) (hz : z 0 = nI n) : Ct mX4_payBack [.ref 0, .int (nI c), .int m] (rw9 σ z Y g) (d1 (some (.int (paid σ c m))) (rw9 (lookN (backS σ c m) 8) (svZ (upd z 2 (nI 0)) n) (svY σ Y n) g)) nx := by
  refine ct_of 2 kX4_payBack.1 rfl (Nat.le_of_ble_eq_true rfl) (fun v u h => by obtain ⟨rfl, rfl⟩ := h; exact rfl) ?_
  show Ev _ _ _ 0 0 [(0, .ref 0), (1, .int (nI c)), (2, .int m)] [] _
  refine ev_aload_n 0 dX4_payBack_0 rfl rfl ?_
  refine ev_iload_n 1 dX4_payBack_1 rfl rfl ?_
  refine ev_cV1 (c4_is1 _ _ _ _ hc) kX4_isThere rfl g1251 rfl rfl rfl rfl dX4_payBack_2 ?_
  refine ev_if_ne 10 dX4_payBack_5 (by decide) (fun h5 => ?_) (fun h5 => absurd h5 (by decide))
  refine ev_iload_n 2 dX4_payBack_10 rfl rfl ?_
  refine ev_iconst (nI 1) dX4_payBack_11 rfl ?_
  refine ev_sipush (nI 9999) dX4_payBack_12 rfl ?_
  refine ev_cS3 (c4_in1 _ hm) kX4_in rfl g1165 rfl rfl dX4_payBack_15 ?_
  refine ev_if_ne 27 dX4_payBack_18 (by decide) (fun h18 => ?_) (fun h18 => absurd h18 (by decide))
  refine ev_aload_n 0 dX4_payBack_27 rfl rfl ?_
  refine ev_iload_n 1 dX4_payBack_28 rfl rfl ?_
  refine ev_bipush (nI 7) dX4_payBack_29 rfl ?_
  refine ev_cV2 (c4_of _ _ _ _ (by omega) (by omega)) kX4_of rfl g1188 rfl rfl rfl rfl dX4_payBack_31 ?_
  refine ev_if_ne 43 dX4_payBack_34 (by decide) (fun h34 => ?_) (fun h34 => absurd h34 h)
  refine ev_aload_n 0 dX4_payBack_43 rfl rfl ?_
  refine ev_cV0v (c4_save _ _ _ _ hn ((upd_n _ _ (by decide)).trans hz)) kX4_save rfl g1176 rfl rfl rfl rfl dX4_payBack_44 ?_
  refine ev_aload_n 0 dX4_payBack_47 rfl rfl ?_
  refine ev_iload_n 1 dX4_payBack_48 rfl rfl ?_
  refine ev_iload_n 2 dX4_payBack_49 rfl rfl ?_
  refine ev_cV2 (c4_paysBack _ _ _ _ (by omega) _) kX4_paysBack rfl g1276 rfl rfl rfl rfl dX4_payBack_50 ?_
  refine ev_istore_n 3 dX4_payBack_53 rfl (Nat.le_of_ble_eq_true rfl) rfl ?_
  refine ev_aload_n 0 dX4_payBack_54 rfl rfl ?_
  refine ev_cV0v (c4_looks _ _ _ _) kX4_looks rfl g1180 rfl rfl rfl rfl dX4_payBack_55 ?_
  refine ev_iload_n 3 dX4_payBack_58 rfl rfl ?_
  exact ev_ireturn dX4_payBack_59 (Nat.le_of_ble_eq_true rfl) ⟨rfl, rfl⟩
set_option maxHeartbeats 1000000 in
theorem p4_readmit_1 (σ z : Nat → Int32) (Y : RY) (g : PW) {p : Int32} (h : inB p (nI 0) (nI 7) = false) : Ct mX4_readmit [.ref 0, .int p] (rw9 σ z Y g) (d1 none (rw9 σ (upd z 2 (nI 1)) Y g)) nx := by
  refine ct_of 1 kX4_readmit.1 rfl (Nat.le_of_ble_eq_true rfl) (fun v u h => by obtain ⟨rfl, rfl⟩ := h; exact trivial) ?_
  show Ev _ _ _ 0 0 [(0, .ref 0), (1, .int p)] [] _
  refine ev_aload_n 0 dX4_readmit_0 rfl rfl ?_
  refine ev_iload_n 1 dX4_readmit_1 rfl rfl ?_
  refine ev_cS1 (c4_isClient0 _ h) kX4_isClient rfl g1228 rfl rfl dX4_readmit_2 ?_
  refine ev_if_ne 12 dX4_readmit_5 (by decide) (fun h5 => absurd (by decide) h5) (fun h5 => ?_)
  refine ev_iconst (nI 1) dX4_readmit_8 rfl ?_
  refine ev_goto 28 dX4_readmit_9 (by decide) ?_
  refine ev_putfield 8 dX4_readmit_28 fpX4_29 rfl (Nat.le_of_ble_eq_true rfl) (fun _ => rfl) (fun _ => rfl) (rz2 _ _ _ _ _) ?_
  refine ev_aload_n 0 dX4_readmit_31 rfl rfl ?_
  refine ev_getfield 8 dX4_readmit_32 foX4_29 rfl rfl ?_
  refine ev_if_ne 54 dX4_readmit_35 (by decide) (fun h35 => ?_) (fun h35 => absurd h35 (by show ¬ upd z 2 (nI 1) 2 = 0; rw [upd_s]; decide))
  exact ev_return dX4_readmit_54 (Nat.le_of_ble_eq_true rfl) ⟨rfl, rfl⟩
set_option maxHeartbeats 1000000 in
theorem p4_readmit_2 (σ z : Nat → Int32) (Y : RY) (g : PW) {c : Nat} (hc : c < 8) (h : ¬ σ (ix c 9) = nI 1) : Ct mX4_readmit [.ref 0, .int (nI c)] (rw9 σ z Y g) (d1 none (rw9 σ (upd z 2 (nI 2)) Y g)) nx := by
  refine ct_of 1 kX4_readmit.1 rfl (Nat.le_of_ble_eq_true rfl) (fun v u h => by obtain ⟨rfl, rfl⟩ := h; exact trivial) ?_
  show Ev _ _ _ 0 0 [(0, .ref 0), (1, .int (nI c))] [] _
  refine ev_aload_n 0 dX4_readmit_0 rfl rfl ?_
  refine ev_iload_n 1 dX4_readmit_1 rfl rfl ?_
  refine ev_cS1 (c4_isClient1 _ hc) kX4_isClient rfl g1228 rfl rfl dX4_readmit_2 ?_
  refine ev_if_ne 12 dX4_readmit_5 (by decide) (fun h5 => ?_) (fun h5 => absurd h5 (by decide))
  refine ev_aload_n 0 dX4_readmit_12 rfl rfl ?_
  refine ev_iload_n 1 dX4_readmit_13 rfl rfl ?_
  refine ev_bipush (nI 9) dX4_readmit_14 rfl ?_
  refine ev_cV2 (c4_of _ _ _ _ (by omega) (by omega)) kX4_of rfl g1188 rfl rfl rfl rfl dX4_readmit_16 ?_
  refine ev_iconst (nI 1) dX4_readmit_19 rfl ?_
  refine ev_icmp_ne 27 dX4_readmit_20 (by decide) (fun h20 => ?_) (fun h20 => absurd h20 h)
  refine ev_iconst (nI 2) dX4_readmit_27 rfl ?_
  refine ev_putfield 8 dX4_readmit_28 fpX4_29 rfl (Nat.le_of_ble_eq_true rfl) (fun _ => rfl) (fun _ => rfl) (rz2 _ _ _ _ _) ?_
  refine ev_aload_n 0 dX4_readmit_31 rfl rfl ?_
  refine ev_getfield 8 dX4_readmit_32 foX4_29 rfl rfl ?_
  refine ev_if_ne 54 dX4_readmit_35 (by decide) (fun h35 => ?_) (fun h35 => absurd h35 (by show ¬ upd z 2 (nI 2) 2 = 0; rw [upd_s]; decide))
  exact ev_return dX4_readmit_54 (Nat.le_of_ble_eq_true rfl) ⟨rfl, rfl⟩
set_option maxHeartbeats 1000000 in
theorem p4_readmit_0 (σ z : Nat → Int32) (Y : RY) (g : PW) {c : Nat} (hc : c < 8) (h : σ (ix c 9) = nI 1) {n : Nat} (hn : n ≤ 6) (hz : z 0 = nI n) : Ct mX4_readmit [.ref 0, .int (nI c)] (rw9 σ z Y g) (d1 none (rw9 (lookN (upd σ (ix c 9) (nI 0)) 8) (svZ (upd z 2 (nI 0)) n) (svY σ Y n) g)) nx := by
  refine ct_of 1 kX4_readmit.1 rfl (Nat.le_of_ble_eq_true rfl) (fun v u h => by obtain ⟨rfl, rfl⟩ := h; exact trivial) ?_
  show Ev _ _ _ 0 0 [(0, .ref 0), (1, .int (nI c))] [] _
  refine ev_aload_n 0 dX4_readmit_0 rfl rfl ?_
  refine ev_iload_n 1 dX4_readmit_1 rfl rfl ?_
  refine ev_cS1 (c4_isClient1 _ hc) kX4_isClient rfl g1228 rfl rfl dX4_readmit_2 ?_
  refine ev_if_ne 12 dX4_readmit_5 (by decide) (fun h5 => ?_) (fun h5 => absurd h5 (by decide))
  refine ev_aload_n 0 dX4_readmit_12 rfl rfl ?_
  refine ev_iload_n 1 dX4_readmit_13 rfl rfl ?_
  refine ev_bipush (nI 9) dX4_readmit_14 rfl ?_
  refine ev_cV2 (c4_of _ _ _ _ (by omega) (by omega)) kX4_of rfl g1188 rfl rfl rfl rfl dX4_readmit_16 ?_
  refine ev_iconst (nI 1) dX4_readmit_19 rfl ?_
  refine ev_icmp_ne 27 dX4_readmit_20 (by decide) (fun h20 => absurd h h20) (fun h20 => ?_)
  refine ev_iconst (nI 0) dX4_readmit_23 rfl ?_
  refine ev_goto 28 dX4_readmit_24 (by decide) ?_
  refine ev_putfield 8 dX4_readmit_28 fpX4_29 rfl (Nat.le_of_ble_eq_true rfl) (fun _ => rfl) (fun _ => rfl) (rz2 _ _ _ _ _) ?_
  refine ev_aload_n 0 dX4_readmit_31 rfl rfl ?_
  refine ev_getfield 8 dX4_readmit_32 foX4_29 rfl rfl ?_
  refine ev_if_ne 54 dX4_readmit_35 (by decide) (fun h35 => absurd (by show upd z 2 (nI 0) 2 = 0; rw [upd_s]; rfl) h35) (fun h35 => ?_)
  refine ev_aload_n 0 dX4_readmit_38 rfl rfl ?_
  refine ev_cV0v (c4_save _ _ _ _ hn ((upd_n _ _ (by decide)).trans hz)) kX4_save rfl g1176 rfl rfl rfl rfl dX4_readmit_39 ?_
  refine ev_aload_n 0 dX4_readmit_42 rfl rfl ?_
  refine ev_iload_n 1 dX4_readmit_43 rfl rfl ?_
  refine ev_bipush (nI 9) dX4_readmit_44 rfl ?_
  refine ev_iconst (nI 0) dX4_readmit_46 rfl ?_
  refine ev_cV3v (c4_lay _ _ _ _ (by omega) (by omega) _) kX4_lay rfl g1208 rfl rfl rfl rfl dX4_readmit_47 ?_
  refine ev_aload_n 0 dX4_readmit_50 rfl rfl ?_
  refine ev_cV0v (c4_looks _ _ _ _) kX4_looks rfl g1180 rfl rfl rfl rfl dX4_readmit_51 ?_
  exact ev_return dX4_readmit_54 (Nat.le_of_ble_eq_true rfl) ⟨rfl, rfl⟩
set_option maxHeartbeats 1000000 in
theorem c4_sets_2 (σ z : Nat → Int32) (Y : RY) (g : PW) (i : Int32) {v lo hi : Int32} (h : inB v lo hi = false) : Ct mX4_sets [.ref 0, .int i, .int v, .int lo, .int hi] (rw9 σ z Y g) (d1 (some (.int (nI 0))) (rw9 σ (upd z 2 (nI 2)) Y g)) nx := by
  refine ct_of 4 kX4_sets.1 rfl (Nat.le_of_ble_eq_true rfl) (fun v u h => by obtain ⟨rfl, rfl⟩ := h; exact rfl) ?_
  show Ev _ _ _ 0 0 [(0, .ref 0), (1, .int i), (2, .int v), (3, .int lo), (4, .int hi)] [] _
  refine ev_iload_n 2 dX4_sets_0 rfl rfl ?_
  refine ev_iload_n 3 dX4_sets_1 rfl rfl ?_
  refine ev_iload dX4_sets_2 rfl ?_
  refine ev_cS3 (c4_in0 _ h) kX4_in rfl g1165 rfl rfl dX4_sets_4 ?_
  refine ev_if_ne 16 dX4_sets_7 (by decide) (fun h7 => absurd (by decide) h7) (fun h7 => ?_)
  refine ev_aload_n 0 dX4_sets_10 rfl rfl ?_
  refine ev_iconst (nI 2) dX4_sets_11 rfl ?_
  refine ev_cV1 (c4_throwing _ _ _ _ _) kX4_throwing rfl g1172 rfl rfl rfl rfl dX4_sets_12 ?_
  exact ev_ireturn dX4_sets_15 (Nat.le_of_ble_eq_true rfl) ⟨rfl, rfl⟩
set_option maxHeartbeats 1000000 in
theorem c4_sets_0 (σ z : Nat → Int32) (Y : RY) (g : PW) {i : Nat} (hi : i < 109) {v lo hi : Int32} (h : inB v lo hi = true) {n : Nat} (hn : n ≤ 6) (hz : z 0 = nI n) : Ct mX4_sets [.ref 0, .int (nI i), .int v, .int lo, .int hi] (rw9 σ z Y g) (d1 (some (.int (lookN (upd σ i v) 8 107 - σ 107))) (rw9 (lookN (upd σ i v) 8) (svZ z n) (svY σ Y n) g)) nx := by
  refine ct_of 4 kX4_sets.1 rfl (Nat.le_of_ble_eq_true rfl) (fun v u h => by obtain ⟨rfl, rfl⟩ := h; exact rfl) ?_
  show Ev _ _ _ 0 0 [(0, .ref 0), (1, .int (nI i)), (2, .int v), (3, .int lo), (4, .int hi)] [] _
  refine ev_iload_n 2 dX4_sets_0 rfl rfl ?_
  refine ev_iload_n 3 dX4_sets_1 rfl rfl ?_
  refine ev_iload dX4_sets_2 rfl ?_
  refine ev_cS3 (c4_in1 _ h) kX4_in rfl g1165 rfl rfl dX4_sets_4 ?_
  refine ev_if_ne 16 dX4_sets_7 (by decide) (fun h7 => ?_) (fun h7 => absurd h7 (by decide))
  refine ev_aload_n 0 dX4_sets_16 rfl rfl ?_
  refine ev_cV0v (c4_save _ _ _ _ hn hz) kX4_save rfl g1176 rfl rfl rfl rfl dX4_sets_17 ?_
  refine ev_aload_n 0 dX4_sets_20 rfl rfl ?_
  refine ev_getfield 0 dX4_sets_21 foX4_7 rfl rfl ?_
  refine ev_bipush (nI 107) dX4_sets_24 rfl ?_
  refine ev_ild (107) dX4_sets_26 rfl (by simp only [nI_m, nI_add, ix, oI]) (by omega) rfl ?_
  refine ev_istore dX4_sets_27 (Nat.le_of_ble_eq_true rfl) rfl ?_
  refine ev_aload_n 0 dX4_sets_29 rfl rfl ?_
  refine ev_getfield 0 dX4_sets_30 foX4_7 rfl rfl ?_
  refine ev_iload_n 1 dX4_sets_33 rfl rfl ?_
  refine ev_iload_n 2 dX4_sets_34 rfl rfl ?_
  refine ev_ist (i) dX4_sets_35 rfl (by simp only [nI_m, nI_add, ix, oI]) (by omega) rfl (rw_s _ _ _ _ _) ?_
  refine ev_aload_n 0 dX4_sets_36 rfl rfl ?_
  refine ev_cV0v (c4_looks _ _ _ _) kX4_looks rfl g1180 rfl rfl rfl rfl dX4_sets_37 ?_
  refine ev_aload_n 0 dX4_sets_40 rfl rfl ?_
  refine ev_getfield 0 dX4_sets_41 foX4_7 rfl rfl ?_
  refine ev_bipush (nI 107) dX4_sets_44 rfl ?_
  refine ev_ild (107) dX4_sets_46 rfl (by simp only [nI_m, nI_add, ix, oI]) (by omega) rfl ?_
  refine ev_iload dX4_sets_47 rfl ?_
  refine ev_isub dX4_sets_49 ?_
  exact ev_ireturn dX4_sets_50 (Nat.le_of_ble_eq_true rfl) ⟨rfl, rfl⟩
set_option maxHeartbeats 1000000 in
theorem p4_setPrice_1 (σ z : Nat → Int32) (Y : RY) (g : PW) {p : Int32} (v : Int32) (h : inB p (nI 0) (nI 5) = false) : Ct mX4_setPrice [.ref 0, .int p, .int v] (rw9 σ z Y g) (d1 (some (.int (nI 0))) (rw9 σ (upd (upd z 2 (nI 0)) 2 (nI 1)) Y g)) nx := by
  refine ct_of 2 kX4_setPrice.1 rfl (Nat.le_of_ble_eq_true rfl) (fun v u h => by obtain ⟨rfl, rfl⟩ := h; exact rfl) ?_
  show Ev _ _ _ 0 0 [(0, .ref 0), (1, .int p), (2, .int v)] [] _
  refine ev_aload_n 0 dX4_setPrice_0 rfl rfl ?_
  refine ev_iconst (nI 0) dX4_setPrice_1 rfl ?_
  refine ev_putfield 8 dX4_setPrice_2 fpX4_29 rfl (Nat.le_of_ble_eq_true rfl) (fun _ => rfl) (fun _ => rfl) (rz2 _ _ _ _ _) ?_
  refine ev_iload_n 1 dX4_setPrice_5 rfl rfl ?_
  refine ev_cS1 (c4_isKind0 _ h) kX4_isKind rfl g1162 rfl rfl dX4_setPrice_6 ?_
  refine ev_if_eq 25 dX4_setPrice_9 (by decide) (fun h9 => ?_) (fun h9 => absurd (by decide) h9)
  refine ev_aload_n 0 dX4_setPrice_25 rfl rfl ?_
  refine ev_iconst (nI 1) dX4_setPrice_26 rfl ?_
  refine ev_cV1 (c4_throwing _ _ _ _ _) kX4_throwing rfl g1172 rfl rfl rfl rfl dX4_setPrice_27 ?_
  exact ev_ireturn dX4_setPrice_30 (Nat.le_of_ble_eq_true rfl) ⟨rfl, rfl⟩
set_option maxHeartbeats 1000000 in
theorem p4_setPrice_2 (σ z : Nat → Int32) (Y : RY) (g : PW) {k : Nat} (hk : k < 6) {v : Int32} (h : inB v (nI 1) (nI 500) = false) : Ct mX4_setPrice [.ref 0, .int (nI k), .int v] (rw9 σ z Y g) (d1 (some (.int (nI 0))) (rw9 σ (upd (upd z 2 (nI 0)) 2 (nI 2)) Y g)) nx := by
  refine ct_of 2 kX4_setPrice.1 rfl (Nat.le_of_ble_eq_true rfl) (fun v u h => by obtain ⟨rfl, rfl⟩ := h; exact rfl) ?_
  show Ev _ _ _ 0 0 [(0, .ref 0), (1, .int (nI k)), (2, .int v)] [] _
  refine ev_aload_n 0 dX4_setPrice_0 rfl rfl ?_
  refine ev_iconst (nI 0) dX4_setPrice_1 rfl ?_
  refine ev_putfield 8 dX4_setPrice_2 fpX4_29 rfl (Nat.le_of_ble_eq_true rfl) (fun _ => rfl) (fun _ => rfl) (rz2 _ _ _ _ _) ?_
  refine ev_iload_n 1 dX4_setPrice_5 rfl rfl ?_
  refine ev_cS1 (c4_isKind1 _ hk) kX4_isKind rfl g1162 rfl rfl dX4_setPrice_6 ?_
  refine ev_if_eq 25 dX4_setPrice_9 (by decide) (fun h9 => absurd h9 (by decide)) (fun h9 => ?_)
  refine ev_aload_n 0 dX4_setPrice_12 rfl rfl ?_
  refine ev_iload_n 1 dX4_setPrice_13 rfl rfl ?_
  refine ev_iload_n 2 dX4_setPrice_14 rfl rfl ?_
  refine ev_iconst (nI 1) dX4_setPrice_15 rfl ?_
  refine ev_sipush (nI 500) dX4_setPrice_16 rfl ?_
  refine ev_cV4 (c4_sets_2 _ _ _ _ _ h) kX4_sets rfl g1168 rfl rfl rfl rfl dX4_setPrice_19 ?_
  refine ev_goto 30 dX4_setPrice_22 (by decide) ?_
  exact ev_ireturn dX4_setPrice_30 (Nat.le_of_ble_eq_true rfl) ⟨rfl, rfl⟩
set_option maxHeartbeats 1000000 in
theorem p4_setPrice_0 (σ z : Nat → Int32) (Y : RY) (g : PW) {k : Nat} (hk : k < 6) {v : Int32} (h : inB v (nI 1) (nI 500) = true) {n : Nat} (hn : n ≤ 6) (hz : z 0 = nI n) : Ct mX4_setPrice [.ref 0, .int (nI k), .int v] (rw9 σ z Y g) (d1 (some (.int (lookN (upd σ (k) v) 8 107 - σ 107))) (rw9 (lookN (upd σ (k) v) 8) (svZ (upd z 2 (nI 0)) n) (svY σ Y n) g)) nx := by
  refine ct_of 2 kX4_setPrice.1 rfl (Nat.le_of_ble_eq_true rfl) (fun v u h => by obtain ⟨rfl, rfl⟩ := h; exact rfl) ?_
  show Ev _ _ _ 0 0 [(0, .ref 0), (1, .int (nI k)), (2, .int v)] [] _
  refine ev_aload_n 0 dX4_setPrice_0 rfl rfl ?_
  refine ev_iconst (nI 0) dX4_setPrice_1 rfl ?_
  refine ev_putfield 8 dX4_setPrice_2 fpX4_29 rfl (Nat.le_of_ble_eq_true rfl) (fun _ => rfl) (fun _ => rfl) (rz2 _ _ _ _ _) ?_
  refine ev_iload_n 1 dX4_setPrice_5 rfl rfl ?_
  refine ev_cS1 (c4_isKind1 _ hk) kX4_isKind rfl g1162 rfl rfl dX4_setPrice_6 ?_
  refine ev_if_eq 25 dX4_setPrice_9 (by decide) (fun h9 => absurd h9 (by decide)) (fun h9 => ?_)
  refine ev_aload_n 0 dX4_setPrice_12 rfl rfl ?_
  refine ev_iload_n 1 dX4_setPrice_13 rfl rfl ?_
  refine ev_iload_n 2 dX4_setPrice_14 rfl rfl ?_
  refine ev_iconst (nI 1) dX4_setPrice_15 rfl ?_
  refine ev_sipush (nI 500) dX4_setPrice_16 rfl ?_
  refine ev_cV4 (c4_sets_0 _ _ _ _ (by omega) h hn ((upd_n _ _ (by decide)).trans hz)) kX4_sets rfl g1168 rfl rfl rfl rfl dX4_setPrice_19 ?_
  refine ev_goto 30 dX4_setPrice_22 (by decide) ?_
  exact ev_ireturn dX4_setPrice_30 (Nat.le_of_ble_eq_true rfl) ⟨rfl, rfl⟩
set_option maxHeartbeats 1000000 in
theorem p4_setCut_1 (σ z : Nat → Int32) (Y : RY) (g : PW) {p : Int32} (v : Int32) (h : inB p (nI 0) (nI 5) = false) : Ct mX4_setCut [.ref 0, .int p, .int v] (rw9 σ z Y g) (d1 (some (.int (nI 0))) (rw9 σ (upd (upd z 2 (nI 0)) 2 (nI 1)) Y g)) nx := by
  refine ct_of 2 kX4_setCut.1 rfl (Nat.le_of_ble_eq_true rfl) (fun v u h => by obtain ⟨rfl, rfl⟩ := h; exact rfl) ?_
  show Ev _ _ _ 0 0 [(0, .ref 0), (1, .int p), (2, .int v)] [] _
  refine ev_aload_n 0 dX4_setCut_0 rfl rfl ?_
  refine ev_iconst (nI 0) dX4_setCut_1 rfl ?_
  refine ev_putfield 8 dX4_setCut_2 fpX4_29 rfl (Nat.le_of_ble_eq_true rfl) (fun _ => rfl) (fun _ => rfl) (rz2 _ _ _ _ _) ?_
  refine ev_iload_n 1 dX4_setCut_5 rfl rfl ?_
  refine ev_cS1 (c4_isKind0 _ h) kX4_isKind rfl g1162 rfl rfl dX4_setCut_6 ?_
  refine ev_if_eq 27 dX4_setCut_9 (by decide) (fun h9 => ?_) (fun h9 => absurd (by decide) h9)
  refine ev_aload_n 0 dX4_setCut_27 rfl rfl ?_
  refine ev_iconst (nI 1) dX4_setCut_28 rfl ?_
  refine ev_cV1 (c4_throwing _ _ _ _ _) kX4_throwing rfl g1172 rfl rfl rfl rfl dX4_setCut_29 ?_
  exact ev_ireturn dX4_setCut_32 (Nat.le_of_ble_eq_true rfl) ⟨rfl, rfl⟩
set_option maxHeartbeats 1000000 in
theorem p4_setCut_2 (σ z : Nat → Int32) (Y : RY) (g : PW) {k : Nat} (hk : k < 6) {v : Int32} (h : inB v (nI 0) (nI 90) = false) : Ct mX4_setCut [.ref 0, .int (nI k), .int v] (rw9 σ z Y g) (d1 (some (.int (nI 0))) (rw9 σ (upd (upd z 2 (nI 0)) 2 (nI 2)) Y g)) nx := by
  refine ct_of 2 kX4_setCut.1 rfl (Nat.le_of_ble_eq_true rfl) (fun v u h => by obtain ⟨rfl, rfl⟩ := h; exact rfl) ?_
  show Ev _ _ _ 0 0 [(0, .ref 0), (1, .int (nI k)), (2, .int v)] [] _
  refine ev_aload_n 0 dX4_setCut_0 rfl rfl ?_
  refine ev_iconst (nI 0) dX4_setCut_1 rfl ?_
  refine ev_putfield 8 dX4_setCut_2 fpX4_29 rfl (Nat.le_of_ble_eq_true rfl) (fun _ => rfl) (fun _ => rfl) (rz2 _ _ _ _ _) ?_
  refine ev_iload_n 1 dX4_setCut_5 rfl rfl ?_
  refine ev_cS1 (c4_isKind1 _ hk) kX4_isKind rfl g1162 rfl rfl dX4_setCut_6 ?_
  refine ev_if_eq 27 dX4_setCut_9 (by decide) (fun h9 => absurd h9 (by decide)) (fun h9 => ?_)
  refine ev_aload_n 0 dX4_setCut_12 rfl rfl ?_
  refine ev_bipush (nI 6) dX4_setCut_13 rfl ?_
  refine ev_iload_n 1 dX4_setCut_15 rfl rfl ?_
  refine ev_iadd dX4_setCut_16 ?_
  refine ev_top (nI (6 + k)) (nI_add 6 k) ?_
  refine ev_iload_n 2 dX4_setCut_17 rfl rfl ?_
  refine ev_iconst (nI 0) dX4_setCut_18 rfl ?_
  refine ev_bipush (nI 90) dX4_setCut_19 rfl ?_
  refine ev_cV4 (c4_sets_2 _ _ _ _ _ h) kX4_sets rfl g1168 rfl rfl rfl rfl dX4_setCut_21 ?_
  refine ev_goto 32 dX4_setCut_24 (by decide) ?_
  exact ev_ireturn dX4_setCut_32 (Nat.le_of_ble_eq_true rfl) ⟨rfl, rfl⟩
set_option maxHeartbeats 1000000 in
theorem p4_setCut_0 (σ z : Nat → Int32) (Y : RY) (g : PW) {k : Nat} (hk : k < 6) {v : Int32} (h : inB v (nI 0) (nI 90) = true) {n : Nat} (hn : n ≤ 6) (hz : z 0 = nI n) : Ct mX4_setCut [.ref 0, .int (nI k), .int v] (rw9 σ z Y g) (d1 (some (.int (lookN (upd σ (6 + k) v) 8 107 - σ 107))) (rw9 (lookN (upd σ (6 + k) v) 8) (svZ (upd z 2 (nI 0)) n) (svY σ Y n) g)) nx := by
  refine ct_of 2 kX4_setCut.1 rfl (Nat.le_of_ble_eq_true rfl) (fun v u h => by obtain ⟨rfl, rfl⟩ := h; exact rfl) ?_
  show Ev _ _ _ 0 0 [(0, .ref 0), (1, .int (nI k)), (2, .int v)] [] _
  refine ev_aload_n 0 dX4_setCut_0 rfl rfl ?_
  refine ev_iconst (nI 0) dX4_setCut_1 rfl ?_
  refine ev_putfield 8 dX4_setCut_2 fpX4_29 rfl (Nat.le_of_ble_eq_true rfl) (fun _ => rfl) (fun _ => rfl) (rz2 _ _ _ _ _) ?_
  refine ev_iload_n 1 dX4_setCut_5 rfl rfl ?_
  refine ev_cS1 (c4_isKind1 _ hk) kX4_isKind rfl g1162 rfl rfl dX4_setCut_6 ?_
  refine ev_if_eq 27 dX4_setCut_9 (by decide) (fun h9 => absurd h9 (by decide)) (fun h9 => ?_)
  refine ev_aload_n 0 dX4_setCut_12 rfl rfl ?_
  refine ev_bipush (nI 6) dX4_setCut_13 rfl ?_
  refine ev_iload_n 1 dX4_setCut_15 rfl rfl ?_
  refine ev_iadd dX4_setCut_16 ?_
  refine ev_top (nI (6 + k)) (nI_add 6 k) ?_
  refine ev_iload_n 2 dX4_setCut_17 rfl rfl ?_
  refine ev_iconst (nI 0) dX4_setCut_18 rfl ?_
  refine ev_bipush (nI 90) dX4_setCut_19 rfl ?_
  refine ev_cV4 (c4_sets_0 _ _ _ _ (by omega) h hn ((upd_n _ _ (by decide)).trans hz)) kX4_sets rfl g1168 rfl rfl rfl rfl dX4_setCut_21 ?_
  refine ev_goto 32 dX4_setCut_24 (by decide) ?_
  exact ev_ireturn dX4_setCut_32 (Nat.le_of_ble_eq_true rfl) ⟨rfl, rfl⟩
set_option maxHeartbeats 1000000 in
theorem c4_rules_1 (σ z : Nat → Int32) (Y : RY) (g : PW) (i : Int32) {v lo hi : Int32} (h : inB v lo hi = false) : Ct mX4_rules [.ref 0, .int i, .int v, .int lo, .int hi] (rw9 σ z Y g) (d1 (some (.int (nI 0))) (rw9 σ (upd (upd z 2 (nI 0)) 2 (nI 1)) Y g)) nx := by
  refine ct_of 4 kX4_rules.1 rfl (Nat.le_of_ble_eq_true rfl) (fun v u h => by obtain ⟨rfl, rfl⟩ := h; exact rfl) ?_
  show Ev _ _ _ 0 0 [(0, .ref 0), (1, .int i), (2, .int v), (3, .int lo), (4, .int hi)] [] _
  refine ev_aload_n 0 dX4_rules_0 rfl rfl ?_
  refine ev_iconst (nI 0) dX4_rules_1 rfl ?_
  refine ev_putfield 8 dX4_rules_2 fpX4_29 rfl (Nat.le_of_ble_eq_true rfl) (fun _ => rfl) (fun _ => rfl) (rz2 _ _ _ _ _) ?_
  refine ev_iload_n 2 dX4_rules_5 rfl rfl ?_
  refine ev_iload_n 3 dX4_rules_6 rfl rfl ?_
  refine ev_iload dX4_rules_7 rfl ?_
  refine ev_cS3 (c4_in0 _ h) kX4_in rfl g1165 rfl rfl dX4_rules_9 ?_
  refine ev_if_ne 21 dX4_rules_12 (by decide) (fun h12 => absurd (by decide) h12) (fun h12 => ?_)
  refine ev_aload_n 0 dX4_rules_15 rfl rfl ?_
  refine ev_iconst (nI 1) dX4_rules_16 rfl ?_
  refine ev_cV1 (c4_throwing _ _ _ _ _) kX4_throwing rfl g1172 rfl rfl rfl rfl dX4_rules_17 ?_
  exact ev_ireturn dX4_rules_20 (Nat.le_of_ble_eq_true rfl) ⟨rfl, rfl⟩
set_option maxHeartbeats 1000000 in
theorem c4_rules_0 (σ z : Nat → Int32) (Y : RY) (g : PW) {i : Nat} (hi : i < 109) {v lo hi : Int32} (h : inB v lo hi = true) {n : Nat} (hn : n ≤ 6) (hz : z 0 = nI n) : Ct mX4_rules [.ref 0, .int (nI i), .int v, .int lo, .int hi] (rw9 σ z Y g) (d1 (some (.int (σ i))) (rw9 (lookN (upd σ i v) 8) (svZ (upd z 2 (nI 0)) n) (svY σ Y n) g)) nx := by
  refine ct_of 4 kX4_rules.1 rfl (Nat.le_of_ble_eq_true rfl) (fun v u h => by obtain ⟨rfl, rfl⟩ := h; exact rfl) ?_
  show Ev _ _ _ 0 0 [(0, .ref 0), (1, .int (nI i)), (2, .int v), (3, .int lo), (4, .int hi)] [] _
  refine ev_aload_n 0 dX4_rules_0 rfl rfl ?_
  refine ev_iconst (nI 0) dX4_rules_1 rfl ?_
  refine ev_putfield 8 dX4_rules_2 fpX4_29 rfl (Nat.le_of_ble_eq_true rfl) (fun _ => rfl) (fun _ => rfl) (rz2 _ _ _ _ _) ?_
  refine ev_iload_n 2 dX4_rules_5 rfl rfl ?_
  refine ev_iload_n 3 dX4_rules_6 rfl rfl ?_
  refine ev_iload dX4_rules_7 rfl ?_
  refine ev_cS3 (c4_in1 _ h) kX4_in rfl g1165 rfl rfl dX4_rules_9 ?_
  refine ev_if_ne 21 dX4_rules_12 (by decide) (fun h12 => ?_) (fun h12 => absurd h12 (by decide))
  refine ev_aload_n 0 dX4_rules_21 rfl rfl ?_
  refine ev_cV0v (c4_save _ _ _ _ hn ((upd_n _ _ (by decide)).trans hz)) kX4_save rfl g1176 rfl rfl rfl rfl dX4_rules_22 ?_
  refine ev_aload_n 0 dX4_rules_25 rfl rfl ?_
  refine ev_getfield 0 dX4_rules_26 foX4_7 rfl rfl ?_
  refine ev_iload_n 1 dX4_rules_29 rfl rfl ?_
  refine ev_ild (i) dX4_rules_30 rfl (by simp only [nI_m, nI_add, ix, oI]) (by omega) rfl ?_
  refine ev_istore dX4_rules_31 (Nat.le_of_ble_eq_true rfl) rfl ?_
  refine ev_aload_n 0 dX4_rules_33 rfl rfl ?_
  refine ev_getfield 0 dX4_rules_34 foX4_7 rfl rfl ?_
  refine ev_iload_n 1 dX4_rules_37 rfl rfl ?_
  refine ev_iload_n 2 dX4_rules_38 rfl rfl ?_
  refine ev_ist (i) dX4_rules_39 rfl (by simp only [nI_m, nI_add, ix, oI]) (by omega) rfl (rw_s _ _ _ _ _) ?_
  refine ev_aload_n 0 dX4_rules_40 rfl rfl ?_
  refine ev_cV0v (c4_looks _ _ _ _) kX4_looks rfl g1180 rfl rfl rfl rfl dX4_rules_41 ?_
  refine ev_iload dX4_rules_44 rfl ?_
  exact ev_ireturn dX4_rules_46 (Nat.le_of_ble_eq_true rfl) ⟨rfl, rfl⟩
set_option maxHeartbeats 1000000 in
theorem p4_changeRate_1 (σ z : Nat → Int32) (Y : RY) (g : PW) {v : Int32} (h : inB v (nI 0) (nI 100) = false) : Ct mX4_changeRate [.ref 0, .int v] (rw9 σ z Y g) (d1 (some (.int (nI 0))) (rw9 σ (upd (upd z 2 (nI 0)) 2 (nI 1)) Y g)) nx := by
  refine ct_of 1 kX4_changeRate.1 rfl (Nat.le_of_ble_eq_true rfl) (fun v u h => by obtain ⟨rfl, rfl⟩ := h; exact rfl) ?_
  show Ev _ _ _ 0 0 [(0, .ref 0), (1, .int v)] [] _
  refine ev_aload_n 0 dX4_changeRate_0 rfl rfl ?_
  refine ev_bipush (nI 98) dX4_changeRate_1 rfl ?_
  refine ev_iload_n 1 dX4_changeRate_3 rfl rfl ?_
  refine ev_iconst (nI 0) dX4_changeRate_4 rfl ?_
  refine ev_bipush (nI 100) dX4_changeRate_5 rfl ?_
  refine ev_cV4 (c4_rules_1 _ _ _ _ _ h) kX4_rules rfl g1319 rfl rfl rfl rfl dX4_changeRate_7 ?_
  exact ev_ireturn dX4_changeRate_10 (Nat.le_of_ble_eq_true rfl) ⟨rfl, rfl⟩
set_option maxHeartbeats 1000000 in
theorem p4_changeRate_0 (σ z : Nat → Int32) (Y : RY) (g : PW) {v : Int32} (h : inB v (nI 0) (nI 100) = true) {n : Nat} (hn : n ≤ 6) (hz : z 0 = nI n) : Ct mX4_changeRate [.ref 0, .int v] (rw9 σ z Y g) (d1 (some (.int (σ 98))) (rw9 (lookN (upd σ 98 v) 8) (svZ (upd z 2 (nI 0)) n) (svY σ Y n) g)) nx := by
  refine ct_of 1 kX4_changeRate.1 rfl (Nat.le_of_ble_eq_true rfl) (fun v u h => by obtain ⟨rfl, rfl⟩ := h; exact rfl) ?_
  show Ev _ _ _ 0 0 [(0, .ref 0), (1, .int v)] [] _
  refine ev_aload_n 0 dX4_changeRate_0 rfl rfl ?_
  refine ev_bipush (nI 98) dX4_changeRate_1 rfl ?_
  refine ev_iload_n 1 dX4_changeRate_3 rfl rfl ?_
  refine ev_iconst (nI 0) dX4_changeRate_4 rfl ?_
  refine ev_bipush (nI 100) dX4_changeRate_5 rfl ?_
  refine ev_cV4 (c4_rules_0 _ _ _ _ (i := 98) (by omega) h hn hz) kX4_rules rfl g1319 rfl rfl rfl rfl dX4_changeRate_7 ?_
  exact ev_ireturn dX4_changeRate_10 (Nat.le_of_ble_eq_true rfl) ⟨rfl, rfl⟩
set_option maxHeartbeats 1000000 in
theorem p4_changeGrace_1 (σ z : Nat → Int32) (Y : RY) (g : PW) {v : Int32} (h : inB v (nI 1) (nI 24) = false) : Ct mX4_changeGrace [.ref 0, .int v] (rw9 σ z Y g) (d1 (some (.int (nI 0))) (rw9 σ (upd (upd z 2 (nI 0)) 2 (nI 1)) Y g)) nx := by
  refine ct_of 1 kX4_changeGrace.1 rfl (Nat.le_of_ble_eq_true rfl) (fun v u h => by obtain ⟨rfl, rfl⟩ := h; exact rfl) ?_
  show Ev _ _ _ 0 0 [(0, .ref 0), (1, .int v)] [] _
  refine ev_aload_n 0 dX4_changeGrace_0 rfl rfl ?_
  refine ev_bipush (nI 99) dX4_changeGrace_1 rfl ?_
  refine ev_iload_n 1 dX4_changeGrace_3 rfl rfl ?_
  refine ev_iconst (nI 1) dX4_changeGrace_4 rfl ?_
  refine ev_bipush (nI 24) dX4_changeGrace_5 rfl ?_
  refine ev_cV4 (c4_rules_1 _ _ _ _ _ h) kX4_rules rfl g1319 rfl rfl rfl rfl dX4_changeGrace_7 ?_
  exact ev_ireturn dX4_changeGrace_10 (Nat.le_of_ble_eq_true rfl) ⟨rfl, rfl⟩
set_option maxHeartbeats 1000000 in
theorem p4_changeGrace_0 (σ z : Nat → Int32) (Y : RY) (g : PW) {v : Int32} (h : inB v (nI 1) (nI 24) = true) {n : Nat} (hn : n ≤ 6) (hz : z 0 = nI n) : Ct mX4_changeGrace [.ref 0, .int v] (rw9 σ z Y g) (d1 (some (.int (σ 99))) (rw9 (lookN (upd σ 99 v) 8) (svZ (upd z 2 (nI 0)) n) (svY σ Y n) g)) nx := by
  refine ct_of 1 kX4_changeGrace.1 rfl (Nat.le_of_ble_eq_true rfl) (fun v u h => by obtain ⟨rfl, rfl⟩ := h; exact rfl) ?_
  show Ev _ _ _ 0 0 [(0, .ref 0), (1, .int v)] [] _
  refine ev_aload_n 0 dX4_changeGrace_0 rfl rfl ?_
  refine ev_bipush (nI 99) dX4_changeGrace_1 rfl ?_
  refine ev_iload_n 1 dX4_changeGrace_3 rfl rfl ?_
  refine ev_iconst (nI 1) dX4_changeGrace_4 rfl ?_
  refine ev_bipush (nI 24) dX4_changeGrace_5 rfl ?_
  refine ev_cV4 (c4_rules_0 _ _ _ _ (i := 99) (by omega) h hn hz) kX4_rules rfl g1319 rfl rfl rfl rfl dX4_changeGrace_7 ?_
  exact ev_ireturn dX4_changeGrace_10 (Nat.le_of_ble_eq_true rfl) ⟨rfl, rfl⟩
set_option maxHeartbeats 1000000 in
theorem p4_changeSlip_1 (σ z : Nat → Int32) (Y : RY) (g : PW) {v : Int32} (h : inB v (nI 0) (nI 50) = false) : Ct mX4_changeSlip [.ref 0, .int v] (rw9 σ z Y g) (d1 (some (.int (nI 0))) (rw9 σ (upd (upd z 2 (nI 0)) 2 (nI 1)) Y g)) nx := by
  refine ct_of 1 kX4_changeSlip.1 rfl (Nat.le_of_ble_eq_true rfl) (fun v u h => by obtain ⟨rfl, rfl⟩ := h; exact rfl) ?_
  show Ev _ _ _ 0 0 [(0, .ref 0), (1, .int v)] [] _
  refine ev_aload_n 0 dX4_changeSlip_0 rfl rfl ?_
  refine ev_bipush (nI 100) dX4_changeSlip_1 rfl ?_
  refine ev_iload_n 1 dX4_changeSlip_3 rfl rfl ?_
  refine ev_iconst (nI 0) dX4_changeSlip_4 rfl ?_
  refine ev_bipush (nI 50) dX4_changeSlip_5 rfl ?_
  refine ev_cV4 (c4_rules_1 _ _ _ _ _ h) kX4_rules rfl g1319 rfl rfl rfl rfl dX4_changeSlip_7 ?_
  exact ev_ireturn dX4_changeSlip_10 (Nat.le_of_ble_eq_true rfl) ⟨rfl, rfl⟩
set_option maxHeartbeats 1000000 in
theorem p4_changeSlip_0 (σ z : Nat → Int32) (Y : RY) (g : PW) {v : Int32} (h : inB v (nI 0) (nI 50) = true) {n : Nat} (hn : n ≤ 6) (hz : z 0 = nI n) : Ct mX4_changeSlip [.ref 0, .int v] (rw9 σ z Y g) (d1 (some (.int (σ 100))) (rw9 (lookN (upd σ 100 v) 8) (svZ (upd z 2 (nI 0)) n) (svY σ Y n) g)) nx := by
  refine ct_of 1 kX4_changeSlip.1 rfl (Nat.le_of_ble_eq_true rfl) (fun v u h => by obtain ⟨rfl, rfl⟩ := h; exact rfl) ?_
  show Ev _ _ _ 0 0 [(0, .ref 0), (1, .int v)] [] _
  refine ev_aload_n 0 dX4_changeSlip_0 rfl rfl ?_
  refine ev_bipush (nI 100) dX4_changeSlip_1 rfl ?_
  refine ev_iload_n 1 dX4_changeSlip_3 rfl rfl ?_
  refine ev_iconst (nI 0) dX4_changeSlip_4 rfl ?_
  refine ev_bipush (nI 50) dX4_changeSlip_5 rfl ?_
  refine ev_cV4 (c4_rules_0 _ _ _ _ (i := 100) (by omega) h hn hz) kX4_rules rfl g1319 rfl rfl rfl rfl dX4_changeSlip_7 ?_
  exact ev_ireturn dX4_changeSlip_10 (Nat.le_of_ble_eq_true rfl) ⟨rfl, rfl⟩
set_option maxHeartbeats 1000000 in
theorem p4_turnOrder (σ z : Nat → Int32) (Y : RY) (g : PW) {n : Nat} (hn : n ≤ 6) (hz : z 0 = nI n) : Ct mX4_turnOrder [.ref 0] (rw9 σ z Y g) (d1 (some (.int ((σ 101 + nI 1) - (σ 101 + nI 1) / nI 3 * nI 3))) (rw9 (upd σ 101 ((σ 101 + nI 1) - (σ 101 + nI 1) / nI 3 * nI 3)) (svZ (upd z 2 (nI 0)) n) (svY σ Y n) g)) nx := by
  refine ct_of 0 kX4_turnOrder.1 rfl (Nat.le_of_ble_eq_true rfl) (fun v u h => by obtain ⟨rfl, rfl⟩ := h; exact rfl) ?_
  show Ev _ _ _ 0 0 [(0, .ref 0)] [] _
  refine ev_aload_n 0 dX4_turnOrder_0 rfl rfl ?_
  refine ev_iconst (nI 0) dX4_turnOrder_1 rfl ?_
  refine ev_putfield 8 dX4_turnOrder_2 fpX4_29 rfl (Nat.le_of_ble_eq_true rfl) (fun _ => rfl) (fun _ => rfl) (rz2 _ _ _ _ _) ?_
  refine ev_aload_n 0 dX4_turnOrder_5 rfl rfl ?_
  refine ev_cV0v (c4_save _ _ _ _ hn ((upd_n _ _ (by decide)).trans hz)) kX4_save rfl g1176 rfl rfl rfl rfl dX4_turnOrder_6 ?_
  refine ev_aload_n 0 dX4_turnOrder_9 rfl rfl ?_
  refine ev_getfield 0 dX4_turnOrder_10 foX4_7 rfl rfl ?_
  refine ev_bipush (nI 101) dX4_turnOrder_13 rfl ?_
  refine ev_aload_n 0 dX4_turnOrder_15 rfl rfl ?_
  refine ev_getfield 0 dX4_turnOrder_16 foX4_7 rfl rfl ?_
  refine ev_bipush (nI 101) dX4_turnOrder_19 rfl ?_
  refine ev_ild (101) dX4_turnOrder_21 rfl (by simp only [nI_m, nI_add, ix, oI]) (by omega) rfl ?_
  refine ev_iconst (nI 1) dX4_turnOrder_22 rfl ?_
  refine ev_iadd dX4_turnOrder_23 ?_
  refine ev_iconst (nI 3) dX4_turnOrder_24 rfl ?_
  refine ev_irem dX4_turnOrder_25 (by decide) ?_
  refine ev_ist (101) dX4_turnOrder_26 rfl (by simp only [nI_m, nI_add, ix, oI]) (by omega) rfl (rw_s _ _ _ _ _) ?_
  refine ev_aload_n 0 dX4_turnOrder_27 rfl rfl ?_
  refine ev_getfield 0 dX4_turnOrder_28 foX4_7 rfl rfl ?_
  refine ev_bipush (nI 101) dX4_turnOrder_31 rfl ?_
  refine ev_ild (101) dX4_turnOrder_33 rfl (by simp only [nI_m, nI_add, ix, oI]) (by omega) rfl ?_
  exact ev_ireturn dX4_turnOrder_34 (Nat.le_of_ble_eq_true rfl) ⟨by rw [upd_s], rfl⟩
set_option maxHeartbeats 1000000 in
theorem p4_append_1 (σ z : Nat → Int32) (Y : RY) (g : PW) {v : Int32} (h : inB v (nI 33) (nI 126) = false) : Ct mX4_append [.ref 0, .int v] (rw9 σ z Y g) (d1 (some (.int (nI 0))) (rw9 σ (upd (upd z 2 (nI 0)) 2 (nI 1)) Y g)) nx := by
  refine ct_of 1 kX4_append.1 rfl (Nat.le_of_ble_eq_true rfl) (fun v u h => by obtain ⟨rfl, rfl⟩ := h; exact rfl) ?_
  show Ev _ _ _ 0 0 [(0, .ref 0), (1, .int v)] [] _
  refine ev_aload_n 0 dX4_append_0 rfl rfl ?_
  refine ev_iconst (nI 0) dX4_append_1 rfl ?_
  refine ev_putfield 8 dX4_append_2 fpX4_29 rfl (Nat.le_of_ble_eq_true rfl) (fun _ => rfl) (fun _ => rfl) (rz2 _ _ _ _ _) ?_
  refine ev_iload_n 1 dX4_append_5 rfl rfl ?_
  refine ev_bipush (nI 33) dX4_append_6 rfl ?_
  refine ev_bipush (nI 126) dX4_append_8 rfl ?_
  refine ev_cS3 (c4_in0 _ h) kX4_in rfl g1165 rfl rfl dX4_append_10 ?_
  refine ev_if_ne 22 dX4_append_13 (by decide) (fun h13 => absurd (by decide) h13) (fun h13 => ?_)
  refine ev_aload_n 0 dX4_append_16 rfl rfl ?_
  refine ev_iconst (nI 1) dX4_append_17 rfl ?_
  refine ev_cV1 (c4_throwing _ _ _ _ _) kX4_throwing rfl g1172 rfl rfl rfl rfl dX4_append_18 ?_
  exact ev_ireturn dX4_append_21 (Nat.le_of_ble_eq_true rfl) ⟨rfl, rfl⟩
set_option maxHeartbeats 1000000 in
theorem p4_append_2 (σ z : Nat → Int32) (Y : RY) (g : PW) {v : Int32} (h : inB v (nI 33) (nI 126) = true) (hl : z 1 = nI 60) : Ct mX4_append [.ref 0, .int v] (rw9 σ z Y g) (d1 (some (.int (nI 0))) (rw9 σ (upd (upd z 2 (nI 0)) 2 (nI 2)) Y g)) nx := by
  refine ct_of 1 kX4_append.1 rfl (Nat.le_of_ble_eq_true rfl) (fun v u h => by obtain ⟨rfl, rfl⟩ := h; exact rfl) ?_
  show Ev _ _ _ 0 0 [(0, .ref 0), (1, .int v)] [] _
  refine ev_aload_n 0 dX4_append_0 rfl rfl ?_
  refine ev_iconst (nI 0) dX4_append_1 rfl ?_
  refine ev_putfield 8 dX4_append_2 fpX4_29 rfl (Nat.le_of_ble_eq_true rfl) (fun _ => rfl) (fun _ => rfl) (rz2 _ _ _ _ _) ?_
  refine ev_iload_n 1 dX4_append_5 rfl rfl ?_
  refine ev_bipush (nI 33) dX4_append_6 rfl ?_
  refine ev_bipush (nI 126) dX4_append_8 rfl ?_
  refine ev_cS3 (c4_in1 _ h) kX4_in rfl g1165 rfl rfl dX4_append_10 ?_
  refine ev_if_ne 22 dX4_append_13 (by decide) (fun h13 => ?_) (fun h13 => absurd h13 (by decide))
  refine ev_aload_n 0 dX4_append_22 rfl rfl ?_
  refine ev_getfield 7 dX4_append_23 foX4_137 rfl rfl ?_
  refine ev_bipush (nI 60) dX4_append_26 rfl ?_
  refine ev_icmp_ne 37 dX4_append_28 (by decide) (fun h28 => absurd ((upd_n _ _ (by decide)).trans hl) h28) (fun h28 => ?_)
  refine ev_aload_n 0 dX4_append_31 rfl rfl ?_
  refine ev_iconst (nI 2) dX4_append_32 rfl ?_
  refine ev_cV1 (c4_throwing _ _ _ _ _) kX4_throwing rfl g1172 rfl rfl rfl rfl dX4_append_33 ?_
  exact ev_ireturn dX4_append_36 (Nat.le_of_ble_eq_true rfl) ⟨rfl, rfl⟩
set_option maxHeartbeats 1000000 in
theorem p4_append_0 (σ z : Nat → Int32) (Y : RY) (g : PW) {v : Int32} (h : inB v (nI 33) (nI 126) = true) {q : Nat} (hq : q < 60) (hl : z 1 = nI q) : Ct mX4_append [.ref 0, .int v] (rw9 σ z Y g) (d1 (some (.int (nI (q + 1)))) (rw9 σ (upd (upd z 2 (nI 0)) 1 (nI (q + 1))) (Y.1, Y.2.1, Y.2.2.1, Y.2.2.2.1, upd Y.2.2.2.2.1 q v, Y.2.2.2.2.2) g)) nx := by
  refine ct_of 1 kX4_append.1 rfl (Nat.le_of_ble_eq_true rfl) (fun v u h => by obtain ⟨rfl, rfl⟩ := h; exact rfl) ?_
  show Ev _ _ _ 0 0 [(0, .ref 0), (1, .int v)] [] _
  refine ev_aload_n 0 dX4_append_0 rfl rfl ?_
  refine ev_iconst (nI 0) dX4_append_1 rfl ?_
  refine ev_putfield 8 dX4_append_2 fpX4_29 rfl (Nat.le_of_ble_eq_true rfl) (fun _ => rfl) (fun _ => rfl) (rz2 _ _ _ _ _) ?_
  refine ev_iload_n 1 dX4_append_5 rfl rfl ?_
  refine ev_bipush (nI 33) dX4_append_6 rfl ?_
  refine ev_bipush (nI 126) dX4_append_8 rfl ?_
  refine ev_cS3 (c4_in1 _ h) kX4_in rfl g1165 rfl rfl dX4_append_10 ?_
  refine ev_if_ne 22 dX4_append_13 (by decide) (fun h13 => ?_) (fun h13 => absurd h13 (by decide))
  refine ev_aload_n 0 dX4_append_22 rfl rfl ?_
  refine ev_getfield 7 dX4_append_23 foX4_137 rfl rfl ?_
  refine ev_bipush (nI 60) dX4_append_26 rfl ?_
  refine ev_icmp_ne 37 dX4_append_28 (by decide) (fun h28 => ?_) (fun h28 => absurd h28 (by show ¬ upd z 2 (nI 0) 1 = nI 60; rw [upd_n _ _ (by decide), hl]; exact fun e => by have := (nI_eq (by omega) (by omega)).mp e; omega))
  refine ev_aload_n 0 dX4_append_37 rfl rfl ?_
  refine ev_getfield 6 dX4_append_38 foX4_26 rfl rfl ?_
  refine ev_aload_n 0 dX4_append_41 rfl rfl ?_
  refine ev_getfield 7 dX4_append_42 foX4_137 rfl rfl ?_
  refine ev_top (nI q) ((upd_n _ _ (by decide)).trans hl) ?_
  refine ev_iload_n 1 dX4_append_45 rfl rfl ?_
  refine ev_ist (q) dX4_append_46 rfl (by simp only [nI_m, nI_add, ix, oI]) (by omega) rfl (rw_b _ _ _ _ _) ?_
  refine ev_aload_n 0 dX4_append_47 rfl rfl ?_
  refine ev_dup dX4_append_48 rfl ?_
  refine ev_getfield 7 dX4_append_49 foX4_137 rfl rfl ?_
  refine ev_iconst (nI 1) dX4_append_52 rfl ?_
  refine ev_iadd dX4_append_53 ?_
  refine ev_top (nI (q + 1)) (by show upd z 2 (nI 0) 1 + nI 1 = _; rw [upd_n _ _ (by decide), hl]; exact nI_add q 1) ?_
  refine ev_putfield 7 dX4_append_54 fpX4_137 rfl (Nat.le_of_ble_eq_true rfl) (fun _ => rfl) (fun _ => rfl) (rz1 _ _ _ _ _) ?_
  refine ev_aload_n 0 dX4_append_57 rfl rfl ?_
  refine ev_getfield 7 dX4_append_58 foX4_137 rfl rfl ?_
  exact ev_ireturn dX4_append_61 (Nat.le_of_ble_eq_true rfl) ⟨by rw [upd_s], rfl⟩
set_option maxHeartbeats 1000000 in
theorem p4_clearBuffer (σ z : Nat → Int32) (Y : RY) (g : PW)  : Ct mX4_clearBuffer [.ref 0] (rw9 σ z Y g) (d1 (some (.int (z 1))) (rw9 σ (upd (upd z 2 (nI 0)) 1 (nI 0)) Y g)) nx := by
  refine ct_of 0 kX4_clearBuffer.1 rfl (Nat.le_of_ble_eq_true rfl) (fun v u h => by obtain ⟨rfl, rfl⟩ := h; exact rfl) ?_
  show Ev _ _ _ 0 0 [(0, .ref 0)] [] _
  refine ev_aload_n 0 dX4_clearBuffer_0 rfl rfl ?_
  refine ev_iconst (nI 0) dX4_clearBuffer_1 rfl ?_
  refine ev_putfield 8 dX4_clearBuffer_2 fpX4_29 rfl (Nat.le_of_ble_eq_true rfl) (fun _ => rfl) (fun _ => rfl) (rz2 _ _ _ _ _) ?_
  refine ev_aload_n 0 dX4_clearBuffer_5 rfl rfl ?_
  refine ev_getfield 7 dX4_clearBuffer_6 foX4_137 rfl rfl ?_
  refine ev_istore_n 1 dX4_clearBuffer_9 rfl (Nat.le_of_ble_eq_true rfl) rfl ?_
  refine ev_aload_n 0 dX4_clearBuffer_10 rfl rfl ?_
  refine ev_iconst (nI 0) dX4_clearBuffer_11 rfl ?_
  refine ev_putfield 7 dX4_clearBuffer_12 fpX4_137 rfl (Nat.le_of_ble_eq_true rfl) (fun _ => rfl) (fun _ => rfl) (rz1 _ _ _ _ _) ?_
  refine ev_iload_n 1 dX4_clearBuffer_15 rfl rfl ?_
  exact ev_ireturn dX4_clearBuffer_16 (Nat.le_of_ble_eq_true rfl) ⟨rfl, rfl⟩
set_option maxHeartbeats 1000000 in
theorem p4_savedStates (σ z : Nat → Int32) (Y : RY) (g : PW)  : Ct mX4_savedStates [.ref 0] (rw9 σ z Y g) (d1 (some (.int (z 0))) (rw9 σ (upd z 2 (nI 0)) Y g)) nx := by
  refine ct_of 0 kX4_savedStates.1 rfl (Nat.le_of_ble_eq_true rfl) (fun v u h => by obtain ⟨rfl, rfl⟩ := h; exact rfl) ?_
  show Ev _ _ _ 0 0 [(0, .ref 0)] [] _
  refine ev_aload_n 0 dX4_savedStates_0 rfl rfl ?_
  refine ev_iconst (nI 0) dX4_savedStates_1 rfl ?_
  refine ev_putfield 8 dX4_savedStates_2 fpX4_29 rfl (Nat.le_of_ble_eq_true rfl) (fun _ => rfl) (fun _ => rfl) (rz2 _ _ _ _ _) ?_
  refine ev_aload_n 0 dX4_savedStates_5 rfl rfl ?_
  refine ev_getfield 2 dX4_savedStates_6 foX4_37 rfl rfl ?_
  exact ev_ireturn dX4_savedStates_9 (Nat.le_of_ble_eq_true rfl) ⟨rfl, rfl⟩
