/-! ===== the reference: orders are followed ===== -/
/-- an order is followed: letter l, one c, kind k, number m -/
def fol4 (l c k m : Nat) (σ : Nat → Int32) : Bool × (Nat → Int32) :=
  if l = 112 then (true, lookN (upd σ c (nI m)) 8)
  else if l = 99 then (true, lookN (upd σ (6 + c) (nI m)) 8)
  else if l = 43 then (if canP σ c k (nI m) = true then (true, lookN (upd σ (ix c k) (σ (ix c k) + nI m)) 8) else (false, σ))
  else if l = 45 then (if canL σ c k (nI m) = true then (true, lookN (upd σ (ix c k) (σ (ix c k) + -nI m)) 8) else (false, σ))
  else if l = 108 then (if canB σ c (nI m) = true then (true, lookN (lendS σ c (nI m)) 8) else (false, σ))
  else if l = 98 then (if 0 < σ (ix c 7) then (true, lookN (backS σ c (nI m)) 8) else (false, σ))
  else (true, lookN (pasN σ m).1 8)
def F4OK (l c k m : Nat) (σ : Nat → Int32) : Prop :=
  (l = 112 ∨ l = 99 ∨ l = 43 ∨ l = 45 ∨ l = 108 ∨ l = 98 ∨ l = 104) ∧ c < 8 ∧ (l = 112 ∨ l = 99 → c < 6) ∧ k < 6 ∧ (l = 104 → m ≤ 100 ∧ NP σ)
theorem fol4_112 (c k m : Nat) (σ : Nat → Int32) : fol4 112 c k m σ = (true, lookN (upd σ c (nI m)) 8) := by unfold fol4; rw [if_pos rfl]
theorem fol4_99 (c k m : Nat) (σ : Nat → Int32) : fol4 99 c k m σ = (true, lookN (upd σ (6 + c) (nI m)) 8) := by unfold fol4; rw [if_neg (by decide), if_pos rfl]
theorem fol4_43 (c k m : Nat) (σ : Nat → Int32) : fol4 43 c k m σ = (if canP σ c k (nI m) = true then (true, lookN (upd σ (ix c k) (σ (ix c k) + nI m)) 8) else (false, σ)) := by unfold fol4; rw [if_neg (by decide), if_neg (by decide), if_pos rfl]
theorem fol4_45 (c k m : Nat) (σ : Nat → Int32) : fol4 45 c k m σ = (if canL σ c k (nI m) = true then (true, lookN (upd σ (ix c k) (σ (ix c k) + -nI m)) 8) else (false, σ)) := by unfold fol4; rw [if_neg (by decide), if_neg (by decide), if_neg (by decide), if_pos rfl]
theorem fol4_108 (c k m : Nat) (σ : Nat → Int32) : fol4 108 c k m σ = (if canB σ c (nI m) = true then (true, lookN (lendS σ c (nI m)) 8) else (false, σ)) := by unfold fol4; rw [if_neg (by decide), if_neg (by decide), if_neg (by decide), if_neg (by decide), if_pos rfl]
theorem fol4_98 (c k m : Nat) (σ : Nat → Int32) : fol4 98 c k m σ = (if 0 < σ (ix c 7) then (true, lookN (backS σ c (nI m)) 8) else (false, σ)) := by unfold fol4; rw [if_neg (by decide), if_neg (by decide), if_neg (by decide), if_neg (by decide), if_neg (by decide), if_pos rfl]
theorem fol4_104 (c k m : Nat) (σ : Nat → Int32) : fol4 104 c k m σ = (true, lookN (pasN σ m).1 8) := by unfold fol4; rw [if_neg (by decide), if_neg (by decide), if_neg (by decide), if_neg (by decide), if_neg (by decide), if_neg (by decide)]
set_option maxHeartbeats 1000000 in
theorem c4_fol_112 (σ z : Nat → Int32) (Y : RY) (g : PW) {c k m : Nat} (hc : c < 6)  : Ct mX4_isFollowed [.ref 0, .int (nI 112), .int (nI c), .int (nI k), .int (nI m)] (rw9 σ z Y g) (d1 (some (.int (bI true))) (rw9 (lookN (upd σ c (nI m)) 8) z Y g)) nx := by
  refine ct_of 4 kX4_isFollowed.1 rfl (Nat.le_of_ble_eq_true rfl) (fun v u h => by obtain ⟨rfl, rfl⟩ := h; exact bI_nar _) ?_
  show Ev _ _ _ 0 0 [(0, .ref 0), (1, .int (nI 112)), (2, .int (nI c)), (3, .int (nI k)), (4, .int (nI m))] [] _
  refine ev_iload_n 1 dX4_isFollowed_0 rfl rfl ?_
  refine ev_bipush (nI 43) dX4_isFollowed_1 rfl ?_
  refine ev_icmp_ne 17 dX4_isFollowed_3 (by decide) (fun h3 => ?_) (fun h3 => absurd h3 (by decide))
  refine ev_iload_n 1 dX4_isFollowed_17 rfl rfl ?_
  refine ev_bipush (nI 45) dX4_isFollowed_18 rfl ?_
  refine ev_icmp_ne 34 dX4_isFollowed_20 (by decide) (fun h20 => ?_) (fun h20 => absurd h20 (by decide))
  refine ev_iload_n 1 dX4_isFollowed_34 rfl rfl ?_
  refine ev_bipush (nI 108) dX4_isFollowed_35 rfl ?_
  refine ev_icmp_ne 50 dX4_isFollowed_37 (by decide) (fun h37 => ?_) (fun h37 => absurd h37 (by decide))
  refine ev_iload_n 1 dX4_isFollowed_50 rfl rfl ?_
  refine ev_bipush (nI 98) dX4_isFollowed_51 rfl ?_
  refine ev_icmp_ne 66 dX4_isFollowed_53 (by decide) (fun h53 => ?_) (fun h53 => absurd h53 (by decide))
  refine ev_iconst (nI 1) dX4_isFollowed_66 rfl ?_
  refine ev_goto 71 dX4_isFollowed_67 (by decide) ?_
  refine ev_istore dX4_isFollowed_71 (Nat.le_of_ble_eq_true rfl) rfl ?_
  refine ev_iload dX4_isFollowed_73 rfl ?_
  refine ev_if_eq 193 dX4_isFollowed_75 (by decide) (fun h75 => absurd h75 (by decide)) (fun h75 => ?_)
  refine ev_iload_n 1 dX4_isFollowed_78 rfl rfl ?_
  refine ev_bipush (nI 112) dX4_isFollowed_79 rfl ?_
  refine ev_icmp_eq 90 dX4_isFollowed_81 (by decide) (fun h81 => ?_) (fun h81 => absurd (by decide) h81)
  refine ev_aload_n 0 dX4_isFollowed_90 rfl rfl ?_
  refine ev_getfield 0 dX4_isFollowed_91 foX4_7 rfl rfl ?_
  refine ev_iload_n 1 dX4_isFollowed_94 rfl rfl ?_
  refine ev_bipush (nI 112) dX4_isFollowed_95 rfl ?_
  refine ev_icmp_ne 104 dX4_isFollowed_97 (by decide) (fun h97 => absurd (by decide) h97) (fun h97 => ?_)
  refine ev_iload_n 2 dX4_isFollowed_100 rfl rfl ?_
  refine ev_goto 108 dX4_isFollowed_101 (by decide) ?_
  refine ev_iload dX4_isFollowed_108 rfl ?_
  refine ev_ist (c) dX4_isFollowed_110 rfl (by simp only [nI_m, nI_add, ix, oI]) (by omega) rfl (rw_s _ _ _ _ _) ?_
  refine ev_goto 189 dX4_isFollowed_111 (by decide) ?_
  refine ev_aload_n 0 dX4_isFollowed_189 rfl rfl ?_
  refine ev_cV0v (c4_looks _ _ _ _) kX4_looks rfl g1180 rfl rfl rfl rfl dX4_isFollowed_190 ?_
  refine ev_iload dX4_isFollowed_193 rfl ?_
  exact ev_ireturn dX4_isFollowed_195 (Nat.le_of_ble_eq_true rfl) ⟨rfl, rfl⟩
set_option maxHeartbeats 1000000 in
theorem c4_fol_99 (σ z : Nat → Int32) (Y : RY) (g : PW) {c k m : Nat} (hc : c < 6)  : Ct mX4_isFollowed [.ref 0, .int (nI 99), .int (nI c), .int (nI k), .int (nI m)] (rw9 σ z Y g) (d1 (some (.int (bI true))) (rw9 (lookN (upd σ (6 + c) (nI m)) 8) z Y g)) nx := by
  refine ct_of 4 kX4_isFollowed.1 rfl (Nat.le_of_ble_eq_true rfl) (fun v u h => by obtain ⟨rfl, rfl⟩ := h; exact bI_nar _) ?_
  show Ev _ _ _ 0 0 [(0, .ref 0), (1, .int (nI 99)), (2, .int (nI c)), (3, .int (nI k)), (4, .int (nI m))] [] _
  refine ev_iload_n 1 dX4_isFollowed_0 rfl rfl ?_
  refine ev_bipush (nI 43) dX4_isFollowed_1 rfl ?_
  refine ev_icmp_ne 17 dX4_isFollowed_3 (by decide) (fun h3 => ?_) (fun h3 => absurd h3 (by decide))
  refine ev_iload_n 1 dX4_isFollowed_17 rfl rfl ?_
  refine ev_bipush (nI 45) dX4_isFollowed_18 rfl ?_
  refine ev_icmp_ne 34 dX4_isFollowed_20 (by decide) (fun h20 => ?_) (fun h20 => absurd h20 (by decide))
  refine ev_iload_n 1 dX4_isFollowed_34 rfl rfl ?_
  refine ev_bipush (nI 108) dX4_isFollowed_35 rfl ?_
  refine ev_icmp_ne 50 dX4_isFollowed_37 (by decide) (fun h37 => ?_) (fun h37 => absurd h37 (by decide))
  refine ev_iload_n 1 dX4_isFollowed_50 rfl rfl ?_
  refine ev_bipush (nI 98) dX4_isFollowed_51 rfl ?_
  refine ev_icmp_ne 66 dX4_isFollowed_53 (by decide) (fun h53 => ?_) (fun h53 => absurd h53 (by decide))
  refine ev_iconst (nI 1) dX4_isFollowed_66 rfl ?_
  refine ev_goto 71 dX4_isFollowed_67 (by decide) ?_
  refine ev_istore dX4_isFollowed_71 (Nat.le_of_ble_eq_true rfl) rfl ?_
  refine ev_iload dX4_isFollowed_73 rfl ?_
  refine ev_if_eq 193 dX4_isFollowed_75 (by decide) (fun h75 => absurd h75 (by decide)) (fun h75 => ?_)
  refine ev_iload_n 1 dX4_isFollowed_78 rfl rfl ?_
  refine ev_bipush (nI 112) dX4_isFollowed_79 rfl ?_
  refine ev_icmp_eq 90 dX4_isFollowed_81 (by decide) (fun h81 => absurd h81 (by decide)) (fun h81 => ?_)
  refine ev_iload_n 1 dX4_isFollowed_84 rfl rfl ?_
  refine ev_bipush (nI 99) dX4_isFollowed_85 rfl ?_
  refine ev_icmp_ne 114 dX4_isFollowed_87 (by decide) (fun h87 => absurd (by decide) h87) (fun h87 => ?_)
  refine ev_aload_n 0 dX4_isFollowed_90 rfl rfl ?_
  refine ev_getfield 0 dX4_isFollowed_91 foX4_7 rfl rfl ?_
  refine ev_iload_n 1 dX4_isFollowed_94 rfl rfl ?_
  refine ev_bipush (nI 112) dX4_isFollowed_95 rfl ?_
  refine ev_icmp_ne 104 dX4_isFollowed_97 (by decide) (fun h97 => ?_) (fun h97 => absurd h97 (by decide))
  refine ev_bipush (nI 6) dX4_isFollowed_104 rfl ?_
  refine ev_iload_n 2 dX4_isFollowed_106 rfl rfl ?_
  refine ev_iadd dX4_isFollowed_107 ?_
  refine ev_top (nI (6 + c)) (nI_add 6 c) ?_
  refine ev_iload dX4_isFollowed_108 rfl ?_
  refine ev_ist (6 + c) dX4_isFollowed_110 rfl (by simp only [nI_m, nI_add, ix, oI]) (by omega) rfl (rw_s _ _ _ _ _) ?_
  refine ev_goto 189 dX4_isFollowed_111 (by decide) ?_
  refine ev_aload_n 0 dX4_isFollowed_189 rfl rfl ?_
  refine ev_cV0v (c4_looks _ _ _ _) kX4_looks rfl g1180 rfl rfl rfl rfl dX4_isFollowed_190 ?_
  refine ev_iload dX4_isFollowed_193 rfl ?_
  exact ev_ireturn dX4_isFollowed_195 (Nat.le_of_ble_eq_true rfl) ⟨rfl, rfl⟩
set_option maxHeartbeats 1000000 in
theorem c4_fol_43t (σ z : Nat → Int32) (Y : RY) (g : PW) {c k m : Nat} (hc : c < 8) (hk : k < 6) (h : canP σ c k (nI m) = true) : Ct mX4_isFollowed [.ref 0, .int (nI 43), .int (nI c), .int (nI k), .int (nI m)] (rw9 σ z Y g) (d1 (some (.int (bI true))) (rw9 (lookN (upd σ (ix c k) (σ (ix c k) + nI m)) 8) z Y g)) nx := by
  refine ct_of 4 kX4_isFollowed.1 rfl (Nat.le_of_ble_eq_true rfl) (fun v u h => by obtain ⟨rfl, rfl⟩ := h; exact bI_nar _) ?_
  show Ev _ _ _ 0 0 [(0, .ref 0), (1, .int (nI 43)), (2, .int (nI c)), (3, .int (nI k)), (4, .int (nI m))] [] _
  refine ev_iload_n 1 dX4_isFollowed_0 rfl rfl ?_
  refine ev_bipush (nI 43) dX4_isFollowed_1 rfl ?_
  refine ev_icmp_ne 17 dX4_isFollowed_3 (by decide) (fun h3 => absurd (by decide) h3) (fun h3 => ?_)
  refine ev_aload_n 0 dX4_isFollowed_6 rfl rfl ?_
  refine ev_iload_n 2 dX4_isFollowed_7 rfl rfl ?_
  refine ev_iload_n 3 dX4_isFollowed_8 rfl rfl ?_
  refine ev_iload dX4_isFollowed_9 rfl ?_
  refine ev_cV3 (c4_canPledge _ _ _ _ hc (by omega) _) kX4_canPledge rfl g1231 rfl rfl rfl rfl dX4_isFollowed_11 ?_
  refine ev_goto 71 dX4_isFollowed_14 (by decide) ?_
  refine ev_istore dX4_isFollowed_71 (Nat.le_of_ble_eq_true rfl) rfl ?_
  refine ev_iload dX4_isFollowed_73 rfl ?_
  refine ev_if_eq 193 dX4_isFollowed_75 (by decide) (fun h75 => absurd h75 (by rw [h]; decide)) (fun h75 => ?_)
  refine ev_iload_n 1 dX4_isFollowed_78 rfl rfl ?_
  refine ev_bipush (nI 112) dX4_isFollowed_79 rfl ?_
  refine ev_icmp_eq 90 dX4_isFollowed_81 (by decide) (fun h81 => absurd h81 (by decide)) (fun h81 => ?_)
  refine ev_iload_n 1 dX4_isFollowed_84 rfl rfl ?_
  refine ev_bipush (nI 99) dX4_isFollowed_85 rfl ?_
  refine ev_icmp_ne 114 dX4_isFollowed_87 (by decide) (fun h87 => ?_) (fun h87 => absurd h87 (by decide))
  refine ev_iload_n 1 dX4_isFollowed_114 rfl rfl ?_
  refine ev_bipush (nI 43) dX4_isFollowed_115 rfl ?_
  refine ev_icmp_eq 126 dX4_isFollowed_117 (by decide) (fun h117 => ?_) (fun h117 => absurd (by decide) h117)
  refine ev_aload_n 0 dX4_isFollowed_126 rfl rfl ?_
  refine ev_iload_n 2 dX4_isFollowed_127 rfl rfl ?_
  refine ev_iload_n 3 dX4_isFollowed_128 rfl rfl ?_
  refine ev_iload_n 1 dX4_isFollowed_129 rfl rfl ?_
  refine ev_bipush (nI 43) dX4_isFollowed_130 rfl ?_
  refine ev_icmp_ne 140 dX4_isFollowed_132 (by decide) (fun h132 => absurd (by decide) h132) (fun h132 => ?_)
  refine ev_iload dX4_isFollowed_135 rfl ?_
  refine ev_goto 143 dX4_isFollowed_137 (by decide) ?_
  refine ev_cV3v (c4_grow _ _ _ _ hc (by omega) _) kX4_grow rfl g1235 rfl rfl rfl rfl dX4_isFollowed_143 ?_
  refine ev_goto 189 dX4_isFollowed_146 (by decide) ?_
  refine ev_aload_n 0 dX4_isFollowed_189 rfl rfl ?_
  refine ev_cV0v (c4_looks _ _ _ _) kX4_looks rfl g1180 rfl rfl rfl rfl dX4_isFollowed_190 ?_
  refine ev_iload dX4_isFollowed_193 rfl ?_
  exact ev_ireturn dX4_isFollowed_195 (Nat.le_of_ble_eq_true rfl) ⟨by rw [h], rfl⟩
set_option maxHeartbeats 1000000 in
theorem c4_fol_43f (σ z : Nat → Int32) (Y : RY) (g : PW) {c k m : Nat} (hc : c < 8) (hk : k < 6) (h : canP σ c k (nI m) = false) : Ct mX4_isFollowed [.ref 0, .int (nI 43), .int (nI c), .int (nI k), .int (nI m)] (rw9 σ z Y g) (d1 (some (.int (bI false))) (rw9 (σ) z Y g)) nx := by
  refine ct_of 4 kX4_isFollowed.1 rfl (Nat.le_of_ble_eq_true rfl) (fun v u h => by obtain ⟨rfl, rfl⟩ := h; exact bI_nar _) ?_
  show Ev _ _ _ 0 0 [(0, .ref 0), (1, .int (nI 43)), (2, .int (nI c)), (3, .int (nI k)), (4, .int (nI m))] [] _
  refine ev_iload_n 1 dX4_isFollowed_0 rfl rfl ?_
  refine ev_bipush (nI 43) dX4_isFollowed_1 rfl ?_
  refine ev_icmp_ne 17 dX4_isFollowed_3 (by decide) (fun h3 => absurd (by decide) h3) (fun h3 => ?_)
  refine ev_aload_n 0 dX4_isFollowed_6 rfl rfl ?_
  refine ev_iload_n 2 dX4_isFollowed_7 rfl rfl ?_
  refine ev_iload_n 3 dX4_isFollowed_8 rfl rfl ?_
  refine ev_iload dX4_isFollowed_9 rfl ?_
  refine ev_cV3 (c4_canPledge _ _ _ _ hc (by omega) _) kX4_canPledge rfl g1231 rfl rfl rfl rfl dX4_isFollowed_11 ?_
  refine ev_goto 71 dX4_isFollowed_14 (by decide) ?_
  refine ev_istore dX4_isFollowed_71 (Nat.le_of_ble_eq_true rfl) rfl ?_
  refine ev_iload dX4_isFollowed_73 rfl ?_
  refine ev_if_eq 193 dX4_isFollowed_75 (by decide) (fun h75 => ?_) (fun h75 => absurd (by rw [h]; rfl) h75)
  refine ev_iload dX4_isFollowed_193 rfl ?_
  exact ev_ireturn dX4_isFollowed_195 (Nat.le_of_ble_eq_true rfl) ⟨by rw [h], rfl⟩
set_option maxHeartbeats 1000000 in
theorem c4_fol_45t (σ z : Nat → Int32) (Y : RY) (g : PW) {c k m : Nat} (hc : c < 8) (hk : k < 6) (h : canL σ c k (nI m) = true) : Ct mX4_isFollowed [.ref 0, .int (nI 45), .int (nI c), .int (nI k), .int (nI m)] (rw9 σ z Y g) (d1 (some (.int (bI true))) (rw9 (lookN (upd σ (ix c k) (σ (ix c k) + -nI m)) 8) z Y g)) nx := by
  refine ct_of 4 kX4_isFollowed.1 rfl (Nat.le_of_ble_eq_true rfl) (fun v u h => by obtain ⟨rfl, rfl⟩ := h; exact bI_nar _) ?_
  show Ev _ _ _ 0 0 [(0, .ref 0), (1, .int (nI 45)), (2, .int (nI c)), (3, .int (nI k)), (4, .int (nI m))] [] _
  refine ev_iload_n 1 dX4_isFollowed_0 rfl rfl ?_
  refine ev_bipush (nI 43) dX4_isFollowed_1 rfl ?_
  refine ev_icmp_ne 17 dX4_isFollowed_3 (by decide) (fun h3 => ?_) (fun h3 => absurd h3 (by decide))
  refine ev_iload_n 1 dX4_isFollowed_17 rfl rfl ?_
  refine ev_bipush (nI 45) dX4_isFollowed_18 rfl ?_
  refine ev_icmp_ne 34 dX4_isFollowed_20 (by decide) (fun h20 => absurd (by decide) h20) (fun h20 => ?_)
  refine ev_aload_n 0 dX4_isFollowed_23 rfl rfl ?_
  refine ev_iload_n 2 dX4_isFollowed_24 rfl rfl ?_
  refine ev_iload_n 3 dX4_isFollowed_25 rfl rfl ?_
  refine ev_iload dX4_isFollowed_26 rfl ?_
  refine ev_cV3 (c4_canLack _ _ _ _ hc (by omega) _) kX4_canLack rfl g1243 rfl rfl rfl rfl dX4_isFollowed_28 ?_
  refine ev_goto 71 dX4_isFollowed_31 (by decide) ?_
  refine ev_istore dX4_isFollowed_71 (Nat.le_of_ble_eq_true rfl) rfl ?_
  refine ev_iload dX4_isFollowed_73 rfl ?_
  refine ev_if_eq 193 dX4_isFollowed_75 (by decide) (fun h75 => absurd h75 (by rw [h]; decide)) (fun h75 => ?_)
  refine ev_iload_n 1 dX4_isFollowed_78 rfl rfl ?_
  refine ev_bipush (nI 112) dX4_isFollowed_79 rfl ?_
  refine ev_icmp_eq 90 dX4_isFollowed_81 (by decide) (fun h81 => absurd h81 (by decide)) (fun h81 => ?_)
  refine ev_iload_n 1 dX4_isFollowed_84 rfl rfl ?_
  refine ev_bipush (nI 99) dX4_isFollowed_85 rfl ?_
  refine ev_icmp_ne 114 dX4_isFollowed_87 (by decide) (fun h87 => ?_) (fun h87 => absurd h87 (by decide))
  refine ev_iload_n 1 dX4_isFollowed_114 rfl rfl ?_
  refine ev_bipush (nI 43) dX4_isFollowed_115 rfl ?_
  refine ev_icmp_eq 126 dX4_isFollowed_117 (by decide) (fun h117 => absurd h117 (by decide)) (fun h117 => ?_)
  refine ev_iload_n 1 dX4_isFollowed_120 rfl rfl ?_
  refine ev_bipush (nI 45) dX4_isFollowed_121 rfl ?_
  refine ev_icmp_ne 149 dX4_isFollowed_123 (by decide) (fun h123 => absurd (by decide) h123) (fun h123 => ?_)
  refine ev_aload_n 0 dX4_isFollowed_126 rfl rfl ?_
  refine ev_iload_n 2 dX4_isFollowed_127 rfl rfl ?_
  refine ev_iload_n 3 dX4_isFollowed_128 rfl rfl ?_
  refine ev_iload_n 1 dX4_isFollowed_129 rfl rfl ?_
  refine ev_bipush (nI 43) dX4_isFollowed_130 rfl ?_
  refine ev_icmp_ne 140 dX4_isFollowed_132 (by decide) (fun h132 => ?_) (fun h132 => absurd h132 (by decide))
  refine ev_iload dX4_isFollowed_140 rfl ?_
  refine ev_ineg dX4_isFollowed_142 ?_
  refine ev_cV3v (c4_grow _ _ _ _ hc (by omega) _) kX4_grow rfl g1235 rfl rfl rfl rfl dX4_isFollowed_143 ?_
  refine ev_goto 189 dX4_isFollowed_146 (by decide) ?_
  refine ev_aload_n 0 dX4_isFollowed_189 rfl rfl ?_
  refine ev_cV0v (c4_looks _ _ _ _) kX4_looks rfl g1180 rfl rfl rfl rfl dX4_isFollowed_190 ?_
  refine ev_iload dX4_isFollowed_193 rfl ?_
  exact ev_ireturn dX4_isFollowed_195 (Nat.le_of_ble_eq_true rfl) ⟨by rw [h], rfl⟩
set_option maxHeartbeats 1000000 in
theorem c4_fol_45f (σ z : Nat → Int32) (Y : RY) (g : PW) {c k m : Nat} (hc : c < 8) (hk : k < 6) (h : canL σ c k (nI m) = false) : Ct mX4_isFollowed [.ref 0, .int (nI 45), .int (nI c), .int (nI k), .int (nI m)] (rw9 σ z Y g) (d1 (some (.int (bI false))) (rw9 (σ) z Y g)) nx := by
  refine ct_of 4 kX4_isFollowed.1 rfl (Nat.le_of_ble_eq_true rfl) (fun v u h => by obtain ⟨rfl, rfl⟩ := h; exact bI_nar _) ?_
  show Ev _ _ _ 0 0 [(0, .ref 0), (1, .int (nI 45)), (2, .int (nI c)), (3, .int (nI k)), (4, .int (nI m))] [] _
  refine ev_iload_n 1 dX4_isFollowed_0 rfl rfl ?_
  refine ev_bipush (nI 43) dX4_isFollowed_1 rfl ?_
  refine ev_icmp_ne 17 dX4_isFollowed_3 (by decide) (fun h3 => ?_) (fun h3 => absurd h3 (by decide))
  refine ev_iload_n 1 dX4_isFollowed_17 rfl rfl ?_
  refine ev_bipush (nI 45) dX4_isFollowed_18 rfl ?_
  refine ev_icmp_ne 34 dX4_isFollowed_20 (by decide) (fun h20 => absurd (by decide) h20) (fun h20 => ?_)
  refine ev_aload_n 0 dX4_isFollowed_23 rfl rfl ?_
  refine ev_iload_n 2 dX4_isFollowed_24 rfl rfl ?_
  refine ev_iload_n 3 dX4_isFollowed_25 rfl rfl ?_
  refine ev_iload dX4_isFollowed_26 rfl ?_
  refine ev_cV3 (c4_canLack _ _ _ _ hc (by omega) _) kX4_canLack rfl g1243 rfl rfl rfl rfl dX4_isFollowed_28 ?_
  refine ev_goto 71 dX4_isFollowed_31 (by decide) ?_
  refine ev_istore dX4_isFollowed_71 (Nat.le_of_ble_eq_true rfl) rfl ?_
  refine ev_iload dX4_isFollowed_73 rfl ?_
  refine ev_if_eq 193 dX4_isFollowed_75 (by decide) (fun h75 => ?_) (fun h75 => absurd (by rw [h]; rfl) h75)
  refine ev_iload dX4_isFollowed_193 rfl ?_
  exact ev_ireturn dX4_isFollowed_195 (Nat.le_of_ble_eq_true rfl) ⟨by rw [h], rfl⟩
set_option maxHeartbeats 1000000 in
theorem c4_fol_108t (σ z : Nat → Int32) (Y : RY) (g : PW) {c k m : Nat} (hc : c < 8) (h : canB σ c (nI m) = true) : Ct mX4_isFollowed [.ref 0, .int (nI 108), .int (nI c), .int (nI k), .int (nI m)] (rw9 σ z Y g) (d1 (some (.int (bI true))) (rw9 (lookN (lendS σ c (nI m)) 8) z Y g)) nx := by
  refine ct_of 4 kX4_isFollowed.1 rfl (Nat.le_of_ble_eq_true rfl) (fun v u h => by obtain ⟨rfl, rfl⟩ := h; exact bI_nar _) ?_
  show Ev _ _ _ 0 0 [(0, .ref 0), (1, .int (nI 108)), (2, .int (nI c)), (3, .int (nI k)), (4, .int (nI m))] [] _
  refine ev_iload_n 1 dX4_isFollowed_0 rfl rfl ?_
  refine ev_bipush (nI 43) dX4_isFollowed_1 rfl ?_
  refine ev_icmp_ne 17 dX4_isFollowed_3 (by decide) (fun h3 => ?_) (fun h3 => absurd h3 (by decide))
  refine ev_iload_n 1 dX4_isFollowed_17 rfl rfl ?_
  refine ev_bipush (nI 45) dX4_isFollowed_18 rfl ?_
  refine ev_icmp_ne 34 dX4_isFollowed_20 (by decide) (fun h20 => ?_) (fun h20 => absurd h20 (by decide))
  refine ev_iload_n 1 dX4_isFollowed_34 rfl rfl ?_
  refine ev_bipush (nI 108) dX4_isFollowed_35 rfl ?_
  refine ev_icmp_ne 50 dX4_isFollowed_37 (by decide) (fun h37 => absurd (by decide) h37) (fun h37 => ?_)
  refine ev_aload_n 0 dX4_isFollowed_40 rfl rfl ?_
  refine ev_iload_n 2 dX4_isFollowed_41 rfl rfl ?_
  refine ev_iload dX4_isFollowed_42 rfl ?_
  refine ev_cV2 (c4_canLend _ _ _ _ hc _) kX4_canLend rfl g1264 rfl rfl rfl rfl dX4_isFollowed_44 ?_
  refine ev_goto 71 dX4_isFollowed_47 (by decide) ?_
  refine ev_istore dX4_isFollowed_71 (Nat.le_of_ble_eq_true rfl) rfl ?_
  refine ev_iload dX4_isFollowed_73 rfl ?_
  refine ev_if_eq 193 dX4_isFollowed_75 (by decide) (fun h75 => absurd h75 (by rw [h]; decide)) (fun h75 => ?_)
  refine ev_iload_n 1 dX4_isFollowed_78 rfl rfl ?_
  refine ev_bipush (nI 112) dX4_isFollowed_79 rfl ?_
  refine ev_icmp_eq 90 dX4_isFollowed_81 (by decide) (fun h81 => absurd h81 (by decide)) (fun h81 => ?_)
  refine ev_iload_n 1 dX4_isFollowed_84 rfl rfl ?_
  refine ev_bipush (nI 99) dX4_isFollowed_85 rfl ?_
  refine ev_icmp_ne 114 dX4_isFollowed_87 (by decide) (fun h87 => ?_) (fun h87 => absurd h87 (by decide))
  refine ev_iload_n 1 dX4_isFollowed_114 rfl rfl ?_
  refine ev_bipush (nI 43) dX4_isFollowed_115 rfl ?_
  refine ev_icmp_eq 126 dX4_isFollowed_117 (by decide) (fun h117 => absurd h117 (by decide)) (fun h117 => ?_)
  refine ev_iload_n 1 dX4_isFollowed_120 rfl rfl ?_
  refine ev_bipush (nI 45) dX4_isFollowed_121 rfl ?_
  refine ev_icmp_ne 149 dX4_isFollowed_123 (by decide) (fun h123 => ?_) (fun h123 => absurd h123 (by decide))
  refine ev_iload_n 1 dX4_isFollowed_149 rfl rfl ?_
  refine ev_bipush (nI 108) dX4_isFollowed_150 rfl ?_
  refine ev_icmp_ne 165 dX4_isFollowed_152 (by decide) (fun h152 => absurd (by decide) h152) (fun h152 => ?_)
  refine ev_aload_n 0 dX4_isFollowed_155 rfl rfl ?_
  refine ev_iload_n 2 dX4_isFollowed_156 rfl rfl ?_
  refine ev_iload dX4_isFollowed_157 rfl ?_
  refine ev_cV2v (c4_lends _ _ _ _ hc _) kX4_lends rfl g1268 rfl rfl rfl rfl dX4_isFollowed_159 ?_
  refine ev_goto 189 dX4_isFollowed_162 (by decide) ?_
  refine ev_aload_n 0 dX4_isFollowed_189 rfl rfl ?_
  refine ev_cV0v (c4_looks _ _ _ _) kX4_looks rfl g1180 rfl rfl rfl rfl dX4_isFollowed_190 ?_
  refine ev_iload dX4_isFollowed_193 rfl ?_
  exact ev_ireturn dX4_isFollowed_195 (Nat.le_of_ble_eq_true rfl) ⟨by rw [h], rfl⟩
set_option maxHeartbeats 1000000 in
theorem c4_fol_108f (σ z : Nat → Int32) (Y : RY) (g : PW) {c k m : Nat} (hc : c < 8) (h : canB σ c (nI m) = false) : Ct mX4_isFollowed [.ref 0, .int (nI 108), .int (nI c), .int (nI k), .int (nI m)] (rw9 σ z Y g) (d1 (some (.int (bI false))) (rw9 (σ) z Y g)) nx := by
  refine ct_of 4 kX4_isFollowed.1 rfl (Nat.le_of_ble_eq_true rfl) (fun v u h => by obtain ⟨rfl, rfl⟩ := h; exact bI_nar _) ?_
  show Ev _ _ _ 0 0 [(0, .ref 0), (1, .int (nI 108)), (2, .int (nI c)), (3, .int (nI k)), (4, .int (nI m))] [] _
  refine ev_iload_n 1 dX4_isFollowed_0 rfl rfl ?_
  refine ev_bipush (nI 43) dX4_isFollowed_1 rfl ?_
  refine ev_icmp_ne 17 dX4_isFollowed_3 (by decide) (fun h3 => ?_) (fun h3 => absurd h3 (by decide))
  refine ev_iload_n 1 dX4_isFollowed_17 rfl rfl ?_
  refine ev_bipush (nI 45) dX4_isFollowed_18 rfl ?_
  refine ev_icmp_ne 34 dX4_isFollowed_20 (by decide) (fun h20 => ?_) (fun h20 => absurd h20 (by decide))
  refine ev_iload_n 1 dX4_isFollowed_34 rfl rfl ?_
  refine ev_bipush (nI 108) dX4_isFollowed_35 rfl ?_
  refine ev_icmp_ne 50 dX4_isFollowed_37 (by decide) (fun h37 => absurd (by decide) h37) (fun h37 => ?_)
  refine ev_aload_n 0 dX4_isFollowed_40 rfl rfl ?_
  refine ev_iload_n 2 dX4_isFollowed_41 rfl rfl ?_
  refine ev_iload dX4_isFollowed_42 rfl ?_
  refine ev_cV2 (c4_canLend _ _ _ _ hc _) kX4_canLend rfl g1264 rfl rfl rfl rfl dX4_isFollowed_44 ?_
  refine ev_goto 71 dX4_isFollowed_47 (by decide) ?_
  refine ev_istore dX4_isFollowed_71 (Nat.le_of_ble_eq_true rfl) rfl ?_
  refine ev_iload dX4_isFollowed_73 rfl ?_
  refine ev_if_eq 193 dX4_isFollowed_75 (by decide) (fun h75 => ?_) (fun h75 => absurd (by rw [h]; rfl) h75)
  refine ev_iload dX4_isFollowed_193 rfl ?_
  exact ev_ireturn dX4_isFollowed_195 (Nat.le_of_ble_eq_true rfl) ⟨by rw [h], rfl⟩
set_option maxHeartbeats 1000000 in
theorem c4_fol_98t (σ z : Nat → Int32) (Y : RY) (g : PW) {c k m : Nat} (hc : c < 8) (h : 0 < σ (ix c 7)) : Ct mX4_isFollowed [.ref 0, .int (nI 98), .int (nI c), .int (nI k), .int (nI m)] (rw9 σ z Y g) (d1 (some (.int (bI true))) (rw9 (lookN (backS σ c (nI m)) 8) z Y g)) nx := by
  refine ct_of 4 kX4_isFollowed.1 rfl (Nat.le_of_ble_eq_true rfl) (fun v u h => by obtain ⟨rfl, rfl⟩ := h; exact bI_nar _) ?_
  show Ev _ _ _ 0 0 [(0, .ref 0), (1, .int (nI 98)), (2, .int (nI c)), (3, .int (nI k)), (4, .int (nI m))] [] _
  refine ev_iload_n 1 dX4_isFollowed_0 rfl rfl ?_
  refine ev_bipush (nI 43) dX4_isFollowed_1 rfl ?_
  refine ev_icmp_ne 17 dX4_isFollowed_3 (by decide) (fun h3 => ?_) (fun h3 => absurd h3 (by decide))
  refine ev_iload_n 1 dX4_isFollowed_17 rfl rfl ?_
  refine ev_bipush (nI 45) dX4_isFollowed_18 rfl ?_
  refine ev_icmp_ne 34 dX4_isFollowed_20 (by decide) (fun h20 => ?_) (fun h20 => absurd h20 (by decide))
  refine ev_iload_n 1 dX4_isFollowed_34 rfl rfl ?_
  refine ev_bipush (nI 108) dX4_isFollowed_35 rfl ?_
  refine ev_icmp_ne 50 dX4_isFollowed_37 (by decide) (fun h37 => ?_) (fun h37 => absurd h37 (by decide))
  refine ev_iload_n 1 dX4_isFollowed_50 rfl rfl ?_
  refine ev_bipush (nI 98) dX4_isFollowed_51 rfl ?_
  refine ev_icmp_ne 66 dX4_isFollowed_53 (by decide) (fun h53 => absurd (by decide) h53) (fun h53 => ?_)
  refine ev_aload_n 0 dX4_isFollowed_56 rfl rfl ?_
  refine ev_iload_n 2 dX4_isFollowed_57 rfl rfl ?_
  refine ev_bipush (nI 7) dX4_isFollowed_58 rfl ?_
  refine ev_cV2 (c4_of _ _ _ _ hc (by omega)) kX4_of rfl g1188 rfl rfl rfl rfl dX4_isFollowed_60 ?_
  refine ev_if_le 70 dX4_isFollowed_63 (by decide) (fun h63 => absurd h63 (Int32.not_le.mpr h)) (fun h63 => ?_)
  refine ev_iconst (nI 1) dX4_isFollowed_66 rfl ?_
  refine ev_goto 71 dX4_isFollowed_67 (by decide) ?_
  refine ev_istore dX4_isFollowed_71 (Nat.le_of_ble_eq_true rfl) rfl ?_
  refine ev_iload dX4_isFollowed_73 rfl ?_
  refine ev_if_eq 193 dX4_isFollowed_75 (by decide) (fun h75 => absurd h75 (by decide)) (fun h75 => ?_)
  refine ev_iload_n 1 dX4_isFollowed_78 rfl rfl ?_
  refine ev_bipush (nI 112) dX4_isFollowed_79 rfl ?_
  refine ev_icmp_eq 90 dX4_isFollowed_81 (by decide) (fun h81 => absurd h81 (by decide)) (fun h81 => ?_)
  refine ev_iload_n 1 dX4_isFollowed_84 rfl rfl ?_
  refine ev_bipush (nI 99) dX4_isFollowed_85 rfl ?_
  refine ev_icmp_ne 114 dX4_isFollowed_87 (by decide) (fun h87 => ?_) (fun h87 => absurd h87 (by decide))
  refine ev_iload_n 1 dX4_isFollowed_114 rfl rfl ?_
  refine ev_bipush (nI 43) dX4_isFollowed_115 rfl ?_
  refine ev_icmp_eq 126 dX4_isFollowed_117 (by decide) (fun h117 => absurd h117 (by decide)) (fun h117 => ?_)
  refine ev_iload_n 1 dX4_isFollowed_120 rfl rfl ?_
  refine ev_bipush (nI 45) dX4_isFollowed_121 rfl ?_
  refine ev_icmp_ne 149 dX4_isFollowed_123 (by decide) (fun h123 => ?_) (fun h123 => absurd h123 (by decide))
  refine ev_iload_n 1 dX4_isFollowed_149 rfl rfl ?_
  refine ev_bipush (nI 108) dX4_isFollowed_150 rfl ?_
  refine ev_icmp_ne 165 dX4_isFollowed_152 (by decide) (fun h152 => ?_) (fun h152 => absurd h152 (by decide))
  refine ev_iload_n 1 dX4_isFollowed_165 rfl rfl ?_
  refine ev_bipush (nI 98) dX4_isFollowed_166 rfl ?_
  refine ev_icmp_ne 181 dX4_isFollowed_168 (by decide) (fun h168 => absurd (by decide) h168) (fun h168 => ?_)
  refine ev_aload_n 0 dX4_isFollowed_171 rfl rfl ?_
  refine ev_iload_n 2 dX4_isFollowed_172 rfl rfl ?_
  refine ev_iload dX4_isFollowed_173 rfl ?_
  refine ev_cV2 (c4_paysBack _ _ _ _ hc _) kX4_paysBack rfl g1276 rfl rfl rfl rfl dX4_isFollowed_175 ?_
  refine ev_goto 187 dX4_isFollowed_178 (by decide) ?_
  refine ev_istore dX4_isFollowed_187 (Nat.le_of_ble_eq_true rfl) rfl ?_
  refine ev_aload_n 0 dX4_isFollowed_189 rfl rfl ?_
  refine ev_cV0v (c4_looks _ _ _ _) kX4_looks rfl g1180 rfl rfl rfl rfl dX4_isFollowed_190 ?_
  refine ev_iload dX4_isFollowed_193 rfl ?_
  exact ev_ireturn dX4_isFollowed_195 (Nat.le_of_ble_eq_true rfl) ⟨rfl, rfl⟩
set_option maxHeartbeats 1000000 in
theorem c4_fol_98f (σ z : Nat → Int32) (Y : RY) (g : PW) {c k m : Nat} (hc : c < 8) (h : ¬ 0 < σ (ix c 7)) : Ct mX4_isFollowed [.ref 0, .int (nI 98), .int (nI c), .int (nI k), .int (nI m)] (rw9 σ z Y g) (d1 (some (.int (bI false))) (rw9 (σ) z Y g)) nx := by
  refine ct_of 4 kX4_isFollowed.1 rfl (Nat.le_of_ble_eq_true rfl) (fun v u h => by obtain ⟨rfl, rfl⟩ := h; exact bI_nar _) ?_
  show Ev _ _ _ 0 0 [(0, .ref 0), (1, .int (nI 98)), (2, .int (nI c)), (3, .int (nI k)), (4, .int (nI m))] [] _
  refine ev_iload_n 1 dX4_isFollowed_0 rfl rfl ?_
  refine ev_bipush (nI 43) dX4_isFollowed_1 rfl ?_
  refine ev_icmp_ne 17 dX4_isFollowed_3 (by decide) (fun h3 => ?_) (fun h3 => absurd h3 (by decide))
  refine ev_iload_n 1 dX4_isFollowed_17 rfl rfl ?_
  refine ev_bipush (nI 45) dX4_isFollowed_18 rfl ?_
  refine ev_icmp_ne 34 dX4_isFollowed_20 (by decide) (fun h20 => ?_) (fun h20 => absurd h20 (by decide))
  refine ev_iload_n 1 dX4_isFollowed_34 rfl rfl ?_
  refine ev_bipush (nI 108) dX4_isFollowed_35 rfl ?_
  refine ev_icmp_ne 50 dX4_isFollowed_37 (by decide) (fun h37 => ?_) (fun h37 => absurd h37 (by decide))
  refine ev_iload_n 1 dX4_isFollowed_50 rfl rfl ?_
  refine ev_bipush (nI 98) dX4_isFollowed_51 rfl ?_
  refine ev_icmp_ne 66 dX4_isFollowed_53 (by decide) (fun h53 => absurd (by decide) h53) (fun h53 => ?_)
  refine ev_aload_n 0 dX4_isFollowed_56 rfl rfl ?_
  refine ev_iload_n 2 dX4_isFollowed_57 rfl rfl ?_
  refine ev_bipush (nI 7) dX4_isFollowed_58 rfl ?_
  refine ev_cV2 (c4_of _ _ _ _ hc (by omega)) kX4_of rfl g1188 rfl rfl rfl rfl dX4_isFollowed_60 ?_
  refine ev_if_le 70 dX4_isFollowed_63 (by decide) (fun h63 => ?_) (fun h63 => absurd (Int32.not_lt.mp h) h63)
  refine ev_iconst (nI 0) dX4_isFollowed_70 rfl ?_
  refine ev_istore dX4_isFollowed_71 (Nat.le_of_ble_eq_true rfl) rfl ?_
  refine ev_iload dX4_isFollowed_73 rfl ?_
  refine ev_if_eq 193 dX4_isFollowed_75 (by decide) (fun h75 => ?_) (fun h75 => absurd rfl h75)
  refine ev_iload dX4_isFollowed_193 rfl ?_
  exact ev_ireturn dX4_isFollowed_195 (Nat.le_of_ble_eq_true rfl) ⟨rfl, rfl⟩
set_option maxHeartbeats 1000000 in
theorem c4_fol_104 (σ z : Nat → Int32) (Y : RY) (g : PW) {c k m : Nat} (hm : m ≤ 100) (hN : NP σ) : Ct mX4_isFollowed [.ref 0, .int (nI 104), .int (nI c), .int (nI k), .int (nI m)] (rw9 σ z Y g) (d1 (some (.int (bI true))) (rw9 (lookN (pasN σ m).1 8) z Y g)) nx := by
  refine ct_of 4 kX4_isFollowed.1 rfl (Nat.le_of_ble_eq_true rfl) (fun v u h => by obtain ⟨rfl, rfl⟩ := h; exact bI_nar _) ?_
  show Ev _ _ _ 0 0 [(0, .ref 0), (1, .int (nI 104)), (2, .int (nI c)), (3, .int (nI k)), (4, .int (nI m))] [] _
  refine ev_iload_n 1 dX4_isFollowed_0 rfl rfl ?_
  refine ev_bipush (nI 43) dX4_isFollowed_1 rfl ?_
  refine ev_icmp_ne 17 dX4_isFollowed_3 (by decide) (fun h3 => ?_) (fun h3 => absurd h3 (by decide))
  refine ev_iload_n 1 dX4_isFollowed_17 rfl rfl ?_
  refine ev_bipush (nI 45) dX4_isFollowed_18 rfl ?_
  refine ev_icmp_ne 34 dX4_isFollowed_20 (by decide) (fun h20 => ?_) (fun h20 => absurd h20 (by decide))
  refine ev_iload_n 1 dX4_isFollowed_34 rfl rfl ?_
  refine ev_bipush (nI 108) dX4_isFollowed_35 rfl ?_
  refine ev_icmp_ne 50 dX4_isFollowed_37 (by decide) (fun h37 => ?_) (fun h37 => absurd h37 (by decide))
  refine ev_iload_n 1 dX4_isFollowed_50 rfl rfl ?_
  refine ev_bipush (nI 98) dX4_isFollowed_51 rfl ?_
  refine ev_icmp_ne 66 dX4_isFollowed_53 (by decide) (fun h53 => ?_) (fun h53 => absurd h53 (by decide))
  refine ev_iconst (nI 1) dX4_isFollowed_66 rfl ?_
  refine ev_goto 71 dX4_isFollowed_67 (by decide) ?_
  refine ev_istore dX4_isFollowed_71 (Nat.le_of_ble_eq_true rfl) rfl ?_
  refine ev_iload dX4_isFollowed_73 rfl ?_
  refine ev_if_eq 193 dX4_isFollowed_75 (by decide) (fun h75 => absurd h75 (by decide)) (fun h75 => ?_)
  refine ev_iload_n 1 dX4_isFollowed_78 rfl rfl ?_
  refine ev_bipush (nI 112) dX4_isFollowed_79 rfl ?_
  refine ev_icmp_eq 90 dX4_isFollowed_81 (by decide) (fun h81 => absurd h81 (by decide)) (fun h81 => ?_)
  refine ev_iload_n 1 dX4_isFollowed_84 rfl rfl ?_
  refine ev_bipush (nI 99) dX4_isFollowed_85 rfl ?_
  refine ev_icmp_ne 114 dX4_isFollowed_87 (by decide) (fun h87 => ?_) (fun h87 => absurd h87 (by decide))
  refine ev_iload_n 1 dX4_isFollowed_114 rfl rfl ?_
  refine ev_bipush (nI 43) dX4_isFollowed_115 rfl ?_
  refine ev_icmp_eq 126 dX4_isFollowed_117 (by decide) (fun h117 => absurd h117 (by decide)) (fun h117 => ?_)
  refine ev_iload_n 1 dX4_isFollowed_120 rfl rfl ?_
  refine ev_bipush (nI 45) dX4_isFollowed_121 rfl ?_
  refine ev_icmp_ne 149 dX4_isFollowed_123 (by decide) (fun h123 => ?_) (fun h123 => absurd h123 (by decide))
  refine ev_iload_n 1 dX4_isFollowed_149 rfl rfl ?_
  refine ev_bipush (nI 108) dX4_isFollowed_150 rfl ?_
  refine ev_icmp_ne 165 dX4_isFollowed_152 (by decide) (fun h152 => ?_) (fun h152 => absurd h152 (by decide))
  refine ev_iload_n 1 dX4_isFollowed_165 rfl rfl ?_
  refine ev_bipush (nI 98) dX4_isFollowed_166 rfl ?_
  refine ev_icmp_ne 181 dX4_isFollowed_168 (by decide) (fun h168 => ?_) (fun h168 => absurd h168 (by decide))
  refine ev_aload_n 0 dX4_isFollowed_181 rfl rfl ?_
  refine ev_iload dX4_isFollowed_182 rfl ?_
  refine ev_cV1 (c4_passes _ _ _ _ hN hm) kX4_passes rfl g1288 rfl rfl rfl rfl dX4_isFollowed_184 ?_
  refine ev_istore dX4_isFollowed_187 (Nat.le_of_ble_eq_true rfl) rfl ?_
  refine ev_aload_n 0 dX4_isFollowed_189 rfl rfl ?_
  refine ev_cV0v (c4_looks _ _ _ _) kX4_looks rfl g1180 rfl rfl rfl rfl dX4_isFollowed_190 ?_
  refine ev_iload dX4_isFollowed_193 rfl ?_
  exact ev_ireturn dX4_isFollowed_195 (Nat.le_of_ble_eq_true rfl) ⟨rfl, rfl⟩
theorem c4_isFollowed (σ z : Nat → Int32) (Y : RY) (g : PW) {l c k m : Nat} (h : F4OK l c k m σ) : Ct mX4_isFollowed [.ref 0, .int (nI l), .int (nI c), .int (nI k), .int (nI m)] (rw9 σ z Y g) (d1 (some (.int (bI (fol4 l c k m σ).1))) (rw9 (fol4 l c k m σ).2 z Y g)) nx := by
  obtain ⟨hl, hc, hc6, hk, hh⟩ := h
  rcases hl with rfl | rfl | rfl | rfl | rfl | rfl | rfl
  · rw [fol4_112]; exact c4_fol_112 σ z Y g (hc6 (Or.inl rfl))
  · rw [fol4_99]; exact c4_fol_99 σ z Y g (hc6 (Or.inr rfl))
  · cases q : canP σ c k (nI m) with
    | true => rw [fol4_43, if_pos q]; exact c4_fol_43t σ z Y g hc hk q
    | false => rw [fol4_43, if_neg (by rw [q]; decide)]; exact c4_fol_43f σ z Y g hc hk q
  · cases q : canL σ c k (nI m) with
    | true => rw [fol4_45, if_pos q]; exact c4_fol_45t σ z Y g hc hk q
    | false => rw [fol4_45, if_neg (by rw [q]; decide)]; exact c4_fol_45f σ z Y g hc hk q
  · cases q : canB σ c (nI m) with
    | true => rw [fol4_108, if_pos q]; exact c4_fol_108t σ z Y g hc q
    | false => rw [fol4_108, if_neg (by rw [q]; decide)]; exact c4_fol_108f σ z Y g hc q
  · by_cases q : 0 < σ (ix c 7)
    · rw [fol4_98, if_pos q]; exact c4_fol_98t σ z Y g hc q
    · rw [fol4_98, if_neg q]; exact c4_fol_98f σ z Y g hc q
  · rw [fol4_104]; exact c4_fol_104 σ z Y g (hh rfl).1 (hh rfl).2
/-- the letter at p, the order there -/
def ltR (bu : Nat → Int32) (ℓ p : Nat) : Int32 := if p < ℓ then bu p else nI 0
def ordR (bu : Nat → Int32) (ℓ p : Nat) : OR :=
  if ltR bu ℓ p = nI 112 then orS bu ℓ (nI 53) (nI 1) (nI 500) (p + 1, false)
  else if ltR bu ℓ p = nI 99 then orS bu ℓ (nI 53) (nI 0) (nI 90) (p + 1, false)
  else if ltR bu ℓ p = nI 43 then orP bu ℓ (p + 1, false)
  else if ltR bu ℓ p = nI 45 then orP bu ℓ (p + 1, false)
  else if ltR bu ℓ p = nI 108 then orS bu ℓ (nI 55) (nI 1) (nI 9999) (p + 1, false)
  else if ltR bu ℓ p = nI 98 then orS bu ℓ (nI 55) (nI 1) (nI 9999) (p + 1, false)
  else if ltR bu ℓ p = nI 104 then orH bu ℓ (p + 1, false)
  else orS bu ℓ (nI 55) (nI 1) (nI 100) (p, true)
theorem o4_all (σ z : Nat → Int32) (Y : RY) (g : PW) {ℓ : Nat} (hℓ : ℓ ≤ 60) (hl : z 1 = nI ℓ) {p : Nat} (hpl : p ≤ ℓ) (d : Int32) {po : PO} (H : Ev mX4_isOrdered po nx 0 310 [(8, .int (ordR Y.2.2.2.2.1 ℓ p).2.2.2), (7, .int (ordR Y.2.2.2.2.1 ℓ p).2.2.1), (6, .int (ordR Y.2.2.2.2.1 ℓ p).2.1), (2, .int (ltR Y.2.2.2.2.1 ℓ p)), (0, .ref 0), (1, .int d)] [] (rw9 σ (zE z (ordR Y.2.2.2.2.1 ℓ p).1) Y g)) : Ev mX4_isOrdered po nx 0 0 [(0, .ref 0), (1, .int d)] [] (rw9 σ (zE z (p, false)) Y g) := by
  by_cases hp : p < ℓ
  · have hb : Y.2.2.2.2.1 p = ltR Y.2.2.2.2.1 ℓ p := (if_pos hp).symm
    by_cases h112 : ltR Y.2.2.2.2.1 ℓ p = nI 112
    · have e : (ordR Y.2.2.2.2.1 ℓ p) = orS Y.2.2.2.2.1 ℓ (nI 53) (nI 1) (nI 500) (p + 1, false) := by unfold ordR; rw [if_pos h112]
      rw [e, h112] at H
      exact o4_112 σ z Y g hℓ hl hp (hb.trans h112) d H
    by_cases h99 : ltR Y.2.2.2.2.1 ℓ p = nI 99
    · have e : (ordR Y.2.2.2.2.1 ℓ p) = orS Y.2.2.2.2.1 ℓ (nI 53) (nI 0) (nI 90) (p + 1, false) := by unfold ordR; rw [if_neg h112, if_pos h99]
      rw [e, h99] at H
      exact o4_99 σ z Y g hℓ hl hp (hb.trans h99) d H
    by_cases h43 : ltR Y.2.2.2.2.1 ℓ p = nI 43
    · have e : (ordR Y.2.2.2.2.1 ℓ p) = orP Y.2.2.2.2.1 ℓ (p + 1, false) := by unfold ordR; rw [if_neg h112, if_neg h99, if_pos h43]
      rw [e, h43] at H
      exact o4_43 σ z Y g hℓ hl hp (hb.trans h43) d H
    by_cases h45 : ltR Y.2.2.2.2.1 ℓ p = nI 45
    · have e : (ordR Y.2.2.2.2.1 ℓ p) = orP Y.2.2.2.2.1 ℓ (p + 1, false) := by unfold ordR; rw [if_neg h112, if_neg h99, if_neg h43, if_pos h45]
      rw [e, h45] at H
      exact o4_45 σ z Y g hℓ hl hp (hb.trans h45) d H
    by_cases h108 : ltR Y.2.2.2.2.1 ℓ p = nI 108
    · have e : (ordR Y.2.2.2.2.1 ℓ p) = orS Y.2.2.2.2.1 ℓ (nI 55) (nI 1) (nI 9999) (p + 1, false) := by unfold ordR; rw [if_neg h112, if_neg h99, if_neg h43, if_neg h45, if_pos h108]
      rw [e, h108] at H
      exact o4_108 σ z Y g hℓ hl hp (hb.trans h108) d H
    by_cases h98 : ltR Y.2.2.2.2.1 ℓ p = nI 98
    · have e : (ordR Y.2.2.2.2.1 ℓ p) = orS Y.2.2.2.2.1 ℓ (nI 55) (nI 1) (nI 9999) (p + 1, false) := by unfold ordR; rw [if_neg h112, if_neg h99, if_neg h43, if_neg h45, if_neg h108, if_pos h98]
      rw [e, h98] at H
      exact o4_98 σ z Y g hℓ hl hp (hb.trans h98) d H
    by_cases h104 : ltR Y.2.2.2.2.1 ℓ p = nI 104
    · have e : (ordR Y.2.2.2.2.1 ℓ p) = orH Y.2.2.2.2.1 ℓ (p + 1, false) := by unfold ordR; rw [if_neg h112, if_neg h99, if_neg h43, if_neg h45, if_neg h108, if_neg h98, if_pos h104]
      rw [e, h104] at H
      exact o4_104 σ z Y g hℓ hl hp (hb.trans h104) d H
    have e : (ordR Y.2.2.2.2.1 ℓ p) = orS Y.2.2.2.2.1 ℓ (nI 55) (nI 1) (nI 100) (p, true) := by unfold ordR; rw [if_neg h112, if_neg h99, if_neg h43, if_neg h45, if_neg h108, if_neg h98, if_neg h104]
    rw [e] at H
    exact o4_x σ z Y g hℓ hl hp hpl hb h112 h99 h43 h45 h108 h98 h104 d H
  · have e0 : ltR Y.2.2.2.2.1 ℓ p = nI 0 := if_neg hp
    have e : (ordR Y.2.2.2.2.1 ℓ p) = orS Y.2.2.2.2.1 ℓ (nI 55) (nI 1) (nI 100) (p, true) := by unfold ordR; rw [e0, if_neg (by decide), if_neg (by decide), if_neg (by decide), if_neg (by decide), if_neg (by decide), if_neg (by decide), if_neg (by decide)]
    rw [e, e0] at H
    exact o4_o σ z Y g hℓ hl hpl (by omega) rfl d H
set_option maxHeartbeats 1000000 in
theorem c4_ordered0 (σ z : Nat → Int32) (Y : RY) (g : PW) {ℓ : Nat} (hℓ : ℓ ≤ 60) (hl : z 1 = nI ℓ) {p : Nat} (hpl : p ≤ ℓ) : Ct mX4_isOrdered [.ref 0, .int (nI 0)] (rw9 σ (zE z (p, false)) Y g) (d1 (some (.int (bI true))) (rw9 σ (zE z (ordR Y.2.2.2.2.1 ℓ p).1) Y g)) nx := by
  refine ct_of 1 kX4_isOrdered.1 rfl (Nat.le_of_ble_eq_true rfl) (fun v u h => by obtain ⟨rfl, rfl⟩ := h; exact bI_nar _) ?_
  show Ev _ _ _ 0 0 [(0, .ref 0), (1, .int (nI 0))] [] _
  refine o4_all σ z Y g hℓ hl hpl (nI 0) ?_
  refine ev_iload_n 1 dX4_isOrdered_310 rfl rfl ?_
  refine ev_if_eq 328 dX4_isOrdered_311 (by decide) (fun h311 => ?_) (fun h311 => absurd rfl h311)
  refine ev_iconst (nI 1) dX4_isOrdered_328 rfl ?_
  refine ev_goto 333 dX4_isOrdered_329 (by decide) ?_
  exact ev_ireturn dX4_isOrdered_333 (Nat.le_of_ble_eq_true rfl) ⟨rfl, rfl⟩
def foS (bu : Nat → Int32) (ℓ p : Nat) (σ : Nat → Int32) : Bool × (Nat → Int32) := fol4 (ltR bu ℓ p).toNatClampNeg (ordR bu ℓ p).2.1.toNatClampNeg (ordR bu ℓ p).2.2.1.toNatClampNeg (ordR bu ℓ p).2.2.2.toNatClampNeg σ
def FolO (bu : Nat → Int32) (ℓ p : Nat) (σ : Nat → Int32) : Prop := ∃ l c k m, ltR bu ℓ p = nI l ∧ (ordR bu ℓ p).2 = (nI c, (nI k, nI m)) ∧ l < 128 ∧ m < 100000 ∧ F4OK l c k m σ
set_option maxHeartbeats 1000000 in
theorem c4_ordered1 (σ z : Nat → Int32) (Y : RY) (g : PW) {ℓ : Nat} (hℓ : ℓ ≤ 60) (hl : z 1 = nI ℓ) {p : Nat} (hpl : p ≤ ℓ) (hF : FolO Y.2.2.2.2.1 ℓ p σ) : Ct mX4_isOrdered [.ref 0, .int (nI 1)] (rw9 σ (zE z (p, false)) Y g) (d1 (some (.int (bI (foS Y.2.2.2.2.1 ℓ p σ).1))) (rw9 (foS Y.2.2.2.2.1 ℓ p σ).2 (zE z (ordR Y.2.2.2.2.1 ℓ p).1) Y g)) nx := by
  obtain ⟨l, c, k, m, h1, h2, h3, h4, h5⟩ := hF
  have hc : c < 8 := h5.2.1
  have hk : k < 6 := h5.2.2.2.1
  have e : foS Y.2.2.2.2.1 ℓ p σ = fol4 l c k m σ := by
    unfold foS
    rw [h1, h2, nI_clamp (by omega), nI_clamp (by omega), nI_clamp (by omega), nI_clamp (by omega)]
  rw [e]
  refine ct_of 1 kX4_isOrdered.1 rfl (Nat.le_of_ble_eq_true rfl) (fun v u h => by obtain ⟨rfl, rfl⟩ := h; exact bI_nar _) ?_
  show Ev _ _ _ 0 0 [(0, .ref 0), (1, .int (nI 1))] [] _
  refine o4_all σ z Y g hℓ hl hpl (nI 1) ?_
  rw [h1, h2]
  refine ev_iload_n 1 dX4_isOrdered_310 rfl rfl ?_
  refine ev_if_eq 328 dX4_isOrdered_311 (by decide) (fun h311 => absurd h311 (by decide)) (fun h311 => ?_)
  refine ev_aload_n 0 dX4_isOrdered_314 rfl rfl ?_
  refine ev_iload_n 2 dX4_isOrdered_315 rfl rfl ?_
  refine ev_iload dX4_isOrdered_316 rfl ?_
  refine ev_iload dX4_isOrdered_318 rfl ?_
  refine ev_iload dX4_isOrdered_320 rfl ?_
  refine ev_cV4 (c4_isFollowed _ _ _ _ h5) kX4_isFollowed rfl g1363 rfl rfl rfl rfl dX4_isOrdered_322 ?_
  refine ev_if_eq 332 dX4_isOrdered_325 (by decide) (fun h325 => ?_) (fun h325 => ?_)
  · refine ev_iconst (nI 0) dX4_isOrdered_332 rfl ?_
    exact ev_ireturn dX4_isOrdered_333 (Nat.le_of_ble_eq_true rfl) ⟨by first | (rw [bI_1.mp h325]; rfl) | (rw [bI_0.mp h325]; rfl), rfl⟩
  · refine ev_iconst (nI 1) dX4_isOrdered_328 rfl ?_
    refine ev_goto 333 dX4_isOrdered_329 (by decide) ?_
    exact ev_ireturn dX4_isOrdered_333 (Nat.le_of_ble_eq_true rfl) ⟨by first | (rw [bI_1.mp h325]; rfl) | (rw [bI_0.mp h325]; rfl), rfl⟩
