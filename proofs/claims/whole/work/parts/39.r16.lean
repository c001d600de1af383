/-! ===== the reference: follow ===== -/
theorem zE_u (z : Nat → Int32) (s : Nat × Bool) {i : Nat} (x : Int32) (h3 : i ≠ 3) (h4 : i ≠ 4) : upd (zE z s) i x = zE (upd z i x) s := by
  funext j; simp only [upd, zE]
  by_cases h : j = i
  · subst h; rw [if_pos rfl, if_neg h3, if_neg h4, if_pos rfl]
  · simp only [if_neg h]
theorem zE_z (z : Nat → Int32) (s t : Nat × Bool) : zE (zE z s) t = zE z t := by
  funext j; simp only [zE]; split
  · rfl
  · split
    · rfl
    · rfl
theorem upd_uu (z : Nat → Int32) (i : Nat) (x y : Int32) : upd (upd z i x) i y = upd z i y := by
  funext j; simp only [upd]; split <;> rfl
theorem svZ_E (z : Nat → Int32) (s : Nat × Bool) (n : Nat) : svZ (zE z s) n = zE (svZ z n) s := by
  unfold svZ; split
  · exact zE_u z s _ (by decide) (by decide)
  · rw [zE_u z s _ (by decide) (by decide), zE_u _ s _ (by decide) (by decide)]
set_option maxHeartbeats 1000000 in
theorem p4_follow_1 (σ z : Nat → Int32) (Y : RY) (g : PW) {ℓ : Nat} (hℓ : ℓ ≤ 60) (hl : z 1 = nI ℓ) (h : (goF Y.2.2.2.2.1 ℓ (ℓ + 1) 0).2 = true) : Ct mX4_follow [.ref 0] (rw9 σ z Y g) (d1 (some (.int (nI 0))) (rw9 σ (zE (upd z 2 (nI 1)) (goF Y.2.2.2.2.1 ℓ (ℓ + 1) 0)) Y g)) nx := by
  refine ct_of 0 kX4_follow.1 rfl (Nat.le_of_ble_eq_true rfl) (fun v u h => by obtain ⟨rfl, rfl⟩ := h; exact rfl) ?_
  show Ev _ _ _ 0 0 [(0, .ref 0)] [] _
  refine ev_aload_n 0 dX4_follow_0 rfl rfl ?_
  refine ev_iconst (nI 0) dX4_follow_1 rfl ?_
  refine ev_putfield 8 dX4_follow_2 fpX4_29 rfl (Nat.le_of_ble_eq_true rfl) (fun _ => rfl) (fun _ => rfl) (rz2 _ _ _ _ _) ?_
  refine ev_aload_n 0 dX4_follow_5 rfl rfl ?_
  refine ev_iconst (nI 0) dX4_follow_6 rfl ?_
  refine ev_cV1 (c4_go0 σ (upd z 2 (nI 0)) Y g hℓ ((upd_n _ _ (by decide)).trans hl)) kX4_go rfl g1347 rfl rfl rfl rfl dX4_follow_7 ?_
  refine ev_istore_n 1 dX4_follow_10 rfl (Nat.le_of_ble_eq_true rfl) rfl ?_
  refine ev_aload_n 0 dX4_follow_11 rfl rfl ?_
  refine ev_getfield 10 dX4_follow_12 foX4_143 rfl rfl ?_
  refine ev_top (bI (goF Y.2.2.2.2.1 ℓ (ℓ + 1) 0).2) rfl ?_
  refine ev_if_eq 24 dX4_follow_15 (by decide) (fun h15 => absurd h15 (by rw [h]; decide)) (fun h15 => ?_)
  refine ev_aload_n 0 dX4_follow_18 rfl rfl ?_
  refine ev_iconst (nI 1) dX4_follow_19 rfl ?_
  refine ev_cV1 (c4_throwing _ _ _ _ _) kX4_throwing rfl g1172 rfl rfl rfl rfl dX4_follow_20 ?_
  refine ev_w (w' := rw9 σ (zE (upd z 2 (nI 1)) (goF Y.2.2.2.2.1 ℓ (ℓ + 1) 0)) Y g) (congrArg (fun q => rw9 σ q Y g) ((zE_u _ _ _ (by decide) (by decide)).trans (congrArg (fun q => zE q (goF Y.2.2.2.2.1 ℓ (ℓ + 1) 0)) (upd_uu _ _ _ _)))) ?_
  exact ev_ireturn dX4_follow_23 (Nat.le_of_ble_eq_true rfl) ⟨rfl, rfl⟩
set_option maxHeartbeats 1000000 in
theorem p4_follow_2 (σ z : Nat → Int32) (Y : RY) (g : PW) {ℓ : Nat} (hℓ : ℓ ≤ 60) (hl : z 1 = nI ℓ) (h : (goF Y.2.2.2.2.1 ℓ (ℓ + 1) 0).2 = false) (GI : Nat → (Nat → Int32) → Prop) (hI : GoI Y.2.2.2.2.1 ℓ GI) (h0 : GI 0 σ) (hR : (goT Y.2.2.2.2.1 ℓ (ℓ + 1) 0 σ).1 = false) : Ct mX4_follow [.ref 0] (rw9 σ z Y g) (d1 (some (.int (nI 0))) (rw9 σ (zE (upd z 2 (nI 2)) (goT Y.2.2.2.2.1 ℓ (ℓ + 1) 0 σ).2.2) (Y.1, Y.2.1, Y.2.2.1, σ, Y.2.2.2.2) g)) nx := by
  refine ct_of 0 kX4_follow.1 rfl (Nat.le_of_ble_eq_true rfl) (fun v u h => by obtain ⟨rfl, rfl⟩ := h; exact rfl) ?_
  show Ev _ _ _ 0 0 [(0, .ref 0)] [] _
  refine ev_aload_n 0 dX4_follow_0 rfl rfl ?_
  refine ev_iconst (nI 0) dX4_follow_1 rfl ?_
  refine ev_putfield 8 dX4_follow_2 fpX4_29 rfl (Nat.le_of_ble_eq_true rfl) (fun _ => rfl) (fun _ => rfl) (rz2 _ _ _ _ _) ?_
  refine ev_aload_n 0 dX4_follow_5 rfl rfl ?_
  refine ev_iconst (nI 0) dX4_follow_6 rfl ?_
  refine ev_cV1 (c4_go0 σ (upd z 2 (nI 0)) Y g hℓ ((upd_n _ _ (by decide)).trans hl)) kX4_go rfl g1347 rfl rfl rfl rfl dX4_follow_7 ?_
  refine ev_istore_n 1 dX4_follow_10 rfl (Nat.le_of_ble_eq_true rfl) rfl ?_
  refine ev_aload_n 0 dX4_follow_11 rfl rfl ?_
  refine ev_getfield 10 dX4_follow_12 foX4_143 rfl rfl ?_
  refine ev_top (bI (goF Y.2.2.2.2.1 ℓ (ℓ + 1) 0).2) rfl ?_
  refine ev_if_eq 24 dX4_follow_15 (by decide) (fun h15 => ?_) (fun h15 => absurd (by rw [h]; rfl) h15)
  refine ev_aload_n 0 dX4_follow_24 rfl rfl ?_
  refine ev_cV0v (c4_keepsAside _ _ _ _) kX4_keepsAside rfl g1371 rfl rfl rfl rfl dX4_follow_25 ?_
  refine ev_aload_n 0 dX4_follow_28 rfl rfl ?_
  refine ev_iconst (nI 1) dX4_follow_29 rfl ?_
  refine ev_cV1 (c4_go1 σ (zE (upd z 2 (nI 0)) (goF Y.2.2.2.2.1 ℓ (ℓ + 1) 0)) (Y.1, Y.2.1, Y.2.2.1, va_cpy σ Y.2.2.2.1 0 0 109, Y.2.2.2.2) g hℓ ((zE_n _ _ (by decide) (by decide)).trans ((upd_n _ _ (by decide)).trans hl)) GI hI h0) kX4_go rfl g1347 rfl rfl rfl rfl dX4_follow_30 ?_
  refine ev_w (w' := rw9 (goT Y.2.2.2.2.1 ℓ (ℓ + 1) 0 σ).2.1 (zE (upd z 2 (nI 0)) (goT Y.2.2.2.2.1 ℓ (ℓ + 1) 0 σ).2.2) (Y.1, Y.2.1, Y.2.2.1, va_cpy σ Y.2.2.2.1 0 0 109, Y.2.2.2.2) g) (congrArg (fun q => rw9 (goT Y.2.2.2.2.1 ℓ (ℓ + 1) 0 σ).2.1 q (Y.1, Y.2.1, Y.2.2.1, va_cpy σ Y.2.2.2.1 0 0 109, Y.2.2.2.2) g) (zE_z _ _ _)) ?_
  refine ev_istore_n 1 dX4_follow_33 rfl (Nat.le_of_ble_eq_true rfl) rfl ?_
  refine ev_aload_n 0 dX4_follow_34 rfl rfl ?_
  refine ev_cV0v (c4_putsBack (goT Y.2.2.2.2.1 ℓ (ℓ + 1) 0 σ).2.1 (zE (upd z 2 (nI 0)) (goT Y.2.2.2.2.1 ℓ (ℓ + 1) 0 σ).2.2) (Y.1, Y.2.1, Y.2.2.1, va_cpy σ Y.2.2.2.1 0 0 109, Y.2.2.2.2) g) kX4_putsBack rfl g1375 rfl rfl rfl rfl dX4_follow_35 ?_
  refine ev_w (w' := rw9 σ (zE (upd z 2 (nI 0)) (goT Y.2.2.2.2.1 ℓ (ℓ + 1) 0 σ).2.2) (Y.1, Y.2.1, Y.2.2.1, σ, Y.2.2.2.2) g) rw_back ?_
  refine ev_iload_n 1 dX4_follow_38 rfl rfl ?_
  refine ev_if_ne 48 dX4_follow_39 (by decide) (fun h39 => absurd (by rw [hR]; rfl) h39) (fun h39 => ?_)
  refine ev_aload_n 0 dX4_follow_42 rfl rfl ?_
  refine ev_iconst (nI 2) dX4_follow_43 rfl ?_
  refine ev_cV1 (c4_throwing _ _ _ _ _) kX4_throwing rfl g1172 rfl rfl rfl rfl dX4_follow_44 ?_
  refine ev_w (w' := rw9 σ (zE (upd z 2 (nI 2)) (goT Y.2.2.2.2.1 ℓ (ℓ + 1) 0 σ).2.2) (Y.1, Y.2.1, Y.2.2.1, σ, Y.2.2.2.2) g) (congrArg (fun q => rw9 σ q (Y.1, Y.2.1, Y.2.2.1, σ, Y.2.2.2.2) g) ((zE_u _ _ _ (by decide) (by decide)).trans (congrArg (fun q => zE q (goT Y.2.2.2.2.1 ℓ (ℓ + 1) 0 σ).2.2) (upd_uu _ _ _ _)))) ?_
  exact ev_ireturn dX4_follow_47 (Nat.le_of_ble_eq_true rfl) ⟨rfl, rfl⟩
set_option maxHeartbeats 1000000 in
theorem p4_follow_0 (σ z : Nat → Int32) (Y : RY) (g : PW) {ℓ : Nat} (hℓ : ℓ ≤ 60) (hl : z 1 = nI ℓ) {n : Nat} (hn : n ≤ 6) (hz : z 0 = nI n) (h : (goF Y.2.2.2.2.1 ℓ (ℓ + 1) 0).2 = false) (GI : Nat → (Nat → Int32) → Prop) (hI : GoI Y.2.2.2.2.1 ℓ GI) (h0 : GI 0 σ) (hR : (goT Y.2.2.2.2.1 ℓ (ℓ + 1) 0 σ).1 = true) : Ct mX4_follow [.ref 0] (rw9 σ z Y g) (d1 (some (.int (allS (goT Y.2.2.2.2.1 ℓ (ℓ + 1) 0 σ).2.1 8))) (rw9 (goT Y.2.2.2.2.1 ℓ (ℓ + 1) 0 σ).2.1 (zE (upd (svZ (upd z 2 (nI 0)) n) 1 (nI 0)) (goT Y.2.2.2.2.1 ℓ (ℓ + 1) 0 σ).2.2) (svY σ (Y.1, Y.2.1, Y.2.2.1, σ, Y.2.2.2.2) n) g)) nx := by
  refine ct_of 0 kX4_follow.1 rfl (Nat.le_of_ble_eq_true rfl) (fun v u h => by obtain ⟨rfl, rfl⟩ := h; exact rfl) ?_
  show Ev _ _ _ 0 0 [(0, .ref 0)] [] _
  refine ev_aload_n 0 dX4_follow_0 rfl rfl ?_
  refine ev_iconst (nI 0) dX4_follow_1 rfl ?_
  refine ev_putfield 8 dX4_follow_2 fpX4_29 rfl (Nat.le_of_ble_eq_true rfl) (fun _ => rfl) (fun _ => rfl) (rz2 _ _ _ _ _) ?_
  refine ev_aload_n 0 dX4_follow_5 rfl rfl ?_
  refine ev_iconst (nI 0) dX4_follow_6 rfl ?_
  refine ev_cV1 (c4_go0 σ (upd z 2 (nI 0)) Y g hℓ ((upd_n _ _ (by decide)).trans hl)) kX4_go rfl g1347 rfl rfl rfl rfl dX4_follow_7 ?_
  refine ev_istore_n 1 dX4_follow_10 rfl (Nat.le_of_ble_eq_true rfl) rfl ?_
  refine ev_aload_n 0 dX4_follow_11 rfl rfl ?_
  refine ev_getfield 10 dX4_follow_12 foX4_143 rfl rfl ?_
  refine ev_top (bI (goF Y.2.2.2.2.1 ℓ (ℓ + 1) 0).2) rfl ?_
  refine ev_if_eq 24 dX4_follow_15 (by decide) (fun h15 => ?_) (fun h15 => absurd (by rw [h]; rfl) h15)
  refine ev_aload_n 0 dX4_follow_24 rfl rfl ?_
  refine ev_cV0v (c4_keepsAside _ _ _ _) kX4_keepsAside rfl g1371 rfl rfl rfl rfl dX4_follow_25 ?_
  refine ev_aload_n 0 dX4_follow_28 rfl rfl ?_
  refine ev_iconst (nI 1) dX4_follow_29 rfl ?_
  refine ev_cV1 (c4_go1 σ (zE (upd z 2 (nI 0)) (goF Y.2.2.2.2.1 ℓ (ℓ + 1) 0)) (Y.1, Y.2.1, Y.2.2.1, va_cpy σ Y.2.2.2.1 0 0 109, Y.2.2.2.2) g hℓ ((zE_n _ _ (by decide) (by decide)).trans ((upd_n _ _ (by decide)).trans hl)) GI hI h0) kX4_go rfl g1347 rfl rfl rfl rfl dX4_follow_30 ?_
  refine ev_w (w' := rw9 (goT Y.2.2.2.2.1 ℓ (ℓ + 1) 0 σ).2.1 (zE (upd z 2 (nI 0)) (goT Y.2.2.2.2.1 ℓ (ℓ + 1) 0 σ).2.2) (Y.1, Y.2.1, Y.2.2.1, va_cpy σ Y.2.2.2.1 0 0 109, Y.2.2.2.2) g) (congrArg (fun q => rw9 (goT Y.2.2.2.2.1 ℓ (ℓ + 1) 0 σ).2.1 q (Y.1, Y.2.1, Y.2.2.1, va_cpy σ Y.2.2.2.1 0 0 109, Y.2.2.2.2) g) (zE_z _ _ _)) ?_
  refine ev_istore_n 1 dX4_follow_33 rfl (Nat.le_of_ble_eq_true rfl) rfl ?_
  refine ev_aload_n 0 dX4_follow_34 rfl rfl ?_
  refine ev_cV0v (c4_putsBack (goT Y.2.2.2.2.1 ℓ (ℓ + 1) 0 σ).2.1 (zE (upd z 2 (nI 0)) (goT Y.2.2.2.2.1 ℓ (ℓ + 1) 0 σ).2.2) (Y.1, Y.2.1, Y.2.2.1, va_cpy σ Y.2.2.2.1 0 0 109, Y.2.2.2.2) g) kX4_putsBack rfl g1375 rfl rfl rfl rfl dX4_follow_35 ?_
  refine ev_w (w' := rw9 σ (zE (upd z 2 (nI 0)) (goT Y.2.2.2.2.1 ℓ (ℓ + 1) 0 σ).2.2) (Y.1, Y.2.1, Y.2.2.1, σ, Y.2.2.2.2) g) rw_back ?_
  refine ev_iload_n 1 dX4_follow_38 rfl rfl ?_
  refine ev_if_ne 48 dX4_follow_39 (by decide) (fun h39 => ?_) (fun h39 => absurd h39 (by rw [hR]; decide))
  refine ev_aload_n 0 dX4_follow_48 rfl rfl ?_
  refine ev_cV0v (c4_save σ (zE (upd z 2 (nI 0)) (goT Y.2.2.2.2.1 ℓ (ℓ + 1) 0 σ).2.2) (Y.1, Y.2.1, Y.2.2.1, σ, Y.2.2.2.2) g hn ((zE_n _ _ (by decide) (by decide)).trans ((upd_n _ _ (by decide)).trans hz))) kX4_save rfl g1176 rfl rfl rfl rfl dX4_follow_49 ?_
  refine ev_w (w' := rw9 σ (zE (svZ (upd z 2 (nI 0)) n) (goT Y.2.2.2.2.1 ℓ (ℓ + 1) 0 σ).2.2) (svY σ (Y.1, Y.2.1, Y.2.2.1, σ, Y.2.2.2.2) n) g) (congrArg (fun q => rw9 σ q (svY σ (Y.1, Y.2.1, Y.2.2.1, σ, Y.2.2.2.2) n) g) (svZ_E _ _ _)) ?_
  refine ev_aload_n 0 dX4_follow_52 rfl rfl ?_
  refine ev_iconst (nI 1) dX4_follow_53 rfl ?_
  refine ev_cV1 (c4_go1 σ (zE (svZ (upd z 2 (nI 0)) n) (goT Y.2.2.2.2.1 ℓ (ℓ + 1) 0 σ).2.2) (svY σ (Y.1, Y.2.1, Y.2.2.1, σ, Y.2.2.2.2) n) g hℓ ((zE_n _ _ (by decide) (by decide)).trans ((svZ_n (by decide)).trans ((upd_n _ _ (by decide)).trans hl))) GI hI h0) kX4_go rfl g1347 rfl rfl rfl rfl dX4_follow_54 ?_
  refine ev_w (w' := rw9 (goT Y.2.2.2.2.1 ℓ (ℓ + 1) 0 σ).2.1 (zE (svZ (upd z 2 (nI 0)) n) (goT Y.2.2.2.2.1 ℓ (ℓ + 1) 0 σ).2.2) (svY σ (Y.1, Y.2.1, Y.2.2.1, σ, Y.2.2.2.2) n) g) (congrArg (fun q => rw9 (goT Y.2.2.2.2.1 ℓ (ℓ + 1) 0 σ).2.1 q (svY σ (Y.1, Y.2.1, Y.2.2.1, σ, Y.2.2.2.2) n) g) (zE_z _ _ _)) ?_
  refine ev_istore_n 1 dX4_follow_57 rfl (Nat.le_of_ble_eq_true rfl) rfl ?_
  refine ev_aload_n 0 dX4_follow_58 rfl rfl ?_
  refine ev_iconst (nI 0) dX4_follow_59 rfl ?_
  refine ev_putfield 7 dX4_follow_60 fpX4_137 rfl (Nat.le_of_ble_eq_true rfl) (fun _ => rfl) (fun _ => rfl) (rz1 _ _ _ _ _) ?_
  refine ev_w (w' := rw9 (goT Y.2.2.2.2.1 ℓ (ℓ + 1) 0 σ).2.1 (zE (upd (svZ (upd z 2 (nI 0)) n) 1 (nI 0)) (goT Y.2.2.2.2.1 ℓ (ℓ + 1) 0 σ).2.2) (svY σ (Y.1, Y.2.1, Y.2.2.1, σ, Y.2.2.2.2) n) g) (congrArg (fun q => rw9 (goT Y.2.2.2.2.1 ℓ (ℓ + 1) 0 σ).2.1 q (svY σ (Y.1, Y.2.1, Y.2.2.1, σ, Y.2.2.2.2) n) g) (zE_u _ _ _ (by decide) (by decide))) ?_
  refine ev_aload_n 0 dX4_follow_63 rfl rfl ?_
  refine ev_cV0 (c4_allCalled _ _ _ _) kX4_allCalled rfl g1379 rfl rfl rfl rfl dX4_follow_64 ?_
  exact ev_ireturn dX4_follow_67 (Nat.le_of_ble_eq_true rfl) ⟨rfl, rfl⟩
