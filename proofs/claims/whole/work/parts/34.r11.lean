/-! ===== the reference: fall, the share, the digest ===== -/
def yH (Y : RY) (h : Int64) : RY := (Y.1, Y.2.1, Y.2.2.1, Y.2.2.2.1, Y.2.2.2.2.1, h)
def yA (Y : RY) (a : Nat → Int32) (h : Int64) : RY := (Y.1, Y.2.1, Y.2.2.1, a, Y.2.2.2.2.1, h)
def hR (Y : RY) : Int64 := Y.2.2.2.2.2
def rgF (σ : Nat → Int32) (lo : Nat) (h : Int64) : Nat → Int64
  | 0 => h
  | n + 1 => mx (rgF σ lo h n) (σ (lo + n)).toInt64
def drC (σ : Nat → Int32) (h : Int64) (c : Nat) : Int64 := mxL (hpF σ c h 8) [worS σ c 6, covI σ c (nI 0) (nI 1), romS σ c, bI (isK σ c), σ (ix c 8), σ (ix c 9), rnkS σ c 8, falS σ c + nI 1, falS σ c + nI 1, (sellsS σ c).2, (sellsS σ c).1 106 - σ 106]
def drN (σ : Nat → Int32) : Nat → Int64
  | 0 => dgK σ 6
  | n + 1 => drC σ (drN σ n) n
def drP (σ : Nat → Int32) (h : Int64) : Nat → Int64
  | 0 => h
  | n + 1 => mxL (drP σ h n) [rkyS σ (nI n) 8, rkyS σ (nI n) 8]
def drA (σ : Nat → Int32) (n : Nat) (B h : Int64) : Int64 := mx (mx (rgF σ 103 (mxL (mxL (rgF σ 98 (mxL h [allS σ 8]) 4) [ifFS σ (nI 10) 8, ifFS σ (nI 50) 8]) [σ 102, dbS σ 8, σ 103 + σ 104 - σ 105 - σ 106]) 6) (nI n).toInt64) B
def drD (σ : Nat → Int32) (n : Nat) (B : Int64) (ik bu : Nat → Int32) (ℓ : Nat) : Int64 := hsC bu (mx (mxL (drA σ n B (drP σ (drN σ 8) 8)) [ik 0, ik 1]) (nI ℓ).toInt64) ℓ
def asD (Y : RY) (σ : Nat → Int32) (j : Nat) : Nat → Int32 := if j = 0 then Y.2.2.2.1 else σ
theorem mxL_1 (h : Int64) (l : List Int32) (x : Int32) : mxL h (l ++ [x]) = mx (mxL h l) x.toInt64 := by simp only [mxL, List.foldl_append, List.foldl_cons, List.foldl_nil]
set_option maxHeartbeats 1000000 in
theorem p4_fall_1 (σ z : Nat → Int32) (Y : RY) (g : PW) {v : Int32} (h : inB v (nI 1) (nI 90) = false) : Ct mX4_fall [.ref 0, .int v] (rw9 σ z Y g) (d1 (some (.int (nI 0))) (rw9 σ (upd (upd z 2 (nI 0)) 2 (nI 1)) Y g)) nx := by
  refine ct_of 1 kX4_fall.1 rfl (Nat.le_of_ble_eq_true rfl) (fun v u h => by obtain ⟨rfl, rfl⟩ := h; exact rfl) ?_
  show Ev _ _ _ 0 0 [(0, .ref 0), (1, .int v)] [] _
  refine ev_aload_n 0 dX4_fall_0 rfl rfl ?_
  refine ev_iconst (nI 0) dX4_fall_1 rfl ?_
  refine ev_putfield 8 dX4_fall_2 fpX4_29 rfl (Nat.le_of_ble_eq_true rfl) (fun _ => rfl) (fun _ => rfl) (rz2 _ _ _ _ _) ?_
  refine ev_iload_n 1 dX4_fall_5 rfl rfl ?_
  refine ev_iconst (nI 1) dX4_fall_6 rfl ?_
  refine ev_bipush (nI 90) dX4_fall_7 rfl ?_
  refine ev_cS3 (c4_in0 _ h) kX4_in rfl g1165 rfl rfl dX4_fall_9 ?_
  refine ev_if_ne 21 dX4_fall_12 (by decide) (fun h12 => absurd (by decide) h12) (fun h12 => ?_)
  refine ev_aload_n 0 dX4_fall_15 rfl rfl ?_
  refine ev_iconst (nI 1) dX4_fall_16 rfl ?_
  refine ev_cV1 (c4_throwing _ _ _ _ _) kX4_throwing rfl g1172 rfl rfl rfl rfl dX4_fall_17 ?_
  exact ev_ireturn dX4_fall_20 (Nat.le_of_ble_eq_true rfl) ⟨rfl, rfl⟩
set_option maxHeartbeats 1000000 in
theorem p4_fall_0 (σ z : Nat → Int32) (Y : RY) (g : PW) {v : Int32} (h : inB v (nI 1) (nI 90) = true) {n : Nat} (hn : n ≤ 6) (hz : z 0 = nI n) : Ct mX4_fall [.ref 0, .int v] (rw9 σ z Y g) (d1 (some (.int (lookN (drpN σ v 6) 8 107 - σ 107))) (rw9 (lookN (drpN σ v 6) 8) (svZ (upd z 2 (nI 0)) n) (svY σ Y n) g)) nx := by
  refine ct_of 1 kX4_fall.1 rfl (Nat.le_of_ble_eq_true rfl) (fun v u h => by obtain ⟨rfl, rfl⟩ := h; exact rfl) ?_
  show Ev _ _ _ 0 0 [(0, .ref 0), (1, .int v)] [] _
  refine ev_aload_n 0 dX4_fall_0 rfl rfl ?_
  refine ev_iconst (nI 0) dX4_fall_1 rfl ?_
  refine ev_putfield 8 dX4_fall_2 fpX4_29 rfl (Nat.le_of_ble_eq_true rfl) (fun _ => rfl) (fun _ => rfl) (rz2 _ _ _ _ _) ?_
  refine ev_iload_n 1 dX4_fall_5 rfl rfl ?_
  refine ev_iconst (nI 1) dX4_fall_6 rfl ?_
  refine ev_bipush (nI 90) dX4_fall_7 rfl ?_
  refine ev_cS3 (c4_in1 _ h) kX4_in rfl g1165 rfl rfl dX4_fall_9 ?_
  refine ev_if_ne 21 dX4_fall_12 (by decide) (fun h12 => ?_) (fun h12 => absurd h12 (by decide))
  refine ev_aload_n 0 dX4_fall_21 rfl rfl ?_
  refine ev_cV0v (c4_save _ _ _ _ hn ((upd_n _ _ (by decide)).trans hz)) kX4_save rfl g1176 rfl rfl rfl rfl dX4_fall_22 ?_
  refine ev_aload_n 0 dX4_fall_25 rfl rfl ?_
  refine ev_getfield 0 dX4_fall_26 foX4_7 rfl rfl ?_
  refine ev_bipush (nI 107) dX4_fall_29 rfl ?_
  refine ev_ild (107) dX4_fall_31 rfl (by simp only [nI_m, nI_add, ix, oI]) (by omega) rfl ?_
  refine ev_istore_n 2 dX4_fall_32 rfl (Nat.le_of_ble_eq_true rfl) rfl ?_
  refine ev_iconst (nI 0) dX4_fall_33 rfl ?_
  refine ev_istore_n 3 dX4_fall_34 rfl (Nat.le_of_ble_eq_true rfl) rfl ?_
  suffices H : ∀ fu j, j + fu = 6 → Ev mX4_fall (d1 (some (.int (lookN (drpN σ v 6) 8 107 - σ 107))) (rw9 (lookN (drpN σ v 6) 8) (svZ (upd z 2 (nI 0)) n) (svY σ Y n) g)) nx 0 35 [(3, .int (nI (j))), (2, .int (σ 107)), (0, .ref 0), (1, .int v)] [] (rw9 (drpN σ v j) (svZ (upd z 2 (nI 0)) n) (svY σ Y n) g) from ev_sub [0, 1, 2, 3] rfl (H 6 0 (Nat.zero_add _))
  intro fu
  induction fu with
  | zero =>
    intro j hj
    obtain rfl : 6 = j := by omega
    refine ev_iload_n 3 dX4_fall_35 rfl rfl ?_
    refine ev_bipush (nI 6) dX4_fall_36 rfl ?_
    refine ev_icmp_ge 78 dX4_fall_38 (by decide) (fun h38 => ?_) (fun h38 => absurd (nI_le (Nat.le_refl 6) (by omega)) h38)
    refine ev_aload_n 0 dX4_fall_78 rfl rfl ?_
    refine ev_cV0v (c4_looks _ _ _ _) kX4_looks rfl g1180 rfl rfl rfl rfl dX4_fall_79 ?_
    refine ev_aload_n 0 dX4_fall_82 rfl rfl ?_
    refine ev_getfield 0 dX4_fall_83 foX4_7 rfl rfl ?_
    refine ev_bipush (nI 107) dX4_fall_86 rfl ?_
    refine ev_ild (107) dX4_fall_88 rfl (by simp only [nI_m, nI_add, ix, oI]) (by omega) rfl ?_
    refine ev_iload_n 2 dX4_fall_89 rfl rfl ?_
    refine ev_isub dX4_fall_90 ?_
    exact ev_ireturn dX4_fall_91 (Nat.le_of_ble_eq_true rfl) ⟨rfl, rfl⟩
  | succ fu ih =>
    intro j hj
    have hj6 : j < 6 := by omega
    refine ev_iload_n 3 dX4_fall_35 rfl rfl ?_
    refine ev_bipush (nI 6) dX4_fall_36 rfl ?_
    refine ev_icmp_ge 78 dX4_fall_38 (by decide) (fun h38 => absurd h38 (nI_ge hj6 (by omega))) (fun h38 => ?_)
    refine ev_aload_n 0 dX4_fall_41 rfl rfl ?_
    refine ev_aload_n 0 dX4_fall_42 rfl rfl ?_
    refine ev_getfield 0 dX4_fall_43 foX4_7 rfl rfl ?_
    refine ev_iload_n 3 dX4_fall_46 rfl rfl ?_
    refine ev_ild (j) dX4_fall_47 rfl (by simp only [nI_m, nI_add, ix, oI]) (by omega) rfl ?_
    refine ev_iload_n 1 dX4_fall_48 rfl rfl ?_
    refine ev_cV2 (c4_fallen _ _ _) kX4_fallen rfl g1200 rfl rfl rfl rfl dX4_fall_49 ?_
    refine ev_istore dX4_fall_52 (Nat.le_of_ble_eq_true rfl) rfl ?_
    refine ev_aload_n 0 dX4_fall_54 rfl rfl ?_
    refine ev_getfield 0 dX4_fall_55 foX4_7 rfl rfl ?_
    refine ev_iload_n 3 dX4_fall_58 rfl rfl ?_
    refine ev_iload dX4_fall_59 rfl ?_
    refine ev_iconst (nI 1) dX4_fall_61 rfl ?_
    suffices J62 : Ev mX4_fall (d1 (some (.int (lookN (drpN σ v 6) 8 107 - σ 107))) (rw9 (lookN (drpN σ v 6) 8) (svZ (upd z 2 (nI 0)) n) (svY σ Y n) g)) nx 0 71 [(4, .int (falI (drpN σ v j j) v)), (3, .int (nI j)), (2, .int (σ 107)), (0, .ref 0), (1, .int v)] [.int (fal3 (drpN σ v j j) v (nI 1)), .int (nI j), .ref 1] (rw9 (drpN σ v j) (svZ (upd z 2 (nI 0)) n) (svY σ Y n) g) by
      refine ev_icmp_ge 69 dX4_fall_62 (by decide) (fun h62 => ?_) (fun h62 => ?_)
      · refine ev_iload dX4_fall_69 rfl ?_
        exact ev_sub [0, 1, 2, 3, 4] rfl (ev_top _ (by first | exact (if_neg (Int32.not_lt.mpr h62)).symm | exact (if_pos (Int32.not_le.mp h62)).symm) J62)
      · refine ev_iconst (nI 1) dX4_fall_65 rfl ?_
        refine ev_goto 71 dX4_fall_66 (by decide) ?_
        exact ev_sub [0, 1, 2, 3, 4] rfl (ev_top _ (by first | exact (if_neg (Int32.not_lt.mpr h62)).symm | exact (if_pos (Int32.not_le.mp h62)).symm) J62)
    refine ev_ist j dX4_fall_71 rfl rfl (by omega) rfl (rw_s _ _ _ _ _) ?_
    refine ev_w (w' := rw9 (drpN σ v (j + 1)) (svZ (upd z 2 (nI 0)) n) (svY σ Y n) g) rfl ?_
    refine ev_iinc (nI (j + 1)) dX4_fall_72 rfl (nI_1 j) (Nat.le_of_ble_eq_true rfl) rfl ?_
    refine ev_goto 35 dX4_fall_75 (by decide) ?_
    exact ev_sub [0, 2, 3, 4] rfl (ih (j + 1) (by omega))
set_option maxHeartbeats 1000000 in
theorem c4_used (σ z : Nat → Int32) (Y : RY) (g : PW) (hne : ¬ cvS σ 8 = 0 → vf_n64 (useD σ)) : Ct mX4_used [.ref 0] (rw9 σ z Y g) (d1 (some (.double (usS σ))) (rw9 σ z Y g)) nx := by
  refine ct_of 0 kX4_used.1 rfl (Nat.le_of_ble_eq_true rfl) (fun v u h => by obtain ⟨rfl, rfl⟩ := h; exact rfl) ?_
  show Ev _ _ _ 0 0 [(0, .ref 0)] [] _
  refine ev_iconst (nI 0) dX4_used_0 rfl ?_
  refine ev_istore_n 1 dX4_used_1 rfl (Nat.le_of_ble_eq_true rfl) rfl ?_
  refine ev_iconst (nI 0) dX4_used_2 rfl ?_
  refine ev_istore_n 2 dX4_used_3 rfl (Nat.le_of_ble_eq_true rfl) rfl ?_
  suffices H : ∀ fu j, j + fu = 8 → Ev mX4_used (d1 (some (.double (usS σ))) (rw9 σ z Y g)) nx 0 4 [(2, .int (nI (j))), (1, .int (cvS σ (j))), (0, .ref 0)] [] ((rw9 σ z Y g)) from ev_sub [0, 1, 2] rfl (H 8 0 (Nat.zero_add _))
  intro fu
  induction fu with
  | zero =>
    intro j hj
    obtain rfl : 8 = j := by omega
    refine ev_iload_n 2 dX4_used_4 rfl rfl ?_
    refine ev_bipush (nI 8) dX4_used_5 rfl ?_
    refine ev_icmp_ge 24 dX4_used_7 (by decide) (fun h7 => ?_) (fun h7 => absurd (nI_le (Nat.le_refl 8) (by omega)) h7)
    refine ev_iload_n 1 dX4_used_24 rfl rfl ?_
    refine ev_if_ne 32 dX4_used_25 (by decide) (fun h9 => ?_) (fun h9 => ?_)
    · have e9 : usS σ = useD σ := if_neg h9
      refine ev_aload_n 0 dX4_used_32 rfl rfl ?_
      refine ev_cV0 (c4_debts _ _ _ _) kX4_debts rfl g1563 rfl rfl rfl rfl dX4_used_33 ?_
      refine ev_i2d dX4_used_36 ?_
      refine ev_iload_n 1 dX4_used_37 rfl rfl ?_
      refine ev_i2d dX4_used_38 ?_
      refine ev_ddiv dX4_used_39 (hne h9) ?_
      exact ev_dreturn dX4_used_40 (Nat.le_of_ble_eq_true rfl) ⟨by rw [e9]; rfl, rfl⟩
    · have e9 : usS σ = FP.dconst0 := if_pos h9
      refine ev_dconst0 dX4_used_28 ?_
      refine ev_goto 40 dX4_used_29 (by decide) ?_
      exact ev_dreturn dX4_used_40 (Nat.le_of_ble_eq_true rfl) ⟨by rw [e9], rfl⟩
  | succ fu ih =>
    intro j hj
    have hj6 : j < 8 := by omega
    refine ev_iload_n 2 dX4_used_4 rfl rfl ?_
    refine ev_bipush (nI 8) dX4_used_5 rfl ?_
    refine ev_icmp_ge 24 dX4_used_7 (by decide) (fun h7 => absurd h7 (nI_ge hj6 (by omega))) (fun h7 => ?_)
    refine ev_iload_n 1 dX4_used_10 rfl rfl ?_
    refine ev_aload_n 0 dX4_used_11 rfl rfl ?_
    refine ev_iload_n 2 dX4_used_12 rfl rfl ?_
    refine ev_cV1 (c4_cover _ _ _ _ (by omega)) kX4_cover rfl g1192 rfl rfl rfl rfl dX4_used_13 ?_
    refine ev_iadd dX4_used_16 ?_
    refine ev_istore_n 1 dX4_used_17 rfl (Nat.le_of_ble_eq_true rfl) rfl ?_
    refine ev_iinc (nI (j + 1)) dX4_used_18 rfl (nI_1 j) (Nat.le_of_ble_eq_true rfl) rfl ?_
    refine ev_goto 4 dX4_used_21 (by decide) ?_
    exact ev_sub [0, 1, 2] rfl (ih (j + 1) (by omega))
set_option maxHeartbeats 1000000 in
theorem p4_usedShare (σ z : Nat → Int32) (Y : RY) (g : PW) (hne : ¬ cvS σ 8 = 0 → vf_n64 (useD σ)) : Ct mX4_usedShare [.ref 0] (rw9 σ z Y g) (d1 (some (.double (usS σ))) (rw9 σ (upd z 2 (nI 0)) Y g)) nx := by
  refine ct_of 0 kX4_usedShare.1 rfl (Nat.le_of_ble_eq_true rfl) (fun v u h => by obtain ⟨rfl, rfl⟩ := h; exact rfl) ?_
  show Ev _ _ _ 0 0 [(0, .ref 0)] [] _
  refine ev_aload_n 0 dX4_usedShare_0 rfl rfl ?_
  refine ev_iconst (nI 0) dX4_usedShare_1 rfl ?_
  refine ev_putfield 8 dX4_usedShare_2 fpX4_29 rfl (Nat.le_of_ble_eq_true rfl) (fun _ => rfl) (fun _ => rfl) (rz2 _ _ _ _ _) ?_
  refine ev_aload_n 0 dX4_usedShare_5 rfl rfl ?_
  refine ev_cV0 (c4_used _ _ _ _ hne) kX4_used rfl g1599 rfl rfl rfl rfl dX4_usedShare_6 ?_
  exact ev_dreturn dX4_usedShare_9 (Nat.le_of_ble_eq_true rfl) ⟨rfl, rfl⟩
set_option maxHeartbeats 1000000 in
theorem c4_mix (σ z : Nat → Int32) (Y : RY) (g : PW) (v : Int64) : Ct mX4_mix [.ref 0, .long v] (rw9 σ z Y g) (d1 none (rw9 σ z (yH Y (mx (hR Y) v)) g)) nx := by
  refine ct_of 1 kX4_mix.1 rfl (Nat.le_of_ble_eq_true rfl) (fun v u h => by obtain ⟨rfl, rfl⟩ := h; exact trivial) ?_
  show Ev _ _ _ 0 0 [(0, .ref 0), (1, .long v)] [] _
  refine ev_aload_n 0 dX4_mix_0 rfl rfl ?_
  refine ev_ldc2 (lN 31) dX4_mix_1 g1612 ?_
  refine ev_aload_n 0 dX4_mix_4 rfl rfl ?_
  refine ev_getfield 11 dX4_mix_5 foX4_223 rfl rfl ?_
  refine ev_lmul dX4_mix_8 ?_
  refine ev_lload_n 1 dX4_mix_9 rfl rfl ?_
  refine ev_ladd dX4_mix_10 ?_
  refine ev_putfield 11 dX4_mix_11 fpX4_223 rfl (Nat.le_of_ble_eq_true rfl) (fun _ => rfl) (fun _ => rfl) (rzh _ _ _ _ _) ?_
  exact ev_return dX4_mix_14 (Nat.le_of_ble_eq_true rfl) ⟨rfl, rfl⟩
set_option maxHeartbeats 1000000 in
theorem p4_digest (σ z : Nat → Int32) (Y : RY) (g : PW) {n ℓ : Nat} (hn : z 0 = nI n) (hl : z 1 = nI ℓ) (hℓ : ℓ ≤ 60) (hP : ∀ c, c < 8 → nP σ c 6 ≤ 594) (hik : ∀ s, s < 2 → Y.2.2.1 s = 0 ∨ Y.2.2.1 s = 1) (hne : ¬ cvS σ 8 = 0 → vf_n64 (useD σ)) {B : Int64} (hbits : ∀ w : PW, Ct mX4_bitsOf [.double (usS σ), .int (nI 52), .int (nI 1023)] w (d1 (some (.long B)) w) nx) : Ct mX4_digest [.ref 0] (rw9 σ z Y g) (d1 (some (.long (drD σ n B Y.2.2.1 Y.2.2.2.2.1 ℓ))) (rw9 σ (upd z 2 (nI 0)) (yA Y σ (drD σ n B Y.2.2.1 Y.2.2.2.2.1 ℓ)) g)) nx := by
  refine ct_of 0 kX4_digest.1 rfl (Nat.le_of_ble_eq_true rfl) (fun v u h => by obtain ⟨rfl, rfl⟩ := h; exact rfl) ?_
  show Ev _ _ _ 0 0 [(0, .ref 0)] [] _
  refine ev_aload_n 0 dX4_digest_0 rfl rfl ?_
  refine ev_iconst (nI 0) dX4_digest_1 rfl ?_
  refine ev_putfield 8 dX4_digest_2 fpX4_29 rfl (Nat.le_of_ble_eq_true rfl) (fun _ => rfl) (fun _ => rfl) (rz2 _ _ _ _ _) ?_
  refine ev_aload_n 0 dX4_digest_5 rfl rfl ?_
  refine ev_ldc2 (lN 4397) dX4_digest_6 g1607 ?_
  refine ev_putfield 11 dX4_digest_9 fpX4_223 rfl (Nat.le_of_ble_eq_true rfl) (fun _ => rfl) (fun _ => rfl) (rzh _ _ _ _ _) ?_
  refine ev_iconst (nI 0) dX4_digest_12 rfl ?_
  refine ev_istore_n 1 dX4_digest_13 rfl (Nat.le_of_ble_eq_true rfl) rfl ?_
  refine ev_w (w' := rw9 σ (upd z 2 (nI 0)) (yA Y Y.2.2.2.1 (dgK σ 0)) g) rfl ?_
  suffices H : ∀ fu j, j + fu = 6 → Ev mX4_digest (d1 (some (.long (drD σ n B Y.2.2.1 Y.2.2.2.2.1 ℓ))) (rw9 σ (upd z 2 (nI 0)) (yA Y σ (drD σ n B Y.2.2.1 Y.2.2.2.2.1 ℓ)) g)) nx 0 14 [(1, .int (nI (j))), (0, .ref 0)] [] (rw9 σ (upd z 2 (nI 0)) (yA Y Y.2.2.2.1 (dgK σ j)) g) from ev_sub [0, 1] rfl (H 6 0 (Nat.zero_add _))
  intro fu
  induction fu with
  | zero =>
    intro j hj
    obtain rfl : 6 = j := by omega
    refine ev_iload_n 1 dX4_digest_14 rfl rfl ?_
    refine ev_bipush (nI 6) dX4_digest_15 rfl ?_
    refine ev_icmp_ge 75 dX4_digest_17 (by decide) (fun h17 => ?_) (fun h17 => absurd (nI_le (Nat.le_refl 6) (by omega)) h17)
    refine ev_iconst (nI 0) dX4_digest_75 rfl ?_
    refine ev_istore_n 1 dX4_digest_76 rfl (Nat.le_of_ble_eq_true rfl) rfl ?_
    refine ev_w (w' := rw9 σ (upd z 2 (nI 0)) (yA Y (asD Y σ 0) (drN σ 0)) g) rfl ?_
    suffices H : ∀ fu j, j + fu = 8 → Ev mX4_digest (d1 (some (.long (drD σ n B Y.2.2.1 Y.2.2.2.2.1 ℓ))) (rw9 σ (upd z 2 (nI 0)) (yA Y σ (drD σ n B Y.2.2.1 Y.2.2.2.2.1 ℓ)) g)) nx 0 77 [(1, .int (nI (j))), (0, .ref 0)] [] (rw9 σ (upd z 2 (nI 0)) (yA Y (asD Y σ j) (drN σ j)) g) from ev_sub [0, 1] rfl (H 8 0 (Nat.zero_add _))
    intro fu
    induction fu with
    | zero =>
      intro j hj
      obtain rfl : 8 = j := by omega
      refine ev_iload_n 1 dX4_digest_77 rfl rfl ?_
      refine ev_bipush (nI 8) dX4_digest_78 rfl ?_
      refine ev_icmp_ge 241 dX4_digest_80 (by decide) (fun h80 => ?_) (fun h80 => absurd (nI_le (Nat.le_refl 8) (by omega)) h80)
      refine ev_iconst (nI 0) dX4_digest_241 rfl ?_
      refine ev_istore_n 1 dX4_digest_242 rfl (Nat.le_of_ble_eq_true rfl) rfl ?_
      refine ev_w (w' := rw9 σ (upd z 2 (nI 0)) (yA Y σ (drP σ (drN σ 8) 0)) g) rfl ?_
      suffices H : ∀ fu j, j + fu = 8 → Ev mX4_digest (d1 (some (.long (drD σ n B Y.2.2.1 Y.2.2.2.2.1 ℓ))) (rw9 σ (upd z 2 (nI 0)) (yA Y σ (drD σ n B Y.2.2.1 Y.2.2.2.2.1 ℓ)) g)) nx 0 243 [(1, .int (nI (j))), (0, .ref 0)] [] (rw9 σ (upd z 2 (nI 0)) (yA Y σ (drP σ (drN σ 8) j)) g) from ev_sub [0, 1] rfl (H 8 0 (Nat.zero_add _))
      intro fu
      induction fu with
      | zero =>
        intro j hj
        obtain rfl : 8 = j := by omega
        refine ev_iload_n 1 dX4_digest_243 rfl rfl ?_
        refine ev_bipush (nI 8) dX4_digest_244 rfl ?_
        refine ev_icmp_ge 275 dX4_digest_246 (by decide) (fun h246 => ?_) (fun h246 => absurd (nI_le (Nat.le_refl 8) (by omega)) h246)
        refine ev_aload_n 0 dX4_digest_275 rfl rfl ?_
        refine ev_aload_n 0 dX4_digest_276 rfl rfl ?_
        refine ev_cV0 (c4_allCalled _ _ _ _) kX4_allCalled rfl g1379 rfl rfl rfl rfl dX4_digest_277 ?_
        refine ev_i2l dX4_digest_280 ?_
        refine ev_cV1v (c4_mix _ _ _ _ _) kX4_mix rfl g1608 rfl rfl rfl rfl dX4_digest_281 ?_
        refine ev_w (w' := rw9 σ (upd z 2 (nI 0)) (yA Y σ (mxL (drP σ (drN σ 8) 8) [allS σ 8])) g) rfl ?_
        refine ev_bipush (nI 98) dX4_digest_284 rfl ?_
        refine ev_istore_n 1 dX4_digest_286 rfl (Nat.le_of_ble_eq_true rfl) rfl ?_
        refine ev_w (w' := rw9 σ (upd z 2 (nI 0)) (yA Y σ (rgF σ 98 (mxL (drP σ (drN σ 8) 8) [allS σ 8]) 0)) g) rfl ?_
        suffices H287 : ∀ fu j, j + fu = 4 → Ev mX4_digest (d1 (some (.long (drD σ n B Y.2.2.1 Y.2.2.2.2.1 ℓ))) (rw9 σ (upd z 2 (nI 0)) (yA Y σ (drD σ n B Y.2.2.1 Y.2.2.2.2.1 ℓ)) g)) nx 0 287 [(1, .int (nI (98 + j))), (0, .ref 0)] [] (rw9 σ (upd z 2 (nI 0)) (yA Y σ (rgF σ 98 (mxL (drP σ (drN σ 8) 8) [allS σ 8]) j)) g) from ev_sub [0, 1] rfl (H287 4 0 rfl)
        intro fu
        induction fu with
        | zero =>
          intro j hj
          obtain rfl : 4 = j := by omega
          refine ev_iload_n 1 dX4_digest_287 rfl rfl ?_
          refine ev_bipush (nI 101) dX4_digest_288 rfl ?_
          refine ev_icmp_gt 310 dX4_digest_290 (by decide) (fun h290 => ?_) (fun h290 => absurd (nI_lt (by omega) (by omega)) h290)
          refine ev_aload_n 0 dX4_digest_310 rfl rfl ?_
          refine ev_aload_n 0 dX4_digest_311 rfl rfl ?_
          refine ev_bipush (nI 10) dX4_digest_312 rfl ?_
          refine ev_cV1 (c4_ifFallen _ _ _ _ _) kX4_ifFallen rfl g1551 rfl rfl rfl rfl dX4_digest_314 ?_
          refine ev_i2l dX4_digest_317 ?_
          refine ev_cV1v (c4_mix _ _ _ _ _) kX4_mix rfl g1608 rfl rfl rfl rfl dX4_digest_318 ?_
          refine ev_w (w' := rw9 σ (upd z 2 (nI 0)) (yA Y σ (mxL (rgF σ 98 (mxL (drP σ (drN σ 8) 8) [allS σ 8]) 4) [ifFS σ (nI 10) 8])) g) rfl ?_
          refine ev_aload_n 0 dX4_digest_321 rfl rfl ?_
          refine ev_aload_n 0 dX4_digest_322 rfl rfl ?_
          refine ev_bipush (nI 50) dX4_digest_323 rfl ?_
          refine ev_cV1 (c4_ifFallen _ _ _ _ _) kX4_ifFallen rfl g1551 rfl rfl rfl rfl dX4_digest_325 ?_
          refine ev_i2l dX4_digest_328 ?_
          refine ev_cV1v (c4_mix _ _ _ _ _) kX4_mix rfl g1608 rfl rfl rfl rfl dX4_digest_329 ?_
          refine ev_w (w' := rw9 σ (upd z 2 (nI 0)) (yA Y σ (mxL (rgF σ 98 (mxL (drP σ (drN σ 8) 8) [allS σ 8]) 4) [ifFS σ (nI 10) 8, ifFS σ (nI 50) 8])) g) rfl ?_
          refine ev_aload_n 0 dX4_digest_332 rfl rfl ?_
          refine ev_aload_n 0 dX4_digest_333 rfl rfl ?_
          refine ev_getfield 0 dX4_digest_334 foX4_7 rfl rfl ?_
          refine ev_bipush (nI 102) dX4_digest_337 rfl ?_
          refine ev_ild (102) dX4_digest_339 rfl (by simp only [nI_m, nI_add, ix, oI]) (by omega) rfl ?_
          refine ev_i2l dX4_digest_340 ?_
          refine ev_cV1v (c4_mix _ _ _ _ _) kX4_mix rfl g1608 rfl rfl rfl rfl dX4_digest_341 ?_
          refine ev_w (w' := rw9 σ (upd z 2 (nI 0)) (yA Y σ (mxL (mxL (rgF σ 98 (mxL (drP σ (drN σ 8) 8) [allS σ 8]) 4) [ifFS σ (nI 10) 8, ifFS σ (nI 50) 8]) [σ 102])) g) rfl ?_
          refine ev_aload_n 0 dX4_digest_344 rfl rfl ?_
          refine ev_aload_n 0 dX4_digest_345 rfl rfl ?_
          refine ev_cV0 (c4_debts _ _ _ _) kX4_debts rfl g1563 rfl rfl rfl rfl dX4_digest_346 ?_
          refine ev_i2l dX4_digest_349 ?_
          refine ev_cV1v (c4_mix _ _ _ _ _) kX4_mix rfl g1608 rfl rfl rfl rfl dX4_digest_350 ?_
          refine ev_w (w' := rw9 σ (upd z 2 (nI 0)) (yA Y σ (mxL (mxL (rgF σ 98 (mxL (drP σ (drN σ 8) 8) [allS σ 8]) 4) [ifFS σ (nI 10) 8, ifFS σ (nI 50) 8]) [σ 102, dbS σ 8])) g) rfl ?_
          refine ev_aload_n 0 dX4_digest_353 rfl rfl ?_
          refine ev_aload_n 0 dX4_digest_354 rfl rfl ?_
          refine ev_getfield 0 dX4_digest_355 foX4_7 rfl rfl ?_
          refine ev_bipush (nI 103) dX4_digest_358 rfl ?_
          refine ev_ild (103) dX4_digest_360 rfl (by simp only [nI_m, nI_add, ix, oI]) (by omega) rfl ?_
          refine ev_aload_n 0 dX4_digest_361 rfl rfl ?_
          refine ev_getfield 0 dX4_digest_362 foX4_7 rfl rfl ?_
          refine ev_bipush (nI 104) dX4_digest_365 rfl ?_
          refine ev_ild (104) dX4_digest_367 rfl (by simp only [nI_m, nI_add, ix, oI]) (by omega) rfl ?_
          refine ev_iadd dX4_digest_368 ?_
          refine ev_aload_n 0 dX4_digest_369 rfl rfl ?_
          refine ev_getfield 0 dX4_digest_370 foX4_7 rfl rfl ?_
          refine ev_bipush (nI 105) dX4_digest_373 rfl ?_
          refine ev_ild (105) dX4_digest_375 rfl (by simp only [nI_m, nI_add, ix, oI]) (by omega) rfl ?_
          refine ev_isub dX4_digest_376 ?_
          refine ev_aload_n 0 dX4_digest_377 rfl rfl ?_
          refine ev_getfield 0 dX4_digest_378 foX4_7 rfl rfl ?_
          refine ev_bipush (nI 106) dX4_digest_381 rfl ?_
          refine ev_ild (106) dX4_digest_383 rfl (by simp only [nI_m, nI_add, ix, oI]) (by omega) rfl ?_
          refine ev_isub dX4_digest_384 ?_
          refine ev_i2l dX4_digest_385 ?_
          refine ev_cV1v (c4_mix _ _ _ _ _) kX4_mix rfl g1608 rfl rfl rfl rfl dX4_digest_386 ?_
          refine ev_w (w' := rw9 σ (upd z 2 (nI 0)) (yA Y σ (mxL (mxL (rgF σ 98 (mxL (drP σ (drN σ 8) 8) [allS σ 8]) 4) [ifFS σ (nI 10) 8, ifFS σ (nI 50) 8]) [σ 102, dbS σ 8, σ 103 + σ 104 - σ 105 - σ 106])) g) rfl ?_
          refine ev_bipush (nI 103) dX4_digest_389 rfl ?_
          refine ev_istore_n 1 dX4_digest_391 rfl (Nat.le_of_ble_eq_true rfl) rfl ?_
          refine ev_w (w' := rw9 σ (upd z 2 (nI 0)) (yA Y σ (rgF σ 103 (mxL (mxL (rgF σ 98 (mxL (drP σ (drN σ 8) 8) [allS σ 8]) 4) [ifFS σ (nI 10) 8, ifFS σ (nI 50) 8]) [σ 102, dbS σ 8, σ 103 + σ 104 - σ 105 - σ 106]) 0)) g) rfl ?_
          suffices H392 : ∀ fu j, j + fu = 6 → Ev mX4_digest (d1 (some (.long (drD σ n B Y.2.2.1 Y.2.2.2.2.1 ℓ))) (rw9 σ (upd z 2 (nI 0)) (yA Y σ (drD σ n B Y.2.2.1 Y.2.2.2.2.1 ℓ)) g)) nx 0 392 [(1, .int (nI (103 + j))), (0, .ref 0)] [] (rw9 σ (upd z 2 (nI 0)) (yA Y σ (rgF σ 103 (mxL (mxL (rgF σ 98 (mxL (drP σ (drN σ 8) 8) [allS σ 8]) 4) [ifFS σ (nI 10) 8, ifFS σ (nI 50) 8]) [σ 102, dbS σ 8, σ 103 + σ 104 - σ 105 - σ 106]) j)) g) from ev_sub [0, 1] rfl (H392 6 0 rfl)
          intro fu
          induction fu with
          | zero =>
            intro j hj
            obtain rfl : 6 = j := by omega
            refine ev_iload_n 1 dX4_digest_392 rfl rfl ?_
            refine ev_bipush (nI 108) dX4_digest_393 rfl ?_
            refine ev_icmp_gt 415 dX4_digest_395 (by decide) (fun h395 => ?_) (fun h395 => absurd (nI_lt (by omega) (by omega)) h395)
            refine ev_aload_n 0 dX4_digest_415 rfl rfl ?_
            refine ev_aload_n 0 dX4_digest_416 rfl rfl ?_
            refine ev_getfield 2 dX4_digest_417 foX4_37 rfl rfl ?_
            refine ev_top (nI n) ((upd_n _ _ (by decide)).trans hn) ?_
            refine ev_i2l dX4_digest_420 ?_
            refine ev_cV1v (c4_mix _ _ _ _ _) kX4_mix rfl g1608 rfl rfl rfl rfl dX4_digest_421 ?_
            refine ev_w (w' := rw9 σ (upd z 2 (nI 0)) (yA Y σ (mx (rgF σ 103 (mxL (mxL (rgF σ 98 (mxL (drP σ (drN σ 8) 8) [allS σ 8]) 4) [ifFS σ (nI 10) 8, ifFS σ (nI 50) 8]) [σ 102, dbS σ 8, σ 103 + σ 104 - σ 105 - σ 106]) 6) (nI n).toInt64)) g) rfl ?_
            refine ev_aload_n 0 dX4_digest_424 rfl rfl ?_
            refine ev_aload_n 0 dX4_digest_425 rfl rfl ?_
            refine ev_cV0 (c4_used _ _ _ _ hne) kX4_used rfl g1599 rfl rfl rfl rfl dX4_digest_426 ?_
            refine ev_bipush (nI 52) dX4_digest_429 rfl ?_
            refine ev_sipush (nI 1023) dX4_digest_431 rfl ?_
            refine ev_cS3 (hbits _) kX4_bitsOf rfl g1613 rfl rfl dX4_digest_434 ?_
            refine ev_cV1v (c4_mix _ _ _ _ _) kX4_mix rfl g1608 rfl rfl rfl rfl dX4_digest_437 ?_
            refine ev_w (w' := rw9 σ (upd z 2 (nI 0)) (yA Y σ (mx (mx (rgF σ 103 (mxL (mxL (rgF σ 98 (mxL (drP σ (drN σ 8) 8) [allS σ 8]) 4) [ifFS σ (nI 10) 8, ifFS σ (nI 50) 8]) [σ 102, dbS σ 8, σ 103 + σ 104 - σ 105 - σ 106]) 6) (nI n).toInt64) B)) g) rfl ?_
            refine ev_aload_n 0 dX4_digest_440 rfl rfl ?_
            refine ev_aload_n 0 dX4_digest_441 rfl rfl ?_
            refine ev_getfield 4 dX4_digest_442 foX4_19 rfl rfl ?_
            refine ev_iconst (nI 0) dX4_digest_445 rfl ?_
            refine ev_bld 0 dX4_digest_446 rfl rfl (by omega) rfl ?_
            suffices J447 : Ev mX4_digest (d1 (some (.long (drD σ n B Y.2.2.1 Y.2.2.2.2.1 ℓ))) (rw9 σ (upd z 2 (nI 0)) (yA Y σ (drD σ n B Y.2.2.1 Y.2.2.2.2.1 ℓ)) g)) nx 0 455 [(1, .int (nI (103 + 6))), (0, .ref 0)] [.long (Y.2.2.1 0).toInt64, .ref 0] (rw9 σ (upd z 2 (nI 0)) (yA Y σ (mx (mx (rgF σ 103 (mxL (mxL (rgF σ 98 (mxL (drP σ (drN σ 8) 8) [allS σ 8]) 4) [ifFS σ (nI 10) 8, ifFS σ (nI 50) 8]) [σ 102, dbS σ 8, σ 103 + σ 104 - σ 105 - σ 106]) 6) (nI n).toInt64) B)) g) by
              refine ev_if_eq 454 dX4_digest_447 (by decide) (fun h447 => ?_) (fun h447 => ?_)
              · refine ev_lconst (lN 0) dX4_digest_454 rfl ?_
                exact ev_sub [0, 1] rfl (ev_topL _ (by first | (rw [show Y.2.2.1 0 = 0 from h447]; rfl) | (rw [(hik 0 (by omega)).resolve_left (show ¬ Y.2.2.1 0 = 0 from h447)]; rfl)) J447)
              · refine ev_lconst (lN 1) dX4_digest_450 rfl ?_
                refine ev_goto 455 dX4_digest_451 (by decide) ?_
                exact ev_sub [0, 1] rfl (ev_topL _ (by first | (rw [show Y.2.2.1 0 = 0 from h447]; rfl) | (rw [(hik 0 (by omega)).resolve_left (show ¬ Y.2.2.1 0 = 0 from h447)]; rfl)) J447)
            refine ev_cV1v (c4_mix _ _ _ _ _) kX4_mix rfl g1608 rfl rfl rfl rfl dX4_digest_455 ?_
            refine ev_w (w' := rw9 σ (upd z 2 (nI 0)) (yA Y σ (mxL (drA σ n B (drP σ (drN σ 8) 8)) [Y.2.2.1 0])) g) rfl ?_
            refine ev_aload_n 0 dX4_digest_458 rfl rfl ?_
            refine ev_aload_n 0 dX4_digest_459 rfl rfl ?_
            refine ev_getfield 4 dX4_digest_460 foX4_19 rfl rfl ?_
            refine ev_iconst (nI 1) dX4_digest_463 rfl ?_
            refine ev_bld 1 dX4_digest_464 rfl rfl (by omega) rfl ?_
            suffices J465 : Ev mX4_digest (d1 (some (.long (drD σ n B Y.2.2.1 Y.2.2.2.2.1 ℓ))) (rw9 σ (upd z 2 (nI 0)) (yA Y σ (drD σ n B Y.2.2.1 Y.2.2.2.2.1 ℓ)) g)) nx 0 473 [(1, .int (nI (103 + 6))), (0, .ref 0)] [.long (Y.2.2.1 1).toInt64, .ref 0] (rw9 σ (upd z 2 (nI 0)) (yA Y σ (mxL (drA σ n B (drP σ (drN σ 8) 8)) [Y.2.2.1 0])) g) by
              refine ev_if_eq 472 dX4_digest_465 (by decide) (fun h465 => ?_) (fun h465 => ?_)
              · refine ev_lconst (lN 0) dX4_digest_472 rfl ?_
                exact ev_sub [0, 1] rfl (ev_topL _ (by first | (rw [show Y.2.2.1 1 = 0 from h465]; rfl) | (rw [(hik 1 (by omega)).resolve_left (show ¬ Y.2.2.1 1 = 0 from h465)]; rfl)) J465)
              · refine ev_lconst (lN 1) dX4_digest_468 rfl ?_
                refine ev_goto 473 dX4_digest_469 (by decide) ?_
                exact ev_sub [0, 1] rfl (ev_topL _ (by first | (rw [show Y.2.2.1 1 = 0 from h465]; rfl) | (rw [(hik 1 (by omega)).resolve_left (show ¬ Y.2.2.1 1 = 0 from h465)]; rfl)) J465)
            refine ev_cV1v (c4_mix _ _ _ _ _) kX4_mix rfl g1608 rfl rfl rfl rfl dX4_digest_473 ?_
            refine ev_w (w' := rw9 σ (upd z 2 (nI 0)) (yA Y σ (mxL (drA σ n B (drP σ (drN σ 8) 8)) [Y.2.2.1 0, Y.2.2.1 1])) g) rfl ?_
            refine ev_aload_n 0 dX4_digest_476 rfl rfl ?_
            refine ev_aload_n 0 dX4_digest_477 rfl rfl ?_
            refine ev_getfield 7 dX4_digest_478 foX4_137 rfl rfl ?_
            refine ev_top (nI ℓ) ((upd_n _ _ (by decide)).trans hl) ?_
            refine ev_i2l dX4_digest_481 ?_
            refine ev_cV1v (c4_mix _ _ _ _ _) kX4_mix rfl g1608 rfl rfl rfl rfl dX4_digest_482 ?_
            refine ev_w (w' := rw9 σ (upd z 2 (nI 0)) (yA Y σ (mx (mxL (drA σ n B (drP σ (drN σ 8) 8)) [Y.2.2.1 0, Y.2.2.1 1]) (nI ℓ).toInt64)) g) rfl ?_
            refine ev_iconst (nI 0) dX4_digest_485 rfl ?_
            refine ev_istore_n 1 dX4_digest_486 rfl (Nat.le_of_ble_eq_true rfl) rfl ?_
            suffices H : ∀ fu j, j + fu = ℓ → Ev mX4_digest (d1 (some (.long (drD σ n B Y.2.2.1 Y.2.2.2.2.1 ℓ))) (rw9 σ (upd z 2 (nI 0)) (yA Y σ (drD σ n B Y.2.2.1 Y.2.2.2.2.1 ℓ)) g)) nx 0 487 [(1, .int (nI (j))), (0, .ref 0)] [] (rw9 σ (upd z 2 (nI 0)) (yA Y σ (hsC Y.2.2.2.2.1 (mx (mxL (drA σ n B (drP σ (drN σ 8) 8)) [Y.2.2.1 0, Y.2.2.1 1]) (nI ℓ).toInt64) j)) g) from ev_sub [0, 1] rfl (H ℓ 0 (Nat.zero_add _))
            intro fu
            induction fu with
            | zero =>
              intro j hj
              obtain rfl : ℓ = j := by omega
              refine ev_iload_n 1 dX4_digest_487 rfl rfl ?_
              refine ev_aload_n 0 dX4_digest_488 rfl rfl ?_
              refine ev_getfield 7 dX4_digest_489 foX4_137 rfl rfl ?_
              refine ev_top (nI ℓ) ((upd_n _ _ (by decide)).trans hl) ?_
              refine ev_icmp_ge 512 dX4_digest_492 (by decide) (fun h492 => ?_) (fun h492 => absurd (nI_le (Nat.le_refl ℓ) (by omega)) h492)
              refine ev_aload_n 0 dX4_digest_512 rfl rfl ?_
              refine ev_getfield 11 dX4_digest_513 foX4_223 rfl rfl ?_
              exact ev_lreturn dX4_digest_516 (Nat.le_of_ble_eq_true rfl) ⟨rfl, rfl⟩
            | succ fu ih =>
              intro j hj
              have hj6 : j < ℓ := by omega
              refine ev_iload_n 1 dX4_digest_487 rfl rfl ?_
              refine ev_aload_n 0 dX4_digest_488 rfl rfl ?_
              refine ev_getfield 7 dX4_digest_489 foX4_137 rfl rfl ?_
              refine ev_top (nI ℓ) ((upd_n _ _ (by decide)).trans hl) ?_
              refine ev_icmp_ge 512 dX4_digest_492 (by decide) (fun h492 => absurd h492 (nI_ge hj6 (by omega))) (fun h492 => ?_)
              refine ev_aload_n 0 dX4_digest_495 rfl rfl ?_
              refine ev_aload_n 0 dX4_digest_496 rfl rfl ?_
              refine ev_getfield 6 dX4_digest_497 foX4_26 rfl rfl ?_
              refine ev_iload_n 1 dX4_digest_500 rfl rfl ?_
              refine ev_ild (j) dX4_digest_501 rfl (by simp only [nI_m, nI_add, ix, oI]) (by omega) rfl ?_
              refine ev_i2l dX4_digest_502 ?_
              refine ev_cV1v (c4_mix _ _ _ _ _) kX4_mix rfl g1608 rfl rfl rfl rfl dX4_digest_503 ?_
              refine ev_w (w' := rw9 σ (upd z 2 (nI 0)) (yA Y σ (hsC Y.2.2.2.2.1 (mx (mxL (drA σ n B (drP σ (drN σ 8) 8)) [Y.2.2.1 0, Y.2.2.1 1]) (nI ℓ).toInt64) (j + 1))) g) rfl ?_
              refine ev_iinc (nI (j + 1)) dX4_digest_506 rfl (nI_1 j) (Nat.le_of_ble_eq_true rfl) rfl ?_
              refine ev_goto 487 dX4_digest_509 (by decide) ?_
              exact ev_sub [0, 1] rfl (ih (j + 1) (by omega))
          | succ fu ih =>
            intro j hj
            refine ev_iload_n 1 dX4_digest_392 rfl rfl ?_
            refine ev_bipush (nI 108) dX4_digest_393 rfl ?_
            refine ev_icmp_gt 415 dX4_digest_395 (by decide) (fun h395 => absurd h395 (nI_nlt (by omega) (by omega))) (fun h395 => ?_)
            refine ev_aload_n 0 dX4_digest_398 rfl rfl ?_
            refine ev_aload_n 0 dX4_digest_399 rfl rfl ?_
            refine ev_getfield 0 dX4_digest_400 foX4_7 rfl rfl ?_
            refine ev_iload_n 1 dX4_digest_403 rfl rfl ?_
            refine ev_ild (103 + j) dX4_digest_404 rfl (by simp only [nI_m, nI_add, ix, oI]) (by omega) rfl ?_
            refine ev_i2l dX4_digest_405 ?_
            refine ev_cV1v (c4_mix _ _ _ _ _) kX4_mix rfl g1608 rfl rfl rfl rfl dX4_digest_406 ?_
            refine ev_w (w' := rw9 σ (upd z 2 (nI 0)) (yA Y σ (rgF σ 103 (mxL (mxL (rgF σ 98 (mxL (drP σ (drN σ 8) 8) [allS σ 8]) 4) [ifFS σ (nI 10) 8, ifFS σ (nI 50) 8]) [σ 102, dbS σ 8, σ 103 + σ 104 - σ 105 - σ 106]) (j + 1))) g) rfl ?_
            refine ev_iinc (nI (103 + (j + 1))) dX4_digest_409 rfl (nI_1 (103 + j)) (Nat.le_of_ble_eq_true rfl) rfl ?_
            refine ev_goto 392 dX4_digest_412 (by decide) ?_
            exact ev_sub [0, 1] rfl (ih (j + 1) (by omega))
        | succ fu ih =>
          intro j hj
          refine ev_iload_n 1 dX4_digest_287 rfl rfl ?_
          refine ev_bipush (nI 101) dX4_digest_288 rfl ?_
          refine ev_icmp_gt 310 dX4_digest_290 (by decide) (fun h290 => absurd h290 (nI_nlt (by omega) (by omega))) (fun h290 => ?_)
          refine ev_aload_n 0 dX4_digest_293 rfl rfl ?_
          refine ev_aload_n 0 dX4_digest_294 rfl rfl ?_
          refine ev_getfield 0 dX4_digest_295 foX4_7 rfl rfl ?_
          refine ev_iload_n 1 dX4_digest_298 rfl rfl ?_
          refine ev_ild (98 + j) dX4_digest_299 rfl (by simp only [nI_m, nI_add, ix, oI]) (by omega) rfl ?_
          refine ev_i2l dX4_digest_300 ?_
          refine ev_cV1v (c4_mix _ _ _ _ _) kX4_mix rfl g1608 rfl rfl rfl rfl dX4_digest_301 ?_
          refine ev_w (w' := rw9 σ (upd z 2 (nI 0)) (yA Y σ (rgF σ 98 (mxL (drP σ (drN σ 8) 8) [allS σ 8]) (j + 1))) g) rfl ?_
          refine ev_iinc (nI (98 + (j + 1))) dX4_digest_304 rfl (nI_1 (98 + j)) (Nat.le_of_ble_eq_true rfl) rfl ?_
          refine ev_goto 287 dX4_digest_307 (by decide) ?_
          exact ev_sub [0, 1] rfl (ih (j + 1) (by omega))
      | succ fu ih =>
        intro j hj
        have hj6 : j < 8 := by omega
        refine ev_iload_n 1 dX4_digest_243 rfl rfl ?_
        refine ev_bipush (nI 8) dX4_digest_244 rfl ?_
        refine ev_icmp_ge 275 dX4_digest_246 (by decide) (fun h246 => absurd h246 (nI_ge hj6 (by omega))) (fun h246 => ?_)
        refine ev_aload_n 0 dX4_digest_249 rfl rfl ?_
        refine ev_aload_n 0 dX4_digest_250 rfl rfl ?_
        refine ev_iload_n 1 dX4_digest_251 rfl rfl ?_
        refine ev_cV1 (c4_risky _ _ _ _ _) kX4_risky rfl g1483 rfl rfl rfl rfl dX4_digest_252 ?_
        refine ev_i2l dX4_digest_255 ?_
        refine ev_cV1v (c4_mix _ _ _ _ _) kX4_mix rfl g1608 rfl rfl rfl rfl dX4_digest_256 ?_
        refine ev_w (w' := rw9 σ (upd z 2 (nI 0)) (yA Y σ (mxL (drP σ (drN σ 8) j) [rkyS σ (nI j) 8])) g) rfl ?_
        refine ev_aload_n 0 dX4_digest_259 rfl rfl ?_
        refine ev_aload_n 0 dX4_digest_260 rfl rfl ?_
        refine ev_iload_n 1 dX4_digest_261 rfl rfl ?_
        refine ev_cV1 (c4_risky _ _ _ _ _) kX4_risky rfl g1483 rfl rfl rfl rfl dX4_digest_262 ?_
        refine ev_i2l dX4_digest_265 ?_
        refine ev_cV1v (c4_mix _ _ _ _ _) kX4_mix rfl g1608 rfl rfl rfl rfl dX4_digest_266 ?_
        refine ev_w (w' := rw9 σ (upd z 2 (nI 0)) (yA Y σ (mxL (drP σ (drN σ 8) j) [rkyS σ (nI j) 8, rkyS σ (nI j) 8])) g) rfl ?_
        refine ev_iinc (nI (j + 1)) dX4_digest_269 rfl (nI_1 j) (Nat.le_of_ble_eq_true rfl) rfl ?_
        refine ev_goto 243 dX4_digest_272 (by decide) ?_
        exact ev_sub [0, 1] rfl (ih (j + 1) (by omega))
    | succ fu ih =>
      intro j hj
      have hj6 : j < 8 := by omega
      refine ev_iload_n 1 dX4_digest_77 rfl rfl ?_
      refine ev_bipush (nI 8) dX4_digest_78 rfl ?_
      refine ev_icmp_ge 241 dX4_digest_80 (by decide) (fun h80 => absurd h80 (nI_ge hj6 (by omega))) (fun h80 => ?_)
      refine ev_iconst (nI 0) dX4_digest_83 rfl ?_
      refine ev_istore_n 2 dX4_digest_84 rfl (Nat.le_of_ble_eq_true rfl) rfl ?_
      suffices I : ∀ fi i, i + fi = 8 → Ev mX4_digest (d1 (some (.long (drD σ n B Y.2.2.1 Y.2.2.2.2.1 ℓ))) (rw9 σ (upd z 2 (nI 0)) (yA Y σ (drD σ n B Y.2.2.1 Y.2.2.2.2.1 ℓ)) g)) nx 0 85 [(2, .int (nI i)), (1, .int (nI j)), (0, .ref 0)] [] (rw9 σ (upd z 2 (nI 0)) (yA Y (asD Y σ j) (hpF σ j (drN σ j) i)) g) from ev_sub [0, 1, 2] rfl (I 8 0 rfl)
      intro fi
      induction fi with
      | zero =>
        intro i hi
        obtain rfl : 8 = i := by omega
        refine ev_iload_n 2 dX4_digest_85 rfl rfl ?_
        refine ev_bipush (nI 7) dX4_digest_86 rfl ?_
        refine ev_icmp_gt 108 dX4_digest_88 (by decide) (fun h88 => ?_) (fun h88 => absurd (nI_lt (by omega) (by omega)) h88)
        refine ev_aload_n 0 dX4_digest_108 rfl rfl ?_
        refine ev_aload_n 0 dX4_digest_109 rfl rfl ?_
        refine ev_iload_n 1 dX4_digest_110 rfl rfl ?_
        refine ev_cV1 (c4_worth _ _ _ _ (by omega)) kX4_worth rfl g1439 rfl rfl rfl rfl dX4_digest_111 ?_
        refine ev_i2l dX4_digest_114 ?_
        refine ev_cV1v (c4_mix _ _ _ _ _) kX4_mix rfl g1608 rfl rfl rfl rfl dX4_digest_115 ?_
        refine ev_w (w' := rw9 σ (upd z 2 (nI 0)) (yA Y (asD Y σ j) (mxL (hpF σ j (drN σ j) 8) [worS σ j 6])) g) rfl ?_
        refine ev_aload_n 0 dX4_digest_118 rfl rfl ?_
        refine ev_aload_n 0 dX4_digest_119 rfl rfl ?_
        refine ev_iload_n 1 dX4_digest_120 rfl rfl ?_
        refine ev_cV1 (c4_cover _ _ _ _ (by omega)) kX4_cover rfl g1192 rfl rfl rfl rfl dX4_digest_121 ?_
        refine ev_i2l dX4_digest_124 ?_
        refine ev_cV1v (c4_mix _ _ _ _ _) kX4_mix rfl g1608 rfl rfl rfl rfl dX4_digest_125 ?_
        refine ev_w (w' := rw9 σ (upd z 2 (nI 0)) (yA Y (asD Y σ j) (mxL (hpF σ j (drN σ j) 8) [worS σ j 6, covI σ j (nI 0) (nI 1)])) g) rfl ?_
        refine ev_aload_n 0 dX4_digest_128 rfl rfl ?_
        refine ev_aload_n 0 dX4_digest_129 rfl rfl ?_
        refine ev_iload_n 1 dX4_digest_130 rfl rfl ?_
        refine ev_cV1 (c4_room _ _ _ _ (by omega)) kX4_room rfl g1451 rfl rfl rfl rfl dX4_digest_131 ?_
        refine ev_i2l dX4_digest_134 ?_
        refine ev_cV1v (c4_mix _ _ _ _ _) kX4_mix rfl g1608 rfl rfl rfl rfl dX4_digest_135 ?_
        refine ev_w (w' := rw9 σ (upd z 2 (nI 0)) (yA Y (asD Y σ j) (mxL (hpF σ j (drN σ j) 8) [worS σ j 6, covI σ j (nI 0) (nI 1), romS σ j])) g) rfl ?_
        refine ev_aload_n 0 dX4_digest_138 rfl rfl ?_
        refine ev_aload_n 0 dX4_digest_139 rfl rfl ?_
        refine ev_iload_n 1 dX4_digest_140 rfl rfl ?_
        refine ev_cV1 (c4_called _ _ _ _ (by omega)) kX4_called rfl g1204 rfl rfl rfl rfl dX4_digest_141 ?_
        suffices J144 : Ev mX4_digest (d1 (some (.long (drD σ n B Y.2.2.1 Y.2.2.2.2.1 ℓ))) (rw9 σ (upd z 2 (nI 0)) (yA Y σ (drD σ n B Y.2.2.1 Y.2.2.2.2.1 ℓ)) g)) nx 0 152 [(2, .int (nI 8)), (1, .int (nI j)), (0, .ref 0)] [.long (bI (isK σ j)).toInt64, .ref 0] (rw9 σ (upd z 2 (nI 0)) (yA Y (asD Y σ j) (mxL (hpF σ j (drN σ j) 8) [worS σ j 6, covI σ j (nI 0) (nI 1), romS σ j])) g) by
          refine ev_if_eq 151 dX4_digest_144 (by decide) (fun h144 => ?_) (fun h144 => ?_)
          · refine ev_lconst (lN 0) dX4_digest_151 rfl ?_
            exact ev_sub [0, 1, 2] rfl (ev_topL _ (by first | (rw [bI_0.mp h144]; rfl) | (rw [bI_1.mp h144]; rfl)) J144)
          · refine ev_lconst (lN 1) dX4_digest_147 rfl ?_
            refine ev_goto 152 dX4_digest_148 (by decide) ?_
            exact ev_sub [0, 1, 2] rfl (ev_topL _ (by first | (rw [bI_0.mp h144]; rfl) | (rw [bI_1.mp h144]; rfl)) J144)
        refine ev_cV1v (c4_mix _ _ _ _ _) kX4_mix rfl g1608 rfl rfl rfl rfl dX4_digest_152 ?_
        refine ev_w (w' := rw9 σ (upd z 2 (nI 0)) (yA Y (asD Y σ j) (mxL (hpF σ j (drN σ j) 8) [worS σ j 6, covI σ j (nI 0) (nI 1), romS σ j, bI (isK σ j)])) g) rfl ?_
        refine ev_aload_n 0 dX4_digest_155 rfl rfl ?_
        refine ev_aload_n 0 dX4_digest_156 rfl rfl ?_
        refine ev_iload_n 1 dX4_digest_157 rfl rfl ?_
        refine ev_bipush (nI 8) dX4_digest_158 rfl ?_
        refine ev_cV2 (c4_of _ _ _ _ (by omega) (by omega)) kX4_of rfl g1188 rfl rfl rfl rfl dX4_digest_160 ?_
        refine ev_i2l dX4_digest_163 ?_
        refine ev_cV1v (c4_mix _ _ _ _ _) kX4_mix rfl g1608 rfl rfl rfl rfl dX4_digest_164 ?_
        refine ev_w (w' := rw9 σ (upd z 2 (nI 0)) (yA Y (asD Y σ j) (mxL (hpF σ j (drN σ j) 8) [worS σ j 6, covI σ j (nI 0) (nI 1), romS σ j, bI (isK σ j), σ (ix j 8)])) g) rfl ?_
        refine ev_aload_n 0 dX4_digest_167 rfl rfl ?_
        refine ev_aload_n 0 dX4_digest_168 rfl rfl ?_
        refine ev_iload_n 1 dX4_digest_169 rfl rfl ?_
        refine ev_bipush (nI 9) dX4_digest_170 rfl ?_
        refine ev_cV2 (c4_of _ _ _ _ (by omega) (by omega)) kX4_of rfl g1188 rfl rfl rfl rfl dX4_digest_172 ?_
        refine ev_i2l dX4_digest_175 ?_
        refine ev_cV1v (c4_mix _ _ _ _ _) kX4_mix rfl g1608 rfl rfl rfl rfl dX4_digest_176 ?_
        refine ev_w (w' := rw9 σ (upd z 2 (nI 0)) (yA Y (asD Y σ j) (mxL (hpF σ j (drN σ j) 8) [worS σ j 6, covI σ j (nI 0) (nI 1), romS σ j, bI (isK σ j), σ (ix j 8), σ (ix j 9)])) g) rfl ?_
        refine ev_aload_n 0 dX4_digest_179 rfl rfl ?_
        refine ev_aload_n 0 dX4_digest_180 rfl rfl ?_
        refine ev_iload_n 1 dX4_digest_181 rfl rfl ?_
        refine ev_cV1 (c4_rank _ _ _ _ (by omega)) kX4_rank rfl g1471 rfl rfl rfl rfl dX4_digest_182 ?_
        refine ev_i2l dX4_digest_185 ?_
        refine ev_cV1v (c4_mix _ _ _ _ _) kX4_mix rfl g1608 rfl rfl rfl rfl dX4_digest_186 ?_
        refine ev_w (w' := rw9 σ (upd z 2 (nI 0)) (yA Y (asD Y σ j) (mxL (hpF σ j (drN σ j) 8) [worS σ j 6, covI σ j (nI 0) (nI 1), romS σ j, bI (isK σ j), σ (ix j 8), σ (ix j 9), rnkS σ j 8])) g) rfl ?_
        refine ev_aload_n 0 dX4_digest_189 rfl rfl ?_
        refine ev_aload_n 0 dX4_digest_190 rfl rfl ?_
        refine ev_iload_n 1 dX4_digest_191 rfl rfl ?_
        refine ev_cV1 (c4_falling _ _ _ _ (by omega)) kX4_falling rfl g1523 rfl rfl rfl rfl dX4_digest_192 ?_
        refine ev_iconst (nI 1) dX4_digest_195 rfl ?_
        refine ev_iadd dX4_digest_196 ?_
        refine ev_i2l dX4_digest_197 ?_
        refine ev_cV1v (c4_mix _ _ _ _ _) kX4_mix rfl g1608 rfl rfl rfl rfl dX4_digest_198 ?_
        refine ev_w (w' := rw9 σ (upd z 2 (nI 0)) (yA Y (asD Y σ j) (mxL (hpF σ j (drN σ j) 8) [worS σ j 6, covI σ j (nI 0) (nI 1), romS σ j, bI (isK σ j), σ (ix j 8), σ (ix j 9), rnkS σ j 8, falS σ j + nI 1])) g) rfl ?_
        refine ev_aload_n 0 dX4_digest_201 rfl rfl ?_
        refine ev_aload_n 0 dX4_digest_202 rfl rfl ?_
        refine ev_iload_n 1 dX4_digest_203 rfl rfl ?_
        refine ev_cV1 (c4_falling _ _ _ _ (by omega)) kX4_falling rfl g1523 rfl rfl rfl rfl dX4_digest_204 ?_
        refine ev_iconst (nI 1) dX4_digest_207 rfl ?_
        refine ev_iadd dX4_digest_208 ?_
        refine ev_i2l dX4_digest_209 ?_
        refine ev_cV1v (c4_mix _ _ _ _ _) kX4_mix rfl g1608 rfl rfl rfl rfl dX4_digest_210 ?_
        refine ev_w (w' := rw9 σ (upd z 2 (nI 0)) (yA Y (asD Y σ j) (mxL (hpF σ j (drN σ j) 8) [worS σ j 6, covI σ j (nI 0) (nI 1), romS σ j, bI (isK σ j), σ (ix j 8), σ (ix j 9), rnkS σ j 8, falS σ j + nI 1, falS σ j + nI 1])) g) rfl ?_
        refine ev_aload_n 0 dX4_digest_213 rfl rfl ?_
        refine ev_aload_n 0 dX4_digest_214 rfl rfl ?_
        refine ev_iload_n 1 dX4_digest_215 rfl rfl ?_
        refine ev_iconst (nI 0) dX4_digest_216 rfl ?_
        refine ev_cV2 (c4_would_n _ _ _ _ hj6 (hP j hj6)) kX4_would rfl g1539 rfl rfl rfl rfl dX4_digest_217 ?_
        refine ev_i2l dX4_digest_220 ?_
        refine ev_cV1v (c4_mix _ _ _ _ _) kX4_mix rfl g1608 rfl rfl rfl rfl dX4_digest_221 ?_
        refine ev_w (w' := rw9 σ (upd z 2 (nI 0)) (yA Y σ (mxL (hpF σ j (drN σ j) 8) [worS σ j 6, covI σ j (nI 0) (nI 1), romS σ j, bI (isK σ j), σ (ix j 8), σ (ix j 9), rnkS σ j 8, falS σ j + nI 1, falS σ j + nI 1, (sellsS σ j).2])) g) rfl ?_
        refine ev_aload_n 0 dX4_digest_224 rfl rfl ?_
        refine ev_aload_n 0 dX4_digest_225 rfl rfl ?_
        refine ev_iload_n 1 dX4_digest_226 rfl rfl ?_
        refine ev_iconst (nI 1) dX4_digest_227 rfl ?_
        refine ev_cV2 (c4_would_l _ _ _ _ hj6 (hP j hj6)) kX4_would rfl g1539 rfl rfl rfl rfl dX4_digest_228 ?_
        refine ev_i2l dX4_digest_231 ?_
        refine ev_cV1v (c4_mix _ _ _ _ _) kX4_mix rfl g1608 rfl rfl rfl rfl dX4_digest_232 ?_
        refine ev_w (w' := rw9 σ (upd z 2 (nI 0)) (yA Y σ (mxL (hpF σ j (drN σ j) 8) [worS σ j 6, covI σ j (nI 0) (nI 1), romS σ j, bI (isK σ j), σ (ix j 8), σ (ix j 9), rnkS σ j 8, falS σ j + nI 1, falS σ j + nI 1, (sellsS σ j).2, (sellsS σ j).1 106 - σ 106])) g) rfl ?_
        refine ev_iinc (nI (j + 1)) dX4_digest_235 rfl (nI_1 j) (Nat.le_of_ble_eq_true rfl) rfl ?_
        refine ev_goto 77 dX4_digest_238 (by decide) ?_
        exact ev_sub [0, 2] rfl (ih (j + 1) (by omega))
      | succ fi ii =>
        intro i hi
        have hi8 : i < 8 := by omega
        refine ev_iload_n 2 dX4_digest_85 rfl rfl ?_
        refine ev_bipush (nI 7) dX4_digest_86 rfl ?_
        refine ev_icmp_gt 108 dX4_digest_88 (by decide) (fun h88 => absurd h88 (nI_nlt (by omega) (by omega))) (fun h88 => ?_)
        refine ev_aload_n 0 dX4_digest_91 rfl rfl ?_
        refine ev_aload_n 0 dX4_digest_92 rfl rfl ?_
        refine ev_iload_n 1 dX4_digest_93 rfl rfl ?_
        refine ev_iload_n 2 dX4_digest_94 rfl rfl ?_
        refine ev_cV2 (c4_of _ _ _ _ hj6 (by omega)) kX4_of rfl g1188 rfl rfl rfl rfl dX4_digest_95 ?_
        refine ev_i2l dX4_digest_98 ?_
        refine ev_cV1v (c4_mix _ _ _ _ _) kX4_mix rfl g1608 rfl rfl rfl rfl dX4_digest_99 ?_
        refine ev_w (w' := rw9 σ (upd z 2 (nI 0)) (yA Y (asD Y σ j) (hpF σ j (drN σ j) (i + 1))) g) rfl ?_
        refine ev_iinc (nI (i + 1)) dX4_digest_102 rfl (nI_1 i) (Nat.le_of_ble_eq_true rfl) rfl ?_
        refine ev_goto 85 dX4_digest_105 (by decide) ?_
        exact ev_sub [0, 1, 2] rfl (ii (i + 1) (by omega))
  | succ fu ih =>
    intro j hj
    have hj6 : j < 6 := by omega
    refine ev_iload_n 1 dX4_digest_14 rfl rfl ?_
    refine ev_bipush (nI 6) dX4_digest_15 rfl ?_
    refine ev_icmp_ge 75 dX4_digest_17 (by decide) (fun h17 => absurd h17 (nI_ge hj6 (by omega))) (fun h17 => ?_)
    refine ev_aload_n 0 dX4_digest_20 rfl rfl ?_
    refine ev_aload_n 0 dX4_digest_21 rfl rfl ?_
    refine ev_getfield 0 dX4_digest_22 foX4_7 rfl rfl ?_
    refine ev_iload_n 1 dX4_digest_25 rfl rfl ?_
    refine ev_ild (j) dX4_digest_26 rfl (by simp only [nI_m, nI_add, ix, oI]) (by omega) rfl ?_
    refine ev_i2l dX4_digest_27 ?_
    refine ev_cV1v (c4_mix _ _ _ _ _) kX4_mix rfl g1608 rfl rfl rfl rfl dX4_digest_28 ?_
    refine ev_w (w' := rw9 σ (upd z 2 (nI 0)) (yA Y Y.2.2.2.1 (mxL (dgK σ j) [σ j])) g) rfl ?_
    refine ev_aload_n 0 dX4_digest_31 rfl rfl ?_
    refine ev_aload_n 0 dX4_digest_32 rfl rfl ?_
    refine ev_getfield 0 dX4_digest_33 foX4_7 rfl rfl ?_
    refine ev_bipush (nI 6) dX4_digest_36 rfl ?_
    refine ev_iload_n 1 dX4_digest_38 rfl rfl ?_
    refine ev_iadd dX4_digest_39 ?_
    refine ev_top (nI (6 + j)) (nI_add _ _) ?_
    refine ev_ild (6 + j) dX4_digest_40 rfl (by simp only [nI_m, nI_add, ix, oI]) (by omega) rfl ?_
    refine ev_i2l dX4_digest_41 ?_
    refine ev_cV1v (c4_mix _ _ _ _ _) kX4_mix rfl g1608 rfl rfl rfl rfl dX4_digest_42 ?_
    refine ev_w (w' := rw9 σ (upd z 2 (nI 0)) (yA Y Y.2.2.2.1 (mxL (dgK σ j) [σ j, σ (6 + j)])) g) rfl ?_
    refine ev_aload_n 0 dX4_digest_45 rfl rfl ?_
    refine ev_aload_n 0 dX4_digest_46 rfl rfl ?_
    refine ev_iload_n 1 dX4_digest_47 rfl rfl ?_
    refine ev_cV1 (c4_pledged _ _ _ _ (by omega)) kX4_pledged rfl g1415 rfl rfl rfl rfl dX4_digest_48 ?_
    refine ev_i2l dX4_digest_51 ?_
    refine ev_cV1v (c4_mix _ _ _ _ _) kX4_mix rfl g1608 rfl rfl rfl rfl dX4_digest_52 ?_
    refine ev_w (w' := rw9 σ (upd z 2 (nI 0)) (yA Y Y.2.2.2.1 (mxL (dgK σ j) [σ j, σ (6 + j), pldS σ j 8])) g) rfl ?_
    refine ev_aload_n 0 dX4_digest_55 rfl rfl ?_
    refine ev_aload_n 0 dX4_digest_56 rfl rfl ?_
    refine ev_getfield 0 dX4_digest_57 foX4_7 rfl rfl ?_
    refine ev_bipush (nI 12) dX4_digest_60 rfl ?_
    refine ev_iload_n 1 dX4_digest_62 rfl rfl ?_
    refine ev_iadd dX4_digest_63 ?_
    refine ev_top (nI (12 + j)) (nI_add _ _) ?_
    refine ev_ild (12 + j) dX4_digest_64 rfl (by simp only [nI_m, nI_add, ix, oI]) (by omega) rfl ?_
    refine ev_i2l dX4_digest_65 ?_
    refine ev_cV1v (c4_mix _ _ _ _ _) kX4_mix rfl g1608 rfl rfl rfl rfl dX4_digest_66 ?_
    refine ev_w (w' := rw9 σ (upd z 2 (nI 0)) (yA Y Y.2.2.2.1 (mxL (dgK σ j) [σ j, σ (6 + j), pldS σ j 8, σ (12 + j)])) g) rfl ?_
    refine ev_iinc (nI (j + 1)) dX4_digest_69 rfl (nI_1 j) (Nat.le_of_ble_eq_true rfl) rfl ?_
    refine ev_goto 14 dX4_digest_72 (by decide) ?_
    exact ev_sub [0, 1] rfl (ih (j + 1) (by omega))
