/-! ===== the reference: looks, sales ===== -/
theorem look_new {σ z : Nat → Int32} {Y : RY} {g : PW} {j : Nat} (hn : (!(isC (lookN σ j) j || isK (lookN σ j) j)) = true) : rw9 (upd (upd (lookN σ j) 107 (lookN σ j 107 + nI 1)) (ix j 8) (upd (lookN σ j) 107 (lookN σ j 107 + nI 1) 99)) z Y g = rw9 (lookN σ (j + 1)) z Y g := by
  have h : (isC (lookN σ j) j || isK (lookN σ j) j) = false := by simpa using hn
  rw [show lookN σ (j + 1) = look1 (lookN σ j) j from rfl, look1, if_pos h, upd_n (k := 107) (j := 99) _ _ (by decide)]
theorem look_cov {σ z : Nat → Int32} {Y : RY} {g : PW} {j : Nat} {x : Int32} (hn : (!(isC (lookN σ j) j || isK (lookN σ j) j)) = false) (hj : j < 8) (h : ¬ bI (isC (upd (lookN σ j) 107 x) j) = 0) : rw9 (upd (upd (lookN σ j) 107 (lookN σ j 107 + nI 0)) (ix j 8) (nI 0)) z Y g = rw9 (lookN σ (j + 1)) z Y g := by
  have h1 : ¬ (isC (lookN σ j) j || isK (lookN σ j) j) = false := by simpa using hn
  have h2 := bI_1.mp h
  rw [isC_hi hj (by omega)] at h2
  rw [show lookN σ (j + 1) = look1 (lookN σ j) j from rfl, look1, if_neg h1, if_pos h2]
theorem look_old {σ z : Nat → Int32} {Y : RY} {g : PW} {j : Nat} {x y : Int32} (hn : (!(isC (lookN σ j) j || isK (lookN σ j) j)) = false) (hj : j < 8) (h : bI (isC (upd (lookN σ j) 107 x) j) = 0) : rw9 (upd (upd (lookN σ j) 107 (lookN σ j 107 + nI 0)) (ix j 8) (upd (lookN σ j) 107 y (ix j 8))) z Y g = rw9 (lookN σ (j + 1)) z Y g := by
  have h1 : ¬ (isC (lookN σ j) j || isK (lookN σ j) j) = false := by simpa using hn
  have h2 := bI_0.mp h
  rw [isC_hi hj (by omega)] at h2
  rw [show lookN σ (j + 1) = look1 (lookN σ j) j from rfl, look1, if_neg h1, if_neg (by simp [h2]), upd_n (k := 107) (j := ix j 8) _ _ (by simp only [ix]; omega)]
set_option maxHeartbeats 1000000 in
theorem c4_looks (σ z : Nat → Int32) (Y : RY) (g : PW) : Ct mX4_looks [.ref 0] (rw9 σ z Y g) (d1 none (rw9 (lookN σ 8) z Y g)) nx := by
  refine ct_of 0 kX4_looks.1 rfl (Nat.le_of_ble_eq_true rfl) (fun v u h => by obtain ⟨rfl, rfl⟩ := h; exact trivial) ?_
  show Ev _ _ _ 0 0 [(0, .ref 0)] [] _
  refine ev_iconst (nI 0) dX4_looks_0 rfl ?_
  refine ev_istore_n 1 dX4_looks_1 rfl (Nat.le_of_ble_eq_true rfl) rfl ?_
  suffices H : ∀ fu j, j + fu = 8 → Ev mX4_looks (d1 none (rw9 (lookN σ 8) z Y g)) nx 0 2 [(1, .int (nI (j))), (0, .ref 0)] [] (rw9 (lookN σ (j)) z Y g) from ev_sub [0, 1] rfl (H 8 0 (Nat.zero_add _))
  intro fu
  induction fu with
  | zero =>
    intro j hj
    obtain rfl : 8 = j := by omega
    refine ev_iload_n 1 dX4_looks_2 rfl rfl ?_
    refine ev_bipush (nI 8) dX4_looks_3 rfl ?_
    refine ev_icmp_ge 95 dX4_looks_5 (by decide) (fun h5 => ?_) (fun h5 => absurd (nI_le (Nat.le_refl 8) (by omega)) h5)
    exact ev_return dX4_looks_95 (Nat.le_of_ble_eq_true rfl) ⟨rfl, rfl⟩
  | succ fu ih =>
    intro j hj
    have hj6 : j < 8 := by omega
    refine ev_iload_n 1 dX4_looks_2 rfl rfl ?_
    refine ev_bipush (nI 8) dX4_looks_3 rfl ?_
    refine ev_icmp_ge 95 dX4_looks_5 (by decide) (fun h5 => absurd h5 (nI_ge hj6 (by omega))) (fun h5 => ?_)
    refine ev_aload_n 0 dX4_looks_8 rfl rfl ?_
    refine ev_iload_n 1 dX4_looks_9 rfl rfl ?_
    refine ev_cV1 (c4_isCovered _ _ _ _ (by omega)) kX4_isCovered rfl g1184 rfl rfl rfl rfl dX4_looks_10 ?_
    suffices J13 : Ev mX4_looks (d1 none (rw9 (lookN σ 8) z Y g)) nx 0 29 [(1, .int (nI j)), (0, .ref 0)] [.int (bI (!(isC (lookN σ j) j || isK (lookN σ j) j)))] (rw9 (lookN σ j) z Y g) by
      refine ev_if_ne 28 dX4_looks_13 (by decide) (fun h13 => ?_) (fun h13 => ?_)
      · refine ev_iconst (nI 0) dX4_looks_28 rfl ?_
        exact ev_sub [0, 1] rfl (ev_top _ (by first | rw [bI_1.mp h13]; rfl | rw [bI_0.mp h13, bI_1.mp h21]; rfl | rw [bI_0.mp h13, bI_0.mp h21]; rfl) J13)
      · refine ev_aload_n 0 dX4_looks_16 rfl rfl ?_
        refine ev_iload_n 1 dX4_looks_17 rfl rfl ?_
        refine ev_cV1 (c4_called _ _ _ _ (by omega)) kX4_called rfl g1204 rfl rfl rfl rfl dX4_looks_18 ?_
        refine ev_if_ne 28 dX4_looks_21 (by decide) (fun h21 => ?_) (fun h21 => ?_)
        · refine ev_iconst (nI 0) dX4_looks_28 rfl ?_
          exact ev_sub [0, 1] rfl (ev_top _ (by first | rw [bI_1.mp h13]; rfl | rw [bI_0.mp h13, bI_1.mp h21]; rfl | rw [bI_0.mp h13, bI_0.mp h21]; rfl) J13)
        · refine ev_iconst (nI 1) dX4_looks_24 rfl ?_
          refine ev_goto 29 dX4_looks_25 (by decide) ?_
          exact ev_sub [0, 1] rfl (ev_top _ (by first | rw [bI_1.mp h13]; rfl | rw [bI_0.mp h13, bI_1.mp h21]; rfl | rw [bI_0.mp h13, bI_0.mp h21]; rfl) J13)
    refine ev_istore_n 2 dX4_looks_29 rfl (Nat.le_of_ble_eq_true rfl) rfl ?_
    refine ev_aload_n 0 dX4_looks_30 rfl rfl ?_
    refine ev_getfield 0 dX4_looks_31 foX4_7 rfl rfl ?_
    refine ev_bipush (nI 107) dX4_looks_34 rfl ?_
    refine ev_dup2 dX4_looks_36 rfl rfl ?_
    refine ev_ild (107) dX4_looks_37 rfl (by simp only [nI_m, nI_add, ix, oI]) (by omega) rfl ?_
    refine ev_iload_n 2 dX4_looks_38 rfl rfl ?_
    refine ev_if_eq 46 dX4_looks_39 (by decide) (fun h39 => ?_) (fun h39 => ?_)
    · have hn := bI_0.mp h39
      refine ev_iconst (nI 0) dX4_looks_46 rfl ?_
      refine ev_iadd dX4_looks_47 ?_
      refine ev_ist (107) dX4_looks_48 rfl (by simp only [nI_m, nI_add, ix, oI]) (by omega) rfl (rw_s _ _ _ _ _) ?_
      refine ev_aload_n 0 dX4_looks_49 rfl rfl ?_
      refine ev_iload_n 1 dX4_looks_50 rfl rfl ?_
      refine ev_bipush (nI 8) dX4_looks_51 rfl ?_
      refine ev_iload_n 2 dX4_looks_53 rfl rfl ?_
      refine ev_if_eq 67 dX4_looks_54 (by decide) (fun h54 => ?_) (fun h54 => ?_)
      · first
        | exact absurd h39 h54
        | exact absurd h54 h39
        | refine ev_aload_n 0 dX4_looks_67 rfl rfl ?_
          refine ev_iload_n 1 dX4_looks_68 rfl rfl ?_
          refine ev_cV1 (c4_isCovered _ _ _ _ (by omega)) kX4_isCovered rfl g1184 rfl rfl rfl rfl dX4_looks_69 ?_
          refine ev_if_eq 79 dX4_looks_72 (by decide) (fun h72 => ?_) (fun h72 => ?_)
          · refine ev_aload_n 0 dX4_looks_79 rfl rfl ?_
            refine ev_iload_n 1 dX4_looks_80 rfl rfl ?_
            refine ev_bipush (nI 8) dX4_looks_81 rfl ?_
            refine ev_cV2 (c4_of _ _ _ _ (by omega) (by omega)) kX4_of rfl g1188 rfl rfl rfl rfl dX4_looks_83 ?_
            refine ev_cV3v (c4_lay _ _ _ _ (by omega) (by omega) _) kX4_lay rfl g1208 rfl rfl rfl rfl dX4_looks_86 ?_
            refine ev_w (w' := rw9 (lookN σ (j + 1)) z Y g) (by first | rw [look_new hn] | rw [look_cov hn hj6 h72] | rw [look_old hn hj6 h72]) ?_
            refine ev_iinc (nI (j + 1)) dX4_looks_89 rfl (nI_1 j) (Nat.le_of_ble_eq_true rfl) rfl ?_
            refine ev_goto 2 dX4_looks_92 (by decide) ?_
            exact ev_sub [0, 2] rfl (ih (j + 1) (by omega))
          · refine ev_iconst (nI 0) dX4_looks_75 rfl ?_
            refine ev_goto 86 dX4_looks_76 (by decide) ?_
            refine ev_cV3v (c4_lay _ _ _ _ (by omega) (by omega) _) kX4_lay rfl g1208 rfl rfl rfl rfl dX4_looks_86 ?_
            refine ev_w (w' := rw9 (lookN σ (j + 1)) z Y g) (by first | rw [look_new hn] | rw [look_cov hn hj6 h72] | rw [look_old hn hj6 h72]) ?_
            refine ev_iinc (nI (j + 1)) dX4_looks_89 rfl (nI_1 j) (Nat.le_of_ble_eq_true rfl) rfl ?_
            refine ev_goto 2 dX4_looks_92 (by decide) ?_
            exact ev_sub [0, 2] rfl (ih (j + 1) (by omega))
      · first
        | exact absurd h39 h54
        | exact absurd h54 h39
        | refine ev_aload_n 0 dX4_looks_57 rfl rfl ?_
          refine ev_getfield 0 dX4_looks_58 foX4_7 rfl rfl ?_
          refine ev_bipush (nI 99) dX4_looks_61 rfl ?_
          refine ev_ild (99) dX4_looks_63 rfl (by simp only [nI_m, nI_add, ix, oI]) (by omega) rfl ?_
          refine ev_goto 86 dX4_looks_64 (by decide) ?_
          refine ev_cV3v (c4_lay _ _ _ _ (by omega) (by omega) _) kX4_lay rfl g1208 rfl rfl rfl rfl dX4_looks_86 ?_
          refine ev_w (w' := rw9 (lookN σ (j + 1)) z Y g) (by first | rw [look_new hn] | rw [look_cov hn hj6 h72] | rw [look_old hn hj6 h72]) ?_
          refine ev_iinc (nI (j + 1)) dX4_looks_89 rfl (nI_1 j) (Nat.le_of_ble_eq_true rfl) rfl ?_
          refine ev_goto 2 dX4_looks_92 (by decide) ?_
          exact ev_sub [0, 2] rfl (ih (j + 1) (by omega))
    · have hn := bI_1.mp h39
      refine ev_iconst (nI 1) dX4_looks_42 rfl ?_
      refine ev_goto 47 dX4_looks_43 (by decide) ?_
      refine ev_iadd dX4_looks_47 ?_
      refine ev_ist (107) dX4_looks_48 rfl (by simp only [nI_m, nI_add, ix, oI]) (by omega) rfl (rw_s _ _ _ _ _) ?_
      refine ev_aload_n 0 dX4_looks_49 rfl rfl ?_
      refine ev_iload_n 1 dX4_looks_50 rfl rfl ?_
      refine ev_bipush (nI 8) dX4_looks_51 rfl ?_
      refine ev_iload_n 2 dX4_looks_53 rfl rfl ?_
      refine ev_if_eq 67 dX4_looks_54 (by decide) (fun h54 => ?_) (fun h54 => ?_)
      · first
        | exact absurd h39 h54
        | exact absurd h54 h39
        | refine ev_aload_n 0 dX4_looks_67 rfl rfl ?_
          refine ev_iload_n 1 dX4_looks_68 rfl rfl ?_
          refine ev_cV1 (c4_isCovered _ _ _ _ (by omega)) kX4_isCovered rfl g1184 rfl rfl rfl rfl dX4_looks_69 ?_
          refine ev_if_eq 79 dX4_looks_72 (by decide) (fun h72 => ?_) (fun h72 => ?_)
          · refine ev_aload_n 0 dX4_looks_79 rfl rfl ?_
            refine ev_iload_n 1 dX4_looks_80 rfl rfl ?_
            refine ev_bipush (nI 8) dX4_looks_81 rfl ?_
            refine ev_cV2 (c4_of _ _ _ _ (by omega) (by omega)) kX4_of rfl g1188 rfl rfl rfl rfl dX4_looks_83 ?_
            refine ev_cV3v (c4_lay _ _ _ _ (by omega) (by omega) _) kX4_lay rfl g1208 rfl rfl rfl rfl dX4_looks_86 ?_
            refine ev_w (w' := rw9 (lookN σ (j + 1)) z Y g) (by first | rw [look_new hn] | rw [look_cov hn hj6 h72] | rw [look_old hn hj6 h72]) ?_
            refine ev_iinc (nI (j + 1)) dX4_looks_89 rfl (nI_1 j) (Nat.le_of_ble_eq_true rfl) rfl ?_
            refine ev_goto 2 dX4_looks_92 (by decide) ?_
            exact ev_sub [0, 2] rfl (ih (j + 1) (by omega))
          · refine ev_iconst (nI 0) dX4_looks_75 rfl ?_
            refine ev_goto 86 dX4_looks_76 (by decide) ?_
            refine ev_cV3v (c4_lay _ _ _ _ (by omega) (by omega) _) kX4_lay rfl g1208 rfl rfl rfl rfl dX4_looks_86 ?_
            refine ev_w (w' := rw9 (lookN σ (j + 1)) z Y g) (by first | rw [look_new hn] | rw [look_cov hn hj6 h72] | rw [look_old hn hj6 h72]) ?_
            refine ev_iinc (nI (j + 1)) dX4_looks_89 rfl (nI_1 j) (Nat.le_of_ble_eq_true rfl) rfl ?_
            refine ev_goto 2 dX4_looks_92 (by decide) ?_
            exact ev_sub [0, 2] rfl (ih (j + 1) (by omega))
      · first
        | exact absurd h39 h54
        | exact absurd h54 h39
        | refine ev_aload_n 0 dX4_looks_57 rfl rfl ?_
          refine ev_getfield 0 dX4_looks_58 foX4_7 rfl rfl ?_
          refine ev_bipush (nI 99) dX4_looks_61 rfl ?_
          refine ev_ild (99) dX4_looks_63 rfl (by simp only [nI_m, nI_add, ix, oI]) (by omega) rfl ?_
          refine ev_goto 86 dX4_looks_64 (by decide) ?_
          refine ev_cV3v (c4_lay _ _ _ _ (by omega) (by omega) _) kX4_lay rfl g1208 rfl rfl rfl rfl dX4_looks_86 ?_
          refine ev_w (w' := rw9 (lookN σ (j + 1)) z Y g) (by first | rw [look_new hn] | rw [look_cov hn hj6 h72] | rw [look_old hn hj6 h72]) ?_
          refine ev_iinc (nI (j + 1)) dX4_looks_89 rfl (nI_1 j) (Nat.le_of_ble_eq_true rfl) rfl ?_
          refine ev_goto 2 dX4_looks_92 (by decide) ?_
          exact ev_sub [0, 2] rfl (ih (j + 1) (by omega))
