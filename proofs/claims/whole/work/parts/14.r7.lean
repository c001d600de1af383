/-! ===== the reference: the public changes, case by case ===== -/
theorem inB_nat {n hi : Nat} (h : n ≤ hi) (hh : hi < 2147483648) : inB (nI n) (nI 0) (nI hi) = true := by
  simp [inB, nI_le (Nat.zero_le n) (Nat.lt_of_le_of_lt h hh), nI_le h hh]
theorem inB_c {c : Nat} (h : c < 8) : inB (nI c) (nI 0) (nI 7) = true := inB_nat (by omega) (by omega)
theorem inB_k {k : Nat} (h : k < 6) : inB (nI k) (nI 0) (nI 5) = true := inB_nat (by omega) (by omega)
theorem inB_of {v : Int32} {hi : Nat} (hh : hi < 2147483648) (h : inB v (nI 0) (nI hi) = true) : ∃ n, n ≤ hi ∧ v = nI n := by
  simp only [inB, Bool.and_eq_true, decide_eq_true_eq] at h
  exact nI_of2 (M := nI hi) (by rw [nI_toInt hh]) (by rw [Int32.not_lt]; exact h.1) h.2
def thZ (b : Bool) : Int32 := if b then nI 0 else nI 1
/-- saved rows and their number, behind a save -/
def svB (σ B : Nat → Int32) (n : Nat) : Nat → Int32 := if n < 6 then va_cpy σ B 0 (109 * n) 109 else va_cpy σ (va_cpy B B 109 0 545) 0 545 109
def svY (σ : Nat → Int32) (Y : RY) (n : Nat) : RY := (svB σ Y.1 n, Y.2)
def svZ (z : Nat → Int32) (n : Nat) : Nat → Int32 := if n < 6 then upd z 0 (nI (n + 1)) else upd (upd z 0 (nI 5)) 0 (nI 6)
theorem svZ_n {z : Nat → Int32} {n i : Nat} (h : i ≠ 0) : svZ z n i = z i := by
  unfold svZ; split
  · rw [upd_n _ _ h]
  · rw [upd_n _ _ h, upd_n _ _ h]
theorem svZ_0 {z : Nat → Int32} {n : Nat} (hn : n ≤ 6) : svZ z n 0 = nI (if n < 6 then n + 1 else 6) := by
  unfold svZ; split
  · rw [upd_s]
  · rw [upd_s]
theorem tr_cpyo {f g : Nat → Int32} {n j : Nat} (h : n ≤ j) : tr n (va_cpy f g 0 0 j) = tr n f := tr_ext (fun k hk => by simp only [va_cpy]; rw [if_pos (by omega)]; simp)

theorem th_0 {b : Bool} : thZ b = 0 ↔ b = true := by
  cases b
  · exact ⟨fun h => absurd h (by decide), fun h => by cases h⟩
  · exact ⟨fun _ => rfl, fun _ => rfl⟩
set_option maxHeartbeats 1000000 in
theorem c4_areThere (σ z : Nat → Int32) (Y : RY) (g : PW) (p q : Int32) : Ct mX4_areThere [.ref 0, .int p, .int q] (rw9 σ z Y g) (d1 (some (.int (bI (inB p (nI 0) (nI 7) && inB q (nI 0) (nI 5))))) (rw9 σ (upd z 2 (thZ (inB p (nI 0) (nI 7) && inB q (nI 0) (nI 5)))) Y g)) nx := by
  refine ct_of 2 kX4_areThere.1 rfl (Nat.le_of_ble_eq_true rfl) (fun v u h => by obtain ⟨rfl, rfl⟩ := h; exact bI_nar _) ?_
  show Ev _ _ _ 0 0 [(0, .ref 0), (1, .int p), (2, .int q)] [] _
  refine ev_aload_n 0 dX4_areThere_0 rfl rfl ?_
  refine ev_iload_n 1 dX4_areThere_1 rfl rfl ?_
  refine ev_cS1 (c4_isClient _ _) kX4_isClient rfl g1228 rfl rfl dX4_areThere_2 ?_
  suffices J5 : Ev mX4_areThere (d1 (some (.int (bI (inB p (nI 0) (nI 7) && inB q (nI 0) (nI 5))))) (rw9 σ (upd z 2 (thZ (inB p (nI 0) (nI 7) && inB q (nI 0) (nI 5)))) Y g)) nx 0 20 [(0, .ref 0), (1, .int p), (2, .int q)] [.int (thZ (inB p (nI 0) (nI 7) && inB q (nI 0) (nI 5))), .ref 0] (rw9 σ z Y g) by
    refine ev_if_eq 19 dX4_areThere_5 (by decide) (fun h5 => ?_) (fun h5 => ?_)
    · refine ev_iconst (nI 1) dX4_areThere_19 rfl ?_
      exact ev_sub [0, 1, 2] rfl (ev_top _ (by first | rw [bI_0.mp h5]; rfl | rw [bI_1.mp h5, bI_0.mp h12]; rfl | rw [bI_1.mp h5, bI_1.mp h12]; rfl) J5)
    · refine ev_iload_n 2 dX4_areThere_8 rfl rfl ?_
      refine ev_cS1 (c4_isKind _ _) kX4_isKind rfl g1162 rfl rfl dX4_areThere_9 ?_
      refine ev_if_eq 19 dX4_areThere_12 (by decide) (fun h12 => ?_) (fun h12 => ?_)
      · refine ev_iconst (nI 1) dX4_areThere_19 rfl ?_
        exact ev_sub [0, 1, 2] rfl (ev_top _ (by first | rw [bI_0.mp h5]; rfl | rw [bI_1.mp h5, bI_0.mp h12]; rfl | rw [bI_1.mp h5, bI_1.mp h12]; rfl) J5)
      · refine ev_iconst (nI 0) dX4_areThere_15 rfl ?_
        refine ev_goto 20 dX4_areThere_16 (by decide) ?_
        exact ev_sub [0, 1, 2] rfl (ev_top _ (by first | rw [bI_0.mp h5]; rfl | rw [bI_1.mp h5, bI_0.mp h12]; rfl | rw [bI_1.mp h5, bI_1.mp h12]; rfl) J5)
  refine ev_putfield 8 dX4_areThere_20 fpX4_29 rfl (Nat.le_of_ble_eq_true rfl) (fun _ => rfl) (fun _ => rfl) (rz2 _ _ _ _ _) ?_
  refine ev_aload_n 0 dX4_areThere_23 rfl rfl ?_
  refine ev_getfield 8 dX4_areThere_24 foX4_29 rfl rfl ?_
  refine ev_if_ne 34 dX4_areThere_27 (by decide) (fun h27 => ?_) (fun h27 => ?_)
  · refine ev_iconst (nI 0) dX4_areThere_34 rfl ?_
    exact ev_ireturn dX4_areThere_35 (Nat.le_of_ble_eq_true rfl) ⟨by first | rw [show (inB p (nI 0) (nI 7) && inB q (nI 0) (nI 5)) = true from th_0.mp (by simpa [upd] using h27)]; rfl | rw [show (inB p (nI 0) (nI 7) && inB q (nI 0) (nI 5)) = false from Bool.eq_false_iff.mpr (fun e => h27 (by rw [upd_s]; exact th_0.mpr e))]; rfl, rfl⟩
  · refine ev_iconst (nI 1) dX4_areThere_30 rfl ?_
    refine ev_goto 35 dX4_areThere_31 (by decide) ?_
    exact ev_ireturn dX4_areThere_35 (Nat.le_of_ble_eq_true rfl) ⟨by first | rw [show (inB p (nI 0) (nI 7) && inB q (nI 0) (nI 5)) = true from th_0.mp (by simpa [upd] using h27)]; rfl | rw [show (inB p (nI 0) (nI 7) && inB q (nI 0) (nI 5)) = false from Bool.eq_false_iff.mpr (fun e => h27 (by rw [upd_s]; exact th_0.mpr e))]; rfl, rfl⟩
set_option maxHeartbeats 1000000 in
theorem c4_isThere (σ z : Nat → Int32) (Y : RY) (g : PW) (p : Int32) : Ct mX4_isThere [.ref 0, .int p] (rw9 σ z Y g) (d1 (some (.int (bI (inB p (nI 0) (nI 7))))) (rw9 σ (upd z 2 (thZ (inB p (nI 0) (nI 7)))) Y g)) nx := by
  refine ct_of 1 kX4_isThere.1 rfl (Nat.le_of_ble_eq_true rfl) (fun v u h => by obtain ⟨rfl, rfl⟩ := h; exact bI_nar _) ?_
  show Ev _ _ _ 0 0 [(0, .ref 0), (1, .int p)] [] _
  refine ev_aload_n 0 dX4_isThere_0 rfl rfl ?_
  refine ev_iload_n 1 dX4_isThere_1 rfl rfl ?_
  refine ev_iconst (nI 0) dX4_isThere_2 rfl ?_
  have e0 : (inB p (nI 0) (nI 7) && inB (nI 0) (nI 0) (nI 5)) = inB p (nI 0) (nI 7) := by rw [show inB (nI 0) (nI 0) (nI 5) = true by decide, Bool.and_true]
  have e1 := c4_areThere σ z Y g p (nI 0)
  rw [e0] at e1
  refine ev_cV2 (e1) kX4_areThere rfl g1224 rfl rfl rfl rfl dX4_isThere_3 ?_
  exact ev_ireturn dX4_isThere_6 (Nat.le_of_ble_eq_true rfl) ⟨rfl, rfl⟩
theorem save2 (σ z : Nat → Int32) (B : Nat → Int32) (Y : RY) (g : PW) (R : PW) {m : Nat} (hm : m < 6) (hz : z 0 = nI m) (hR : R = rw9 σ (upd z 0 (nI (m + 1))) (va_cpy σ B 0 (109 * m) 109, Y.2) g) : Ev mX4_save (d1 none R) nx 0 51 [(1, .int (nI 0)), (0, .ref 0)] [] (rw9 σ z (B, Y.2) g) := by
  subst hR
  refine ev_w (w' := rw9 σ z (va_cpy σ B 0 (109 * m) 0, Y.2) g) (by rw [cpy_0]) ?_
  suffices H : ∀ fu j, j + fu = 109 → Ev mX4_save (d1 none (rw9 σ (upd z 0 (nI (m + 1))) (va_cpy σ B 0 (109 * m) 109, Y.2) g)) nx 0 51 [(1, .int (nI (j))), (0, .ref 0)] [] (rw9 σ z (va_cpy σ B 0 (109 * m) j, Y.2) g) from ev_sub [0, 1] rfl (H 109 0 (Nat.zero_add _))
  intro fu
  induction fu with
  | zero =>
    intro j hj
    obtain rfl : 109 = j := by omega
    refine ev_iload_n 1 dX4_save_51 rfl rfl ?_
    refine ev_bipush (nI 109) dX4_save_52 rfl ?_
    refine ev_icmp_ge 83 dX4_save_54 (by decide) (fun h54 => ?_) (fun h54 => absurd (nI_le (Nat.le_refl 109) (by omega)) h54)
    refine ev_aload_n 0 dX4_save_83 rfl rfl ?_
    refine ev_dup dX4_save_84 rfl ?_
    refine ev_getfield 2 dX4_save_85 foX4_37 rfl rfl ?_
    refine ev_iconst (nI 1) dX4_save_88 rfl ?_
    refine ev_iadd dX4_save_89 ?_
    refine ev_top (nI (m + 1)) (by rw [hz]; exact nI_add m 1) ?_
    refine ev_putfield 2 dX4_save_90 fpX4_37 rfl (Nat.le_of_ble_eq_true rfl) (fun _ => rfl) (fun _ => rfl) (rz0 _ _ _ _ _) ?_
    exact ev_return dX4_save_93 (Nat.le_of_ble_eq_true rfl) ⟨rfl, rfl⟩
  | succ fu ih =>
    intro j hj
    have hj6 : j < 109 := by omega
    refine ev_iload_n 1 dX4_save_51 rfl rfl ?_
    refine ev_bipush (nI 109) dX4_save_52 rfl ?_
    refine ev_icmp_ge 83 dX4_save_54 (by decide) (fun h54 => absurd h54 (nI_ge hj6 (by omega))) (fun h54 => ?_)
    refine ev_aload_n 0 dX4_save_57 rfl rfl ?_
    refine ev_getfield 1 dX4_save_58 foX4_13 rfl rfl ?_
    refine ev_bipush (nI 109) dX4_save_61 rfl ?_
    refine ev_aload_n 0 dX4_save_63 rfl rfl ?_
    refine ev_getfield 2 dX4_save_64 foX4_37 rfl rfl ?_
    refine ev_top (nI m) hz ?_
    refine ev_imul dX4_save_67 ?_
    refine ev_iload_n 1 dX4_save_68 rfl rfl ?_
    refine ev_iadd dX4_save_69 ?_
    refine ev_aload_n 0 dX4_save_70 rfl rfl ?_
    refine ev_getfield 0 dX4_save_71 foX4_7 rfl rfl ?_
    refine ev_iload_n 1 dX4_save_74 rfl rfl ?_
    refine ev_ild (j) dX4_save_75 rfl (by simp only [nI_m, nI_add, ix, oI]) (by omega) rfl ?_
    refine ev_ist (109 * m + j) dX4_save_76 rfl (by simp only [nI_m, nI_add, ix, oI]) (by omega) rfl (rw_B _ _ _ _ _) ?_
    refine ev_w (w' := rw9 σ z (va_cpy σ B 0 (109 * m) (j + 1), Y.2) g) (by rw [← cpy_s (f := σ) (dp := 109 * m) (sp := 0) (n := j) (x := σ j) (by rw [Nat.zero_add])]) ?_
    refine ev_iinc (nI (j + 1)) dX4_save_77 rfl (nI_1 j) (Nat.le_of_ble_eq_true rfl) rfl ?_
    refine ev_goto 51 dX4_save_80 (by decide) ?_
    exact ev_sub [0, 1] rfl (ih (j + 1) (by omega))
set_option maxHeartbeats 1000000 in
theorem c4_save6 (σ z : Nat → Int32) (Y : RY) (g : PW) (hz : z 0 = nI 6) : Ct mX4_save [.ref 0] (rw9 σ z Y g) (d1 none (rw9 σ (upd (upd z 0 (nI 5)) 0 (nI 6)) (va_cpy σ (va_cpy Y.1 Y.1 109 0 545) 0 (109 * 5) 109, Y.2) g)) nx := by
  refine ct_of 0 kX4_save.1 rfl (Nat.le_of_ble_eq_true rfl) (fun v u h => by obtain ⟨rfl, rfl⟩ := h; exact trivial) ?_
  show Ev _ _ _ 0 0 [(0, .ref 0)] [] _
  refine ev_aload_n 0 dX4_save_0 rfl rfl ?_
  refine ev_getfield 2 dX4_save_1 foX4_37 rfl rfl ?_
  refine ev_bipush (nI 6) dX4_save_4 rfl ?_
  refine ev_icmp_ne 49 dX4_save_6 (by decide) (fun h6 => absurd hz h6) (fun h6 => ?_)
  refine ev_iconst (nI 0) dX4_save_9 rfl ?_
  refine ev_istore_n 1 dX4_save_10 rfl (Nat.le_of_ble_eq_true rfl) rfl ?_
  refine ev_w (w' := rw9 σ z (va_cpy Y.1 Y.1 109 0 0, Y.2) g) (by rw [cpy_0]) ?_
  suffices H : ∀ fu j, j + fu = 545 → Ev mX4_save (d1 none (rw9 σ (upd (upd z 0 (nI 5)) 0 (nI 6)) (va_cpy σ (va_cpy Y.1 Y.1 109 0 545) 0 (109 * 5) 109, Y.2) g)) nx 0 11 [(1, .int (nI (j))), (0, .ref 0)] [] (rw9 σ z (va_cpy Y.1 Y.1 109 0 j, Y.2) g) from ev_sub [0, 1] rfl (H 545 0 (Nat.zero_add _))
  intro fu
  induction fu with
  | zero =>
    intro j hj
    obtain rfl : 545 = j := by omega
    refine ev_iload_n 1 dX4_save_11 rfl rfl ?_
    refine ev_sipush (nI 545) dX4_save_12 rfl ?_
    refine ev_icmp_ge 39 dX4_save_15 (by decide) (fun h15 => ?_) (fun h15 => absurd (nI_le (Nat.le_refl 545) (by omega)) h15)
    refine ev_aload_n 0 dX4_save_39 rfl rfl ?_
    refine ev_dup dX4_save_40 rfl ?_
    refine ev_getfield 2 dX4_save_41 foX4_37 rfl rfl ?_
    refine ev_iconst (nI 1) dX4_save_44 rfl ?_
    refine ev_isub dX4_save_45 ?_
    refine ev_top (nI 5) (by rw [hz]; rfl) ?_
    refine ev_putfield 2 dX4_save_46 fpX4_37 rfl (Nat.le_of_ble_eq_true rfl) (fun _ => rfl) (fun _ => rfl) (rz0 _ _ _ _ _) ?_
    refine ev_iconst (nI 0) dX4_save_49 rfl ?_
    refine ev_istore_n 1 dX4_save_50 rfl (Nat.le_of_ble_eq_true rfl) rfl ?_
    exact ev_sub [0, 1] rfl (save2 σ (upd z 0 (nI 5)) (va_cpy Y.1 Y.1 109 0 545) Y g _ (by omega) (upd_s _ _ _) rfl)
  | succ fu ih =>
    intro j hj
    have hj6 : j < 545 := by omega
    refine ev_iload_n 1 dX4_save_11 rfl rfl ?_
    refine ev_sipush (nI 545) dX4_save_12 rfl ?_
    refine ev_icmp_ge 39 dX4_save_15 (by decide) (fun h15 => absurd h15 (nI_ge hj6 (by omega))) (fun h15 => ?_)
    refine ev_aload_n 0 dX4_save_18 rfl rfl ?_
    refine ev_getfield 1 dX4_save_19 foX4_13 rfl rfl ?_
    refine ev_iload_n 1 dX4_save_22 rfl rfl ?_
    refine ev_aload_n 0 dX4_save_23 rfl rfl ?_
    refine ev_getfield 1 dX4_save_24 foX4_13 rfl rfl ?_
    refine ev_bipush (nI 109) dX4_save_27 rfl ?_
    refine ev_iload_n 1 dX4_save_29 rfl rfl ?_
    refine ev_iadd dX4_save_30 ?_
    refine ev_ild (109 + j) dX4_save_31 rfl (by simp only [nI_m, nI_add, ix, oI]) (by omega) rfl ?_
    refine ev_top (Y.1 (109 + j)) (by simp only [va_cpy]; rw [if_neg (by omega)]) ?_
    refine ev_ist (j) dX4_save_32 rfl (by simp only [nI_m, nI_add, ix, oI]) (by omega) rfl (rw_B _ _ _ _ _) ?_
    refine ev_w (w' := rw9 σ z (va_cpy Y.1 Y.1 109 0 (j + 1), Y.2) g) (by rw [← cpy_s (f := Y.1) (dp := 0) (sp := 109) (n := j) (x := Y.1 (109 + j)) rfl, Nat.zero_add]) ?_
    refine ev_iinc (nI (j + 1)) dX4_save_33 rfl (nI_1 j) (Nat.le_of_ble_eq_true rfl) rfl ?_
    refine ev_goto 11 dX4_save_36 (by decide) ?_
    exact ev_sub [0, 1] rfl (ih (j + 1) (by omega))
set_option maxHeartbeats 1000000 in
theorem c4_save5 (σ z : Nat → Int32) (Y : RY) (g : PW) {n : Nat} (hn : n < 6) (hz : z 0 = nI n) : Ct mX4_save [.ref 0] (rw9 σ z Y g) (d1 none (rw9 σ (upd z 0 (nI (n + 1))) (va_cpy σ Y.1 0 (109 * n) 109, Y.2) g)) nx := by
  refine ct_of 0 kX4_save.1 rfl (Nat.le_of_ble_eq_true rfl) (fun v u h => by obtain ⟨rfl, rfl⟩ := h; exact trivial) ?_
  show Ev _ _ _ 0 0 [(0, .ref 0)] [] _
  refine ev_aload_n 0 dX4_save_0 rfl rfl ?_
  refine ev_getfield 2 dX4_save_1 foX4_37 rfl rfl ?_
  refine ev_bipush (nI 6) dX4_save_4 rfl ?_
  refine ev_icmp_ne 49 dX4_save_6 (by decide) (fun h6 => ?_) (fun h6 => absurd h6 (by rw [hz]; exact fun e => by have := (nI_eq (by omega) (by omega)).mp e; omega))
  refine ev_iconst (nI 0) dX4_save_49 rfl ?_
  refine ev_istore_n 1 dX4_save_50 rfl (Nat.le_of_ble_eq_true rfl) rfl ?_
  exact ev_sub [0, 1] rfl (save2 σ z Y.1 Y g _ hn hz rfl)
theorem c4_save (σ z : Nat → Int32) (Y : RY) (g : PW) {n : Nat} (hn : n ≤ 6) (hz : z 0 = nI n) : Ct mX4_save [.ref 0] (rw9 σ z Y g) (d1 none (rw9 σ (svZ z n) (svY σ Y n) g)) nx := by
  rcases Nat.lt_or_ge n 6 with h | h
  · have e := c4_save5 σ z Y g h hz
    simp only [svZ, svY, svB, h, if_true]
    exact e
  · obtain rfl : n = 6 := by omega
    exact c4_save6 σ z Y g hz
