/-! ===== the reference: the reader of orders ===== -/
def zE (z : Nat → Int32) (s : Nat × Bool) : Nat → Int32 := fun i => if i = 3 then nI s.1 else if i = 4 then bI s.2 else z i
theorem zE_3 (z : Nat → Int32) (s : Nat × Bool) (p : Nat) : upd (zE z s) 3 (nI p) = zE z (p, s.2) := by
  funext i; simp only [upd, zE]; split <;> rfl
theorem zE_4 (z : Nat → Int32) (s : Nat × Bool) (b : Bool) : upd (zE z s) 4 (bI b) = zE z (s.1, b) := by
  funext i; simp only [upd, zE]
  by_cases h : i = 4
  · subst h; rw [if_pos rfl, if_neg (by decide), if_pos rfl]
  · simp only [if_neg h]
theorem zE_n (z : Nat → Int32) (s : Nat × Bool) {i : Nat} (h3 : i ≠ 3) (h4 : i ≠ 4) : zE z s i = z i := by simp only [zE]; rw [if_neg h3, if_neg h4]
/-- the sign that is read, the state behind it -/
def sc (bu : Nat → Int32) (ℓ : Nat) (s : Nat × Bool) : Int32 := if s.1 < ℓ ∧ s.2 = false then bu s.1 else nI 0
def sgB (bu : Nat → Int32) (ℓ : Nat) (lo hi : Int32) (s : Nat × Bool) : Bool := s.2 || !inB (sc bu ℓ s) lo hi
def sg (bu : Nat → Int32) (ℓ : Nat) (lo hi : Int32) (s : Nat × Bool) : Nat × Bool := (if sgB bu ℓ lo hi s = true then s.1 else s.1 + 1, sgB bu ℓ lo hi s)
theorem sc_in {bu : Nat → Int32} {ℓ : Nat} {s : Nat × Bool} (h : s.1 < ℓ) (h2 : s.2 = false) : sc bu ℓ s = bu s.1 := if_pos ⟨h, h2⟩
theorem sc_o1 {bu : Nat → Int32} {ℓ : Nat} {s : Nat × Bool} (h : ¬ s.1 < ℓ) : sc bu ℓ s = nI 0 := if_neg (fun q => h q.1)
theorem sc_o2 {bu : Nat → Int32} {ℓ : Nat} {s : Nat × Bool} (h : s.2 = true) : sc bu ℓ s = nI 0 := if_neg (fun q => by rw [h] at q; cases q.2)
theorem sgB_1 {bu : Nat → Int32} {ℓ : Nat} {lo hi : Int32} {s : Nat × Bool} (h : s.2 = true) : sgB bu ℓ lo hi s = true := by unfold sgB; rw [h]; rfl
theorem sgB_2 {bu : Nat → Int32} {ℓ : Nat} {lo hi : Int32} {s : Nat × Bool} (h : s.2 = false) (h2 : inB (sc bu ℓ s) lo hi = true) : sgB bu ℓ lo hi s = false := by unfold sgB; rw [h2, h]; rfl
theorem sgB_3 {bu : Nat → Int32} {ℓ : Nat} {lo hi : Int32} {s : Nat × Bool} (h2 : inB (sc bu ℓ s) lo hi = false) : sgB bu ℓ lo hi s = true := by unfold sgB; rw [h2, Bool.not_false, Bool.or_true]
theorem bI_fit (b : Bool) : fits .boolean (.int (bI b)) = true := by cases b <;> rfl
theorem sg_le {bu : Nat → Int32} {ℓ : Nat} {lo hi : Int32} {s : Nat × Bool} (hs : s.1 ≤ ℓ) (h0 : ¬ lo ≤ nI 0) : (sg bu ℓ lo hi s).1 ≤ ℓ := by
  unfold sg
  show (if _ then _ else _) ≤ ℓ
  split
  · exact hs
  · next h =>
    have h' : sgB bu ℓ lo hi s = false := by cases q : sgB bu ℓ lo hi s; rfl; exact absurd q h
    unfold sgB at h'
    simp only [Bool.or_eq_false_iff, Bool.not_eq_false', inB, Bool.and_eq_true, decide_eq_true_eq] at h'
    by_cases q : s.1 < ℓ
    · exact q
    · exact absurd (by rw [sc_o1 q] at h'; exact h'.2.1) h0
/-- the digits of a number behind the first -/
def nuF (bu : Nat → Int32) (ℓ : Nat) (most : Int32) : Nat → Nat → Int32 → Nat × Int32
  | 0, p, v => (p, v)
  | f + 1, p, v => if 0 < v ∧ (p < ℓ ∧ (inB (bu p) (nI 48) (nI 57) = true ∧ ¬ most < nI 10 * v + bu p - nI 48)) then nuF bu ℓ most f (p + 1) (nI 10 * v + bu p - nI 48) else (p, v)
def nmR (bu : Nat → Int32) (ℓ : Nat) (lo most : Int32) (s : Nat × Bool) : (Nat × Bool) × Int32 :=
  if (sg bu ℓ (nI 48 + lo) (nI 57) s).2 = true then (sg bu ℓ (nI 48 + lo) (nI 57) s, sc bu ℓ s - nI 48)
  else (((nuF bu ℓ most (ℓ + 1) (sg bu ℓ (nI 48 + lo) (nI 57) s).1 (sc bu ℓ s - nI 48)).1, false), (nuF bu ℓ most (ℓ + 1) (sg bu ℓ (nI 48 + lo) (nI 57) s).1 (sc bu ℓ s - nI 48)).2)
set_option maxHeartbeats 1000000 in
theorem c4_sign (σ z : Nat → Int32) (Y : RY) (g : PW) {ℓ : Nat} (hℓ : ℓ ≤ 60) (hl : z 1 = nI ℓ) {p : Nat} (hp : p ≤ ℓ) (b : Bool) (lo hi : Int32) : Ct mX4_sign [.ref 0, .int lo, .int hi] (rw9 σ (zE z (p, b)) Y g) (d1 (some (.int (sc Y.2.2.2.2.1 ℓ (p, b)))) (rw9 σ (zE z (sg Y.2.2.2.2.1 ℓ lo hi (p, b))) Y g)) nx := by
  refine ct_of 2 kX4_sign.1 rfl (Nat.le_of_ble_eq_true rfl) (fun v u h => by obtain ⟨rfl, rfl⟩ := h; exact rfl) ?_
  show Ev _ _ _ 0 0 [(0, .ref 0), (1, .int lo), (2, .int hi)] [] _
  refine ev_aload_n 0 dX4_sign_0 rfl rfl ?_
  refine ev_getfield 9 dX4_sign_1 foX4_140 rfl rfl ?_
  refine ev_top (nI p) rfl ?_
  refine ev_aload_n 0 dX4_sign_4 rfl rfl ?_
  refine ev_getfield 7 dX4_sign_5 foX4_137 rfl rfl ?_
  refine ev_top (nI ℓ) ((zE_n _ _ (by decide) (by decide)).trans hl) ?_
  suffices J8 : Ev mX4_sign (d1 (some (.int (sc Y.2.2.2.2.1 ℓ (p, b)))) (rw9 σ (zE z (sg Y.2.2.2.2.1 ℓ lo hi (p, b))) Y g)) nx 0 31 [(0, .ref 0), (1, .int lo), (2, .int hi)] [.int (sc Y.2.2.2.2.1 ℓ (p, b))] (rw9 σ (zE z (p, b)) Y g) by
    refine ev_icmp_ge 30 dX4_sign_8 (by decide) (fun h8 => ?_) (fun h8 => ?_)
    · refine ev_iconst (nI 0) dX4_sign_30 rfl ?_
      exact ev_sub [0, 1, 2] rfl (ev_top _ (by first | exact (sc_o1 (s := (p, b)) (fun q => absurd h8 (nI_ge q (by omega)))).symm | exact (sc_o2 (s := (p, b)) (bI_1.mp h15)).symm | exact (sc_in (s := (p, b)) (Nat.lt_of_not_le (fun q => h8 (nI_le q (by omega)))) (bI_0.mp h15)).symm) J8)
    · refine ev_aload_n 0 dX4_sign_11 rfl rfl ?_
      refine ev_getfield 10 dX4_sign_12 foX4_143 rfl rfl ?_
      refine ev_top (bI b) rfl ?_
      refine ev_if_ne 30 dX4_sign_15 (by decide) (fun h15 => ?_) (fun h15 => ?_)
      · refine ev_iconst (nI 0) dX4_sign_30 rfl ?_
        exact ev_sub [0, 1, 2] rfl (ev_top _ (by first | exact (sc_o1 (s := (p, b)) (fun q => absurd h8 (nI_ge q (by omega)))).symm | exact (sc_o2 (s := (p, b)) (bI_1.mp h15)).symm | exact (sc_in (s := (p, b)) (Nat.lt_of_not_le (fun q => h8 (nI_le q (by omega)))) (bI_0.mp h15)).symm) J8)
      · refine ev_aload_n 0 dX4_sign_18 rfl rfl ?_
        refine ev_getfield 6 dX4_sign_19 foX4_26 rfl rfl ?_
        refine ev_aload_n 0 dX4_sign_22 rfl rfl ?_
        refine ev_getfield 9 dX4_sign_23 foX4_140 rfl rfl ?_
        refine ev_top (nI p) rfl ?_
        have hpl : p < ℓ := Nat.lt_of_not_le (fun q => h8 (nI_le q (by omega)))
        refine ev_ild p dX4_sign_26 rfl rfl (by omega) rfl ?_
        refine ev_goto 31 dX4_sign_27 (by decide) ?_
        exact ev_sub [0, 1, 2] rfl (ev_top _ (by first | exact (sc_o1 (s := (p, b)) (fun q => absurd h8 (nI_ge q (by omega)))).symm | exact (sc_o2 (s := (p, b)) (bI_1.mp h15)).symm | exact (sc_in (s := (p, b)) (Nat.lt_of_not_le (fun q => h8 (nI_le q (by omega)))) (bI_0.mp h15)).symm) J8)
  refine ev_istore_n 3 dX4_sign_31 rfl (Nat.le_of_ble_eq_true rfl) rfl ?_
  refine ev_aload_n 0 dX4_sign_32 rfl rfl ?_
  refine ev_aload_n 0 dX4_sign_33 rfl rfl ?_
  refine ev_getfield 10 dX4_sign_34 foX4_143 rfl rfl ?_
  refine ev_top (bI b) rfl ?_
  suffices J37 : Ev mX4_sign (d1 (some (.int (sc Y.2.2.2.2.1 ℓ (p, b)))) (rw9 σ (zE z (sg Y.2.2.2.2.1 ℓ lo hi (p, b))) Y g)) nx 0 54 [(3, .int (sc Y.2.2.2.2.1 ℓ (p, b))), (0, .ref 0), (1, .int lo), (2, .int hi)] [.int (bI (sgB Y.2.2.2.2.1 ℓ lo hi (p, b))), .ref 0] (rw9 σ (zE z (p, b)) Y g) by
    refine ev_if_ne 49 dX4_sign_37 (by decide) (fun h37 => ?_) (fun h37 => ?_)
    · refine ev_iconst (nI 1) dX4_sign_49 rfl ?_
      refine ev_goto 54 dX4_sign_50 (by decide) ?_
      exact ev_sub [0, 1, 2, 3] rfl (ev_top _ (by first | (rw [sgB_1 (s := (p, b)) (bI_1.mp h37)]; rfl) | (rw [sgB_2 (s := (p, b)) (bI_0.mp h37) (bI_1.mp h46)]; rfl) | (rw [sgB_3 (s := (p, b)) (bI_0.mp h46)]; rfl)) J37)
    · refine ev_iload_n 3 dX4_sign_40 rfl rfl ?_
      refine ev_iload_n 1 dX4_sign_41 rfl rfl ?_
      refine ev_iload_n 2 dX4_sign_42 rfl rfl ?_
      refine ev_cS3 (c4_in _ _ _ _) kX4_in rfl g1165 rfl rfl dX4_sign_43 ?_
      refine ev_if_ne 53 dX4_sign_46 (by decide) (fun h46 => ?_) (fun h46 => ?_)
      · refine ev_iconst (nI 0) dX4_sign_53 rfl ?_
        exact ev_sub [0, 1, 2, 3] rfl (ev_top _ (by first | (rw [sgB_1 (s := (p, b)) (bI_1.mp h37)]; rfl) | (rw [sgB_2 (s := (p, b)) (bI_0.mp h37) (bI_1.mp h46)]; rfl) | (rw [sgB_3 (s := (p, b)) (bI_0.mp h46)]; rfl)) J37)
      · refine ev_iconst (nI 1) dX4_sign_49 rfl ?_
        refine ev_goto 54 dX4_sign_50 (by decide) ?_
        exact ev_sub [0, 1, 2, 3] rfl (ev_top _ (by first | (rw [sgB_1 (s := (p, b)) (bI_1.mp h37)]; rfl) | (rw [sgB_2 (s := (p, b)) (bI_0.mp h37) (bI_1.mp h46)]; rfl) | (rw [sgB_3 (s := (p, b)) (bI_0.mp h46)]; rfl)) J37)
  refine ev_putfield 10 dX4_sign_54 fpX4_143 rfl (Nat.le_of_ble_eq_true rfl) (fun _ => bI_nar _) (fun _ => bI_fit _) (rz4 _ _ _ _ _) ?_
  refine ev_w (w' := rw9 σ (zE z (p, (sgB Y.2.2.2.2.1 ℓ lo hi (p, b)))) Y g) (congrArg (fun q => rw9 σ q Y g) (zE_4 _ _ _)) ?_
  refine ev_aload_n 0 dX4_sign_57 rfl rfl ?_
  refine ev_dup dX4_sign_58 rfl ?_
  refine ev_getfield 9 dX4_sign_59 foX4_140 rfl rfl ?_
  refine ev_top (nI p) rfl ?_
  refine ev_aload_n 0 dX4_sign_62 rfl rfl ?_
  refine ev_getfield 10 dX4_sign_63 foX4_143 rfl rfl ?_
  refine ev_top (bI (sgB Y.2.2.2.2.1 ℓ lo hi (p, b))) rfl ?_
  suffices J66 : Ev mX4_sign (d1 (some (.int (sc Y.2.2.2.2.1 ℓ (p, b)))) (rw9 σ (zE z (sg Y.2.2.2.2.1 ℓ lo hi (p, b))) Y g)) nx 0 74 [(3, .int (sc Y.2.2.2.2.1 ℓ (p, b))), (0, .ref 0), (1, .int lo), (2, .int hi)] [.int (if (sgB Y.2.2.2.2.1 ℓ lo hi (p, b)) = true then nI 0 else nI 1), .int (nI p), .ref 0] (rw9 σ (zE z (p, (sgB Y.2.2.2.2.1 ℓ lo hi (p, b)))) Y g) by
    refine ev_if_eq 73 dX4_sign_66 (by decide) (fun h66 => ?_) (fun h66 => ?_)
    · refine ev_iconst (nI 1) dX4_sign_73 rfl ?_
      exact ev_sub [0, 1, 2, 3] rfl (ev_top _ (by first | exact (if_pos (bI_1.mp h66)).symm | exact (if_neg (by rw [bI_0.mp h66]; decide)).symm) J66)
    · refine ev_iconst (nI 0) dX4_sign_69 rfl ?_
      refine ev_goto 74 dX4_sign_70 (by decide) ?_
      exact ev_sub [0, 1, 2, 3] rfl (ev_top _ (by first | exact (if_pos (bI_1.mp h66)).symm | exact (if_neg (by rw [bI_0.mp h66]; decide)).symm) J66)
  refine ev_iadd dX4_sign_74 ?_
  refine ev_top (nI (sg Y.2.2.2.2.1 ℓ lo hi (p, b)).1) (by unfold sg; show nI p + (if _ then _ else _) = nI (if _ then _ else _); split; exact (nI_add p 0).trans rfl; exact nI_add p 1) ?_
  refine ev_putfield 9 dX4_sign_75 fpX4_140 rfl (Nat.le_of_ble_eq_true rfl) (fun _ => rfl) (fun _ => rfl) (rz3 _ _ _ _ _) ?_
  refine ev_w (w' := rw9 σ (zE z (sg Y.2.2.2.2.1 ℓ lo hi (p, b))) Y g) (congrArg (fun q => rw9 σ q Y g) (zE_3 _ _ _)) ?_
  refine ev_iload_n 3 dX4_sign_78 rfl rfl ?_
  exact ev_ireturn dX4_sign_79 (Nat.le_of_ble_eq_true rfl) ⟨rfl, rfl⟩
set_option maxHeartbeats 1000000 in
theorem c4_number (σ z : Nat → Int32) (Y : RY) (g : PW) {ℓ : Nat} (hℓ : ℓ ≤ 60) (hl : z 1 = nI ℓ) {p : Nat} (hp : p ≤ ℓ) (b : Bool) {lo : Int32} (most : Int32) (h0 : ¬ nI 48 + lo ≤ nI 0) : Ct mX4_number [.ref 0, .int lo, .int most] (rw9 σ (zE z (p, b)) Y g) (d1 (some (.int (nmR Y.2.2.2.2.1 ℓ lo most (p, b)).2)) (rw9 σ (zE z (nmR Y.2.2.2.2.1 ℓ lo most (p, b)).1) Y g)) nx := by
  refine ct_of 2 kX4_number.1 rfl (Nat.le_of_ble_eq_true rfl) (fun v u h => by obtain ⟨rfl, rfl⟩ := h; exact rfl) ?_
  show Ev _ _ _ 0 0 [(0, .ref 0), (1, .int lo), (2, .int most)] [] _
  refine ev_aload_n 0 dX4_number_0 rfl rfl ?_
  refine ev_bipush (nI 48) dX4_number_1 rfl ?_
  refine ev_iload_n 1 dX4_number_3 rfl rfl ?_
  refine ev_iadd dX4_number_4 ?_
  refine ev_bipush (nI 57) dX4_number_5 rfl ?_
  refine ev_cV2 (c4_sign σ z Y g hℓ hl hp b _ _) kX4_sign rfl g1355 rfl rfl rfl rfl dX4_number_7 ?_
  refine ev_bipush (nI 48) dX4_number_10 rfl ?_
  refine ev_isub dX4_number_12 ?_
  refine ev_istore_n 3 dX4_number_13 rfl (Nat.le_of_ble_eq_true rfl) rfl ?_
  have hle := sg_le (bu := Y.2.2.2.2.1) (hi := nI 57) (s := (p, b)) hp h0
  cases hb : (sg Y.2.2.2.2.1 ℓ (nI 48 + lo) (nI 57) (p, b)).2 with
  | true =>
    have e9 : nmR Y.2.2.2.2.1 ℓ lo most (p, b) = ((sg Y.2.2.2.2.1 ℓ (nI 48 + lo) (nI 57) (p, b)), (sc Y.2.2.2.2.1 ℓ (p, b) - nI 48)) := if_pos hb
    refine ev_aload_n 0 dX4_number_14 rfl rfl ?_
    refine ev_getfield 10 dX4_number_15 foX4_143 rfl rfl ?_
    refine ev_top (bI (sg Y.2.2.2.2.1 ℓ (nI 48 + lo) (nI 57) (p, b)).2) rfl ?_
    refine ev_if_ne 96 dX4_number_18 (by decide) (fun h18 => ?_) (fun h18 => absurd h18 (by rw [hb]; decide))
    refine ev_iload_n 3 dX4_number_96 rfl rfl ?_
    exact ev_ireturn dX4_number_97 (Nat.le_of_ble_eq_true rfl) ⟨by rw [e9], by rw [e9]⟩
  | false =>
    have e9 : nmR Y.2.2.2.2.1 ℓ lo most (p, b) = (((nuF Y.2.2.2.2.1 ℓ most (ℓ + 1) (sg Y.2.2.2.2.1 ℓ (nI 48 + lo) (nI 57) (p, b)).1 (sc Y.2.2.2.2.1 ℓ (p, b) - nI 48)).1, false), (nuF Y.2.2.2.2.1 ℓ most (ℓ + 1) (sg Y.2.2.2.2.1 ℓ (nI 48 + lo) (nI 57) (p, b)).1 (sc Y.2.2.2.2.1 ℓ (p, b) - nI 48)).2) := if_neg (by rw [hb]; decide)
    refine ev_w (w' := rw9 σ (zE z ((sg Y.2.2.2.2.1 ℓ (nI 48 + lo) (nI 57) (p, b)).1, false)) Y g) (by rw [← hb]) ?_
    suffices H : ∀ fu q (v : Int32), q ≤ ℓ → ℓ < q + fu → nuF Y.2.2.2.2.1 ℓ most fu q v = nuF Y.2.2.2.2.1 ℓ most (ℓ + 1) (sg Y.2.2.2.2.1 ℓ (nI 48 + lo) (nI 57) (p, b)).1 (sc Y.2.2.2.2.1 ℓ (p, b) - nI 48) → Ev mX4_number (d1 (some (.int (nmR Y.2.2.2.2.1 ℓ lo most (p, b)).2)) (rw9 σ (zE z (nmR Y.2.2.2.2.1 ℓ lo most (p, b)).1) Y g)) nx 0 14 [(3, .int (v)), (0, .ref 0), (1, .int lo), (2, .int most)] [] (rw9 σ (zE z (q, false)) Y g) from ev_sub [0, 1, 2, 3] rfl (H (ℓ + 1) _ _ hle (by omega) rfl)
    intro fu
    induction fu with
    | zero => intro q v hq hf; omega
    | succ fu ih =>
      intro q v hq hf hw
      refine ev_aload_n 0 dX4_number_14 rfl rfl ?_
      refine ev_getfield 10 dX4_number_15 foX4_143 rfl rfl ?_
      refine ev_top (bI false) rfl ?_
      refine ev_if_ne 96 dX4_number_18 (by decide) (fun h18 => absurd rfl h18) (fun h18 => ?_)
      refine ev_iload_n 3 dX4_number_21 rfl rfl ?_
      refine ev_if_le 96 dX4_number_22 (by decide) (fun h22 => ?_) (fun h22 => ?_)
      · have e8 : nuF Y.2.2.2.2.1 ℓ most (fu + 1) q v = (q, v) := if_neg (fun y => absurd y.1 (Int32.not_lt.mpr h22))
        refine ev_iload_n 3 dX4_number_96 rfl rfl ?_
        exact ev_ireturn dX4_number_97 (Nat.le_of_ble_eq_true rfl) ⟨by rw [e9, ← hw, e8], by rw [e9, ← hw, e8]⟩
      · refine ev_aload_n 0 dX4_number_25 rfl rfl ?_
        refine ev_getfield 9 dX4_number_26 foX4_140 rfl rfl ?_
        refine ev_top (nI q) rfl ?_
        refine ev_aload_n 0 dX4_number_29 rfl rfl ?_
        refine ev_getfield 7 dX4_number_30 foX4_137 rfl rfl ?_
        refine ev_top (nI ℓ) ((zE_n _ _ (by decide) (by decide)).trans hl) ?_
        refine ev_icmp_ge 96 dX4_number_33 (by decide) (fun h33 => ?_) (fun h33 => ?_)
        · have e8 : nuF Y.2.2.2.2.1 ℓ most (fu + 1) q v = (q, v) := if_neg (fun y => absurd h33 (nI_ge y.2.1 (by omega)))
          refine ev_iload_n 3 dX4_number_96 rfl rfl ?_
          exact ev_ireturn dX4_number_97 (Nat.le_of_ble_eq_true rfl) ⟨by rw [e9, ← hw, e8], by rw [e9, ← hw, e8]⟩
        · have hq6 : q < ℓ := Nat.lt_of_not_le (fun y => h33 (nI_le y (by omega)))
          refine ev_aload_n 0 dX4_number_36 rfl rfl ?_
          refine ev_getfield 6 dX4_number_37 foX4_26 rfl rfl ?_
          refine ev_aload_n 0 dX4_number_40 rfl rfl ?_
          refine ev_getfield 9 dX4_number_41 foX4_140 rfl rfl ?_
          refine ev_top (nI q) rfl ?_
          refine ev_ild q dX4_number_44 rfl rfl (by omega) rfl ?_
          refine ev_bipush (nI 48) dX4_number_45 rfl ?_
          refine ev_bipush (nI 57) dX4_number_47 rfl ?_
          refine ev_cS3 (c4_in _ _ _ _) kX4_in rfl g1165 rfl rfl dX4_number_49 ?_
          refine ev_if_eq 96 dX4_number_52 (by decide) (fun h52 => ?_) (fun h52 => ?_)
          · have e8 : nuF Y.2.2.2.2.1 ℓ most (fu + 1) q v = (q, v) := if_neg (fun y => absurd y.2.2.1 (by rw [bI_0.mp h52]; decide))
            refine ev_iload_n 3 dX4_number_96 rfl rfl ?_
            exact ev_ireturn dX4_number_97 (Nat.le_of_ble_eq_true rfl) ⟨by rw [e9, ← hw, e8], by rw [e9, ← hw, e8]⟩
          · refine ev_bipush (nI 10) dX4_number_55 rfl ?_
            refine ev_iload_n 3 dX4_number_57 rfl rfl ?_
            refine ev_imul dX4_number_58 ?_
            refine ev_aload_n 0 dX4_number_59 rfl rfl ?_
            refine ev_getfield 6 dX4_number_60 foX4_26 rfl rfl ?_
            refine ev_aload_n 0 dX4_number_63 rfl rfl ?_
            refine ev_getfield 9 dX4_number_64 foX4_140 rfl rfl ?_
            refine ev_top (nI q) rfl ?_
            refine ev_ild q dX4_number_67 rfl rfl (by omega) rfl ?_
            refine ev_iadd dX4_number_68 ?_
            refine ev_bipush (nI 48) dX4_number_69 rfl ?_
            refine ev_isub dX4_number_71 ?_
            refine ev_iload_n 2 dX4_number_72 rfl rfl ?_
            refine ev_icmp_gt 96 dX4_number_73 (by decide) (fun h73 => ?_) (fun h73 => ?_)
            · have e8 : nuF Y.2.2.2.2.1 ℓ most (fu + 1) q v = (q, v) := if_neg (fun y => y.2.2.2 h73)
              refine ev_iload_n 3 dX4_number_96 rfl rfl ?_
              exact ev_ireturn dX4_number_97 (Nat.le_of_ble_eq_true rfl) ⟨by rw [e9, ← hw, e8], by rw [e9, ← hw, e8]⟩
            · have hin : inB (Y.2.2.2.2.1 q) (nI 48) (nI 57) = true := bI_1.mp h52
              have hq : q < ℓ := Nat.lt_of_not_le (fun y => h33 (nI_le y (by omega)))
              have hv : 0 < v := Int32.not_le.mp h22
              have e8 : nuF Y.2.2.2.2.1 ℓ most (fu + 1) q v = nuF Y.2.2.2.2.1 ℓ most fu (q + 1) (nI 10 * v + Y.2.2.2.2.1 q - nI 48) := if_pos ⟨hv, hq, hin, h73⟩
              have e7 : sc Y.2.2.2.2.1 ℓ (q, false) = Y.2.2.2.2.1 q := sc_in (s := (q, false)) hq rfl
              have e6 : sg Y.2.2.2.2.1 ℓ (nI 48) (nI 57) (q, false) = (q + 1, false) := by unfold sg; rw [sgB_2 (s := (q, false)) rfl (by rw [e7]; exact hin)]; rfl
              refine ev_bipush (nI 10) dX4_number_76 rfl ?_
              refine ev_iload_n 3 dX4_number_78 rfl rfl ?_
              refine ev_imul dX4_number_79 ?_
              refine ev_aload_n 0 dX4_number_80 rfl rfl ?_
              refine ev_bipush (nI 48) dX4_number_81 rfl ?_
              refine ev_bipush (nI 57) dX4_number_83 rfl ?_
              refine ev_cV2 (c4_sign σ z Y g hℓ hl (p := q) (by omega) false _ _) kX4_sign rfl g1355 rfl rfl rfl rfl dX4_number_85 ?_
              refine ev_top (Y.2.2.2.2.1 q) e7 ?_
              refine ev_w (w' := rw9 σ (zE z (q + 1, false)) Y g) (by rw [e6]) ?_
              refine ev_iadd dX4_number_88 ?_
              refine ev_bipush (nI 48) dX4_number_89 rfl ?_
              refine ev_isub dX4_number_91 ?_
              refine ev_istore_n 3 dX4_number_92 rfl (Nat.le_of_ble_eq_true rfl) rfl ?_
              refine ev_goto 14 dX4_number_93 (by decide) ?_
              exact ev_sub [0, 1, 2, 3] rfl (ih (q + 1) _ (by omega) (by omega) (by rw [← e8]; exact hw))
