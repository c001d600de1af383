/-! ===== the reference: it goes through the buffer ===== -/
theorem zE_i (z : Nat → Int32) : upd (upd z 3 (nI 0)) 4 (nI 0) = zE z (0, false) := by
  funext i; simp only [upd, zE]
  by_cases h : i = 4
  · subst h; rfl
  · rw [if_neg h]; split
    · rfl
    · rfl
theorem sg_ge (bu : Nat → Int32) (ℓ : Nat) (lo hi : Int32) (s : Nat × Bool) : s.1 ≤ (sg bu ℓ lo hi s).1 := by
  unfold sg
  show s.1 ≤ (if _ then _ else _)
  split
  · exact Nat.le_refl _
  · exact Nat.le_succ _
theorem nuF_ge (bu : Nat → Int32) (ℓ : Nat) (most : Int32) : ∀ (f p : Nat) (v : Int32), p ≤ (nuF bu ℓ most f p v).1 := by
  intro f
  induction f with
  | zero => intro p v; exact Nat.le_refl _
  | succ f ih =>
    intro p v
    simp only [nuF]
    split
    · exact Nat.le_trans (Nat.le_succ p) (ih _ _)
    · exact Nat.le_refl _
theorem nuF_le (bu : Nat → Int32) (ℓ : Nat) (most : Int32) : ∀ (f p : Nat) (v : Int32), p ≤ ℓ → (nuF bu ℓ most f p v).1 ≤ ℓ := by
  intro f
  induction f with
  | zero => intro p v h; exact h
  | succ f ih =>
    intro p v h
    simp only [nuF]
    split
    · next q => exact ih _ _ q.2.1
    · exact h
theorem nmR_ge (bu : Nat → Int32) (ℓ : Nat) (lo most : Int32) (s : Nat × Bool) : s.1 ≤ (nmR bu ℓ lo most s).1.1 := by
  unfold nmR
  split
  · exact sg_ge _ _ _ _ _
  · exact Nat.le_trans (sg_ge bu ℓ (nI 48 + lo) (nI 57) s) (nuF_ge _ _ _ _ _ _)
theorem nmR_le {bu : Nat → Int32} {ℓ : Nat} {lo : Int32} (most : Int32) {s : Nat × Bool} (h : s.1 ≤ ℓ) (h0 : ¬ nI 48 + lo ≤ nI 0) : (nmR bu ℓ lo most s).1.1 ≤ ℓ := by
  unfold nmR
  split
  · exact sg_le h h0
  · exact nuF_le _ _ _ _ _ _ (sg_le h h0)
theorem orS_ge (bu : Nat → Int32) (ℓ : Nat) (hi lo most : Int32) (s : Nat × Bool) : s.1 ≤ (orS bu ℓ hi lo most s).1.1 := Nat.le_trans (sg_ge bu ℓ (nI 48) hi s) (Nat.le_trans (sg_ge bu ℓ (nI 61) (nI 61) _) (nmR_ge _ _ _ _ _))
theorem orS_le {bu : Nat → Int32} {ℓ : Nat} (hi : Int32) {lo : Int32} (most : Int32) {s : Nat × Bool} (h : s.1 ≤ ℓ) (h0 : ¬ nI 48 + lo ≤ nI 0) : (orS bu ℓ hi lo most s).1.1 ≤ ℓ := nmR_le _ (sg_le (sg_le h (by decide)) (by decide)) h0
theorem orP_ge (bu : Nat → Int32) (ℓ : Nat) (s : Nat × Bool) : s.1 ≤ (orP bu ℓ s).1.1 := Nat.le_trans (sg_ge bu ℓ (nI 48) (nI 55) s) (Nat.le_trans (sg_ge bu ℓ (nI 58) (nI 58) _) (Nat.le_trans (sg_ge bu ℓ (nI 48) (nI 53) _) (Nat.le_trans (sg_ge bu ℓ (nI 42) (nI 42) _) (nmR_ge _ _ _ _ _))))
theorem orP_le {bu : Nat → Int32} {ℓ : Nat} {s : Nat × Bool} (h : s.1 ≤ ℓ) : (orP bu ℓ s).1.1 ≤ ℓ := nmR_le _ (sg_le (sg_le (sg_le (sg_le h (by decide)) (by decide)) (by decide)) (by decide)) (by decide)
theorem orH_ge (bu : Nat → Int32) (ℓ : Nat) (s : Nat × Bool) : s.1 ≤ (orH bu ℓ s).1.1 := nmR_ge _ _ _ _ _
theorem orH_le {bu : Nat → Int32} {ℓ : Nat} {s : Nat × Bool} (h : s.1 ≤ ℓ) : (orH bu ℓ s).1.1 ≤ ℓ := nmR_le _ h (by decide)
theorem ltR_in {bu : Nat → Int32} {ℓ p l : Nat} (h : ltR bu ℓ p = nI l) (h0 : ¬ nI 0 = nI l) : p < ℓ := by
  by_cases q : p < ℓ
  · exact q
  · exact absurd ((if_neg q).symm.trans h) h0
theorem ordR_ge (bu : Nat → Int32) (ℓ p : Nat) : p ≤ (ordR bu ℓ p).1.1 := by
  unfold ordR
  split
  · exact Nat.le_trans (Nat.le_succ p) (orS_ge bu ℓ _ _ _ (p + 1, false))
  split
  · exact Nat.le_trans (Nat.le_succ p) (orS_ge bu ℓ _ _ _ (p + 1, false))
  split
  · exact Nat.le_trans (Nat.le_succ p) (orP_ge bu ℓ (p + 1, false))
  split
  · exact Nat.le_trans (Nat.le_succ p) (orP_ge bu ℓ (p + 1, false))
  split
  · exact Nat.le_trans (Nat.le_succ p) (orS_ge bu ℓ _ _ _ (p + 1, false))
  split
  · exact Nat.le_trans (Nat.le_succ p) (orS_ge bu ℓ _ _ _ (p + 1, false))
  split
  · exact Nat.le_trans (Nat.le_succ p) (orH_ge bu ℓ (p + 1, false))
  · exact orS_ge bu ℓ (nI 55) (nI 1) (nI 100) (p, true)
theorem ordR_le {bu : Nat → Int32} {ℓ p : Nat} (hp : p ≤ ℓ) : (ordR bu ℓ p).1.1 ≤ ℓ := by
  unfold ordR
  split
  · next h => exact orS_le _ _ (ltR_in h (by decide)) (by decide)
  split
  · next h => exact orS_le _ _ (ltR_in h (by decide)) (by decide)
  split
  · next h => exact orP_le (ltR_in h (by decide))
  split
  · next h => exact orP_le (ltR_in h (by decide))
  split
  · next h => exact orS_le _ _ (ltR_in h (by decide)) (by decide)
  split
  · next h => exact orS_le _ _ (ltR_in h (by decide)) (by decide)
  split
  · next h => exact orH_le (ltR_in h (by decide))
  · exact orS_le _ _ hp (by decide)
abbrev sg9 (bu : Nat → Int32) (ℓ : Nat) (s : Nat × Bool) : Nat × Bool := sg bu ℓ (nI 59) (nI 59) s
def goF (bu : Nat → Int32) (ℓ : Nat) : Nat → Nat → Nat × Bool
  | 0, p => (p, true)
  | f + 1, p => if (ordR bu ℓ p).1.2 = true then (ordR bu ℓ p).1 else if (ordR bu ℓ p).1.1 < ℓ then (if (sg9 bu ℓ (ordR bu ℓ p).1).2 = true then sg9 bu ℓ (ordR bu ℓ p).1 else goF bu ℓ f (sg9 bu ℓ (ordR bu ℓ p).1).1) else (ordR bu ℓ p).1
def goT (bu : Nat → Int32) (ℓ : Nat) : Nat → Nat → (Nat → Int32) → Bool × ((Nat → Int32) × (Nat × Bool))
  | 0, p, σ => (true, (σ, (p, true)))
  | f + 1, p, σ => if (foS bu ℓ p σ).1 = false then (false, ((foS bu ℓ p σ).2, (ordR bu ℓ p).1)) else if (ordR bu ℓ p).1.2 = true then (true, ((foS bu ℓ p σ).2, (ordR bu ℓ p).1)) else if (ordR bu ℓ p).1.1 < ℓ then (if (sg9 bu ℓ (ordR bu ℓ p).1).2 = true then (true, ((foS bu ℓ p σ).2, sg9 bu ℓ (ordR bu ℓ p).1)) else goT bu ℓ f (sg9 bu ℓ (ordR bu ℓ p).1).1 (foS bu ℓ p σ).2) else (true, ((foS bu ℓ p σ).2, (ordR bu ℓ p).1))
def GoI (bu : Nat → Int32) (ℓ : Nat) (GI : Nat → (Nat → Int32) → Prop) : Prop :=
  ∀ p σ, p ≤ ℓ → GI p σ → FolO bu ℓ p σ ∧ ((foS bu ℓ p σ).1 = true → (ordR bu ℓ p).1.2 = false → (ordR bu ℓ p).1.1 < ℓ → (sg9 bu ℓ (ordR bu ℓ p).1).2 = false → GI (sg9 bu ℓ (ordR bu ℓ p).1).1 (foS bu ℓ p σ).2)
set_option maxHeartbeats 1000000 in
theorem c4_go0 (σ z : Nat → Int32) (Y : RY) (g : PW) {ℓ : Nat} (hℓ : ℓ ≤ 60) (hl : z 1 = nI ℓ) : Ct mX4_go [.ref 0, .int (nI 0)] (rw9 σ z Y g) (d1 (some (.int (bI true))) (rw9 σ (zE z (goF Y.2.2.2.2.1 ℓ (ℓ + 1) 0)) Y g)) nx := by
  refine ct_of 1 kX4_go.1 rfl (Nat.le_of_ble_eq_true rfl) (fun v u h => by obtain ⟨rfl, rfl⟩ := h; exact bI_nar _) ?_
  show Ev _ _ _ 0 0 [(0, .ref 0), (1, .int (nI 0))] [] _
  refine ev_aload_n 0 dX4_go_0 rfl rfl ?_
  refine ev_iconst (nI 0) dX4_go_1 rfl ?_
  refine ev_putfield 9 dX4_go_2 fpX4_140 rfl (Nat.le_of_ble_eq_true rfl) (fun _ => rfl) (fun _ => rfl) (rz3 _ _ _ _ _) ?_
  refine ev_aload_n 0 dX4_go_5 rfl rfl ?_
  refine ev_iconst (nI 0) dX4_go_6 rfl ?_
  refine ev_top (bI false) rfl ?_
  refine ev_putfield 10 dX4_go_7 fpX4_143 rfl (Nat.le_of_ble_eq_true rfl) (fun _ => bI_nar _) (fun _ => bI_fit _) (rz4 _ _ _ _ _) ?_
  refine ev_w (w' := rw9 σ (zE z (0, false)) Y g) (congrArg (fun q => rw9 σ q Y g) (zE_i z)) ?_
  refine ev_iconst (nI 1) dX4_go_10 rfl ?_
  refine ev_istore_n 2 dX4_go_11 rfl (Nat.le_of_ble_eq_true rfl) rfl ?_
  suffices H : ∀ fu p, p ≤ ℓ → ℓ < p + fu → goF Y.2.2.2.2.1 ℓ fu p = (goF Y.2.2.2.2.1 ℓ (ℓ + 1) 0) → Ev mX4_go (d1 (some (.int (bI true))) (rw9 σ (zE z (goF Y.2.2.2.2.1 ℓ (ℓ + 1) 0)) Y g)) nx 0 12 [(2, .int (nI 1)), (0, .ref 0), (1, .int (nI 0))] [] (rw9 σ (zE z (p, false)) Y g) from ev_sub [0, 1, 2] rfl (H (ℓ + 1) 0 (Nat.zero_le _) (by omega) rfl)
  intro fu
  induction fu with
  | zero => intro p hp hf; omega
  | succ fu ih =>
    intro p hp hf hw
    have hge := ordR_ge Y.2.2.2.2.1 ℓ p
    have hle := ordR_le (bu := Y.2.2.2.2.1) hp
    refine ev_iload_n 2 dX4_go_12 rfl rfl ?_
    refine ev_if_eq 79 dX4_go_13 (by decide) (fun h13 => absurd h13 (by decide)) (fun h13 => ?_)
    refine ev_aload_n 0 dX4_go_16 rfl rfl ?_
    refine ev_iload_n 1 dX4_go_17 rfl rfl ?_
    refine ev_cV1 (c4_ordered0 σ z Y g hℓ hl hp) kX4_isOrdered rfl g1351 rfl rfl rfl rfl dX4_go_18 ?_
    refine ev_if_ne 26 dX4_go_21 (by decide) (fun h21 => ?_) (fun h21 => absurd h21 (by decide))
    cases hb : (ordR Y.2.2.2.2.1 ℓ p).1.2 with
    | true =>
      have e9 : goF Y.2.2.2.2.1 ℓ (fu + 1) p = (ordR Y.2.2.2.2.1 ℓ p).1 := by simp only [goF]; rw [if_pos hb]
      refine ev_aload_n 0 dX4_go_26 rfl rfl ?_
      refine ev_getfield 10 dX4_go_27 foX4_143 rfl rfl ?_
      refine ev_top (bI (ordR Y.2.2.2.2.1 ℓ p).1.2) rfl ?_
      refine ev_if_ne 48 dX4_go_30 (by decide) (fun h30 => ?_) (fun h30 => absurd h30 (by rw [hb]; decide))
      refine ev_iconst (nI 0) dX4_go_48 rfl ?_
      refine ev_istore_n 2 dX4_go_49 rfl (Nat.le_of_ble_eq_true rfl) rfl ?_
      refine ev_iload_n 2 dX4_go_50 rfl rfl ?_
      refine ev_if_eq 12 dX4_go_51 (by decide) (fun h51 => ?_) (fun h51 => absurd rfl h51)
      refine ev_iload_n 2 dX4_go_12 rfl rfl ?_
      refine ev_if_eq 79 dX4_go_13 (by decide) (fun h13 => ?_) (fun h13 => absurd rfl h13)
      refine ev_iconst (nI 1) dX4_go_79 rfl ?_
      exact ev_ireturn dX4_go_80 (Nat.le_of_ble_eq_true rfl) ⟨rfl, by rw [← hw, e9]⟩
    | false =>
      by_cases hlt : (ordR Y.2.2.2.2.1 ℓ p).1.1 < ℓ
      · have hsl : (ordR Y.2.2.2.2.1 ℓ p).1.1 ≤ ℓ := hle
        refine ev_aload_n 0 dX4_go_26 rfl rfl ?_
        refine ev_getfield 10 dX4_go_27 foX4_143 rfl rfl ?_
        refine ev_top (bI (ordR Y.2.2.2.2.1 ℓ p).1.2) rfl ?_
        refine ev_if_ne 48 dX4_go_30 (by decide) (fun h30 => absurd (by rw [hb]; rfl) h30) (fun h30 => ?_)
        refine ev_aload_n 0 dX4_go_33 rfl rfl ?_
        refine ev_getfield 9 dX4_go_34 foX4_140 rfl rfl ?_
        refine ev_top (nI (ordR Y.2.2.2.2.1 ℓ p).1.1) rfl ?_
        refine ev_aload_n 0 dX4_go_37 rfl rfl ?_
        refine ev_getfield 7 dX4_go_38 foX4_137 rfl rfl ?_
        refine ev_top (nI ℓ) ((zE_n _ _ (by decide) (by decide)).trans hl) ?_
        refine ev_icmp_ge 48 dX4_go_41 (by decide) (fun h41 => absurd h41 (nI_ge hlt (by omega))) (fun h41 => ?_)
        refine ev_iconst (nI 1) dX4_go_44 rfl ?_
        refine ev_goto 49 dX4_go_45 (by decide) ?_
        refine ev_istore_n 2 dX4_go_49 rfl (Nat.le_of_ble_eq_true rfl) rfl ?_
        refine ev_iload_n 2 dX4_go_50 rfl rfl ?_
        refine ev_if_eq 12 dX4_go_51 (by decide) (fun h51 => absurd h51 (by decide)) (fun h51 => ?_)
        refine ev_aload_n 0 dX4_go_54 rfl rfl ?_
        refine ev_bipush (nI 59) dX4_go_55 rfl ?_
        refine ev_bipush (nI 59) dX4_go_57 rfl ?_
        refine ev_cV2 (c4_signS σ z Y g hℓ hl (ordR Y.2.2.2.2.1 ℓ p).1 hsl _ _) kX4_sign rfl g1355 rfl rfl rfl rfl dX4_go_59 ?_
        refine ev_istore_n 3 dX4_go_62 rfl (Nat.le_of_ble_eq_true rfl) rfl ?_
        cases hb2 : (sg9 Y.2.2.2.2.1 ℓ (ordR Y.2.2.2.2.1 ℓ p).1).2 with
        | true =>
          have e9 : goF Y.2.2.2.2.1 ℓ (fu + 1) p = (sg9 Y.2.2.2.2.1 ℓ (ordR Y.2.2.2.2.1 ℓ p).1) := by simp only [goF]; rw [if_neg (by rw [hb]; decide), if_pos hlt, if_pos hb2]
          refine ev_aload_n 0 dX4_go_63 rfl rfl ?_
          refine ev_getfield 10 dX4_go_64 foX4_143 rfl rfl ?_
          refine ev_top (bI (sg9 Y.2.2.2.2.1 ℓ (ordR Y.2.2.2.2.1 ℓ p).1).2) rfl ?_
          refine ev_if_ne 74 dX4_go_67 (by decide) (fun h67 => ?_) (fun h67 => absurd h67 (by rw [hb2]; decide))
          refine ev_iconst (nI 0) dX4_go_74 rfl ?_
          refine ev_istore_n 2 dX4_go_75 rfl (Nat.le_of_ble_eq_true rfl) rfl ?_
          refine ev_goto 12 dX4_go_76 (by decide) ?_
          refine ev_iload_n 2 dX4_go_12 rfl rfl ?_
          refine ev_if_eq 79 dX4_go_13 (by decide) (fun h13 => ?_) (fun h13 => absurd rfl h13)
          refine ev_iconst (nI 1) dX4_go_79 rfl ?_
          exact ev_ireturn dX4_go_80 (Nat.le_of_ble_eq_true rfl) ⟨rfl, by rw [← hw, e9]⟩
        | false =>
          have e9 : goF Y.2.2.2.2.1 ℓ (fu + 1) p = goF Y.2.2.2.2.1 ℓ fu (sg9 Y.2.2.2.2.1 ℓ (ordR Y.2.2.2.2.1 ℓ p).1).1 := by simp only [goF]; rw [if_neg (by rw [hb]; decide), if_pos hlt, if_neg (by rw [hb2]; decide)]
          have ht : (sg9 Y.2.2.2.2.1 ℓ (ordR Y.2.2.2.2.1 ℓ p).1).1 = (ordR Y.2.2.2.2.1 ℓ p).1.1 + 1 := if_neg (by rw [show sgB Y.2.2.2.2.1 ℓ (nI 59) (nI 59) (ordR Y.2.2.2.2.1 ℓ p).1 = false from hb2]; decide)
          refine ev_aload_n 0 dX4_go_63 rfl rfl ?_
          refine ev_getfield 10 dX4_go_64 foX4_143 rfl rfl ?_
          refine ev_top (bI (sg9 Y.2.2.2.2.1 ℓ (ordR Y.2.2.2.2.1 ℓ p).1).2) rfl ?_
          refine ev_if_ne 74 dX4_go_67 (by decide) (fun h67 => absurd (by rw [hb2]; rfl) h67) (fun h67 => ?_)
          refine ev_iconst (nI 1) dX4_go_70 rfl ?_
          refine ev_goto 75 dX4_go_71 (by decide) ?_
          refine ev_istore_n 2 dX4_go_75 rfl (Nat.le_of_ble_eq_true rfl) rfl ?_
          refine ev_goto 12 dX4_go_76 (by decide) ?_
          refine ev_w (w' := rw9 σ (zE z ((sg9 Y.2.2.2.2.1 ℓ (ordR Y.2.2.2.2.1 ℓ p).1).1, false)) Y g) (by rw [← hb2]) ?_
          exact ev_sub [0, 2, 3] rfl (ih (sg9 Y.2.2.2.2.1 ℓ (ordR Y.2.2.2.2.1 ℓ p).1).1 (sg_le hsl (by decide)) (by rw [ht]; omega) (by rw [← e9]; exact hw))
      · have e9 : goF Y.2.2.2.2.1 ℓ (fu + 1) p = (ordR Y.2.2.2.2.1 ℓ p).1 := by simp only [goF]; rw [if_neg (by rw [hb]; decide), if_neg hlt]
        refine ev_aload_n 0 dX4_go_26 rfl rfl ?_
        refine ev_getfield 10 dX4_go_27 foX4_143 rfl rfl ?_
        refine ev_top (bI (ordR Y.2.2.2.2.1 ℓ p).1.2) rfl ?_
        refine ev_if_ne 48 dX4_go_30 (by decide) (fun h30 => absurd (by rw [hb]; rfl) h30) (fun h30 => ?_)
        refine ev_aload_n 0 dX4_go_33 rfl rfl ?_
        refine ev_getfield 9 dX4_go_34 foX4_140 rfl rfl ?_
        refine ev_top (nI (ordR Y.2.2.2.2.1 ℓ p).1.1) rfl ?_
        refine ev_aload_n 0 dX4_go_37 rfl rfl ?_
        refine ev_getfield 7 dX4_go_38 foX4_137 rfl rfl ?_
        refine ev_top (nI ℓ) ((zE_n _ _ (by decide) (by decide)).trans hl) ?_
        refine ev_icmp_ge 48 dX4_go_41 (by decide) (fun h41 => ?_) (fun h41 => absurd (nI_le (by omega) (by omega)) h41)
        refine ev_iconst (nI 0) dX4_go_48 rfl ?_
        refine ev_istore_n 2 dX4_go_49 rfl (Nat.le_of_ble_eq_true rfl) rfl ?_
        refine ev_iload_n 2 dX4_go_50 rfl rfl ?_
        refine ev_if_eq 12 dX4_go_51 (by decide) (fun h51 => ?_) (fun h51 => absurd rfl h51)
        refine ev_iload_n 2 dX4_go_12 rfl rfl ?_
        refine ev_if_eq 79 dX4_go_13 (by decide) (fun h13 => ?_) (fun h13 => absurd rfl h13)
        refine ev_iconst (nI 1) dX4_go_79 rfl ?_
        exact ev_ireturn dX4_go_80 (Nat.le_of_ble_eq_true rfl) ⟨rfl, by rw [← hw, e9]⟩
set_option maxHeartbeats 1000000 in
theorem c4_go1 (σ z : Nat → Int32) (Y : RY) (g : PW) {ℓ : Nat} (hℓ : ℓ ≤ 60) (hl : z 1 = nI ℓ) (GI : Nat → (Nat → Int32) → Prop) (hI : GoI Y.2.2.2.2.1 ℓ GI) (h0 : GI 0 σ) : Ct mX4_go [.ref 0, .int (nI 1)] (rw9 σ z Y g) (d1 (some (.int (bI (goT Y.2.2.2.2.1 ℓ (ℓ + 1) 0 σ).1))) (rw9 (goT Y.2.2.2.2.1 ℓ (ℓ + 1) 0 σ).2.1 (zE z (goT Y.2.2.2.2.1 ℓ (ℓ + 1) 0 σ).2.2) Y g)) nx := by
  refine ct_of 1 kX4_go.1 rfl (Nat.le_of_ble_eq_true rfl) (fun v u h => by obtain ⟨rfl, rfl⟩ := h; exact bI_nar _) ?_
  show Ev _ _ _ 0 0 [(0, .ref 0), (1, .int (nI 1))] [] _
  refine ev_aload_n 0 dX4_go_0 rfl rfl ?_
  refine ev_iconst (nI 0) dX4_go_1 rfl ?_
  refine ev_putfield 9 dX4_go_2 fpX4_140 rfl (Nat.le_of_ble_eq_true rfl) (fun _ => rfl) (fun _ => rfl) (rz3 _ _ _ _ _) ?_
  refine ev_aload_n 0 dX4_go_5 rfl rfl ?_
  refine ev_iconst (nI 0) dX4_go_6 rfl ?_
  refine ev_top (bI false) rfl ?_
  refine ev_putfield 10 dX4_go_7 fpX4_143 rfl (Nat.le_of_ble_eq_true rfl) (fun _ => bI_nar _) (fun _ => bI_fit _) (rz4 _ _ _ _ _) ?_
  refine ev_w (w' := rw9 σ (zE z (0, false)) Y g) (congrArg (fun q => rw9 σ q Y g) (zE_i z)) ?_
  refine ev_iconst (nI 1) dX4_go_10 rfl ?_
  refine ev_istore_n 2 dX4_go_11 rfl (Nat.le_of_ble_eq_true rfl) rfl ?_
  suffices H : ∀ fu p (σ1 : Nat → Int32), p ≤ ℓ → ℓ < p + fu → GI p σ1 → goT Y.2.2.2.2.1 ℓ fu p σ1 = (goT Y.2.2.2.2.1 ℓ (ℓ + 1) 0 σ) → Ev mX4_go (d1 (some (.int (bI (goT Y.2.2.2.2.1 ℓ (ℓ + 1) 0 σ).1))) (rw9 (goT Y.2.2.2.2.1 ℓ (ℓ + 1) 0 σ).2.1 (zE z (goT Y.2.2.2.2.1 ℓ (ℓ + 1) 0 σ).2.2) Y g)) nx 0 12 [(2, .int (nI 1)), (0, .ref 0), (1, .int (nI 1))] [] (rw9 σ1 (zE z (p, false)) Y g) from ev_sub [0, 1, 2] rfl (H (ℓ + 1) 0 σ (Nat.zero_le _) (by omega) h0 rfl)
  intro fu
  induction fu with
  | zero => intro p σ1 hp hf hg; omega
  | succ fu ih =>
    intro p σ1 hp hf hg hw
    have hge := ordR_ge Y.2.2.2.2.1 ℓ p
    have hle := ordR_le (bu := Y.2.2.2.2.1) hp
    obtain ⟨hfo, hnx⟩ := hI p σ1 hp hg
    refine ev_iload_n 2 dX4_go_12 rfl rfl ?_
    refine ev_if_eq 79 dX4_go_13 (by decide) (fun h13 => absurd h13 (by decide)) (fun h13 => ?_)
    refine ev_aload_n 0 dX4_go_16 rfl rfl ?_
    refine ev_iload_n 1 dX4_go_17 rfl rfl ?_
    refine ev_cV1 (c4_ordered1 σ1 z Y g hℓ hl hp hfo) kX4_isOrdered rfl g1351 rfl rfl rfl rfl dX4_go_18 ?_
    cases hr : (foS Y.2.2.2.2.1 ℓ p σ1).1 with
    | false =>
      have e9 : goT Y.2.2.2.2.1 ℓ (fu + 1) p σ1 = (false, ((foS Y.2.2.2.2.1 ℓ p σ1).2, (ordR Y.2.2.2.2.1 ℓ p).1)) := by simp only [goT]; rw [if_pos hr]
      refine ev_if_ne 26 dX4_go_21 (by decide) (fun h21 => absurd rfl h21) (fun h21 => ?_)
      refine ev_iconst (nI 0) dX4_go_24 rfl ?_
      exact ev_ireturn dX4_go_25 (Nat.le_of_ble_eq_true rfl) ⟨by rw [← hw, e9]; rfl, by rw [← hw, e9]⟩
    | true =>
      refine ev_if_ne 26 dX4_go_21 (by decide) (fun h21 => ?_) (fun h21 => absurd h21 (by decide))
      cases hb : (ordR Y.2.2.2.2.1 ℓ p).1.2 with
      | true =>
        have e9 : goT Y.2.2.2.2.1 ℓ (fu + 1) p σ1 = (true, ((foS Y.2.2.2.2.1 ℓ p σ1).2, (ordR Y.2.2.2.2.1 ℓ p).1)) := by simp only [goT]; rw [if_neg (by rw [hr]; decide), if_pos hb]
        refine ev_aload_n 0 dX4_go_26 rfl rfl ?_
        refine ev_getfield 10 dX4_go_27 foX4_143 rfl rfl ?_
        refine ev_top (bI (ordR Y.2.2.2.2.1 ℓ p).1.2) rfl ?_
        refine ev_if_ne 48 dX4_go_30 (by decide) (fun h30 => ?_) (fun h30 => absurd h30 (by rw [hb]; decide))
        refine ev_iconst (nI 0) dX4_go_48 rfl ?_
        refine ev_istore_n 2 dX4_go_49 rfl (Nat.le_of_ble_eq_true rfl) rfl ?_
        refine ev_iload_n 2 dX4_go_50 rfl rfl ?_
        refine ev_if_eq 12 dX4_go_51 (by decide) (fun h51 => ?_) (fun h51 => absurd rfl h51)
        refine ev_iload_n 2 dX4_go_12 rfl rfl ?_
        refine ev_if_eq 79 dX4_go_13 (by decide) (fun h13 => ?_) (fun h13 => absurd rfl h13)
        refine ev_iconst (nI 1) dX4_go_79 rfl ?_
        exact ev_ireturn dX4_go_80 (Nat.le_of_ble_eq_true rfl) ⟨by rw [← hw, e9]; rfl, by rw [← hw, e9]⟩
      | false =>
        by_cases hlt : (ordR Y.2.2.2.2.1 ℓ p).1.1 < ℓ
        · have hsl : (ordR Y.2.2.2.2.1 ℓ p).1.1 ≤ ℓ := hle
          refine ev_aload_n 0 dX4_go_26 rfl rfl ?_
          refine ev_getfield 10 dX4_go_27 foX4_143 rfl rfl ?_
          refine ev_top (bI (ordR Y.2.2.2.2.1 ℓ p).1.2) rfl ?_
          refine ev_if_ne 48 dX4_go_30 (by decide) (fun h30 => absurd (by rw [hb]; rfl) h30) (fun h30 => ?_)
          refine ev_aload_n 0 dX4_go_33 rfl rfl ?_
          refine ev_getfield 9 dX4_go_34 foX4_140 rfl rfl ?_
          refine ev_top (nI (ordR Y.2.2.2.2.1 ℓ p).1.1) rfl ?_
          refine ev_aload_n 0 dX4_go_37 rfl rfl ?_
          refine ev_getfield 7 dX4_go_38 foX4_137 rfl rfl ?_
          refine ev_top (nI ℓ) ((zE_n _ _ (by decide) (by decide)).trans hl) ?_
          refine ev_icmp_ge 48 dX4_go_41 (by decide) (fun h41 => absurd h41 (nI_ge hlt (by omega))) (fun h41 => ?_)
          refine ev_iconst (nI 1) dX4_go_44 rfl ?_
          refine ev_goto 49 dX4_go_45 (by decide) ?_
          refine ev_istore_n 2 dX4_go_49 rfl (Nat.le_of_ble_eq_true rfl) rfl ?_
          refine ev_iload_n 2 dX4_go_50 rfl rfl ?_
          refine ev_if_eq 12 dX4_go_51 (by decide) (fun h51 => absurd h51 (by decide)) (fun h51 => ?_)
          refine ev_aload_n 0 dX4_go_54 rfl rfl ?_
          refine ev_bipush (nI 59) dX4_go_55 rfl ?_
          refine ev_bipush (nI 59) dX4_go_57 rfl ?_
          refine ev_cV2 (c4_signS (foS Y.2.2.2.2.1 ℓ p σ1).2 z Y g hℓ hl (ordR Y.2.2.2.2.1 ℓ p).1 hsl _ _) kX4_sign rfl g1355 rfl rfl rfl rfl dX4_go_59 ?_
          refine ev_istore_n 3 dX4_go_62 rfl (Nat.le_of_ble_eq_true rfl) rfl ?_
          cases hb2 : (sg9 Y.2.2.2.2.1 ℓ (ordR Y.2.2.2.2.1 ℓ p).1).2 with
          | true =>
            have e9 : goT Y.2.2.2.2.1 ℓ (fu + 1) p σ1 = (true, ((foS Y.2.2.2.2.1 ℓ p σ1).2, (sg9 Y.2.2.2.2.1 ℓ (ordR Y.2.2.2.2.1 ℓ p).1))) := by simp only [goT]; rw [if_neg (by rw [hr]; decide), if_neg (by rw [hb]; decide), if_pos hlt, if_pos hb2]
            refine ev_aload_n 0 dX4_go_63 rfl rfl ?_
            refine ev_getfield 10 dX4_go_64 foX4_143 rfl rfl ?_
            refine ev_top (bI (sg9 Y.2.2.2.2.1 ℓ (ordR Y.2.2.2.2.1 ℓ p).1).2) rfl ?_
            refine ev_if_ne 74 dX4_go_67 (by decide) (fun h67 => ?_) (fun h67 => absurd h67 (by rw [hb2]; decide))
            refine ev_iconst (nI 0) dX4_go_74 rfl ?_
            refine ev_istore_n 2 dX4_go_75 rfl (Nat.le_of_ble_eq_true rfl) rfl ?_
            refine ev_goto 12 dX4_go_76 (by decide) ?_
            refine ev_iload_n 2 dX4_go_12 rfl rfl ?_
            refine ev_if_eq 79 dX4_go_13 (by decide) (fun h13 => ?_) (fun h13 => absurd rfl h13)
            refine ev_iconst (nI 1) dX4_go_79 rfl ?_
            exact ev_ireturn dX4_go_80 (Nat.le_of_ble_eq_true rfl) ⟨by rw [← hw, e9]; rfl, by rw [← hw, e9]⟩
          | false =>
            have e9 : goT Y.2.2.2.2.1 ℓ (fu + 1) p σ1 = goT Y.2.2.2.2.1 ℓ fu (sg9 Y.2.2.2.2.1 ℓ (ordR Y.2.2.2.2.1 ℓ p).1).1 (foS Y.2.2.2.2.1 ℓ p σ1).2 := by simp only [goT]; rw [if_neg (by rw [hr]; decide), if_neg (by rw [hb]; decide), if_pos hlt, if_neg (by rw [hb2]; decide)]
            have ht : (sg9 Y.2.2.2.2.1 ℓ (ordR Y.2.2.2.2.1 ℓ p).1).1 = (ordR Y.2.2.2.2.1 ℓ p).1.1 + 1 := if_neg (by rw [show sgB Y.2.2.2.2.1 ℓ (nI 59) (nI 59) (ordR Y.2.2.2.2.1 ℓ p).1 = false from hb2]; decide)
            refine ev_aload_n 0 dX4_go_63 rfl rfl ?_
            refine ev_getfield 10 dX4_go_64 foX4_143 rfl rfl ?_
            refine ev_top (bI (sg9 Y.2.2.2.2.1 ℓ (ordR Y.2.2.2.2.1 ℓ p).1).2) rfl ?_
            refine ev_if_ne 74 dX4_go_67 (by decide) (fun h67 => absurd (by rw [hb2]; rfl) h67) (fun h67 => ?_)
            refine ev_iconst (nI 1) dX4_go_70 rfl ?_
            refine ev_goto 75 dX4_go_71 (by decide) ?_
            refine ev_istore_n 2 dX4_go_75 rfl (Nat.le_of_ble_eq_true rfl) rfl ?_
            refine ev_goto 12 dX4_go_76 (by decide) ?_
            refine ev_w (w' := rw9 (foS Y.2.2.2.2.1 ℓ p σ1).2 (zE z ((sg9 Y.2.2.2.2.1 ℓ (ordR Y.2.2.2.2.1 ℓ p).1).1, false)) Y g) (by rw [← hb2]) ?_
            exact ev_sub [0, 2, 3] rfl (ih (sg9 Y.2.2.2.2.1 ℓ (ordR Y.2.2.2.2.1 ℓ p).1).1 (foS Y.2.2.2.2.1 ℓ p σ1).2 (sg_le hsl (by decide)) (by rw [ht]; omega) (hnx hr hb hlt hb2) (by rw [← e9]; exact hw))
        · have e9 : goT Y.2.2.2.2.1 ℓ (fu + 1) p σ1 = (true, ((foS Y.2.2.2.2.1 ℓ p σ1).2, (ordR Y.2.2.2.2.1 ℓ p).1)) := by simp only [goT]; rw [if_neg (by rw [hr]; decide), if_neg (by rw [hb]; decide), if_neg hlt]
          refine ev_aload_n 0 dX4_go_26 rfl rfl ?_
          refine ev_getfield 10 dX4_go_27 foX4_143 rfl rfl ?_
          refine ev_top (bI (ordR Y.2.2.2.2.1 ℓ p).1.2) rfl ?_
          refine ev_if_ne 48 dX4_go_30 (by decide) (fun h30 => absurd (by rw [hb]; rfl) h30) (fun h30 => ?_)
          refine ev_aload_n 0 dX4_go_33 rfl rfl ?_
          refine ev_getfield 9 dX4_go_34 foX4_140 rfl rfl ?_
          refine ev_top (nI (ordR Y.2.2.2.2.1 ℓ p).1.1) rfl ?_
          refine ev_aload_n 0 dX4_go_37 rfl rfl ?_
          refine ev_getfield 7 dX4_go_38 foX4_137 rfl rfl ?_
          refine ev_top (nI ℓ) ((zE_n _ _ (by decide) (by decide)).trans hl) ?_
          refine ev_icmp_ge 48 dX4_go_41 (by decide) (fun h41 => ?_) (fun h41 => absurd (nI_le (by omega) (by omega)) h41)
          refine ev_iconst (nI 0) dX4_go_48 rfl ?_
          refine ev_istore_n 2 dX4_go_49 rfl (Nat.le_of_ble_eq_true rfl) rfl ?_
          refine ev_iload_n 2 dX4_go_50 rfl rfl ?_
          refine ev_if_eq 12 dX4_go_51 (by decide) (fun h51 => ?_) (fun h51 => absurd rfl h51)
          refine ev_iload_n 2 dX4_go_12 rfl rfl ?_
          refine ev_if_eq 79 dX4_go_13 (by decide) (fun h13 => ?_) (fun h13 => absurd rfl h13)
          refine ev_iconst (nI 1) dX4_go_79 rfl ?_
          exact ev_ireturn dX4_go_80 (Nat.le_of_ble_eq_true rfl) ⟨by rw [← hw, e9]; rfl, by rw [← hw, e9]⟩
def feR (s : Nat × Bool) (ℓ : Nat) : Nat := if s.2 = true then s.1 else ℓ
set_option maxHeartbeats 1000000 in
theorem p4_firstError (σ z : Nat → Int32) (Y : RY) (g : PW) {ℓ : Nat} (hℓ : ℓ ≤ 60) (hl : z 1 = nI ℓ) : Ct mX4_firstError [.ref 0] (rw9 σ z Y g) (d1 (some (.int (nI (feR (goF Y.2.2.2.2.1 ℓ (ℓ + 1) 0) ℓ)))) (rw9 σ (zE (upd z 2 (nI 0)) (goF Y.2.2.2.2.1 ℓ (ℓ + 1) 0)) Y g)) nx := by
  refine ct_of 0 kX4_firstError.1 rfl (Nat.le_of_ble_eq_true rfl) (fun v u h => by obtain ⟨rfl, rfl⟩ := h; exact rfl) ?_
  show Ev _ _ _ 0 0 [(0, .ref 0)] [] _
  refine ev_aload_n 0 dX4_firstError_0 rfl rfl ?_
  refine ev_iconst (nI 0) dX4_firstError_1 rfl ?_
  refine ev_putfield 8 dX4_firstError_2 fpX4_29 rfl (Nat.le_of_ble_eq_true rfl) (fun _ => rfl) (fun _ => rfl) (rz2 _ _ _ _ _) ?_
  refine ev_aload_n 0 dX4_firstError_5 rfl rfl ?_
  refine ev_iconst (nI 0) dX4_firstError_6 rfl ?_
  refine ev_cV1 (c4_go0 σ (upd z 2 (nI 0)) Y g hℓ ((upd_n _ _ (by decide)).trans hl)) kX4_go rfl g1347 rfl rfl rfl rfl dX4_firstError_7 ?_
  refine ev_istore_n 1 dX4_firstError_10 rfl (Nat.le_of_ble_eq_true rfl) rfl ?_
  refine ev_aload_n 0 dX4_firstError_11 rfl rfl ?_
  refine ev_getfield 10 dX4_firstError_12 foX4_143 rfl rfl ?_
  refine ev_top (bI (goF Y.2.2.2.2.1 ℓ (ℓ + 1) 0).2) rfl ?_
  refine ev_if_eq 25 dX4_firstError_15 (by decide) (fun h15 => ?_) (fun h15 => ?_)
  · have e : feR (goF Y.2.2.2.2.1 ℓ (ℓ + 1) 0) ℓ = ℓ := if_neg (by rw [bI_0.mp h15]; decide)
    refine ev_aload_n 0 dX4_firstError_25 rfl rfl ?_
    refine ev_getfield 7 dX4_firstError_26 foX4_137 rfl rfl ?_
    refine ev_top (nI ℓ) ((zE_n _ _ (by decide) (by decide)).trans ((upd_n _ _ (by decide)).trans hl)) ?_
    exact ev_ireturn dX4_firstError_29 (Nat.le_of_ble_eq_true rfl) ⟨by rw [e], rfl⟩
  · have e : feR (goF Y.2.2.2.2.1 ℓ (ℓ + 1) 0) ℓ = (goF Y.2.2.2.2.1 ℓ (ℓ + 1) 0).1 := if_pos (bI_1.mp h15)
    refine ev_aload_n 0 dX4_firstError_18 rfl rfl ?_
    refine ev_getfield 9 dX4_firstError_19 foX4_140 rfl rfl ?_
    refine ev_top (nI (goF Y.2.2.2.2.1 ℓ (ℓ + 1) 0).1) rfl ?_
    refine ev_goto 29 dX4_firstError_22 (by decide) ?_
    exact ev_ireturn dX4_firstError_29 (Nat.le_of_ble_eq_true rfl) ⟨by rw [e], rfl⟩
