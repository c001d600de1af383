/-! ===== the class: the reader takes a sign, finds the first error ===== -/
def takP (s : PS) (c : Nat) : Bool × PS := match s.lt with
  | none => (!decide (shp c = 4), ⟨some c, s.step, s.client, s.kind, s.number, s.digits⟩)
  | some l => if c = 59 ∧ 0 < s.digits then (true, PS0) else insP l s.step s.client s.kind s.number s.digits c
/-- what holds of the reader behind j signs -/
def GP (j : Nat) (s : PS) : Prop := (∀ l, s.lt = some l → l < 128) ∧ s.step ≤ 5 ∧ s.number < 100000 ∧ s.digits ≤ j
theorem GP_0 : GP 0 PS0 := ⟨fun l h => (by cases h), Nat.zero_le _, (by decide), Nat.le_refl _⟩
theorem okD_le {l nb dg d : Nat} (h : okD l nb dg d = true) : nuN nb d ≤ 9999 := by
  unfold okD at h
  simp only [Bool.and_eq_true, decide_eq_true_eq] at h
  have := mst_le (mki l)
  omega
theorem insP_gp {l sp : Nat} {cl kd : Int32} {nb dg c j : Nat} (hl : l < 128) (hs : sp ≤ 5) (hb : nb < 100000) (hg : dg ≤ j) : (∀ l', (insP l sp cl kd nb dg c).2.lt = some l' → l' < 128) ∧ (insP l sp cl kd nb dg c).2.step ≤ 5 ∧ (insP l sp cl kd nb dg c).2.digits ≤ j + 1 ∧ ((insP l sp cl kd nb dg c).1 = true → (insP l sp cl kd nb dg c).2.number < 100000) := by
  have h5 := ln5_s (shp l) (shp_5 l)
  unfold insP
  split
  · exact ⟨fun l' h => by cases h; exact hl, hs, Nat.le_succ_of_le hg, fun _ => hb⟩
  split
  · split
    · exact ⟨fun l' h => by cases h; exact hl, hs, Nat.le_succ_of_le hg, fun _ => hb⟩
    split
    · exact ⟨fun l' h => by cases h; exact hl, hs, Nat.le_succ_of_le hg, fun _ => hb⟩
    · exact ⟨fun l' h => by cases h; exact hl, hs, Nat.succ_le_succ hg, fun h => Nat.lt_of_le_of_lt (okD_le h) (by decide)⟩
  split
  · exact ⟨fun l' h => by cases h; exact hl, (by show sp + 1 ≤ 5; omega), Nat.le_succ_of_le hg, fun _ => hb⟩
  split
  · exact ⟨fun l' h => by cases h; exact hl, (by show sp + 1 ≤ 5; omega), Nat.le_succ_of_le hg, fun _ => hb⟩
  · exact ⟨fun l' h => by cases h; exact hl, (by show sp + 1 ≤ 5; omega), Nat.le_succ_of_le hg, fun _ => hb⟩
theorem takP_gp {s : PS} {c j : Nat} (hc : c < 128) (h : GP j s) : (∀ l', (takP s c).2.lt = some l' → l' < 128) ∧ (takP s c).2.step ≤ 5 ∧ (takP s c).2.digits ≤ j + 1 ∧ ((takP s c).1 = true → (takP s c).2.number < 100000) := by
  obtain ⟨h1, h2, h3, h4⟩ := h
  obtain ⟨lt, sp, cl, kd, nb, dg⟩ := s
  cases lt with
  | none => exact ⟨fun l' h => by cases h; exact hc, h2, Nat.le_succ_of_le h4, fun _ => h3⟩
  | some l =>
    simp only [takP]
    split
    · exact ⟨fun l' h => (by cases h), Nat.zero_le _, Nat.zero_le _, fun _ => (by decide)⟩
    · exact insP_gp (h1 l rfl) h2 h3 h4
theorem takP_GP {s : PS} {c j : Nat} (hc : c < 128) (h : GP j s) (ht : (takP s c).1 = true) : GP (j + 1) (takP s c).2 := by
  obtain ⟨a, b, d, e⟩ := takP_gp hc h
  exact ⟨a, b, e ht, d⟩
def runP (bc : Nat → Nat) : Nat → Nat → PS → Nat × PS
  | 0, j, s => (j, s)
  | f + 1, j, s => if (takP s (bc j)).1 = true then runP bc f (j + 1) (takP s (bc j)).2 else (j, (takP s (bc j)).2)
theorem l_m1 : ∀ l, l < 128 → ¬ nI l = -1 := by decide +kernel
theorem c1_shape4 (w : PW) {c : Nat} (hc : c < 128) (h : shp c = 4) : Ct mX1_shapeOf [.int (nI c)] w (d1 (some (.ref (1000 + 4))) w) nx := by
  have e := c1_shape w hc
  rw [h] at e
  exact e
set_option maxHeartbeats 1000000 in
theorem c1_tak0 (P : Nat → va_E) (cs sl pl ks rr : Nat → Int32) (n b : Nat) (sv : Nat → Nat) (sf τ : Nat → Int32) (T : Nat → Nat → Int32) (g : PW) (ℓ : Nat) (sp : Nat) (cl kd : Int32) (nb dg : Nat) {c : Nat} (hc : c < 128) (h : shp c = 4) : Ct mX1_take [.ref 8, .int (nI c)] (hv P (tE ℓ (⟨none, sp, cl, kd, nb, dg⟩)) cs sl pl ks rr n b sv sf τ T g) (d1 (some (.int (bI false))) (hv P (tE ℓ (⟨some c, sp, cl, kd, nb, dg⟩)) cs sl pl ks rr n b sv sf τ T g)) nx := by
  refine ct_of 1 kX1_take.1 rfl (Nat.le_of_ble_eq_true rfl) (fun v u h => by obtain ⟨rfl, rfl⟩ := h; exact bI_nar _) ?_
  show Ev _ _ _ 0 0 [(0, .ref 8), (1, .int (nI c))] [] _
  refine ev_aload_n 0 dX1_take_0 rfl rfl ?_
  refine ev_getfield 2 dX1_take_1 foX1_15 rfl rfl ?_
  refine ev_iconst (-1) dX1_take_4 rfl ?_
  refine ev_icmp_ne 29 dX1_take_5 (by decide) (fun h5 => absurd rfl h5) (fun h5 => ?_)
  refine ev_aload_n 0 dX1_take_8 rfl rfl ?_
  refine ev_iload_n 1 dX1_take_9 rfl rfl ?_
  refine ev_putfield 2 dX1_take_10 fpX1_15 rfl (Nat.le_of_ble_eq_true rfl) (fun _ => rfl) (fun _ => rfl) (hv_te _ _ _ _ _ _ _ _ _ _ _ _ _ _ (tE ℓ (⟨some c, sp, cl, kd, nb, dg⟩))) ?_
  refine ev_iload_n 1 dX1_take_13 rfl rfl ?_
  refine ev_cS1 (c1_shape4 _ hc h) kX1_shapeOf rfl g323 rfl rfl dX1_take_14 ?_
  refine ev_cT0 (i := 4) (j_isEmpty4 _) kJ0_isEmpty_aae02 rfl g331 rfl (by omega) rfl rfl dX1_take_17 ?_
  refine ev_if_ne 27 dX1_take_20 (by decide) (fun h20 => ?_) (fun h20 => absurd h20 (by decide))
  refine ev_iconst (nI 0) dX1_take_27 rfl ?_
  exact ev_ireturn dX1_take_28 (Nat.le_of_ble_eq_true rfl) ⟨rfl, rfl⟩
set_option maxHeartbeats 1000000 in
theorem c1_tak1 (P : Nat → va_E) (cs sl pl ks rr : Nat → Int32) (n b : Nat) (sv : Nat → Nat) (sf τ : Nat → Int32) (T : Nat → Nat → Int32) (g : PW) (ℓ : Nat) (sp : Nat) (cl kd : Int32) (nb dg : Nat) {c : Nat} (hc : c < 128) (h : shp c < 4) : Ct mX1_take [.ref 8, .int (nI c)] (hv P (tE ℓ (⟨none, sp, cl, kd, nb, dg⟩)) cs sl pl ks rr n b sv sf τ T g) (d1 (some (.int (bI true))) (hv P (tE ℓ (⟨some c, sp, cl, kd, nb, dg⟩)) cs sl pl ks rr n b sv sf τ T g)) nx := by
  refine ct_of 1 kX1_take.1 rfl (Nat.le_of_ble_eq_true rfl) (fun v u h => by obtain ⟨rfl, rfl⟩ := h; exact bI_nar _) ?_
  show Ev _ _ _ 0 0 [(0, .ref 8), (1, .int (nI c))] [] _
  refine ev_aload_n 0 dX1_take_0 rfl rfl ?_
  refine ev_getfield 2 dX1_take_1 foX1_15 rfl rfl ?_
  refine ev_iconst (-1) dX1_take_4 rfl ?_
  refine ev_icmp_ne 29 dX1_take_5 (by decide) (fun h5 => absurd rfl h5) (fun h5 => ?_)
  refine ev_aload_n 0 dX1_take_8 rfl rfl ?_
  refine ev_iload_n 1 dX1_take_9 rfl rfl ?_
  refine ev_putfield 2 dX1_take_10 fpX1_15 rfl (Nat.le_of_ble_eq_true rfl) (fun _ => rfl) (fun _ => rfl) (hv_te _ _ _ _ _ _ _ _ _ _ _ _ _ _ (tE ℓ (⟨some c, sp, cl, kd, nb, dg⟩))) ?_
  refine ev_iload_n 1 dX1_take_13 rfl rfl ?_
  refine ev_cS1 (c1_shape _ hc) kX1_shapeOf rfl g323 rfl rfl dX1_take_14 ?_
  refine ev_cT0 (i := shp c) (j_isEmptyN _ h) kJ0_isEmpty_aae02 rfl g331 rfl (by omega) rfl rfl dX1_take_17 ?_
  refine ev_if_ne 27 dX1_take_20 (by decide) (fun h20 => absurd rfl h20) (fun h20 => ?_)
  refine ev_iconst (nI 1) dX1_take_23 rfl ?_
  refine ev_goto 28 dX1_take_24 (by decide) ?_
  exact ev_ireturn dX1_take_28 (Nat.le_of_ble_eq_true rfl) ⟨rfl, rfl⟩
set_option maxHeartbeats 1000000 in
theorem c1_takE (P : Nat → va_E) (cs sl pl ks rr : Nat → Int32) (n b : Nat) (sv : Nat → Nat) (sf τ : Nat → Int32) (T : Nat → Nat → Int32) (g : PW) (ℓ : Nat) {l : Nat} (hl : l < 128) (sp : Nat) (cl kd : Int32) (nb dg : Nat) (hg : dg < 1000) (h : 0 < dg) : Ct mX1_take [.ref 8, .int (nI 59)] (hv P (tE ℓ (⟨some l, sp, cl, kd, nb, dg⟩)) cs sl pl ks rr n b sv sf τ T g) (d1 (some (.int (bI true))) (hv P (tE ℓ (PS0)) cs sl pl ks rr n b sv sf τ T g)) nx := by
  refine ct_of 1 kX1_take.1 rfl (Nat.le_of_ble_eq_true rfl) (fun v u h => by obtain ⟨rfl, rfl⟩ := h; exact bI_nar _) ?_
  show Ev _ _ _ 0 0 [(0, .ref 8), (1, .int (nI 59))] [] _
  refine ev_aload_n 0 dX1_take_0 rfl rfl ?_
  refine ev_getfield 2 dX1_take_1 foX1_15 rfl rfl ?_
  refine ev_iconst (-1) dX1_take_4 rfl ?_
  refine ev_icmp_ne 29 dX1_take_5 (by decide) (fun h5 => ?_) (fun h5 => absurd h5 (l_m1 l hl))
  refine ev_iload_n 1 dX1_take_29 rfl rfl ?_
  refine ev_bipush (nI 59) dX1_take_30 rfl ?_
  refine ev_icmp_ne 48 dX1_take_32 (by decide) (fun h32 => absurd rfl h32) (fun h32 => ?_)
  refine ev_aload_n 0 dX1_take_35 rfl rfl ?_
  refine ev_cV0 (c1_whole _ _ _ _ _ _ _ _ _ _ _ _ _ _ _ hg) kX1_isWholePart rfl g335 rfl rfl rfl rfl dX1_take_36 ?_
  refine ev_if_eq 48 dX1_take_39 (by decide) (fun h39 => absurd h39 (by rw [show decide (0 < dg) = true from decide_eq_true h]; decide)) (fun h39 => ?_)
  refine ev_aload_n 0 dX1_take_42 rfl rfl ?_
  refine ev_cV0v (c1_start _ _ _ _ _ _ _ _ _ _ _ _ _ _ _) kX1_startPart rfl g315 rfl rfl rfl rfl dX1_take_43 ?_
  refine ev_iconst (nI 1) dX1_take_46 rfl ?_
  exact ev_ireturn dX1_take_47 (Nat.le_of_ble_eq_true rfl) ⟨rfl, rfl⟩
set_option maxHeartbeats 1000000 in
theorem c1_takI (P : Nat → va_E) (cs sl pl ks rr : Nat → Int32) (n b : Nat) (sv : Nat → Nat) (sf τ : Nat → Int32) (T : Nat → Nat → Int32) (g : PW) (ℓ : Nat) {l : Nat} (hl : l < 128) (sp : Nat) (cl kd : Int32) (nb dg : Nat) (hb : nb < 100000) (hg : dg < 1000) {c : Nat} (hc : c < 128) (hs : sp < 10) (h : ¬ c = 59) : Ct mX1_take [.ref 8, .int (nI c)] (hv P (tE ℓ (⟨some l, sp, cl, kd, nb, dg⟩)) cs sl pl ks rr n b sv sf τ T g) (d1 (some (.int (bI (insP l sp cl kd nb dg c).1))) (hv P (tE ℓ ((insP l sp cl kd nb dg c).2)) cs sl pl ks rr n b sv sf τ T g)) nx := by
  refine ct_of 1 kX1_take.1 rfl (Nat.le_of_ble_eq_true rfl) (fun v u h => by obtain ⟨rfl, rfl⟩ := h; exact bI_nar _) ?_
  show Ev _ _ _ 0 0 [(0, .ref 8), (1, .int (nI c))] [] _
  refine ev_aload_n 0 dX1_take_0 rfl rfl ?_
  refine ev_getfield 2 dX1_take_1 foX1_15 rfl rfl ?_
  refine ev_iconst (-1) dX1_take_4 rfl ?_
  refine ev_icmp_ne 29 dX1_take_5 (by decide) (fun h5 => ?_) (fun h5 => absurd h5 (l_m1 l hl))
  refine ev_iload_n 1 dX1_take_29 rfl rfl ?_
  refine ev_bipush (nI 59) dX1_take_30 rfl ?_
  refine ev_icmp_ne 48 dX1_take_32 (by decide) (fun h32 => ?_) (fun h32 => absurd h32 (fun q => h ((nI_eq (by omega) (by omega)).mp q)))
  refine ev_aload_n 0 dX1_take_48 rfl rfl ?_
  refine ev_iload_n 1 dX1_take_49 rfl rfl ?_
  refine ev_cV1 (c1_inside _ _ _ _ _ _ _ _ _ _ _ _ _ _ hl _ _ _ _ _ hb hg hc hs) kX1_takeInside rfl g339 rfl rfl rfl rfl dX1_take_50 ?_
  exact ev_ireturn dX1_take_53 (Nat.le_of_ble_eq_true rfl) ⟨rfl, rfl⟩
set_option maxHeartbeats 1000000 in
theorem c1_takJ (P : Nat → va_E) (cs sl pl ks rr : Nat → Int32) (n b : Nat) (sv : Nat → Nat) (sf τ : Nat → Int32) (T : Nat → Nat → Int32) (g : PW) (ℓ : Nat) {l : Nat} (hl : l < 128) (sp : Nat) (cl kd : Int32) (nb dg : Nat) (hb : nb < 100000) (hg : dg < 1000) (hs : sp < 10) (h : ¬ 0 < dg) : Ct mX1_take [.ref 8, .int (nI 59)] (hv P (tE ℓ (⟨some l, sp, cl, kd, nb, dg⟩)) cs sl pl ks rr n b sv sf τ T g) (d1 (some (.int (bI (insP l sp cl kd nb dg 59).1))) (hv P (tE ℓ ((insP l sp cl kd nb dg 59).2)) cs sl pl ks rr n b sv sf τ T g)) nx := by
  refine ct_of 1 kX1_take.1 rfl (Nat.le_of_ble_eq_true rfl) (fun v u h => by obtain ⟨rfl, rfl⟩ := h; exact bI_nar _) ?_
  show Ev _ _ _ 0 0 [(0, .ref 8), (1, .int (nI 59))] [] _
  refine ev_aload_n 0 dX1_take_0 rfl rfl ?_
  refine ev_getfield 2 dX1_take_1 foX1_15 rfl rfl ?_
  refine ev_iconst (-1) dX1_take_4 rfl ?_
  refine ev_icmp_ne 29 dX1_take_5 (by decide) (fun h5 => ?_) (fun h5 => absurd h5 (l_m1 l hl))
  refine ev_iload_n 1 dX1_take_29 rfl rfl ?_
  refine ev_bipush (nI 59) dX1_take_30 rfl ?_
  refine ev_icmp_ne 48 dX1_take_32 (by decide) (fun h32 => absurd rfl h32) (fun h32 => ?_)
  refine ev_aload_n 0 dX1_take_35 rfl rfl ?_
  refine ev_cV0 (c1_whole _ _ _ _ _ _ _ _ _ _ _ _ _ _ _ hg) kX1_isWholePart rfl g335 rfl rfl rfl rfl dX1_take_36 ?_
  refine ev_if_eq 48 dX1_take_39 (by decide) (fun h39 => ?_) (fun h39 => absurd (by rw [show decide (0 < dg) = false from decide_eq_false h]; rfl) h39)
  refine ev_aload_n 0 dX1_take_48 rfl rfl ?_
  refine ev_iload_n 1 dX1_take_49 rfl rfl ?_
  refine ev_cV1 (c1_inside _ _ _ _ _ _ _ _ _ _ _ _ _ _ hl _ _ _ _ _ hb hg (by omega) hs) kX1_takeInside rfl g339 rfl rfl rfl rfl dX1_take_50 ?_
  exact ev_ireturn dX1_take_53 (Nat.le_of_ble_eq_true rfl) ⟨rfl, rfl⟩
theorem c1_take (P : Nat → va_E) (cs sl pl ks rr : Nat → Int32) (n b : Nat) (sv : Nat → Nat) (sf τ : Nat → Int32) (T : Nat → Nat → Int32) (g : PW) (ℓ : Nat) {j c : Nat} (s : PS) (h : GP j s) (hj : j < 500) (hc : c < 128) : Ct mX1_take [.ref 8, .int (nI c)] (hv P (tE ℓ (s)) cs sl pl ks rr n b sv sf τ T g) (d1 (some (.int (bI (takP s c).1))) (hv P (tE ℓ ((takP s c).2)) cs sl pl ks rr n b sv sf τ T g)) nx := by
  obtain ⟨h1, h2, h3, h4⟩ := h
  obtain ⟨lt, sp, cl, kd, nb, dg⟩ := s
  have h2' : sp ≤ 5 := h2
  have h3' : nb < 100000 := h3
  have h4' : dg ≤ j := h4
  cases lt with
  | none =>
    by_cases q : shp c = 4
    · have e : (!decide (shp c = 4)) = false := by rw [decide_eq_true q]; rfl
      simp only [takP, e]
      exact c1_tak0 _ _ _ _ _ _ _ _ _ _ _ _ _ _ sp cl kd nb dg hc q
    · have e : (!decide (shp c = 4)) = true := by rw [decide_eq_false q]; rfl
      simp only [takP, e]
      exact c1_tak1 _ _ _ _ _ _ _ _ _ _ _ _ _ _ sp cl kd nb dg hc (by have := shp_5 c; omega)
  | some l =>
    have hl := h1 l rfl
    by_cases q : c = 59
    · subst q
      by_cases z : 0 < dg
      · rw [show takP ⟨some l, sp, cl, kd, nb, dg⟩ 59 = (true, PS0) from if_pos ⟨rfl, z⟩]
        exact c1_takE _ _ _ _ _ _ _ _ _ _ _ _ _ _ hl sp cl kd nb dg (by omega) z
      · rw [show takP ⟨some l, sp, cl, kd, nb, dg⟩ 59 = insP l sp cl kd nb dg 59 from if_neg (fun y => z y.2)]
        exact c1_takJ _ _ _ _ _ _ _ _ _ _ _ _ _ _ hl sp cl kd nb dg h3' (by omega) (by omega) z
    · simp only [takP, if_neg (show ¬ (c = 59 ∧ 0 < dg) from fun y => q y.1)]
      exact c1_takI _ _ _ _ _ _ _ _ _ _ _ _ _ _ hl sp cl kd nb dg h3' (by omega) hc (by omega) q
def endP (bc : Nat → Nat) (ℓ j : Nat) : Bool := decide (ℓ ≤ j + 1) || decide (bc (j + 1) = 59)
set_option maxHeartbeats 1000000 in
theorem c1_ends (P : Nat → va_E) (cs sl pl ks rr : Nat → Int32) (n b : Nat) (sv : Nat → Nat) (sf τ : Nat → Int32) (T : Nat → Nat → Int32) (g : PW) (ℓ : Nat) (s : PS) {bc : Nat → Nat} (hℓ : ℓ ≤ 60) (hcs : ∀ k, k < ℓ → cs k = nI (bc k) ∧ bc k < 128) {j : Nat} (hj : j < ℓ) : Ct mX1_endsPart [.ref 8, .int (nI j)] (hv P (tE ℓ (s)) cs sl pl ks rr n b sv sf τ T g) (d1 (some (.int (bI (endP bc ℓ j)))) (hv P (tE ℓ (s)) cs sl pl ks rr n b sv sf τ T g)) nx := by
  refine ct_of 1 kX1_endsPart.1 rfl (Nat.le_of_ble_eq_true rfl) (fun v u h => by obtain ⟨rfl, rfl⟩ := h; exact bI_nar _) ?_
  show Ev _ _ _ 0 0 [(0, .ref 8), (1, .int (nI j))] [] _
  refine ev_iload_n 1 dX1_endsPart_0 rfl rfl ?_
  refine ev_iconst (nI 1) dX1_endsPart_1 rfl ?_
  refine ev_iadd dX1_endsPart_2 ?_
  refine ev_top (nI (j + 1)) (nI_add j 1) ?_
  refine ev_aload_n 0 dX1_endsPart_3 rfl rfl ?_
  refine ev_getfield 1 dX1_endsPart_4 foX1_37 rfl rfl ?_
  refine ev_icmp_ge 23 dX1_endsPart_7 (by decide) (fun h7 => ?_) (fun h7 => ?_)
  · have e : endP bc ℓ j = true := by unfold endP; rw [decide_eq_true (Nat.le_of_not_lt (fun q => absurd h7 (nI_ge q (by omega)))), Bool.true_or]
    refine ev_iconst (nI 1) dX1_endsPart_23 rfl ?_
    refine ev_goto 28 dX1_endsPart_24 (by decide) ?_
    exact ev_ireturn dX1_endsPart_28 (Nat.le_of_ble_eq_true rfl) ⟨by rw [e]; rfl, rfl⟩
  · have hlt : j + 1 < ℓ := Nat.lt_of_not_le (fun q => h7 (nI_le q (by omega)))
    refine ev_aload_n 0 dX1_endsPart_10 rfl rfl ?_
    refine ev_getfield 0 dX1_endsPart_11 foX1_9 rfl rfl ?_
    refine ev_iload_n 1 dX1_endsPart_14 rfl rfl ?_
    refine ev_iconst (nI 1) dX1_endsPart_15 rfl ?_
    refine ev_iadd dX1_endsPart_16 ?_
    refine ev_top (nI (j + 1)) (nI_add j 1) ?_
    refine ev_ild (j + 1) dX1_endsPart_17 rfl rfl (by omega) rfl ?_
    refine ev_top (nI (bc (j + 1))) (hcs _ hlt).1 ?_
    refine ev_bipush (nI 59) dX1_endsPart_18 rfl ?_
    refine ev_icmp_ne 27 dX1_endsPart_20 (by decide) (fun h20 => ?_) (fun h20 => ?_)
    · have e : endP bc ℓ j = false := by unfold endP; rw [decide_eq_false (by omega), decide_eq_false (fun q => h20 (congrArg nI q))]; rfl
      refine ev_iconst (nI 0) dX1_endsPart_27 rfl ?_
      exact ev_ireturn dX1_endsPart_28 (Nat.le_of_ble_eq_true rfl) ⟨by rw [e]; rfl, rfl⟩
    · have e : endP bc ℓ j = true := by unfold endP; rw [decide_eq_true ((nI_eq (a := bc (j + 1)) (b := 59) (by have := (hcs _ hlt).2; omega) (by omega)).mp h20), Bool.or_true]
      refine ev_iconst (nI 1) dX1_endsPart_23 rfl ?_
      refine ev_goto 28 dX1_endsPart_24 (by decide) ?_
      exact ev_ireturn dX1_endsPart_28 (Nat.le_of_ble_eq_true rfl) ⟨by rw [e]; rfl, rfl⟩
set_option maxHeartbeats 1000000 in
theorem c1_find (P : Nat → va_E) (cs sl pl ks rr : Nat → Int32) (n b : Nat) (sv : Nat → Nat) (sf τ : Nat → Int32) (T : Nat → Nat → Int32) (g : PW) (ℓ : Nat) (s0 : PS) {bc : Nat → Nat} (hℓ : ℓ ≤ 60) (hcs : ∀ k, k < ℓ → cs k = nI (bc k) ∧ bc k < 128) : Ct mX1_findError [.ref 8] (hv P (tE ℓ (s0)) cs sl pl ks rr n b sv sf τ T g) (d1 (some (.int (nI (runP bc ℓ 0 PS0).1))) (hv P (tE ℓ ((runP bc ℓ 0 PS0).2)) cs sl pl ks rr n b sv sf τ T g)) nx := by
  refine ct_of 0 kX1_findError.1 rfl (Nat.le_of_ble_eq_true rfl) (fun v u h => by obtain ⟨rfl, rfl⟩ := h; exact rfl) ?_
  show Ev _ _ _ 0 0 [(0, .ref 8)] [] _
  refine ev_aload_n 0 dX1_findError_0 rfl rfl ?_
  refine ev_cV0v (c1_start _ _ _ _ _ _ _ _ _ _ _ _ _ _ _) kX1_startPart rfl g315 rfl rfl rfl rfl dX1_findError_1 ?_
  refine ev_iconst (nI 0) dX1_findError_4 rfl ?_
  refine ev_istore_n 1 dX1_findError_5 rfl (Nat.le_of_ble_eq_true rfl) rfl ?_
  suffices H : ∀ fu j (s : PS), j + fu = ℓ → GP j s → runP bc fu j s = runP bc ℓ 0 PS0 → Ev mX1_findError (d1 (some (.int (nI (runP bc ℓ 0 PS0).1))) (hv P (tE ℓ ((runP bc ℓ 0 PS0).2)) cs sl pl ks rr n b sv sf τ T g)) nx 0 6 [(1, .int (nI j)), (0, .ref 8)] [] (hv P (tE ℓ (s)) cs sl pl ks rr n b sv sf τ T g) from ev_sub [0, 1] rfl (H ℓ 0 PS0 (Nat.zero_add _) GP_0 rfl)
  intro fu
  induction fu with
  | zero =>
    intro j s hj hs hw
    obtain rfl : ℓ = j := by omega
    refine ev_iload_n 1 dX1_findError_6 rfl rfl ?_
    refine ev_aload_n 0 dX1_findError_7 rfl rfl ?_
    refine ev_getfield 1 dX1_findError_8 foX1_37 rfl rfl ?_
    refine ev_icmp_ge 35 dX1_findError_11 (by decide) (fun h11 => ?_) (fun h11 => absurd (nI_le (Nat.le_refl ℓ) (by omega)) h11)
    refine ev_aload_n 0 dX1_findError_35 rfl rfl ?_
    refine ev_getfield 1 dX1_findError_36 foX1_37 rfl rfl ?_
    exact ev_ireturn dX1_findError_39 (Nat.le_of_ble_eq_true rfl) ⟨by rw [← hw]; rfl, by rw [← hw]; rfl⟩
  | succ fu ih =>
    intro j s hj hs hw
    have hc := hcs j (by omega)
    refine ev_iload_n 1 dX1_findError_6 rfl rfl ?_
    refine ev_aload_n 0 dX1_findError_7 rfl rfl ?_
    refine ev_getfield 1 dX1_findError_8 foX1_37 rfl rfl ?_
    refine ev_icmp_ge 35 dX1_findError_11 (by decide) (fun h11 => absurd h11 (nI_ge (by omega) (by omega))) (fun h11 => ?_)
    refine ev_aload_n 0 dX1_findError_14 rfl rfl ?_
    refine ev_aload_n 0 dX1_findError_15 rfl rfl ?_
    refine ev_getfield 0 dX1_findError_16 foX1_9 rfl rfl ?_
    refine ev_iload_n 1 dX1_findError_19 rfl rfl ?_
    refine ev_ild j dX1_findError_20 rfl rfl (by omega) rfl ?_
    refine ev_top (nI (bc j)) hc.1 ?_
    refine ev_cV1 (c1_take _ _ _ _ _ _ _ _ _ _ _ _ _ _ s hs (by omega) hc.2) kX1_take rfl g319 rfl rfl rfl rfl dX1_findError_21 ?_
    refine ev_if_ne 29 dX1_findError_24 (by decide) (fun h24 => ?_) (fun h24 => ?_)
    · have e9 : runP bc (fu + 1) j s = runP bc fu (j + 1) (takP s (bc j)).2 := if_pos (bI_1.mp h24)
      refine ev_iinc (nI (j + 1)) dX1_findError_29 rfl (nI_1 j) (Nat.le_of_ble_eq_true rfl) rfl ?_
      refine ev_goto 6 dX1_findError_32 (by decide) ?_
      exact ev_sub [0, 1] rfl (ih (j + 1) _ (by omega) (takP_GP hc.2 hs (bI_1.mp h24)) (by rw [← e9]; exact hw))
    · have e9 : runP bc (fu + 1) j s = (j, (takP s (bc j)).2) := if_neg (by rw [bI_0.mp h24]; decide)
      refine ev_iload_n 1 dX1_findError_27 rfl rfl ?_
      exact ev_ireturn dX1_findError_28 (Nat.le_of_ble_eq_true rfl) ⟨by rw [← hw, e9], by rw [← hw, e9]⟩
theorem runP_gp {bc : Nat → Nat} : ∀ (f j : Nat) (s : PS), (∀ k, k < j + f → bc k < 128) → GP j s → (runP bc f j s).1 ≤ j + f ∧ (runP bc f j s).2.digits ≤ j + f ∧ ((runP bc f j s).1 = j + f → GP (j + f) (runP bc f j s).2) := by
  intro f
  induction f with
  | zero => intro j s _ h; exact ⟨Nat.le_refl _, h.2.2.2, fun _ => h⟩
  | succ f ih =>
    intro j s hb h
    simp only [runP]
    have hc := hb j (by omega)
    split
    · next ht =>
      have e : j + (f + 1) = j + 1 + f := by omega
      rw [e]
      exact ih (j + 1) _ (fun k hk => hb k (by omega)) (takP_GP hc h ht)
    · exact ⟨Nat.le_add_right _ _, Nat.le_trans (takP_gp hc h).2.2.1 (by omega), fun q => absurd q (by show ¬ j = _; omega)⟩
set_option maxHeartbeats 1000000 in
theorem c1_tells (P : Nat → va_E) (cs sl pl ks rr : Nat → Int32) (n b : Nat) (sv : Nat → Nat) (sf τ : Nat → Int32) (T : Nat → Nat → Int32) (g : PW) (ℓ : Nat) (s0 : PS) {bc : Nat → Nat} (hℓ : ℓ ≤ 60) (hcs : ∀ k, k < ℓ → cs k = nI (bc k) ∧ bc k < 128) : Ct mX1_tellsOrders [.ref 8] (hv P (tE ℓ (s0)) cs sl pl ks rr n b sv sf τ T g) (d1 (some (.int (bI (decide ((runP bc ℓ 0 PS0).1 = ℓ) && decide (0 < (runP bc ℓ 0 PS0).2.digits))))) (hv P (tE ℓ ((runP bc ℓ 0 PS0).2)) cs sl pl ks rr n b sv sf τ T g)) nx := by
  refine ct_of 0 kX1_tellsOrders.1 rfl (Nat.le_of_ble_eq_true rfl) (fun v u h => by obtain ⟨rfl, rfl⟩ := h; exact bI_nar _) ?_
  show Ev _ _ _ 0 0 [(0, .ref 8)] [] _
  refine ev_aload_n 0 dX1_tellsOrders_0 rfl rfl ?_
  refine ev_cV0 (c1_find _ _ _ _ _ _ _ _ _ _ _ _ _ _ _ hℓ hcs) kX1_findError rfl g918 rfl rfl rfl rfl dX1_tellsOrders_1 ?_
  refine ev_aload_n 0 dX1_tellsOrders_4 rfl rfl ?_
  refine ev_getfield 1 dX1_tellsOrders_5 foX1_37 rfl rfl ?_
  have hR := runP_gp (bc := bc) ℓ 0 PS0 (fun k hk => (hcs k (by omega)).2) GP_0
  rw [Nat.zero_add] at hR
  refine ev_icmp_ne 22 dX1_tellsOrders_8 (by decide) (fun h8 => ?_) (fun h8 => ?_)
  · have e : (decide ((runP bc ℓ 0 PS0).1 = ℓ) && decide (0 < (runP bc ℓ 0 PS0).2.digits)) = false := by rw [decide_eq_false (fun q => h8 (congrArg nI q)), Bool.false_and]
    refine ev_iconst (nI 0) dX1_tellsOrders_22 rfl ?_
    exact ev_ireturn dX1_tellsOrders_23 (Nat.le_of_ble_eq_true rfl) ⟨by rw [e]; rfl, rfl⟩
  · have e0 : (runP bc ℓ 0 PS0).1 = ℓ := (nI_eq (by omega) (by omega)).mp h8
    refine ev_aload_n 0 dX1_tellsOrders_11 rfl rfl ?_
    refine ev_cV0 (c1_whole _ _ _ _ _ _ _ _ _ _ _ _ _ _ _ (by omega)) kX1_isWholePart rfl g335 rfl rfl rfl rfl dX1_tellsOrders_12 ?_
    refine ev_if_eq 22 dX1_tellsOrders_15 (by decide) (fun h15 => ?_) (fun h15 => ?_)
    · have e : (decide ((runP bc ℓ 0 PS0).1 = ℓ) && decide (0 < (runP bc ℓ 0 PS0).2.digits)) = false := by rw [bI_0.mp h15, Bool.and_false]
      refine ev_iconst (nI 0) dX1_tellsOrders_22 rfl ?_
      exact ev_ireturn dX1_tellsOrders_23 (Nat.le_of_ble_eq_true rfl) ⟨by rw [e]; rfl, rfl⟩
    · have e : (decide ((runP bc ℓ 0 PS0).1 = ℓ) && decide (0 < (runP bc ℓ 0 PS0).2.digits)) = true := by rw [bI_1.mp h15, decide_eq_true e0]; rfl
      refine ev_iconst (nI 1) dX1_tellsOrders_18 rfl ?_
      refine ev_goto 23 dX1_tellsOrders_19 (by decide) ?_
      exact ev_ireturn dX1_tellsOrders_23 (Nat.le_of_ble_eq_true rfl) ⟨by rw [e]; rfl, rfl⟩
