/-! ===== class and reference: a text ===== -/
/-- the text tells orders -/
def Tls (bc : Nat → Nat) (ℓ : Nat) : Prop := Rch bc ℓ ∧ 0 < (stS bc ℓ).digits
theorem go_run {bc : Nat → Nat} {bu : Nat → Int32} {ℓ : Nat} (hb : ∀ k, k < ℓ → bu k = nI (bc k)) (hB : ∀ k, bc k < 128) : ∀ f p, Rch bc p → p ≤ ℓ → stS bc p = PS0 → ℓ < f + p → ∃ e w, goF bu ℓ f p = (e, w) ∧ (w = true → Stp9 bc ℓ e ∧ Rch bc e ∧ e ≤ ℓ) ∧ (w = false → Tls bc ℓ) := by
  intro f
  induction f with
  | zero => intro p _ _ _ h; omega
  | succ f ih =>
    intro p hR hp hs hf
    simp only [goF]
    rcases ord_all hb hB hp hR hs with ⟨e, o1, o2, o3, o4⟩ | ⟨e, l, one, kind, c, k, v, o1, o2, o3, c1, c2, c3, ⟨sp, dg, c4, c5⟩, c6, c7, c8, c9⟩
    · rw [o1, if_pos rfl]
      exact ⟨e, true, rfl, fun _ => ⟨o2, o3, o4⟩, fun q => by cases q⟩
    · rw [o1]
      simp only
      rw [if_neg (by decide)]
      by_cases z : e < ℓ
      · rw [if_pos z]
        have esc : sc bu ℓ (e, false) = nI (bc e) := (sc_in z rfl).trans (hb e z)
        have hce := hB e
        by_cases y : bc e = 59
        · have e1 : sg9 bu ℓ (e, false) = (e + 1, false) := by
            show sg bu ℓ (nI 59) (nI 59) (e, false) = _
            unfold sg
            rw [sgB_2 rfl (by rw [esc, y]; decide)]
            rfl
          have hst : takP (stS bc e) (bc e) = (true, PS0) := by
            rw [c4, y]
            exact if_pos ⟨rfl, c5⟩
          rw [e1, if_neg (fun q => by cases q)]
          exact ih (e + 1) (Rch_s c3 (by unfold okS; rw [hst])) (by omega) (by show (takP (stS bc e) (bc e)).2 = _; rw [hst]) (by omega)
        · have e1 : sg9 bu ℓ (e, false) = (e, true) := by
            show sg bu ℓ (nI 59) (nI 59) (e, false) = _
            unfold sg
            rw [sgB_3 (by rw [esc, inB_n (by omega) (by omega) (by omega), ← dk2, decide_eq_false y]), if_pos rfl]
          rw [e1, if_pos rfl]
          exact ⟨e, true, rfl, fun _ => ⟨Or.inr ⟨z, c9 z y⟩, c3, by omega⟩, fun q => by cases q⟩
      · rw [if_neg z]
        have : e = ℓ := by omega
        subst this
        exact ⟨e, false, rfl, fun q => (by cases q), fun _ => ⟨c3, by rw [c4]; exact c5⟩⟩
theorem stp_run {bc : Nat → Nat} {ℓ e : Nat} (h : Stp9 bc ℓ e) (hR : Rch bc e) (he : e ≤ ℓ) : (runP bc ℓ 0 PS0).1 = e ∧ ¬ ((runP bc ℓ 0 PS0).1 = ℓ ∧ 0 < (runP bc ℓ 0 PS0).2.digits) := by
  rcases h with ⟨h1, h2⟩ | ⟨h1, h2⟩
  · obtain ⟨a, b⟩ := runP_e hR he (Or.inl h1)
    refine ⟨a, fun q => ?_⟩
    have := b h1
    rw [this] at q
    omega
  · obtain ⟨a, b⟩ := runP_e hR he (Or.inr h2)
    exact ⟨a, fun q => by omega⟩
theorem tls_run {bc : Nat → Nat} {ℓ : Nat} (h : Tls bc ℓ) : (runP bc ℓ 0 PS0).1 = ℓ ∧ 0 < (runP bc ℓ 0 PS0).2.digits := by
  obtain ⟨a, b⟩ := runP_e h.1 (Nat.le_refl ℓ) (Or.inl rfl)
  exact ⟨a, by rw [b rfl]; exact h.2⟩
/-- the first error, and whether the text tells orders, are the same -/
theorem fe_same {bc : Nat → Nat} {bu : Nat → Int32} {ℓ : Nat} (hb : ∀ k, k < ℓ → bu k = nI (bc k)) (hB : ∀ k, bc k < 128) : feR (goF bu ℓ (ℓ + 1) 0) ℓ = (runP bc ℓ 0 PS0).1 ∧ ((goF bu ℓ (ℓ + 1) 0).2 = true → (decide ((runP bc ℓ 0 PS0).1 = ℓ) && decide (0 < (runP bc ℓ 0 PS0).2.digits)) = false) ∧ ((goF bu ℓ (ℓ + 1) 0).2 = false → (decide ((runP bc ℓ 0 PS0).1 = ℓ) && decide (0 < (runP bc ℓ 0 PS0).2.digits)) = true ∧ Tls bc ℓ) := by
  obtain ⟨e, w, g1, g2, g3⟩ := go_run hb hB (ℓ + 1) 0 (fun j hj => by omega) (Nat.zero_le _) rfl (by omega)
  rw [g1]
  cases w
  · have ht := g3 rfl
    obtain ⟨r1, r2⟩ := tls_run ht
    refine ⟨?_, fun q => (by cases q), fun _ => ⟨by rw [decide_eq_true r1, decide_eq_true r2]; rfl, ht⟩⟩
    rw [r1]; rfl
  · obtain ⟨s1, s2, s3⟩ := g2 rfl
    obtain ⟨r1, r2⟩ := stp_run s1 s2 s3
    refine ⟨?_, fun _ => ?_, fun q => by cases q⟩
    · rw [r1]; rfl
    · by_cases y : (runP bc ℓ 0 PS0).1 = ℓ
      · rw [decide_eq_false (p := 0 < (runP bc ℓ 0 PS0).2.digits) (fun q => r2 ⟨y, q⟩), Bool.and_false]
      · rw [decide_eq_false y, Bool.false_and]
/-! an order is carried out -/
theorem ph_P {σ : Nat → Int32} (h : INV σ) (x : SL3) (m : Nat) : (∀ j, j < m → PhI (phN (σ, x) j)) ∧ HK (phN (σ, x) m).1 ∧ (phN (σ, x) m).1 = (pasN σ m).1 ∧ INV (pasN σ m).1 := by
  obtain ⟨a1, a2, -, a4⟩ := pass_all h x m
  exact ⟨a4, by rw [a1]; exact hk_of a2, a1, a2⟩
theorem b3_of {σ : Nat → Int32} (h : INV σ) {c m : Nat} (hc : c < 8) (hm : m ≤ 99999) : ¬ paid σ c (nI m) = -1 := by
  obtain ⟨de, d1, d2⟩ := deb_of h hc
  rw [paid_n hm d2 d1]
  exact m1_n (by omega)
theorem dpos {σ : Nat → Int32} (h : INV σ) {c : Nat} (hc : c < 8) : 0 < σ (ix c 7) ↔ ¬ σ (ix c 7) = 0 := by
  rw [dp_iff h hc, d0_iff h hc]; omega
theorem car_fol {σ : Nat → Int32} (h : INV σ) (x : SL3) {l one kind c k m : Nat} (ho : Okc l one kind c k) (h1 : m ≤ mst (mki l)) (h2 : lst l ≤ m) : CarOK l c k m (σ, x) ∧ F4OK l one kind m σ ∧ (carC l c k m (σ, x)).1 = (fol4 l one kind m σ).1 ∧ ((fol4 l one kind m σ).1 = true → (carC l c k m (σ, x)).2.1 = (fol4 l one kind m σ).2 ∧ INV (fol4 l one kind m σ).2) := by
  have hK := hk_of h
  obtain ⟨p1, p2, p3, p4⟩ := ph_P h x m
  have hm9 := mst_le (mki l)
  rcases ho with ⟨hl, rfl, rfl, rfl, ho⟩ | ⟨hl, rfl, rfl, hc, hk⟩ | ⟨hl, rfl, rfl, rfl, hc⟩ | ⟨rfl, rfl, rfl, rfl, rfl⟩
  · rcases hl with rfl | rfl
    · have hm : m ≤ 500 := h1
      have hm1 : 1 ≤ m := h2
      refine ⟨⟨by simp, by omega, ho, hK, fun q => by omega, fun q => by omega⟩, ⟨by simp, by omega, fun _ => ho, by omega, fun q => by omega⟩, ?_, fun _ => ?_⟩
      · rw [carC_112, fol4_112]
      · rw [carC_112, fol4_112]
        exact ⟨rfl, set_price h ho hm1 hm⟩
    · have hm : m ≤ 90 := h1
      refine ⟨⟨by simp, by omega, ho, hK, fun q => by omega, fun q => by omega⟩, ⟨by simp, by omega, fun _ => ho, by omega, fun q => by omega⟩, ?_, fun _ => ?_⟩
      · rw [carC_99, fol4_99]
      · rw [carC_99, fol4_99]
        exact ⟨rfl, set_cut h ho hm⟩
  · rcases hl with rfl | rfl
    · have hm : m ≤ 50 := h1
      refine ⟨⟨by simp, hc, hk, hK, fun q => by omega, fun q => by omega⟩, ⟨by simp, hc, fun q => by omega, hk, fun q => by omega⟩, ?_⟩
      rw [carC_43, fol4_43]
      unfold canP
      by_cases z : σ (ix c k) + nI m ≤ nI 99
      · rw [if_pos z, decide_eq_true z, if_pos rfl]
        exact ⟨rfl, fun _ => ⟨rfl, do_pledge h hc hk hm z⟩⟩
      · rw [if_neg z, decide_eq_false z, if_neg (by decide)]
        exact ⟨rfl, fun q => by cases q⟩
    · have hm : m ≤ 50 := h1
      refine ⟨⟨by simp, hc, hk, hK, fun q => by omega, fun q => by omega⟩, ⟨by simp, hc, fun q => by omega, hk, fun q => by omega⟩, ?_⟩
      rw [carC_45, fol4_45]
      by_cases z : nI m ≤ σ (ix c k) ∧ σ (ix c 7) ≤ covI (canTk σ c k (nI m)) c (nI 0) (nI 1)
      · rw [if_pos z, (canL_t (show k ≠ 7 by omega)).mpr z, if_pos rfl]
        refine ⟨rfl, fun _ => ⟨?_, ?_⟩⟩
        · show lookN (canTk σ c k (nI m)) 8 = _
          rw [tk_eq]; rfl
        · have := do_release h hc hk hm z.1
          rw [tk_eq] at this
          exact this
      · rw [if_neg z, canL_f (show k ≠ 7 by omega) z, if_neg (by decide)]
        exact ⟨rfl, fun q => by cases q⟩
  · rcases hl with rfl | rfl
    · have hm : m ≤ 9999 := h1
      refine ⟨⟨by simp, hc, by omega, hK, fun q => by omega, fun q => by omega⟩, ⟨by simp, hc, fun q => by omega, by omega, fun q => by omega⟩, ?_⟩
      rw [carC_108, fol4_108]
      by_cases z : σ (ix c 9) = 0 ∧ σ (ix c 7) + nI m ≤ covI σ c (nI 0) (nI 1)
      · rw [if_pos z, canB_iff.mpr z, if_pos rfl]
        exact ⟨rfl, fun _ => ⟨rfl, do_lend h hc hm z.2⟩⟩
      · have zb : canB σ c (nI m) = false := by
          cases hb : canB σ c (nI m)
          · rfl
          · exact absurd (canB_iff.mp hb) z
        rw [if_neg z, zb, if_neg (by decide)]
        exact ⟨rfl, fun q => by cases q⟩
    · have hm : m ≤ 9999 := h1
      refine ⟨⟨by simp, hc, by omega, hK, fun _ _ => b3_of h hc (by omega), fun q => by omega⟩, ⟨by simp, hc, fun q => by omega, by omega, fun q => by omega⟩, ?_⟩
      rw [carC_98, fol4_98]
      by_cases z : σ (ix c 7) = 0
      · rw [if_pos z, if_neg (fun q => (dpos h hc).mp q z)]
        exact ⟨rfl, fun q => by cases q⟩
      · rw [if_neg z, if_pos ((dpos h hc).mpr z)]
        refine ⟨rfl, fun _ => ⟨?_, do_payBack h hc hm⟩⟩
        show lookN (pay3 σ c (paid σ c (nI m))) 8 = _
        rw [pay_eq]
  · have hm : m ≤ 100 := h1
    refine ⟨⟨by simp, by omega, by omega, hK, fun q => by omega, fun _ => ⟨hm, p1, p2⟩⟩, ⟨by simp, by omega, fun q => by omega, by omega, fun _ => ⟨hm, np_of h⟩⟩, ?_, fun _ => ?_⟩
    · rw [carC_104, fol4_104]
    · rw [carC_104, fol4_104]
      refine ⟨?_, ?_⟩
      · show lookN (phN (σ, x) m).1 8 = _
        rw [p3]
      · show INV (lookN (pasN σ m).1 8)
        rw [look_id p4]; exact p4
/-! the reader's states -/
def Ltr (l : Nat) : Prop := l = 112 ∨ l = 99 ∨ l = 43 ∨ l = 45 ∨ l = 108 ∨ l = 98 ∨ l = 104
/-- what carrying out an order at a state needs -/
def SI9 (s : PS) : Prop := s = PS0 ∨ ∃ l c k, s.lt = some l ∧ Ltr l ∧ s.client = nI c ∧ c < 8 ∧ s.kind = nI k ∧ k < 6 ∧ (0 < s.digits → lst l ≤ s.number ∧ s.number ≤ mst (mki l))
theorem shp_L {c : Nat} (h : ¬ shp c = 4) : Ltr c := by
  unfold shp at h
  unfold Ltr
  split at h
  · omega
  · split at h
    · omega
    · split at h
      · omega
      · split at h
        · omega
        · exact absurd rfl h
theorem SI_step {s : PS} {c : Nat} (h : SI9 s) (ht : (takP s c).1 = true) : SI9 (takP s c).2 := by
  rcases h with rfl | ⟨l, c0, k0, h1, h2, h3, h4, h5, h6, h7⟩
  · right
    have hs : ¬ shp c = 4 := fun q => by
      have e : (takP PS0 c).1 = !decide (shp c = 4) := rfl
      rw [e, decide_eq_true q] at ht
      cases ht
    exact ⟨c, 0, 0, rfl, shp_L hs, rfl, by omega, rfl, by omega, fun q => absurd q (Nat.lt_irrefl 0)⟩
  · obtain ⟨lt, sp, cl, kd, nb, dg⟩ := s
    have h1 : lt = some l := h1
    have h3 : cl = nI c0 := h3
    have h5 : kd = nI k0 := h5
    subst h1; subst h3; subst h5
    by_cases z : c = 59 ∧ 0 < dg
    · left
      show (takP ⟨some l, sp, nI c0, nI k0, nb, dg⟩ c).2 = PS0
      exact congrArg Prod.snd (if_pos z : takP ⟨some l, sp, nI c0, nI k0, nb, dg⟩ c = _)
    · rw [tk_in z] at ht ⊢
      unfold insP at ht ⊢
      by_cases a1 : ln5 (shp l) ≤ sp
      · rw [if_pos a1] at ht; cases ht
      · rw [if_neg a1] at ht ⊢
        by_cases a2 : ch5 (shp l) sp = 110
        · rw [if_pos a2] at ht ⊢
          by_cases a3 : c < 48
          · rw [if_pos a3] at ht; cases ht
          · rw [if_neg a3] at ht ⊢
            by_cases a4 : 57 < c
            · rw [if_pos a4] at ht; cases ht
            · rw [if_neg a4] at ht ⊢
              refine Or.inr ⟨l, c0, k0, rfl, h2, rfl, h4, rfl, h6, fun _ => ?_⟩
              have hk : okD l nb dg (c - 48) = true := ht
              unfold okD at hk
              rw [Bool.and_eq_true, Bool.and_eq_true, decide_eq_true_eq, decide_eq_true_eq] at hk
              exact hk.2
        · rw [if_neg a2] at ht ⊢
          by_cases a3 : ch5 (shp l) sp = 119
          · rw [if_pos a3] at ht ⊢
            have hk : (decide (48 ≤ c) && decide (c < 56)) = true := ht
            rw [Bool.and_eq_true, decide_eq_true_eq, decide_eq_true_eq] at hk
            exact Or.inr ⟨l, c - 48, k0, rfl, h2, pk_sub hk.1, by omega, rfl, h6, h7⟩
          · rw [if_neg a3] at ht ⊢
            by_cases a4 : ch5 (shp l) sp = 107
            · rw [if_pos a4] at ht ⊢
              have hk : (decide (48 ≤ c) && decide (c < 54)) = true := ht
              rw [Bool.and_eq_true, decide_eq_true_eq, decide_eq_true_eq] at hk
              exact Or.inr ⟨l, c0, c - 48, rfl, h2, rfl, h4, pk_sub hk.1, by omega, h7⟩
            · rw [if_neg a4] at ht ⊢
              exact Or.inr ⟨l, c0, k0, rfl, h2, rfl, h4, rfl, h6, h7⟩
theorem SI_all {bc : Nat → Nat} : ∀ j, Rch bc j → SI9 (stS bc j) := by
  intro j
  induction j with
  | zero => exact fun _ => Or.inl rfl
  | succ j ih => exact fun h => SI_step (ih (fun i hi => h i (by omega))) (h j (by omega))
theorem GP_all {bc : Nat → Nat} (hB : ∀ k, bc k < 128) : ∀ j, Rch bc j → GP j (stS bc j) := by
  intro j
  induction j with
  | zero => exact fun _ => GP_0
  | succ j ih => exact fun h => takP_GP (hB j) (ih (fun i hi => h i (by omega))) (h j (by omega))
theorem ch5_59 : ∀ i, i < 5 → ∀ a, a < 5 → ch5 i a ≠ 59 := by decide
/-- ahead of a ";" that is taken a whole order stands -/
theorem semi_d {s : PS} (h : SI9 s) (ht : (takP s 59).1 = true) : 0 < s.digits := by
  rcases h with rfl | ⟨l, c0, k0, h1, h2, h3, h4, h5, h6, h7⟩
  · cases ht
  · obtain ⟨lt, sp, cl, kd, nb, dg⟩ := s
    have h1 : lt = some l := h1
    subst h1
    by_cases z : 0 < dg
    · exact z
    · exfalso
      rw [tk_in (by omega)] at ht
      unfold insP at ht
      by_cases a1 : ln5 (shp l) ≤ sp
      · rw [if_pos a1] at ht; cases ht
      · rw [if_neg a1] at ht
        by_cases a2 : ch5 (shp l) sp = 110
        · rw [if_pos a2, if_neg (by omega), if_pos (by omega)] at ht; cases ht
        · rw [if_neg a2] at ht
          by_cases a3 : ch5 (shp l) sp = 119
          · rw [if_pos a3] at ht
            have ht : (decide (48 ≤ 59) && decide (59 < 56)) = true := ht
            exact absurd ht (by decide)
          · rw [if_neg a3] at ht
            by_cases a4 : ch5 (shp l) sp = 107
            · rw [if_pos a4] at ht
              have ht : (decide (48 ≤ 59) && decide (59 < 54)) = true := ht
              exact absurd ht (by decide)
            · rw [if_neg a4] at ht
              have h5' := ln5_s (shp l) (shp_5 l)
              have := ch5_59 (shp l) (shp_5 l) sp (by omega)
              exact this (of_decide_eq_true ht).symm
theorem end_d {bc : Nat → Nat} {ℓ j : Nat} (h : Tls bc ℓ) (hj : j < ℓ) (he : endP bc ℓ j = true) : 0 < (stS bc (j + 1)).digits := by
  by_cases z : j + 1 = ℓ
  · rw [z]; exact h.2
  · have h59 : bc (j + 1) = 59 := by
      unfold endP at he
      rw [decide_eq_false (by omega), Bool.false_or] at he
      exact of_decide_eq_true he
    refine semi_d (SI_all (j + 1) (fun i hi => h.1 i (by omega))) ?_
    have := h.1 (j + 1) (by omega)
    unfold okS at this
    rw [h59] at this
    exact this
theorem okc_L {l c k : Nat} (h : Ltr l) (hc : c < 8) (hk : k < 6) : ∃ one kind c' k', Okc l one kind c' k' ∧ (∀ m q, carC l c k m q = carC l c' k' m q) ∧ (∀ m q, CarOK l c' k' m q → CarOK l c k m q) := by
  rcases h with rfl | rfl | rfl | rfl | rfl | rfl | rfl
  · exact ⟨k, 0, 0, k, Or.inl ⟨Or.inl rfl, rfl, rfl, rfl, hk⟩, fun m q => by rw [carC_112, carC_112], fun m q ⟨a1, a2, a3, a4, a5, a6⟩ => ⟨a1, hc, hk, a4, fun z => by omega, fun z => by omega⟩⟩
  · exact ⟨k, 0, 0, k, Or.inl ⟨Or.inr rfl, rfl, rfl, rfl, hk⟩, fun m q => by rw [carC_99, carC_99], fun m q ⟨a1, a2, a3, a4, a5, a6⟩ => ⟨a1, hc, hk, a4, fun z => by omega, fun z => by omega⟩⟩
  · exact ⟨c, k, c, k, Or.inr (Or.inl ⟨Or.inl rfl, rfl, rfl, hc, hk⟩), fun m q => rfl, fun m q z => z⟩
  · exact ⟨c, k, c, k, Or.inr (Or.inl ⟨Or.inr rfl, rfl, rfl, hc, hk⟩), fun m q => rfl, fun m q z => z⟩
  · exact ⟨c, 0, c, 0, Or.inr (Or.inr (Or.inl ⟨Or.inl rfl, rfl, rfl, rfl, hc⟩)), fun m q => by rw [carC_108, carC_108], fun m q ⟨a1, a2, a3, a4, a5, a6⟩ => ⟨a1, hc, hk, a4, fun z => by omega, fun z => by omega⟩⟩
  · exact ⟨c, 0, c, 0, Or.inr (Or.inr (Or.inl ⟨Or.inr rfl, rfl, rfl, rfl, hc⟩)), fun m q => by rw [carC_98, carC_98], fun m q ⟨a1, a2, a3, a4, a5, a6⟩ => ⟨a1, hc, hk, a4, a5, fun z => by omega⟩⟩
  · exact ⟨0, 0, 0, 0, Or.inr (Or.inr (Or.inr ⟨rfl, rfl, rfl, rfl, rfl⟩)), fun m q => by rw [carC_104, carC_104], fun m q ⟨a1, a2, a3, a4, a5, a6⟩ => ⟨a1, hc, hk, a4, fun z => by omega, a6⟩⟩
/-- the class's way through a text that tells orders -/
def FI9 (bc : Nat → Nat) (j : Nat) (s : PS) (q : CQ) : Prop := s = stS bc j ∧ INV q.1
theorem fol_I {bc : Nat → Nat} {ℓ : Nat} (hB : ∀ k, bc k < 128) (h : Tls bc ℓ) : FolI bc ℓ (FI9 bc) := by
  have key : ∀ j s q, j < ℓ → FI9 bc j s q → endP bc ℓ j = true → CarS (takP s (bc j)).2 q ∧ ((carS (takP s (bc j)).2 q).1 = true → INV (carS (takP s (bc j)).2 q).2.1) := by
    rintro j s ⟨σ, x⟩ hj ⟨rfl, hI⟩ he
    have hd := end_d h hj he
    have hS := SI_all (bc := bc) (j + 1) (fun i hi => h.1 i (by omega))
    show CarS (stS bc (j + 1)) (σ, x) ∧ ((carS (stS bc (j + 1)) (σ, x)).1 = true → INV (carS (stS bc (j + 1)) (σ, x)).2.1)
    rcases hS with z | ⟨l, c, k, h1, h2, h3, h4, h5, h6, h7⟩
    · rw [z] at hd; exact absurd hd (by decide)
    · obtain ⟨h8, h9⟩ := h7 hd
      obtain ⟨one, kind, c', k', o1, o2, o3⟩ := okc_L h2 h4 h6
      obtain ⟨f1, f2, f3, f4⟩ := car_fol hI x o1 h9 h8
      have e : carS (stS bc (j + 1)) (σ, x) = carC l c' k' (stS bc (j + 1)).number (σ, x) := by
        unfold carS
        rw [h1, h3, h5, nI_clamp (by omega), nI_clamp (by omega)]
        exact o2 _ _
      refine ⟨⟨l, c, k, h1, h3, h5, o3 _ _ f1⟩, fun q => ?_⟩
      rw [e] at q ⊢
      rw [f3] at q
      rw [(f4 q).1]
      exact (f4 q).2
  refine ⟨?_, fun j s q hj hF he => (key j s q hj hF he).1, ?_, ?_⟩
  · rintro j s q hj ⟨rfl, hI⟩
    exact ⟨GP_all hB j (fun i hi => h.1 i (by omega)), h.1 j hj⟩
  · intro j s q hj hF he hc
    refine ⟨?_, (key j s q hj hF he).2 hc⟩
    rw [hF.1]; rfl
  · rintro j s q hj ⟨rfl, hI⟩ he
    exact ⟨rfl, hI⟩
/-- the reference's -/
def GI9 (bc : Nat → Nat) (p : Nat) (σ : Nat → Int32) : Prop := Rch bc p ∧ stS bc p = PS0 ∧ INV σ
theorem tls_no {bc : Nat → Nat} {ℓ e : Nat} (h : Tls bc ℓ) (hs : Stp9 bc ℓ e) : False := by
  rcases hs with ⟨h1, h2⟩ | ⟨h1, h2⟩
  · have := h.2; omega
  · rw [h.1 e h1] at h2; cases h2
theorem foS_e {bu : Nat → Int32} {ℓ p e l one kind v : Nat} {σ : Nat → Int32} (h1 : ordR bu ℓ p = ((e, false), (nI one, (nI kind, nI v)))) (h2 : ltR bu ℓ p = nI l) (hl : l < 128) (ho : one < 10) (hk : kind < 10) (hv : v < 100000) : foS bu ℓ p σ = fol4 l one kind v σ := by
  unfold foS
  rw [h1, h2, nI_clamp (by omega)]
  simp only
  rw [nI_clamp (by omega), nI_clamp (by omega), nI_clamp (by omega)]
theorem okc_b {l one kind c k : Nat} (h : Okc l one kind c k) : l < 128 ∧ one < 10 ∧ kind < 10 := by
  rcases h with ⟨hl, _, _, _, _⟩ | ⟨hl, _, _, _, _⟩ | ⟨hl, _, _, _, _⟩ | ⟨hl, _, _, _, _⟩ <;> omega
theorem go_I {bc : Nat → Nat} {bu : Nat → Int32} {ℓ : Nat} (hb : ∀ k, k < ℓ → bu k = nI (bc k)) (hB : ∀ k, bc k < 128) (h : Tls bc ℓ) : GoI bu ℓ (GI9 bc) := by
  rintro p σ hp ⟨hR, hs, hI⟩
  rcases ord_all hb hB hp hR hs with ⟨e, o1, o2, -⟩ | ⟨e, l, one, kind, c, k, v, o1, o2, o3, c1, c2, c3, ⟨sp, dg, c4, c5⟩, c6, c7, c8, c9⟩
  · exact (tls_no h o2).elim
  · obtain ⟨b1, b2, b3⟩ := okc_b o3
    have hv9 := mst_le (mki l)
    obtain ⟨f1, f2, f3, f4⟩ := car_fol hI (fun _ => nI 0, (fun _ => nI 0, fun _ => nI 0)) o3 c6 c7
    have ef := foS_e (σ := σ) o1 o2 b1 b2 b3 (show v < 100000 by omega)
    refine ⟨⟨l, one, kind, v, o2, by rw [o1], b1, by omega, f2⟩, fun q1 q2 q3 q4 => ?_⟩
    rw [ef] at q1 ⊢
    rw [o1] at q3 q4 ⊢
    have q3 : e < ℓ := q3
    have h59 : bc e = 59 := by
      by_cases y : bc e = 59
      · exact y
      · have := c9 q3 y
        rw [h.1 e q3] at this; cases this
    have hst : takP (stS bc e) (bc e) = (true, PS0) := by
      rw [c4, h59]
      exact if_pos ⟨rfl, c5⟩
    have e1 : sg9 bu ℓ (e, false) = (e + 1, false) := by
      show sg bu ℓ (nI 59) (nI 59) (e, false) = _
      unfold sg
      rw [sgB_2 rfl (by rw [(sc_in (s := (e, false)) q3 rfl).trans (hb e q3), h59]; decide)]
      rfl
    show GI9 bc (sg9 bu ℓ (e, false)).1 _
    rw [e1]
    exact ⟨Rch_s c3 (by unfold okS; rw [hst]), by show (takP (stS bc e) (bc e)).2 = _; rw [hst], (f4 q1).2⟩
theorem fol_in {bc : Nat → Nat} {ℓ e : Nat} (he : e ≤ ℓ) : ∀ d j q, e = j + d + 1 → (∀ i, j < i → i < e → bc i ≠ 59) → folP bc ℓ (ℓ - j) j (stS bc j) q = folP bc ℓ (ℓ - (e - 1)) (e - 1) (stS bc (e - 1)) q := by
  intro d
  induction d with
  | zero => intro j q h1 h2; rw [show e - 1 = j by omega]
  | succ d ih =>
    intro j q h1 h2
    have hf : ℓ - j = (ℓ - (j + 1)) + 1 := by omega
    rw [hf]
    simp only [folP]
    have hend : endP bc ℓ j = false := by
      unfold endP
      rw [decide_eq_false (by omega), decide_eq_false (h2 (j + 1) (by omega) (by omega))]; rfl
    rw [hend, if_neg (by decide)]
    exact ih (j + 1) q (by omega) (fun i i1 i2 => h2 i (by omega) i2)
theorem fol_same {bc : Nat → Nat} {bu : Nat → Int32} {ℓ : Nat} (hb : ∀ k, k < ℓ → bu k = nI (bc k)) (hB : ∀ k, bc k < 128) (h : Tls bc ℓ) : ∀ f p σ x, Rch bc p → p ≤ ℓ → stS bc p = PS0 → ℓ < f + p → INV σ →
    (folP bc ℓ (ℓ - p) p PS0 (σ, x)).1 = (goT bu ℓ f p σ).1 ∧ ((goT bu ℓ f p σ).1 = true → (folP bc ℓ (ℓ - p) p PS0 (σ, x)).2.2.1 = (goT bu ℓ f p σ).2.1 ∧ INV (goT bu ℓ f p σ).2.1) := by
  intro f
  induction f with
  | zero => intro p σ x _ _ _ h; omega
  | succ f ih =>
    intro p σ x hR hp hs hf hI
    rcases ord_all hb hB hp hR hs with ⟨e, o1, o2, -⟩ | ⟨e, l, one, kind, c, k, v, o1, o2, o3, c1, c2, c3, ⟨sp, dg, c4, c5⟩, c6, c7, c8, c9⟩
    · exact (tls_no h o2).elim
    · obtain ⟨b1, b2, b3⟩ := okc_b o3
      have hv9 := mst_le (mki l)
      obtain ⟨f1, f2, f3, f4⟩ := car_fol hI x o3 c6 c7
      have ef := foS_e (σ := σ) o1 o2 b1 b2 b3 (show v < 100000 by omega)
      have e59 : e < ℓ → bc e = 59 := fun q3 => by
        by_cases y : bc e = 59
        · exact y
        · have := c9 q3 y
          rw [h.1 e q3] at this; cases this
      have w1 := fol_in (bc := bc) c2 (e - 1 - p) p (σ, x) (by omega) (fun i i1 i2 => c8 i (by omega) i2)
      rw [hs] at w1
      have hend : endP bc ℓ (e - 1) = true := by
        unfold endP
        by_cases y : e < ℓ
        · rw [show e - 1 + 1 = e by omega, decide_eq_true (e59 y), Bool.or_true]
        · rw [decide_eq_true (by omega), Bool.true_or]
      have hse : (takP (stS bc (e - 1)) (bc (e - 1))).2 = stS bc e := by
        show stS bc (e - 1 + 1) = _
        rw [show e - 1 + 1 = e by omega]
      have hcb : c < 10 ∧ k < 10 := by
        rcases o3 with ⟨hl, _, _, _, _⟩ | ⟨hl, _, _, _, _⟩ | ⟨hl, _, _, _, _⟩ | ⟨hl, _, _, _, _⟩ <;> omega
      have hcar : carS (stS bc e) (σ, x) = carC l c k v (σ, x) := by
        unfold carS
        rw [c4]
        simp only [Option.getD]
        rw [nI_clamp (by omega), nI_clamp (by omega)]
      have w2 : folP bc ℓ (ℓ - p) p PS0 (σ, x) = if (carC l c k v (σ, x)).1 = true then folP bc ℓ (ℓ - e) e (stS bc e) (carC l c k v (σ, x)).2 else (false, (stS bc e, (carC l c k v (σ, x)).2)) := by
        rw [w1, show ℓ - (e - 1) = (ℓ - e) + 1 by omega]
        simp only [folP]
        rw [if_pos hend, hse, hcar, show e - 1 + 1 = e by omega]
      rw [w2, f3]
      simp only [goT]
      rw [ef, o1]
      cases hr : (fol4 l one kind v σ).1
      · rw [if_neg (by decide), if_pos rfl]
        exact ⟨rfl, fun q => by cases q⟩
      · obtain ⟨g1, g2⟩ := f4 hr
        rw [if_pos rfl, if_neg (by decide)]
        simp only
        rw [if_neg (by decide)]
        by_cases y : e < ℓ
        · have h59 := e59 y
          have hst : takP (stS bc e) (bc e) = (true, PS0) := by
            rw [c4, h59]
            exact if_pos ⟨rfl, c5⟩
          have hs' : stS bc (e + 1) = PS0 := by show (takP (stS bc e) (bc e)).2 = _; rw [hst]
          have hR' : Rch bc (e + 1) := Rch_s c3 (by unfold okS; rw [hst])
          have hlt : e + 1 < ℓ := by
            by_cases y2 : e + 1 = ℓ
            · have := h.2; rw [← y2, hs'] at this; exact absurd this (by decide)
            · omega
          have hnx : bc (e + 1) ≠ 59 := fun q => by
            have := h.1 (e + 1) hlt
            unfold okS at this
            rw [hs', q] at this
            cases this
          have hend2 : endP bc ℓ e = false := by
            unfold endP
            rw [decide_eq_false (by omega), decide_eq_false hnx]; rfl
          have e1 : sg9 bu ℓ (e, false) = (e + 1, false) := by
            show sg bu ℓ (nI 59) (nI 59) (e, false) = _
            unfold sg
            rw [sgB_2 rfl (by rw [(sc_in (s := (e, false)) y rfl).trans (hb e y), h59]; decide)]
            rfl
          rw [if_pos y, e1, if_neg (fun q => by cases q), show ℓ - e = (ℓ - (e + 1)) + 1 by omega]
          simp only [folP]
          rw [hend2, if_neg (by decide), hst]
          have ec : (carC l c k v (σ, x)).2 = ((fol4 l one kind v σ).2, (carC l c k v (σ, x)).2.2) := by rw [← g1]
          rw [ec]
          exact ih (e + 1) _ _ hR' (by omega) hs' (by omega) g2
        · rw [if_neg y, show ℓ - e = 0 by omega]
          exact ⟨rfl, fun _ => ⟨g1, g2⟩⟩
