/-! ===== class and reference: selling out ===== -/
theorem payS_6 (σ : Nat → Int32) (c : Nat) (x : Int32) : payS σ c x (ix c 6) = σ (ix c 6) + (x - paid σ c x) := by
  simp only [payS, pay2, pay1]
  rw [upd_n _ _ (by simp only [ix]; omega), upd_s, upd_n _ _ (by simp only [ix]; omega)]
theorem payS_7 (σ : Nat → Int32) {c : Nat} (hc : c < 8) (x : Int32) : payS σ c x (ix c 7) = σ (ix c 7) - paid σ c x := by
  have h1 : ix c 7 ≠ 105 := by simp only [ix]; omega
  have h2 : ix c 7 ≠ ix c 6 := by simp only [ix]; omega
  show upd (upd (upd σ (ix c 7) _) (ix c 6) _) 105 _ (ix c 7) = _
  rw [upd_n _ _ h1, upd_n _ _ h2, upd_s, Int32.sub_eq_add_neg]
theorem payS_5 (σ : Nat → Int32) {c : Nat} (hc : c < 8) (x : Int32) : payS σ c x 105 = σ 105 + paid σ c x := by
  have h1 : 105 ≠ ix c 6 := by simp only [ix]; omega
  have h2 : 105 ≠ ix c 7 := by simp only [ix]; omega
  simp only [payS, pay2, pay1]
  rw [upd_s, upd_n _ _ h1, upd_n _ _ h2]
theorem pwS_0 (sl : Nat → Int32) (x : Int32) : pwS sl x 0 = sl 0 + (x - pwP sl x) := by
  simp only [pwS, pw2, pw1]
  rw [upd_s, upd_n _ _ (by decide), upd_n _ _ (by decide)]
theorem pwS_1 (sl : Nat → Int32) (x : Int32) : pwS sl x 1 = sl 1 - pwP sl x := by
  simp only [pwS, pw2, pw1]
  rw [upd_n _ _ (by decide), upd_n _ _ (by decide), upd_s]
theorem pwS_4 (sl : Nat → Int32) (x : Int32) : pwS sl x 4 = sl 4 + pwP sl x := by
  simp only [pwS, pw2, pw1]
  rw [upd_n _ _ (by decide), upd_s, upd_n _ _ (by decide)]
theorem pwS_n (sl : Nat → Int32) (x : Int32) {i : Nat} (h0 : i ≠ 0) (h1 : i ≠ 1) (h4 : i ≠ 4) : pwS sl x i = sl i := by
  simp only [pwS, pw2, pw1]
  rw [upd_n _ _ h0, upd_n _ _ h4, upd_n _ _ h1]
/-- what the pieces that are left cover -/
def cvP (τ pl : Nat → Int32) : Nat → Int32
  | 0 => nI 0
  | n + 1 => cvP τ pl n + pl n * oneC τ n
/-- the reference's state R on the way of a sale, beside the class's row -/
def SRel (τ : Nat → Int32) (c : Nat) (sl pl R : Nat → Int32) : Prop :=
  R (ix c 6) = sl 0 ∧ R (ix c 7) = sl 1 ∧ R 105 = τ 105 + sl 4 ∧ (∀ k, k < 6 → R (ix c k) = pl k) ∧ (∀ k, k < 6 → R (12 + k) = τ (12 + k) + (τ (ix c k) - pl k)) ∧
  (∀ i, i ≠ ix c 6 → i ≠ ix c 7 → i ≠ 105 → (∀ k, k < 6 → i ≠ ix c k) → (∀ k, k < 6 → i ≠ 12 + k) → R i = τ i) ∧ sl 2 = cvP τ pl 6
theorem SRel.lo {τ : Nat → Int32} {c : Nat} {sl pl R : Nat → Int32} (h : SRel τ c sl pl R) {i : Nat} (hi : i < 12) : R i = τ i := h.2.2.2.2.2.1 i (by simp only [ix]; omega) (by simp only [ix]; omega) (by omega) (fun k _ => by simp only [ix]; omega) (fun k _ => by omega)
theorem SRel.hi {τ : Nat → Int32} {c : Nat} {sl pl R : Nat → Int32} (h : SRel τ c sl pl R) (hc : c < 8) {i : Nat} (hi : 98 ≤ i) (h5 : i ≠ 105) : R i = τ i := h.2.2.2.2.2.1 i (by simp only [ix]; omega) (by simp only [ix]; omega) h5 (fun k _ => by simp only [ix]; omega) (fun k _ => by omega)
theorem layP_at (τ : Nat → Int32) (c : Nat) (pl : Nat → Int32) : ∀ n k, layP τ c pl n k = if k < n then τ (ix c k) else pl k := by
  intro n
  induction n with
  | zero => intro k; rw [if_neg (by omega)]; rfl
  | succ n ih =>
    intro k
    simp only [layP, upd]
    by_cases h : k = n
    · subst h; rw [if_pos rfl, if_pos (by omega)]
    · rw [if_neg h, ih]
      by_cases z : k < n
      · rw [if_pos z, if_pos (by omega)]
      · rw [if_neg z, if_neg (by omega)]
theorem layK_at (τ ks : Nat → Int32) : ∀ n k, layK τ ks n k = if k < n then keyS τ k else ks k := by
  intro n
  induction n with
  | zero => intro k; rw [if_neg (by omega)]; rfl
  | succ n ih =>
    intro k
    simp only [layK, upd]
    by_cases h : k = n
    · subst h; rw [if_pos rfl, if_pos (by omega)]
    · rw [if_neg h, ih]
      by_cases z : k < n
      · rw [if_pos z, if_pos (by omega)]
      · rw [if_neg z, if_neg (by omega)]
theorem cvP_congr {τ : Nat → Int32} {p q : Nat → Int32} : ∀ n, (∀ k, k < n → p k = q k) → cvP τ p n = cvP τ q n := by
  intro n
  induction n with
  | zero => intro _; rfl
  | succ n ih => intro h; simp only [cvP]; rw [ih (fun k hk => h k (by omega)), h n (by omega)]
theorem cvL_P (τ : Nat → Int32) (c : Nat) : ∀ n, cvL τ c n = cvP τ (fun k => τ (ix c k)) n := by
  intro n
  induction n with
  | zero => rfl
  | succ n ih => simp only [cvL, cvP]; rw [ih]
theorem SRel_beg {τ : Nat → Int32} {c : Nat} (hc : c < 8) (sl pl : Nat → Int32) : SRel τ c (pfS (rk0 τ sl c)) (layP τ c pl 6) (begS τ c) := by
  have r0 : rk0 τ sl c 0 = τ (ix c 6) := by simp only [rk0]; rw [upd_n _ _ (by decide), upd_n _ _ (by decide), upd_n _ _ (by decide), upd_n _ _ (by decide), upd_n _ _ (by decide), upd_s]
  have r1 : rk0 τ sl c 1 = τ (ix c 7) := by simp only [rk0]; rw [upd_n _ _ (by decide), upd_n _ _ (by decide), upd_n _ _ (by decide), upd_n _ _ (by decide), upd_s]
  have r2 : rk0 τ sl c 2 = cvL τ c 6 := by simp only [rk0]; rw [upd_s]
  have r4 : rk0 τ sl c 4 = nI 0 := by simp only [rk0]; rw [upd_n _ _ (by decide), upd_n _ _ (by decide), upd_s]
  have u0 : upd τ (ix c 6) (nI 0) (ix c 6) = nI 0 := upd_s ..
  have u7 : upd τ (ix c 6) (nI 0) (ix c 7) = τ (ix c 7) := upd_n _ _ (by simp only [ix]; omega)
  have u5 : upd τ (ix c 6) (nI 0) 105 = τ 105 := upd_n _ _ (by simp only [ix]; omega)
  have v0 : upd (rk0 τ sl c) 0 (nI 0) 0 = nI 0 := upd_s ..
  have vn : ∀ i, i ≠ 0 → upd (rk0 τ sl c) 0 (nI 0) i = rk0 τ sl c i := fun i h => upd_n _ _ h
  have ep : paid (upd τ (ix c 6) (nI 0)) c (τ (ix c 6)) = pwP (upd (rk0 τ sl c) 0 (nI 0)) (rk0 τ sl c 0) := by
    unfold paid pwP; rw [u7, vn 1 (by decide), r1, r0]
  unfold begS pfS
  refine ⟨?_, ?_, ?_, fun k hk => ?_, fun k hk => ?_, fun i h6 h7 h5 hk h12 => ?_, ?_⟩
  · rw [payS_6, pwS_0, u0, v0, ep, r0]
  · rw [payS_7 _ hc, pwS_1, u7, vn 1 (by decide), ep, r1]
  · rw [payS_5 _ hc, pwS_4, u5, vn 4 (by decide), r4, ep]
    rw [show nI 0 + pwP (upd (rk0 τ sl c) 0 (nI 0)) (rk0 τ sl c 0) = pwP (upd (rk0 τ sl c) 0 (nI 0)) (rk0 τ sl c 0) from Int32.zero_add _]
  · rw [payS_at (by simp only [ix]; omega) (by simp only [ix]; omega) (by simp only [ix]; omega), upd_n _ _ (by simp only [ix]; omega), layP_at, if_pos hk]
  · rw [payS_at (by simp only [ix]; omega) (by simp only [ix]; omega) (by omega), upd_n _ _ (by simp only [ix]; omega), layP_at, if_pos hk, Int32.sub_self, Int32.add_zero]
  · rw [payS_at h7 h6 h5, upd_n _ _ h6]
  · rw [pwS_n _ _ (by decide) (by decide) (by decide), vn 2 (by decide), r2, cvL_P]
    exact cvP_congr 6 (fun k hk => by rw [layP_at, if_pos hk])
theorem cvP_soP {τ pl : Nat → Int32} {k : Nat} : ∀ n, cvP τ (soP pl k) n = if k < n then cvP τ pl n - oneC τ k else cvP τ pl n := by
  intro n
  induction n with
  | zero => rw [if_neg (by omega)]; rfl
  | succ n ih =>
    simp only [cvP]
    rw [ih]
    by_cases h : k = n
    · subst h
      rw [if_neg (by omega), if_pos (by omega)]
      rw [show soP pl k k = pl k - nI 1 from upd_s .., Int32.sub_mul]
      rw [show nI 1 * oneC τ k = oneC τ k from Int32.one_mul _, Int32.sub_eq_add_neg, Int32.sub_eq_add_neg, Int32.add_assoc]
    · rw [show soP pl k n = pl n from upd_n _ _ (Ne.symm h)]
      by_cases z : k < n
      · rw [if_pos z, if_pos (by omega), Int32.sub_eq_add_neg, Int32.sub_eq_add_neg, Int32.add_assoc, Int32.add_comm (-oneC τ k), ← Int32.add_assoc]
      · rw [if_neg z, if_neg (by omega)]
theorem SRel_step {τ : Nat → Int32} {c : Nat} (hc : c < 8) {sl pl R : Nat → Int32} (h : SRel τ c sl pl R) {k : Nat} (hk : k < 6) : SRel τ c (soS τ sl k) (soP pl k) (sell1 R c k) := by
  obtain ⟨g6, g7, g5, gp, gs, gr, g2⟩ := id h
  have w2 : so2 τ sl k 0 = sl 0 ∧ so2 τ sl k 1 = sl 1 ∧ so2 τ sl k 4 = sl 4 ∧ so2 τ sl k 2 = sl 2 - oneC τ k := by
    simp only [so2, so1]
    refine ⟨?_, ?_, ?_, ?_⟩
    · rw [upd_n _ _ (by decide), upd_n _ _ (by decide)]
    · rw [upd_n _ _ (by decide), upd_n _ _ (by decide)]
    · rw [upd_n _ _ (by decide), upd_n _ _ (by decide)]
    · rw [upd_n _ _ (by decide), upd_s]
  obtain ⟨a0, a1, a4, a2⟩ := w2
  generalize hs : upd (less1 R c k) (12 + k) (less1 R c k (12 + k) + nI 1) = s
  have sat : ∀ i, i ≠ ix c k → i ≠ 12 + k → s i = R i := fun i h1 h2 => by rw [← hs, upd_n _ _ h2, less1, upd_n _ _ h1]
  have s6 : s (ix c 6) = sl 0 := (sat _ (by simp only [ix]; omega) (by simp only [ix]; omega)).trans g6
  have s7 : s (ix c 7) = sl 1 := (sat _ (by simp only [ix]; omega) (by simp only [ix]; omega)).trans g7
  have s5 : s 105 = τ 105 + sl 4 := (sat _ (by simp only [ix]; omega) (by omega)).trans g5
  have sk : s k = τ k := (sat _ (by simp only [ix]; omega) (by omega)).trans (h.lo (by omega))
  have s100 : s 100 = τ 100 := (sat _ (by simp only [ix]; omega) (by omega)).trans (h.hi hc (by omega) (by omega))
  have ex : s k * (nI 100 - s 100) / nI 100 = τ k * (nI 100 - τ 100) / nI 100 := by rw [sk, s100]
  have e1 : sell1 R c k = payS s c (τ k * (nI 100 - τ 100) / nI 100) := by
    show payS _ c _ = _
    rw [hs, ex]
  generalize hx : τ k * (nI 100 - τ 100) / nI 100 = x at e1
  have e2 : soS τ sl k = pwS (so2 τ sl k) x := by rw [← hx]; rfl
  have ep : paid s c x = pwP (so2 τ sl k) x := by unfold paid pwP; rw [s7, a1]
  rw [e1, e2]
  refine ⟨?_, ?_, ?_, fun j hj => ?_, fun j hj => ?_, fun i h6 h7 h5 hk' h12 => ?_, ?_⟩
  · rw [payS_6, pwS_0, s6, a0, ep]
  · rw [payS_7 _ hc, pwS_1, s7, a1, ep]
  · rw [payS_5 _ hc, pwS_4, s5, a4, ep, Int32.add_assoc]
  · rw [payS_at (by simp only [ix]; omega) (by simp only [ix]; omega) (by simp only [ix]; omega)]
    by_cases z : j = k
    · subst z
      rw [← hs, upd_n _ _ (by simp only [ix]; omega), less1, upd_s, gp j hj, show soP pl j j = pl j - nI 1 from upd_s .., Int32.sub_eq_add_neg]
      rfl
    · rw [sat _ (by simp only [ix]; omega) (by simp only [ix]; omega), gp j hj, show soP pl k j = pl j from upd_n _ _ z]
  · rw [payS_at (by simp only [ix]; omega) (by simp only [ix]; omega) (by omega)]
    by_cases z : j = k
    · subst z
      rw [← hs, upd_s, less1, upd_n _ _ (by simp only [ix]; omega), gs j hj, show soP pl j j = pl j - nI 1 from upd_s .., Int32.add_assoc]
      congr 1
      rw [Int32.sub_eq_add_neg, Int32.sub_eq_add_neg (pl j), Int32.sub_eq_add_neg (τ (ix c j)), Int32.neg_add, Int32.sub_eq_add_neg, Int32.neg_neg, Int32.add_assoc]
    · rw [sat _ (by simp only [ix]; omega) (by omega), gs j hj, show soP pl k j = pl j from upd_n _ _ z]
  · rw [payS_at h7 h6 h5, sat _ (hk' k hk) (h12 k hk)]
    exact gr i h6 h7 h5 hk' h12
  · rw [pwS_n _ _ (by decide) (by decide) (by decide), a2, g2, cvP_soP, if_pos hk]
/-- prices, cuts, the order of sales -/
def PR (τ : Nat → Int32) : Prop := ∀ k, k < 6 → ∃ p, 1 ≤ p ∧ p ≤ 500 ∧ τ k = nI p
def CU (τ : Nat → Int32) : Prop := ∀ k, k < 6 → ∃ q, q ≤ 90 ∧ τ (6 + k) = nI q
def OR3 (τ : Nat → Int32) : Prop := ∃ o, o < 3 ∧ τ 101 = nI o
theorem fal_0 : ∀ p, p < 501 → falI (nI p) (nI 0) = nI p := by decide +kernel
theorem pr_fal {τ : Nat → Int32} (h : PR τ) {k : Nat} (hk : k < 6) : (if falI (τ k) (nI 0) < nI 1 then nI 1 else falI (τ k) (nI 0)) = τ k := by
  obtain ⟨p, h1, h2, e⟩ := h k hk
  rw [e, fal_0 p (by omega), if_neg (nI_nlt h1 (by omega))]
theorem SRel.cov {τ : Nat → Int32} {c : Nat} {sl pl R : Nat → Int32} (h : SRel τ c sl pl R) (hp : PR τ) : ∀ n, n ≤ 6 → covS R c (nI 0) (nI 1) n = cvP τ pl n := by
  intro n
  induction n with
  | zero => intro _; rfl
  | succ n ih =>
    intro hn
    simp only [covS, cvP]
    rw [ih (by omega), h.2.2.2.1 n (by omega), h.lo (show n < 12 by omega), h.lo (show 6 + n < 12 by omega), pr_fal hp (by omega), Int32.mul_assoc]
    rfl
theorem SRel_isC {τ : Nat → Int32} {c : Nat} {sl pl R : Nat → Int32} (h : SRel τ c sl pl R) (hp : PR τ) : isC R c = cvD sl := by
  unfold isC cvD covI
  rw [h.cov hp 6 (Nat.le_refl 6), h.1, h.2.1, ← h.2.2.2.2.2.2]
theorem sub_lt {a b : Nat} (ha : a < 1000) (hb : b < 1000) : (0 < nI a - nI b) ↔ nI b < nI a := by
  rw [Int32.lt_iff_toInt_lt, Int32.lt_iff_toInt_lt, pk_sub_toInt (by omega) (by omega), nI_toInt (by omega), nI_toInt (by omega)]
  show (0 : Int) < _ ↔ _
  omega
theorem neg_lt : ∀ a, a < 91 → ∀ b, b < 91 → ((-nI b < -nI a) ↔ nI a < nI b) := by decide +kernel
theorem ahead_key {τ R : Nat → Int32} (hR : ∀ i, i < 12 → R i = τ i) (h101 : R 101 = τ 101) (hp : PR τ) (hc : CU τ) (ho : OR3 τ) {k o : Nat} (hk : k < 6) (hoo : o < 6) : ahead R k o = true ↔ keyS τ o < keyS τ k := by
  obtain ⟨p1, -, b1, e1⟩ := hp k hk
  obtain ⟨p2, -, b2, e2⟩ := hp o hoo
  obtain ⟨q1, d1, f1⟩ := hc k hk
  obtain ⟨q2, d2, f2⟩ := hc o hoo
  obtain ⟨r, hr, e⟩ := ho
  unfold ahead byS keyS
  rw [decide_eq_true_eq, h101, hR k (by omega), hR o (by omega), hR (6 + k) (by omega), hR (6 + o) (by omega), e, e1, e2, f1, f2]
  rcases (show r = 0 ∨ r = 1 ∨ r = 2 by omega) with rfl | rfl | rfl
  · have n1 : ¬ nI 0 = nI 1 := by decide
    have n2 : ¬ nI 0 = nI 2 := by decide
    rw [if_pos (show nI 0 = 0 from rfl), if_neg n1, if_neg n2, if_neg n1, if_neg n2]
    exact sub_lt (by omega) (by omega)
  · have n0 : ¬ nI 1 = 0 := by decide
    rw [if_neg n0, if_pos (Eq.refl (nI 1)), if_pos (Eq.refl (nI 1)), if_pos (Eq.refl (nI 1)), sub_lt (by omega) (by omega), neg_lt q1 (by omega) q2 (by omega)]
  · have n0 : ¬ nI 2 = 0 := by decide
    have n1 : ¬ nI 2 = nI 1 := by decide
    rw [if_neg n0, if_neg n1, if_neg n1, if_pos (Eq.refl (nI 2)), if_neg n1, if_pos (Eq.refl (nI 2))]
    exact sub_lt (by omega) (by omega)
theorem sel_fk {τ R pl ks : Nat → Int32} {c : Nat} (hR : ∀ i, i < 12 → R i = τ i) (h101 : R 101 = τ 101) (hp : PR τ) (hc : CU τ) (ho : OR3 τ) (hpl : ∀ k, k < 6 → R (ix c k) = pl k) (hks : ∀ k, k < 6 → ks k = keyS τ k) : ∀ n, n ≤ 6 → selS R c n = fkS pl ks n ∧ ∀ k, fkS pl ks n = some k → k < n ∧ 0 < pl k := by
  intro n
  induction n with
  | zero => intro _; exact ⟨rfl, fun k h => by cases h⟩
  | succ n ih =>
    intro hn
    obtain ⟨e, g⟩ := ih (by omega)
    simp only [selS, fkS]
    rw [e, hpl n (by omega)]
    cases hf : fkS pl ks n with
    | none =>
      by_cases z : 0 < pl n
      · simp only [if_pos z]; exact ⟨trivial, fun k h => by cases h; exact ⟨by omega, z⟩⟩
      · simp only [if_neg z]; exact ⟨trivial, fun k h => by cases h⟩
    | some o =>
      obtain ⟨g1, g2⟩ := g o hf
      have ea := ahead_key (k := n) (o := o) hR h101 hp hc ho (by omega) (by omega)
      dsimp only
      rw [hks n (by omega), hks o (by omega)]
      by_cases z : 0 < pl n ∧ keyS τ o < keyS τ n
      · simp only [if_pos z, if_pos (show 0 < pl n ∧ ahead R n o = true from ⟨z.1, ea.mpr z.2⟩)]
        exact ⟨trivial, fun k h => by cases h; exact ⟨by omega, z.1⟩⟩
      · simp only [if_neg z, if_neg (show ¬ (0 < pl n ∧ ahead R n o = true) from fun y => z ⟨y.1, ea.mp y.2⟩)]
        exact ⟨trivial, fun k h => by cases h; exact ⟨by omega, g2⟩⟩
theorem fk_none {pl ks : Nat → Int32} : ∀ n, fkS pl ks n = none ↔ ∀ k, k < n → ¬ 0 < pl k := by
  intro n
  induction n with
  | zero => exact ⟨fun _ k h => by omega, fun _ => rfl⟩
  | succ n ih =>
    simp only [fkS]
    cases hf : fkS pl ks n with
    | none =>
      have h := ih.mp hf
      by_cases z : 0 < pl n
      · simp only [if_pos z]
        exact ⟨fun q => (by cases q), fun q => absurd z (q n (by omega))⟩
      · simp only [if_neg z]
        refine ⟨fun _ k hk => ?_, fun _ => trivial⟩
        by_cases y : k = n
        · rw [y]; exact z
        · exact h k (by omega)
    | some o =>
      have h : ¬ ∀ k, k < n → ¬ 0 < pl k := fun q => by rw [ih.mpr q] at hf; cases hf
      refine ⟨fun q => ?_, fun q => absurd (fun k hk => q k (by omega)) h⟩
      simp only at q
      split at q <;> cases q
def sumA (a : Nat → Nat) : Nat → Nat
  | 0 => 0
  | n + 1 => sumA a n + a n
theorem sumA_upd {a : Nat → Nat} {k : Nat} (h : 0 < a k) : ∀ n, sumA (updN a k (a k - 1)) n + (if k < n then 1 else 0) = sumA a n := by
  intro n
  induction n with
  | zero => rfl
  | succ n ih =>
    simp only [sumA]
    by_cases z : k = n
    · subst z
      rw [if_neg (by omega)] at ih
      rw [if_pos (by omega), show updN a k (a k - 1) k = a k - 1 from if_pos rfl]
      omega
    · rw [show updN a k (a k - 1) n = a n from if_neg (Ne.symm z)]
      by_cases y : k < n
      · rw [if_pos y] at ih; rw [if_pos (by omega)]; omega
      · rw [if_neg y] at ih; rw [if_neg (by omega)]; omega
theorem sumA_0 {a : Nat → Nat} : ∀ n, sumA a n = 0 → ∀ k, k < n → a k = 0 := by
  intro n
  induction n with
  | zero => intro _ k h; omega
  | succ n ih =>
    intro h k hk
    simp only [sumA] at h
    by_cases z : k = n
    · rw [z]; omega
    · exact ih (by omega) k (by omega)
theorem rkW_none {τ ks : Nat → Int32} {q : (Nat → Int32) × (Nat → Int32)} (h : fkS q.2 ks 6 = none) : ∀ f, rkW τ ks f q = q := by
  intro f
  induction f with
  | zero => rfl
  | succ f ih =>
    simp only [rkW]
    split
    · rfl
    · rw [show soX τ ks q = q by unfold soX; rw [h]]; exact ih
theorem loop_eq {τ ks : Nat → Int32} {c : Nat} (hc : c < 8) (hp : PR τ) (hcu : CU τ) (ho : OR3 τ) (hks : ∀ k, k < 6 → ks k = keyS τ k) : ∀ (f F : Nat) (sl pl R : Nat → Int32) (n : Int32) (a : Nat → Nat), SRel τ c sl pl R → (∀ k, k < 6 → pl k = nI (a k) ∧ a k ≤ 99) → sumA a 6 ≤ f → sumA a 6 ≤ F → n = sl 3 →
    SRel τ c (rkW τ ks f (sl, pl)).1 (rkW τ ks f (sl, pl)).2 (sellW c F R n).1 ∧ (sellW c F R n).2 = (rkW τ ks f (sl, pl)).1 3 ∧ ∃ a' : Nat → Nat, ∀ k, k < 6 → (rkW τ ks f (sl, pl)).2 k = nI (a' k) ∧ a' k ≤ 99 := by
  intro f
  induction f with
  | zero =>
    intro F sl pl R n a hS ha h1 h2 hn
    have hz := sumA_0 6 (by omega) (a := a)
    have hno : fkS pl ks 6 = none := (fk_none 6).mpr (fun k hk => by rw [(ha k hk).1, hz k hk]; decide)
    have h101 : R 101 = τ 101 := hS.hi hc (by omega) (by omega)
    have hsf := (sel_fk (R := R) (τ := τ) (pl := pl) (ks := ks) (c := c) (fun i hi => hS.lo hi) h101 hp hcu ho hS.2.2.2.1 hks 6 (Nat.le_refl 6)).1
    have hsel : selS R c 6 = none := hsf.trans hno
    have e0 : rkW τ ks 0 (sl, pl) = (sl, pl) := rfl
    rw [sellW_none hsel, e0]
    exact ⟨hS, hn, a, ha⟩
  | succ f ih =>
    intro F sl pl R n a hS ha h1 h2 hn
    have h101 : R 101 = τ 101 := hS.hi hc (by omega) (by omega)
    obtain ⟨es, eg⟩ := sel_fk (R := R) (τ := τ) (pl := pl) (ks := ks) (c := c) (fun i hi => hS.lo hi) h101 hp hcu ho hS.2.2.2.1 hks 6 (Nat.le_refl 6)
    cases hf : fkS pl ks 6 with
    | none =>
      rw [sellW_none (es.trans hf), rkW_none (q := (sl, pl)) hf]
      exact ⟨hS, hn, a, ha⟩
    | some k =>
      obtain ⟨hk, hpos⟩ := eg k hf
      cases hcv : cvD sl with
      | true =>
        have e1 : rkW τ ks (f + 1) (sl, pl) = (sl, pl) := by simp only [rkW]; exact if_pos hcv
        rw [e1, sellW_cov (es.trans hf) ((SRel_isC hS hp).trans hcv)]
        exact ⟨hS, hn, a, ha⟩
      | false =>
        have e1 : rkW τ ks (f + 1) (sl, pl) = rkW τ ks f (soS τ sl k, soP pl k) := by
          simp only [rkW]
          rw [if_neg (by rw [hcv]; decide)]
          congr 1
          unfold soX
          rw [hf]
        have hak : 0 < a k := by
          rcases Nat.eq_zero_or_pos (a k) with z | z
          · rw [(ha k hk).1, z] at hpos; exact absurd hpos (by decide)
          · exact z
        have hF : 0 < F := by
          rcases Nat.eq_zero_or_pos F with z | z
          · have := sumA_0 6 (by omega) (a := a) k hk; omega
          · exact z
        obtain ⟨F, rfl⟩ : ∃ F2, F = F2 + 1 := ⟨F - 1, by omega⟩
        have e2 : sellW c (F + 1) R n = sellW c F (sell1 R c k) (n + nI 1) := by
          simp only [sellW]
          rw [es, hf]
          exact if_neg (by rw [SRel_isC hS hp, hcv]; decide)
        rw [e1, e2]
        have hsum := sumA_upd hak 6
        rw [if_pos hk] at hsum
        refine ih F (soS τ sl k) (soP pl k) (sell1 R c k) (n + nI 1) (updN a k (a k - 1)) (SRel_step hc hS hk) (fun j hj => ?_) (by omega) (by omega) ?_
        · by_cases z : j = k
          · subst z
            rw [show soP pl j j = pl j - nI 1 from upd_s .., show updN a j (a j - 1) j = a j - 1 from if_pos rfl, (ha j hj).1]
            exact ⟨pk_sub hak, by have := (ha j hj).2; omega⟩
          · rw [show soP pl k j = pl j from upd_n _ _ z, show updN a k (a k - 1) j = a j from if_neg z]
            exact ha j hj
        · rw [hn]
          show _ = pwS (so2 τ sl k) _ 3
          rw [pwS_n _ _ (by decide) (by decide) (by decide)]
          simp only [so2, so1]
          rw [upd_s, upd_n _ _ (by decide)]
theorem esN_at {τ pl : Nat → Int32} {c : Nat} (hc : c < 8) : ∀ n, n ≤ 6 → (∀ k, k < n → esN τ pl c n (ix c k) = pl k) ∧ (∀ k, k < n → esN τ pl c n (12 + k) = τ (12 + k) + (τ (ix c k) - pl k)) ∧ (∀ i, (∀ k, k < n → i ≠ ix c k) → (∀ k, k < n → i ≠ 12 + k) → esN τ pl c n i = τ i) := by
  intro n
  induction n with
  | zero => exact fun _ => ⟨fun k h => by omega, fun k h => by omega, fun i _ _ => rfl⟩
  | succ n ih =>
    intro hn
    obtain ⟨h1, h2, h3⟩ := ih (by omega)
    have e1 : esN τ pl c n (12 + n) = τ (12 + n) := h3 _ (fun k _ => by simp only [ix]; omega) (fun k _ => by omega)
    have e2 : esN τ pl c n (ix c n) = τ (ix c n) := h3 _ (fun k _ => by simp only [ix]; omega) (fun k _ => by simp only [ix]; omega)
    simp only [esN, es0]
    rw [e1, e2]
    refine ⟨fun k hk => ?_, fun k hk => ?_, fun i ha hb => ?_⟩
    · by_cases z : k = n
      · subst z; exact upd_s ..
      · rw [upd_n _ _ (by simp only [ix]; omega), upd_n _ _ (by simp only [ix]; omega)]
        exact h1 k (by omega)
    · by_cases z : k = n
      · subst z; rw [upd_n _ _ (by simp only [ix]; omega), upd_s]
      · rw [upd_n _ _ (by simp only [ix]; omega), upd_n _ _ (by omega)]
        exact h2 k (by omega)
    · rw [upd_n _ _ (ha n (by omega)), upd_n _ _ (hb n (by omega))]
      exact h3 i (fun k hk => ha k (by omega)) (fun k hk => hb k (by omega))
/-- the class's ledger behind a sale, the reference's state behind it -/
theorem es_out {τ sl pl R : Nat → Int32} {c : Nat} (hc : c < 8) (hp : PR τ) (h : SRel τ c sl pl R) (h5 : sl 5 = nI 0) (hz : cvD sl = false → 0 < sl 1) : esS τ pl (rkE sl) c = outS R c := by
  obtain ⟨n1, n2, n3⟩ := esN_at (τ := τ) (pl := pl) hc 6 (Nat.le_refl 6)
  obtain ⟨g6, g7, g5, gp, gs, gr, -⟩ := id h
  have hcv := SRel_isC h hp
  have q6 : 105 ≠ ix c 6 := by simp only [ix]; omega
  have q7 : 105 ≠ ix c 7 := by simp only [ix]; omega
  have q106 : R 106 = τ 106 := h.hi hc (by omega) (by omega)
  have q108 : R 108 = τ 108 := h.hi hc (by omega) (by omega)
  have m105 : esN τ pl c 6 105 = τ 105 := n3 _ (fun k _ => by simp only [ix]; omega) (fun k _ => by omega)
  have m106 : esN τ pl c 6 106 = τ 106 := n3 _ (fun k _ => by simp only [ix]; omega) (fun k _ => by omega)
  have m108 : esN τ pl c 6 108 = τ 108 := n3 _ (fun k _ => by simp only [ix]; omega) (fun k _ => by omega)
  -- the row of indices
  have key : ∀ i, i ≠ 108 → i ≠ ix c 8 → i ≠ ix c 9 → i ≠ 106 → i ≠ 105 → i ≠ ix c 7 → i ≠ ix c 6 → esN τ pl c 6 i = R i := fun i _ _ _ _ h105 h7 h6 => by
    by_cases y : ∃ k, k < 6 ∧ i = ix c k
    · obtain ⟨k, hk, rfl⟩ := y; rw [n1 k hk, gp k hk]
    · by_cases y2 : ∃ k, k < 6 ∧ i = 12 + k
      · obtain ⟨k, hk, rfl⟩ := y2; rw [n2 k hk, gs k hk]
      · have y' : ∀ k, k < 6 → i ≠ ix c k := fun k hk e => y ⟨k, hk, e⟩
        have y2' : ∀ k, k < 6 → i ≠ 12 + k := fun k hk e => y2 ⟨k, hk, e⟩
        rw [n3 i y' y2', gr i h6 h7 h105 y' y2']
  have c9 : esN τ pl c 6 (ix c 9) = R (ix c 9) := by
    rw [n3 _ (fun k _ => by simp only [ix]; omega) (fun k _ => by simp only [ix]; omega), gr _ (by simp only [ix]; omega) (by simp only [ix]; omega) (by simp only [ix]; omega) (fun k _ => by simp only [ix]; omega) (fun k _ => by simp only [ix]; omega)]
  cases hd : cvD sl with
  | true =>
    have e : rkE sl = sl := if_pos hd
    rw [e]
    have el : lossS R c = R := if_pos (hcv.trans hd)
    funext i
    simp only [esS, es5, es4, outS]
    rw [el, h5, if_neg (by decide)]
    simp only [es3, es2, es1]
    by_cases i108 : i = 108
    · subst i108
      rw [upd_s, upd_s, upd_n _ _ (by simp only [ix]; omega), upd_n _ _ (by decide), upd_n _ _ (by decide), upd_n _ _ (by simp only [ix]; omega), upd_n _ _ (by simp only [ix]; omega), m108, upd_n _ _ (by simp only [ix]; omega), q108]
    rw [upd_n _ _ i108, upd_n _ _ i108]
    by_cases i8 : i = ix c 8
    · subst i8; rw [upd_s, upd_s]
    rw [upd_n _ _ i8, upd_n _ _ i8]
    by_cases i106 : i = 106
    · subst i106
      rw [upd_s, upd_n _ _ (by decide), upd_n _ _ (by simp only [ix]; omega), upd_n _ _ (by simp only [ix]; omega), m106, h5, q106]
      exact Int32.add_zero _
    rw [upd_n _ _ i106]
    by_cases i105 : i = 105
    · subst i105
      rw [upd_s, upd_n _ _ q7, upd_n _ _ q6, m105, g5]
    rw [upd_n _ _ i105]
    by_cases i7 : i = ix c 7
    · subst i7; rw [upd_s, g7]
    rw [upd_n _ _ i7]
    by_cases i6 : i = ix c 6
    · subst i6; rw [upd_s, g6]
    rw [upd_n _ _ i6]
    by_cases i9 : i = ix c 9
    · subst i9; exact c9
    exact key i i108 i8 i9 i106 i105 i7 i6
  | false =>
    have e : rkE sl = upd (upd sl 5 (sl 1)) 1 (nI 0) := if_neg (by rw [hd]; decide)
    have k5 : rkE sl 5 = sl 1 := by rw [e, upd_n _ _ (by decide), upd_s]
    have k1 : rkE sl 1 = nI 0 := by rw [e, upd_s]
    have k0 : rkE sl 0 = sl 0 := by rw [e, upd_n _ _ (by decide), upd_n _ _ (by decide)]
    have k4 : rkE sl 4 = sl 4 := by rw [e, upd_n _ _ (by decide), upd_n _ _ (by decide)]
    have el : lossS R c = upd (upd (upd R 106 (R 106 + R (ix c 7))) (ix c 7) (nI 0)) (ix c 9) (nI 1) := if_neg (by rw [hcv, hd]; decide)
    funext i
    simp only [esS, es5, es4, outS]
    rw [el, if_pos (by rw [k5]; exact hz hd)]
    simp only [es3, es2, es1]
    rw [k0, k1, k4, k5]
    by_cases i108 : i = 108
    · subst i108
      rw [upd_s, upd_s, upd_n _ _ (by simp only [ix]; omega), upd_n _ _ (by simp only [ix]; omega), upd_n _ _ (by decide), upd_n _ _ (by decide), upd_n _ _ (by simp only [ix]; omega), upd_n _ _ (by simp only [ix]; omega), m108, upd_n _ _ (by simp only [ix]; omega), upd_n _ _ (by simp only [ix]; omega), upd_n _ _ (by simp only [ix]; omega), upd_n _ _ (by decide), q108]
    rw [upd_n _ _ i108, upd_n _ _ i108]
    by_cases i8 : i = ix c 8
    · subst i8; rw [upd_s, upd_s]
    rw [upd_n _ _ i8, upd_n _ _ i8]
    by_cases i9 : i = ix c 9
    · subst i9; rw [upd_s, upd_s]
    rw [upd_n _ _ i9, upd_n _ _ i9]
    by_cases i106 : i = 106
    · subst i106
      rw [upd_s, upd_n _ _ (by decide), upd_n _ _ (by simp only [ix]; omega), upd_n _ _ (by simp only [ix]; omega), m106, upd_n _ _ (by simp only [ix]; omega), upd_s, q106, g7]
    rw [upd_n _ _ i106]
    by_cases i105 : i = 105
    · subst i105
      rw [upd_s, upd_n _ _ q7, upd_n _ _ q6, m105, upd_n _ _ q7, upd_n _ _ (by decide), g5]
    rw [upd_n _ _ i105]
    by_cases i7 : i = ix c 7
    · subst i7; rw [upd_s, upd_s]
    rw [upd_n _ _ i7, upd_n _ _ i7, upd_n _ _ i106]
    by_cases i6 : i = ix c 6
    · subst i6; rw [upd_s, g6]
    rw [upd_n _ _ i6]
    exact key i i108 i8 i9 i106 i105 i7 i6
def SLP (τ : Nat → Int32) : Prop := ∃ s, s ≤ 50 ∧ τ 100 = nI s
/-- coins and debt on the class's row: coins are left only without a debt -/
def MI4 (sl : Nat → Int32) : Prop := ∃ co de, sl 0 = nI co ∧ sl 1 = nI de ∧ co ≤ 99999 ∧ de ≤ 1000000 ∧ (0 < de → co = 0)
theorem pw_MI {sl : Nat → Int32} {de x : Nat} (h0 : sl 0 = nI 0) (h1 : sl 1 = nI de) (hd : de ≤ 1000000) (hx : x ≤ 99999) : MI4 (pwS sl (nI x)) := by
  have ep : pwP sl (nI x) = nI (min x de) := by
    unfold pwP
    rw [h1]
    by_cases z : x < de
    · rw [if_pos (nI_lt z (by omega)), show min x de = x by omega]
    · rw [if_neg (nI_nlt (by omega) (by omega)), show min x de = de by omega]
  refine ⟨x - min x de, de - min x de, ?_, ?_, by omega, by omega, by omega⟩
  · rw [pwS_0, h0, ep, pk_sub (by omega), nI_add, Nat.zero_add]
  · rw [pwS_1, h1, ep, pk_sub (by omega)]
theorem pf_MI {sl : Nat → Int32} {co de : Nat} (h0 : sl 0 = nI co) (h1 : sl 1 = nI de) (hc : co ≤ 99999) (hd : de ≤ 1000000) : MI4 (pfS sl) := by
  unfold pfS
  rw [h0]
  exact pw_MI (upd_s ..) ((upd_n _ _ (by decide)).trans h1) hd hc
def PL9 (pl : Nat → Int32) : Prop := ∀ k, k < 6 → ∃ a, a ≤ 99 ∧ pl k = nI a
theorem cvP_nat {τ pl : Nat → Int32} (hp : PR τ) (hc : CU τ) (hl : PL9 pl) : ∀ n, n ≤ 6 → ∃ N, N ≤ n * 4950000 ∧ cvP τ pl n = nI N := by
  intro n
  induction n with
  | zero => exact fun _ => ⟨0, by omega, rfl⟩
  | succ n ih =>
    intro hn
    obtain ⟨N, h1, h2⟩ := ih (by omega)
    obtain ⟨p, p1, p2, p3⟩ := hp n (by omega)
    obtain ⟨q, q1, q2⟩ := hc n (by omega)
    obtain ⟨a, a1, a2⟩ := hl n (by omega)
    refine ⟨N + a * (p * (100 - q)), ?_, ?_⟩
    · have e1 : p * (100 - q) ≤ 500 * 100 := Nat.mul_le_mul p2 (by omega)
      have e2 : a * (p * (100 - q)) ≤ 99 * (500 * 100) := Nat.mul_le_mul a1 e1
      omega
    · simp only [cvP, oneC]
      rw [h2, p3, q2, a2, pk_sub (by omega), pk_mul, pk_mul, nI_add]
theorem cvD_de {τ sl pl : Nat → Int32} (hp : PR τ) (hc : CU τ) (hl : PL9 pl) (h2 : sl 2 = cvP τ pl 6) {co de : Nat} (h0 : sl 0 = nI co) (h1 : sl 1 = nI de) (hco : co ≤ 99999) (hd : cvD sl = false) : 0 < de := by
  rcases Nat.eq_zero_or_pos de with z | z
  · obtain ⟨N, n1, n2⟩ := cvP_nat hp hc hl 6 (Nat.le_refl 6)
    have e : cvD sl = true := by
      unfold cvD
      rw [h0, h1, h2, n2, z, pk_div (by omega) (by omega) (by omega), nI_add]
      exact decide_eq_true (nI_le (Nat.zero_le _) (by omega))
    rw [e] at hd; cases hd
  · exact z
theorem LI_loop {τ ks : Nat → Int32} (hp : PR τ) (hc : CU τ) (hs : SLP τ) : ∀ (f : Nat) (sl pl : Nat → Int32), MI4 sl → sl 2 = cvP τ pl 6 → PL9 pl → sl 5 = nI 0 →
    MI4 (rkW τ ks f (sl, pl)).1 ∧ (rkW τ ks f (sl, pl)).1 2 = cvP τ (rkW τ ks f (sl, pl)).2 6 ∧ PL9 (rkW τ ks f (sl, pl)).2 ∧ (rkW τ ks f (sl, pl)).1 5 = nI 0 := by
  intro f
  induction f with
  | zero => intro sl pl h1 h2 h3 h4; exact ⟨h1, h2, h3, h4⟩
  | succ f ih =>
    intro sl pl h1 h2 h3 h4
    cases hcv : cvD sl with
    | true =>
      rw [rkW_cov (q := (sl, pl)) hcv]
      exact ⟨h1, h2, h3, h4⟩
    | false =>
      rw [rkW_go (q := (sl, pl)) hcv f]
      cases hf : fkS pl ks 6 with
      | none =>
        rw [show soX τ ks (sl, pl) = (sl, pl) by unfold soX; rw [hf]]
        exact ih sl pl h1 h2 h3 h4
      | some k =>
        rw [show soX τ ks (sl, pl) = (soS τ sl k, soP pl k) by unfold soX; rw [hf]]
        have hk := fkS_lt hf
        have hpos : 0 < pl k := by
          by_cases z : 0 < pl k
          · exact z
          · exfalso
            have : ∀ n, fkS pl ks n = some k → 0 < pl k := by
              intro n
              induction n with
              | zero => intro h; cases h
              | succ n ihn =>
                intro h
                simp only [fkS] at h
                cases hs' : fkS pl ks n with
                | none =>
                  rw [hs'] at h
                  simp only at h
                  split at h
                  · next y => cases h; exact y
                  · cases h
                | some o =>
                  rw [hs'] at h
                  simp only at h
                  split at h
                  · next y => cases h; exact y.1
                  · exact ihn (by rw [hs', h])
            exact z (this 6 hf)
        obtain ⟨co, de, a1, a2, a3, a4, a5⟩ := h1
        have hde := cvD_de hp hc h3 h2 a1 a2 a3 hcv
        have hco := a5 hde
        subst hco
        obtain ⟨p, p1, p2, p3⟩ := hp k hk
        obtain ⟨s, s1, s2⟩ := hs
        have ex : τ k * (nI 100 - τ 100) / nI 100 = nI (p * (100 - s) / 100) := by
          have e1 : p * (100 - s) ≤ 500 * 100 := Nat.mul_le_mul p2 (by omega)
          rw [p3, s2, pk_sub (by omega), pk_mul, pk_div (by omega) (by omega) (by omega)]
        have exb : p * (100 - s) / 100 ≤ 99999 := by
          have e1 : p * (100 - s) ≤ 500 * 100 := Nat.mul_le_mul p2 (by omega)
          omega
        have b0 : so2 τ sl k 0 = nI 0 := by simp only [so2, so1]; rw [upd_n _ _ (by decide), upd_n _ _ (by decide)]; exact a1
        have b1 : so2 τ sl k 1 = nI de := by simp only [so2, so1]; rw [upd_n _ _ (by decide), upd_n _ _ (by decide)]; exact a2
        have e2 : soS τ sl k = pwS (so2 τ sl k) (nI (p * (100 - s) / 100)) := by rw [← ex]; rfl
        obtain ⟨a, a6, a7⟩ := h3 k hk
        have hap : 0 < a := by
          rcases Nat.eq_zero_or_pos a with z | z
          · rw [a7, z] at hpos; exact absurd hpos (by decide)
          · exact z
        refine ih (soS τ sl k) (soP pl k) (by rw [e2]; exact pw_MI b0 b1 a4 exb) ?_ (fun j hj => ?_) ?_
        · rw [e2, pwS_n _ _ (by decide) (by decide) (by decide), cvP_soP, if_pos hk, ← h2]
          simp only [so2, so1]
          rw [upd_n _ _ (by decide), upd_s]
        · by_cases z : j = k
          · subst z
            exact ⟨a - 1, by omega, by rw [show soP pl j j = pl j - nI 1 from upd_s .., a7]; exact pk_sub hap⟩
          · rw [show soP pl k j = pl j from upd_n _ _ z]; exact h3 j hj
        · rw [e2, pwS_n _ _ (by decide) (by decide) (by decide)]
          simp only [so2, so1]
          rw [upd_n _ _ (by decide), upd_n _ _ (by decide)]; exact h4
/-- what a client has -/
def CL (τ : Nat → Int32) (c : Nat) : Prop := (∀ k, k < 6 → ∃ a, a ≤ 99 ∧ τ (ix c k) = nI a) ∧ (∃ co, co ≤ 99999 ∧ τ (ix c 6) = nI co) ∧ (∃ de, de ≤ 1000000 ∧ τ (ix c 7) = nI de)
theorem nP_sum {τ : Nat → Int32} {c : Nat} : ∀ n, nP τ c n = sumA (fun k => (τ (ix c k)).toNatClampNeg) n := by
  intro n
  induction n with
  | zero => rfl
  | succ n ih => simp only [nP, sumA]; rw [ih]
theorem sumA_le {a : Nat → Nat} : ∀ n, (∀ k, k < n → a k ≤ 99) → sumA a n ≤ 99 * n := by
  intro n
  induction n with
  | zero => intro _; exact Nat.le_refl _
  | succ n ih => intro h; simp only [sumA]; have := ih (fun k hk => h k (by omega)); have := h n (by omega); omega
theorem sale_all {τ : Nat → Int32} {c : Nat} (hc : c < 8) (hp : PR τ) (hcu : CU τ) (ho : OR3 τ) (hs : SLP τ) (hC : CL τ c) (sl pl ks : Nat → Int32) :
    esS τ (rkS τ sl pl ks c (nP τ c 6)).2 (rkE (rkS τ sl pl ks c (nP τ c 6)).1) c = (sellsS τ c).1 ∧
    rkE (rkS τ sl pl ks c (nP τ c 6)).1 3 = (sellsS τ c).2 ∧
    rkE (rkS τ sl pl ks c (nP τ c 6)).1 5 = (sellsS τ c).1 106 - τ 106 ∧
    ∃ R, SRel τ c (rkS τ sl pl ks c (nP τ c 6)).1 (rkS τ sl pl ks c (nP τ c 6)).2 R ∧ (sellsS τ c).1 = outS R c ∧ MI4 (rkS τ sl pl ks c (nP τ c 6)).1 ∧ PL9 (rkS τ sl pl ks c (nP τ c 6)).2 ∧ (rkS τ sl pl ks c (nP τ c 6)).1 2 = cvP τ (rkS τ sl pl ks c (nP τ c 6)).2 6 := by
  obtain ⟨c1, ⟨co, c2, c3⟩, ⟨de, c4, c5⟩⟩ := hC
  have hks : ∀ k, k < 6 → layK τ ks 6 k = keyS τ k := fun k hk => by rw [layK_at, if_pos hk]
  have hlay : ∀ k, k < 6 → layP τ c pl 6 k = τ (ix c k) := fun k hk => by rw [layP_at, if_pos hk]
  have hna : ∀ k, k < 6 → layP τ c pl 6 k = nI ((τ (ix c k)).toNatClampNeg) ∧ (τ (ix c k)).toNatClampNeg ≤ 99 := fun k hk => by
    obtain ⟨a, a1, a2⟩ := c1 k hk
    rw [hlay k hk, a2, nI_clamp (by omega)]
    exact ⟨rfl, a1⟩
  have hsum := sumA_le (a := fun k => (τ (ix c k)).toNatClampNeg) 6 (fun k hk => (hna k hk).2)
  have r0 : rk0 τ sl c 0 = nI co := by simp only [rk0]; rw [upd_n _ _ (by decide), upd_n _ _ (by decide), upd_n _ _ (by decide), upd_n _ _ (by decide), upd_n _ _ (by decide), upd_s, c3]
  have r1 : rk0 τ sl c 1 = nI de := by simp only [rk0]; rw [upd_n _ _ (by decide), upd_n _ _ (by decide), upd_n _ _ (by decide), upd_n _ _ (by decide), upd_s, c5]
  have r3 : rk0 τ sl c 3 = nI 0 := by simp only [rk0]; rw [upd_n _ _ (by decide), upd_n _ _ (by decide), upd_n _ _ (by decide), upd_s]
  have r5 : rk0 τ sl c 5 = nI 0 := by simp only [rk0]; rw [upd_n _ _ (by decide), upd_s]
  have hbeg := SRel_beg (τ := τ) hc sl pl
  have hL := loop_eq (τ := τ) (ks := layK τ ks 6) hc hp hcu ho hks (nP τ c 6) 594 (pfS (rk0 τ sl c)) (layP τ c pl 6) (begS τ c) (nI 0) _ hbeg hna (by rw [nP_sum]; exact Nat.le_refl _) (by omega) (by
    unfold pfS; rw [pwS_n _ _ (by decide) (by decide) (by decide), upd_n _ _ (by decide), r3])
  have hI := LI_loop (τ := τ) (ks := layK τ ks 6) hp hcu hs (nP τ c 6) (pfS (rk0 τ sl c)) (layP τ c pl 6) (pf_MI r0 r1 c2 c4) hbeg.2.2.2.2.2.2 (fun k hk => by obtain ⟨a, a1, a2⟩ := c1 k hk; exact ⟨a, a1, by rw [hlay k hk, a2]⟩) (by
    unfold pfS; rw [pwS_n _ _ (by decide) (by decide) (by decide), upd_n _ _ (by decide), r5])
  change SRel τ c (rkS τ sl pl ks c (nP τ c 6)).1 (rkS τ sl pl ks c (nP τ c 6)).2 _ ∧ _ = (rkS τ sl pl ks c (nP τ c 6)).1 3 ∧ _ at hL
  change MI4 (rkS τ sl pl ks c (nP τ c 6)).1 ∧ (rkS τ sl pl ks c (nP τ c 6)).1 2 = cvP τ (rkS τ sl pl ks c (nP τ c 6)).2 6 ∧ PL9 (rkS τ sl pl ks c (nP τ c 6)).2 ∧ (rkS τ sl pl ks c (nP τ c 6)).1 5 = nI 0 at hI
  generalize rkS τ sl pl ks c (nP τ c 6) = q at hL hI
  obtain ⟨l1, l2, -⟩ := hL
  obtain ⟨i1, i2, i3, i5⟩ := hI
  have hz : cvD q.1 = false → 0 < q.1 1 := fun hd => by
    obtain ⟨co', de', d1, d2, d3, d4, -⟩ := id i1
    have := cvD_de hp hcu i3 i2 d1 d2 d3 hd
    rw [d2]; exact nI_lt this (by omega)
  have hes := es_out hc hp l1 i5 hz
  have k3 : rkE q.1 3 = q.1 3 := by
    unfold rkE; split
    · rfl
    · rw [upd_n _ _ (by decide), upd_n _ _ (by decide)]
  refine ⟨hes, k3.trans l2.symm, ?_, _, l1, rfl, i1, i3, i2⟩
  have m106 : esS τ q.2 (rkE q.1) c 106 = τ 106 + rkE q.1 5 := by
    obtain ⟨-, -, n3⟩ := esN_at (τ := τ) (pl := q.2) hc 6 (Nat.le_refl 6)
    have m : esN τ q.2 c 6 106 = τ 106 := n3 _ (fun k _ => by simp only [ix]; omega) (fun k _ => by omega)
    simp only [esS, es5]
    rw [upd_n _ _ (by decide), upd_n _ _ (by simp only [ix]; omega)]
    have e3 : es3 τ q.2 (rkE q.1) c 106 = τ 106 + rkE q.1 5 := by
      simp only [es3, es2, es1]
      rw [upd_s, upd_n _ _ (by decide), upd_n _ _ (by simp only [ix]; omega), upd_n _ _ (by simp only [ix]; omega), m]
    unfold es4
    split
    · rw [upd_n _ _ (by simp only [ix]; omega), e3]
    · exact e3
  show _ = (outS (sellW c 594 (begS τ c) (nI 0)).1 c) 106 - τ 106
  rw [← hes, m106, Int32.add_comm, Int32.add_sub_cancel]
