/-! ===== what a sale would bring: bounds ===== -/
theorem fk_pos {pl ks : Nat → Int32} {k : Nat} : ∀ n, fkS pl ks n = some k → 0 < pl k := by
  intro n
  induction n with
  | zero => intro h; cases h
  | succ n ihn =>
    intro h
    simp only [fkS] at h
    cases hs' : fkS pl ks n with
    | none =>
      rw [hs'] at h
      simp only at h
      split at h
      · next y => cases h; exact y
      · cases h
    | some o =>
      rw [hs'] at h
      simp only at h
      split at h
      · next y => cases h; exact y.1
      · exact ihn (by rw [hs', h])
theorem pwP_n {sl : Nat → Int32} {de x : Nat} (h1 : sl 1 = nI de) (hd : de ≤ 1000000) (hx : x ≤ 99999) : pwP sl (nI x) = nI (min x de) := by
  unfold pwP
  rw [h1]
  by_cases z : x < de
  · rw [if_pos (nI_lt z (by omega)), show min x de = x by omega]
  · rw [if_neg (nI_nlt (by omega) (by omega)), show min x de = de by omega]
/-- pieces, count and debt on the way of a sale -/
theorem RK_loop {τ ks : Nat → Int32} (hp : PR τ) (hs : SLP τ) : ∀ (f : Nat) (sl pl : Nat → Int32) (a : Nat → Nat) (n de : Nat), (∀ k, k < 6 → pl k = nI (a k) ∧ a k ≤ 99) → sl 3 = nI n → sl 1 = nI de → de ≤ 1000000 →
    ∃ (a' : Nat → Nat) (n' de' : Nat), (rkW τ ks f (sl, pl)).1 3 = nI n' ∧ (rkW τ ks f (sl, pl)).1 1 = nI de' ∧ de' ≤ de ∧ n' + sumA a' 6 = n + sumA a 6 ∧ (rkW τ ks f (sl, pl)).1 5 = sl 5 := by
  intro f
  induction f with
  | zero => intro sl pl a n de h1 h2 h3 h4; exact ⟨a, n, de, h2, h3, Nat.le_refl _, rfl, rfl⟩
  | succ f ih =>
    intro sl pl a n de h1 h2 h3 h4
    cases hcv : cvD sl with
    | true =>
      rw [rkW_cov (q := (sl, pl)) hcv]
      exact ⟨a, n, de, h2, h3, Nat.le_refl _, rfl, rfl⟩
    | false =>
      rw [rkW_go (q := (sl, pl)) hcv f]
      cases hf : fkS pl ks 6 with
      | none =>
        rw [show soX τ ks (sl, pl) = (sl, pl) by unfold soX; rw [hf]]
        exact ih sl pl a n de h1 h2 h3 h4
      | some k =>
        rw [show soX τ ks (sl, pl) = (soS τ sl k, soP pl k) by unfold soX; rw [hf]]
        have hk := fkS_lt hf
        have hpos := fk_pos 6 hf
        obtain ⟨p, p1, p2, p3⟩ := hp k hk
        obtain ⟨s, s1, s2⟩ := id hs
        have ex : τ k * (nI 100 - τ 100) / nI 100 = nI (p * (100 - s) / 100) := by
          have e1 : p * (100 - s) ≤ 500 * 100 := Nat.mul_le_mul p2 (by omega)
          rw [p3, s2, pk_sub (by omega), pk_mul, pk_div (by omega) (by omega) (by omega)]
        have exb : p * (100 - s) / 100 ≤ 99999 := by
          have e1 : p * (100 - s) ≤ 500 * 100 := Nat.mul_le_mul p2 (by omega)
          omega
        have b1 : so2 τ sl k 1 = nI de := by simp only [so2, so1]; rw [upd_n _ _ (by decide), upd_n _ _ (by decide)]; exact h3
        have b3 : so2 τ sl k 3 = nI (n + 1) := by simp only [so2, so1]; rw [upd_s, upd_n _ _ (by decide), h2, nI_add]
        have b5 : so2 τ sl k 5 = sl 5 := by simp only [so2, so1]; rw [upd_n _ _ (by decide), upd_n _ _ (by decide)]
        have e2 : soS τ sl k = pwS (so2 τ sl k) (nI (p * (100 - s) / 100)) := by rw [← ex]; rfl
        obtain ⟨a6, a7⟩ := h1 k hk
        have hap : 0 < a k := by
          rcases Nat.eq_zero_or_pos (a k) with z | z
          · rw [a6, z] at hpos; exact absurd hpos (by decide)
          · exact z
        have hsum := sumA_upd (a := a) (k := k) hap 6
        rw [if_pos hk] at hsum
        obtain ⟨a', n', de', c1, c2, c3, c4, c5⟩ := ih (soS τ sl k) (soP pl k) (updN a k (a k - 1)) (n + 1) (de - min (p * (100 - s) / 100) de) (fun j hj => by
          by_cases z : j = k
          · subst z
            refine ⟨?_, by rw [show updN a j (a j - 1) j = a j - 1 from if_pos rfl]; omega⟩
            rw [show soP pl j j = pl j - nI 1 from upd_s .., a6, show updN a j (a j - 1) j = a j - 1 from if_pos rfl]
            exact pk_sub hap
          · rw [show soP pl k j = pl j from upd_n _ _ z, show updN a k (a k - 1) j = a j from if_neg z]
            exact h1 j hj) (by rw [e2, pwS_n _ _ (by decide) (by decide) (by decide)]; exact b3) (by rw [e2, pwS_1, b1, pwP_n b1 h4 exb, pk_sub (by omega)]) (by omega)
        exact ⟨a', n', de', c1, c2, by omega, by omega, c5.trans (by rw [e2, pwS_n _ _ (by decide) (by decide) (by decide)]; exact b5)⟩
/-- how many would be sold, how much would be lost -/
theorem would {σ : Nat → Int32} (h : INV σ) {c de co : Nat} (hc : c < 8) (hde : σ (ix c 7) = nI de) (hd : de ≤ 1000000) (hco : σ (ix c 6) = nI co) (hc9 : co ≤ 99999) : ∃ n l, (sellsS σ c).2 = nI n ∧ (sellsS σ c).1 106 - σ 106 = nI l ∧ n ≤ nP σ c 6 ∧ l ≤ de ∧ (de ≤ co → n = 0 ∧ l = 0) := by
  obtain ⟨e3, e5⟩ := rq_35 h hc (fun _ => nI 0, (fun _ => nI 0, fun _ => nI 0))
  obtain ⟨hp, hcu, ho, hs, -, -⟩ := id h.1
  rw [← e3, ← e5]
  unfold rqS
  generalize hz : (fun _ => nI 0 : Nat → Int32) = z0
  show ∃ n l, rkE (rkS σ z0 z0 z0 c (nP σ c 6)).1 3 = nI n ∧ rkE (rkS σ z0 z0 z0 c (nP σ c 6)).1 5 = nI l ∧ _
  have r0 : rk0 σ z0 c 0 = nI co := by simp only [rk0]; rw [upd_n _ _ (by decide), upd_n _ _ (by decide), upd_n _ _ (by decide), upd_n _ _ (by decide), upd_n _ _ (by decide), upd_s, hco]
  have r1 : rk0 σ z0 c 1 = nI de := by simp only [rk0]; rw [upd_n _ _ (by decide), upd_n _ _ (by decide), upd_n _ _ (by decide), upd_n _ _ (by decide), upd_s, hde]
  have r2 : rk0 σ z0 c 2 = cvL σ c 6 := by simp only [rk0]; rw [upd_s]
  have r3 : rk0 σ z0 c 3 = nI 0 := by simp only [rk0]; rw [upd_n _ _ (by decide), upd_n _ _ (by decide), upd_n _ _ (by decide), upd_s]
  have r5 : rk0 σ z0 c 5 = nI 0 := by simp only [rk0]; rw [upd_n _ _ (by decide), upd_s]
  have u1 : upd (rk0 σ z0 c) 0 (nI 0) 1 = nI de := (upd_n _ _ (by decide)).trans r1
  have f0 : pfS (rk0 σ z0 c) 0 = nI (co - min co de) := by
    unfold pfS
    rw [r0, pwS_0, upd_s, pwP_n u1 hd hc9, pk_sub (by omega), nI_add, Nat.zero_add]
  have f1 : pfS (rk0 σ z0 c) 1 = nI (de - min co de) := by
    unfold pfS
    rw [r0, pwS_1, u1, pwP_n u1 hd hc9, pk_sub (by omega)]
  have f2 : pfS (rk0 σ z0 c) 2 = cvL σ c 6 := by
    unfold pfS; rw [pwS_n _ _ (by decide) (by decide) (by decide), upd_n _ _ (by decide), r2]
  have f3 : pfS (rk0 σ z0 c) 3 = nI 0 := by
    unfold pfS; rw [pwS_n _ _ (by decide) (by decide) (by decide), upd_n _ _ (by decide), r3]
  have f5 : pfS (rk0 σ z0 c) 5 = nI 0 := by
    unfold pfS; rw [pwS_n _ _ (by decide) (by decide) (by decide), upd_n _ _ (by decide), r5]
  have hna : ∀ k, k < 6 → layP σ c z0 6 k = nI ((σ (ix c k)).toNatClampNeg) ∧ (σ (ix c k)).toNatClampNeg ≤ 99 := fun k hk => by
    obtain ⟨a, a1, a2⟩ := pcs_of h hc hk
    rw [layP_at, if_pos hk, a2, nI_clamp (by omega)]
    exact ⟨rfl, a1⟩
  obtain ⟨a', n', de', c1, c2, c3, c4, c5⟩ := RK_loop (ks := layK σ z0 6) hp hs (nP σ c 6) (pfS (rk0 σ z0 c)) (layP σ c z0 6) (fun k => (σ (ix c k)).toNatClampNeg) 0 (de - min co de) hna f3 f1 (by omega)
  have hcov : de ≤ co → (rkS σ z0 z0 z0 c (nP σ c 6)).1 = pfS (rk0 σ z0 c) ∧ cvD (pfS (rk0 σ z0 c)) = true := fun hle => by
    have hv : cvD (pfS (rk0 σ z0 c)) = true := by
      obtain ⟨N, n1, n2⟩ := cvP_nat (pl := fun k => σ (ix c k)) hp hcu (fun k hk => pcs_of h hc hk) 6 (Nat.le_refl 6)
      unfold cvD
      rw [f0, f1, f2, cvL_P, n2, pk_div (by omega) (by omega) (by omega), nI_add]
      exact decide_eq_true (nI_le (by omega) (by omega))
    refine ⟨?_, hv⟩
    unfold rkS
    rw [rkW_cov (q := (pfS (rk0 σ z0 c), layP σ c z0 6)) hv]
  change (rkS σ z0 z0 z0 c (nP σ c 6)).1 3 = nI n' at c1
  change (rkS σ z0 z0 z0 c (nP σ c 6)).1 1 = nI de' at c2
  change (rkS σ z0 z0 z0 c (nP σ c 6)).1 5 = pfS (rk0 σ z0 c) 5 at c5
  rw [f5] at c5
  rw [Nat.zero_add, ← nP_sum] at c4
  have en : rkE (rkS σ z0 z0 z0 c (nP σ c 6)).1 3 = nI n' := by
    unfold rkE
    split
    · exact c1
    · rw [upd_n _ _ (by decide), upd_n _ _ (by decide)]; exact c1
  by_cases hle : de ≤ co
  · obtain ⟨q1, q2⟩ := hcov hle
    have e5 : rkE (rkS σ z0 z0 z0 c (nP σ c 6)).1 5 = nI 0 := by
      unfold rkE
      rw [q1, if_pos q2]; exact f5
    have e3 : rkE (rkS σ z0 z0 z0 c (nP σ c 6)).1 3 = nI 0 := by
      unfold rkE
      rw [q1, if_pos q2]; exact f3
    exact ⟨0, 0, e3, e5, Nat.zero_le _, Nat.zero_le _, fun _ => ⟨rfl, rfl⟩⟩
  · by_cases hv : cvD (rkS σ z0 z0 z0 c (nP σ c 6)).1 = true
    · refine ⟨n', 0, en, ?_, by omega, Nat.zero_le _, fun q => absurd q hle⟩
      unfold rkE
      rw [if_pos hv]; exact c5
    · refine ⟨n', de', en, ?_, by omega, by omega, fun q => absurd q hle⟩
      unfold rkE
      rw [if_neg hv, upd_n _ _ (by decide), upd_s]; exact c2
