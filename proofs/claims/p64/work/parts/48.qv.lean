/-! ===== class and reference: falls, hours, shares ===== -/
/-- cover of the pieces in hundredths, as a number -/
def cvN9 (σ : Nat → Int32) (c q l : Nat) : Nat → Nat
  | 0 => 0
  | n + 1 => cvN9 σ c q l n + (σ (ix c n)).toNatClampNeg * (if (σ n).toNatClampNeg * (100 - q) / 100 < l then l else (σ n).toNatClampNeg * (100 - q) / 100) * (100 - (σ (6 + n)).toNatClampNeg)
theorem covS_n {σ : Nat → Int32} (h : INV σ) {c q l : Nat} (hc : c < 8) (hq : q ≤ 100) (hl : l ≤ 1) : ∀ n, n ≤ 6 → covS σ c (nI q) (nI l) n = nI (cvN9 σ c q l n) ∧ cvN9 σ c q l n ≤ n * 4950000 := by
  intro n
  induction n with
  | zero => exact fun _ => ⟨rfl, Nat.le_refl _⟩
  | succ n ih =>
    intro hn
    obtain ⟨i1, i2⟩ := ih (by omega)
    obtain ⟨p, p1, p2, p3⟩ := h.1.1 n (by omega)
    obtain ⟨u, u1, u2⟩ := h.1.2.1 n (by omega)
    obtain ⟨a, a1, a2⟩ := pcs_of h hc (show n < 6 by omega)
    have hf := fal_le (p := p) (q := q) p2
    simp only [covS, cvN9]
    rw [i1, a2, p3, u2, falI_n p2 hq, nI_clamp (by omega), nI_clamp (by omega), nI_clamp (by omega)]
    have e : (if nI (p * (100 - q) / 100) < nI l then nI l else nI (p * (100 - q) / 100)) = nI (if p * (100 - q) / 100 < l then l else p * (100 - q) / 100) := by
      by_cases z : p * (100 - q) / 100 < l
      · rw [if_pos z, if_pos (nI_lt z (by omega))]
      · rw [if_neg z, if_neg (nI_nlt (by omega) (by omega))]
    have hx : (if p * (100 - q) / 100 < l then l else p * (100 - q) / 100) ≤ 500 := by split <;> omega
    rw [e]
    generalize (if p * (100 - q) / 100 < l then l else p * (100 - q) / 100) = x at hx ⊢
    rw [pk_mul, pk_sub (by omega), pk_mul, nI_add]
    have : a * x * (100 - u) ≤ 99 * 500 * 100 := Nat.mul_le_mul (Nat.mul_le_mul a1 hx) (by omega)
    exact ⟨rfl, by omega⟩
theorem covI_n {σ : Nat → Int32} (h : INV σ) {c q l : Nat} (hc : c < 8) (hq : q ≤ 100) (hl : l ≤ 1) : ∃ co, co ≤ 99999 ∧ σ (ix c 6) = nI co ∧ covI σ c (nI q) (nI l) = nI (co + cvN9 σ c q l 6 / 100) ∧ co + cvN9 σ c q l 6 / 100 ≤ 396999 := by
  obtain ⟨e1, e2⟩ := covS_n h hc hq hl 6 (Nat.le_refl 6)
  obtain ⟨co, c1, c2⟩ := coi_of h hc
  refine ⟨co, c1, c2, ?_, by omega⟩
  unfold covI
  rw [e1, c2, pk_div (by omega) (by omega) (by omega), nI_add]
theorem stC_n {σ : Nat → Int32} (h : INV σ) {c q : Nat} (hc : c < 8) (hq : q ≤ 100) : ∃ co de, σ (ix c 6) = nI co ∧ co ≤ 99999 ∧ σ (ix c 7) = nI de ∧ de ≤ 1000000 ∧ stC σ c (nI q) (nI 0) = decide (de ≤ co + cvN9 σ c q 0 6 / 100) := by
  obtain ⟨co, c1, c2, c3, c4⟩ := covI_n h hc hq (show (0 : Nat) ≤ 1 by omega)
  obtain ⟨de, d1, d2⟩ := deb_of h hc
  refine ⟨co, de, c2, c1, d2, d1, ?_⟩
  unfold stC
  rw [c3, d2]
  exact decide_eq_decide.mpr (nI_leI (by omega) (by omega))
theorem cvN9_anti (σ : Nat → Int32) (c : Nat) {q q' : Nat} (h : q ≤ q') : ∀ n, cvN9 σ c q' 0 n ≤ cvN9 σ c q 0 n := by
  intro n
  induction n with
  | zero => exact Nat.le_refl _
  | succ n ih =>
    simp only [cvN9]
    rw [if_neg (Nat.not_lt_zero _), if_neg (Nat.not_lt_zero _)]
    refine Nat.add_le_add ih (Nat.mul_le_mul_right _ (Nat.mul_le_mul_left _ (Nat.div_le_div_right (Nat.mul_le_mul_left _ (by omega)))))
theorem stC_anti {σ : Nat → Int32} (h : INV σ) {c q q' : Nat} (hc : c < 8) (hq : q ≤ q') (hq' : q' ≤ 100) (ht : stC σ c (nI q') (nI 0) = true) : stC σ c (nI q) (nI 0) = true := by
  obtain ⟨co, de, e1, e2, e3, e4, e5⟩ := stC_n h hc hq'
  obtain ⟨co', de', f1, f2, f3, f4, f5⟩ := stC_n h hc (show q ≤ 100 by omega)
  have hco : co = co' := (nI_eq (by omega) (by omega)).mp (e1.symm.trans f1)
  have hde : de = de' := (nI_eq (by omega) (by omega)).mp (e3.symm.trans f3)
  subst hco; subst hde
  rw [e5] at ht
  have := of_decide_eq_true ht
  have h2 : cvN9 σ c q' 0 6 / 100 ≤ cvN9 σ c q 0 6 / 100 := Nat.div_le_div_right (cvN9_anti σ c hq 6)
  rw [f5]
  exact decide_eq_true (by omega)
theorem cov_00 {σ : Nat → Int32} (h : INV σ) (c : Nat) : ∀ n, n ≤ 6 → covS σ c (nI 0) (nI 0) n = covS σ c (nI 0) (nI 1) n := by
  intro n
  induction n with
  | zero => exact fun _ => rfl
  | succ n ih =>
    intro hn
    obtain ⟨p, p1, p2, p3⟩ := h.1.1 n (by omega)
    simp only [covS]
    rw [ih (by omega), p3, fal_0 p (by omega), if_neg (nI_nlt (by omega) (by omega)), if_neg (nI_nlt (by omega) (by omega))]
theorem stC_0 {σ : Nat → Int32} (h : INV σ) {c : Nat} : stC σ c (nI 0) (nI 0) = isC σ c := by
  unfold stC isC covI
  rw [cov_00 h c 6 (Nat.le_refl 6)]
/-- who isn't called is covered -/
theorem unc_cov {σ : Nat → Int32} (h : INV σ) {c : Nat} (hc : c < 8) (hk : isK σ c = false) : isC σ c = true := by
  obtain ⟨-, hh, de, a1, a2, a3, a4⟩ := h.2 c hc
  rw [isK_nat a2 a1] at hk
  have := of_decide_eq_false hk
  rcases a4 with ⟨-, z, -⟩ | ⟨z, -⟩
  · exact z
  · omega
theorem try_fal (σ : Nat → Int32) (c : Nat) : ∀ f p, tryF σ c f p = falF σ c f p := by
  intro f
  induction f with
  | zero => exact fun _ => rfl
  | succ f ih =>
    intro p
    simp only [tryF, falF]
    rw [ih]
    cases z : stC σ c (nI p) (nI 0)
    · rw [if_neg (by decide), if_pos (stC_f z)]
    · rw [if_pos rfl, if_neg (stC_t z)]
theorem tryS_f (σ : Nat → Int32) (c : Nat) : tryS σ c = falS σ c := by
  unfold tryS falS
  rw [try_fal]
theorem falF_m {σ : Nat → Int32} {c m : Nat} (hm : stC σ c (nI m) (nI 0) = false) : ∀ f p, p ≤ m → m < p + f → (∀ k, p ≤ k → k < m → stC σ c (nI k) (nI 0) = true) → falF σ c f p = nI m := by
  intro f
  induction f with
  | zero => intro p h1 h2; omega
  | succ f ih =>
    intro p h1 h2 h3
    simp only [falF]
    by_cases z : p = m
    · subst z; rw [if_pos (stC_f hm)]
    · rw [if_neg (stC_t (h3 p (Nat.le_refl p) (by omega)))]
      exact ih (p + 1) (by omega) (by omega) (fun k k1 k2 => h3 k (by omega) k2)
theorem falF_no {σ : Nat → Int32} {c : Nat} : ∀ f p, (∀ k, p ≤ k → k < p + f → stC σ c (nI k) (nI 0) = true) → falF σ c f p = -1 := by
  intro f
  induction f with
  | zero => exact fun _ _ => rfl
  | succ f ih =>
    intro p h3
    simp only [falF]
    rw [if_neg (stC_t (h3 p (Nat.le_refl p) (by omega)))]
    exact ih (p + 1) (fun k k1 k2 => h3 k (by omega) (by omega))
theorem hlv_ok {τ : Nat → Int32} {c : Nat} : ∀ f a b, a < b → b - a ≤ f → stC τ c (nI a) (nI 0) = true → stC τ c (nI b) (nI 0) = false → ∃ m, hlvF τ c f a b = m + 1 ∧ a ≤ m ∧ m + 1 ≤ b ∧ stC τ c (nI (m + 1)) (nI 0) = false ∧ stC τ c (nI m) (nI 0) = true := by
  intro f
  induction f with
  | zero => intro a b h1 h2; omega
  | succ f ih =>
    intro a b h1 h2 h3 h4
    simp only [hlvF]
    by_cases z : b - a ≤ 1
    · rw [if_pos z]
      have hb : b = a + 1 := by omega
      subst hb
      exact ⟨a, rfl, Nat.le_refl _, Nat.le_refl _, h4, h3⟩
    · rw [if_neg z]
      cases y : stC τ c (nI ((a + b) / 2)) (nI 0)
      · rw [if_neg (by decide)]
        obtain ⟨m, m1, m2, m3, m4, m5⟩ := ih a ((a + b) / 2) (by omega) (by omega) h3 y
        exact ⟨m, m1, m2, by omega, m4, m5⟩
      · rw [if_pos rfl]
        obtain ⟨m, m1, m2, m3, m4, m5⟩ := ih ((a + b) / 2) b (by omega) (by omega) y h4
        exact ⟨m, m1, by omega, m3, m4, m5⟩
theorem hlvS_f {σ : Nat → Int32} (h : INV σ) {c : Nat} (hc : c < 8) : hlvS σ c = falS σ c := by
  unfold hlvS falS
  cases hk : isK σ c
  · rw [if_neg (show ¬ false = true by decide), if_neg (show ¬ false = true by decide)]
    have h0 : stC σ c (nI 0) (nI 0) = true := by rw [stC_0 h]; exact unc_cov h hc hk
    cases z : stC σ c (nI 100) (nI 0)
    · rw [if_neg (show ¬ false = true by decide)]
      obtain ⟨m, m1, m2, m3, m4, m5⟩ := hlv_ok (τ := σ) (c := c) 100 0 100 (by omega) (by omega) h0 z
      rw [m1]
      exact (falF_m m4 100 1 (by omega) (by omega) (fun k k1 k2 => stC_anti h hc (by omega) (by omega) m5)).symm
    · rw [if_pos rfl]
      exact (falF_no 100 1 (fun k k1 k2 => stC_anti h hc (by omega) (Nat.le_refl _) z)).symm
  · rw [if_pos rfl, if_pos rfl]
theorem falS_q {σ : Nat → Int32} {c : Nat} : falS σ c = -1 ∨ ∃ p, p ≤ 100 ∧ falS σ c = nI p := by
  have key : ∀ f p, falF σ c f p = -1 ∨ ∃ r, r ≤ p + f ∧ r < p + f ∧ falF σ c f p = nI r := by
    intro f
    induction f with
    | zero => exact fun _ => Or.inl rfl
    | succ f ih =>
      intro p
      simp only [falF]
      split
      · exact Or.inr ⟨p, by omega, by omega, rfl⟩
      · rcases ih (p + 1) with z | ⟨r, r1, r2, r3⟩
        · exact Or.inl z
        · exact Or.inr ⟨r, by omega, by omega, r3⟩
  unfold falS
  split
  · exact Or.inr ⟨0, by omega, rfl⟩
  · rcases key 100 1 with z | ⟨r, r1, r2, r3⟩
    · exact Or.inl z
    · exact Or.inr ⟨r, by omega, r3⟩
/-! hours to a call -/
theorem intD_L {σ : Nat → Int32} (h : INV σ) {d : Nat} (hd : d ≤ 1000000) : ∃ r, r ≤ 100 ∧ intL σ (nI d) = nI (itN d r) ∧ intD σ (nI d) = nI (itN d r) := by
  obtain ⟨r, r1, r2⟩ := h.1.2.2.2.2.1
  refine ⟨r, r1, intL_n r2 hd r1, ?_⟩
  have := itN_le hd r1
  unfold intD itN
  rw [r2, pk_mul, nI_add, pk_div (by omega) (by omega) (by omega)]
theorem huc_ht {σ : Nat → Int32} (h : INV σ) {N : Nat} (hN : N ≤ 396999) : ∀ f d n, d ≤ N → ∀ r, htF σ (nI N) f (nI d + intD σ (nI d)) n = r → hucF σ (nI N) f (nI d) n = if r < n + f then nI r else -1 := by
  intro f
  induction f with
  | zero =>
    intro d n hd r hr
    have hr : n = r := hr
    subst hr
    rw [if_neg (by omega)]
    rfl
  | succ f ih =>
    intro d n hd r hr
    obtain ⟨q, q1, q2, q3⟩ := intD_L h (show d ≤ 1000000 by omega)
    have hi : itN d q ≤ d := by
      unfold itN
      have : d * q ≤ d * 100 := Nat.mul_le_mul_left _ q1
      omega
    simp only [hucF]
    simp only [htF] at hr
    rw [q3, nI_add] at hr
    rw [q2, nI_add]
    by_cases z : N < d + itN d q
    · rw [if_pos (nI_lt z (by omega))] at hr
      subst hr
      rw [if_pos (nI_lt z (by omega)), if_pos (by omega)]
    · rw [if_neg (nI_nlt (by omega) (by omega))] at hr
      rw [if_neg (nI_nlt (by omega) (by omega)), ih (d + itN d q) (n + 1) (by omega) r hr, show n + 1 + f = n + (f + 1) by omega]
theorem huc_S {σ : Nat → Int32} (h : INV σ) {c : Nat} (hc : c < 8) (hk : isK σ c = false) : hucS σ c = if htS σ c < 1000 then nI (htS σ c) else -1 := by
  obtain ⟨N, n1, n2⟩ := cov_of h hc
  obtain ⟨de, d1, d2⟩ := deb_of h hc
  have hC := unc_cov h hc hk
  rw [isC_nat n2 d2 n1 d1] at hC
  have hle := of_decide_eq_true hC
  unfold hucS htS
  rw [hk, if_neg (show ¬ false = true by decide), n2, d2, huc_ht h n1 999 de 1 hle _ rfl]
  have e : htF σ (nI N) 1000 (nI de) 0 = htF σ (nI N) 999 (nI de + intD σ (nI de)) 1 := by
    show (if nI N < nI de then 0 else htF σ (nI N) 999 (nI de + intD σ (nI de)) (0 + 1)) = _
    rw [if_neg (nI_nlt hle (by omega))]
  rw [e]
theorem hucK {σ : Nat → Int32} {c : Nat} (hk : isK σ c = true) : hucS σ c = nI 0 := by
  unfold hucS
  rw [hk, if_pos rfl]
/-! room, bars, shares -/
theorem rom_eq {σ : Nat → Int32} (h : INV σ) {c : Nat} (hc : c < 8) : opnS σ c = romS σ c := by
  unfold opnS romS
  have e : (¬ σ (ix c 9) = 0 ∨ romD σ c < 0) ↔ (romD σ c < 0 ∨ σ (ix c 9) = nI 1) := by
    rcases bar_of h c hc with z | z
    · rw [z]
      exact ⟨fun q => q.elim (fun a => absurd rfl a) Or.inl, fun q => q.elim Or.inr (fun a => absurd a (by decide))⟩
    · rw [z]
      exact ⟨fun _ => Or.inr rfl, fun _ => Or.inl (by decide)⟩
  by_cases z : romD σ c < 0 ∨ σ (ix c 9) = nI 1
  · rw [if_pos z, if_pos (e.mpr z)]
  · rw [if_neg z, if_neg (fun q => z (e.mp q))]
theorem bar_bI {σ : Nat → Int32} (h : INV σ) {c : Nat} (hc : c < 8) : σ (ix c 9) = bI (decide (σ (ix c 9) = nI 1)) := by
  rcases bar_of h c hc with z | z
  · rw [z]; decide
  · rw [z]; decide
theorem dbS_n {σ : Nat → Int32} (h : INV σ) : ∀ n, n ≤ 8 → ∃ D, D ≤ n * 1000000 ∧ dbS σ n = nI D := by
  intro n
  induction n with
  | zero => exact fun _ => ⟨0, Nat.le_refl _, rfl⟩
  | succ n ih =>
    intro hn
    obtain ⟨D, D1, D2⟩ := ih (by omega)
    obtain ⟨d, d1, d2⟩ := deb_of h (show n < 8 by omega)
    refine ⟨D + d, by omega, ?_⟩
    simp only [dbS]
    rw [D2, d2, nI_add]
theorem cvS_n {σ : Nat → Int32} (h : INV σ) : ∀ n, n ≤ 8 → ∃ D, D ≤ n * 396999 ∧ cvS σ n = nI D := by
  intro n
  induction n with
  | zero => exact fun _ => ⟨0, Nat.le_refl _, rfl⟩
  | succ n ih =>
    intro hn
    obtain ⟨D, D1, D2⟩ := ih (by omega)
    obtain ⟨d, d1, d2⟩ := cov_of h (show n < 8 by omega)
    refine ⟨D + d, by omega, ?_⟩
    simp only [cvS]
    rw [D2, d2, nI_add]
/-! the digest -/
theorem rq_35 {σ : Nat → Int32} (h : INV σ) {c : Nat} (hc : c < 8) (q : SL3) : (rqS σ q c).1 3 = (sellsS σ c).2 ∧ (rqS σ q c).1 5 = (sellsS σ c).1 106 - σ 106 := by
  obtain ⟨hp, hcu, ho, hs, -, -⟩ := id h.1
  obtain ⟨de, d1, d2⟩ := deb_of h hc
  have hC : CL σ c := ⟨(h.2 c hc).1.1, (h.2 c hc).1.2.1, de, d1, d2⟩
  have s := sale_all hc hp hcu ho hs hC q.1 q.2.1 q.2.2
  unfold rqS
  exact ⟨s.2.1, s.2.2.1⟩
theorem hp_8 (σ : Nat → Int32) (c : Nat) (x : Int64) : hpF σ c x 8 = mx (mx (hpF σ c x 6) (σ (ix c 6)).toInt64) (σ (ix c 7)).toInt64 := rfl
theorem ho_C {σ : Nat → Int32} (h : INV σ) {c : Nat} (hc : c < 8) (q : SL3) (x : Int64) : hoS σ q (hpS σ x c) c = drC σ x c := by
  obtain ⟨e3, e5⟩ := rq_35 h hc q
  have e8 := hp_8 σ c x
  unfold hoS drC hpS
  rw [e3, e5, rpl_same h hc 8 (Nat.le_refl 8), tryS_f, hlvS_f h hc, rom_eq h hc, e8]
  generalize hpF σ c x 6 = y
  generalize (sellsS σ c).2 = a1
  generalize (sellsS σ c).1 106 - σ 106 = a2
  generalize falS σ c + nI 1 = a3
  generalize rnkS σ c 8 = a4
  generalize bI (isK σ c) = a5
  generalize romS σ c = a6
  generalize covI σ c (nI 0) (nI 1) = a7
  generalize worS σ c 6 = a8
  generalize σ (ix c 6) = b1
  generalize σ (ix c 7) = b2
  generalize σ (ix c 8) = b3
  generalize σ (ix c 9) = b4
  simp only [mxL, List.foldl]
theorem dg_N {σ : Nat → Int32} (h : INV σ) (q : SL3) : ∀ n, n ≤ 8 → (dgS σ q n).2 = drN σ n := by
  intro n
  induction n with
  | zero => exact fun _ => rfl
  | succ n ih =>
    intro hn
    show hoS σ (dgS σ q n).1 (hpS σ (dgS σ q n).2 n) n = drC σ (drN σ n) n
    rw [ho_C h (by omega), ih (by omega)]
theorem dg_P {σ : Nat → Int32} (h : INV σ) (ρ : Nat → Nat) (x : Int64) : ∀ n, n ≤ 8 → dgR σ ρ x n = drP σ x n := by
  intro n
  induction n with
  | zero => exact fun _ => rfl
  | succ n ih =>
    intro hn
    simp only [dgR, drP]
    rw [ih (by omega)]
    have e1 := rky_srt h ρ (show n < 8 by omega)
    have e2 := rky_tk h (show n < 8 by omega)
    rw [← e1, ← e2]
theorem hsC_eq {cs bu : Nat → Int32} (x : Int64) : ∀ n, (∀ k, k < n → cs k = bu k) → hsC cs x n = hsC bu x n := by
  intro n
  induction n with
  | zero => exact fun _ => rfl
  | succ n ih =>
    intro h
    simp only [hsC]
    rw [ih (fun k hk => h k (by omega)), h n (by omega)]
theorem rgF_4 (σ : Nat → Int32) (h : Int64) : rgF σ 98 h 4 = mxL h [σ 98, σ 99, σ 100, σ 101] := rfl
theorem rgF_6 (σ : Nat → Int32) (h : Int64) : rgF σ 103 h 6 = mxL h [σ 103, σ 104, σ 105, σ 106, σ 107, σ 108] := rfl
theorem dig_eq {σ : Nat → Int32} (h : INV σ) (q : SL3) (ρ : Nat → Nat) (n : Nat) (B : Int64) {sf cs ik bu : Nat → Int32} {ℓ : Nat} (h1 : ∀ k, k < ℓ → cs k = bu k) (h2 : ∀ s, s < 2 → sf s = ik s) : digS σ q ρ n B sf cs ℓ = drD σ n B ik bu ℓ := by
  unfold digS drD hsS
  rw [hsC_eq _ ℓ h1, dg_N h q 8 (Nat.le_refl 8), dg_P h ρ _ 8 (Nat.le_refl 8)]
  unfold haS hrS drA
  simp only [hsF]
  rw [h2 0 (by omega), h2 1 (by omega), rgF_4, rgF_6]
  generalize drP σ (drN σ 8) 8 = y
  generalize allS σ 8 = a1
  generalize ifFS σ (nI 10) 8 = a2
  generalize ifFS σ (nI 50) 8 = a3
  generalize dbS σ 8 = a4
  simp only [mxL, List.foldl]
