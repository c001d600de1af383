/-! ===== class and reference: interest ===== -/
def RT (τ : Nat → Int32) : Prop := ∃ r, r ≤ 100 ∧ τ 98 = nI r
def itN (d r : Nat) : Nat := (d * r + 9999) / 10000
theorem lNt63 {n : Nat} (h : n < 2 ^ 63) : (lN n).toInt = (n : Int) := by
  rw [show lN n = Int64.ofNat n from rfl]
  exact Int64.toInt_ofNat_of_lt h
theorem lN_div {a b : Nat} (ha : a < 2 ^ 62) (hb : 0 < b) (hb2 : b < 2 ^ 62) : lN a / lN b = lN (a / b) := by
  have h1 : a / b < 2 ^ 62 := Nat.lt_of_le_of_lt (Nat.div_le_self _ _) ha
  apply Int64.toInt.inj
  rw [Int64.toInt_div, lNt63 (by omega), lNt63 (by omega), lNt63 (by omega), Int.tdiv_eq_ediv_of_nonneg (by omega)]
  rw [show ((a : Int) / (b : Int)) = ((a / b : Nat) : Int) from rfl]
  generalize a / b = q at h1 ⊢
  exact Int.bmod_eq_of_le (by omega) (by omega)
theorem lN_32 {n : Nat} (h : n < 2 ^ 31) : (lN n).toInt32 = nI n := by
  apply Int32.toInt.inj
  rw [Int64.toInt_toInt32, lNt63 (by omega), nI_toInt h]
  exact Int.bmod_eq_of_le (by omega) (by omega)
theorem nI_L {n : Nat} (h : n < 2 ^ 31) : (nI n).toInt64 = lN n := by
  apply Int64.toInt.inj
  rw [Int32.toInt_toInt64, nI_toInt h, lNt63 (by omega)]
theorem itN_le {d r : Nat} (hd : d ≤ 1000000) (hr : r ≤ 100) : d * r ≤ 100000000 := show d * r ≤ 1000000 * 100 from Nat.mul_le_mul hd hr
theorem intI_n {τ : Nat → Int32} {c d r : Nat} (hd : τ (ix c 7) = nI d) (hr : τ 98 = nI r) (h1 : d ≤ 1000000) (h2 : r ≤ 100) : intI τ c = nI (itN d r) := by
  have := itN_le h1 h2
  unfold intI itN
  rw [hd, hr, pk_mul, nI_add, pk_div (by omega) (by omega) (by omega)]
theorem intL_n {τ : Nat → Int32} {d r : Nat} (hr : τ 98 = nI r) (h1 : d ≤ 1000000) (h2 : r ≤ 100) : intL τ (nI d) = nI (itN d r) := by
  have := itN_le h1 h2
  unfold intL itN
  rw [hr, nI_L (by omega), nI_L (by omega), show lN d * lN r = lN (d * r) from (Int64.ofNat_mul _ _).symm, show lN (d * r) + lN 9999 = lN (d * r + 9999) from (Int64.ofNat_add _ _).symm, lN_div (by omega) (by decide) (by decide), lN_32 (by omega)]
theorem int_eq {τ : Nat → Int32} {c : Nat} (hr : RT τ) {d : Nat} (hd : d ≤ 1000000) (h : τ (ix c 7) = nI d) : intL τ (τ (ix c 7)) = intI τ c := by
  obtain ⟨r, r1, r2⟩ := hr
  rw [h, intL_n r2 hd r1, intI_n h r2 hd r1]
theorem hrN_t {σ : Nat → Int32} {i : Nat} (h104 : i ≠ 104) : ∀ n, (∀ c, c < n → i ≠ ix c 7) → hrN σ n i = σ i := by
  intro n
  induction n with
  | zero => intro _; rfl
  | succ n ih =>
    intro h
    simp only [hrN, hr1, hr0]
    rw [upd_n _ _ h104, upd_n _ _ (h n (by omega)), ih (fun c hc => h c (by omega))]
theorem hrN_7 {σ : Nat → Int32} : ∀ n c, c < n → n ≤ 8 → hrN σ n (ix c 7) = σ (ix c 7) + intI σ c := by
  intro n
  induction n with
  | zero => intro c hc; omega
  | succ n ih =>
    intro c hc hn
    simp only [hrN, hr1, hr0]
    by_cases z : c = n
    · subst z
      have e : ∀ i, i = ix c 7 ∨ i = 98 → hrN σ c i = σ i := fun i hi => hrN_t (by simp only [ix] at hi; omega) c (fun c' hc' => by simp only [ix] at hi ⊢; omega)
      rw [upd_n _ _ (by simp only [ix]; omega), upd_s, e _ (Or.inl rfl)]
      have e2 : intI (hrN σ c) c = intI σ c := by
        unfold intI
        rw [e _ (Or.inl rfl), e _ (Or.inr rfl)]
      rw [e2]
    · rw [upd_n _ _ (by simp only [ix]; omega), upd_n _ _ (by simp only [ix]; omega)]
      exact ih c (by omega) (by omega)
theorem hr_eq {σ : Nat → Int32} (hr : RT σ) (hd : ∀ c, c < 8 → ∃ d, d ≤ 1000000 ∧ σ (ix c 7) = nI d) : ∀ n, n ≤ 8 → hrLN σ n = hrN σ n := by
  intro n
  induction n with
  | zero => exact fun _ => rfl
  | succ n ih =>
    intro hn
    simp only [hrLN, hrN, hrL1, hrL0, hr1, hr0]
    rw [ih (by omega)]
    obtain ⟨d, d1, d2⟩ := hd n (by omega)
    have e7 : hrN σ n (ix n 7) = nI d := (hrN_t (by simp only [ix]; omega) n (fun c hc => by simp only [ix]; omega)).trans d2
    have e98 : RT (hrN σ n) := by
      obtain ⟨r, r1, r2⟩ := hr
      exact ⟨r, r1, (hrN_t (by decide) n (fun c hc => by simp only [ix]; omega)).trans r2⟩
    rw [int_eq e98 d1 e7]
/-- how far a debt may grow -/
def GG : Nat → Nat
  | 0 => 396999
  | n + 1 => GG n + (GG n * 100 + 9999) / 10000
theorem GG_26 : ∀ n, n < 27 → GG n ≤ 1000000 ∧ GG n ≤ GG (n + 1) := by decide +kernel
theorem GG_mono {a b : Nat} (h : a ≤ b) (hb : b < 27) : GG a ≤ GG b := by
  induction b with
  | zero => rw [show a = 0 by omega]; exact Nat.le_refl _
  | succ b ih =>
    by_cases z : a = b + 1
    · rw [z]; exact Nat.le_refl _
    · exact Nat.le_trans (ih (by omega) (by omega)) (GG_26 b (by omega)).2
theorem it_GG {d r n : Nat} (hd : d ≤ GG n) (hr : r ≤ 100) : d + itN d r ≤ GG (n + 1) := by
  have h : d * r ≤ GG n * 100 := Nat.mul_le_mul hd hr
  have : itN d r ≤ (GG n * 100 + 9999) / 10000 := Nat.div_le_div_right (by omega)
  show _ ≤ GG n + _
  omega
/-! ===== what holds of every state ===== -/
def GR (τ : Nat → Int32) : Prop := ∃ g, 1 ≤ g ∧ g ≤ 24 ∧ τ 99 = nI g
def GLB (τ : Nat → Int32) : Prop := PR τ ∧ CU τ ∧ OR3 τ ∧ SLP τ ∧ RT τ ∧ GR τ
theorem GLB_congr {σ τ : Nat → Int32} (h1 : ∀ i, i < 12 → τ i = σ i) (h2 : ∀ i, 98 ≤ i → i ≤ 101 → τ i = σ i) (h : GLB σ) : GLB τ := by
  obtain ⟨a, b, ⟨o, o1, o2⟩, ⟨s, s1, s2⟩, ⟨r, r1, r2⟩, ⟨g, g1, g2, g3⟩⟩ := h
  refine ⟨fun k hk => ?_, fun k hk => ?_, ⟨o, o1, (h2 _ (by omega) (by omega)).trans o2⟩, ⟨s, s1, (h2 _ (by omega) (by omega)).trans s2⟩, ⟨r, r1, (h2 _ (by omega) (by omega)).trans r2⟩, ⟨g, g1, g2, (h2 _ (by omega) (by omega)).trans g3⟩⟩
  · obtain ⟨p, p1, p2, p3⟩ := a k hk; exact ⟨p, p1, p2, (h1 _ (by omega)).trans p3⟩
  · obtain ⟨p, p1, p2⟩ := b k hk; exact ⟨p, p1, (h1 _ (by omega)).trans p2⟩
theorem cov_congr {σ τ : Nat → Int32} {c : Nat} {q l : Int32} (h1 : ∀ i, i < 12 → τ i = σ i) (h2 : ∀ w, w < 7 → τ (ix c w) = σ (ix c w)) : covI τ c q l = covI σ c q l := by
  have e : ∀ n, n ≤ 6 → covS τ c q l n = covS σ c q l n := by
    intro n
    induction n with
    | zero => exact fun _ => rfl
    | succ n ih =>
      intro hn
      simp only [covS]
      rw [ih (by omega), h2 n (by omega), h1 n (by omega), h1 (6 + n) (by omega)]
  unfold covI
  rw [e 6 (Nat.le_refl 6), h2 6 (by omega)]
theorem isC_cg {σ τ : Nat → Int32} {c : Nat} (h1 : ∀ i, i < 12 → τ i = σ i) (h2 : ∀ w, w < 8 → τ (ix c w) = σ (ix c w)) : isC τ c = isC σ c := by
  unfold isC
  rw [cov_congr h1 (fun w hw => h2 w (by omega)), h2 7 (by omega)]
theorem cov_P {σ : Nat → Int32} (hp : PR σ) (c : Nat) : ∀ n, n ≤ 6 → covS σ c (nI 0) (nI 1) n = cvP σ (fun k => σ (ix c k)) n := by
  intro n
  induction n with
  | zero => exact fun _ => rfl
  | succ n ih =>
    intro hn
    simp only [covS, cvP]
    rw [ih (by omega), pr_fal hp (by omega), Int32.mul_assoc]
    rfl
/-- what a client's things cover -/
theorem cov_nat {σ : Nat → Int32} {c : Nat} (hp : PR σ) (hc : CU σ) (h1 : ∀ k, k < 6 → ∃ a, a ≤ 99 ∧ σ (ix c k) = nI a) (h2 : ∃ co, co ≤ 99999 ∧ σ (ix c 6) = nI co) : ∃ N, N ≤ 396999 ∧ covI σ c (nI 0) (nI 1) = nI N := by
  obtain ⟨N, n1, n2⟩ := cvP_nat (pl := fun k => σ (ix c k)) hp hc h1 6 (Nat.le_refl 6)
  obtain ⟨co, c1, c2⟩ := h2
  refine ⟨co + N / 100, by omega, ?_⟩
  unfold covI
  rw [cov_P hp c 6 (Nat.le_refl 6), n2, c2, pk_div (by omega) (by omega) (by omega), nI_add]
theorem isC_nat {σ : Nat → Int32} {c N de : Nat} (h1 : covI σ c (nI 0) (nI 1) = nI N) (h2 : σ (ix c 7) = nI de) (hN : N ≤ 396999) (hd : de ≤ 1000000) : isC σ c = decide (de ≤ N) := by
  unfold isC
  rw [h1, h2]
  by_cases z : de ≤ N
  · rw [decide_eq_true z, decide_eq_true (nI_le z (by omega))]
  · rw [decide_eq_false z, decide_eq_false (nI_ge (by omega) (by omega))]
/-- pieces, coins, bar -/
def CB3 (σ : Nat → Int32) (c : Nat) : Prop := (∀ k, k < 6 → ∃ a, a ≤ 99 ∧ σ (ix c k) = nI a) ∧ (∃ co, co ≤ 99999 ∧ σ (ix c 6) = nI co) ∧ (σ (ix c 9) = 0 ∨ σ (ix c 9) = 1)
/-- ahead of a look: hours and debt; e: an hour's interest more -/
def CLP (σ : Nat → Int32) (c e : Nat) : Prop := CB3 σ c ∧ ∃ h de, h ≤ 24 ∧ σ (ix c 8) = nI h ∧ σ (ix c 7) = nI de ∧ (h = 0 → de ≤ GG 1) ∧ (1 ≤ h → de ≤ GG (25 - h + e))
/-- behind a look -/
def CLQ (σ : Nat → Int32) (c e : Nat) : Prop := CB3 σ c ∧ ∃ h de, h ≤ 24 ∧ σ (ix c 8) = nI h ∧ σ (ix c 7) = nI de ∧ ((h = 0 ∧ isC σ c = true ∧ de ≤ 396999) ∨ (1 ≤ h ∧ isC σ c = false ∧ de ≤ GG (25 - h + e)))
abbrev CLI (σ : Nat → Int32) (c : Nat) : Prop := CLQ σ c 0
def INV (σ : Nat → Int32) : Prop := GLB σ ∧ ∀ c, c < 8 → CLI σ c
theorem CB3_congr {σ τ : Nat → Int32} {c : Nat} (h : ∀ w, w < 10 → τ (ix c w) = σ (ix c w)) (hB : CB3 σ c) : CB3 τ c := by
  obtain ⟨a, ⟨co, b1, b2⟩, d⟩ := hB
  refine ⟨fun k hk => ?_, ⟨co, b1, (h 6 (by omega)).trans b2⟩, ?_⟩
  · obtain ⟨x, x1, x2⟩ := a k hk; exact ⟨x, x1, (h k (by omega)).trans x2⟩
  · rw [h 9 (by omega)]; exact d
theorem CLQ_congr {σ τ : Nat → Int32} {c e : Nat} (h1 : ∀ i, i < 12 → τ i = σ i) (h : ∀ w, w < 10 → τ (ix c w) = σ (ix c w)) (hC : CLQ σ c e) : CLQ τ c e := by
  obtain ⟨hB, hh, de, a1, a2, a3, a4⟩ := hC
  refine ⟨CB3_congr h hB, hh, de, a1, (h 8 (by omega)).trans a2, (h 7 (by omega)).trans a3, ?_⟩
  rw [isC_cg h1 (fun w hw => h w (by omega))]
  exact a4
theorem CLP_congr {σ τ : Nat → Int32} {c e : Nat} (h : ∀ w, w < 10 → τ (ix c w) = σ (ix c w)) (hC : CLP σ c e) : CLP τ c e := by
  obtain ⟨hB, hh, de, a1, a2, a3, a4⟩ := hC
  exact ⟨CB3_congr h hB, hh, de, a1, (h 8 (by omega)).trans a2, (h 7 (by omega)).trans a3, a4⟩
theorem CLQ_P {σ : Nat → Int32} {c e : Nat} (h : CLQ σ c e) : CLP σ c e := by
  obtain ⟨hB, hh, de, a1, a2, a3, a4⟩ := h
  refine ⟨hB, hh, de, a1, a2, a3, fun q => ?_, fun q => ?_⟩
  · rcases a4 with ⟨-, -, z⟩ | ⟨z, -⟩
    · exact Nat.le_trans z (by decide)
    · omega
  · rcases a4 with ⟨z, -⟩ | ⟨-, -, z⟩
    · omega
    · exact z
theorem GG_b {h e : Nat} (hh : h ≤ 24) (h1 : 1 ≤ h) (he : e ≤ 1) : GG (25 - h + e) ≤ 1000000 := (GG_26 _ (by omega)).1
theorem isK_nat {σ : Nat → Int32} {c h : Nat} (h2 : σ (ix c 8) = nI h) (hh : h ≤ 24) : isK σ c = decide (1 ≤ h) := by
  unfold isK
  rw [h2]
  by_cases z : 1 ≤ h
  · rw [decide_eq_true z, decide_eq_true (nI_lt (by omega) (by omega))]
  · rw [decide_eq_false z, decide_eq_false (nI_nlt (by omega) (by omega))]
/-- a look -/
theorem look_8 {σ : Nat → Int32} : ∀ n, n ≤ 8 → (∀ c, c < n → lookN σ n (ix c 8) = if isC σ c = true then nI 0 else if isK σ c = true then σ (ix c 8) else σ 99) ∧ (∀ i, i ≠ 107 → (∀ c, c < n → i ≠ ix c 8) → lookN σ n i = σ i) := by
  intro n
  induction n with
  | zero => exact fun _ => ⟨fun c h => by omega, fun i _ _ => rfl⟩
  | succ n ih =>
    intro hn
    obtain ⟨a, b⟩ := ih (by omega)
    have hC : isC (lookN σ n) n = isC σ n := isC_cg (fun i hi => b i (by omega) (fun c hc => by simp only [ix]; omega)) (fun w hw => b _ (by simp only [ix]; omega) (fun c hc => by simp only [ix]; omega))
    have h8 : lookN σ n (ix n 8) = σ (ix n 8) := b _ (by simp only [ix]; omega) (fun c hc => by simp only [ix]; omega)
    have hK : isK (lookN σ n) n = isK σ n := by unfold isK; rw [h8]
    have h99 : lookN σ n 99 = σ 99 := b _ (by decide) (fun c hc => by simp only [ix]; omega)
    have e : ∀ i, lookN σ (n + 1) i = if i = ix n 8 then (if isC σ n = true then nI 0 else if isK σ n = true then σ (ix n 8) else σ 99) else if i = 107 then lookN σ (n + 1) 107 else lookN σ n i := by
      intro i
      simp only [lookN, look1]
      rw [hC, hK, h8, h99]
      by_cases z : i = ix n 8
      · subst z
        rw [if_pos rfl]
        cases isC σ n <;> cases isK σ n <;> simp [upd]
      · rw [if_neg z]
        by_cases y : i = 107
        · rw [if_pos y, y]
        · rw [if_neg y]
          cases isC σ n <;> cases isK σ n <;> simp [upd, z, y]
    refine ⟨fun c hc => ?_, fun i h1 h2 => ?_⟩
    · rw [e]
      by_cases z : c = n
      · subst z; rw [if_pos rfl]
      · rw [if_neg (by simp only [ix]; omega), if_neg (by simp only [ix]; omega)]
        exact a c (by omega)
    · rw [e, if_neg (h2 n (by omega)), if_neg h1]
      exact b i h1 (fun c hc => h2 c (by omega))
theorem look_lo {σ : Nat → Int32} {i : Nat} (h : i < 12) : lookN σ 8 i = σ i := (look_8 8 (Nat.le_refl 8)).2 i (by omega) (fun c _ => by simp only [ix]; omega)
theorem look_w {σ : Nat → Int32} {c w : Nat} (hc : c < 8) (hw : w < 10) (h8 : w ≠ 8) : lookN σ 8 (ix c w) = σ (ix c w) := (look_8 8 (Nat.le_refl 8)).2 _ (by simp only [ix]; omega) (fun c' _ => by simp only [ix]; omega)
theorem look_hi {σ : Nat → Int32} {i : Nat} (h : 98 ≤ i) (h7 : i ≠ 107) : lookN σ 8 i = σ i := (look_8 8 (Nat.le_refl 8)).2 i h7 (fun c hc => by simp only [ix]; omega)
theorem look_C {σ : Nat → Int32} {c : Nat} (hc : c < 8) : isC (lookN σ 8) c = isC σ c := isC_cg (fun i hi => look_lo hi) (fun w hw => look_w hc (by omega) (by omega))
theorem GLB_look {σ : Nat → Int32} (h : GLB σ) : GLB (lookN σ 8) := GLB_congr (fun i hi => look_lo hi) (fun i h1 h2 => look_hi h1 (by omega)) h
theorem CB3_look {σ : Nat → Int32} {c : Nat} (hc : c < 8) (h : CB3 σ c) : CB3 (lookN σ 8) c := by
  obtain ⟨a, ⟨co, b1, b2⟩, d⟩ := h
  refine ⟨fun k hk => ?_, ⟨co, b1, (look_w hc (by omega) (by omega)).trans b2⟩, ?_⟩
  · obtain ⟨x, x1, x2⟩ := a k hk; exact ⟨x, x1, (look_w hc (by omega) (by omega)).trans x2⟩
  · rw [look_w hc (by omega) (by omega)]; exact d
/-- a look settles -/
theorem look_Q {σ : Nat → Int32} (hG : GLB σ) {c e : Nat} (hc : c < 8) (he : e ≤ 1) (h : CLP σ c e) : CLQ (lookN σ 8) c (if isK σ c = true then e else 0) := by
  obtain ⟨hB, hh, de, a1, a2, a3, a4, a5⟩ := h
  obtain ⟨N, n1, n2⟩ := cov_nat hG.1 hG.2.1 hB.1 hB.2.1
  have hde : de ≤ 1000000 := by
    rcases Nat.eq_zero_or_pos hh with z | z
    · exact Nat.le_trans (a4 z) (by decide)
    · exact Nat.le_trans (a5 z) (GG_b a1 z he)
  have hC := isC_nat n2 a3 n1 hde
  have hK := isK_nat a2 a1
  have h8 := (look_8 (σ := σ) 8 (Nat.le_refl 8)).1 c hc
  have h7 : lookN σ 8 (ix c 7) = nI de := (look_w hc (by omega) (by omega)).trans a3
  refine ⟨CB3_look hc hB, ?_⟩
  rw [look_C hc]
  by_cases z : de ≤ N
  · rw [decide_eq_true z] at hC
    rw [hC, if_pos rfl] at h8
    exact ⟨0, de, by omega, h8, h7, Or.inl ⟨rfl, hC, by omega⟩⟩
  · rw [decide_eq_false z] at hC
    rw [hC, if_neg (by decide)] at h8
    by_cases y : 1 ≤ hh
    · rw [decide_eq_true y] at hK
      rw [hK, if_pos rfl, a2] at h8
      rw [hK, if_pos rfl]
      exact ⟨hh, de, a1, h8, h7, Or.inr ⟨y, hC, a5 y⟩⟩
    · rw [decide_eq_false y] at hK
      obtain ⟨g, g1, g2, g3⟩ := hG.2.2.2.2.2
      rw [hK, if_neg (by decide), g3] at h8
      rw [hK, if_neg (by decide)]
      exact ⟨g, de, g2, h8, h7, Or.inr ⟨g1, hC, Nat.le_trans (a4 (by omega)) (GG_mono (by omega) (by omega))⟩⟩
theorem look_INV {σ : Nat → Int32} (hG : GLB σ) (h : ∀ c, c < 8 → CLP σ c 0) : INV (lookN σ 8) := ⟨GLB_look hG, fun c hc => by
  have q := look_Q hG hc (by omega) (h c hc)
  rw [show (if isK σ c = true then 0 else 0) = 0 by split <;> rfl] at q
  exact q⟩
