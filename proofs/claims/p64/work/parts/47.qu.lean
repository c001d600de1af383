/-! ===== class and reference: risk ===== -/
theorem lsub_0 {x y : Nat} (hx : x < 2 ^ 62) (hy : y < 2 ^ 62) : (lN x - lN y < lN 0 ↔ x < y) ∧ (lN x - lN y = lN 0 ↔ x = y) := by
  have e : (lN x - lN y).toInt = (x : Int) - y := by
    rw [Int64.toInt_sub, lNt63 (by omega), lNt63 (by omega)]
    exact Int.bmod_eq_of_le (by omega) (by omega)
  have z : (lN 0).toInt = 0 := rfl
  refine ⟨?_, ?_⟩
  · rw [Int64.lt_iff_toInt_lt, e, z]; omega
  · rw [← Int64.toInt_inj, e, z]; omega
/-- who is riskier, by numbers: debts d, covers v -/
def rkN (d v : Nat → Nat) (a b : Nat) : Bool := if d a = 0 ∨ d b = 0 then decide (0 < d a) || (decide (d b = 0) && decide (a < b)) else decide (v a * d b < v b * d a) || (decide (v a * d b = v b * d a) && decide (a < b))
theorem rkN_ir (d v : Nat → Nat) (a : Nat) : rkN d v a a = false := by
  unfold rkN
  by_cases h : d a = 0
  · simp [h]
  · simp [h]
theorem rkN_to {d v : Nat → Nat} {a b : Nat} (h : a ≠ b) (h2 : rkN d v a b = false) : rkN d v b a = true := by
  unfold rkN at h2 ⊢
  by_cases hz : d a = 0 ∨ d b = 0
  · rw [if_pos hz] at h2
    rw [if_pos hz.symm]
    simp only [Bool.or_eq_false_iff, Bool.and_eq_false_iff, decide_eq_false_iff_not, Bool.or_eq_true, Bool.and_eq_true, decide_eq_true_eq] at h2 ⊢
    omega
  · rw [if_neg hz] at h2
    rw [if_neg (fun q => hz q.symm)]
    simp only [Bool.or_eq_false_iff, Bool.and_eq_false_iff, decide_eq_false_iff_not, Bool.or_eq_true, Bool.and_eq_true, decide_eq_true_eq] at h2 ⊢
    generalize v a * d b = x at h2 ⊢
    generalize v b * d a = y at h2 ⊢
    omega
theorem rkN_1 {d v : Nat → Nat} {a b : Nat} (ha : 0 < d a) (hb : 0 < d b) : rkN d v a b = true ↔ (v a * d b < v b * d a ∨ (v a * d b = v b * d a ∧ a < b)) := by
  unfold rkN
  rw [if_neg (by omega)]
  simp only [Bool.or_eq_true, Bool.and_eq_true, decide_eq_true_eq]
theorem rkN_0 {d v : Nat → Nat} {a b : Nat} (h : d a = 0 ∨ d b = 0) : rkN d v a b = true ↔ (0 < d a ∨ (d b = 0 ∧ a < b)) := by
  unfold rkN
  rw [if_pos h]
  simp only [Bool.or_eq_true, Bool.and_eq_true, decide_eq_true_eq]
theorem rkN_tr {d v : Nat → Nat} {a b c : Nat} (h1 : rkN d v a b = true) (h2 : rkN d v b c = true) : rkN d v a c = true := by
  by_cases ha : d a = 0
  · rw [rkN_0 (Or.inl ha)] at h1
    have hb : d b = 0 := by omega
    rw [rkN_0 (Or.inl hb)] at h2
    rw [rkN_0 (Or.inl ha)]
    omega
  · by_cases hc : d c = 0
    · rw [rkN_0 (Or.inr hc)]; omega
    · by_cases hb : d b = 0
      · rw [rkN_0 (Or.inl hb)] at h2; omega
      · rw [rkN_1 (by omega) (by omega)] at h1 h2 ⊢
        have hdb : 0 < d b := by omega
        have hda : 0 < d a := by omega
        have hdc : 0 < d c := by omega
        have e1 : v a * d c * d b = v a * d b * d c := by rw [Nat.mul_assoc, Nat.mul_comm (d c), ← Nat.mul_assoc]
        have e2 : v b * d a * d c = v b * d c * d a := by rw [Nat.mul_assoc, Nat.mul_comm (d a), ← Nat.mul_assoc]
        have e3 : v c * d a * d b = v c * d b * d a := by rw [Nat.mul_assoc, Nat.mul_comm (d a), ← Nat.mul_assoc]
        rcases h1 with h1 | ⟨h1, l1⟩
        · have k1 : v a * d b * d c < v b * d a * d c := Nat.mul_lt_mul_of_pos_right h1 hdc
          have k2 : v b * d c * d a ≤ v c * d b * d a := Nat.mul_le_mul_right _ (by omega)
          left
          apply Nat.lt_of_mul_lt_mul_right (a := d b)
          omega
        · have k1 : v a * d b * d c = v b * d a * d c := by rw [h1]
          rcases h2 with h2 | ⟨h2, l2⟩
          · have k2 : v b * d c * d a < v c * d b * d a := Nat.mul_lt_mul_of_pos_right h2 hda
            left
            apply Nat.lt_of_mul_lt_mul_right (a := d b)
            omega
          · have k2 : v b * d c * d a = v c * d b * d a := by rw [h2]
            right
            exact ⟨Nat.eq_of_mul_eq_mul_right hdb (by omega), by omega⟩
/-- debts and covers, as numbers -/
def dN9 (σ : Nat → Int32) (a : Nat) : Nat := (σ (ix a 7)).toNatClampNeg
def vN9 (σ : Nat → Int32) (a : Nat) : Nat := (covI σ a (nI 0) (nI 1)).toNatClampNeg
theorem dN_of {σ : Nat → Int32} (h : INV σ) {a : Nat} (ha : a < 8) : σ (ix a 7) = nI (dN9 σ a) ∧ dN9 σ a ≤ 1000000 := by
  obtain ⟨x, x1, x2⟩ := deb_of h ha
  unfold dN9
  rw [x2, nI_clamp (by omega)]
  exact ⟨rfl, x1⟩
theorem vN_of {σ : Nat → Int32} (h : INV σ) {a : Nat} (ha : a < 8) : covI σ a (nI 0) (nI 1) = nI (vN9 σ a) ∧ vN9 σ a ≤ 396999 := by
  obtain ⟨x, x1, x2⟩ := cov_of h ha
  unfold vN9
  rw [x2, nI_clamp (by omega)]
  exact ⟨rfl, x1⟩
theorem vd_le {σ : Nat → Int32} (h : INV σ) {a b : Nat} (ha : a < 8) (hb : b < 8) : vN9 σ a * dN9 σ b < 2 ^ 62 := by
  have : vN9 σ a * dN9 σ b ≤ 396999 * 1000000 := Nat.mul_le_mul (vN_of h ha).2 (dN_of h hb).2
  omega
theorem vd_L {σ : Nat → Int32} (h : INV σ) {a b : Nat} (ha : a < 8) (hb : b < 8) : (covI σ a (nI 0) (nI 1)).toInt64 * (σ (ix b 7)).toInt64 = lN (vN9 σ a * dN9 σ b) := by
  obtain ⟨e1, e2⟩ := vN_of h ha
  obtain ⟨e3, e4⟩ := dN_of h hb
  rw [e1, e3, nI_L (by omega), nI_L (by omega), lN_mul]
theorem d0_iff {σ : Nat → Int32} (h : INV σ) {a : Nat} (ha : a < 8) : σ (ix a 7) = 0 ↔ dN9 σ a = 0 := by
  obtain ⟨e3, e4⟩ := dN_of h ha
  rw [e3, show (0 : Int32) = nI 0 from rfl, nI_eq (by omega) (by omega)]
theorem dp_iff {σ : Nat → Int32} (h : INV σ) {a : Nat} (ha : a < 8) : 0 < σ (ix a 7) ↔ 0 < dN9 σ a := by
  obtain ⟨e3, e4⟩ := dN_of h ha
  rw [e3, show (0 : Int32) = nI 0 from rfl, nI_ltI (by omega) (by omega)]
theorem rsk_N {σ : Nat → Int32} (h : INV σ) {a b : Nat} (ha : a < 8) (hb : b < 8) : rsk σ a b = rkN (dN9 σ) (vN9 σ) a b := by
  unfold rsk rkN
  have zz : (σ (ix a 7) = 0 ∨ σ (ix b 7) = 0) ↔ (dN9 σ a = 0 ∨ dN9 σ b = 0) := or_congr (d0_iff h ha) (d0_iff h hb)
  by_cases z : dN9 σ a = 0 ∨ dN9 σ b = 0
  · rw [if_pos (zz.mpr z), if_pos z]
    unfold rsk0
    rw [decide_eq_decide.mpr (dp_iff h ha), decide_eq_decide.mpr (d0_iff h hb)]
  · rw [if_neg (fun q => z (zz.mp q)), if_neg z]
    unfold rsk1 rskD
    rw [vd_L h ha hb, vd_L h hb ha]
    obtain ⟨l1, l2⟩ := lsub_0 (vd_le h ha hb) (vd_le h hb ha)
    rw [decide_eq_decide.mpr ((lg_cmp_lt _ _).trans l1), decide_eq_decide.mpr ((lg_cmp_eq _ _).trans l2)]
theorem rkC_N {σ : Nat → Int32} (h : INV σ) {a b : Nat} (ha : a < 8) (hb : b < 8) : rkC σ a b = rkN (dN9 σ) (vN9 σ) a b := by
  unfold rkC rkN
  have zz : (σ (ix a 7) = 0 ∨ σ (ix b 7) = 0) ↔ (dN9 σ a = 0 ∨ dN9 σ b = 0) := or_congr (d0_iff h ha) (d0_iff h hb)
  by_cases z : dN9 σ a = 0 ∨ dN9 σ b = 0
  · rw [if_pos (zz.mpr z), if_pos z]
    unfold rkC0
    obtain ⟨e1, e2⟩ := dN_of h ha
    obtain ⟨e3, e4⟩ := dN_of h hb
    rw [decide_eq_decide.mpr (dp_iff h ha)]
    by_cases y : dN9 σ a = dN9 σ b
    · rw [if_pos (by rw [e1, e3, y])]
      rw [decide_eq_false (p := 0 < dN9 σ a) (by omega), decide_eq_true (p := dN9 σ b = 0) (by omega), Bool.false_or, Bool.true_and]
    · rw [if_neg (by rw [e1, e3, nI_eq (by omega) (by omega)]; exact y)]
      by_cases x : dN9 σ a = 0
      · rw [decide_eq_false (p := 0 < dN9 σ a) (by omega), decide_eq_false (p := dN9 σ b = 0) (by omega)]; rfl
      · rw [decide_eq_true (p := 0 < dN9 σ a) (by omega), Bool.true_or]
  · rw [if_neg (fun q => z (zz.mp q)), if_neg z]
    unfold rkC1 rkL
    rw [vd_L h ha hb, vd_L h hb ha]
    have l1 : lg_cmp (lN (vN9 σ a * dN9 σ b)) (lN (vN9 σ b * dN9 σ a)) < 0 ↔ vN9 σ a * dN9 σ b < vN9 σ b * dN9 σ a := (lg_cmp_lt _ _).trans (pk_lLT (by have := vd_le h ha hb; omega) (by have := vd_le h hb ha; omega))
    have l2 : lg_cmp (lN (vN9 σ a * dN9 σ b)) (lN (vN9 σ b * dN9 σ a)) = 0 ↔ vN9 σ a * dN9 σ b = vN9 σ b * dN9 σ a := (lg_cmp_eq _ _).trans (pk_lEQ (by have := vd_le h ha hb; omega) (by have := vd_le h hb ha; omega))
    by_cases y : vN9 σ a * dN9 σ b = vN9 σ b * dN9 σ a
    · rw [if_pos (l2.mpr y), decide_eq_false (p := vN9 σ a * dN9 σ b < vN9 σ b * dN9 σ a) (by omega), decide_eq_true y, Bool.false_or, Bool.true_and]
    · rw [if_neg (fun q => y (l2.mp q)), decide_eq_decide.mpr l1, decide_eq_false y, Bool.false_and, Bool.or_false]
theorem rk_same {σ : Nat → Int32} (h : INV σ) {a b : Nat} (ha : a < 8) (hb : b < 8) : rkC σ a b = rsk σ a b := (rkC_N h ha hb).trans (rsk_N h ha hb).symm
/-- how many come ahead -/
def cntB (P : Nat → Bool) : Nat → Nat
  | 0 => 0
  | n + 1 => cntB P n + (if P n = true then 1 else 0)
theorem cnt_le {P Q : Nat → Bool} : ∀ n, (∀ k, k < n → P k = true → Q k = true) → cntB P n ≤ cntB Q n := by
  intro n
  induction n with
  | zero => exact fun _ => Nat.le_refl _
  | succ n ih =>
    intro h
    simp only [cntB]
    have := ih (fun k hk => h k (by omega))
    by_cases z : P n = true
    · rw [if_pos z, if_pos (h n (by omega) z)]; omega
    · rw [if_neg z]; omega
theorem cnt_lt {P Q : Nat → Bool} : ∀ n, (∀ k, k < n → P k = true → Q k = true) → (∃ a, a < n ∧ P a = false ∧ Q a = true) → cntB P n < cntB Q n := by
  intro n
  induction n with
  | zero => intro _ ⟨a, h, _⟩; omega
  | succ n ih =>
    intro h ⟨a, h1, h2, h3⟩
    simp only [cntB]
    by_cases y : a = n
    · subst y
      have := cnt_le a (fun k hk => h k (by omega))
      rw [if_neg (by rw [h2]; decide), if_pos h3]; omega
    · have := ih (fun k hk => h k (by omega)) ⟨a, by omega, h2, h3⟩
      by_cases z : P n = true
      · rw [if_pos z, if_pos (h n (by omega) z)]; omega
      · rw [if_neg z]; omega
theorem cnt_n {P : Nat → Bool} : ∀ n, cntB P n ≤ n := by
  intro n
  induction n with
  | zero => exact Nat.le_refl _
  | succ n ih => simp only [cntB]; split <;> omega
/-- the place of a client -/
def plN (d v : Nat → Nat) (c : Nat) : Nat := cntB (fun n => rkN d v n c) 8
theorem pl_lt {d v : Nat → Nat} {a b : Nat} (ha : a < 8) (h : rkN d v a b = true) : plN d v a < plN d v b := cnt_lt 8 (fun k _ hk => rkN_tr hk h) ⟨a, ha, rkN_ir d v a, h⟩
theorem pl_iff {d v : Nat → Nat} {a b : Nat} (ha : a < 8) (hb : b < 8) : rkN d v a b = true ↔ plN d v a < plN d v b := by
  refine ⟨pl_lt ha, fun q => ?_⟩
  cases hr : rkN d v a b
  · by_cases z : a = b
    · subst z; omega
    · have := pl_lt hb (rkN_to z hr); omega
  · rfl
theorem pl_inj {d v : Nat → Nat} {a b : Nat} (ha : a < 8) (hb : b < 8) (h : plN d v a = plN d v b) : a = b := by
  by_cases z : a = b
  · exact z
  · exfalso
    cases hr : rkN d v a b
    · have := pl_lt hb (rkN_to z hr); omega
    · have := pl_lt ha hr; omega
theorem pl_8 {d v : Nat → Nat} {c : Nat} (hc : c < 8) : plN d v c < 8 := by
  have h : plN d v c < cntB (fun _ => true) 8 := cnt_lt 8 (fun _ _ _ => rfl) ⟨c, hc, rkN_ir d v c, rfl⟩
  exact h
theorem rnk_N {σ : Nat → Int32} (h : INV σ) {c : Nat} (hc : c < 8) : ∀ n, n ≤ 8 → rnkS σ c n = nI (cntB (fun n => rkN (dN9 σ) (vN9 σ) n c) n) := by
  intro n
  induction n with
  | zero => exact fun _ => rfl
  | succ n ih =>
    intro hn
    simp only [rnkS, cntB]
    rw [ih (by omega), rsk_N h (by omega) hc]
    by_cases z : n = c
    · subst z
      rw [decide_eq_true rfl, if_neg (by rw [rkN_ir]; decide), show bI (!true && rkN (dN9 σ) (vN9 σ) n n) = nI 0 from rfl, nI_add]
    · rw [decide_eq_false z, show (!false) = true from rfl, Bool.true_and]
      by_cases y : rkN (dN9 σ) (vN9 σ) n c = true
      · rw [if_pos y, y, show bI true = nI 1 from rfl, nI_add]
      · rw [if_neg y, (Bool.eq_false_iff.mpr y : rkN (dN9 σ) (vN9 σ) n c = false), show bI false = nI 0 from rfl, nI_add]
theorem rnk_8 {σ : Nat → Int32} (h : INV σ) {c : Nat} (hc : c < 8) : rnkS σ c 8 = nI (plN (dN9 σ) (vN9 σ) c) := rnk_N h hc 8 (Nat.le_refl 8)
theorem rpl_same {σ : Nat → Int32} (h : INV σ) {c : Nat} (hc : c < 8) : ∀ n, n ≤ 8 → rplS σ c n = rnkS σ c n := by
  intro n
  induction n with
  | zero => exact fun _ => rfl
  | succ n ih =>
    intro hn
    simp only [rplS, rnkS]
    rw [ih (by omega), rk_same h (by omega) hc]
/-! sorted -/
def SrtP (d v : Nat → Nat) (r : Nat → Nat) (n : Nat) : Prop := (∀ i, i < n → r i < n) ∧ ∀ i j, i < j → j < n → plN d v (r i) < plN d v (r j)
/-- on the way of an insertion: c belongs at q or below -/
theorem ins_ok {σ : Nat → Int32} (h : INV σ) {c : Nat} (hc : c < 8) : ∀ (q : Nat) (r : Nat → Nat), q ≤ c → (∀ i, i ≤ c → i ≠ q → r i < c) → (∀ i j, i < j → j ≤ c → i ≠ q → j ≠ q → plN (dN9 σ) (vN9 σ) (r i) < plN (dN9 σ) (vN9 σ) (r j)) → (∀ i, q < i → i ≤ c → plN (dN9 σ) (vN9 σ) c < plN (dN9 σ) (vN9 σ) (r i)) → SrtP (dN9 σ) (vN9 σ) (insF σ c q r) (c + 1) := by
  intro q
  induction q with
  | zero =>
    intro r hq h1 h2 h3
    simp only [insF]
    refine ⟨fun i hi => ?_, fun i j hij hj => ?_⟩
    · unfold updN
      split
      · omega
      · next z => have := h1 i (by omega) z; omega
    · unfold updN
      rw [if_neg (show ¬ j = 0 by omega)]
      by_cases z : i = 0
      · rw [if_pos z]; exact h3 j (by omega) (by omega)
      · rw [if_neg z]; exact h2 i j hij (by omega) z (by omega)
  | succ q ih =>
    intro r hq h1 h2 h3
    have hrq : r q < c := h1 q (by omega) (by omega)
    simp only [insF]
    by_cases hk : rkC σ c (r q) = true
    · rw [if_pos hk]
      rw [rkC_N h hc (by omega), pl_iff hc (by omega)] at hk
      refine ih _ (by omega) (fun i hi z => ?_) (fun i j hij hj z1 z2 => ?_) (fun i hi hi2 => ?_)
      · unfold updN
        split
        · exact hrq
        · next z2 => exact h1 i hi z2
      · unfold updN
        by_cases y1 : i = q + 1
        · rw [if_pos y1, if_neg (by omega)]; exact h2 q j (by omega) hj (by omega) (by omega)
        · rw [if_neg y1]
          by_cases y2 : j = q + 1
          · rw [if_pos y2]; exact h2 i q (by omega) (by omega) y1 (by omega)
          · rw [if_neg y2]; exact h2 i j hij hj y1 y2
      · unfold updN
        by_cases y1 : i = q + 1
        · rw [if_pos y1]; exact hk
        · rw [if_neg y1]; exact h3 i (by omega) hi2
    · rw [if_neg hk]
      have hk2 : plN (dN9 σ) (vN9 σ) (r q) < plN (dN9 σ) (vN9 σ) c := by
        rw [rkC_N h hc (by omega)] at hk
        have hk' : rkN (dN9 σ) (vN9 σ) c (r q) = false := by
          cases hb : rkN (dN9 σ) (vN9 σ) c (r q)
          · rfl
          · exact absurd hb hk
        exact pl_lt (by omega) (rkN_to (by omega) hk')
      have hlo : ∀ i, i ≤ q → plN (dN9 σ) (vN9 σ) (r i) < plN (dN9 σ) (vN9 σ) c := fun i hi => by
        by_cases y : i = q
        · rw [y]; exact hk2
        · have := h2 i q (by omega) (by omega) (by omega) (by omega); omega
      refine ⟨fun i hi => ?_, fun i j hij hj => ?_⟩
      · unfold updN
        split
        · omega
        · next z => have := h1 i (by omega) z; omega
      · unfold updN
        by_cases y1 : i = q + 1
        · rw [if_pos y1, if_neg (by omega)]; exact h3 j (by omega) (by omega)
        · rw [if_neg y1]
          by_cases y2 : j = q + 1
          · rw [if_pos y2]; exact hlo i (by omega)
          · rw [if_neg y2]; exact h2 i j hij (by omega) y1 y2
theorem srt_ok {σ : Nat → Int32} (h : INV σ) (ρ : Nat → Nat) : ∀ n, n ≤ 8 → SrtP (dN9 σ) (vN9 σ) (srtN σ ρ n) n := by
  intro n
  induction n with
  | zero => exact fun _ => ⟨fun i hi => by omega, fun i j hij hj => by omega⟩
  | succ n ih =>
    intro hn
    obtain ⟨a, b⟩ := ih (by omega)
    simp only [srtN]
    exact ins_ok h (by omega) n _ (Nat.le_refl n) (fun i hi z => a i (by omega)) (fun i j hij hj z1 z2 => b i j hij (by omega)) (fun i h1 h2 => by omega)
/-- the one at a place -/
theorem srt_pl {σ : Nat → Int32} (h : INV σ) (ρ : Nat → Nat) {i : Nat} (hi : i < 8) : srtN σ ρ 8 i < 8 ∧ plN (dN9 σ) (vN9 σ) (srtN σ ρ 8 i) = i := by
  obtain ⟨a, b⟩ := srt_ok h ρ 8 (Nat.le_refl 8)
  refine ⟨a i hi, ?_⟩
  have up : ∀ k, k < 8 → k ≤ plN (dN9 σ) (vN9 σ) (srtN σ ρ 8 k) := by
    intro k
    induction k with
    | zero => exact fun _ => Nat.zero_le _
    | succ k ih => intro hk; have := ih (by omega); have := b k (k + 1) (by omega) hk; omega
  have dn : ∀ k, k < 8 → plN (dN9 σ) (vN9 σ) (srtN σ ρ 8 (7 - k)) ≤ 7 - k := by
    intro k
    induction k with
    | zero => intro _; have := pl_8 (d := dN9 σ) (v := vN9 σ) (a 7 (by omega)); simp only [Nat.sub_zero]; omega
    | succ k ih => intro hk; have := ih (by omega); have := b (7 - (k + 1)) (7 - k) (by omega) (by omega); omega
  have h1 := up i hi
  have h2 := dn (7 - i) (by omega)
  rw [show 7 - (7 - i) = i by omega] at h2
  omega
theorem rky_at {σ : Nat → Int32} (h : INV σ) {c p : Nat} (hc : c < 8) (hp : plN (dN9 σ) (vN9 σ) c = p) : ∀ n, n ≤ 8 → c < n → rkyS σ (nI p) n = nI c := by
  intro n
  induction n with
  | zero => intro _ hc; omega
  | succ n ih =>
    intro hn hcn
    simp only [rkyS]
    have hpl : plN (dN9 σ) (vN9 σ) n < 8 := pl_8 (by omega)
    have hplc : plN (dN9 σ) (vN9 σ) c < 8 := pl_8 hc
    rw [rnk_8 h (by omega)]
    by_cases z : plN (dN9 σ) (vN9 σ) n = p
    · rw [if_pos (by rw [z]), pl_inj (by omega) hc (z.trans hp.symm)]
    · rw [if_neg (fun q => z ((nI_eq (by omega) (by omega)).mp q))]
      exact ih (by omega) (by
        by_cases y : c = n
        · subst y; exact absurd hp z
        · omega)
theorem rky_srt {σ : Nat → Int32} (h : INV σ) (ρ : Nat → Nat) {i : Nat} (hi : i < 8) : rkyS σ (nI i) 8 = nI (srtN σ ρ 8 i) := by
  obtain ⟨a, b⟩ := srt_pl h ρ hi
  exact rky_at h a b 8 (Nat.le_refl 8) a
/-! taken -/
theorem rb_min {σ : Nat → Int32} (h : INV σ) {b : Nat → Bool} : ∀ n, n ≤ 8 → (rbF σ b n = none → ∀ k, k < n → b k = true) ∧ (∀ o, rbF σ b n = some o → o < n ∧ b o = false ∧ ∀ k, k < n → b k = false → plN (dN9 σ) (vN9 σ) o ≤ plN (dN9 σ) (vN9 σ) k) := by
  intro n
  induction n with
  | zero => exact fun _ => ⟨fun _ k hk => by omega, fun o ho => by cases ho⟩
  | succ n ih =>
    intro hn
    obtain ⟨i1, i2⟩ := ih (by omega)
    cases hb : b n
    · cases hs : rbF σ b n with
      | none =>
        rw [rb_first hb hs]
        refine ⟨fun q => (by cases q), fun o ho => ?_⟩
        cases ho
        refine ⟨by omega, hb, fun k hk hk2 => ?_⟩
        by_cases z : k = n
        · rw [z]; exact Nat.le_refl _
        · rw [i1 hs k (by omega)] at hk2; cases hk2
      | some o =>
        obtain ⟨o1, o2, o3⟩ := i2 o hs
        cases hr : rkC σ n o
        · rw [rb_less hs hr]
          refine ⟨fun q => (by cases q), fun o' ho => ?_⟩
          cases ho
          refine ⟨by omega, o2, fun k hk hk2 => ?_⟩
          by_cases z : k = n
          · subst z
            rw [rkC_N h (by omega) (by omega)] at hr
            exact Nat.le_of_lt (pl_lt (by omega) (rkN_to (by omega) hr))
          · exact o3 k (by omega) hk2
        · rw [rb_more hb hs hr]
          refine ⟨fun q => (by cases q), fun o' ho => ?_⟩
          cases ho
          rw [rkC_N h (by omega) (by omega), pl_iff (by omega) (by omega)] at hr
          refine ⟨by omega, hb, fun k hk hk2 => ?_⟩
          by_cases z : k = n
          · subst z; exact Nat.le_refl _
          · have := o3 k (by omega) hk2; omega
    · rw [rb_not hb]
      refine ⟨fun q k hk => ?_, fun o ho => ?_⟩
      · by_cases z : k = n
        · subst z; exact hb
        · exact i1 q k (by omega)
      · obtain ⟨o1, o2, o3⟩ := i2 o ho
        refine ⟨by omega, o2, fun k hk hk2 => ?_⟩
        by_cases z : k = n
        · subst z; rw [hb] at hk2; cases hk2
        · exact o3 k (by omega) hk2
theorem tk_ok {σ : Nat → Int32} (h : INV σ) (ρ : Nat → Nat) : ∀ t, t ≤ 8 → (∀ k, k < 8 → (tkN σ t).1 k = decide (plN (dN9 σ) (vN9 σ) k < t)) ∧ (∀ s, t = s + 1 → (tkN σ t).2 = srtN σ ρ 8 s) := by
  intro t
  induction t with
  | zero => exact fun _ => ⟨fun k hk => rfl, fun s hs => by omega⟩
  | succ t ih =>
    intro ht
    obtain ⟨i1, -⟩ := ih (by omega)
    obtain ⟨s1, s2⟩ := srt_pl h ρ (show t < 8 by omega)
    have hrb : rbS σ (tkN σ t).1 = srtN σ ρ 8 t := by
      obtain ⟨m1, m2⟩ := rb_min h (b := (tkN σ t).1) 8 (Nat.le_refl 8)
      have hf : (tkN σ t).1 (srtN σ ρ 8 t) = false := by rw [i1 _ s1, s2]; exact decide_eq_false (by omega)
      unfold rbS
      cases hs : rbF σ (tkN σ t).1 8 with
      | none => rw [m1 hs _ s1] at hf; cases hf
      | some o =>
        obtain ⟨o1, o2, o3⟩ := m2 o hs
        have l1 := o3 _ s1 hf
        rw [i1 o o1] at o2
        have l2 := of_decide_eq_false o2
        show o = srtN σ ρ 8 t
        exact pl_inj (d := dN9 σ) (v := vN9 σ) o1 s1 (by omega)
    refine ⟨fun k hk => ?_, fun s hs => ?_⟩
    · show setB (tkN σ t).1 (rbS σ (tkN σ t).1) k = _
      unfold setB
      rw [hrb, i1 k hk]
      by_cases z : k = srtN σ ρ 8 t
      · rw [decide_eq_true z, Bool.or_true, z, s2, decide_eq_true (by omega)]
      · have : plN (dN9 σ) (vN9 σ) k ≠ t := fun q => z (pl_inj hk s1 (q.trans s2.symm))
        rw [decide_eq_false z, Bool.or_false]
        exact decide_eq_decide.mpr (by omega)
    · cases hs
      exact hrb
theorem rky_tk {σ : Nat → Int32} (h : INV σ) {i : Nat} (hi : i < 8) : rkyS σ (nI i) 8 = nI (tkN σ (i + 1)).2 := by
  rw [(tk_ok h (fun _ => 0) (i + 1) (by omega)).2 i rfl]
  exact rky_srt h _ hi
