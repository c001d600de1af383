/-! ===== class and reference: the changes keep what holds ===== -/
theorem inB_lh {v : Int32} {lo hi : Nat} (hh : hi < 2 ^ 31) (hl : lo ≤ hi) (h : inB v (nI lo) (nI hi) = true) : ∃ n, lo ≤ n ∧ n ≤ hi ∧ v = nI n := by
  unfold inB at h
  rw [Bool.and_eq_true, decide_eq_true_eq, decide_eq_true_eq] at h
  obtain ⟨h1, h2⟩ := h
  have h0 : ¬ v < 0 := Int32.not_lt.mpr (Int32.le_trans (nI_pos' (by omega)) h1)
  obtain ⟨j, hj, rfl⟩ := nI_of h0
  exact ⟨j, (nI_leI (by omega) hj).mp h1, (nI_leI hj hh).mp h2, rfl⟩
theorem CLP_oth {σ τ : Nat → Int32} {c : Nat} (h : INV σ) (hc : c < 8) (e : ∀ w, w < 10 → τ (ix c w) = σ (ix c w)) : CLP τ c 0 := CLP_congr e (CLQ_P (h.2 c hc))
theorem chg_INV {σ τ : Nat → Int32} (h : INV σ) (hG : GLB τ) {c : Nat} (ho : ∀ c' w, c' < 8 → w < 10 → c' ≠ c → τ (ix c' w) = σ (ix c' w)) (hC : CLP τ c 0) : INV (lookN τ 8) := look_INV hG (fun c' hc' => by
  by_cases z : c' = c
  · subst z; exact hC
  · exact CLP_oth h hc' (fun w hw => ho c' w hc' hw z))
theorem glb_INV {σ τ : Nat → Int32} (h : INV σ) (hG : GLB τ) (ho : ∀ c' w, c' < 8 → w < 10 → τ (ix c' w) = σ (ix c' w)) : INV (lookN τ 8) := look_INV hG (fun c' hc' => CLP_oth h hc' (fun w hw => ho c' w hc' hw))
theorem set_price {σ : Nat → Int32} (h : INV σ) {k p : Nat} (hk : k < 6) (p1 : 1 ≤ p) (p2 : p ≤ 500) : INV (lookN (upd σ k (nI p)) 8) := by
  obtain ⟨⟨hp, hcu, ho, hs, hr, hg⟩, -⟩ := id h
  have e : ∀ i, i ≠ k → upd σ k (nI p) i = σ i := fun i hi => upd_n _ _ hi
  refine glb_INV h ⟨fun j hj => ?_, fun j hj => ?_, ?_, ?_, ?_, ?_⟩ (fun c w hc hw => e _ (by simp only [ix]; omega))
  · by_cases z : j = k
    · subst z; exact ⟨p, p1, p2, upd_s _ _ _⟩
    · obtain ⟨a, a1, a2, a3⟩ := hp j hj; exact ⟨a, a1, a2, (e j z).trans a3⟩
  · obtain ⟨a, a1, a2⟩ := hcu j hj; exact ⟨a, a1, (e _ (by omega)).trans a2⟩
  · obtain ⟨a, a1, a2⟩ := ho; exact ⟨a, a1, (e _ (by omega)).trans a2⟩
  · obtain ⟨a, a1, a2⟩ := hs; exact ⟨a, a1, (e _ (by omega)).trans a2⟩
  · obtain ⟨a, a1, a2⟩ := hr; exact ⟨a, a1, (e _ (by omega)).trans a2⟩
  · obtain ⟨a, a0, a1, a2⟩ := hg; exact ⟨a, a0, a1, (e _ (by omega)).trans a2⟩
theorem set_cut {σ : Nat → Int32} (h : INV σ) {k p : Nat} (hk : k < 6) (p2 : p ≤ 90) : INV (lookN (upd σ (6 + k) (nI p)) 8) := by
  obtain ⟨⟨hp, hcu, ho, hs, hr, hg⟩, -⟩ := id h
  have e : ∀ i, i ≠ 6 + k → upd σ (6 + k) (nI p) i = σ i := fun i hi => upd_n _ _ hi
  refine glb_INV h ⟨fun j hj => ?_, fun j hj => ?_, ?_, ?_, ?_, ?_⟩ (fun c w hc hw => e _ (by simp only [ix]; omega))
  · obtain ⟨a, a1, a2, a3⟩ := hp j hj; exact ⟨a, a1, a2, (e j (by omega)).trans a3⟩
  · by_cases z : j = k
    · subst z; exact ⟨p, p2, upd_s _ _ _⟩
    · obtain ⟨a, a1, a2⟩ := hcu j hj; exact ⟨a, a1, (e _ (by omega)).trans a2⟩
  · obtain ⟨a, a1, a2⟩ := ho; exact ⟨a, a1, (e _ (by omega)).trans a2⟩
  · obtain ⟨a, a1, a2⟩ := hs; exact ⟨a, a1, (e _ (by omega)).trans a2⟩
  · obtain ⟨a, a1, a2⟩ := hr; exact ⟨a, a1, (e _ (by omega)).trans a2⟩
  · obtain ⟨a, a0, a1, a2⟩ := hg; exact ⟨a, a0, a1, (e _ (by omega)).trans a2⟩
theorem drpN_in {τ : Nat → Int32} {q : Int32} : ∀ n k, k < n → drpN τ q n k = fal3 (τ k) q (nI 1) := by
  intro n
  induction n with
  | zero => intro k h; omega
  | succ n ih =>
    intro k h
    simp only [drpN]
    by_cases z : k = n
    · subst z; rw [upd_s, drpN_at (Nat.le_refl k)]
    · rw [upd_n _ _ z]; exact ih k (by omega)
theorem falI_n {p q : Nat} (hp : p ≤ 500) (hq : q ≤ 100) : falI (nI p) (nI q) = nI (p * (100 - q) / 100) := by
  have : p * (100 - q) ≤ 500 * 100 := Nat.mul_le_mul hp (by omega)
  unfold falI
  rw [pk_sub hq, pk_mul, pk_div (by omega) (by omega) (by omega)]
theorem fal_le {p q : Nat} (hp : p ≤ 500) : p * (100 - q) / 100 ≤ 500 := by
  have : p * (100 - q) ≤ 500 * 100 := Nat.mul_le_mul hp (by omega)
  omega
theorem fal3_n {p q : Nat} (hp : p ≤ 500) (hq : q ≤ 100) : ∃ r, 1 ≤ r ∧ r ≤ 500 ∧ fal3 (nI p) (nI q) (nI 1) = nI r := by
  have hb := fal_le (p := p) (q := q) hp
  unfold fal3
  rw [falI_n hp hq]
  by_cases z : p * (100 - q) / 100 < 1
  · rw [if_pos (nI_lt z (by omega))]; exact ⟨1, by omega, by omega, rfl⟩
  · rw [if_neg (nI_nlt (by omega) (by omega))]; exact ⟨_, by omega, hb, rfl⟩
theorem set_fall {σ : Nat → Int32} (h : INV σ) {q : Nat} (hq : q ≤ 90) : INV (lookN (drpN σ (nI q) 6) 8) := by
  obtain ⟨⟨hp, hcu, ho, hs, hr, hg⟩, -⟩ := id h
  have e : ∀ i, 6 ≤ i → drpN σ (nI q) 6 i = σ i := fun i hi => drpN_at hi
  refine glb_INV h ⟨fun j hj => ?_, fun j hj => ?_, ?_, ?_, ?_, ?_⟩ (fun c w hc hw => e _ (by simp only [ix]; omega))
  · obtain ⟨a, a1, a2, a3⟩ := hp j hj
    obtain ⟨r, r1, r2, r3⟩ := fal3_n (p := a) (q := q) a2 (by omega)
    exact ⟨r, r1, r2, by rw [drpN_in 6 j hj, a3]; exact r3⟩
  · obtain ⟨a, a1, a2⟩ := hcu j hj; exact ⟨a, a1, (e _ (by omega)).trans a2⟩
  · obtain ⟨a, a1, a2⟩ := ho; exact ⟨a, a1, (e _ (by omega)).trans a2⟩
  · obtain ⟨a, a1, a2⟩ := hs; exact ⟨a, a1, (e _ (by omega)).trans a2⟩
  · obtain ⟨a, a1, a2⟩ := hr; exact ⟨a, a1, (e _ (by omega)).trans a2⟩
  · obtain ⟨a, a0, a1, a2⟩ := hg; exact ⟨a, a0, a1, (e _ (by omega)).trans a2⟩
/-- rules that no cover rests on -/
theorem rul_INV {σ : Nat → Int32} (h : INV σ) {i : Nat} {v : Int32} (hi : 98 ≤ i) (hG : GLB (upd σ i v)) : INV (upd σ i v) := ⟨hG, fun c hc => CLQ_congr (fun j hj => upd_n _ _ (by omega)) (fun w hw => upd_n _ _ (by simp only [ix]; omega)) (h.2 c hc)⟩
theorem set_rate {σ : Nat → Int32} (h : INV σ) {r : Nat} (hr : r ≤ 100) : INV (upd σ 98 (nI r)) := by
  obtain ⟨⟨hp, hcu, ho, hs, -, hg⟩, -⟩ := id h
  exact rul_INV h (by omega) ⟨fun j hj => by rw [upd_n _ _ (by omega)]; exact hp j hj, fun j hj => by rw [upd_n _ _ (by omega)]; exact hcu j hj, ho, hs, ⟨r, hr, upd_s _ _ _⟩, hg⟩
theorem set_grace {σ : Nat → Int32} (h : INV σ) {r : Nat} (h1 : 1 ≤ r) (hr : r ≤ 24) : INV (upd σ 99 (nI r)) := by
  obtain ⟨⟨hp, hcu, ho, hs, hg, -⟩, -⟩ := id h
  exact rul_INV h (by omega) ⟨fun j hj => by rw [upd_n _ _ (by omega)]; exact hp j hj, fun j hj => by rw [upd_n _ _ (by omega)]; exact hcu j hj, ho, hs, hg, ⟨r, h1, hr, upd_s _ _ _⟩⟩
theorem set_slip {σ : Nat → Int32} (h : INV σ) {r : Nat} (hr : r ≤ 50) : INV (upd σ 100 (nI r)) := by
  obtain ⟨⟨hp, hcu, ho, -, hs, hg⟩, -⟩ := id h
  exact rul_INV h (by omega) ⟨fun j hj => by rw [upd_n _ _ (by omega)]; exact hp j hj, fun j hj => by rw [upd_n _ _ (by omega)]; exact hcu j hj, ho, ⟨r, hr, upd_s _ _ _⟩, hs, hg⟩
theorem trn_3 : ∀ o, o < 3 → ∃ o', o' < 3 ∧ (nI o + nI 1) - (nI o + nI 1) / nI 3 * nI 3 = nI o' := by decide +kernel
theorem set_turn {σ : Nat → Int32} (h : INV σ) : INV (upd σ 101 ((σ 101 + nI 1) - (σ 101 + nI 1) / nI 3 * nI 3)) := by
  obtain ⟨⟨hp, hcu, ⟨o, o1, o2⟩, hs, hr, hg⟩, -⟩ := id h
  obtain ⟨o', p1, p2⟩ := trn_3 o o1
  rw [o2, p2]
  exact rul_INV h (by omega) ⟨fun j hj => by rw [upd_n _ _ (by omega)]; exact hp j hj, fun j hj => by rw [upd_n _ _ (by omega)]; exact hcu j hj, ⟨o', p1, upd_s _ _ _⟩, hs, hr, hg⟩
/-! what a client has -/
theorem CLP_cb {σ τ : Nat → Int32} {c : Nat} (h : CLI σ c) (hB : CB3 τ c) (h8 : τ (ix c 8) = σ (ix c 8)) (h7 : τ (ix c 7) = σ (ix c 7)) : CLP τ c 0 := by
  obtain ⟨-, hh, de, a1, a2, a3, a4, a5⟩ := CLQ_P h
  exact ⟨hB, hh, de, a1, h8.trans a2, h7.trans a3, a4, a5⟩
theorem GLB_18 {σ τ : Nat → Int32} (h : INV σ) (e : ∀ i, i < 12 ∨ (98 ≤ i ∧ i ≤ 101) → τ i = σ i) : GLB τ := GLB_congr (fun i hi => e i (Or.inl hi)) (fun i h1 h2 => e i (Or.inr ⟨h1, h2⟩)) h.1
theorem set_piece {σ : Nat → Int32} (h : INV σ) {c k a : Nat} (hc : c < 8) (hk : k < 6) (ha : a ≤ 99) : INV (lookN (upd σ (ix c k) (nI a)) 8) := by
  have e : ∀ i, i ≠ ix c k → upd σ (ix c k) (nI a) i = σ i := fun i hi => upd_n _ _ hi
  refine chg_INV h (GLB_18 h (fun i hi => e i (by simp only [ix]; omega))) (c := c) (fun c' w hc' hw z => e _ (by simp only [ix]; omega)) (CLP_cb (h.2 c hc) ?_ (e _ (by simp only [ix]; omega)) (e _ (by simp only [ix]; omega)))
  obtain ⟨⟨b1, ⟨co, b2, b3⟩, b4⟩, -⟩ := h.2 c hc
  refine ⟨fun j hj => ?_, ⟨co, b2, (e _ (by simp only [ix]; omega)).trans b3⟩, ?_⟩
  · by_cases z : j = k
    · subst z; exact ⟨a, ha, upd_s _ _ _⟩
    · obtain ⟨x, x1, x2⟩ := b1 j hj; exact ⟨x, x1, (e _ (by simp only [ix]; omega)).trans x2⟩
  · rw [e _ (by simp only [ix]; omega)]; exact b4
theorem set_coins {σ : Nat → Int32} (h : INV σ) {c a : Nat} (hc : c < 8) (ha : a ≤ 99999) : INV (lookN (upd σ (ix c 6) (nI a)) 8) := by
  have e : ∀ i, i ≠ ix c 6 → upd σ (ix c 6) (nI a) i = σ i := fun i hi => upd_n _ _ hi
  refine chg_INV h (GLB_18 h (fun i hi => e i (by simp only [ix]; omega))) (c := c) (fun c' w hc' hw z => e _ (by simp only [ix]; omega)) (CLP_cb (h.2 c hc) ?_ (e _ (by simp only [ix]; omega)) (e _ (by simp only [ix]; omega)))
  obtain ⟨⟨b1, -, b4⟩, -⟩ := h.2 c hc
  refine ⟨fun j hj => ?_, ⟨a, ha, upd_s _ _ _⟩, ?_⟩
  · obtain ⟨x, x1, x2⟩ := b1 j hj; exact ⟨x, x1, (e _ (by simp only [ix]; omega)).trans x2⟩
  · rw [e _ (by simp only [ix]; omega)]; exact b4
theorem set_free {σ : Nat → Int32} (h : INV σ) {c : Nat} (hc : c < 8) : INV (lookN (upd σ (ix c 9) (nI 0)) 8) := by
  have e : ∀ i, i ≠ ix c 9 → upd σ (ix c 9) (nI 0) i = σ i := fun i hi => upd_n _ _ hi
  refine chg_INV h (GLB_18 h (fun i hi => e i (by simp only [ix]; omega))) (c := c) (fun c' w hc' hw z => e _ (by simp only [ix]; omega)) (CLP_cb (h.2 c hc) ?_ (e _ (by simp only [ix]; omega)) (e _ (by simp only [ix]; omega)))
  obtain ⟨⟨b1, ⟨co, b2, b3⟩, b4⟩, -⟩ := h.2 c hc
  refine ⟨fun j hj => ?_, ⟨co, b2, (e _ (by simp only [ix]; omega)).trans b3⟩, Or.inl (upd_s _ _ _)⟩
  obtain ⟨x, x1, x2⟩ := b1 j hj; exact ⟨x, x1, (e _ (by simp only [ix]; omega)).trans x2⟩
theorem GG_z {n : Nat} (hn : n < 27) : 396999 ≤ GG n := GG_mono (a := 0) (Nat.zero_le n) hn
theorem set_debt {σ : Nat → Int32} (h : INV σ) {c d i : Nat} {x : Int32} (hc : c < 8) (hi : 102 ≤ i) (hd : d ≤ 396999 ∨ ∃ de, σ (ix c 7) = nI de ∧ de ≤ 1000000 ∧ d ≤ de) : INV (lookN (upd (upd σ (ix c 7) (nI d)) i x) 8) := by
  have e : ∀ j, j ≠ ix c 7 → j ≠ i → upd (upd σ (ix c 7) (nI d)) i x j = σ j := fun j h1 h2 => (upd_n _ _ h2).trans (upd_n _ _ h1)
  have e7 : upd (upd σ (ix c 7) (nI d)) i x (ix c 7) = nI d := (upd_n _ _ (by simp only [ix]; omega)).trans (upd_s _ _ _)
  refine chg_INV h (GLB_18 h (fun j hj => e j (by simp only [ix]; omega) (by omega))) (c := c) (fun c' w hc' hw z => e _ (by simp only [ix]; omega) (by simp only [ix]; omega)) ?_
  obtain ⟨⟨b1, ⟨co, b2, b3⟩, b4⟩, hh, de, a1, a2, a3, a4, a5⟩ := CLQ_P (h.2 c hc)
  have hx : ∀ n, n < 27 → de ≤ GG n → d ≤ GG n := fun n hn q => by
    rcases hd with z | ⟨de', z1, z2, z3⟩
    · exact Nat.le_trans z (GG_z hn)
    · have hdb : de ≤ 1000000 := Nat.le_trans q (GG_26 n hn).1
      have : de = de' := (nI_eq (by omega) (by omega)).mp (a3.symm.trans z1)
      omega
  refine ⟨⟨fun j hj => ?_, ⟨co, b2, (e _ (by simp only [ix]; omega) (by simp only [ix]; omega)).trans b3⟩, ?_⟩, hh, d, a1, (e _ (by simp only [ix]; omega) (by simp only [ix]; omega)).trans a2, e7, fun q => hx 1 (by omega) (a4 q), fun q => hx _ (by omega) (a5 q)⟩
  · obtain ⟨y, x1, x2⟩ := b1 j hj; exact ⟨y, x1, (e _ (by simp only [ix]; omega) (by simp only [ix]; omega)).trans x2⟩
  · rw [e _ (by simp only [ix]; omega) (by simp only [ix]; omega)]; exact b4
/-! class = reference -/
theorem pcs_of {σ : Nat → Int32} (h : INV σ) {c k : Nat} (hc : c < 8) (hk : k < 6) : ∃ a, a ≤ 99 ∧ σ (ix c k) = nI a := (h.2 c hc).1.1 k hk
theorem coi_of {σ : Nat → Int32} (h : INV σ) {c : Nat} (hc : c < 8) : ∃ a, a ≤ 99999 ∧ σ (ix c 6) = nI a := (h.2 c hc).1.2.1
theorem bar_of {σ : Nat → Int32} (h : INV σ) : BF σ := fun c hc => (h.2 c hc).1.2.2
theorem deb_of {σ : Nat → Int32} (h : INV σ) {c : Nat} (hc : c < 8) : ∃ a, a ≤ 1000000 ∧ σ (ix c 7) = nI a := by
  obtain ⟨-, hh, de, a1, a2, a3, a4⟩ := h.2 c hc
  refine ⟨de, ?_, a3⟩
  rcases a4 with ⟨-, -, z⟩ | ⟨z1, -, z⟩
  · omega
  · exact Nat.le_trans z (GG_b a1 z1 (by omega))
theorem hk_of {σ : Nat → Int32} (h : INV σ) : HK σ := fun c hc => by
  obtain ⟨-, hh, de, a1, a2, -⟩ := h.2 c hc
  rw [a2]; exact nI_le (Nat.zero_le _) (by omega)
theorem cov_of {σ : Nat → Int32} (h : INV σ) {c : Nat} (hc : c < 8) : ∃ N, N ≤ 396999 ∧ covI σ c (nI 0) (nI 1) = nI N := cov_nat h.1.1 h.1.2.1 (h.2 c hc).1.1 (h.2 c hc).1.2.1
theorem np_of {σ : Nat → Int32} (h : INV σ) : NP σ := fun c hc => nP_le (fun k hk => by
  obtain ⟨a, a1, a2⟩ := pcs_of h hc hk
  rw [a2]
  exact ⟨nI_le (Nat.zero_le _) (by omega), nI_le a1 (by omega)⟩)
theorem pcc_of {σ : Nat → Int32} (h : INV σ) {c : Nat} (hc : c < 8) : PcC σ c := fun k hk => by
  obtain ⟨a, a1, a2⟩ := pcs_of h hc hk
  rw [a2]
  exact ⟨nI_le (Nat.zero_le _) (by omega), nI_le a1 (by omega)⟩
theorem tk_eq (σ : Nat → Int32) (c w : Nat) (m : Int32) : canTk σ c w m = lackS σ c w m := by
  unfold canTk lackS
  rw [Int32.sub_eq_add_neg]
theorem covS_6 (σ : Nat → Int32) (c : Nat) (x q l : Int32) : ∀ n, n ≤ 6 → covS (upd σ (ix c 6) x) c q l n = covS σ c q l n := by
  intro n
  induction n with
  | zero => exact fun _ => rfl
  | succ n ih =>
    intro hn
    simp only [covS]
    rw [ih (by omega), upd_n _ _ (by simp only [ix]; omega), upd_n _ _ (by simp only [ix]; omega), upd_n _ _ (by simp only [ix]; omega)]
theorem covI_6 (σ : Nat → Int32) (c : Nat) (m q l : Int32) : covI (canTk σ c 6 m) c q l = covI σ c q l - m := by
  unfold covI canTk
  rw [covS_6 σ c _ q l 6 (Nat.le_refl 6), upd_s, Int32.sub_eq_add_neg, Int32.sub_eq_add_neg, Int32.add_assoc, Int32.add_comm (-m), ← Int32.add_assoc]
theorem canL_t {σ : Nat → Int32} {c w : Nat} {m : Int32} (h7 : w ≠ 7) : canL σ c w m = true ↔ m ≤ σ (ix c w) ∧ σ (ix c 7) ≤ covI (canTk σ c w m) c (nI 0) (nI 1) := by
  unfold canL isC
  rw [← tk_eq, Bool.and_eq_true, decide_eq_true_eq, decide_eq_true_eq, show canTk σ c w m (ix c 7) = σ (ix c 7) from upd_n _ _ (by simp only [ix]; omega)]
theorem canL_f {σ : Nat → Int32} {c w : Nat} {m : Int32} (h7 : w ≠ 7) (h : ¬ (m ≤ σ (ix c w) ∧ σ (ix c 7) ≤ covI (canTk σ c w m) c (nI 0) (nI 1))) : canL σ c w m = false := by
  cases hb : canL σ c w m
  · rfl
  · exact absurd ((canL_t h7).mp hb) h
theorem canB_iff {σ : Nat → Int32} {c : Nat} {x : Int32} : canB σ c x = true ↔ σ (ix c 9) = 0 ∧ σ (ix c 7) + x ≤ covI σ c (nI 0) (nI 1) := by
  unfold canB
  rw [Bool.and_eq_true, decide_eq_true_eq, decide_eq_true_eq]
theorem pay_eq (σ : Nat → Int32) (c : Nat) (m : Int32) : pay3 σ c (paid σ c m) = backS σ c m := by
  unfold pay3 backS pay1
  rw [Int32.sub_eq_add_neg]
theorem lnd_eq (σ : Nat → Int32) (c : Nat) (m : Int32) : lnd3 σ c m = lendS σ c m := rfl
theorem paid_n {σ : Nat → Int32} {c m de : Nat} (hm : m ≤ 99999) (h : σ (ix c 7) = nI de) (hd : de ≤ 1000000) : paid σ c (nI m) = nI (min m de) := by
  unfold paid
  rw [h]
  by_cases z : m < de
  · rw [if_pos (nI_lt z (by omega)), Nat.min_eq_left (by omega)]
  · rw [if_neg (nI_nlt (by omega) (by omega)), Nat.min_eq_right (by omega)]
theorem m1_n {n : Nat} (h : n < 2 ^ 31) : ¬ nI n = -1 := fun q => nI_pos h (by rw [q]; decide)
theorem do_pledge {σ : Nat → Int32} (h : INV σ) {c k m : Nat} (hc : c < 8) (hk : k < 6) (hm : m ≤ 50) (hle : σ (ix c k) + nI m ≤ nI 99) : INV (lookN (upd σ (ix c k) (σ (ix c k) + nI m)) 8) := by
  obtain ⟨a, a1, a2⟩ := pcs_of h hc hk
  rw [a2, nI_add] at hle ⊢
  exact set_piece h hc hk ((nI_leI (by omega) (by omega)).mp hle)
theorem do_release {σ : Nat → Int32} (h : INV σ) {c k m : Nat} (hc : c < 8) (hk : k < 6) (hm : m ≤ 50) (hle : nI m ≤ σ (ix c k)) : INV (lookN (canTk σ c k (nI m)) 8) := by
  obtain ⟨a, a1, a2⟩ := pcs_of h hc hk
  unfold canTk
  rw [a2] at hle ⊢
  have := (nI_leI (by omega) (by omega)).mp hle
  rw [pk_sub this]
  exact set_piece h hc hk (by omega)
theorem do_deposit {σ : Nat → Int32} (h : INV σ) {c m : Nat} (hc : c < 8) (hm : m ≤ 9999) (hle : σ (ix c 6) + nI m ≤ nI 99999) : INV (lookN (upd σ (ix c 6) (σ (ix c 6) + nI m)) 8) := by
  obtain ⟨a, a1, a2⟩ := coi_of h hc
  rw [a2, nI_add] at hle ⊢
  exact set_coins h hc ((nI_leI (by omega) (by omega)).mp hle)
theorem do_withdraw {σ : Nat → Int32} (h : INV σ) {c m : Nat} (hc : c < 8) (hm : m ≤ 9999) (hle : nI m ≤ σ (ix c 6)) : INV (lookN (canTk σ c 6 (nI m)) 8) := by
  obtain ⟨a, a1, a2⟩ := coi_of h hc
  unfold canTk
  rw [a2] at hle ⊢
  have := (nI_leI (by omega) (by omega)).mp hle
  rw [pk_sub this]
  exact set_coins h hc (by omega)
theorem do_lend {σ : Nat → Int32} (h : INV σ) {c m : Nat} (hc : c < 8) (hm : m ≤ 9999) (hle : σ (ix c 7) + nI m ≤ covI σ c (nI 0) (nI 1)) : INV (lookN (lendS σ c (nI m)) 8) := by
  obtain ⟨a, a1, a2⟩ := deb_of h hc
  obtain ⟨N, n1, n2⟩ := cov_of h hc
  rw [n2, a2, nI_add] at hle
  have := (nI_leI (by omega) (by omega)).mp hle
  unfold lendS
  rw [a2, nI_add]
  exact set_debt h hc (by omega) (Or.inl (by omega))
theorem do_payBack {σ : Nat → Int32} (h : INV σ) {c m : Nat} (hc : c < 8) (hm : m ≤ 9999) : INV (lookN (backS σ c (nI m)) 8) := by
  obtain ⟨a, a1, a2⟩ := deb_of h hc
  rw [← pay_eq]
  unfold pay3
  rw [paid_n (by omega) a2 a1, a2, pk_sub (Nat.min_le_right _ _)]
  exact set_debt h hc (by omega) (Or.inr ⟨a, a2, a1, by omega⟩)
theorem look_107 {σ : Nat → Int32} : ∀ n, n ≤ 8 → lkF σ n = lookN σ n 107 - σ 107 := fun n _ => rfl
