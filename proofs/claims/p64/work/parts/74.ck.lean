/-! ===== what the law's checks rest on ===== -/
theorem nle_d (a b : Int32) : (!decide (a ≤ b)) = decide (b < a) := by
  by_cases h : a ≤ b
  · rw [decide_eq_true h, decide_eq_false (Int32.not_lt.mpr h)]; rfl
  · rw [decide_eq_false h, decide_eq_true (Int32.not_le.mp h)]; rfl
theorem drp_o {σ : Nat → Int32} {q : Int32} {i : Nat} (h : 6 ≤ i) : drpN σ q 6 i = σ i := drpN_at h
theorem drp_cov {σ : Nat → Int32} {q : Nat} (hP : PR (drpN σ (nI q) 6)) {c : Nat} : covI (drpN σ (nI q) 6) c (nI 0) (nI 1) = covI σ c (nI q) (nI 1) := by
  have key : ∀ n, n ≤ 6 → covS (drpN σ (nI q) 6) c (nI 0) (nI 1) n = covS σ c (nI q) (nI 1) n := fun n => by
    induction n with
    | zero => intro _; rfl
    | succ n ih =>
      intro hn
      simp only [covS]
      rw [ih (by omega), pr_fal hP (by omega), drp_o (i := ix c n) (by simp only [ix]; omega), drp_o (i := 6 + n) (by omega), drpN_in 6 n (by omega)]
      rfl
  unfold covI
  rw [key 6 (Nat.le_refl 6), drp_o (by simp only [ix]; omega)]
theorem ck_fall {σ : Nat → Int32} (h : INV σ) {q : Nat} (hq : q ≤ 90) : allS (lookN (drpN σ (nI q) 6) 8) 8 = ifFS σ (nI q) 8 := by
  have hI := set_fall h hq
  have hP : PR (drpN σ (nI q) 6) := fun k hk => by
    have := hI.1.1 k hk
    rw [look_lo (by omega)] at this
    exact this
  have key : ∀ n, n ≤ 8 → allS (lookN (drpN σ (nI q) 6) 8) n = ifFS σ (nI q) n := fun n => by
    induction n with
    | zero => intro _; rfl
    | succ n ih =>
      intro hn
      simp only [allS, ifFS]
      rw [ih (by omega), K_C hI (by omega), look_C (by omega)]
      unfold isC
      rw [nle_d, drp_cov hP, drp_o (by simp only [ix]; omega)]
  exact key 8 (Nat.le_refl 8)
theorem cvN_le {σ τ : Nat → Int32} {c q l : Nat} (hp : ∀ i, i < 12 → τ i = σ i) (hk : ∀ k, k < 6 → (σ (ix c k)).toNatClampNeg ≤ (τ (ix c k)).toNatClampNeg) : ∀ n, n ≤ 6 → cvN9 σ c q l n ≤ cvN9 τ c q l n
  | 0, _ => Nat.le_refl _
  | n + 1, hn => by
    simp only [cvN9]
    rw [hp n (by omega), hp (6 + n) (by omega)]
    exact Nat.add_le_add (cvN_le hp hk n (by omega)) (Nat.mul_le_mul_right _ (Nat.mul_le_mul_right _ (hk n (by omega))))
theorem ck_cover {σ τ : Nat → Int32} (hσ : INV σ) (hτ : INV τ) {c : Nat} (hc : c < 8) (hp : ∀ i, i < 12 → τ i = σ i) (h6 : τ (ix c 6) = σ (ix c 6)) (hk : ∀ k, k < 6 → (σ (ix c k)).toNatClampNeg ≤ (τ (ix c k)).toNatClampNeg) : covI σ c (nI 0) (nI 1) ≤ covI τ c (nI 0) (nI 1) := by
  obtain ⟨co, a1, a2, a3, a4⟩ := covI_n hσ (q := 0) (l := 1) hc (by omega) (by omega)
  obtain ⟨co', b1, b2, b3, b4⟩ := covI_n hτ (q := 0) (l := 1) hc (by omega) (by omega)
  have hco : co = co' := by
    have e : nI co' = nI co := by rw [← b2, ← a2]; exact h6
    have e1 := congrArg Int32.toInt e
    rw [nI_toInt (by omega), nI_toInt (by omega)] at e1
    omega
  have hle := cvN_le (q := 0) (l := 1) hp hk 6 (Nat.le_refl 6)
  rw [a3, b3]
  refine nI_le ?_ (by omega)
  omega
/-- a client to whom more is pledged -/
theorem ck_pledge {σ : Nat → Int32} (h : INV σ) {c k m : Nat} (hc : c < 8) (hk : k < 6) (m2 : m ≤ 50) (hm : σ (ix c k) + nI m ≤ nI 99) : covI σ c (nI 0) (nI 1) ≤ covI (lookN (upd σ (ix c k) (σ (ix c k) + nI m)) 8) c (nI 0) (nI 1) := by
  have hI := do_pledge h hc hk m2 hm
  refine ck_cover h hI hc (fun i hi => ?_) ?_ (fun j hj => ?_)
  · rw [look_lo hi, upd_n _ _ (by simp only [ix]; omega)]
  · rw [look_w hc (by omega) (by omega), upd_n _ _ (by simp only [ix]; omega)]
  · rw [look_w hc (by omega) (by omega)]
    obtain ⟨a, a1, a2⟩ := pcs_of h hc hk
    by_cases z : j = k
    · subst z
      rw [upd_s, a2, nI_add, nI_clamp (by omega), nI_clamp (by omega)]
      omega
    · rw [upd_n _ _ (by simp only [ix]; omega)]
      exact Nat.le_refl _
theorem ck_rel {σ : Nat → Int32} (h : INV σ) {c k m : Nat} (hc : c < 8) (hk : k < 6) (m2 : m ≤ 50) (hle : nI m ≤ σ (ix c k)) (hd : σ (ix c 7) = nI 0) : σ (ix c 7) ≤ covI (canTk σ c k (nI m)) c (nI 0) (nI 1) ∧ isK (lookN (canTk σ c k (nI m)) 8) c = false := by
  have hI := do_release h hc hk m2 hle
  have e7 : lookN (canTk σ c k (nI m)) 8 (ix c 7) = nI 0 := by
    rw [look_w hc (by omega) (by omega)]
    unfold canTk
    rw [upd_n _ _ (by simp only [ix]; omega)]
    exact hd
  have ec : covI (lookN (canTk σ c k (nI m)) 8) c (nI 0) (nI 1) = covI (canTk σ c k (nI m)) c (nI 0) (nI 1) := cov_congr (fun i hi => look_lo hi) (fun w hw => look_w hc (by omega) (by omega))
  obtain ⟨N, hN, e⟩ := cov_of hI hc
  refine ⟨?_, ?_⟩
  · rw [← ec, e, hd]
    exact nI_le (Nat.zero_le _) (by omega)
  · rw [K_C hI hc, ZD_C hI hc e7]; rfl
/-- room -/
theorem opn_pos {σ : Nat → Int32} (h : INV σ) {c : Nat} (hc : c < 8) (hz : ¬ opnS σ c = 0) : ∃ N de, de < N ∧ N ≤ 396999 ∧ covI σ c (nI 0) (nI 1) = nI N ∧ σ (ix c 7) = nI de ∧ σ (ix c 9) = 0 ∧ opnS σ c = nI (N - de) := by
  obtain ⟨N, hN, e⟩ := cov_of h hc
  obtain ⟨de, hd, ed⟩ := deb_of h hc
  unfold opnS at hz ⊢
  by_cases q : ¬ σ (ix c 9) = 0 ∨ romD σ c < 0
  · rw [if_pos q] at hz
    exact absurd rfl hz
  · rw [if_neg q] at hz
    rw [if_neg q]
    have hb : σ (ix c 9) = 0 := Decidable.of_not_not (fun y => q (Or.inl y))
    have hr : ¬ romD σ c < 0 := fun y => q (Or.inr y)
    unfold romD at hz hr ⊢
    rw [e, ed] at hz hr ⊢
    have hle : de ≤ N := by
      rcases Nat.lt_or_ge N de with y | y
      · exact absurd (pk_sneg (by omega) y) hr
      · exact y
    rw [pk_sub hle] at hz ⊢
    have hne : N - de ≠ 0 := fun y => hz (by rw [y]; rfl)
    exact ⟨N, de, by omega, hN, rfl, rfl, hb, rfl⟩
theorem ck_lend {σ : Nat → Int32} (h : INV σ) {c N de m : Nat} (hc : c < 8) (hN : N ≤ 396999) (e : covI σ c (nI 0) (nI 1) = nI N) (ed : σ (ix c 7) = nI de) (hb : σ (ix c 9) = 0) (m2 : m ≤ 9999) (hm : de + m ≤ N) : σ (ix c 7) + nI m ≤ covI σ c (nI 0) (nI 1) ∧ INV (lookN (lnd3 σ c (nI m)) 8) ∧ lookN (lnd3 σ c (nI m)) 8 (ix c 7) = nI de + nI m ∧ opnS (lookN (lnd3 σ c (nI m)) 8) c = nI (N - de) - nI m ∧ isK (lookN (lnd3 σ c (nI m)) 8) c = false ∧ lookN (lnd3 σ c (nI m)) 8 103 = σ 103 + nI m := by
  have hle : σ (ix c 7) + nI m ≤ covI σ c (nI 0) (nI 1) := by
    rw [e, ed, nI_add]; exact nI_le hm (by omega)
  have hI := do_lend h hc m2 hle
  rw [← lnd_eq] at hI
  have l : ∀ i, i ≠ ix c 7 → i ≠ 103 → lnd3 σ c (nI m) i = σ i := fun i a b => by
    unfold lnd3
    rw [upd_n _ _ b, upd_n _ _ a]
  have l7 : lnd3 σ c (nI m) (ix c 7) = nI de + nI m := by
    unfold lnd3
    rw [upd_n _ _ (by simp only [ix]; omega), upd_s, ed]
  have e7 : lookN (lnd3 σ c (nI m)) 8 (ix c 7) = nI de + nI m := by
    rw [look_w hc (by omega) (by omega), l7]
  have ec : covI (lookN (lnd3 σ c (nI m)) 8) c (nI 0) (nI 1) = nI N := by
    rw [← e]
    refine cov_congr (fun i hi => ?_) (fun w hw => ?_)
    · rw [look_lo hi]; exact l _ (by simp only [ix]; omega) (by omega)
    · rw [look_w hc (by omega) (by omega)]; exact l _ (by simp only [ix]; omega) (by simp only [ix]; omega)
  have e9 : lookN (lnd3 σ c (nI m)) 8 (ix c 9) = 0 := by
    rw [look_w hc (by omega) (by omega)]
    exact (l _ (by simp only [ix]; omega) (by simp only [ix]; omega)).trans hb
  refine ⟨hle, hI, e7, ?_, ?_, ?_⟩
  · have hr : romD (lookN (lnd3 σ c (nI m)) 8) c = nI (N - (de + m)) := by
      unfold romD
      rw [ec, e7, nI_add, pk_sub hm]
    unfold opnS
    rw [if_neg (fun y => y.elim (fun z => z e9) (fun z => nI_pos (by omega) (hr ▸ z))), hr, pk_sub (by omega)]
    congr 1
    omega
  · rw [K_C hI hc]
    unfold isC
    rw [ec, e7, nI_add, decide_eq_true (nI_le hm (by omega))]; rfl
  · rw [look_hi (by omega) (by omega)]
    unfold lnd3
    rw [upd_s, upd_n _ _ (by simp only [ix]; omega)]
theorem AS_lend {B c : Nat} {σ : Nat → Int32} {m : Int32} (hc : c < 8) (h : AS B σ) : AS B (lookN (lnd3 σ c m) 8) := by
  have e : ∀ i, i ≠ 103 → i ≠ ix c 7 → lnd3 σ c m i = σ i := fun i a b => by
    unfold lnd3
    rw [upd_n _ _ a, upd_n _ _ b]
  refine AS_look ⟨ACC_d (x := m) hc h.1 ?_ (fun c' h1 h2 => e _ (by simp only [ix]; omega) (by simp only [ix]; omega)) (ac_3 ?_ (e _ (by omega) (by simp only [ix]; omega)) (e _ (by omega) (by simp only [ix]; omega)) (e _ (by omega) (by simp only [ix]; omega))), SLD_cg h.2 (fun i a b => e i (by omega) (by simp only [ix]; omega))⟩
  · unfold lnd3
    rw [upd_n _ _ (by simp only [ix]; omega), upd_s]
  · unfold lnd3
    rw [upd_s, upd_n _ _ (by simp only [ix]; omega)]
theorem AS_back {B c : Nat} {σ : Nat → Int32} {t : Int32} (hc : c < 8) (h : AS B σ) : AS B (lookN (pay3 σ c t) 8) := by
  have e : ∀ i, i ≠ 105 → i ≠ ix c 7 → pay3 σ c t i = σ i := fun i a b => by
    unfold pay3
    rw [upd_n _ _ a, upd_n _ _ b]
  refine AS_look ⟨ACC_d (x := -t) hc h.1 ?_ (fun c' h1 h2 => e _ (by simp only [ix]; omega) (by simp only [ix]; omega)) (ac_5 (e _ (by omega) (by simp only [ix]; omega)) (e _ (by omega) (by simp only [ix]; omega)) ?_ (e _ (by omega) (by simp only [ix]; omega))), SLD_cg h.2 (fun i a b => e i (by omega) (by simp only [ix]; omega))⟩
  · unfold pay3
    rw [upd_n _ _ (by simp only [ix]; omega), upd_s, Int32.sub_eq_add_neg]
  · unfold pay3
    rw [upd_s, upd_n _ _ (by simp only [ix]; omega)]
theorem ck_back {σ : Nat → Int32} {c : Nat} {t : Int32} (hc : c < 8) : lookN (pay3 σ c t) 8 (ix c 7) = σ (ix c 7) - t := by
  rw [look_w hc (by omega) (by omega)]
  unfold pay3
  rw [upd_n _ _ (by simp only [ix]; omega), upd_s]
theorem AS_fall {B : Nat} {σ : Nat → Int32} {q : Int32} (h : AS B σ) : AS B (lookN (drpN σ q 6) 8) := AS_look (AS_cg h (fun i a b => drp_o (by omega)) (fun c hc => drp_o (by simp only [ix]; omega)) (fun i a b => drp_o (by omega)))
/-! a client -/
/-- the law's own sum -/
def csS (σ : Nat → Int32) (c : Nat) : Nat → Int32
  | 0 => nI 0
  | n + 1 => csS σ c n + σ (ix c n) * σ n * (nI 100 - σ (6 + n))
theorem cs_cov {σ : Nat → Int32} (h : INV σ) (c : Nat) : ∀ n, n ≤ 6 → csS σ c n = covS σ c (nI 0) (nI 1) n
  | 0, _ => rfl
  | n + 1, hn => by
    simp only [csS, covS]
    rw [cs_cov h c n (by omega), pr_fal h.1.1 (by omega)]
def cfS (σ : Nat → Int32) (c : Nat) (q : Int32) : Nat → Int32
  | 0 => nI 0
  | n + 1 => cfS σ c q n + σ (ix c n) * (σ n * (nI 100 - q) / nI 100) * (nI 100 - σ (6 + n))
theorem cf_cov {σ : Nat → Int32} (h : INV σ) (c : Nat) {q : Nat} (hq : q ≤ 100) : ∀ n, n ≤ 6 → cfS σ c (nI q) n = covS σ c (nI q) (nI 0) n
  | 0, _ => rfl
  | n + 1, hn => by
    simp only [cfS, covS]
    obtain ⟨p, p1, p2, p3⟩ := h.1.1 n (by omega)
    have hf : ¬ falI (σ n) (nI q) < nI 0 := by
      rw [p3, falI_n p2 hq]
      have := fal_le (q := q) p2
      exact nI_nlt (Nat.zero_le _) (by omega)
    rw [cf_cov h c hq n (by omega), if_neg hf]
    rfl
theorem cl_hours {σ : Nat → Int32} (h : INV σ) {c : Nat} (hc : c < 8) (hk : isK σ c = true) : ∃ n, 1 ≤ n ∧ n ≤ 24 ∧ σ (ix c 8) = nI n := by
  obtain ⟨hB, hh, de, h1, h2, h3, h4⟩ := h.2 c hc
  rw [isK_nat h2 h1] at hk
  exact ⟨hh, of_decide_eq_true hk, h1, h2⟩
theorem try_K {σ : Nat → Int32} {c : Nat} (hk : isK σ c = true) : tryS σ c = nI 0 := if_pos hk
theorem sp_nP {σ : Nat → Int32} (h : INV σ) {c : Nat} (hc : c < 8) : spS σ c 6 = nI (nP σ c 6) := spS_nP (fun k hk => (pcc_of h hc k hk).1) 6 (Nat.le_refl 6)
/-- a debt that coins don't cover: the least fall that calls -/
theorem cl_fall {σ : Nat → Int32} (h : INV σ) {c : Nat} (hc : c < 8) (hk : isK σ c = false) (hd : σ (ix c 6) < σ (ix c 7)) : ∃ p, 1 ≤ p ∧ p ≤ 100 ∧ tryS σ c = nI p ∧ hlvS σ c = nI p ∧ covI σ c (nI p) (nI 0) < σ (ix c 7) ∧ (p ≠ 1 → ¬ covI σ c (nI (p - 1)) (nI 0) < σ (ix c 7)) := by
  have h100 : stC σ c (nI 100) (nI 0) = false := by
    obtain ⟨co, de, a1, a2, a3, a4, a5⟩ := stC_n h (q := 100) hc (Nat.le_refl 100)
    have hz : ∀ n, cvN9 σ c 100 0 n = 0 := fun n => by
      induction n with
      | zero => rfl
      | succ n ih =>
        simp only [cvN9]
        rw [ih]
        simp
    rw [a5, hz]
    rw [a1, a3, nI_ltI (by omega) (by omega)] at hd
    exact decide_eq_false (by omega)
  have h0 : stC σ c (nI 0) (nI 0) = true := by
    rw [stC_0 h]; exact unc_cov h hc hk
  obtain ⟨m, m1, m2, m3, m4, m5⟩ := hlv_ok (τ := σ) (c := c) 100 0 100 (by omega) (by omega) h0 h100
  have hl : hlvS σ c = nI (m + 1) := by
    unfold hlvS
    rw [hk, if_neg (by decide), h100, if_neg (by decide), m1]
  have ht : tryS σ c = nI (m + 1) := by
    rw [tryS_f, ← hlvS_f h hc, hl]
  refine ⟨m + 1, by omega, m3, ht, hl, ?_, fun _ => ?_⟩
  · exact stC_f m4
  · exact stC_t (by rw [Nat.add_sub_cancel]; exact m5)
/-! risk -/
theorem rk_at {σ : Nat → Int32} (h : INV σ) {p : Nat} (hp : p < 8) : (tkN σ (p + 1)).2 < 8 ∧ plN (dN9 σ) (vN9 σ) (tkN σ (p + 1)).2 = p := by
  have e := (tk_ok h (fun _ => 0) (p + 1) (by omega)).2 p rfl
  rw [e]
  exact srt_pl h _ hp
theorem rk_rank {σ : Nat → Int32} (h : INV σ) {p : Nat} (hp : p < 8) : rplS σ (tkN σ (p + 1)).2 8 = nI p := by
  obtain ⟨h1, h2⟩ := rk_at h hp
  rw [rpl_same h h1 8 (Nat.le_refl 8), rnk_8 h h1, h2]
theorem rk_set {σ : Nat → Int32} {p : Nat} : (tkN σ (p + 1)).1 = setB (tkN σ p).1 (tkN σ (p + 1)).2 := rfl
theorem bit_255 {b : Nat → Bool} (h : ∀ k, k < 8 → b k = true) : bitN b 8 = nI 255 := by
  simp only [bitN]
  rw [h 0 (by omega), h 1 (by omega), h 2 (by omega), h 3 (by omega), h 4 (by omega), h 5 (by omega), h 6 (by omega), h 7 (by omega)]
  decide
theorem rk_255 {σ : Nat → Int32} (h : INV σ) : bitN (tkN σ 8).1 8 = nI 255 := bit_255 (fun k hk => by
  rw [(tk_ok h (fun _ => 0) 8 (Nat.le_refl 8)).1 k hk]
  exact decide_eq_true (pl_8 hk))
/-- the one at a place is riskier than the one behind it -/
theorem rk_next {σ : Nat → Int32} (h : INV σ) {p : Nat} (hp : p + 1 < 8) {a c : Nat} (ea : (tkN σ (p + 1)).2 = a) (ec : (tkN σ (p + 1 + 1)).2 = c) : a < 8 ∧ c < 8 ∧ (if dN9 σ a = 0 then dN9 σ c = 0 ∧ a < c else dN9 σ c = 0 ∨ vN9 σ a * dN9 σ c < vN9 σ c * dN9 σ a ∨ (vN9 σ a * dN9 σ c = vN9 σ c * dN9 σ a ∧ a < c)) := by
  obtain ⟨a1, a2⟩ := rk_at h (p := p) (by omega)
  obtain ⟨c1, c2⟩ := rk_at h (p := p + 1) hp
  rw [ea] at a1 a2
  rw [ec] at c1 c2
  have hr := (pl_iff (d := dN9 σ) (v := vN9 σ) a1 c1).mpr (by omega)
  refine ⟨a1, c1, ?_⟩
  by_cases z : dN9 σ a = 0
  · rw [if_pos z]
    rcases (rkN_0 (Or.inl z)).mp hr with y | y
    · omega
    · exact y
  · rw [if_neg z]
    by_cases y : dN9 σ c = 0
    · exact Or.inl y
    · exact Or.inr ((rkN_1 (by omega) (by omega)).mp hr)
theorem rk_by {σ : Nat → Int32} (h : INV σ) {a c : Nat} (ha : a < 8) (hc : c < 8) : (covI σ a (nI 0) (nI 1)).toInt64 * (σ (ix c 7)).toInt64 - (covI σ c (nI 0) (nI 1)).toInt64 * (σ (ix a 7)).toInt64 = lN (vN9 σ a * dN9 σ c) - lN (vN9 σ c * dN9 σ a) := by
  rw [vd_L h ha hc, vd_L h hc ha]
/-! accounts -/
theorem sold_0 {B k : Nat} {σ : Nat → Int32} (h : AS B σ) (hB : B < 2 ^ 31) (hk : k < 6) : ¬ σ (12 + k) < 0 := by
  obtain ⟨s, h1, h2⟩ := h.2 k hk
  rw [h2]
  exact nI_pos (by omega)
