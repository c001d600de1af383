/-! ===== the accounts: what was lent, earned, repaid and lost tells the debts; what was sold ===== -/
def acV (σ : Nat → Int32) : Int32 := σ 103 + σ 104 - σ 105 - σ 106
def ACC (σ : Nat → Int32) : Prop := acV σ = dbS σ 8
def SLD (B : Nat) (σ : Nat → Int32) : Prop := ∀ k, k < 6 → ∃ s, s ≤ B ∧ σ (12 + k) = nI s
theorem SLD_up {B B' : Nat} {σ : Nat → Int32} (h : SLD B σ) (hB : B ≤ B') : SLD B' σ := fun k hk => by
  obtain ⟨s, h1, h2⟩ := h k hk
  exact ⟨s, Nat.le_trans h1 hB, h2⟩
theorem SLD_cg {B : Nat} {σ τ : Nat → Int32} (h : SLD B σ) (e : ∀ i, 12 ≤ i → i < 18 → τ i = σ i) : SLD B τ := fun k hk => by
  obtain ⟨s, h1, h2⟩ := h k hk
  exact ⟨s, h1, (e (12 + k) (by omega) (by omega)).trans h2⟩
theorem acV_cg {σ τ : Nat → Int32} (e : ∀ i, 103 ≤ i → i ≤ 106 → τ i = σ i) : acV τ = acV σ := by
  unfold acV
  rw [e 103 (by omega) (by omega), e 104 (by omega) (by omega), e 105 (by omega) (by omega), e 106 (by omega) (by omega)]
theorem db_cg {σ τ : Nat → Int32} : ∀ n, (∀ c, c < n → τ (ix c 7) = σ (ix c 7)) → dbS τ n = dbS σ n
  | 0, _ => rfl
  | n + 1, h => by
    simp only [dbS]
    rw [db_cg n (fun c hc => h c (by omega)), h n (by omega)]
theorem db_d {σ τ : Nat → Int32} {c : Nat} {x : Int32} (h7 : τ (ix c 7) = σ (ix c 7) + x) (ho : ∀ c', c' < 8 → c' ≠ c → τ (ix c' 7) = σ (ix c' 7)) : ∀ n, n ≤ 8 → dbS τ n = if c < n then dbS σ n + x else dbS σ n
  | 0, _ => by rw [if_neg (by omega)]; rfl
  | n + 1, hn => by
    simp only [dbS]
    rw [db_d h7 ho n (by omega)]
    by_cases z : n = c
    · subst z
      rw [if_neg (by omega), if_pos (by omega), h7, Int32.add_assoc]
    · rw [ho n (by omega) z]
      by_cases y : c < n
      · rw [if_pos y, if_pos (by omega)]
        rw [Int32.add_assoc, Int32.add_comm x, ← Int32.add_assoc]
      · rw [if_neg y, if_neg (by omega)]
theorem ACC_cg {σ τ : Nat → Int32} (h : ACC σ) (e : ∀ i, 103 ≤ i → i ≤ 106 → τ i = σ i) (e7 : ∀ c, c < 8 → τ (ix c 7) = σ (ix c 7)) : ACC τ := by
  unfold ACC
  rw [acV_cg e, db_cg 8 e7]
  exact h
theorem ACC_d {σ τ : Nat → Int32} {c : Nat} {x : Int32} (hc : c < 8) (h : ACC σ) (h7 : τ (ix c 7) = σ (ix c 7) + x) (ho : ∀ c', c' < 8 → c' ≠ c → τ (ix c' 7) = σ (ix c' 7)) (ha : acV τ = acV σ + x) : ACC τ := by
  unfold ACC
  rw [ha, db_d h7 ho 8 (Nat.le_refl 8), if_pos hc]
  rw [show acV σ = dbS σ 8 from h]
theorem ac_3 {σ τ : Nat → Int32} {x : Int32} (h3 : τ 103 = σ 103 + x) (h4 : τ 104 = σ 104) (h5 : τ 105 = σ 105) (h6 : τ 106 = σ 106) : acV τ = acV σ + x := by
  unfold acV
  rw [h3, h4, h5, h6]
  simp only [Int32.sub_eq_add_neg]
  ac_rfl
theorem ac_4 {σ τ : Nat → Int32} {x : Int32} (h3 : τ 103 = σ 103) (h4 : τ 104 = σ 104 + x) (h5 : τ 105 = σ 105) (h6 : τ 106 = σ 106) : acV τ = acV σ + x := by
  unfold acV
  rw [h3, h4, h5, h6]
  simp only [Int32.sub_eq_add_neg]
  ac_rfl
theorem ac_5 {σ τ : Nat → Int32} {x : Int32} (h3 : τ 103 = σ 103) (h4 : τ 104 = σ 104) (h5 : τ 105 = σ 105 + x) (h6 : τ 106 = σ 106) : acV τ = acV σ + -x := by
  unfold acV
  rw [h3, h4, h5, h6]
  simp only [Int32.sub_eq_add_neg, Int32.neg_add]
  ac_rfl
theorem ac_6 {σ τ : Nat → Int32} {x : Int32} (h3 : τ 103 = σ 103) (h4 : τ 104 = σ 104) (h5 : τ 105 = σ 105) (h6 : τ 106 = σ 106 + x) : acV τ = acV σ + -x := by
  unfold acV
  rw [h3, h4, h5, h6]
  simp only [Int32.sub_eq_add_neg, Int32.neg_add]
  ac_rfl
/-- both -/
def AS (B : Nat) (σ : Nat → Int32) : Prop := ACC σ ∧ SLD B σ
theorem AS_cg {B : Nat} {σ τ : Nat → Int32} (h : AS B σ) (e : ∀ i, 103 ≤ i → i ≤ 106 → τ i = σ i) (e7 : ∀ c, c < 8 → τ (ix c 7) = σ (ix c 7)) (e2 : ∀ i, 12 ≤ i → i < 18 → τ i = σ i) : AS B τ := ⟨ACC_cg h.1 e e7, SLD_cg h.2 e2⟩
theorem AS_look {B : Nat} {σ : Nat → Int32} (h : AS B σ) : AS B (lookN σ 8) := AS_cg h (fun i h1 h2 => look_hi (by omega) (by omega)) (fun c hc => look_w hc (by omega) (by omega)) (fun i h1 h2 => (look_8 8 (Nat.le_refl 8)).2 i (by omega) (fun c _ => by simp only [ix]; omega))
/-- a change elsewhere -/
theorem AS_upd {B i : Nat} {σ : Nat → Int32} {x : Int32} (h : AS B σ) (h1 : i < 103 ∨ 106 < i) (h7 : ∀ c, c < 8 → i ≠ ix c 7) (h2 : i < 12 ∨ 18 ≤ i) : AS B (upd σ i x) := AS_cg h (fun j a b => upd_n _ _ (by omega)) (fun c hc => upd_n _ _ (Ne.symm (h7 c hc))) (fun j a b => upd_n _ _ (by omega))
/-- paid -/
theorem AS_pay {B c : Nat} {σ : Nat → Int32} {x : Int32} (hc : c < 8) (h : AS B σ) : AS B (payS σ c x) := by
  have e : ∀ i, i ≠ ix c 7 → i ≠ ix c 6 → i ≠ 105 → payS σ c x i = σ i := fun i a b d => payS_at a b d
  refine ⟨ACC_d (x := -paid σ c x) hc h.1 ((payS_7 σ hc x).trans (Int32.sub_eq_add_neg _ _)) (fun c' h1 h2 => e _ (by simp only [ix]; omega) (by simp only [ix]; omega) (by simp only [ix]; omega)) ?_, SLD_cg h.2 (fun i a b => e i (by simp only [ix]; omega) (by simp only [ix]; omega) (by omega))⟩
  exact ac_5 (e _ (by simp only [ix]; omega) (by simp only [ix]; omega) (by omega)) (e _ (by simp only [ix]; omega) (by simp only [ix]; omega) (by omega)) (payS_5 σ hc x) (e _ (by simp only [ix]; omega) (by simp only [ix]; omega) (by omega))
theorem sel_lt {σ : Nat → Int32} {c o : Nat} : ∀ {n : Nat}, selS σ c n = some o → o < n
  | 0, h => by simp [selS] at h
  | n + 1, h => by
    simp only [selS] at h
    cases hs : selS σ c n with
    | none =>
      rw [hs] at h
      simp only at h
      split at h
      · cases h; omega
      · cases h
    | some p =>
      rw [hs] at h
      simp only at h
      split at h
      · cases h; omega
      · cases h
        exact Nat.lt_succ_of_lt (sel_lt hs)
theorem SLD_1 {B k : Nat} {σ : Nat → Int32} (hk : k < 6) (h : SLD B σ) : SLD (B + 1) (upd σ (12 + k) (σ (12 + k) + nI 1)) := fun j hj => by
  obtain ⟨s, h1, h2⟩ := h j hj
  by_cases z : j = k
  · subst z
    exact ⟨s + 1, by omega, by rw [upd_s, h2, nI_add]⟩
  · exact ⟨s, by omega, by rw [upd_n _ _ (by omega)]; exact h2⟩
theorem AS_sell1 {B c k : Nat} {σ : Nat → Int32} (hc : c < 8) (hk : k < 6) (h : AS B σ) : AS (B + 1) (sell1 σ c k) := by
  have h1 : AS B (less1 σ c k) := AS_upd h (by simp only [ix]; omega) (fun c' h' => by simp only [ix]; omega) (by simp only [ix]; omega)
  refine AS_pay hc ⟨ACC_cg h1.1 (fun i a b => upd_n _ _ (by omega)) (fun c' h' => upd_n _ _ (by simp only [ix]; omega)), SLD_1 hk h1.2⟩
theorem AS_sellW {c : Nat} (hc : c < 8) : ∀ (f B : Nat) (τ : Nat → Int32) (n : Int32), AS B τ → AS (B + f) (sellW c f τ n).1
  | 0, B, τ, n, h => h
  | f + 1, B, τ, n, h => by
    simp only [sellW]
    cases hs : selS τ c 6 with
    | none => exact ⟨h.1, SLD_up h.2 (by omega)⟩
    | some k =>
      simp only
      split
      · exact ⟨h.1, SLD_up h.2 (by omega)⟩
      · have := AS_sellW hc f (B + 1) (sell1 τ c k) (n + nI 1) (AS_sell1 hc (sel_lt hs) h)
        rw [show B + (f + 1) = B + 1 + f by omega]
        exact this
theorem AS_loss {B c : Nat} {τ : Nat → Int32} (hc : c < 8) (h : AS B τ) : AS B (lossS τ c) := by
  unfold lossS
  split
  · exact h
  · have e : ∀ i, i ≠ 106 → i ≠ ix c 7 → i ≠ ix c 9 → upd (upd (upd τ 106 (τ 106 + τ (ix c 7))) (ix c 7) (nI 0)) (ix c 9) (nI 1) i = τ i := fun i a b d => by
      rw [upd_n _ _ d, upd_n _ _ b, upd_n _ _ a]
    refine ⟨ACC_d (x := -τ (ix c 7)) hc h.1 ?_ (fun c' h1 h2 => e _ (by simp only [ix]; omega) (by simp only [ix]; omega) (by simp only [ix]; omega)) (ac_6 (e _ (by omega) (by simp only [ix]; omega) (by simp only [ix]; omega)) (e _ (by omega) (by simp only [ix]; omega) (by simp only [ix]; omega)) (e _ (by omega) (by simp only [ix]; omega) (by simp only [ix]; omega)) ?_), SLD_cg h.2 (fun i a b => e i (by omega) (by simp only [ix]; omega) (by simp only [ix]; omega))⟩
    · rw [upd_n _ _ (by simp only [ix]; omega), upd_s, Int32.add_right_neg]
      rfl
    · rw [upd_n _ _ (by simp only [ix]; omega), upd_n _ _ (by simp only [ix]; omega), upd_s]
theorem AS_out {B c : Nat} {τ : Nat → Int32} (hc : c < 8) (h : AS B τ) : AS B (outS τ c) := by
  unfold outS
  exact AS_upd (AS_upd (AS_loss hc h) (by simp only [ix]; omega) (fun c' h' => by simp only [ix]; omega) (by simp only [ix]; omega)) (by omega) (fun c' h' => by simp only [ix]; omega) (by omega)
theorem AS_sells {B c : Nat} {τ : Nat → Int32} (hc : c < 8) (h : AS B τ) : AS (B + 594) (sellsS τ c).1 := by
  refine AS_out hc (AS_sellW hc 594 B _ _ (AS_pay hc (AS_upd h (by simp only [ix]; omega) (fun c' h' => by simp only [ix]; omega) (by simp only [ix]; omega))))
theorem AS_dn1 {B c : Nat} {b : Bool} {p : (Nat → Int32) × Int32} (hc : c < 8) (h : AS B p.1) : AS (B + 594) (dn1 b p c).1 := by
  have hl : AS B (low1 p.1 c) := AS_upd h (by simp only [ix]; omega) (fun c' h' => by simp only [ix]; omega) (by simp only [ix]; omega)
  unfold dn1
  split
  · split
    · exact AS_sells hc hl
    · exact ⟨hl.1, SLD_up hl.2 (by omega)⟩
  · exact ⟨h.1, SLD_up h.2 (by omega)⟩
theorem AS_dnN {B : Nat} {b : Nat → Bool} {p : (Nat → Int32) × Int32} (h : AS B p.1) : ∀ n, n ≤ 8 → AS (B + 594 * n) (dnN b p n).1
  | 0, _ => h
  | n + 1, hn => by
    have := AS_dn1 (b := b n) (c := n) (by omega) (AS_dnN (b := b) h n (by omega))
    rw [show B + 594 * (n + 1) = B + 594 * n + 594 by omega]
    exact this
theorem AS_hr1 {B c : Nat} {σ : Nat → Int32} (hc : c < 8) (h : AS B σ) : AS B (hr1 σ c) := by
  have e : ∀ i, i ≠ 104 → i ≠ ix c 7 → hr1 σ c i = σ i := fun i a b => by
    unfold hr1 hr0
    rw [upd_n _ _ a, upd_n _ _ b]
  refine ⟨ACC_d (x := intI σ c) hc h.1 ?_ (fun c' h1 h2 => e _ (by simp only [ix]; omega) (by simp only [ix]; omega)) (ac_4 (e _ (by omega) (by simp only [ix]; omega)) ?_ (e _ (by omega) (by simp only [ix]; omega)) (e _ (by omega) (by simp only [ix]; omega))), SLD_cg h.2 (fun i a b => e i (by omega) (by simp only [ix]; omega))⟩
  · unfold hr1 hr0
    rw [upd_n _ _ (by simp only [ix]; omega), upd_s]
  · unfold hr1
    rw [upd_s]
    unfold hr0
    rw [upd_n _ _ (by simp only [ix]; omega)]
theorem AS_hrN {B : Nat} {σ : Nat → Int32} (h : AS B σ) : ∀ n, n ≤ 8 → AS B (hrN σ n)
  | 0, _ => h
  | n + 1, hn => AS_hr1 (by omega) (AS_hrN h n (by omega))
theorem AS_hour {B : Nat} {σ : Nat → Int32} (h : AS B σ) : AS (B + 4752) (hourS σ).1 := by
  have h0 : AS B (hour0 σ) := AS_upd h (by omega) (fun c' h' => by simp only [ix]; omega) (by omega)
  have h1 := AS_dnN (B := B) (b := isK (hour0 σ)) (p := (lookN (hrN (hour0 σ) 8) 8, nI 0)) (AS_look (AS_hrN h0 8 (Nat.le_refl 8))) 8 (Nat.le_refl 8)
  rw [show B + 594 * 8 = B + 4752 by omega] at h1
  exact h1
theorem AS_pas {B : Nat} {σ : Nat → Int32} (h : AS B σ) : ∀ n, AS (B + 4752 * n) (pasN σ n).1
  | 0 => h
  | n + 1 => by
    have := AS_hour (AS_pas h n)
    rw [show B + 4752 * (n + 1) = B + 4752 * n + 4752 by omega]
    exact this
/-! the hours that went by -/
theorem sellW_102 {c : Nat} (hc : c < 8) : ∀ (f : Nat) (τ : Nat → Int32) (n : Int32), (sellW c f τ n).1 102 = τ 102
  | 0, τ, n => rfl
  | f + 1, τ, n => by
    simp only [sellW]
    cases hs : selS τ c 6 with
    | none => rfl
    | some k =>
      simp only
      have hk := sel_lt hs
      split
      · rfl
      · rw [sellW_102 hc f]
        unfold sell1
        try simp only
        rw [payS_at (by simp only [ix]; omega) (by simp only [ix]; omega) (by omega), upd_n _ _ (by omega)]
        unfold less1
        exact upd_n _ _ (by simp only [ix]; omega)
theorem sells_102 {c : Nat} (hc : c < 8) (τ : Nat → Int32) : (sellsS τ c).1 102 = τ 102 := by
  unfold sellsS
  simp only
  rw [out_at (by omega) (by simp only [ix]; omega) (by simp only [ix]; omega) (by simp only [ix]; omega) (by omega), sellW_102 hc]
  unfold begS
  rw [payS_at (by simp only [ix]; omega) (by simp only [ix]; omega) (by omega), upd_n _ _ (by simp only [ix]; omega)]
theorem dn_102 {b : Nat → Bool} {p : (Nat → Int32) × Int32} : ∀ n, n ≤ 8 → (dnN b p n).1 102 = p.1 102
  | 0, _ => rfl
  | n + 1, hn => by
    have ih := dn_102 (b := b) (p := p) n (by omega)
    simp only [dnN]
    unfold dn1
    split
    · split
      · rw [sells_102 (by omega)]
        unfold low1
        rw [upd_n _ _ (by simp only [ix]; omega)]
        exact ih
      · unfold low1
        simp only
        rw [upd_n _ _ (by simp only [ix]; omega)]
        exact ih
    · exact ih
theorem hour_102 (σ : Nat → Int32) : (hourS σ).1 102 = σ 102 + nI 1 := by
  unfold hourS
  rw [dn_102 8 (Nat.le_refl 8)]
  simp only
  rw [look_hi (by omega) (by omega), hrN_t (by omega) 8 (fun c hc => by simp only [ix]; omega)]
  exact upd_s _ _ _
theorem pas_102 (σ : Nat → Int32) : ∀ n, (pasN σ n).1 102 = σ 102 + nI n
  | 0 => by
    show σ 102 = σ 102 + nI 0
    rw [show nI 0 = 0 from rfl, Int32.add_zero]
  | n + 1 => by
    simp only [pasN]
    rw [hour_102, pas_102 σ n, Int32.add_assoc, nI_add]
/-! without debts -/
def ZD (σ : Nat → Int32) : Prop := ∀ c, c < 8 → σ (ix c 7) = nI 0
theorem K_C {σ : Nat → Int32} (h : INV σ) {c : Nat} (hc : c < 8) : isK σ c = !isC σ c := by
  obtain ⟨hB, hh, de, h1, h2, h3, h4⟩ := h.2 c hc
  rw [isK_nat h2 h1]
  rcases h4 with ⟨a, b, -⟩ | ⟨a, b, -⟩
  · rw [b, decide_eq_false (by omega)]; rfl
  · rw [b, decide_eq_true a]; rfl
theorem ZD_C {σ : Nat → Int32} (h : INV σ) {c : Nat} (hc : c < 8) (hz : σ (ix c 7) = nI 0) : isC σ c = true := by
  obtain ⟨N, hN, e⟩ := cov_of h hc
  rw [isC_nat e hz hN (by omega)]
  exact decide_eq_true (Nat.zero_le _)
theorem ZD_K {σ : Nat → Int32} (h : INV σ) (hz : ZD σ) {c : Nat} (hc : c < 8) : isK σ c = false := by
  rw [K_C h hc, ZD_C h hc (hz c hc)]; rfl
theorem dn_no {b : Nat → Bool} {p : (Nat → Int32) × Int32} : ∀ n, (∀ k, k < n → b k = false) → dnN b p n = p
  | 0, _ => rfl
  | n + 1, h => by
    simp only [dnN]
    rw [dn_no n (fun k hk => h k (by omega))]
    unfold dn1
    rw [h n (by omega)]
    rfl
theorem hour_Z {σ : Nat → Int32} (h : INV σ) (hz : ZD σ) : ZD (hourS σ).1 ∧ (hourS σ).1 108 = σ 108 := by
  have hb : ∀ k, k < 8 → isK (hour0 σ) k = false := fun k hk => by
    rw [isK_h0]; exact ZD_K h hz hk
  unfold hourS
  rw [dn_no 8 hb]
  simp only
  obtain ⟨r, hr, er⟩ := h.1.2.2.2.2.1
  have z0 : ∀ c, c < 8 → hour0 σ (ix c 7) = nI 0 := fun c hc => (upd_n _ _ (by simp only [ix]; omega)).trans (hz c hc)
  have er0 : hour0 σ 98 = nI r := (upd_n _ _ (by omega)).trans er
  have hi : ∀ c, c < 8 → intI (hour0 σ) c = nI 0 := fun c hc => by
    rw [intI_n (z0 c hc) er0 (by omega) hr]
    unfold itN
    rw [Nat.zero_mul]
  refine ⟨fun c hc => ?_, ?_⟩
  · rw [look_w hc (by omega) (by omega), hrN_7 8 c hc (Nat.le_refl 8), z0 c hc, hi c hc]
    rfl
  · rw [look_hi (by omega) (by omega), hrN_t (by omega) 8 (fun c hc => by simp only [ix]; omega)]
    exact upd_n _ _ (by omega)
theorem pas_Z {σ : Nat → Int32} (h : INV σ) (hz : ZD σ) (x : SL3) : ∀ n, ZD (pasN σ n).1 ∧ (pasN σ n).1 108 = σ 108
  | 0 => ⟨hz, rfl⟩
  | n + 1 => by
    obtain ⟨h1, h2⟩ := pas_Z h hz x n
    have hI := (pass_all h x n).2.1
    obtain ⟨h3, h4⟩ := hour_Z hI h1
    exact ⟨h3, h4.trans h2⟩
theorem db_Z {σ : Nat → Int32} (hz : ZD σ) : dbS σ 8 = nI 0 := by
  have : ∀ n, n ≤ 8 → dbS σ n = nI 0 := fun n => by
    induction n with
    | zero => intro _; rfl
    | succ n ih =>
      intro hn
      simp only [dbS]
      rw [ih (by omega), hz n (by omega)]
      rfl
  exact this 8 (Nat.le_refl 8)
theorem Z_db {σ : Nat → Int32} (h : INV σ) (h0 : ¬ 0 < dbS σ 8) : ZD σ := by
  have key : ∀ n, n ≤ 8 → ∃ D, D ≤ n * 1000000 ∧ dbS σ n = nI D ∧ ∀ c, c < n → ∃ d, d ≤ D ∧ σ (ix c 7) = nI d := fun n => by
    induction n with
    | zero => intro _; exact ⟨0, by omega, rfl, fun c hc => by omega⟩
    | succ n ih =>
      intro hn
      obtain ⟨D, h1, h2, h3⟩ := ih (by omega)
      obtain ⟨d, h4, h5⟩ := deb_of h (c := n) (by omega)
      refine ⟨D + d, by omega, ?_, fun c hc => ?_⟩
      · simp only [dbS]
        rw [h2, h5, nI_add]
      · by_cases z : c = n
        · subst z; exact ⟨d, by omega, h5⟩
        · obtain ⟨d', h6, h7⟩ := h3 c (by omega)
          exact ⟨d', by omega, h7⟩
  obtain ⟨D, h1, h2, h3⟩ := key 8 (Nat.le_refl 8)
  have hD : D = 0 := by
    rcases Nat.eq_zero_or_pos D with z | z
    · exact z
    · refine absurd ?_ h0
      rw [h2, Int32.lt_iff_toInt_lt, nI_toInt (by omega)]
      show (0 : Int) < D
      omega
  intro c hc
  obtain ⟨d, h4, h5⟩ := h3 c hc
  rw [h5, show d = 0 by omega]
