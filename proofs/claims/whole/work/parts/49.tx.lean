/-! ===== class and reference: the reader along a text ===== -/
def stS (bc : Nat → Nat) : Nat → PS
  | 0 => PS0
  | n + 1 => (takP (stS bc n) (bc n)).2
def okS (bc : Nat → Nat) (j : Nat) : Bool := (takP (stS bc j) (bc j)).1
def Rch (bc : Nat → Nat) (e : Nat) : Prop := ∀ j, j < e → okS bc j = true
/-- the text is wrong at e, or ends there within an order -/
def Stp9 (bc : Nat → Nat) (ℓ e : Nat) : Prop := (e = ℓ ∧ (stS bc ℓ).digits = 0) ∨ (e < ℓ ∧ okS bc e = false)
theorem Rch_s {bc : Nat → Nat} {e : Nat} (h : Rch bc e) (h2 : okS bc e = true) : Rch bc (e + 1) := fun j hj => by
  by_cases z : j = e
  · subst z; exact h2
  · exact h j (by omega)
theorem run_go {bc : Nat → Nat} {e : Nat} (h : Rch bc e) : ∀ f j, j ≤ e → e ≤ j + f → (e = j + f ∨ okS bc e = false) → (runP bc f j (stS bc j)).1 = e ∧ (e = j + f → (runP bc f j (stS bc j)).2 = stS bc e) := by
  intro f
  induction f with
  | zero =>
    intro j h1 h2 _
    have : e = j := by omega
    subst this
    exact ⟨rfl, fun _ => rfl⟩
  | succ f ih =>
    intro j h1 h2 h3
    by_cases z : e = j
    · subst z
      have hk : okS bc e = false := by
        rcases h3 with q | q
        · omega
        · exact q
      simp only [runP]
      rw [show (takP (stS bc e) (bc e)).1 = false from hk, if_neg (by decide)]
      exact ⟨rfl, fun q => by omega⟩
    · have hk : okS bc j = true := h j (by omega)
      simp only [runP]
      rw [show (takP (stS bc j) (bc j)).1 = true from hk, if_pos rfl]
      obtain ⟨a, b⟩ := ih (j + 1) (by omega) (by omega) (by
        rcases h3 with q | q
        · exact Or.inl (by omega)
        · exact Or.inr q)
      exact ⟨a, fun q => b (by omega)⟩
theorem runP_e {bc : Nat → Nat} {ℓ e : Nat} (h : Rch bc e) (he : e ≤ ℓ) (h2 : e = ℓ ∨ okS bc e = false) : (runP bc ℓ 0 PS0).1 = e ∧ (e = ℓ → (runP bc ℓ 0 PS0).2 = stS bc ℓ) := by
  obtain ⟨a, b⟩ := run_go h ℓ 0 (Nat.zero_le _) (by omega) (by
    rcases h2 with q | q
    · exact Or.inl (by omega)
    · exact Or.inr q)
  exact ⟨a, fun q => by have := b (by omega); rw [← q]; exact (q ▸ this)⟩
/-! one sign -/
theorem inB_n {c lo hi : Nat} (hc : c < 1000) (hl : lo < 1000) (hh : hi < 1000) : inB (nI c) (nI lo) (nI hi) = (decide (lo ≤ c) && decide (c ≤ hi)) := by
  unfold inB
  rw [decide_eq_decide.mpr (nI_leI (a := lo) (b := c) (by omega) (by omega)), decide_eq_decide.mpr (nI_leI (a := c) (b := hi) (by omega) (by omega))]
theorem sg_bad (bu : Nat → Int32) (ℓ : Nat) (lo hi : Int32) (j : Nat) : sg bu ℓ lo hi (j, true) = (j, true) := by
  unfold sg
  rw [sgB_1 rfl, if_pos rfl]
theorem nm_bad (bu : Nat → Int32) (ℓ : Nat) (lo most : Int32) (j : Nat) : (nmR bu ℓ lo most (j, true)).1 = (j, true) := by
  unfold nmR
  rw [sg_bad, if_pos rfl]
theorem sg_step {bc : Nat → Nat} {bu : Nat → Int32} {ℓ j : Nat} (hb : ∀ k, k < ℓ → bu k = nI (bc k)) (hB : ∀ k, bc k < 128) (hj : j ≤ ℓ) (hR : Rch bc j) (h0 : (stS bc j).digits = 0) {lo hi : Nat} (hlo : 0 < lo) (hlo2 : lo < 1000) (hhi : hi < 1000) (hs : ∀ c, c < 128 → (takP (stS bc j) c).1 = (decide (lo ≤ c) && decide (c ≤ hi))) :
    (j < ℓ ∧ lo ≤ bc j ∧ bc j ≤ hi ∧ sg bu ℓ (nI lo) (nI hi) (j, false) = (j + 1, false) ∧ sc bu ℓ (j, false) = nI (bc j) ∧ Rch bc (j + 1)) ∨ (sg bu ℓ (nI lo) (nI hi) (j, false) = (j, true) ∧ Stp9 bc ℓ j) := by
  by_cases hl : j < ℓ
  · have esc : sc bu ℓ (j, false) = nI (bc j) := (sc_in hl rfl).trans (hb j hl)
    have hcj := hB j
    have hin := inB_n (c := bc j) (lo := lo) (hi := hi) (by omega) hlo2 hhi
    by_cases z : lo ≤ bc j ∧ bc j ≤ hi
    · left
      have e1 : inB (nI (bc j)) (nI lo) (nI hi) = true := by rw [hin, decide_eq_true z.1, decide_eq_true z.2]; rfl
      refine ⟨hl, z.1, z.2, ?_, esc, Rch_s hR ?_⟩
      · unfold sg
        rw [sgB_2 rfl (by rw [esc]; exact e1)]
        rfl
      · unfold okS
        rw [hs _ hcj, decide_eq_true z.1, decide_eq_true z.2]; rfl
    · right
      have e0 : (decide (lo ≤ bc j) && decide (bc j ≤ hi)) = false := by
        by_cases y : lo ≤ bc j
        · rw [decide_eq_false (p := bc j ≤ hi) (fun q => z ⟨y, q⟩), Bool.and_false]
        · rw [decide_eq_false y, Bool.false_and]
      refine ⟨?_, Or.inr ⟨hl, ?_⟩⟩
      · unfold sg
        rw [sgB_3 (by rw [esc, hin]; exact e0), if_pos rfl]
      · unfold okS
        rw [hs _ hcj]; exact e0
  · right
    have e : j = ℓ := by omega
    refine ⟨?_, Or.inl ⟨e, by rw [← e]; exact h0⟩⟩
    unfold sg
    rw [sgB_3 (by rw [sc_o1 (s := (j, false)) hl, inB_n (c := 0) (by omega) hlo2 hhi, decide_eq_false (p := lo ≤ 0) (by omega), Bool.false_and]), if_pos rfl]
/-! a number -/
theorem tk_in {l sp : Nat} {cl kd : Int32} {nb dg c : Nat} (h : ¬ (c = 59 ∧ 0 < dg)) : takP ⟨some l, sp, cl, kd, nb, dg⟩ c = insP l sp cl kd nb dg c := if_neg h
theorem in_num {l sp : Nat} {cl kd : Int32} {nb dg c : Nat} (h1 : sp < ln5 (shp l)) (h2 : ch5 (shp l) sp = 110) : insP l sp cl kd nb dg c = if c < 48 then (false, ⟨some l, sp, cl, kd, nb, dg⟩) else if 57 < c then (false, ⟨some l, sp, cl, kd, nb, dg⟩) else (okD l nb dg (c - 48), ⟨some l, sp, cl, kd, nuN nb (c - 48), dg + 1⟩) := by
  unfold insP
  rw [if_neg (by omega), if_pos h2]
theorem nu_run {bc : Nat → Nat} {bu : Nat → Int32} {ℓ : Nat} (hb : ∀ k, k < ℓ → bu k = nI (bc k)) (hB : ∀ k, bc k < 128) {l sp : Nat} {cl kd : Int32} (h1 : sp < ln5 (shp l)) (h2 : ch5 (shp l) sp = 110) : ∀ f p v dg, stS bc p = ⟨some l, sp, cl, kd, v, dg⟩ → 0 < dg → Rch bc p → p ≤ ℓ → ℓ < f + p → v ≤ mst (mki l) → lst l ≤ v →
    ∃ e v' dg', nuF bu ℓ (nI (mst (mki l))) f p (nI v) = (e, nI v') ∧ p ≤ e ∧ e ≤ ℓ ∧ Rch bc e ∧ stS bc e = ⟨some l, sp, cl, kd, v', dg'⟩ ∧ 0 < dg' ∧ v' ≤ mst (mki l) ∧ lst l ≤ v' ∧ (∀ i, p ≤ i → i < e → bc i ≠ 59) ∧ (e < ℓ → bc e ≠ 59 → okS bc e = false) := by
  have hm := mst_le (mki l)
  have hl01 : lst l ≤ 1 := by unfold lst; split <;> omega
  intro f
  induction f with
  | zero => intro p v dg _ _ _ h5 h6; omega
  | succ f ih =>
    intro p v dg hs hd hR hp hf hv hlv
    have stop : (p < ℓ → bc p ≠ 59 → okS bc p = false) → nuF bu ℓ (nI (mst (mki l))) (f + 1) p (nI v) = (p, nI v) → ∃ e v' dg', nuF bu ℓ (nI (mst (mki l))) (f + 1) p (nI v) = (e, nI v') ∧ p ≤ e ∧ e ≤ ℓ ∧ Rch bc e ∧ stS bc e = ⟨some l, sp, cl, kd, v', dg'⟩ ∧ 0 < dg' ∧ v' ≤ mst (mki l) ∧ lst l ≤ v' ∧ (∀ i, p ≤ i → i < e → bc i ≠ 59) ∧ (e < ℓ → bc e ≠ 59 → okS bc e = false) :=
      fun a b => ⟨p, v, dg, b, Nat.le_refl _, hp, hR, hs, hd, hv, hlv, fun i i1 i2 => by omega, a⟩
    have hcp := hB p
    by_cases hpl : p < ℓ
    · have ebu := hb p hpl
      by_cases hdig : 48 ≤ bc p ∧ bc p ≤ 57
      · have hin : inB (bu p) (nI 48) (nI 57) = true := by rw [ebu, inB_n (by omega) (by omega) (by omega), decide_eq_true hdig.1, decide_eq_true hdig.2]; rfl
        have ev : nI 10 * nI v + bu p - nI 48 = nI (10 * v + bc p - 48) := by rw [ebu, pk_mul, nI_add, pk_sub (by omega)]
        have e59 : bc p ≠ 59 := by omega
        have etk : takP (stS bc p) (bc p) = (okD l v dg (bc p - 48), ⟨some l, sp, cl, kd, nuN v (bc p - 48), dg + 1⟩) := by
          rw [hs, tk_in (by omega), in_num h1 h2, if_neg (by omega), if_neg (by omega)]
        by_cases hgo : 0 < v ∧ 10 * v + bc p - 48 ≤ mst (mki l)
        · have en : nuN v (bc p - 48) = 10 * v + bc p - 48 := by unfold nuN; omega
          have hok : okS bc p = true := by
            unfold okS
            rw [etk]
            exact okD_t (by unfold leD; rw [decide_eq_false (p := v = 0) (by omega), Bool.and_false]) (by rw [en]; omega) (by rw [en]; omega)
          have hs' : stS bc (p + 1) = ⟨some l, sp, cl, kd, 10 * v + bc p - 48, dg + 1⟩ := by
            show (takP (stS bc p) (bc p)).2 = _
            rw [etk, ← en]
          obtain ⟨e, v', dg', a1, a2, a3, a4, a5, a6, a7, a8, a9, a10⟩ := ih (p + 1) _ _ hs' (by omega) (Rch_s hR hok) (by omega) (by omega) hgo.2 (by omega)
          refine ⟨e, v', dg', ?_, by omega, a3, a4, a5, a6, a7, a8, fun i i1 i2 => ?_, a10⟩
          · simp only [nuF]
            rw [if_pos ⟨(nI_lt (a := 0) hgo.1 (by omega) : nI 0 < nI v), hpl, hin, by rw [ev]; exact nI_nlt (by omega) (by omega)⟩, ev]
            exact a1
          · by_cases z : i = p
            · subst z; exact e59
            · exact a9 i (by omega) i2
        · refine stop (fun _ _ => ?_) ?_
          · unfold okS
            rw [etk]
            by_cases z : v = 0
            · exact okD_1 (by unfold leD; rw [decide_eq_true hd, decide_eq_true z]; rfl)
            · exact okD_3 (by unfold nuN; omega)
          · simp only [nuF]
            rw [if_neg]
            rintro ⟨q1, -, -, q4⟩
            rw [ev] at q4
            have v0 : 0 < v := by
              rcases Nat.eq_zero_or_pos v with z | z
              · subst z; exact absurd q1 (by decide)
              · exact z
            exact q4 (nI_lt (by omega) (by omega))
      · have hin : inB (bu p) (nI 48) (nI 57) = false := by
          rw [ebu, inB_n (by omega) (by omega) (by omega)]
          by_cases y : 48 ≤ bc p
          · rw [decide_eq_false (p := bc p ≤ 57) (by omega), Bool.and_false]
          · rw [decide_eq_false y, Bool.false_and]
        refine stop (fun _ h59 => ?_) ?_
        · unfold okS
          rw [hs, tk_in (by omega), in_num h1 h2]
          by_cases y : bc p < 48
          · rw [if_pos y]
          · rw [if_neg y, if_pos (by omega)]
        · simp only [nuF]
          rw [if_neg]
          rintro ⟨-, -, q3, -⟩
          rw [hin] at q3; cases q3
    · refine stop (fun q _ => absurd q hpl) ?_
      simp only [nuF]
      rw [if_neg]
      rintro ⟨-, q2, -⟩
      exact hpl q2
/-- what is known of a whole order from p to e -/
def Cmp (bc : Nat → Nat) (ℓ p e l : Nat) (cl kd : Int32) (v : Nat) : Prop :=
  p < e ∧ e ≤ ℓ ∧ Rch bc e ∧ (∃ sp dg, stS bc e = ⟨some l, sp, cl, kd, v, dg⟩ ∧ 0 < dg) ∧ v ≤ mst (mki l) ∧ lst l ≤ v ∧ (∀ i, p ≤ i → i < e → bc i ≠ 59) ∧ (e < ℓ → bc e ≠ 59 → okS bc e = false)
theorem num_run {bc : Nat → Nat} {bu : Nat → Int32} {ℓ : Nat} (hb : ∀ k, k < ℓ → bu k = nI (bc k)) (hB : ∀ k, bc k < 128) {l sp : Nat} {cl kd : Int32} (h1 : sp < ln5 (shp l)) (h2 : ch5 (shp l) sp = 110) (h9 : 9 ≤ mst (mki l)) {p j : Nat} (hp : p < j) (hs : stS bc j = ⟨some l, sp, cl, kd, 0, 0⟩) (hR : Rch bc j) (hj : j ≤ ℓ) (h59 : ∀ i, p ≤ i → i < j → bc i ≠ 59) :
    (∃ e, (nmR bu ℓ (nI (lst l)) (nI (mst (mki l))) (j, false)).1 = (e, true) ∧ Stp9 bc ℓ e ∧ Rch bc e) ∨ (∃ e v, nmR bu ℓ (nI (lst l)) (nI (mst (mki l))) (j, false) = ((e, false), nI v) ∧ Cmp bc ℓ p e l cl kd v) := by
  have hm := mst_le (mki l)
  have hl01 : lst l ≤ 1 := by unfold lst; split <;> omega
  have hst : ∀ c, c < 128 → (takP (stS bc j) c).1 = (decide (48 + lst l ≤ c) && decide (c ≤ 57)) := fun c hc => by
    rw [hs, tk_in (by omega), in_num h1 h2]
    by_cases y : c < 48
    · rw [if_pos y, decide_eq_false (p := 48 + lst l ≤ c) (by omega), Bool.false_and]
    · rw [if_neg y]
      by_cases x : 57 < c
      · rw [if_pos x, decide_eq_false (p := c ≤ 57) (by omega), Bool.and_false]
      · rw [if_neg x, decide_eq_true (p := c ≤ 57) (by omega), Bool.and_true]
        show okD l 0 0 (c - 48) = _
        have ed : nuN 0 (c - 48) = c - 48 := by unfold nuN; omega
        by_cases w : 48 + lst l ≤ c
        · rw [decide_eq_true w]
          exact okD_t rfl (by rw [ed]; omega) (by rw [ed]; omega)
        · rw [decide_eq_false w]
          exact okD_2 (by rw [ed]; omega)
  have hz : (stS bc j).digits = 0 := by rw [hs]
  have elo : nI 48 + nI (lst l) = nI (48 + lst l) := nI_add _ _
  rcases sg_step hb hB hj hR hz (lo := 48 + lst l) (hi := 57) (by omega) (by omega) (by omega) hst with ⟨s1, s2, s3, s4, s5, s6⟩ | ⟨s1, s2⟩
  · right
    have hs' : stS bc (j + 1) = ⟨some l, sp, cl, kd, bc j - 48, 1⟩ := by
      show (takP (stS bc j) (bc j)).2 = _
      rw [hs, tk_in (by omega), in_num h1 h2, if_neg (by omega), if_neg (by omega)]
      show (⟨some l, sp, cl, kd, nuN 0 (bc j - 48), 0 + 1⟩ : PS) = _
      unfold nuN
      rw [Nat.zero_mul, Nat.zero_add]
    obtain ⟨e, v', dg', a1, a2, a3, a4, a5, a6, a7, a8, a9, a10⟩ := nu_run hb hB (l := l) (cl := cl) (kd := kd) h1 h2 (ℓ + 1) (j + 1) (bc j - 48) 1 hs' (by omega) s6 (by omega) (by omega) (by omega) (by omega)
    refine ⟨e, v', ?_, by omega, a3, a4, ⟨sp, dg', a5, a6⟩, a7, a8, fun i i1 i2 => ?_, a10⟩
    · unfold nmR
      rw [elo, s4, if_neg (fun q => by cases q), s5, pk_sub (by omega)]
      show (((nuF bu ℓ (nI (mst (mki l))) (ℓ + 1) (j + 1) (nI (bc j - 48))).1, false), (nuF bu ℓ (nI (mst (mki l))) (ℓ + 1) (j + 1) (nI (bc j - 48))).2) = _
      rw [a1]
    · by_cases z : i < j
      · exact h59 i i1 z
      · by_cases y : i = j
        · subst y; omega
        · exact a9 i (by omega) i2
  · left
    refine ⟨j, ?_, s2, hR⟩
    unfold nmR
    rw [elo, s1, if_pos rfl]
