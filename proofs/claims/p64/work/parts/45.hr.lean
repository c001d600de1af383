/-! ===== an hour ===== -/
theorem out_at {R : Nat → Int32} {c i : Nat} (h108 : i ≠ 108) (h8 : i ≠ ix c 8) (h9 : i ≠ ix c 9) (h7 : i ≠ ix c 7) (h106 : i ≠ 106) : outS R c i = R i := by
  simp only [outS]
  rw [upd_n _ _ h108, upd_n _ _ h8]
  unfold lossS
  split
  · rfl
  · rw [upd_n _ _ h9, upd_n _ _ h7, upd_n _ _ h106]
theorem out_8 {R : Nat → Int32} {c : Nat} (hc : c < 8) : outS R c (ix c 8) = nI 0 := by
  simp only [outS]
  rw [upd_n _ _ (by simp only [ix]; omega), upd_s]
theorem out_108 {R : Nat → Int32} {c : Nat} (hc : c < 8) : outS R c 108 = R 108 + nI 1 := by
  simp only [outS]
  rw [upd_s, upd_n _ _ (by simp only [ix]; omega)]
  unfold lossS
  split
  · rfl
  · rw [upd_n _ _ (by simp only [ix]; omega), upd_n _ _ (by simp only [ix]; omega), upd_n _ _ (by decide)]
theorem out_7c {R : Nat → Int32} {c : Nat} (hc : c < 8) (h : isC R c = true) : outS R c (ix c 7) = R (ix c 7) := by
  simp only [outS]
  rw [upd_n _ _ (by simp only [ix]; omega), upd_n _ _ (by simp only [ix]; omega), lossS, if_pos h]
theorem out_7u {R : Nat → Int32} {c : Nat} (hc : c < 8) (h : isC R c = false) : outS R c (ix c 7) = nI 0 := by
  simp only [outS]
  rw [upd_n _ _ (by simp only [ix]; omega), upd_n _ _ (by simp only [ix]; omega), lossS, if_neg (by rw [h]; decide), upd_n _ _ (by simp only [ix]; omega), upd_s]
theorem out_9 {R : Nat → Int32} {c : Nat} (hc : c < 8) : outS R c (ix c 9) = R (ix c 9) ∨ outS R c (ix c 9) = 1 := by
  simp only [outS]
  rw [upd_n _ _ (by simp only [ix]; omega), upd_n _ _ (by simp only [ix]; omega)]
  unfold lossS
  split
  · exact Or.inl rfl
  · exact Or.inr (upd_s ..)
/-- the state behind a sale -/
theorem sale_new {τ : Nat → Int32} {c : Nat} (hc : c < 8) (hG : GLB τ) (hC : CL τ c) (hb : τ (ix c 9) = 0 ∨ τ (ix c 9) = 1) :
    GLB (sellsS τ c).1 ∧ CLI (sellsS τ c).1 c ∧ (∀ c', c' < 8 → c' ≠ c → ∀ w, w < 10 → (sellsS τ c).1 (ix c' w) = τ (ix c' w)) ∧ (∀ i, i < 12 → (sellsS τ c).1 i = τ i) ∧ (sellsS τ c).1 108 = τ 108 + nI 1 := by
  obtain ⟨hp, hcu, ho, hs, hr, hg⟩ := id hG
  obtain ⟨-, -, -, R, l1, l2, ⟨co, de, m1, m2, m3, m4, -⟩, l4, l5⟩ := sale_all hc hp hcu ho hs hC (fun _ => nI 0) (fun _ => nI 0) (fun _ => nI 0)
  generalize (rkS τ (fun _ => nI 0) (fun _ => nI 0) (fun _ => nI 0) c (nP τ c 6)) = q at l1 m1 m2 l4 l5
  rw [l2]
  obtain ⟨g6, g7, g5, gp, gs, gr, -⟩ := id l1
  have hlo : ∀ i, i < 12 → outS R c i = τ i := fun i hi => (out_at (by omega) (by simp only [ix]; omega) (by simp only [ix]; omega) (by simp only [ix]; omega) (by omega)).trans (l1.lo hi)
  have hhi : ∀ i, 98 ≤ i → i ≤ 101 → outS R c i = τ i := fun i h1 h2 => (out_at (by omega) (by simp only [ix]; omega) (by simp only [ix]; omega) (by simp only [ix]; omega) (by omega)).trans (l1.hi hc h1 (by omega))
  have hGS := GLB_congr hlo hhi hG
  have oth : ∀ c', c' < 8 → c' ≠ c → ∀ w, w < 10 → outS R c (ix c' w) = τ (ix c' w) := fun c' h1 h2 w hw => by
    rw [out_at (by simp only [ix]; omega) (by simp only [ix]; omega) (by simp only [ix]; omega) (by simp only [ix]; omega) (by simp only [ix]; omega)]
    exact gr _ (by simp only [ix]; omega) (by simp only [ix]; omega) (by simp only [ix]; omega) (fun k hk => by simp only [ix]; omega) (fun k hk => by simp only [ix]; omega)
  have hk : ∀ k, k < 6 → outS R c (ix c k) = q.2 k := fun k hk => (out_at (by simp only [ix]; omega) (by simp only [ix]; omega) (by simp only [ix]; omega) (by simp only [ix]; omega) (by simp only [ix]; omega)).trans (gp k hk)
  have h6 : outS R c (ix c 6) = nI co := ((out_at (by simp only [ix]; omega) (by simp only [ix]; omega) (by simp only [ix]; omega) (by simp only [ix]; omega) (by simp only [ix]; omega)).trans g6).trans m1
  have hR9 : R (ix c 9) = τ (ix c 9) := gr _ (by simp only [ix]; omega) (by simp only [ix]; omega) (by simp only [ix]; omega) (fun k hk => by simp only [ix]; omega) (fun k hk => by simp only [ix]; omega)
  have hB : CB3 (outS R c) c := by
    refine ⟨fun k hk' => ?_, ⟨co, m3, h6⟩, ?_⟩
    · obtain ⟨a, a1, a2⟩ := l4 k hk'; exact ⟨a, a1, (hk k hk').trans a2⟩
    · rcases out_9 (R := R) hc with z | z
      · rw [z, hR9]; exact hb
      · exact Or.inr z
  obtain ⟨N, n1, n2⟩ := cov_nat hGS.1 hGS.2.1 hB.1 hB.2.1
  refine ⟨hGS, ⟨hB, ?_⟩, oth, hlo, (out_108 hc).trans (congrArg (· + nI 1) (l1.hi hc (by omega) (by omega)))⟩
  cases hcv : isC R c with
  | true =>
    have h7 : outS R c (ix c 7) = nI de := ((out_7c hc hcv).trans g7).trans m2
    have hi := isC_nat n2 h7 n1 m4
    have hcS : isC (outS R c) c = true := by
      rw [isC_cg (σ := R) (fun i hi' => (hlo i hi').trans (l1.lo hi').symm) (fun w hw => ?_)]
      · exact hcv
      · by_cases z : w = 7
        · subst z; exact out_7c hc hcv
        · exact out_at (by simp only [ix]; omega) (by simp only [ix]; omega) (by simp only [ix]; omega) (by simp only [ix]; omega) (by simp only [ix]; omega)
    refine ⟨0, de, by omega, out_8 hc, h7, Or.inl ⟨rfl, hcS, ?_⟩⟩
    rw [hcS] at hi
    have := of_decide_eq_true hi.symm
    omega
  | false =>
    have h7 : outS R c (ix c 7) = nI 0 := out_7u hc hcv
    refine ⟨0, 0, by omega, out_8 hc, h7, Or.inl ⟨rfl, ?_, by omega⟩⟩
    rw [isC_nat n2 h7 n1 (by omega), decide_eq_true (by omega)]
theorem CL_of {σ : Nat → Int32} {c h de : Nat} (hB : CB3 σ c) (h7 : σ (ix c 7) = nI de) (hd : de ≤ 1000000) : CL σ c := ⟨hB.1, hB.2.1, de, hd, h7⟩
theorem lowC_1 (σ : Nat → Int32) (c : Nat) : lowC σ c = low1 σ c := by
  unfold lowC low1
  rw [Int32.sub_eq_add_neg]
  rfl
/-- one client's part of an hour's end -/
theorem dn_step {b : Bool} {s : Nat → Int32} {m : Int32} {x : SL3} {n : Nat} (hn : n < 8) (hG : GLB s) (hQ : CLQ s n (if b = true then 1 else 0)) :
    PcC (lowC s n) n ∧ (cd1 b (s, x) n).1 = (dn1 b (s, m) n).1 ∧ GLB (dn1 b (s, m) n).1 ∧ CLI (dn1 b (s, m) n).1 n ∧ (∀ c', c' < 8 → c' ≠ n → ∀ w, w < 10 → (dn1 b (s, m) n).1 (ix c' w) = s (ix c' w)) ∧ (∀ i, i < 12 → (dn1 b (s, m) n).1 i = s i) ∧ (dn1 b (s, m) n).1 108 - (dn1 b (s, m) n).2 = s 108 - m := by
  obtain ⟨hB, h, de, a1, a2, a3, a4⟩ := id hQ
  have hpc : PcC (lowC s n) n := fun k hk => by
    rw [show lowC s n (ix n k) = s (ix n k) from upd_n _ _ (by simp only [ix]; omega)]
    obtain ⟨a, b1, b2⟩ := hB.1 k hk
    rw [b2]
    exact ⟨nI_le (Nat.zero_le _) (by omega), nI_le b1 (by omega)⟩
  refine ⟨hpc, ?_⟩
  have hK := isK_nat a2 a1
  by_cases y : b = true ∧ isK s n = true
  · obtain ⟨y1, y2⟩ := y
    subst y1
    rw [y2] at hK
    have h1 : 1 ≤ h := of_decide_eq_true hK.symm
    have hu : isC s n = false ∧ de ≤ GG (25 - h + 1) := by
      rcases a4 with ⟨z, -⟩ | ⟨-, z1, z2⟩
      · omega
      · exact ⟨z1, z2⟩
    have hde : de ≤ 1000000 := Nat.le_trans hu.2 (GG_b a1 h1 (by omega))
    have l8 : low1 s n (ix n 8) = nI (h - 1) := by
      unfold low1
      rw [upd_s, a2]
      obtain ⟨h', rfl⟩ : ∃ h', h = h' + 1 := ⟨h - 1, by omega⟩
      exact pk_m1 h'
    have lw : ∀ i, i ≠ ix n 8 → low1 s n i = s i := fun i hi => upd_n _ _ hi
    have hGl : GLB (low1 s n) := GLB_congr (fun i hi => lw i (by simp only [ix]; omega)) (fun i h1 h2 => lw i (by simp only [ix]; omega)) hG
    have hBl : CB3 (low1 s n) n := by
      obtain ⟨b1, ⟨co, b2, b3⟩, b4⟩ := hB
      refine ⟨fun k hk => ?_, ⟨co, b2, (lw _ (by simp only [ix]; omega)).trans b3⟩, ?_⟩
      · obtain ⟨a, c1, c2⟩ := b1 k hk; exact ⟨a, c1, (lw _ (by simp only [ix]; omega)).trans c2⟩
      · rw [lw _ (by simp only [ix]; omega)]; exact b4
    have l7 : low1 s n (ix n 7) = nI de := (lw _ (by simp only [ix]; omega)).trans a3
    by_cases z : h - 1 = 0
    · have z0 : low1 s n (ix n 8) = 0 := by rw [l8, z]; rfl
      have ed : dn1 true (s, m) n = ((sellsS (low1 s n) n).1, m + nI 1) := by
        unfold dn1
        rw [if_pos (by rw [y2]; rfl), if_pos z0]
      have ec : cd1 true (s, x) n = sellC (low1 s n, x) n := by
        rw [← lowC_1]
        exact cd_sell rfl y2 (by rw [lowC_1]; exact z0)
      have hCl := CL_of (h := h) hBl l7 hde
      obtain ⟨hp, hcu, ho, hs, -, -⟩ := id hGl
      have e1 := (sale_all hn hp hcu ho hs hCl x.1 x.2.1 x.2.2).1
      obtain ⟨n1, n2, n3, n4, n5⟩ := sale_new hn hGl hCl hBl.2.2
      rw [ed, ec]
      refine ⟨e1, n1, n2, fun c' h1' h2' w hw => ?_, fun i hi => ?_, ?_⟩
      · exact (n3 c' h1' h2' w hw).trans (lw _ (by simp only [ix]; omega))
      · exact (n4 i hi).trans (lw _ (by simp only [ix]; omega))
      · show (sellsS (low1 s n) n).1 108 - (m + nI 1) = _
        rw [n5, lw 108 (by simp only [ix]; omega), Int32.sub_eq_add_neg, Int32.neg_add, Int32.sub_eq_add_neg, Int32.sub_eq_add_neg, Int32.add_comm (-m), ← Int32.add_assoc, Int32.add_assoc (s 108), Int32.add_right_neg, Int32.add_zero]
    · have z0 : ¬ low1 s n (ix n 8) = 0 := by
        rw [l8]
        exact fun q => z ((nI_eq (a := h - 1) (b := 0) (by omega) (by omega)).mp q)
      have ed : dn1 true (s, m) n = (low1 s n, m) := by
        unfold dn1
        rw [if_pos (by rw [y2]; rfl), if_neg z0]
      have ec : cd1 true (s, x) n = (low1 s n, x) := by
        rw [← lowC_1]
        exact cd_low rfl y2 (by rw [lowC_1]; exact z0)
      rw [ed, ec]
      refine ⟨rfl, hGl, ⟨hBl, h - 1, de, by omega, l8, l7, Or.inr ⟨by omega, ?_, ?_⟩⟩, fun c' h1' h2' w hw => lw _ (by simp only [ix]; omega), fun i hi => lw _ (by simp only [ix]; omega), ?_⟩
      · rw [isC_cg (σ := s) (fun i hi => lw _ (by simp only [ix]; omega)) (fun w hw => lw _ (by simp only [ix]; omega))]; exact hu.1
      · rw [show 25 - (h - 1) + 0 = 25 - h + 1 by omega]; exact hu.2
      · show low1 s n 108 - m = _
        rw [lw 108 (by simp only [ix]; omega)]
  · have hbk : (b && isK s n) = false := by
      cases hb : b <;> cases hk : isK s n <;> first | rfl | exact absurd ⟨hb, hk⟩ y
    have ed : dn1 b (s, m) n = (s, m) := by
      unfold dn1
      exact if_neg (by rw [hbk]; decide)
    rw [ed, cd_no (q := (s, x)) hbk]
    refine ⟨rfl, hG, ⟨hB, h, de, a1, a2, a3, ?_⟩, fun _ _ _ _ _ => rfl, fun _ _ => rfl, rfl⟩
    rcases a4 with z | ⟨z1, z2, z3⟩
    · exact Or.inl z
    · refine Or.inr ⟨z1, z2, ?_⟩
      have hbf : b = false := by
        cases hb : b
        · rfl
        · rw [decide_eq_true z1] at hK; rw [hb, hK] at hbk; cases hbk
      rw [hbf, if_neg (by decide)] at z3
      exact z3
theorem look_id {σ : Nat → Int32} (h : INV σ) : lookN σ 8 = σ := by
  have key : ∀ n, n ≤ 8 → lookN σ n = σ := by
    intro n
    induction n with
    | zero => exact fun _ => rfl
    | succ n ih =>
      intro hn
      simp only [lookN]
      rw [ih (by omega)]
      obtain ⟨-, hh, de, a1, a2, a3, a4⟩ := h.2 n (by omega)
      have hK := isK_nat a2 a1
      have u : upd σ 107 (σ 107 + nI 0) = σ := by
        funext i
        by_cases z : i = 107
        · subst z; rw [upd_s]; exact Int32.add_zero _
        · rw [upd_n _ _ z]
      unfold look1
      rw [u]
      rcases a4 with ⟨z1, z2, -⟩ | ⟨z1, z2, -⟩
      · rw [z2, Bool.true_or, if_neg (by decide), if_pos rfl]
        funext i
        by_cases z : i = ix n 8
        · subst z; rw [upd_s, a2, z1]
        · rw [upd_n _ _ z]
      · rw [decide_eq_true z1] at hK
        rw [z2, hK, Bool.or_true, if_neg (by decide), if_neg (by decide)]
        funext i
        by_cases z : i = ix n 8
        · subst z; rw [upd_s]
        · rw [upd_n _ _ z]
  exact key 8 (Nat.le_refl 8)
theorem dn_all {b : Nat → Bool} {s2 : Nat → Int32} {x : SL3} (hG : GLB s2) (hQ : ∀ c, c < 8 → CLQ s2 c (if b c = true then 1 else 0)) : ∀ n, n ≤ 8 →
    (cdN b (s2, x) n).1 = (dnN b (s2, nI 0) n).1 ∧ GLB (dnN b (s2, nI 0) n).1 ∧ (∀ c, c < 8 → CLQ (dnN b (s2, nI 0) n).1 c (if c < n then 0 else if b c = true then 1 else 0)) ∧ (dnN b (s2, nI 0) n).1 108 - (dnN b (s2, nI 0) n).2 = s2 108 - nI 0 ∧ (∀ j, j < n → PcC (lowC (cdN b (s2, x) j).1 j) j) := by
  intro n
  induction n with
  | zero => exact fun _ => ⟨rfl, hG, fun c hc => by rw [if_neg (by omega)]; exact hQ c hc, rfl, fun j hj => by omega⟩
  | succ n ih =>
    intro hn
    obtain ⟨i1, i2, i3, i4, i5⟩ := ih (by omega)
    have hq := i3 n (by omega)
    rw [if_neg (by omega)] at hq
    obtain ⟨s1, s2', s3, s4, s5, s6, s7⟩ := dn_step (m := (dnN b (s2, nI 0) n).2) (x := (cdN b (s2, x) n).2) (show n < 8 by omega) i2 hq
    have ec : cdN b (s2, x) n = ((dnN b (s2, nI 0) n).1, (cdN b (s2, x) n).2) := by rw [← i1]
    have ed : dnN b (s2, nI 0) n = ((dnN b (s2, nI 0) n).1, (dnN b (s2, nI 0) n).2) := rfl
    have e1 : dnN b (s2, nI 0) (n + 1) = dn1 (b n) ((dnN b (s2, nI 0) n).1, (dnN b (s2, nI 0) n).2) n := rfl
    have e2 : cdN b (s2, x) (n + 1) = cd1 (b n) ((dnN b (s2, nI 0) n).1, (cdN b (s2, x) n).2) n := by
      show cd1 (b n) (cdN b (s2, x) n) n = _
      rw [← ec]
    rw [e1, e2]
    refine ⟨s2', s3, fun c hc => ?_, s7.trans i4, fun j hj => ?_⟩
    · by_cases z : c = n
      · subst z; rw [if_pos (by omega)]; exact s4
      · have hc' := CLQ_congr s6 (s5 c hc z) (i3 c hc)
        by_cases y : c < n
        · rw [if_pos y] at hc'; rw [if_pos (by omega)]; exact hc'
        · rw [if_neg y] at hc'; rw [if_neg (by omega)]; exact hc'
    · by_cases z : j = n
      · subst z; rw [i1]; exact s1
      · exact i5 j (by omega)
theorem isK_h0 (σ : Nat → Int32) : isK (hour0 σ) = isK σ := by
  funext c
  unfold isK hour0
  rw [upd_n _ _ (by simp only [ix]; omega)]
theorem hour_all {σ : Nat → Int32} (h : INV σ) (x : SL3) : PhI (σ, x) ∧ (phC (σ, x)).1 = (hourS σ).1 ∧ INV (hourS σ).1 ∧ (hourS σ).1 108 - (hourS σ).2 = σ 108 := by
  obtain ⟨hG, hC⟩ := id h
  have w0 : ∀ i, i ≠ 102 → hour0 σ i = σ i := fun i hi => upd_n _ _ hi
  have hG0 : GLB (hour0 σ) := GLB_congr (fun i hi => w0 i (by omega)) (fun i h1 h2 => w0 i (by omega)) hG
  have hd0 : ∀ c, c < 8 → ∃ d, d ≤ 1000000 ∧ hour0 σ (ix c 7) = nI d := fun c hc => by
    obtain ⟨-, hh, de, a1, a2, a3, a4⟩ := hC c hc
    refine ⟨de, ?_, (w0 _ (by simp only [ix]; omega)).trans a3⟩
    rcases a4 with ⟨-, -, z⟩ | ⟨z1, -, z⟩
    · omega
    · exact Nat.le_trans z (GG_b a1 z1 (by omega))
  have e1 : hrLN (ph0 (σ, x)) 8 = hrN (hour0 σ) 8 := hr_eq hG0.2.2.2.2.1 hd0 8 (Nat.le_refl 8)
  have wr : ∀ i, i ≠ 104 → (∀ c, c < 8 → i ≠ ix c 7) → hrN (hour0 σ) 8 i = hour0 σ i := fun i h1 h2 => hrN_t h1 8 h2
  have hG1 : GLB (hrN (hour0 σ) 8) := GLB_congr (fun i hi => wr i (by omega) (fun c _ => by simp only [ix]; omega)) (fun i h1 h2 => wr i (by omega) (fun c hc => by simp only [ix]; omega)) hG0
  have wc : ∀ c w, c < 8 → w < 10 → w ≠ 7 → hrN (hour0 σ) 8 (ix c w) = σ (ix c w) := fun c w hc hw h7 => (wr _ (by simp only [ix]; omega) (fun c' _ => by simp only [ix]; omega)).trans (w0 _ (by simp only [ix]; omega))
  have hP1 : ∀ c, c < 8 → CLP (hrN (hour0 σ) 8) c 1 := fun c hc => by
    obtain ⟨⟨b1, ⟨co, b2, b3⟩, b4⟩, hh, de, a1, a2, a3, a4⟩ := hC c hc
    obtain ⟨r, r1, r2⟩ := hG0.2.2.2.2.1
    have hde : de ≤ 1000000 := by
      rcases a4 with ⟨-, -, z⟩ | ⟨z1, -, z⟩
      · omega
      · exact Nat.le_trans z (GG_b a1 z1 (by omega))
    have h7 : hour0 σ (ix c 7) = nI de := (w0 _ (by simp only [ix]; omega)).trans a3
    have e7 : hrN (hour0 σ) 8 (ix c 7) = nI (de + itN de r) := by
      rw [hrN_7 8 c hc (Nat.le_refl 8), h7, intI_n h7 r2 hde r1, nI_add]
    refine ⟨⟨fun k hk => ?_, ⟨co, b2, (wc c 6 hc (by omega) (by omega)).trans b3⟩, ?_⟩, hh, de + itN de r, a1, (wc c 8 hc (by omega) (by omega)).trans a2, e7, fun q => ?_, fun q => ?_⟩
    · obtain ⟨a, c1, c2⟩ := b1 k hk; exact ⟨a, c1, (wc c k hc (by omega) (by omega)).trans c2⟩
    · rw [wc c 9 hc (by omega) (by omega)]; exact b4
    · rcases a4 with ⟨-, -, z⟩ | ⟨z, -⟩
      · exact it_GG (n := 0) z r1
      · omega
    · rcases a4 with ⟨z, -⟩ | ⟨-, -, z⟩
      · omega
      · exact it_GG z r1
  have hKK : ∀ c, c < 8 → isK (hrN (hour0 σ) 8) c = isK σ c := fun c hc => by unfold isK; rw [wc c 8 hc (by omega) (by omega)]
  have hQ2 : ∀ c, c < 8 → CLQ (lookN (hrN (hour0 σ) 8) 8) c (if isK σ c = true then 1 else 0) := fun c hc => by
    have q := look_Q hG1 hc (by omega) (hP1 c hc)
    rw [hKK c hc] at q
    exact q
  obtain ⟨d1, d2, d3, d4, d5⟩ := dn_all (x := x) (GLB_look hG1) hQ2 8 (Nat.le_refl 8)
  have eh : hourS σ = dnN (isK σ) (lookN (hrN (hour0 σ) 8) 8, nI 0) 8 := by unfold hourS; rw [isK_h0]
  have ep : phC (σ, x) = cdN (isK σ) (lookN (hrN (hour0 σ) 8) 8, x) 8 := by unfold phC; rw [e1]
  rw [eh, ep]
  refine ⟨⟨?_, ?_⟩, d1, ⟨d2, fun c hc => ?_⟩, ?_⟩
  · rw [e1]
    intro c hc
    obtain ⟨-, hh, de, a1, a2, -⟩ := hP1 c hc
    rw [a2]; exact nI_le (Nat.zero_le _) (by omega)
  · rw [e1]; exact d5
  · have q := d3 c hc; rw [if_pos hc] at q; exact q
  · rw [d4, look_hi (by omega) (by omega), wr 108 (by decide) (fun c hc => by simp only [ix]; omega), w0 108 (by decide), Int32.sub_eq_add_neg]
    exact Int32.add_zero _
theorem pass_all {σ : Nat → Int32} (h : INV σ) (x : SL3) : ∀ n, (phN (σ, x) n).1 = (pasN σ n).1 ∧ INV (pasN σ n).1 ∧ (pasN σ n).1 108 - (pasN σ n).2 = σ 108 ∧ (∀ j, j < n → PhI (phN (σ, x) j)) := by
  intro n
  induction n with
  | zero => exact ⟨rfl, h, by show σ 108 - nI 0 = _; rw [Int32.sub_eq_add_neg]; exact Int32.add_zero _, fun j hj => by omega⟩
  | succ n ih =>
    obtain ⟨i1, i2, i3, i4⟩ := ih
    obtain ⟨h1, h2, h3, h4⟩ := hour_all i2 (phN (σ, x) n).2
    have e : phN (σ, x) n = ((pasN σ n).1, (phN (σ, x) n).2) := by rw [← i1]
    have e1 : phN (σ, x) (n + 1) = phC ((pasN σ n).1, (phN (σ, x) n).2) := by
      show phC (phN (σ, x) n) = _
      rw [← e]
    have e2 : pasN σ (n + 1) = ((hourS (pasN σ n).1).1, (pasN σ n).2 + (hourS (pasN σ n).1).2) := rfl
    rw [e1, e2]
    refine ⟨h2, h3, ?_, fun j hj => ?_⟩
    · show (hourS (pasN σ n).1).1 108 - ((pasN σ n).2 + (hourS (pasN σ n).1).2) = _
      rw [← i3, ← h4, Int32.sub_eq_add_neg, Int32.neg_add, Int32.sub_eq_add_neg, Int32.sub_eq_add_neg, Int32.add_comm (-(pasN σ n).2), ← Int32.add_assoc, Int32.sub_eq_add_neg ((hourS (pasN σ n).1).1 108)]
    · by_cases z : j = n
      · subst z; rw [e]; exact h1
      · exact i4 j (by omega)
