/-! ===== class and reference: an order ===== -/
theorem dk1 (c m : Nat) : decide (c < m + 1) = decide (c ≤ m) := decide_eq_decide.mpr (by omega)
theorem dk2 (c m : Nat) : decide (c = m) = (decide (m ≤ c) && decide (c ≤ m)) := by
  by_cases h : c = m
  · rw [decide_eq_true h, decide_eq_true (by omega), decide_eq_true (by omega)]; rfl
  · rw [decide_eq_false h]
    by_cases h2 : m ≤ c
    · rw [decide_eq_false (p := c ≤ m) (by omega), Bool.and_false]
    · rw [decide_eq_false h2, Bool.false_and]
theorem tk0 {l sp : Nat} {cl kd : Int32} {nb c : Nat} : takP ⟨some l, sp, cl, kd, nb, 0⟩ c = insP l sp cl kd nb 0 c := tk_in (by omega)
theorem in0a {l : Nat} (hl : shp l = 0) (cl kd : Int32) (c : Nat) : insP l 0 cl kd 0 0 c = (decide (48 ≤ c) && decide (c < 54), ⟨some l, 1, cl, nI c - nI 48, 0, 0⟩) := by
  unfold insP
  rw [hl]
  rfl
theorem in0b {l : Nat} (hl : shp l = 0) (cl kd : Int32) (c : Nat) : insP l 1 cl kd 0 0 c = (decide (c = 61), ⟨some l, 2, cl, kd, 0, 0⟩) := by
  unfold insP
  rw [hl]
  rfl
theorem in2a {l : Nat} (hl : shp l = 2) (cl kd : Int32) (c : Nat) : insP l 0 cl kd 0 0 c = (decide (48 ≤ c) && decide (c < 56), ⟨some l, 1, nI c - nI 48, kd, 0, 0⟩) := by
  unfold insP
  rw [hl]
  rfl
theorem in2b {l : Nat} (hl : shp l = 2) (cl kd : Int32) (c : Nat) : insP l 1 cl kd 0 0 c = (decide (c = 61), ⟨some l, 2, cl, kd, 0, 0⟩) := by
  unfold insP
  rw [hl]
  rfl
theorem in1a {l : Nat} (hl : shp l = 1) (cl kd : Int32) (c : Nat) : insP l 0 cl kd 0 0 c = (decide (48 ≤ c) && decide (c < 56), ⟨some l, 1, nI c - nI 48, kd, 0, 0⟩) := by
  unfold insP
  rw [hl]
  rfl
theorem in1b {l : Nat} (hl : shp l = 1) (cl kd : Int32) (c : Nat) : insP l 1 cl kd 0 0 c = (decide (c = 58), ⟨some l, 2, cl, kd, 0, 0⟩) := by
  unfold insP
  rw [hl]
  rfl
theorem in1c {l : Nat} (hl : shp l = 1) (cl kd : Int32) (c : Nat) : insP l 2 cl kd 0 0 c = (decide (48 ≤ c) && decide (c < 54), ⟨some l, 3, cl, nI c - nI 48, 0, 0⟩) := by
  unfold insP
  rw [hl]
  rfl
theorem in1d {l : Nat} (hl : shp l = 1) (cl kd : Int32) (c : Nat) : insP l 3 cl kd 0 0 c = (decide (c = 42), ⟨some l, 4, cl, kd, 0, 0⟩) := by
  unfold insP
  rw [hl]
  rfl
theorem ors_0 {bc : Nat → Nat} {bu : Nat → Int32} {ℓ : Nat} (hb : ∀ k, k < ℓ → bu k = nI (bc k)) (hB : ∀ k, bc k < 128) {l : Nat} (hl : shp l = 0) (h9 : 9 ≤ mst (mki l)) {p : Nat} (hp : p < ℓ) (hbp : bc p ≠ 59) (hs : stS bc (p + 1) = ⟨some l, 0, nI 0, nI 0, 0, 0⟩) (hR : Rch bc (p + 1)) :
    (∃ e, (orS bu ℓ (nI 53) (nI (lst l)) (nI (mst (mki l))) (p + 1, false)).1 = (e, true) ∧ Stp9 bc ℓ e ∧ Rch bc e) ∨ (∃ e v one, orS bu ℓ (nI 53) (nI (lst l)) (nI (mst (mki l))) (p + 1, false) = ((e, false), (nI one, (nI 0, nI v))) ∧ one < 6 ∧ Cmp bc ℓ p e l (nI 0) (nI one) v) := by
  rcases sg_step hb hB (show p + 1 ≤ ℓ by omega) hR (by rw [hs]) (lo := 48) (hi := 53) (by omega) (by omega) (by omega) (fun c _ => by rw [hs, tk0, in0a hl, dk1 c 53]) with ⟨a1, a2, a3, a4, a5, a6⟩ | ⟨a1, a2⟩
  · have hs2 : stS bc (p + 2) = ⟨some l, 1, nI 0, nI (bc (p + 1) - 48), 0, 0⟩ := by
      show (takP (stS bc (p + 1)) (bc (p + 1))).2 = _
      rw [hs, tk0, in0a hl, pk_sub a2]
    rcases sg_step hb hB (show p + 2 ≤ ℓ by omega) a6 (by rw [hs2]) (lo := 61) (hi := 61) (by omega) (by omega) (by omega) (fun c _ => by rw [hs2, tk0, in0b hl, dk2 c 61]) with ⟨b1, b2, b3, b4, b5, b6⟩ | ⟨b1, b2⟩
    · have hs3 : stS bc (p + 3) = ⟨some l, 2, nI 0, nI (bc (p + 1) - 48), 0, 0⟩ := by
        show (takP (stS bc (p + 2)) (bc (p + 2))).2 = _
        rw [hs2, tk0, in0b hl]
      rcases num_run (sp := 2) hb hB (by rw [hl]; decide) (by rw [hl]; decide) h9 (show p < p + 3 by omega) hs3 b6 (by omega) (fun i i1 i2 => by
        by_cases z : i = p
        · subst z; exact hbp
        · by_cases y : i = p + 1
          · subst y; omega
          · have : i = p + 2 := by omega
            subst this; omega) with ⟨e, e1, e2, e3⟩ | ⟨e, v, e1, e2⟩
      · left
        refine ⟨e, ?_, e2, e3⟩
        unfold orS
        rw [a4]
        simp only
        rw [b4]
        exact e1
      · right
        refine ⟨e, v, bc (p + 1) - 48, ?_, by omega, e2⟩
        unfold orS
        rw [a4, a5, pk_sub a2]
        try simp only
        rw [b4, e1]
    · left
      refine ⟨p + 2, ?_, b2, a6⟩
      unfold orS
      rw [a4]
      simp only
      rw [b1]
      exact nm_bad _ _ _ _ _
  · left
    refine ⟨p + 1, ?_, a2, hR⟩
    unfold orS
    rw [a1]
    simp only
    rw [sg_bad]
    exact nm_bad _ _ _ _ _
theorem ors_2 {bc : Nat → Nat} {bu : Nat → Int32} {ℓ : Nat} (hb : ∀ k, k < ℓ → bu k = nI (bc k)) (hB : ∀ k, bc k < 128) {l : Nat} (hl : shp l = 2) (h9 : 9 ≤ mst (mki l)) {p : Nat} (hp : p < ℓ) (hbp : bc p ≠ 59) (hs : stS bc (p + 1) = ⟨some l, 0, nI 0, nI 0, 0, 0⟩) (hR : Rch bc (p + 1)) :
    (∃ e, (orS bu ℓ (nI 55) (nI (lst l)) (nI (mst (mki l))) (p + 1, false)).1 = (e, true) ∧ Stp9 bc ℓ e ∧ Rch bc e) ∨ (∃ e v one, orS bu ℓ (nI 55) (nI (lst l)) (nI (mst (mki l))) (p + 1, false) = ((e, false), (nI one, (nI 0, nI v))) ∧ one < 8 ∧ Cmp bc ℓ p e l (nI one) (nI 0) v) := by
  rcases sg_step hb hB (show p + 1 ≤ ℓ by omega) hR (by rw [hs]) (lo := 48) (hi := 55) (by omega) (by omega) (by omega) (fun c _ => by rw [hs, tk0, in2a hl, dk1 c 55]) with ⟨a1, a2, a3, a4, a5, a6⟩ | ⟨a1, a2⟩
  · have hs2 : stS bc (p + 2) = ⟨some l, 1, nI (bc (p + 1) - 48), nI 0, 0, 0⟩ := by
      show (takP (stS bc (p + 1)) (bc (p + 1))).2 = _
      rw [hs, tk0, in2a hl, pk_sub a2]
    rcases sg_step hb hB (show p + 2 ≤ ℓ by omega) a6 (by rw [hs2]) (lo := 61) (hi := 61) (by omega) (by omega) (by omega) (fun c _ => by rw [hs2, tk0, in2b hl, dk2 c 61]) with ⟨b1, b2, b3, b4, b5, b6⟩ | ⟨b1, b2⟩
    · have hs3 : stS bc (p + 3) = ⟨some l, 2, nI (bc (p + 1) - 48), nI 0, 0, 0⟩ := by
        show (takP (stS bc (p + 2)) (bc (p + 2))).2 = _
        rw [hs2, tk0, in2b hl]
      rcases num_run (sp := 2) hb hB (by rw [hl]; decide) (by rw [hl]; decide) h9 (show p < p + 3 by omega) hs3 b6 (by omega) (fun i i1 i2 => by
        by_cases z : i = p
        · subst z; exact hbp
        · by_cases y : i = p + 1
          · subst y; omega
          · have : i = p + 2 := by omega
            subst this; omega) with ⟨e, e1, e2, e3⟩ | ⟨e, v, e1, e2⟩
      · left
        refine ⟨e, ?_, e2, e3⟩
        unfold orS
        rw [a4]
        simp only
        rw [b4]
        exact e1
      · right
        refine ⟨e, v, bc (p + 1) - 48, ?_, by omega, e2⟩
        unfold orS
        rw [a4, a5, pk_sub a2]
        try simp only
        rw [b4, e1]
    · left
      refine ⟨p + 2, ?_, b2, a6⟩
      unfold orS
      rw [a4]
      simp only
      rw [b1]
      exact nm_bad _ _ _ _ _
  · left
    refine ⟨p + 1, ?_, a2, hR⟩
    unfold orS
    rw [a1]
    simp only
    rw [sg_bad]
    exact nm_bad _ _ _ _ _
theorem orp_1 {bc : Nat → Nat} {bu : Nat → Int32} {ℓ : Nat} (hb : ∀ k, k < ℓ → bu k = nI (bc k)) (hB : ∀ k, bc k < 128) {l : Nat} (hl : shp l = 1) (h1 : lst l = 1) (h50 : mst (mki l) = 50) {p : Nat} (hp : p < ℓ) (hbp : bc p ≠ 59) (hs : stS bc (p + 1) = ⟨some l, 0, nI 0, nI 0, 0, 0⟩) (hR : Rch bc (p + 1)) :
    (∃ e, (orP bu ℓ (p + 1, false)).1 = (e, true) ∧ Stp9 bc ℓ e ∧ Rch bc e) ∨ (∃ e v one kind, orP bu ℓ (p + 1, false) = ((e, false), (nI one, (nI kind, nI v))) ∧ one < 8 ∧ kind < 6 ∧ Cmp bc ℓ p e l (nI one) (nI kind) v) := by
  rcases sg_step hb hB (show p + 1 ≤ ℓ by omega) hR (by rw [hs]) (lo := 48) (hi := 55) (by omega) (by omega) (by omega) (fun c _ => by rw [hs, tk0, in1a hl, dk1 c 55]) with ⟨a1, a2, a3, a4, a5, a6⟩ | ⟨a1, a2⟩
  · have hs2 : stS bc (p + 2) = ⟨some l, 1, nI (bc (p + 1) - 48), nI 0, 0, 0⟩ := by
      show (takP (stS bc (p + 1)) (bc (p + 1))).2 = _
      rw [hs, tk0, in1a hl, pk_sub a2]
    rcases sg_step hb hB (show p + 2 ≤ ℓ by omega) a6 (by rw [hs2]) (lo := 58) (hi := 58) (by omega) (by omega) (by omega) (fun c _ => by rw [hs2, tk0, in1b hl, dk2 c 58]) with ⟨b1, b2, b3, b4, b5, b6⟩ | ⟨b1, b2⟩
    · have e2 : orP2 bu ℓ (p + 1, false) = (p + 3, false) := by unfold orP2; rw [a4, b4]
      have hs3 : stS bc (p + 3) = ⟨some l, 2, nI (bc (p + 1) - 48), nI 0, 0, 0⟩ := by
        show (takP (stS bc (p + 2)) (bc (p + 2))).2 = _
        rw [hs2, tk0, in1b hl]
      rcases sg_step hb hB (show p + 3 ≤ ℓ by omega) b6 (by rw [hs3]) (lo := 48) (hi := 53) (by omega) (by omega) (by omega) (fun c _ => by rw [hs3, tk0, in1c hl, dk1 c 53]) with ⟨c1, c2, c3, c4, c5, c6⟩ | ⟨c1, c2⟩
      · have hs4 : stS bc (p + 4) = ⟨some l, 3, nI (bc (p + 1) - 48), nI (bc (p + 3) - 48), 0, 0⟩ := by
          show (takP (stS bc (p + 3)) (bc (p + 3))).2 = _
          rw [hs3, tk0, in1c hl, pk_sub c2]
        rcases sg_step hb hB (show p + 4 ≤ ℓ by omega) c6 (by rw [hs4]) (lo := 42) (hi := 42) (by omega) (by omega) (by omega) (fun c _ => by rw [hs4, tk0, in1d hl, dk2 c 42]) with ⟨f1, f2, f3, f4, f5, f6⟩ | ⟨f1, f2⟩
        · have e4 : orP4 bu ℓ (p + 1, false) = (p + 5, false) := by unfold orP4; rw [e2, c4, f4]
          have hs5 : stS bc (p + 5) = ⟨some l, 4, nI (bc (p + 1) - 48), nI (bc (p + 3) - 48), 0, 0⟩ := by
            show (takP (stS bc (p + 4)) (bc (p + 4))).2 = _
            rw [hs4, tk0, in1d hl]
          rcases num_run (sp := 4) hb hB (by rw [hl]; decide) (by rw [hl]; decide) (by omega) (show p < p + 5 by omega) hs5 f6 (by omega) (fun i i1 i2 => by
            by_cases z : i = p
            · subst z; exact hbp
            · by_cases y : i = p + 1
              · subst y; omega
              · by_cases x : i = p + 2
                · subst x; omega
                · by_cases w : i = p + 3
                  · subst w; omega
                  · have : i = p + 4 := by omega
                    subst this; omega) with ⟨e, g1, g2, g3⟩ | ⟨e, v, g1, g2⟩
          · left
            refine ⟨e, ?_, g2, g3⟩
            unfold orP
            rw [e4]
            rw [h1, h50] at g1
            exact g1
          · right
            refine ⟨e, v, bc (p + 1) - 48, bc (p + 3) - 48, ?_, by omega, by omega, g2⟩
            unfold orP
            rw [h1, h50] at g1
            rw [e4, e2, a5, c5, pk_sub a2, pk_sub c2, g1]
        · left
          refine ⟨p + 4, ?_, f2, c6⟩
          unfold orP orP4
          rw [e2, c4, f1]
          exact nm_bad bu ℓ (nI 1) (nI 50) _
      · left
        refine ⟨p + 3, ?_, c2, b6⟩
        unfold orP orP4
        rw [e2, c1, sg_bad]
        exact nm_bad bu ℓ (nI 1) (nI 50) _
    · left
      refine ⟨p + 2, ?_, b2, a6⟩
      have e2 : orP2 bu ℓ (p + 1, false) = (p + 2, true) := by unfold orP2; rw [a4, b1]
      unfold orP orP4
      rw [e2, sg_bad, sg_bad]
      exact nm_bad bu ℓ (nI 1) (nI 50) _
  · left
    refine ⟨p + 1, ?_, a2, hR⟩
    have e2 : orP2 bu ℓ (p + 1, false) = (p + 1, true) := by unfold orP2; rw [a1, sg_bad]
    unfold orP orP4
    rw [e2, sg_bad, sg_bad]
    exact nm_bad bu ℓ (nI 1) (nI 50) _
theorem orh_3 {bc : Nat → Nat} {bu : Nat → Int32} {ℓ : Nat} (hb : ∀ k, k < ℓ → bu k = nI (bc k)) (hB : ∀ k, bc k < 128) {p : Nat} (hp : p < ℓ) (hbp : bc p ≠ 59) (hs : stS bc (p + 1) = ⟨some 104, 0, nI 0, nI 0, 0, 0⟩) (hR : Rch bc (p + 1)) :
    (∃ e, (orH bu ℓ (p + 1, false)).1 = (e, true) ∧ Stp9 bc ℓ e ∧ Rch bc e) ∨ (∃ e v, orH bu ℓ (p + 1, false) = ((e, false), (nI 0, (nI 0, nI v))) ∧ Cmp bc ℓ p e 104 (nI 0) (nI 0) v) := by
  rcases num_run (l := 104) (sp := 0) hb hB (by decide) (by decide) (by decide) (show p < p + 1 by omega) hs hR (by omega) (fun i i1 i2 => by
    have : i = p := by omega
    subst this; exact hbp) with ⟨e, g1, g2, g3⟩ | ⟨e, v, g1, g2⟩
  · exact Or.inl ⟨e, g1, g2, g3⟩
  · right
    refine ⟨e, v, ?_, g2⟩
    unfold orH
    rw [show (nmR bu ℓ (nI 1) (nI 100) (p + 1, false)) = ((e, false), nI v) from g1]
/-- the letter, the reference's one and kind, the class's client and kind -/
def Okc (l one kind c k : Nat) : Prop := ((l = 112 ∨ l = 99) ∧ c = 0 ∧ k = one ∧ kind = 0 ∧ one < 6) ∨ ((l = 43 ∨ l = 45) ∧ c = one ∧ k = kind ∧ one < 8 ∧ kind < 6) ∨ ((l = 108 ∨ l = 98) ∧ c = one ∧ k = 0 ∧ kind = 0 ∧ one < 8) ∨ (l = 104 ∧ c = 0 ∧ k = 0 ∧ one = 0 ∧ kind = 0)
theorem ltR_q {bc : Nat → Nat} {bu : Nat → Int32} {ℓ p : Nat} (hb : ∀ k, k < ℓ → bu k = nI (bc k)) (hB : ∀ k, bc k < 128) (hp : p < ℓ) (x : Nat) (hx : x < 128) : ltR bu ℓ p = nI x ↔ bc p = x := by
  unfold ltR
  rw [if_pos hp, hb p hp]
  have := hB p
  exact nI_eq (by omega) (by omega)
theorem ord_all {bc : Nat → Nat} {bu : Nat → Int32} {ℓ p : Nat} (hb : ∀ k, k < ℓ → bu k = nI (bc k)) (hB : ∀ k, bc k < 128) (hp : p ≤ ℓ) (hR : Rch bc p) (hs : stS bc p = PS0) :
    (∃ e, (ordR bu ℓ p).1 = (e, true) ∧ Stp9 bc ℓ e ∧ Rch bc e ∧ e ≤ ℓ) ∨ (∃ e l one kind c k v, ordR bu ℓ p = ((e, false), (nI one, (nI kind, nI v))) ∧ ltR bu ℓ p = nI l ∧ Okc l one kind c k ∧ Cmp bc ℓ p e l (nI c) (nI k) v) := by
  have up : (∃ e, (ordR bu ℓ p).1 = (e, true) ∧ Stp9 bc ℓ e ∧ Rch bc e) → (∃ e, (ordR bu ℓ p).1 = (e, true) ∧ Stp9 bc ℓ e ∧ Rch bc e ∧ e ≤ ℓ) := by
    rintro ⟨e, e1, e2, e3⟩
    refine ⟨e, e1, e2, e3, ?_⟩
    have := ordR_le (bu := bu) hp
    rw [e1] at this
    exact this
  by_cases hl : p < ℓ
  · have q : ∀ x, x < 128 → (ltR bu ℓ p = nI x ↔ bc p = x) := fun x hx => ltR_q hb hB hl x hx
    have hst : stS bc (p + 1) = ⟨some (bc p), 0, nI 0, nI 0, 0, 0⟩ := by
      show (takP (stS bc p) (bc p)).2 = _
      rw [hs]; rfl
    have hok : okS bc p = !decide (shp (bc p) = 4) := by
      unfold okS
      rw [hs]; rfl
    by_cases l112 : bc p = 112
    · have hR1 : Rch bc (p + 1) := Rch_s hR (by rw [hok, l112]; rfl)
      rw [l112] at hst
      have eo : ordR bu ℓ p = orS bu ℓ (nI 53) (nI (lst 112)) (nI (mst (mki 112))) (p + 1, false) := by unfold ordR; rw [if_pos ((q 112 (by omega)).mpr l112)]; rfl
      rcases ors_0 hb hB (l := 112) rfl (by decide) hl (by omega) hst hR1 with z | ⟨e, v, one, z1, z2, z3⟩
      · exact Or.inl (up (by rw [eo]; exact z))
      · exact Or.inr ⟨e, 112, one, 0, 0, one, v, eo.trans z1, (q 112 (by omega)).mpr l112, Or.inl ⟨Or.inl rfl, rfl, rfl, rfl, z2⟩, z3⟩
    by_cases l99 : bc p = 99
    · have hR1 : Rch bc (p + 1) := Rch_s hR (by rw [hok, l99]; rfl)
      rw [l99] at hst
      have eo : ordR bu ℓ p = orS bu ℓ (nI 53) (nI (lst 99)) (nI (mst (mki 99))) (p + 1, false) := by unfold ordR; rw [if_neg (fun y => l112 ((q 112 (by omega)).mp y)), if_pos ((q 99 (by omega)).mpr l99)]; rfl
      rcases ors_0 hb hB (l := 99) rfl (by decide) hl (by omega) hst hR1 with z | ⟨e, v, one, z1, z2, z3⟩
      · exact Or.inl (up (by rw [eo]; exact z))
      · exact Or.inr ⟨e, 99, one, 0, 0, one, v, eo.trans z1, (q 99 (by omega)).mpr l99, Or.inl ⟨Or.inr rfl, rfl, rfl, rfl, z2⟩, z3⟩
    by_cases l43 : bc p = 43
    · have hR1 : Rch bc (p + 1) := Rch_s hR (by rw [hok, l43]; rfl)
      rw [l43] at hst
      have eo : ordR bu ℓ p = orP bu ℓ (p + 1, false) := by unfold ordR; rw [if_neg (fun y => l112 ((q 112 (by omega)).mp y)), if_neg (fun y => l99 ((q 99 (by omega)).mp y)), if_pos ((q 43 (by omega)).mpr l43)]
      rcases orp_1 hb hB (l := 43) rfl rfl rfl hl (by omega) hst hR1 with z | ⟨e, v, one, kind, z1, z2, z3, z4⟩
      · exact Or.inl (up (by rw [eo]; exact z))
      · exact Or.inr ⟨e, 43, one, kind, one, kind, v, eo.trans z1, (q 43 (by omega)).mpr l43, Or.inr (Or.inl ⟨Or.inl rfl, rfl, rfl, z2, z3⟩), z4⟩
    by_cases l45 : bc p = 45
    · have hR1 : Rch bc (p + 1) := Rch_s hR (by rw [hok, l45]; rfl)
      rw [l45] at hst
      have eo : ordR bu ℓ p = orP bu ℓ (p + 1, false) := by unfold ordR; rw [if_neg (fun y => l112 ((q 112 (by omega)).mp y)), if_neg (fun y => l99 ((q 99 (by omega)).mp y)), if_neg (fun y => l43 ((q 43 (by omega)).mp y)), if_pos ((q 45 (by omega)).mpr l45)]
      rcases orp_1 hb hB (l := 45) rfl rfl rfl hl (by omega) hst hR1 with z | ⟨e, v, one, kind, z1, z2, z3, z4⟩
      · exact Or.inl (up (by rw [eo]; exact z))
      · exact Or.inr ⟨e, 45, one, kind, one, kind, v, eo.trans z1, (q 45 (by omega)).mpr l45, Or.inr (Or.inl ⟨Or.inr rfl, rfl, rfl, z2, z3⟩), z4⟩
    by_cases l108 : bc p = 108
    · have hR1 : Rch bc (p + 1) := Rch_s hR (by rw [hok, l108]; rfl)
      rw [l108] at hst
      have eo : ordR bu ℓ p = orS bu ℓ (nI 55) (nI (lst 108)) (nI (mst (mki 108))) (p + 1, false) := by unfold ordR; rw [if_neg (fun y => l112 ((q 112 (by omega)).mp y)), if_neg (fun y => l99 ((q 99 (by omega)).mp y)), if_neg (fun y => l43 ((q 43 (by omega)).mp y)), if_neg (fun y => l45 ((q 45 (by omega)).mp y)), if_pos ((q 108 (by omega)).mpr l108)]; rfl
      rcases ors_2 hb hB (l := 108) rfl (by decide) hl (by omega) hst hR1 with z | ⟨e, v, one, z1, z2, z3⟩
      · exact Or.inl (up (by rw [eo]; exact z))
      · exact Or.inr ⟨e, 108, one, 0, one, 0, v, eo.trans z1, (q 108 (by omega)).mpr l108, Or.inr (Or.inr (Or.inl ⟨Or.inl rfl, rfl, rfl, rfl, z2⟩)), z3⟩
    by_cases l98 : bc p = 98
    · have hR1 : Rch bc (p + 1) := Rch_s hR (by rw [hok, l98]; rfl)
      rw [l98] at hst
      have eo : ordR bu ℓ p = orS bu ℓ (nI 55) (nI (lst 98)) (nI (mst (mki 98))) (p + 1, false) := by unfold ordR; rw [if_neg (fun y => l112 ((q 112 (by omega)).mp y)), if_neg (fun y => l99 ((q 99 (by omega)).mp y)), if_neg (fun y => l43 ((q 43 (by omega)).mp y)), if_neg (fun y => l45 ((q 45 (by omega)).mp y)), if_neg (fun y => l108 ((q 108 (by omega)).mp y)), if_pos ((q 98 (by omega)).mpr l98)]; rfl
      rcases ors_2 hb hB (l := 98) rfl (by decide) hl (by omega) hst hR1 with z | ⟨e, v, one, z1, z2, z3⟩
      · exact Or.inl (up (by rw [eo]; exact z))
      · exact Or.inr ⟨e, 98, one, 0, one, 0, v, eo.trans z1, (q 98 (by omega)).mpr l98, Or.inr (Or.inr (Or.inl ⟨Or.inr rfl, rfl, rfl, rfl, z2⟩)), z3⟩
    by_cases l104 : bc p = 104
    · have hR1 : Rch bc (p + 1) := Rch_s hR (by rw [hok, l104]; rfl)
      rw [l104] at hst
      have eo : ordR bu ℓ p = orH bu ℓ (p + 1, false) := by unfold ordR; rw [if_neg (fun y => l112 ((q 112 (by omega)).mp y)), if_neg (fun y => l99 ((q 99 (by omega)).mp y)), if_neg (fun y => l43 ((q 43 (by omega)).mp y)), if_neg (fun y => l45 ((q 45 (by omega)).mp y)), if_neg (fun y => l108 ((q 108 (by omega)).mp y)), if_neg (fun y => l98 ((q 98 (by omega)).mp y)), if_pos ((q 104 (by omega)).mpr l104)]
      rcases orh_3 hb hB hl (by omega) hst hR1 with z | ⟨e, v, z1, z3⟩
      · exact Or.inl (up (by rw [eo]; exact z))
      · exact Or.inr ⟨e, 104, 0, 0, 0, 0, v, eo.trans z1, (q 104 (by omega)).mpr l104, Or.inr (Or.inr (Or.inr ⟨rfl, rfl, rfl, rfl, rfl⟩)), z3⟩
    · left
      have eo : (ordR bu ℓ p).1 = (p, true) := by
        unfold ordR
        rw [if_neg (fun y => l112 ((q 112 (by omega)).mp y)), if_neg (fun y => l99 ((q 99 (by omega)).mp y)), if_neg (fun y => l43 ((q 43 (by omega)).mp y)), if_neg (fun y => l45 ((q 45 (by omega)).mp y)), if_neg (fun y => l108 ((q 108 (by omega)).mp y)), if_neg (fun y => l98 ((q 98 (by omega)).mp y)), if_neg (fun y => l104 ((q 104 (by omega)).mp y))]
        unfold orS
        rw [sg_bad, sg_bad]
        exact nm_bad bu ℓ (nI 1) (nI 100) _
      refine ⟨p, eo, Or.inr ⟨hl, ?_⟩, hR, hp⟩
      rw [hok]
      have : shp (bc p) = 4 := by unfold shp; rw [if_neg (by omega), if_neg (by omega), if_neg (by omega), if_neg l104]
      rw [this]; rfl
  · left
    have hpl : p = ℓ := by omega
    have e0 : ltR bu ℓ p = nI 0 := if_neg hl
    have eo : (ordR bu ℓ p).1 = (p, true) := by
      unfold ordR
      rw [e0, if_neg (by decide), if_neg (by decide), if_neg (by decide), if_neg (by decide), if_neg (by decide), if_neg (by decide), if_neg (by decide)]
      unfold orS
      rw [sg_bad, sg_bad]
      exact nm_bad bu ℓ (nI 1) (nI 100) _
    refine ⟨p, eo, Or.inl ⟨hpl, ?_⟩, hR, hp⟩
    rw [← hpl, hs]
    rfl
