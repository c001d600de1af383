/-! ===== the law's steps: texts, questions ===== -/
/-- with a truth for an answer -/
def ST4 (ML MX : MT) (as : List Value) (w : PW) : Prop := ∃ (kk rb : Int32) (u v : PW) (fo : Nat → Int64), Ct ML (.ref 7 :: (as ++ [.ref 107])) w (d1 (some (.int kk)) u) nx ∧ Ct MX (.ref 0 :: as) u (d1 (some (.int rb)) v) nx ∧ Ct mX4_thrown [.ref 0] v (d1 (some (.int kk)) v) nx ∧ (∃ fs, u[0]? = some (.inr (4, fs))) ∧ (∃ fs, v[0]? = some (.inr (4, fs))) ∧ v[107]? = some (oc fo) ∧ (kk = 0 → (rb = nI 0 ∧ fo 0 = lN 0) ∨ (rb = nI 1 ∧ fo 0 = lN 1)) ∧ SR v
theorem st4_of {ML MX : MT} {as : List Value} {w : PW} {x : Bool} (h : ∃ (kk : Int32) (u v : PW) (fo : Nat → Int64), Ct ML (.ref 7 :: (as ++ [.ref 107])) w (d1 (some (.int kk)) u) nx ∧ Ct MX (.ref 0 :: as) u (d1 (some (.int (bI x))) v) nx ∧ Ct mX4_thrown [.ref 0] v (d1 (some (.int kk)) v) nx ∧ (∃ fs, u[0]? = some (.inr (4, fs))) ∧ (∃ fs, v[0]? = some (.inr (4, fs))) ∧ v[107]? = some (oc fo) ∧ (kk = 0 → fo 0 = if x = true then lN 1 else lN 0) ∧ SR v) : ST4 ML MX as w := by
  obtain ⟨kk, u, v, fo, a1, a2, a3, a4, a5, a6, a7, a8⟩ := h
  refine ⟨kk, bI x, u, v, fo, a1, a2, a3, a4, a5, a6, fun q => ?_, a8⟩
  cases x
  · exact Or.inl ⟨rfl, a7 q⟩
  · exact Or.inr ⟨rfl, a7 q⟩
section FIN4
variable {ML MX : MT} {as : List Value} {w : PW} {kk : Int32} {x : Bool} {σ0 z z' cs sl pl ks sf : Nat → Int32} {Y Y' : RY} {ℓ n b : Nat} {s : PS} {ρ : Nat → Nat} {sv : Nat → Nat} {T : Nat → Nat → Int32} {fo : Nat → Int64}
theorem fin_x4 (hL : Ct ML (.ref 7 :: (as ++ [.ref 107])) w (d1 (some (.int kk)) (HW σ0 z Y (tE ℓ s) cs sl pl ks (rN ρ) n b sv sf σ0 T fo)) nx) (hM : Ct MX (.ref 0 :: as) (rw9 σ0 z Y (h7 (tE ℓ s) cs sl pl ks (rN ρ) n b sv sf σ0 T fo)) (d1 (some (.int (bI x))) (rw9 σ0 z' Y' (h7 (tE ℓ s) cs sl pl ks (rN ρ) n b sv sf σ0 T fo))) nx) (hz : z' 2 = kk) (hk : ¬ kk = 0) (hR : RR σ0 z' Y' ℓ cs ρ n b sv sf T) : ST4 ML MX as w := by
  refine st4_of (x := x) ⟨kk, _, HW σ0 z' Y' (tE ℓ s) cs sl pl ks (rN ρ) n b sv sf σ0 T fo, fo, hL, ?_, ?_, ⟨_, hw_0 ..⟩, ⟨_, hw_0 ..⟩, hw_o .., fun q => absurd q hk, σ0, z', Y', ℓ, s, cs, sl, pl, ks, ρ, n, b, sv, sf, T, fo, rfl, hR⟩
  · rw [hv_rw, hv_rw]; exact hM
  · rw [hv_rw, ← hz]; exact c4_thrown _ _ _ _
theorem fin_b4 {y : Int64} (hL : Ct ML (.ref 7 :: (as ++ [.ref 107])) w (d1 (some (.int (nI 0))) ((HW σ0 z Y (tE ℓ s) cs sl pl ks (rN ρ) n b sv sf σ0 T fo).set 107 (oc (vp_updL fo 0 y)))) nx) (hM : ∀ fo', Ct MX (.ref 0 :: as) (rw9 σ0 z Y (h7 (tE ℓ s) cs sl pl ks (rN ρ) n b sv sf σ0 T fo')) (d1 (some (.int (bI x))) (rw9 σ0 z' Y' (h7 (tE ℓ s) cs sl pl ks (rN ρ) n b sv sf σ0 T fo'))) nx) (hz : z' 2 = nI 0) (hr : y = if x = true then lN 1 else lN 0) (hR : RR σ0 z' Y' ℓ cs ρ n b sv sf T) : ST4 ML MX as w := by
  rw [hw_os] at hL
  refine st4_of (x := x) ⟨nI 0, _, HW σ0 z' Y' (tE ℓ s) cs sl pl ks (rN ρ) n b sv sf σ0 T (vp_updL fo 0 y), _, hL, ?_, ?_, ⟨_, hw_0 ..⟩, ⟨_, hw_0 ..⟩, hw_o .., fun _ => ?_, σ0, z', Y', ℓ, s, cs, sl, pl, ks, ρ, n, b, sv, sf, T, _, rfl, hR⟩
  · rw [hv_rw, hv_rw]; exact hM _
  · rw [hv_rw, ← hz]; exact c4_thrown _ _ _ _
  · rw [← hr]; exact if_pos rfl
end FIN4
set_option maxHeartbeats 1000000 in
theorem s_firstError {w : PW} (h : SR w) : ST3 mX3_firstError mX4_firstError w := by
  obtain ⟨σ, z, Y, ℓ, s, cs, sl, pl, ks, ρ, n, b, sv, sf, T, fo, rfl, hR⟩ := h
  obtain ⟨hI, hρ, hn, hp, hz, hl, hℓ, hbu, hsr, hsl⟩ := id hR
  have hB := bar_of hI
  have hK := hk_of hI
  obtain ⟨bc, bc1, bc2⟩ := hbu
  have hcs : ∀ k, k < ℓ → cs k = nI (bc k) ∧ bc k < 128 := fun k hk => ⟨(bc2 k hk).1, bc1 k⟩
  have hbk : ∀ k, k < ℓ → Y.2.2.2.2.1 k = nI (bc k) := fun k hk => (bc2 k hk).2
  obtain ⟨f1, f2, f3⟩ := fe_same hbk bc1
  have hm := fun g => p4_firstError σ z Y g hℓ hl
  rw [f1] at hm
  exact fin_d (hw_7 ..) (c3_firstError (rP σ z Y) cs sl pl ks (rN ρ) n b sv sf σ T [oc fo] ℓ s hℓ hcs) (hm _) (fun _ _ => rfl) (RR_z hR rfl rfl hρ rfl rfl rfl rfl)
set_option maxHeartbeats 1000000 in
theorem s_follow {w : PW} (h : SR w) : ST1 mL_follow mX4_follow [] w := by
  obtain ⟨σ, z, Y, ℓ, s, cs, sl, pl, ks, ρ, n, b, sv, sf, T, fo, rfl, hR⟩ := h
  obtain ⟨hI, hρ, hn, hp, hz, hl, hℓ, hbu, hsr, hsl⟩ := id hR
  have hB := bar_of hI
  have hK := hk_of hI
  obtain ⟨bc, bc1, bc2⟩ := hbu
  have hcs : ∀ k, k < ℓ → cs k = nI (bc k) ∧ bc k < 128 := fun k hk => ⟨(bc2 k hk).1, bc1 k⟩
  have hbk : ∀ k, k < ℓ → Y.2.2.2.2.1 k = nI (bc k) := fun k hk => (bc2 k hk).2
  obtain ⟨f1, f2, f3⟩ := fe_same hbk bc1
  cases hg : (goF Y.2.2.2.2.1 ℓ (ℓ + 1) 0).2
  · obtain ⟨g1, g2⟩ := f3 hg
    have hFI := fol_I bc1 g2
    have hGI := go_I hbk bc1 g2
    obtain ⟨e1, e2⟩ := fol_same hbk bc1 g2 (ℓ + 1) 0 σ (sl, (pl, ks)) (fun j hj => by omega) (Nat.zero_le _) rfl (by omega) hI
    have e1 : (folP bc ℓ ℓ 0 PS0 (σ, (sl, (pl, ks)))).1 = (goT Y.2.2.2.2.1 ℓ (ℓ + 1) 0 σ).1 := e1
    have e2 : (goT Y.2.2.2.2.1 ℓ (ℓ + 1) 0 σ).1 = true → (folP bc ℓ ℓ 0 PS0 (σ, (sl, (pl, ks)))).2.2.1 = (goT Y.2.2.2.2.1 ℓ (ℓ + 1) 0 σ).2.1 ∧ INV (goT Y.2.2.2.2.1 ℓ (ℓ + 1) 0 σ).2.1 := e2
    have i0 : FI9 bc 0 PS0 (σ, (sl, (pl, ks))) := ⟨rfl, hI⟩
    have j0 : GI9 bc 0 σ := ⟨fun j hj => by omega, rfl, hI⟩
    cases hr : (goT Y.2.2.2.2.1 ℓ (ℓ + 1) 0 σ).1
    · rw [hr] at e1
      exact fin_x (lx_follow_2 (hw_7 ..) (x3_follow_2 (rP σ z Y) cs (rN ρ) n b sv sf T [oc fo] ℓ (σ, (sl, (pl, ks))) s hℓ hcs g1 _ hFI i0 e1 hp hB)) (p4_follow_2 σ z Y _ hℓ hl hg _ hGI j0 hr) rfl nI2_0 (RR_z (RR_b σ hR) rfl rfl hρ rfl rfl rfl rfl)
    · rw [hr] at e1
      obtain ⟨e3, e4⟩ := e2 hr
      refine fin_ok (lk_follow (hw_7 ..) (hw_o ..) (c3_follow (rP σ z Y) cs (rN ρ) n b sv sf T [oc fo] ℓ (σ, (sl, (pl, ks))) s hℓ hcs g1 _ hFI i0 e1 hn hp hB)) (fun _ => p4_follow_0 σ z Y _ hℓ hl hn hz hg _ hGI j0 hr) (sv_2 ..) (by rw [e3]) (fun i _ => by rw [e3]) ?_
      have hR2 : RR σ z (Y.1, Y.2.1, Y.2.2.1, σ, Y.2.2.2.2) ℓ cs ρ n b sv sf T := RR_z hR rfl rfl hρ rfl rfl rfl rfl
      obtain ⟨b1, b2, b3, b4, b5, b6, b7, b8, b9, b10⟩ := RR_sv (z' := upd z 2 (nI 0)) hR2 e4 rfl
      exact ⟨b1, b2, b3, b4, b5, rfl, by omega, ⟨fun _ => 0, fun _ => Nat.zero_lt_succ _, fun k hk => by omega⟩, b9, b10⟩
  · exact fin_x (lx_follow_1 (hw_7 ..) (x3_follow_1 (rP σ z Y) cs sl pl ks (rN ρ) n b sv sf σ T [oc fo] ℓ s hℓ hcs (f2 hg))) (p4_follow_1 σ z Y _ hℓ hl hg) rfl nI1_0 (RR_z hR rfl rfl hρ rfl rfl rfl rfl)
set_option maxHeartbeats 1000000 in
theorem s_priceOf {w : PW} (h : SR w) (p : Int32) : ST1 mL_priceOf mX4_priceOf [.int p] w := by
  obtain ⟨σ, z, Y, ℓ, s, cs, sl, pl, ks, ρ, n, b, sv, sf, T, fo, rfl, hR⟩ := h
  obtain ⟨hI, hρ, hn, hp, hz, hl, hℓ, hbu, hsr, hsl⟩ := id hR
  have hB := bar_of hI
  have hK := hk_of hI
  cases hcp : inB p (nI 0) (nI 5)
  · exact fin_x (lx_priceOf_1 (hw_7 ..) (x3_priceOf_1 (rP σ z Y) (tE ℓ s) cs sl pl ks (rN ρ) n b sv sf σ T [oc fo] hcp)) (p4_priceOf_1 σ z Y _ hcp) rfl nI1_0 (RR_z hR rfl rfl hρ rfl rfl rfl rfl)
  obtain ⟨k, hk0, rfl⟩ := inB_of (by omega) hcp
  have hk : k < 6 := by omega
  exact fin_ok (lk_priceOf (hw_7 ..) (hw_o ..) (c3_priceOf (rP σ z Y) (tE ℓ s) cs sl pl ks (rN ρ) n b sv sf σ T [oc fo] hk)) (fun _ => p4_priceOf_0 σ z Y _ hk) rfl rfl (fun _ _ => rfl) (RR_z hR rfl rfl hρ rfl rfl rfl rfl)
set_option maxHeartbeats 1000000 in
theorem s_cutOf {w : PW} (h : SR w) (p : Int32) : ST1 mL_cutOf mX4_cutOf [.int p] w := by
  obtain ⟨σ, z, Y, ℓ, s, cs, sl, pl, ks, ρ, n, b, sv, sf, T, fo, rfl, hR⟩ := h
  obtain ⟨hI, hρ, hn, hp, hz, hl, hℓ, hbu, hsr, hsl⟩ := id hR
  have hB := bar_of hI
  have hK := hk_of hI
  cases hcp : inB p (nI 0) (nI 5)
  · exact fin_x (lx_cutOf_1 (hw_7 ..) (x3_cutOf_1 (rP σ z Y) (tE ℓ s) cs sl pl ks (rN ρ) n b sv sf σ T [oc fo] hcp)) (p4_cutOf_1 σ z Y _ hcp) rfl nI1_0 (RR_z hR rfl rfl hρ rfl rfl rfl rfl)
  obtain ⟨k, hk0, rfl⟩ := inB_of (by omega) hcp
  have hk : k < 6 := by omega
  exact fin_ok (lk_cutOf (hw_7 ..) (hw_o ..) (c3_cutOf (rP σ z Y) (tE ℓ s) cs sl pl ks (rN ρ) n b sv sf σ T [oc fo] hk)) (fun _ => p4_cutOf_0 σ z Y _ hk) rfl rfl (fun _ _ => rfl) (RR_z hR rfl rfl hρ rfl rfl rfl rfl)
set_option maxHeartbeats 1000000 in
theorem s_pledgedOf {w : PW} (h : SR w) (p : Int32) : ST1 mL_pledgedOf mX4_pledgedOf [.int p] w := by
  obtain ⟨σ, z, Y, ℓ, s, cs, sl, pl, ks, ρ, n, b, sv, sf, T, fo, rfl, hR⟩ := h
  obtain ⟨hI, hρ, hn, hp, hz, hl, hℓ, hbu, hsr, hsl⟩ := id hR
  have hB := bar_of hI
  have hK := hk_of hI
  cases hcp : inB p (nI 0) (nI 5)
  · exact fin_x (lx_pledgedOf_1 (hw_7 ..) (x3_pledgedOf_1 (rP σ z Y) (tE ℓ s) cs sl pl ks (rN ρ) n b sv sf σ T [oc fo] hcp)) (p4_pledgedOf_1 σ z Y _ hcp) rfl nI1_0 (RR_z hR rfl rfl hρ rfl rfl rfl rfl)
  obtain ⟨k, hk0, rfl⟩ := inB_of (by omega) hcp
  have hk : k < 6 := by omega
  exact fin_ok (lk_pledgedOf (hw_7 ..) (hw_o ..) (c3_pledgedOf (rP σ z Y) (tE ℓ s) cs sl pl ks (rN ρ) n b sv sf σ T [oc fo] hk)) (fun _ => p4_pledgedOf_0 σ z Y _ hk) rfl rfl (fun _ _ => rfl) (RR_z hR rfl rfl hρ rfl rfl rfl rfl)
set_option maxHeartbeats 1000000 in
theorem s_soldOf {w : PW} (h : SR w) (p : Int32) : ST1 mL_soldOf mX4_soldOf [.int p] w := by
  obtain ⟨σ, z, Y, ℓ, s, cs, sl, pl, ks, ρ, n, b, sv, sf, T, fo, rfl, hR⟩ := h
  obtain ⟨hI, hρ, hn, hp, hz, hl, hℓ, hbu, hsr, hsl⟩ := id hR
  have hB := bar_of hI
  have hK := hk_of hI
  cases hcp : inB p (nI 0) (nI 5)
  · exact fin_x (lx_soldOf_1 (hw_7 ..) (x3_soldOf_1 (rP σ z Y) (tE ℓ s) cs sl pl ks (rN ρ) n b sv sf σ T [oc fo] hcp)) (p4_soldOf_1 σ z Y _ hcp) rfl nI1_0 (RR_z hR rfl rfl hρ rfl rfl rfl rfl)
  obtain ⟨k, hk0, rfl⟩ := inB_of (by omega) hcp
  have hk : k < 6 := by omega
  exact fin_ok (lk_soldOf (hw_7 ..) (hw_o ..) (c3_soldOf (rP σ z Y) (tE ℓ s) cs sl pl ks (rN ρ) n b sv sf σ T [oc fo] hk)) (fun _ => p4_soldOf_0 σ z Y _ hk) rfl rfl (fun _ _ => rfl) (RR_z hR rfl rfl hρ rfl rfl rfl rfl)
set_option maxHeartbeats 1000000 in
theorem s_piecesOf {w : PW} (h : SR w) (p q : Int32) : ST1 mL_piecesOf mX4_piecesOf [.int p, .int q] w := by
  obtain ⟨σ, z, Y, ℓ, s, cs, sl, pl, ks, ρ, n, b, sv, sf, T, fo, rfl, hR⟩ := h
  obtain ⟨hI, hρ, hn, hp, hz, hl, hℓ, hbu, hsr, hsl⟩ := id hR
  have hB := bar_of hI
  have hK := hk_of hI
  cases hcp : inB p (nI 0) (nI 7)
  · exact fin_x (lx_piecesOf_1 (hw_7 ..) (x3_piecesOf_1 (rP σ z Y) (tE ℓ s) cs sl pl ks (rN ρ) n b sv sf σ T [oc fo] q hcp)) (p4_piecesOf_1 σ z Y _ (and_f1 hcp)) rfl nI1_0 (RR_z hR rfl rfl hρ rfl rfl rfl rfl)
  obtain ⟨c, hc0, rfl⟩ := inB_of (by omega) hcp
  have hc : c < 8 := by omega
  cases hcq : inB q (nI 0) (nI 5)
  · exact fin_x (lx_piecesOf_1 (hw_7 ..) (x3_piecesOf_1k (rP σ z Y) (tE ℓ s) cs sl pl ks (rN ρ) n b sv sf σ T [oc fo] hc hcq)) (p4_piecesOf_1 σ z Y _ (and_f2 hcq)) rfl nI1_0 (RR_z hR rfl rfl hρ rfl rfl rfl rfl)
  obtain ⟨k, hk0, rfl⟩ := inB_of (by omega) hcq
  have hk : k < 6 := by omega
  exact fin_ok (lk_piecesOf (hw_7 ..) (hw_o ..) (c3_piecesOf (rP σ z Y) (tE ℓ s) cs sl pl ks (rN ρ) n b sv sf σ T [oc fo] hc hk)) (fun _ => p4_piecesOf_0 σ z Y _ hc hk) rfl rfl (fun _ _ => rfl) (RR_z hR rfl rfl hρ rfl rfl rfl rfl)
set_option maxHeartbeats 1000000 in
theorem s_coinsOf {w : PW} (h : SR w) (p : Int32) : ST1 mL_coinsOf mX4_coinsOf [.int p] w := by
  obtain ⟨σ, z, Y, ℓ, s, cs, sl, pl, ks, ρ, n, b, sv, sf, T, fo, rfl, hR⟩ := h
  obtain ⟨hI, hρ, hn, hp, hz, hl, hℓ, hbu, hsr, hsl⟩ := id hR
  have hB := bar_of hI
  have hK := hk_of hI
  cases hcp : inB p (nI 0) (nI 7)
  · exact fin_x (lx_coinsOf_1 (hw_7 ..) (x3_coinsOf_1 (rP σ z Y) (tE ℓ s) cs sl pl ks (rN ρ) n b sv sf σ T [oc fo] hcp)) (p4_coinsOf_1 σ z Y _ hcp) rfl nI1_0 (RR_z hR rfl rfl hρ rfl rfl rfl rfl)
  obtain ⟨c, hc0, rfl⟩ := inB_of (by omega) hcp
  have hc : c < 8 := by omega
  exact fin_ok (lk_coinsOf (hw_7 ..) (hw_o ..) (c3_coinsOf (rP σ z Y) (tE ℓ s) cs sl pl ks (rN ρ) n b sv sf σ T [oc fo] hc)) (fun _ => p4_coinsOf_0 σ z Y _ hc) rfl rfl (fun _ _ => rfl) (RR_z hR rfl rfl hρ rfl rfl rfl rfl)
set_option maxHeartbeats 1000000 in
theorem s_debtOf {w : PW} (h : SR w) (p : Int32) : ST1 mL_debtOf mX4_debtOf [.int p] w := by
  obtain ⟨σ, z, Y, ℓ, s, cs, sl, pl, ks, ρ, n, b, sv, sf, T, fo, rfl, hR⟩ := h
  obtain ⟨hI, hρ, hn, hp, hz, hl, hℓ, hbu, hsr, hsl⟩ := id hR
  have hB := bar_of hI
  have hK := hk_of hI
  cases hcp : inB p (nI 0) (nI 7)
  · exact fin_x (lx_debtOf_1 (hw_7 ..) (x3_debtOf_1 (rP σ z Y) (tE ℓ s) cs sl pl ks (rN ρ) n b sv sf σ T [oc fo] hcp)) (p4_debtOf_1 σ z Y _ hcp) rfl nI1_0 (RR_z hR rfl rfl hρ rfl rfl rfl rfl)
  obtain ⟨c, hc0, rfl⟩ := inB_of (by omega) hcp
  have hc : c < 8 := by omega
  exact fin_ok (lk_debtOf (hw_7 ..) (hw_o ..) (c3_debtOf (rP σ z Y) (tE ℓ s) cs sl pl ks (rN ρ) n b sv sf σ T [oc fo] hc)) (fun _ => p4_debtOf_0 σ z Y _ hc) rfl rfl (fun _ _ => rfl) (RR_z hR rfl rfl hρ rfl rfl rfl rfl)
set_option maxHeartbeats 1000000 in
theorem s_worthOf {w : PW} (h : SR w) (p : Int32) : ST1 mL_worthOf mX4_worthOf [.int p] w := by
  obtain ⟨σ, z, Y, ℓ, s, cs, sl, pl, ks, ρ, n, b, sv, sf, T, fo, rfl, hR⟩ := h
  obtain ⟨hI, hρ, hn, hp, hz, hl, hℓ, hbu, hsr, hsl⟩ := id hR
  have hB := bar_of hI
  have hK := hk_of hI
  cases hcp : inB p (nI 0) (nI 7)
  · exact fin_x (lx_worthOf_1 (hw_7 ..) (x3_worthOf_1 (rP σ z Y) (tE ℓ s) cs sl pl ks (rN ρ) n b sv sf σ T [oc fo] hcp)) (p4_worthOf_1 σ z Y _ hcp) rfl nI1_0 (RR_z hR rfl rfl hρ rfl rfl rfl rfl)
  obtain ⟨c, hc0, rfl⟩ := inB_of (by omega) hcp
  have hc : c < 8 := by omega
  exact fin_ok (lk_worthOf (hw_7 ..) (hw_o ..) (c3_worthOf (rP σ z Y) (tE ℓ s) cs sl pl ks (rN ρ) n b sv sf σ T [oc fo] hc)) (fun _ => p4_worthOf_0 σ z Y _ hc) rfl rfl (fun _ _ => rfl) (RR_z hR rfl rfl hρ rfl rfl rfl rfl)
set_option maxHeartbeats 1000000 in
theorem s_coverOf {w : PW} (h : SR w) (p : Int32) : ST1 mL_coverOf mX4_coverOf [.int p] w := by
  obtain ⟨σ, z, Y, ℓ, s, cs, sl, pl, ks, ρ, n, b, sv, sf, T, fo, rfl, hR⟩ := h
  obtain ⟨hI, hρ, hn, hp, hz, hl, hℓ, hbu, hsr, hsl⟩ := id hR
  have hB := bar_of hI
  have hK := hk_of hI
  cases hcp : inB p (nI 0) (nI 7)
  · exact fin_x (lx_coverOf_1 (hw_7 ..) (x3_coverOf_1 (rP σ z Y) (tE ℓ s) cs sl pl ks (rN ρ) n b sv sf σ T [oc fo] hcp)) (p4_coverOf_1 σ z Y _ hcp) rfl nI1_0 (RR_z hR rfl rfl hρ rfl rfl rfl rfl)
  obtain ⟨c, hc0, rfl⟩ := inB_of (by omega) hcp
  have hc : c < 8 := by omega
  exact fin_ok (lk_coverOf (hw_7 ..) (hw_o ..) (c3_coverOf (rP σ z Y) (tE ℓ s) cs sl pl ks (rN ρ) n b sv sf σ T [oc fo] hc)) (fun _ => p4_coverOf_0 σ z Y _ hc) rfl rfl (fun _ _ => rfl) (RR_z hR rfl rfl hρ rfl rfl rfl rfl)
set_option maxHeartbeats 1000000 in
theorem s_roomOf {w : PW} (h : SR w) (p : Int32) : ST1 mL_roomOf mX4_roomOf [.int p] w := by
  obtain ⟨σ, z, Y, ℓ, s, cs, sl, pl, ks, ρ, n, b, sv, sf, T, fo, rfl, hR⟩ := h
  obtain ⟨hI, hρ, hn, hp, hz, hl, hℓ, hbu, hsr, hsl⟩ := id hR
  have hB := bar_of hI
  have hK := hk_of hI
  cases hcp : inB p (nI 0) (nI 7)
  · exact fin_x (lx_roomOf_1 (hw_7 ..) (x3_roomOf_1 (rP σ z Y) (tE ℓ s) cs sl pl ks (rN ρ) n b sv sf σ T [oc fo] hcp)) (p4_roomOf_1 σ z Y _ hcp) rfl nI1_0 (RR_z hR rfl rfl hρ rfl rfl rfl rfl)
  obtain ⟨c, hc0, rfl⟩ := inB_of (by omega) hcp
  have hc : c < 8 := by omega
  exact fin_ok (lk_roomOf (hw_7 ..) (hw_o ..) (c3_roomOf (rP σ z Y) (tE ℓ s) cs sl pl ks (rN ρ) n b sv sf σ T [oc fo] hc)) (fun _ => p4_roomOf_0 σ z Y _ hc) rfl (rom_eq hI hc) (fun _ _ => rfl) (RR_z hR rfl rfl hρ rfl rfl rfl rfl)
set_option maxHeartbeats 1000000 in
theorem s_rankOf {w : PW} (h : SR w) (p : Int32) : ST1 mL_rankOf mX4_rankOf [.int p] w := by
  obtain ⟨σ, z, Y, ℓ, s, cs, sl, pl, ks, ρ, n, b, sv, sf, T, fo, rfl, hR⟩ := h
  obtain ⟨hI, hρ, hn, hp, hz, hl, hℓ, hbu, hsr, hsl⟩ := id hR
  have hB := bar_of hI
  have hK := hk_of hI
  cases hcp : inB p (nI 0) (nI 7)
  · exact fin_x (lx_rankOf_1 (hw_7 ..) (x3_rankOf_1 (rP σ z Y) (tE ℓ s) cs sl pl ks (rN ρ) n b sv sf σ T [oc fo] hcp)) (p4_rankOf_1 σ z Y _ hcp) rfl nI1_0 (RR_z hR rfl rfl hρ rfl rfl rfl rfl)
  obtain ⟨c, hc0, rfl⟩ := inB_of (by omega) hcp
  have hc : c < 8 := by omega
  exact fin_ok (lk_rankOf (hw_7 ..) (hw_o ..) (c3_rankOf (rP σ z Y) (tE ℓ s) cs sl pl ks (rN ρ) n b sv sf σ T [oc fo] hc)) (fun _ => p4_rankOf_0 σ z Y _ hc) rfl (rpl_same hI hc 8 (Nat.le_refl 8)) (fun _ _ => rfl) (RR_z hR rfl rfl hρ rfl rfl rfl rfl)
set_option maxHeartbeats 1000000 in
theorem s_riskyByTaking {w : PW} (h : SR w) (p : Int32) : ST1 mL_riskyByTaking mX4_riskyByTaking [.int p] w := by
  obtain ⟨σ, z, Y, ℓ, s, cs, sl, pl, ks, ρ, n, b, sv, sf, T, fo, rfl, hR⟩ := h
  obtain ⟨hI, hρ, hn, hp, hz, hl, hℓ, hbu, hsr, hsl⟩ := id hR
  have hB := bar_of hI
  have hK := hk_of hI
  cases hcp : inB p (nI 0) (nI 7)
  · exact fin_x (lx_riskyByTaking_1 (hw_7 ..) (x3_riskyByTaking_1 (rP σ z Y) (tE ℓ s) cs sl pl ks (rN ρ) n b sv sf σ T [oc fo] hcp)) (p4_riskyByTaking_1 σ z Y _ hcp) rfl nI1_0 (RR_z hR rfl rfl hρ rfl rfl rfl rfl)
  obtain ⟨c, hc0, rfl⟩ := inB_of (by omega) hcp
  have hc : c < 8 := by omega
  exact fin_ok (lk_riskyByTaking (hw_7 ..) (hw_o ..) (c3_riskyByTaking (rP σ z Y) (tE ℓ s) cs sl pl ks (rN ρ) n b sv sf σ T [oc fo] hc)) (fun _ => p4_riskyByTaking_0 σ z Y _ hc) rfl (rky_tk hI hc).symm (fun _ _ => rfl) (RR_z hR rfl rfl hρ rfl rfl rfl rfl)
set_option maxHeartbeats 1000000 in
theorem s_riskyBySorting {w : PW} (h : SR w) (p : Int32) : ST1 mL_riskyBySorting mX4_riskyBySorting [.int p] w := by
  obtain ⟨σ, z, Y, ℓ, s, cs, sl, pl, ks, ρ, n, b, sv, sf, T, fo, rfl, hR⟩ := h
  obtain ⟨hI, hρ, hn, hp, hz, hl, hℓ, hbu, hsr, hsl⟩ := id hR
  have hB := bar_of hI
  have hK := hk_of hI
  cases hcp : inB p (nI 0) (nI 7)
  · exact fin_x (lx_riskyBySorting_1 (hw_7 ..) (x3_riskyBySorting_1 (rP σ z Y) (tE ℓ s) cs sl pl ks (rN ρ) n b sv sf σ T [oc fo] hcp)) (p4_riskyBySorting_1 σ z Y _ hcp) rfl nI1_0 (RR_z hR rfl rfl hρ rfl rfl rfl rfl)
  obtain ⟨c, hc0, rfl⟩ := inB_of (by omega) hcp
  have hc : c < 8 := by omega
  exact fin_ok (lk_riskyBySorting (hw_7 ..) (hw_o ..) (c3_riskyBySorting (rP σ z Y) (tE ℓ s) cs sl pl ks ρ n b sv sf σ T [oc fo] hc hρ)) (fun _ => p4_riskyBySorting_0 σ z Y _ hc) rfl (rky_srt hI ρ hc).symm (fun _ _ => rfl) (RR_z hR rfl rfl (R8_srt hρ 8 (Nat.le_refl 8)) rfl rfl rfl rfl)
set_option maxHeartbeats 1000000 in
theorem s_isCalled {w : PW} (h : SR w) (p : Int32) : ST4 mL_isCalled mX4_isCalled [.int p] w := by
  obtain ⟨σ, z, Y, ℓ, s, cs, sl, pl, ks, ρ, n, b, sv, sf, T, fo, rfl, hR⟩ := h
  obtain ⟨hI, hρ, hn, hp, hz, hl, hℓ, hbu, hsr, hsl⟩ := id hR
  have hB := bar_of hI
  have hK := hk_of hI
  cases hcp : inB p (nI 0) (nI 7)
  · exact fin_x4 (lx_isCalled_1 (hw_7 ..) (x3_isCalled_1 (rP σ z Y) (tE ℓ s) cs sl pl ks (rN ρ) n b sv sf σ T [oc fo] hcp)) (p4_isCalled_1 σ z Y _ hcp) rfl nI1_0 (RR_z hR rfl rfl hρ rfl rfl rfl rfl)
  obtain ⟨c, hc0, rfl⟩ := inB_of (by omega) hcp
  have hc : c < 8 := by omega
  have hC := c3_isCalled (rP σ z Y) (tE ℓ s) cs sl pl ks (rN ρ) n b sv sf σ T [oc fo] hc
  cases hk : isK σ c
  · rw [hk] at hC
    exact fin_b4 (lk_isCalled_f (hw_7 ..) (hw_o ..) hC) (fun _ => p4_isCalled_0 σ z Y _ hc) rfl (by rw [hk]; rfl) (RR_z hR rfl rfl hρ rfl rfl rfl rfl)
  · rw [hk] at hC
    exact fin_b4 (lk_isCalled_t (hw_7 ..) (hw_o ..) hC) (fun _ => p4_isCalled_0 σ z Y _ hc) rfl (by rw [hk]; rfl) (RR_z hR rfl rfl hρ rfl rfl rfl rfl)
set_option maxHeartbeats 1000000 in
theorem s_isBarred {w : PW} (h : SR w) (p : Int32) : ST4 mL_isBarred mX4_isBarred [.int p] w := by
  obtain ⟨σ, z, Y, ℓ, s, cs, sl, pl, ks, ρ, n, b, sv, sf, T, fo, rfl, hR⟩ := h
  obtain ⟨hI, hρ, hn, hp, hz, hl, hℓ, hbu, hsr, hsl⟩ := id hR
  have hB := bar_of hI
  have hK := hk_of hI
  cases hcp : inB p (nI 0) (nI 7)
  · exact fin_x4 (lx_isBarred_1 (hw_7 ..) (x3_isBarred_1 (rP σ z Y) (tE ℓ s) cs sl pl ks (rN ρ) n b sv sf σ T [oc fo] hcp)) (p4_isBarred_1 σ z Y _ hcp) rfl nI1_0 (RR_z hR rfl rfl hρ rfl rfl rfl rfl)
  obtain ⟨c, hc0, rfl⟩ := inB_of (by omega) hcp
  have hc : c < 8 := by omega
  have hC := c3_isBarred (rP σ z Y) (tE ℓ s) cs sl pl ks (rN ρ) n b sv sf σ T [oc fo] hc hB
  rcases hB c hc with hk | hk
  · rw [hk] at hC
    exact fin_b4 (lk_isBarred_f (hw_7 ..) (hw_o ..) hC) (fun _ => p4_isBarred_0 σ z Y _ hc) rfl (by rw [hk]; decide) (RR_z hR rfl rfl hρ rfl rfl rfl rfl)
  · rw [hk] at hC
    exact fin_b4 (lk_isBarred_t (hw_7 ..) (hw_o ..) hC) (fun _ => p4_isBarred_0 σ z Y _ hc) rfl (by rw [hk]; decide) (RR_z hR rfl rfl hρ rfl rfl rfl rfl)
set_option maxHeartbeats 1000000 in
theorem s_hoursLeft {w : PW} (h : SR w) (p : Int32) : ST1 mL_hoursLeft mX4_hoursLeft [.int p] w := by
  obtain ⟨σ, z, Y, ℓ, s, cs, sl, pl, ks, ρ, n, b, sv, sf, T, fo, rfl, hR⟩ := h
  obtain ⟨hI, hρ, hn, hp, hz, hl, hℓ, hbu, hsr, hsl⟩ := id hR
  have hB := bar_of hI
  have hK := hk_of hI
  cases hcp : inB p (nI 0) (nI 7)
  · exact fin_x (lx_hoursLeft_1 (hw_7 ..) (x3_hoursLeft_1 (rP σ z Y) (tE ℓ s) cs sl pl ks (rN ρ) n b sv sf σ T [oc fo] hcp)) (p4_hoursLeft_1 σ z Y _ hcp) rfl nI1_0 (RR_z hR rfl rfl hρ rfl rfl rfl rfl)
  obtain ⟨c, hc0, rfl⟩ := inB_of (by omega) hcp
  have hc : c < 8 := by omega
  cases hk : isK σ c
  · exact fin_x (lx_hoursLeft_2 (hw_7 ..) (x3_hoursLeft_2 (rP σ z Y) (tE ℓ s) cs sl pl ks (rN ρ) n b sv sf σ T [oc fo] hc hk)) (p4_hoursLeft_2 σ z Y _ hc hk) rfl nI2_0 (RR_z hR rfl rfl hρ rfl rfl rfl rfl)
  · exact fin_ok (lk_hoursLeft (hw_7 ..) (hw_o ..) (c3_hoursLeft (rP σ z Y) (tE ℓ s) cs sl pl ks (rN ρ) n b sv sf σ T [oc fo] hc hk)) (fun _ => p4_hoursLeft_0 σ z Y _ hc hk) rfl rfl (fun _ _ => rfl) (RR_z hR rfl rfl hρ rfl rfl rfl rfl)
set_option maxHeartbeats 1000000 in
theorem s_fallToCallByTrying {w : PW} (h : SR w) (p : Int32) : ST1 mL_fallToCallByTrying mX4_fallToCallByTrying [.int p] w := by
  obtain ⟨σ, z, Y, ℓ, s, cs, sl, pl, ks, ρ, n, b, sv, sf, T, fo, rfl, hR⟩ := h
  obtain ⟨hI, hρ, hn, hp, hz, hl, hℓ, hbu, hsr, hsl⟩ := id hR
  have hB := bar_of hI
  have hK := hk_of hI
  cases hcp : inB p (nI 0) (nI 7)
  · exact fin_x (lx_fallToCallByTrying_1 (hw_7 ..) (x3_fallToCallByTrying_1 (rP σ z Y) (tE ℓ s) cs sl pl ks (rN ρ) n b sv sf σ T [oc fo] hcp)) (p4_fallToCallByTrying_1 σ z Y _ hcp) rfl nI1_0 (RR_z hR rfl rfl hρ rfl rfl rfl rfl)
  obtain ⟨c, hc0, rfl⟩ := inB_of (by omega) hcp
  have hc : c < 8 := by omega
  have e := tryS_f σ c
  by_cases h3 : falS σ c = -1
  · exact fin_x (lx_fallToCallByTrying_2 (hw_7 ..) (x3_fallToCallByTrying_2 (rP σ z Y) (tE ℓ s) cs sl pl ks (rN ρ) n b sv sf σ T [oc fo] hc (e.trans h3))) (p4_fallToCallByTrying_2 σ z Y _ hc h3) rfl nI2_0 (RR_z hR rfl rfl hρ rfl rfl rfl rfl)
  · exact fin_ok (lk_fallToCallByTrying (hw_7 ..) (hw_o ..) (c3_fallToCallByTrying (rP σ z Y) (tE ℓ s) cs sl pl ks (rN ρ) n b sv sf σ T [oc fo] hc (by rw [e]; exact h3))) (fun _ => p4_fallToCallByTrying_0 σ z Y _ hc h3) rfl e (fun _ _ => rfl) (RR_z hR rfl rfl hρ rfl rfl rfl rfl)
set_option maxHeartbeats 1000000 in
theorem s_fallToCallByHalving {w : PW} (h : SR w) (p : Int32) : ST1 mL_fallToCallByHalving mX4_fallToCallByHalving [.int p] w := by
  obtain ⟨σ, z, Y, ℓ, s, cs, sl, pl, ks, ρ, n, b, sv, sf, T, fo, rfl, hR⟩ := h
  obtain ⟨hI, hρ, hn, hp, hz, hl, hℓ, hbu, hsr, hsl⟩ := id hR
  have hB := bar_of hI
  have hK := hk_of hI
  cases hcp : inB p (nI 0) (nI 7)
  · exact fin_x (lx_fallToCallByHalving_1 (hw_7 ..) (x3_fallToCallByHalving_1 (rP σ z Y) (tE ℓ s) cs sl pl ks (rN ρ) n b sv sf σ T [oc fo] hcp)) (p4_fallToCallByHalving_1 σ z Y _ hcp) rfl nI1_0 (RR_z hR rfl rfl hρ rfl rfl rfl rfl)
  obtain ⟨c, hc0, rfl⟩ := inB_of (by omega) hcp
  have hc : c < 8 := by omega
  have e := hlvS_f hI hc
  by_cases h3 : falS σ c = -1
  · exact fin_x (lx_fallToCallByHalving_2 (hw_7 ..) (x3_fallToCallByHalving_2 (rP σ z Y) (tE ℓ s) cs sl pl ks (rN ρ) n b sv sf σ T [oc fo] hc (e.trans h3))) (p4_fallToCallByHalving_2 σ z Y _ hc h3) rfl nI2_0 (RR_z hR rfl rfl hρ rfl rfl rfl rfl)
  · exact fin_ok (lk_fallToCallByHalving (hw_7 ..) (hw_o ..) (c3_fallToCallByHalving (rP σ z Y) (tE ℓ s) cs sl pl ks (rN ρ) n b sv sf σ T [oc fo] hc (by rw [e]; exact h3))) (fun _ => p4_fallToCallByHalving_0 σ z Y _ hc h3) rfl e (fun _ _ => rfl) (RR_z hR rfl rfl hρ rfl rfl rfl rfl)
set_option maxHeartbeats 1000000 in
theorem s_hoursToCall {w : PW} (h : SR w) (p : Int32) : ST1 mL_hoursToCall mX4_hoursToCall [.int p] w := by
  obtain ⟨σ, z, Y, ℓ, s, cs, sl, pl, ks, ρ, n, b, sv, sf, T, fo, rfl, hR⟩ := h
  obtain ⟨hI, hρ, hn, hp, hz, hl, hℓ, hbu, hsr, hsl⟩ := id hR
  have hB := bar_of hI
  have hK := hk_of hI
  cases hcp : inB p (nI 0) (nI 7)
  · exact fin_x (lx_hoursToCall_1 (hw_7 ..) (x3_hoursToCall_1 (rP σ z Y) (tE ℓ s) cs sl pl ks (rN ρ) n b sv sf σ T [oc fo] hcp)) (p4_hoursToCall_1 σ z Y _ hcp) rfl nI1_0 (RR_z hR rfl rfl hρ rfl rfl rfl rfl)
  obtain ⟨c, hc0, rfl⟩ := inB_of (by omega) hcp
  have hc : c < 8 := by omega
  cases hk : isK σ c
  · have e := huc_S hI hc hk
    by_cases h3 : htS σ c < 1000
    · rw [if_pos h3] at e
      exact fin_ok (lk_hoursToCall (hw_7 ..) (hw_o ..) (c3_hoursToCall (rP σ z Y) (tE ℓ s) cs sl pl ks (rN ρ) n b sv sf σ T [oc fo] hc (by rw [e]; exact m1_n (by omega)))) (fun _ => p4_hoursToCall_0 σ z Y _ hc hk h3) rfl e (fun _ _ => rfl) (RR_z hR rfl rfl hρ rfl rfl rfl rfl)
    · rw [if_neg h3] at e
      exact fin_x (lx_hoursToCall_2 (hw_7 ..) (x3_hoursToCall_2 (rP σ z Y) (tE ℓ s) cs sl pl ks (rN ρ) n b sv sf σ T [oc fo] hc e)) (p4_hoursToCall_2 σ z Y _ hc hk (by omega)) rfl nI2_0 (RR_z hR rfl rfl hρ rfl rfl rfl rfl)
  · exact fin_ok (lk_hoursToCall (hw_7 ..) (hw_o ..) (c3_hoursToCall (rP σ z Y) (tE ℓ s) cs sl pl ks (rN ρ) n b sv sf σ T [oc fo] hc (by rw [hucK hk]; exact m1_n (by omega)))) (fun _ => p4_hoursToCall_9 σ z Y _ hc hk) rfl (hucK hk) (fun _ _ => rfl) (RR_z hR rfl rfl hρ rfl rfl rfl rfl)
set_option maxHeartbeats 1000000 in
theorem s_wouldSell {w : PW} (h : SR w) (p : Int32) : ST1 mL_wouldSell mX4_wouldSell [.int p] w := by
  obtain ⟨σ, z, Y, ℓ, s, cs, sl, pl, ks, ρ, n, b, sv, sf, T, fo, rfl, hR⟩ := h
  obtain ⟨hI, hρ, hn, hp, hz, hl, hℓ, hbu, hsr, hsl⟩ := id hR
  have hB := bar_of hI
  have hK := hk_of hI
  cases hcp : inB p (nI 0) (nI 7)
  · exact fin_x (lx_wouldSell_1 (hw_7 ..) (x3_wouldSell_1 (rP σ z Y) (tE ℓ s) cs sl pl ks (rN ρ) n b sv sf σ T [oc fo] hcp)) (p4_wouldSell_1 σ z Y _ hcp) rfl nI1_0 (RR_z hR rfl rfl hρ rfl rfl rfl rfl)
  obtain ⟨c, hc0, rfl⟩ := inB_of (by omega) hcp
  have hc : c < 8 := by omega
  obtain ⟨m1, m2⟩ := pcc_n (pcc_of hI hc)
  exact fin_ok (lk_wouldSell (hw_7 ..) (hw_o ..) (c3_wouldSell (rP σ z Y) (tE ℓ s) cs sl pl ks (rN ρ) n b sv sf σ T [oc fo] hc m1 m2)) (fun _ => p4_wouldSell_0 σ z Y _ hc m2) rfl (rq_35 hI hc (sl, (pl, ks))).1 (fun _ _ => rfl) (RR_z hR rfl rfl hρ rfl rfl rfl rfl)
set_option maxHeartbeats 1000000 in
theorem s_wouldLose {w : PW} (h : SR w) (p : Int32) : ST1 mL_wouldLose mX4_wouldLose [.int p] w := by
  obtain ⟨σ, z, Y, ℓ, s, cs, sl, pl, ks, ρ, n, b, sv, sf, T, fo, rfl, hR⟩ := h
  obtain ⟨hI, hρ, hn, hp, hz, hl, hℓ, hbu, hsr, hsl⟩ := id hR
  have hB := bar_of hI
  have hK := hk_of hI
  cases hcp : inB p (nI 0) (nI 7)
  · exact fin_x (lx_wouldLose_1 (hw_7 ..) (x3_wouldLose_1 (rP σ z Y) (tE ℓ s) cs sl pl ks (rN ρ) n b sv sf σ T [oc fo] hcp)) (p4_wouldLose_1 σ z Y _ hcp) rfl nI1_0 (RR_z hR rfl rfl hρ rfl rfl rfl rfl)
  obtain ⟨c, hc0, rfl⟩ := inB_of (by omega) hcp
  have hc : c < 8 := by omega
  obtain ⟨m1, m2⟩ := pcc_n (pcc_of hI hc)
  exact fin_ok (lk_wouldLose (hw_7 ..) (hw_o ..) (c3_wouldLose (rP σ z Y) (tE ℓ s) cs sl pl ks (rN ρ) n b sv sf σ T [oc fo] hc m1 m2)) (fun _ => p4_wouldLose_0 σ z Y _ hc m2) rfl (rq_35 hI hc (sl, (pl, ks))).2 (fun _ _ => rfl) (RR_z hR rfl rfl hρ rfl rfl rfl rfl)
set_option maxHeartbeats 1000000 in
theorem s_calledIfFallen {w : PW} (h : SR w) (p : Int32) : ST1 mL_calledIfFallen mX4_calledIfFallen [.int p] w := by
  obtain ⟨σ, z, Y, ℓ, s, cs, sl, pl, ks, ρ, n, b, sv, sf, T, fo, rfl, hR⟩ := h
  obtain ⟨hI, hρ, hn, hp, hz, hl, hℓ, hbu, hsr, hsl⟩ := id hR
  have hB := bar_of hI
  have hK := hk_of hI
  cases hm : inB p (nI 1) (nI 90)
  · exact fin_x (lx_calledIfFallen_1 (hw_7 ..) (x3_calledIfFallen_1 (rP σ z Y) (tE ℓ s) cs sl pl ks (rN ρ) n b sv sf σ T [oc fo] hm)) (p4_calledIfFallen_1 σ z Y _ hm) rfl nI1_0 (RR_z hR rfl rfl hρ rfl rfl rfl rfl)
  · exact fin_ok (lk_calledIfFallen (hw_7 ..) (hw_o ..) (c3_calledIfFallen (rP σ z Y) (tE ℓ s) cs sl pl ks (rN ρ) n b sv sf σ T [oc fo] hm)) (fun _ => p4_calledIfFallen_0 σ z Y _ hm) rfl rfl (fun _ _ => rfl) (RR_z hR rfl rfl hρ rfl rfl rfl rfl)
set_option maxHeartbeats 1000000 in
theorem s_calledNow {w : PW} (h : SR w) : ST3 mX3_calledNow mX4_calledNow w := by
  obtain ⟨σ, z, Y, ℓ, s, cs, sl, pl, ks, ρ, n, b, sv, sf, T, fo, rfl, hR⟩ := h
  obtain ⟨hI, hρ, hn, hp, hz, hl, hℓ, hbu, hsr, hsl⟩ := id hR
  have hB := bar_of hI
  have hK := hk_of hI
  exact fin_d (hw_7 ..) (c3_calledNow (rP σ z Y) (tE ℓ s) cs sl pl ks (rN ρ) n b sv sf σ T [oc fo]) (p4_calledNow σ z Y _) (fun _ _ => rfl) (RR_z hR rfl rfl hρ rfl rfl rfl rfl)
set_option maxHeartbeats 1000000 in
theorem s_rate {w : PW} (h : SR w) : ST3 mX3_rate mX4_rate w := by
  obtain ⟨σ, z, Y, ℓ, s, cs, sl, pl, ks, ρ, n, b, sv, sf, T, fo, rfl, hR⟩ := h
  obtain ⟨hI, hρ, hn, hp, hz, hl, hℓ, hbu, hsr, hsl⟩ := id hR
  have hB := bar_of hI
  have hK := hk_of hI
  exact fin_d (hw_7 ..) (c3_rate (rP σ z Y) (tE ℓ s) cs sl pl ks (rN ρ) n b sv sf σ T [oc fo]) (p4_rate σ z Y _) (fun _ _ => rfl) (RR_z hR rfl rfl hρ rfl rfl rfl rfl)
set_option maxHeartbeats 1000000 in
theorem s_grace {w : PW} (h : SR w) : ST3 mX3_grace mX4_grace w := by
  obtain ⟨σ, z, Y, ℓ, s, cs, sl, pl, ks, ρ, n, b, sv, sf, T, fo, rfl, hR⟩ := h
  obtain ⟨hI, hρ, hn, hp, hz, hl, hℓ, hbu, hsr, hsl⟩ := id hR
  have hB := bar_of hI
  have hK := hk_of hI
  exact fin_d (hw_7 ..) (c3_grace (rP σ z Y) (tE ℓ s) cs sl pl ks (rN ρ) n b sv sf σ T [oc fo]) (p4_grace σ z Y _) (fun _ _ => rfl) (RR_z hR rfl rfl hρ rfl rfl rfl rfl)
set_option maxHeartbeats 1000000 in
theorem s_slip {w : PW} (h : SR w) : ST3 mX3_slip mX4_slip w := by
  obtain ⟨σ, z, Y, ℓ, s, cs, sl, pl, ks, ρ, n, b, sv, sf, T, fo, rfl, hR⟩ := h
  obtain ⟨hI, hρ, hn, hp, hz, hl, hℓ, hbu, hsr, hsl⟩ := id hR
  have hB := bar_of hI
  have hK := hk_of hI
  exact fin_d (hw_7 ..) (c3_slip (rP σ z Y) (tE ℓ s) cs sl pl ks (rN ρ) n b sv sf σ T [oc fo]) (p4_slip σ z Y _) (fun _ _ => rfl) (RR_z hR rfl rfl hρ rfl rfl rfl rfl)
set_option maxHeartbeats 1000000 in
theorem s_order {w : PW} (h : SR w) : ST3 mX3_order mX4_order w := by
  obtain ⟨σ, z, Y, ℓ, s, cs, sl, pl, ks, ρ, n, b, sv, sf, T, fo, rfl, hR⟩ := h
  obtain ⟨hI, hρ, hn, hp, hz, hl, hℓ, hbu, hsr, hsl⟩ := id hR
  have hB := bar_of hI
  have hK := hk_of hI
  exact fin_d (hw_7 ..) (c3_order (rP σ z Y) (tE ℓ s) cs sl pl ks (rN ρ) n b sv sf σ T [oc fo]) (p4_order σ z Y _) (fun _ _ => rfl) (RR_z hR rfl rfl hρ rfl rfl rfl rfl)
set_option maxHeartbeats 1000000 in
theorem s_hours {w : PW} (h : SR w) : ST3 mX3_hours mX4_hours w := by
  obtain ⟨σ, z, Y, ℓ, s, cs, sl, pl, ks, ρ, n, b, sv, sf, T, fo, rfl, hR⟩ := h
  obtain ⟨hI, hρ, hn, hp, hz, hl, hℓ, hbu, hsr, hsl⟩ := id hR
  have hB := bar_of hI
  have hK := hk_of hI
  exact fin_d (hw_7 ..) (c3_hours (rP σ z Y) (tE ℓ s) cs sl pl ks (rN ρ) n b sv sf σ T [oc fo]) (p4_hours σ z Y _) (fun _ _ => rfl) (RR_z hR rfl rfl hρ rfl rfl rfl rfl)
set_option maxHeartbeats 1000000 in
theorem s_debtsByClients {w : PW} (h : SR w) : ST3 mX3_debtsByClients mX4_debtsByClients w := by
  obtain ⟨σ, z, Y, ℓ, s, cs, sl, pl, ks, ρ, n, b, sv, sf, T, fo, rfl, hR⟩ := h
  obtain ⟨hI, hρ, hn, hp, hz, hl, hℓ, hbu, hsr, hsl⟩ := id hR
  have hB := bar_of hI
  have hK := hk_of hI
  exact fin_d (hw_7 ..) (c3_debtsByClients (rP σ z Y) (tE ℓ s) cs sl pl ks (rN ρ) n b sv sf σ T [oc fo]) (p4_debtsByClients σ z Y _) (fun _ _ => rfl) (RR_z hR rfl rfl hρ rfl rfl rfl rfl)
set_option maxHeartbeats 1000000 in
theorem s_debtsByAccount {w : PW} (h : SR w) : ST3 mX3_debtsByAccount mX4_debtsByAccount w := by
  obtain ⟨σ, z, Y, ℓ, s, cs, sl, pl, ks, ρ, n, b, sv, sf, T, fo, rfl, hR⟩ := h
  obtain ⟨hI, hρ, hn, hp, hz, hl, hℓ, hbu, hsr, hsl⟩ := id hR
  have hB := bar_of hI
  have hK := hk_of hI
  exact fin_d (hw_7 ..) (c3_debtsByAccount (rP σ z Y) (tE ℓ s) cs sl pl ks (rN ρ) n b sv sf σ T [oc fo]) (p4_debtsByAccount σ z Y _) (fun _ _ => rfl) (RR_z hR rfl rfl hρ rfl rfl rfl rfl)
set_option maxHeartbeats 1000000 in
theorem s_lent {w : PW} (h : SR w) : ST3 mX3_lent mX4_lent w := by
  obtain ⟨σ, z, Y, ℓ, s, cs, sl, pl, ks, ρ, n, b, sv, sf, T, fo, rfl, hR⟩ := h
  obtain ⟨hI, hρ, hn, hp, hz, hl, hℓ, hbu, hsr, hsl⟩ := id hR
  have hB := bar_of hI
  have hK := hk_of hI
  exact fin_d (hw_7 ..) (c3_lent (rP σ z Y) (tE ℓ s) cs sl pl ks (rN ρ) n b sv sf σ T [oc fo]) (p4_lent σ z Y _) (fun _ _ => rfl) (RR_z hR rfl rfl hρ rfl rfl rfl rfl)
set_option maxHeartbeats 1000000 in
theorem s_interest {w : PW} (h : SR w) : ST3 mX3_interest mX4_interest w := by
  obtain ⟨σ, z, Y, ℓ, s, cs, sl, pl, ks, ρ, n, b, sv, sf, T, fo, rfl, hR⟩ := h
  obtain ⟨hI, hρ, hn, hp, hz, hl, hℓ, hbu, hsr, hsl⟩ := id hR
  have hB := bar_of hI
  have hK := hk_of hI
  exact fin_d (hw_7 ..) (c3_interest (rP σ z Y) (tE ℓ s) cs sl pl ks (rN ρ) n b sv sf σ T [oc fo]) (p4_interest σ z Y _) (fun _ _ => rfl) (RR_z hR rfl rfl hρ rfl rfl rfl rfl)
set_option maxHeartbeats 1000000 in
theorem s_repaid {w : PW} (h : SR w) : ST3 mX3_repaid mX4_repaid w := by
  obtain ⟨σ, z, Y, ℓ, s, cs, sl, pl, ks, ρ, n, b, sv, sf, T, fo, rfl, hR⟩ := h
  obtain ⟨hI, hρ, hn, hp, hz, hl, hℓ, hbu, hsr, hsl⟩ := id hR
  have hB := bar_of hI
  have hK := hk_of hI
  exact fin_d (hw_7 ..) (c3_repaid (rP σ z Y) (tE ℓ s) cs sl pl ks (rN ρ) n b sv sf σ T [oc fo]) (p4_repaid σ z Y _) (fun _ _ => rfl) (RR_z hR rfl rfl hρ rfl rfl rfl rfl)
set_option maxHeartbeats 1000000 in
theorem s_lost {w : PW} (h : SR w) : ST3 mX3_lost mX4_lost w := by
  obtain ⟨σ, z, Y, ℓ, s, cs, sl, pl, ks, ρ, n, b, sv, sf, T, fo, rfl, hR⟩ := h
  obtain ⟨hI, hρ, hn, hp, hz, hl, hℓ, hbu, hsr, hsl⟩ := id hR
  have hB := bar_of hI
  have hK := hk_of hI
  exact fin_d (hw_7 ..) (c3_lost (rP σ z Y) (tE ℓ s) cs sl pl ks (rN ρ) n b sv sf σ T [oc fo]) (p4_lost σ z Y _) (fun _ _ => rfl) (RR_z hR rfl rfl hρ rfl rfl rfl rfl)
set_option maxHeartbeats 1000000 in
theorem s_calls {w : PW} (h : SR w) : ST3 mX3_calls mX4_calls w := by
  obtain ⟨σ, z, Y, ℓ, s, cs, sl, pl, ks, ρ, n, b, sv, sf, T, fo, rfl, hR⟩ := h
  obtain ⟨hI, hρ, hn, hp, hz, hl, hℓ, hbu, hsr, hsl⟩ := id hR
  have hB := bar_of hI
  have hK := hk_of hI
  exact fin_d (hw_7 ..) (c3_calls (rP σ z Y) (tE ℓ s) cs sl pl ks (rN ρ) n b sv sf σ T [oc fo]) (p4_calls σ z Y _) (fun _ _ => rfl) (RR_z hR rfl rfl hρ rfl rfl rfl rfl)
set_option maxHeartbeats 1000000 in
theorem s_soldOut {w : PW} (h : SR w) : ST3 mX3_soldOut mX4_soldOut w := by
  obtain ⟨σ, z, Y, ℓ, s, cs, sl, pl, ks, ρ, n, b, sv, sf, T, fo, rfl, hR⟩ := h
  obtain ⟨hI, hρ, hn, hp, hz, hl, hℓ, hbu, hsr, hsl⟩ := id hR
  have hB := bar_of hI
  have hK := hk_of hI
  exact fin_d (hw_7 ..) (c3_soldOut (rP σ z Y) (tE ℓ s) cs sl pl ks (rN ρ) n b sv sf σ T [oc fo]) (p4_soldOut σ z Y _) (fun _ _ => rfl) (RR_z hR rfl rfl hρ rfl rfl rfl rfl)
set_option maxHeartbeats 1000000 in
theorem s_savedStates {w : PW} (h : SR w) : ST3 mX3_savedStates mX4_savedStates w := by
  obtain ⟨σ, z, Y, ℓ, s, cs, sl, pl, ks, ρ, n, b, sv, sf, T, fo, rfl, hR⟩ := h
  obtain ⟨hI, hρ, hn, hp, hz, hl, hℓ, hbu, hsr, hsl⟩ := id hR
  have hB := bar_of hI
  have hK := hk_of hI
  have hm := fun g => p4_savedStates σ z Y g
  rw [hz] at hm
  exact fin_d (hw_7 ..) (c3_savedStates (rP σ z Y) (tE ℓ s) cs sl pl ks (rN ρ) n b sv sf σ T [oc fo]) (hm _) (fun _ _ => rfl) (RR_z hR rfl rfl hρ rfl rfl rfl rfl)
set_option maxHeartbeats 1000000 in
theorem s_usedShare {w : PW} (h : SR w) : ST3 mX3_usedShare mX4_usedShare w := by
  obtain ⟨σ, z, Y, ℓ, s, cs, sl, pl, ks, ρ, n, b, sv, sf, T, fo, rfl, hR⟩ := h
  obtain ⟨hI, hρ, hn, hp, hz, hl, hℓ, hbu, hsr, hsl⟩ := id hR
  have hB := bar_of hI
  have hK := hk_of hI
  exact fin_d (hw_7 ..) (c3_usedShare (rP σ z Y) (tE ℓ s) cs sl pl ks (rN ρ) n b sv sf σ T [oc fo] (use_ok hI).1) (p4_usedShare σ z Y _ (use_ok hI).1) (fun _ _ => rfl) (RR_z hR rfl rfl hρ rfl rfl rfl rfl)
set_option maxHeartbeats 1000000 in
theorem s_digest {w : PW} (h : SR w) : ST3 mX3_digest mX4_digest w := by
  obtain ⟨σ, z, Y, ℓ, s, cs, sl, pl, ks, ρ, n, b, sv, sf, T, fo, rfl, hR⟩ := h
  obtain ⟨hI, hρ, hn, hp, hz, hl, hℓ, hbu, hsr, hsl⟩ := id hR
  have hB := bar_of hI
  have hK := hk_of hI
  obtain ⟨u1, B, u2, u3⟩ := use_ok hI
  obtain ⟨bc, bc1, bc2⟩ := hbu
  have hC := c3_digest (rP σ z Y) (tE ℓ s) cs sl pl ks ρ n b sv sf σ T [oc fo] hρ hB (fun c hc => pcc_of hI hc) hℓ (tE_0 ..) (fun q hq => (hsl q hq).2.imp id (fun x => x.1)) u1 u2
  rw [dig_eq (ik := Y.2.2.1) (bu := Y.2.2.2.2.1) hI (sl, (pl, ks)) ρ n B (fun k hk => (bc2 k hk).1.trans (bc2 k hk).2.symm) (fun q hq => (hsl q hq).1)] at hC
  exact fin_d (hw_7 ..) hC (p4_digest σ z Y _ hz hl hℓ (np_of hI) (fun q hq => by rw [← (hsl q hq).1]; exact (hsl q hq).2.imp id (fun x => x.1)) u1 u3) (fun _ _ => rfl) (RR_z hR rfl rfl (R8_srt hρ 8 (Nat.le_refl 8)) rfl rfl rfl rfl)
