/-! ===== the law's steps ===== -/
section FIN
variable {ML MX MC : MT} {as : List Value} {w : PW} {kk rb r : Int32} {σ0 σ' z z' cs sl pl ks sf τ : Nat → Int32} {Y Y' : RY} {ℓ n b : Nat} {s : PS} {ρ : Nat → Nat} {sv : Nat → Nat} {T : Nat → Nat → Int32} {fo : Nat → Int64}
theorem fin_x (hL : Ct ML (.ref 7 :: (as ++ [.ref 107])) w (d1 (some (.int kk)) (HW σ0 z Y (tE ℓ s) cs sl pl ks (rN ρ) n b sv sf σ0 T fo)) nx) (hM : Ct MX (.ref 0 :: as) (rw9 σ0 z Y (h7 (tE ℓ s) cs sl pl ks (rN ρ) n b sv sf σ0 T fo)) (d1 (some (.int rb)) (rw9 σ0 z' Y' (h7 (tE ℓ s) cs sl pl ks (rN ρ) n b sv sf σ0 T fo))) nx) (hz : z' 2 = kk) (hk : ¬ kk = 0) (hR : RR σ0 z' Y' ℓ cs ρ n b sv sf T) : ST1 ML MX as w := by
  refine ⟨kk, rb, _, HW σ0 z' Y' (tE ℓ s) cs sl pl ks (rN ρ) n b sv sf σ0 T fo, fo, hL, ?_, ?_, ⟨_, hw_0 ..⟩, ⟨_, hw_0 ..⟩, hw_o .., fun q => absurd q hk, σ0, z', Y', ℓ, s, cs, sl, pl, ks, ρ, n, b, sv, sf, T, fo, rfl, hR⟩
  · rw [hv_rw, hv_rw]; exact hM
  · rw [hv_rw, ← hz]; exact c4_thrown _ _ _ _
theorem fin_v (hL : Ct ML (.ref 7 :: as) w (d1 (some (.int kk)) (HW σ0 z Y (tE ℓ s) cs sl pl ks (rN ρ) n b sv sf τ T fo)) nx) (hM : Ct MX (.ref 0 :: as) (rw9 σ0 z Y (h7 (tE ℓ s) cs sl pl ks (rN ρ) n b sv sf τ T fo)) (d1 none (rw9 σ' z' Y' (h7 (tE ℓ s) cs sl pl ks (rN ρ) n b sv sf τ T fo))) nx) (hz : z' 2 = kk) (hτ : ∀ i, i < 109 → τ i = σ' i) (hR : RR σ' z' Y' ℓ cs ρ n b sv sf T) : ST2 ML MX as w := by
  refine ⟨kk, _, HW σ' z' Y' (tE ℓ s) cs sl pl ks (rN ρ) n b sv sf τ T fo, hL, ?_, ?_, ⟨_, hw_0 ..⟩, ⟨_, hw_0 ..⟩, σ', z', Y', ℓ, s, cs, sl, pl, ks, ρ, n, b, sv, sf, T, fo, hv_ext hτ, hR⟩
  · rw [hv_rw, hv_rw]; exact hM
  · rw [hv_rw, ← hz]; exact c4_thrown _ _ _ _
theorem fin_ok (hL : Ct ML (.ref 7 :: (as ++ [.ref 107])) w (d1 (some (.int (nI 0))) ((HW σ0 z Y (tE ℓ s) cs sl pl ks (rN ρ) n b sv sf τ T fo).set 107 (oc (vp_updL fo 0 r.toInt64)))) nx) (hM : ∀ fo', Ct MX (.ref 0 :: as) (rw9 σ0 z Y (h7 (tE ℓ s) cs sl pl ks (rN ρ) n b sv sf τ T fo')) (d1 (some (.int rb)) (rw9 σ' z' Y' (h7 (tE ℓ s) cs sl pl ks (rN ρ) n b sv sf τ T fo'))) nx) (hz : z' 2 = nI 0) (hr : r = rb) (hτ : ∀ i, i < 109 → τ i = σ' i) (hR : RR σ' z' Y' ℓ cs ρ n b sv sf T) : ST1 ML MX as w := by
  rw [hw_os] at hL
  refine ⟨nI 0, rb, _, HW σ' z' Y' (tE ℓ s) cs sl pl ks (rN ρ) n b sv sf τ T (vp_updL fo 0 r.toInt64), _, hL, ?_, ?_, ⟨_, hw_0 ..⟩, ⟨_, hw_0 ..⟩, hw_o .., fun _ => ?_, σ', z', Y', ℓ, s, cs, sl, pl, ks, ρ, n, b, sv, sf, T, _, hv_ext hτ, hR⟩
  · rw [hv_rw, hv_rw]; exact hM _
  · rw [hv_rw, ← hz]; exact c4_thrown _ _ _ _
  · rw [← hr]; exact if_pos rfl
theorem fin_b {x : Int64} (hL : Ct ML (.ref 7 :: (as ++ [.ref 107])) w (d1 (some (.int (nI 0))) ((HW σ0 z Y (tE ℓ s) cs sl pl ks (rN ρ) n b sv sf τ T fo).set 107 (oc (vp_updL fo 0 x)))) nx) (hM : ∀ fo', Ct MX (.ref 0 :: as) (rw9 σ0 z Y (h7 (tE ℓ s) cs sl pl ks (rN ρ) n b sv sf τ T fo')) (d1 (some (.int rb)) (rw9 σ' z' Y' (h7 (tE ℓ s) cs sl pl ks (rN ρ) n b sv sf τ T fo'))) nx) (hz : z' 2 = nI 0) (hr : x = rb.toInt64) (hτ : ∀ i, i < 109 → τ i = σ' i) (hR : RR σ' z' Y' ℓ cs ρ n b sv sf T) : ST1 ML MX as w := by
  rw [hw_os] at hL
  refine ⟨nI 0, rb, _, HW σ' z' Y' (tE ℓ s) cs sl pl ks (rN ρ) n b sv sf τ T (vp_updL fo 0 x), _, hL, ?_, ?_, ⟨_, hw_0 ..⟩, ⟨_, hw_0 ..⟩, hw_o .., fun _ => ?_, σ', z', Y', ℓ, s, cs, sl, pl, ks, ρ, n, b, sv, sf, T, _, hv_ext hτ, hR⟩
  · rw [hv_rw, hv_rw]; exact hM _
  · rw [hv_rw, ← hz]; exact c4_thrown _ _ _ _
  · rw [← hr]; exact if_pos rfl
theorem fin_d {fs : List Value} {r : Value} (hw : w[7]? = some (.inr (3, fs))) (hC : Ct MC [.ref 7] w (d1 (some r) (HW σ0 z Y (tE ℓ s) cs sl pl ks (rN ρ) n b sv sf τ T fo)) nx) (hM : Ct MX [.ref 0] (rw9 σ0 z Y (h7 (tE ℓ s) cs sl pl ks (rN ρ) n b sv sf τ T fo)) (d1 (some r) (rw9 σ' z' Y' (h7 (tE ℓ s) cs sl pl ks (rN ρ) n b sv sf τ T fo))) nx) (hτ : ∀ i, i < 109 → τ i = σ' i) (hR : RR σ' z' Y' ℓ cs ρ n b sv sf T) : ST3 MC MX w := by
  refine ⟨r, _, HW σ' z' Y' (tE ℓ s) cs sl pl ks (rN ρ) n b sv sf τ T fo, hC, ?_, ⟨_, hw⟩, ⟨_, hw_0 ..⟩, σ', z', Y', ℓ, s, cs, sl, pl, ks, ρ, n, b, sv, sf, T, fo, hv_ext hτ, hR⟩
  rw [hv_rw, hv_rw]; exact hM
end FIN
theorem sv_2 (z : Nat → Int32) (x : Int32) (n : Nat) : svZ (upd z 2 x) n 2 = x := svZ_n (by decide)
theorem lkF_e {σ : Nat → Int32} {k : Nat} {v : Int32} (hk : k < 98) : lkF (upd σ k v) 8 = lookN (upd σ k v) 8 107 - σ 107 := by
  unfold lkF
  rw [upd_n _ _ (by omega)]
theorem lkF_d {σ : Nat → Int32} {v : Int32} : lkF (drpN σ v 6) 8 = lookN (drpN σ v 6) 8 107 - σ 107 := by
  unfold lkF
  rw [drpN_at (by omega)]
theorem and_f1 {a b : Bool} (h : a = false) : (a && b) = false := by rw [h]; rfl
theorem and_f2 {a b : Bool} (h : b = false) : (a && b) = false := by rw [h, Bool.and_false]
theorem sss_0 (a b : Int32) : a - (a - b) = b := by
  rw [Int32.sub_eq_add_neg, Int32.neg_sub, Int32.add_comm, Int32.sub_add_cancel]
theorem nI1_0 : ¬ nI 1 = 0 := by decide
theorem nI2_0 : ¬ nI 2 = 0 := by decide
theorem nI3_0 : ¬ nI 3 = 0 := by decide
set_option maxHeartbeats 1000000 in
theorem s_setPrice {w : PW} (h : SR w) (p q : Int32) : ST1 mL_setPrice mX4_setPrice [.int p, .int q] w := by
  obtain ⟨σ, z, Y, ℓ, s, cs, sl, pl, ks, ρ, n, b, sv, sf, T, fo, rfl, hR⟩ := h
  obtain ⟨hI, hρ, hn, hp, hz, hl, hℓ, hbu, hsr, hsl⟩ := id hR
  have hB := bar_of hI
  have hK := hk_of hI
  cases hcp : inB p (nI 0) (nI 5)
  · exact fin_x (lx_setPrice_1 (hw_7 ..) (x3_setPrice_1 (rP σ z Y) (tE ℓ s) cs sl pl ks (rN ρ) n b sv sf σ T [oc fo] q hcp)) (p4_setPrice_1 σ z Y _ q hcp) rfl nI1_0 (RR_z hR rfl rfl hρ rfl rfl rfl rfl)
  obtain ⟨k, hk0, rfl⟩ := inB_of (by omega) hcp
  have hk : k < 6 := by omega
  cases hq : inB q (nI 1) (nI 500)
  · exact fin_x (lx_setPrice_2 (hw_7 ..) (x3_setPrice_2 (rP σ z Y) (tE ℓ s) cs sl pl ks (rN ρ) n b sv sf σ T [oc fo] hk hq)) (p4_setPrice_2 σ z Y _ hk hq) rfl nI2_0 (RR_z hR rfl rfl hρ rfl rfl rfl rfl)
  obtain ⟨v, v1, v2, rfl⟩ := inB_lh (by omega) (by omega) hq
  exact fin_ok (lk_setPrice (hw_7 ..) (hw_o ..) (c3_setPrice (rP σ z Y) (tE ℓ s) cs sl pl ks (rN ρ) n b sv sf σ T [oc fo] hk hq hn hp hB hK)) (fun _ => p4_setPrice_0 σ z Y _ hk hq hn hz) (sv_2 ..) (lkF_e (by omega)) (fun _ _ => rfl) (RR_sv hR (set_price hI hk v1 v2) rfl)
set_option maxHeartbeats 1000000 in
theorem s_setCut {w : PW} (h : SR w) (p q : Int32) : ST1 mL_setCut mX4_setCut [.int p, .int q] w := by
  obtain ⟨σ, z, Y, ℓ, s, cs, sl, pl, ks, ρ, n, b, sv, sf, T, fo, rfl, hR⟩ := h
  obtain ⟨hI, hρ, hn, hp, hz, hl, hℓ, hbu, hsr, hsl⟩ := id hR
  have hB := bar_of hI
  have hK := hk_of hI
  cases hcp : inB p (nI 0) (nI 5)
  · exact fin_x (lx_setCut_1 (hw_7 ..) (x3_setCut_1 (rP σ z Y) (tE ℓ s) cs sl pl ks (rN ρ) n b sv sf σ T [oc fo] q hcp)) (p4_setCut_1 σ z Y _ q hcp) rfl nI1_0 (RR_z hR rfl rfl hρ rfl rfl rfl rfl)
  obtain ⟨k, hk0, rfl⟩ := inB_of (by omega) hcp
  have hk : k < 6 := by omega
  cases hq : inB q (nI 0) (nI 90)
  · exact fin_x (lx_setCut_2 (hw_7 ..) (x3_setCut_2 (rP σ z Y) (tE ℓ s) cs sl pl ks (rN ρ) n b sv sf σ T [oc fo] hk hq)) (p4_setCut_2 σ z Y _ hk hq) rfl nI2_0 (RR_z hR rfl rfl hρ rfl rfl rfl rfl)
  obtain ⟨v, v1, v2, rfl⟩ := inB_lh (by omega) (by omega) hq
  exact fin_ok (lk_setCut (hw_7 ..) (hw_o ..) (c3_setCut (rP σ z Y) (tE ℓ s) cs sl pl ks (rN ρ) n b sv sf σ T [oc fo] hk hq hn hp hB hK)) (fun _ => p4_setCut_0 σ z Y _ hk hq hn hz) (sv_2 ..) (lkF_e (by omega)) (fun _ _ => rfl) (RR_sv hR (set_cut hI hk v2) rfl)
set_option maxHeartbeats 1000000 in
theorem s_fall {w : PW} (h : SR w) (p : Int32) : ST1 mL_fall mX4_fall [.int p] w := by
  obtain ⟨σ, z, Y, ℓ, s, cs, sl, pl, ks, ρ, n, b, sv, sf, T, fo, rfl, hR⟩ := h
  obtain ⟨hI, hρ, hn, hp, hz, hl, hℓ, hbu, hsr, hsl⟩ := id hR
  have hB := bar_of hI
  have hK := hk_of hI
  cases hq : inB p (nI 1) (nI 90)
  · exact fin_x (lx_fall_1 (hw_7 ..) (x3_fall_1 (rP σ z Y) (tE ℓ s) cs sl pl ks (rN ρ) n b sv sf σ T [oc fo] hq)) (p4_fall_1 σ z Y _ hq) rfl nI1_0 (RR_z hR rfl rfl hρ rfl rfl rfl rfl)
  obtain ⟨v, v1, v2, rfl⟩ := inB_lh (by omega) (by omega) hq
  exact fin_ok (lk_fall (hw_7 ..) (hw_o ..) (c3_fall (rP σ z Y) (tE ℓ s) cs sl pl ks (rN ρ) n b sv sf σ T [oc fo] hq hn hp hB hK)) (fun _ => p4_fall_0 σ z Y _ hq hn hz) (sv_2 ..) lkF_d (fun _ _ => rfl) (RR_sv hR (set_fall hI v2) rfl)
set_option maxHeartbeats 1000000 in
theorem s_pledge {w : PW} (h : SR w) (p q m : Int32) : ST1 mL_pledge mX4_pledge [.int p, .int q, .int m] w := by
  obtain ⟨σ, z, Y, ℓ, s, cs, sl, pl, ks, ρ, n, b, sv, sf, T, fo, rfl, hR⟩ := h
  obtain ⟨hI, hρ, hn, hp, hz, hl, hℓ, hbu, hsr, hsl⟩ := id hR
  have hB := bar_of hI
  have hK := hk_of hI
  cases hcp : inB p (nI 0) (nI 7)
  · exact fin_x (lx_pledge_1 (hw_7 ..) (x3_pledge_1 (rP σ z Y) (tE ℓ s) cs sl pl ks (rN ρ) n b sv sf σ T [oc fo] q m hcp)) (p4_pledge_1 σ z Y _ m (and_f1 hcp)) rfl nI1_0 (RR_z hR rfl rfl hρ rfl rfl rfl rfl)
  obtain ⟨c, hc0, rfl⟩ := inB_of (by omega) hcp
  have hc : c < 8 := by omega
  cases hcq : inB q (nI 0) (nI 5)
  · exact fin_x (lx_pledge_1 (hw_7 ..) (x3_pledge_1k (rP σ z Y) (tE ℓ s) cs sl pl ks (rN ρ) n b sv sf σ T [oc fo] hc m hcq)) (p4_pledge_1 σ z Y _ m (and_f2 hcq)) rfl nI1_0 (RR_z hR rfl rfl hρ rfl rfl rfl rfl)
  obtain ⟨k, hk0, rfl⟩ := inB_of (by omega) hcq
  have hk : k < 6 := by omega
  cases hm : inB m (nI 1) (nI 50)
  · exact fin_x (lx_pledge_2 (hw_7 ..) (x3_pledge_2 (rP σ z Y) (tE ℓ s) cs sl pl ks (rN ρ) n b sv sf σ T [oc fo] hc hk hm)) (p4_pledge_2 σ z Y _ hc hk hm) rfl nI2_0 (RR_z hR rfl rfl hρ rfl rfl rfl rfl)
  obtain ⟨v, v1, v2, rfl⟩ := inB_lh (by omega) (by omega) hm
  by_cases h3 : σ (ix c k) + nI v ≤ nI 99
  · exact fin_ok (lk_pledge (hw_7 ..) (hw_o ..) (c3_pledge (rP σ z Y) (tE ℓ s) cs sl pl ks (rN ρ) n b sv sf σ T [oc fo] hc hk hm h3 hn hp hB hK)) (fun _ => p4_pledge_0 σ z Y _ hc hk hm (decide_eq_true h3) hn hz) (sv_2 ..) rfl (fun _ _ => rfl) (RR_sv hR (do_pledge hI hc hk v2 h3) rfl)
  · exact fin_x (lx_pledge_3 (hw_7 ..) (x3_pledge_3a (rP σ z Y) (tE ℓ s) cs sl pl ks (rN ρ) n b sv sf σ T [oc fo] hc hk hm h3 hp hB)) (p4_pledge_3 σ z Y _ hc hk hm (decide_eq_false h3)) rfl nI3_0 (RR_z (RR_b σ hR) rfl rfl hρ rfl rfl rfl rfl)
set_option maxHeartbeats 1000000 in
theorem s_release {w : PW} (h : SR w) (p q m : Int32) : ST1 mL_release mX4_release [.int p, .int q, .int m] w := by
  obtain ⟨σ, z, Y, ℓ, s, cs, sl, pl, ks, ρ, n, b, sv, sf, T, fo, rfl, hR⟩ := h
  obtain ⟨hI, hρ, hn, hp, hz, hl, hℓ, hbu, hsr, hsl⟩ := id hR
  have hB := bar_of hI
  have hK := hk_of hI
  cases hcp : inB p (nI 0) (nI 7)
  · exact fin_x (lx_release_1 (hw_7 ..) (x3_release_1 (rP σ z Y) (tE ℓ s) cs sl pl ks (rN ρ) n b sv sf σ T [oc fo] q m hcp)) (p4_release_1 σ z Y _ m (and_f1 hcp)) rfl nI1_0 (RR_z hR rfl rfl hρ rfl rfl rfl rfl)
  obtain ⟨c, hc0, rfl⟩ := inB_of (by omega) hcp
  have hc : c < 8 := by omega
  cases hcq : inB q (nI 0) (nI 5)
  · exact fin_x (lx_release_1 (hw_7 ..) (x3_release_1k (rP σ z Y) (tE ℓ s) cs sl pl ks (rN ρ) n b sv sf σ T [oc fo] hc m hcq)) (p4_release_1 σ z Y _ m (and_f2 hcq)) rfl nI1_0 (RR_z hR rfl rfl hρ rfl rfl rfl rfl)
  obtain ⟨k, hk0, rfl⟩ := inB_of (by omega) hcq
  have hk : k < 6 := by omega
  cases hm : inB m (nI 1) (nI 50)
  · exact fin_x (lx_release_2 (hw_7 ..) (x3_release_2 (rP σ z Y) (tE ℓ s) cs sl pl ks (rN ρ) n b sv sf σ T [oc fo] hc hk hm)) (p4_release_2 σ z Y _ hc hk hm) rfl nI2_0 (RR_z hR rfl rfl hρ rfl rfl rfl rfl)
  obtain ⟨v, v1, v2, rfl⟩ := inB_lh (by omega) (by omega) hm
  by_cases h3 : nI v ≤ σ (ix c k)
  · by_cases h4 : σ (ix c 7) ≤ covI (canTk σ c k (nI v)) c (nI 0) (nI 1)
    · have ht := (canL_t (show k ≠ 7 by omega)).mpr ⟨h3, h4⟩
      have e : lookN (canTk σ c k (nI v)) 8 = lookN (upd σ (ix c k) (σ (ix c k) + -nI v)) 8 := by rw [tk_eq]; rfl
      exact fin_ok (lk_release (hw_7 ..) (hw_o ..) (c3_release (rP σ z Y) (tE ℓ s) cs sl pl ks (rN ρ) n b sv sf σ T [oc fo] hc hk hm h3 h4 hn hp hB hK)) (fun _ => p4_release_0 σ z Y _ hc hk hm ht hn hz) (sv_2 ..) (by rw [e]) (fun _ _ => by rw [e]) (RR_sv hR (by rw [← e]; exact do_release hI hc hk v2 h3) rfl)
    · exact fin_x (lx_release_3 (hw_7 ..) (x3_release_3b (rP σ z Y) (tE ℓ s) cs sl pl ks (rN ρ) n b sv sf σ T [oc fo] hc hk hm h3 h4 hp hB)) (p4_release_3 σ z Y _ hc hk hm (canL_f (show k ≠ 7 by omega) (fun q => h4 q.2))) rfl nI3_0 (RR_z (RR_b σ hR) rfl rfl hρ rfl rfl rfl rfl)
  · exact fin_x (lx_release_3 (hw_7 ..) (x3_release_3a (rP σ z Y) (tE ℓ s) cs sl pl ks (rN ρ) n b sv sf σ T [oc fo] hc hk hm h3 hp hB)) (p4_release_3 σ z Y _ hc hk hm (canL_f (show k ≠ 7 by omega) (fun q => h3 q.1))) rfl nI3_0 (RR_z (RR_b σ hR) rfl rfl hρ rfl rfl rfl rfl)
set_option maxHeartbeats 1000000 in
theorem s_deposit {w : PW} (h : SR w) (p q : Int32) : ST1 mL_deposit mX4_deposit [.int p, .int q] w := by
  obtain ⟨σ, z, Y, ℓ, s, cs, sl, pl, ks, ρ, n, b, sv, sf, T, fo, rfl, hR⟩ := h
  obtain ⟨hI, hρ, hn, hp, hz, hl, hℓ, hbu, hsr, hsl⟩ := id hR
  have hB := bar_of hI
  have hK := hk_of hI
  cases hcp : inB p (nI 0) (nI 7)
  · exact fin_x (lx_deposit_1 (hw_7 ..) (x3_deposit_1 (rP σ z Y) (tE ℓ s) cs sl pl ks (rN ρ) n b sv sf σ T [oc fo] q hcp)) (p4_deposit_1 σ z Y _ q hcp) rfl nI1_0 (RR_z hR rfl rfl hρ rfl rfl rfl rfl)
  obtain ⟨c, hc0, rfl⟩ := inB_of (by omega) hcp
  have hc : c < 8 := by omega
  cases hm : inB q (nI 1) (nI 9999)
  · exact fin_x (lx_deposit_2 (hw_7 ..) (x3_deposit_2 (rP σ z Y) (tE ℓ s) cs sl pl ks (rN ρ) n b sv sf σ T [oc fo] hc hm)) (p4_deposit_2 σ z Y _ hc hm) rfl nI2_0 (RR_z hR rfl rfl hρ rfl rfl rfl rfl)
  obtain ⟨v, v1, v2, rfl⟩ := inB_lh (by omega) (by omega) hm
  by_cases h3 : σ (ix c 6) + nI v ≤ nI 99999
  · exact fin_ok (lk_deposit (hw_7 ..) (hw_o ..) (c3_deposit (rP σ z Y) (tE ℓ s) cs sl pl ks (rN ρ) n b sv sf σ T [oc fo] hc hm h3 hn hp hB hK)) (fun _ => p4_deposit_0 σ z Y _ hc hm h3 hn hz) (sv_2 ..) rfl (fun _ _ => rfl) (RR_sv hR (do_deposit hI hc v2 h3) rfl)
  · exact fin_x (lx_deposit_3 (hw_7 ..) (x3_deposit_3a (rP σ z Y) (tE ℓ s) cs sl pl ks (rN ρ) n b sv sf σ T [oc fo] hc hm h3 hp hB)) (p4_deposit_3 σ z Y _ hc hm h3) rfl nI3_0 (RR_z (RR_b σ hR) rfl rfl hρ rfl rfl rfl rfl)
set_option maxHeartbeats 1000000 in
theorem s_withdraw {w : PW} (h : SR w) (p q : Int32) : ST1 mL_withdraw mX4_withdraw [.int p, .int q] w := by
  obtain ⟨σ, z, Y, ℓ, s, cs, sl, pl, ks, ρ, n, b, sv, sf, T, fo, rfl, hR⟩ := h
  obtain ⟨hI, hρ, hn, hp, hz, hl, hℓ, hbu, hsr, hsl⟩ := id hR
  have hB := bar_of hI
  have hK := hk_of hI
  cases hcp : inB p (nI 0) (nI 7)
  · exact fin_x (lx_withdraw_1 (hw_7 ..) (x3_withdraw_1 (rP σ z Y) (tE ℓ s) cs sl pl ks (rN ρ) n b sv sf σ T [oc fo] q hcp)) (p4_withdraw_1 σ z Y _ q hcp) rfl nI1_0 (RR_z hR rfl rfl hρ rfl rfl rfl rfl)
  obtain ⟨c, hc0, rfl⟩ := inB_of (by omega) hcp
  have hc : c < 8 := by omega
  cases hm : inB q (nI 1) (nI 9999)
  · exact fin_x (lx_withdraw_2 (hw_7 ..) (x3_withdraw_2 (rP σ z Y) (tE ℓ s) cs sl pl ks (rN ρ) n b sv sf σ T [oc fo] hc hm)) (p4_withdraw_2 σ z Y _ hc hm) rfl nI2_0 (RR_z hR rfl rfl hρ rfl rfl rfl rfl)
  obtain ⟨v, v1, v2, rfl⟩ := inB_lh (by omega) (by omega) hm
  by_cases h3 : σ (ix c 6) < nI v
  · exact fin_x (lx_withdraw_3 (hw_7 ..) (x3_withdraw_3a (rP σ z Y) (tE ℓ s) cs sl pl ks (rN ρ) n b sv sf σ T [oc fo] hc hm h3 hp hB)) (p4_withdraw_3 σ z Y _ hc hm (canL_f (by decide) (fun q => Int32.not_le.mpr h3 q.1))) rfl nI3_0 (RR_z (RR_b σ hR) rfl rfl hρ rfl rfl rfl rfl)
  by_cases h4 : σ (ix c 7) ≤ covI σ c (nI 0) (nI 1) - nI v
  · have h5 := h4
    rw [← covI_6] at h5
    have ht := (canL_t (show 6 ≠ 7 by decide)).mpr ⟨Int32.not_lt.mp h3, h5⟩
    have e : lookN (canTk σ c 6 (nI v)) 8 = lookN (upd σ (ix c 6) (σ (ix c 6) + -nI v)) 8 := by rw [tk_eq]; rfl
    exact fin_ok (lk_withdraw (hw_7 ..) (hw_o ..) (c3_withdraw (rP σ z Y) (tE ℓ s) cs sl pl ks (rN ρ) n b sv sf σ T [oc fo] hc hm h3 h4 hn hp hB hK)) (fun _ => p4_withdraw_0 σ z Y _ hc hm ht hn hz) (sv_2 ..) (by rw [e]) (fun _ _ => by rw [e]) (RR_sv hR (by rw [← e]; exact do_withdraw hI hc v2 (Int32.not_lt.mp h3)) rfl)
  · have h5 := h4
    rw [← covI_6] at h5
    exact fin_x (lx_withdraw_3 (hw_7 ..) (x3_withdraw_3b (rP σ z Y) (tE ℓ s) cs sl pl ks (rN ρ) n b sv sf σ T [oc fo] hc hm h3 h4 hp hB)) (p4_withdraw_3 σ z Y _ hc hm (canL_f (by decide) (fun q => h5 q.2))) rfl nI3_0 (RR_z (RR_b σ hR) rfl rfl hρ rfl rfl rfl rfl)
set_option maxHeartbeats 1000000 in
theorem s_lend {w : PW} (h : SR w) (p q : Int32) : ST1 mL_lend mX4_lend [.int p, .int q] w := by
  obtain ⟨σ, z, Y, ℓ, s, cs, sl, pl, ks, ρ, n, b, sv, sf, T, fo, rfl, hR⟩ := h
  obtain ⟨hI, hρ, hn, hp, hz, hl, hℓ, hbu, hsr, hsl⟩ := id hR
  have hB := bar_of hI
  have hK := hk_of hI
  cases hcp : inB p (nI 0) (nI 7)
  · exact fin_x (lx_lend_1 (hw_7 ..) (x3_lend_1 (rP σ z Y) (tE ℓ s) cs sl pl ks (rN ρ) n b sv sf σ T [oc fo] q hcp)) (p4_lend_1 σ z Y _ q hcp) rfl nI1_0 (RR_z hR rfl rfl hρ rfl rfl rfl rfl)
  obtain ⟨c, hc0, rfl⟩ := inB_of (by omega) hcp
  have hc : c < 8 := by omega
  cases hm : inB q (nI 1) (nI 9999)
  · exact fin_x (lx_lend_2 (hw_7 ..) (x3_lend_2 (rP σ z Y) (tE ℓ s) cs sl pl ks (rN ρ) n b sv sf σ T [oc fo] hc hm)) (p4_lend_2 σ z Y _ hc hm) rfl nI2_0 (RR_z hR rfl rfl hρ rfl rfl rfl rfl)
  obtain ⟨v, v1, v2, rfl⟩ := inB_lh (by omega) (by omega) hm
  by_cases h3 : σ (ix c 9) = 0
  · by_cases h4 : σ (ix c 7) + nI v ≤ covI σ c (nI 0) (nI 1)
    · exact fin_ok (lk_lend (hw_7 ..) (hw_o ..) (c3_lend (rP σ z Y) (tE ℓ s) cs sl pl ks (rN ρ) n b sv sf σ T [oc fo] hc hm h3 h4 hn hp hB hK)) (fun _ => p4_lend_0 σ z Y _ hc hm (canB_iff.mpr ⟨h3, h4⟩) hn hz) (sv_2 ..) rfl (fun _ _ => rfl) (RR_sv hR (do_lend hI hc v2 h4) rfl)
    · exact fin_x (lx_lend_3 (hw_7 ..) (x3_lend_3b (rP σ z Y) (tE ℓ s) cs sl pl ks (rN ρ) n b sv sf σ T [oc fo] hc hm h3 h4 hp hB)) (p4_lend_3 σ z Y _ hc hm (Bool.eq_false_iff.mpr (fun q => h4 (canB_iff.mp q).2))) rfl nI3_0 (RR_z (RR_b σ hR) rfl rfl hρ rfl rfl rfl rfl)
  · exact fin_x (lx_lend_3 (hw_7 ..) (x3_lend_3a (rP σ z Y) (tE ℓ s) cs sl pl ks (rN ρ) n b sv sf σ T [oc fo] hc hm h3 hp hB)) (p4_lend_3 σ z Y _ hc hm (Bool.eq_false_iff.mpr (fun q => h3 (canB_iff.mp q).1))) rfl nI3_0 (RR_z (RR_b σ hR) rfl rfl hρ rfl rfl rfl rfl)
set_option maxHeartbeats 1000000 in
theorem s_payBack {w : PW} (h : SR w) (p q : Int32) : ST1 mL_payBack mX4_payBack [.int p, .int q] w := by
  obtain ⟨σ, z, Y, ℓ, s, cs, sl, pl, ks, ρ, n, b, sv, sf, T, fo, rfl, hR⟩ := h
  obtain ⟨hI, hρ, hn, hp, hz, hl, hℓ, hbu, hsr, hsl⟩ := id hR
  have hB := bar_of hI
  have hK := hk_of hI
  cases hcp : inB p (nI 0) (nI 7)
  · exact fin_x (lx_payBack_1 (hw_7 ..) (x3_payBack_1 (rP σ z Y) (tE ℓ s) cs sl pl ks (rN ρ) n b sv sf σ T [oc fo] q hcp)) (p4_payBack_1 σ z Y _ q hcp) rfl nI1_0 (RR_z hR rfl rfl hρ rfl rfl rfl rfl)
  obtain ⟨c, hc0, rfl⟩ := inB_of (by omega) hcp
  have hc : c < 8 := by omega
  cases hm : inB q (nI 1) (nI 9999)
  · exact fin_x (lx_payBack_2 (hw_7 ..) (x3_payBack_2 (rP σ z Y) (tE ℓ s) cs sl pl ks (rN ρ) n b sv sf σ T [oc fo] hc hm)) (p4_payBack_2 σ z Y _ hc hm) rfl nI2_0 (RR_z hR rfl rfl hρ rfl rfl rfl rfl)
  obtain ⟨v, v1, v2, rfl⟩ := inB_lh (by omega) (by omega) hm
  by_cases h3 : σ (ix c 7) = 0
  · exact fin_x (lx_payBack_3 (hw_7 ..) (x3_payBack_3 (rP σ z Y) (tE ℓ s) cs sl pl ks (rN ρ) n b sv sf σ T [oc fo] hc hm h3 hp hB)) (p4_payBack_3 σ z Y _ hc hm h3) rfl nI3_0 (RR_z (RR_b σ hR) rfl rfl hρ rfl rfl rfl rfl)
  · exact fin_ok (lk_payBack (hw_7 ..) (hw_o ..) (c3_payBack (rP σ z Y) (tE ℓ s) cs sl pl ks (rN ρ) n b sv sf σ T [oc fo] hc hm h3 (b3_of hI hc (by omega)) hn hp hB hK)) (fun _ => p4_payBack_0 σ z Y _ hc hm h3 hn hz) (sv_2 ..) rfl (fun _ _ => by rw [pay_eq]) (RR_sv hR (do_payBack hI hc v2) rfl)
set_option maxHeartbeats 1000000 in
theorem s_readmit {w : PW} (h : SR w) (p : Int32) : ST2 mL_readmit mX4_readmit [.int p] w := by
  obtain ⟨σ, z, Y, ℓ, s, cs, sl, pl, ks, ρ, n, b, sv, sf, T, fo, rfl, hR⟩ := h
  obtain ⟨hI, hρ, hn, hp, hz, hl, hℓ, hbu, hsr, hsl⟩ := id hR
  have hB := bar_of hI
  have hK := hk_of hI
  cases hcp : inB p (nI 0) (nI 7)
  · exact fin_v (lx_readmit_1 (hw_7 ..) (x3_readmit_1 (rP σ z Y) (tE ℓ s) cs sl pl ks (rN ρ) n b sv sf σ T [oc fo] hcp)) (p4_readmit_1 σ z Y _ hcp) rfl (fun _ _ => rfl) (RR_z hR rfl rfl hρ rfl rfl rfl rfl)
  obtain ⟨c, hc0, rfl⟩ := inB_of (by omega) hcp
  have hc : c < 8 := by omega
  by_cases h3 : σ (ix c 9) = 0
  · exact fin_v (lx_readmit_2 (hw_7 ..) (x3_readmit_2 (rP σ z Y) (tE ℓ s) cs sl pl ks (rN ρ) n b sv sf σ T [oc fo] hc h3 hp hB)) (p4_readmit_2 σ z Y _ hc (by rw [h3]; decide)) rfl (fun _ _ => rfl) (RR_z (RR_b σ hR) rfl rfl hρ rfl rfl rfl rfl)
  · exact fin_v (lk_readmit (hw_7 ..) (c3_readmit (rP σ z Y) (tE ℓ s) cs sl pl ks (rN ρ) n b sv sf σ T [oc fo] hc h3 hn hp hB hK)) (p4_readmit_0 σ z Y _ hc ((hB c hc).resolve_left h3) hn hz) (sv_2 ..) (fun _ _ => rfl) (RR_sv hR (set_free hI hc) rfl)
set_option maxHeartbeats 1000000 in
theorem s_pass {w : PW} (h : SR w) (p : Int32) : ST1 mL_pass mX4_pass [.int p] w := by
  obtain ⟨σ, z, Y, ℓ, s, cs, sl, pl, ks, ρ, n, b, sv, sf, T, fo, rfl, hR⟩ := h
  obtain ⟨hI, hρ, hn, hp, hz, hl, hℓ, hbu, hsr, hsl⟩ := id hR
  have hB := bar_of hI
  have hK := hk_of hI
  cases hm : inB p (nI 1) (nI 100)
  · exact fin_x (lx_pass_1 (hw_7 ..) (x3_pass_1 (rP σ z Y) (tE ℓ s) cs sl pl ks (rN ρ) n b sv sf σ T [oc fo] hm)) (p4_pass_1 σ z Y _ hm) rfl nI1_0 (RR_z hR rfl rfl hρ rfl rfl rfl rfl)
  obtain ⟨v, v1, v2, rfl⟩ := inB_lh (by omega) (by omega) hm
  obtain ⟨a1, a2, a3, a4⟩ := pass_all hI (sl, (pl, ks)) v
  have e : lookN (phN (σ, (sl, (pl, ks))) v).1 8 = lookN (pasN σ v).1 8 := by rw [a1]
  have er : lookN (phN (σ, (sl, (pl, ks))) v).1 8 108 - σ 108 = (pasN σ v).2 := by
    rw [e, look_id a2, ← a3, sss_0]
  exact fin_ok (lk_pass (hw_7 ..) (hw_o ..) (c3_pass (rP σ z Y) (tE ℓ s) cs sl pl ks (rN ρ) n b sv sf σ T [oc fo] v2 hm a4 (by rw [a1]; exact hk_of a2) hn hp hB)) (fun _ => p4_pass_0 σ z Y _ (np_of hI) v2 hm hn hz) (sv_2 ..) er (fun _ _ => by rw [e]) (RR_sv hR (by rw [look_id a2]; exact a2) rfl)
set_option maxHeartbeats 1000000 in
theorem s_changeRate {w : PW} (h : SR w) (p : Int32) : ST1 mL_changeRate mX4_changeRate [.int p] w := by
  obtain ⟨σ, z, Y, ℓ, s, cs, sl, pl, ks, ρ, n, b, sv, sf, T, fo, rfl, hR⟩ := h
  obtain ⟨hI, hρ, hn, hp, hz, hl, hℓ, hbu, hsr, hsl⟩ := id hR
  have hB := bar_of hI
  have hK := hk_of hI
  cases hm : inB p (nI 0) (nI 100)
  · exact fin_x (lx_changeRate_1 (hw_7 ..) (x3_changeRate_1 (rP σ z Y) (tE ℓ s) cs sl pl ks (rN ρ) n b sv sf σ T [oc fo] hm)) (p4_changeRate_1 σ z Y _ hm) rfl nI1_0 (RR_z hR rfl rfl hρ rfl rfl rfl rfl)
  obtain ⟨v, v1, v2, rfl⟩ := inB_lh (by omega) (by omega) hm
  have hi := set_rate hI v2
  exact fin_ok (lk_changeRate (hw_7 ..) (hw_o ..) (c3_changeRate (rP σ z Y) (tE ℓ s) cs sl pl ks (rN ρ) n b sv sf σ T [oc fo] hm hn hp hB)) (fun _ => p4_changeRate_0 σ z Y _ hm hn hz) (sv_2 ..) rfl (fun _ _ => by rw [look_id hi]) (RR_sv hR (by rw [look_id hi]; exact hi) rfl)
set_option maxHeartbeats 1000000 in
theorem s_changeGrace {w : PW} (h : SR w) (p : Int32) : ST1 mL_changeGrace mX4_changeGrace [.int p] w := by
  obtain ⟨σ, z, Y, ℓ, s, cs, sl, pl, ks, ρ, n, b, sv, sf, T, fo, rfl, hR⟩ := h
  obtain ⟨hI, hρ, hn, hp, hz, hl, hℓ, hbu, hsr, hsl⟩ := id hR
  have hB := bar_of hI
  have hK := hk_of hI
  cases hm : inB p (nI 1) (nI 24)
  · exact fin_x (lx_changeGrace_1 (hw_7 ..) (x3_changeGrace_1 (rP σ z Y) (tE ℓ s) cs sl pl ks (rN ρ) n b sv sf σ T [oc fo] hm)) (p4_changeGrace_1 σ z Y _ hm) rfl nI1_0 (RR_z hR rfl rfl hρ rfl rfl rfl rfl)
  obtain ⟨v, v1, v2, rfl⟩ := inB_lh (by omega) (by omega) hm
  have hi := set_grace hI v1 v2
  exact fin_ok (lk_changeGrace (hw_7 ..) (hw_o ..) (c3_changeGrace (rP σ z Y) (tE ℓ s) cs sl pl ks (rN ρ) n b sv sf σ T [oc fo] hm hn hp hB)) (fun _ => p4_changeGrace_0 σ z Y _ hm hn hz) (sv_2 ..) rfl (fun _ _ => by rw [look_id hi]) (RR_sv hR (by rw [look_id hi]; exact hi) rfl)
set_option maxHeartbeats 1000000 in
theorem s_changeSlip {w : PW} (h : SR w) (p : Int32) : ST1 mL_changeSlip mX4_changeSlip [.int p] w := by
  obtain ⟨σ, z, Y, ℓ, s, cs, sl, pl, ks, ρ, n, b, sv, sf, T, fo, rfl, hR⟩ := h
  obtain ⟨hI, hρ, hn, hp, hz, hl, hℓ, hbu, hsr, hsl⟩ := id hR
  have hB := bar_of hI
  have hK := hk_of hI
  cases hm : inB p (nI 0) (nI 50)
  · exact fin_x (lx_changeSlip_1 (hw_7 ..) (x3_changeSlip_1 (rP σ z Y) (tE ℓ s) cs sl pl ks (rN ρ) n b sv sf σ T [oc fo] hm)) (p4_changeSlip_1 σ z Y _ hm) rfl nI1_0 (RR_z hR rfl rfl hρ rfl rfl rfl rfl)
  obtain ⟨v, v1, v2, rfl⟩ := inB_lh (by omega) (by omega) hm
  have hi := set_slip hI v2
  exact fin_ok (lk_changeSlip (hw_7 ..) (hw_o ..) (c3_changeSlip (rP σ z Y) (tE ℓ s) cs sl pl ks (rN ρ) n b sv sf σ T [oc fo] hm hn hp hB)) (fun _ => p4_changeSlip_0 σ z Y _ hm hn hz) (sv_2 ..) rfl (fun _ _ => by rw [look_id hi]) (RR_sv hR (by rw [look_id hi]; exact hi) rfl)
set_option maxHeartbeats 1000000 in
theorem s_turnOrder {w : PW} (h : SR w) : ST3 mX3_turnOrder mX4_turnOrder w := by
  obtain ⟨σ, z, Y, ℓ, s, cs, sl, pl, ks, ρ, n, b, sv, sf, T, fo, rfl, hR⟩ := h
  obtain ⟨hI, hρ, hn, hp, hz, hl, hℓ, hbu, hsr, hsl⟩ := id hR
  have hB := bar_of hI
  have hK := hk_of hI
  exact fin_d (hw_7 ..) (c3_turnOrder (rP σ z Y) (tE ℓ s) cs sl pl ks (rN ρ) n b sv sf σ T [oc fo] hn hp hB) (p4_turnOrder σ z Y _ hn hz) (fun _ _ => rfl) (RR_sv hR (set_turn hI) rfl)
set_option maxHeartbeats 1000000 in
theorem s_append {w : PW} (h : SR w) (p : Int32) : ST1 mL_append mX4_append [.int p] w := by
  obtain ⟨σ, z, Y, ℓ, s, cs, sl, pl, ks, ρ, n, b, sv, sf, T, fo, rfl, hR⟩ := h
  obtain ⟨hI, hρ, hn, hp, hz, hl, hℓ, hbu, hsr, hsl⟩ := id hR
  have hB := bar_of hI
  have hK := hk_of hI
  cases hm : inB p (nI 33) (nI 126)
  · exact fin_x (lx_append_1 (hw_7 ..) (x3_append_1 (rP σ z Y) (tE ℓ s) cs sl pl ks (rN ρ) n b sv sf σ T [oc fo] hm)) (p4_append_1 σ z Y _ hm) rfl nI1_0 (RR_z hR rfl rfl hρ rfl rfl rfl rfl)
  obtain ⟨v, v1, v2, rfl⟩ := inB_lh (by omega) (by omega) hm
  by_cases h3 : ℓ = 60
  · subst h3
    exact fin_x (lx_append_2 (hw_7 ..) (x3_append_2 (rP σ z Y) (tE 60 s) cs sl pl ks (rN ρ) n b sv sf σ T [oc fo] hm (tE_0 ..))) (p4_append_2 σ z Y _ hm hl) rfl nI2_0 (RR_z hR rfl rfl hρ rfl rfl rfl rfl)
  · have hc := c3_append (rP σ z Y) (tE ℓ s) cs sl pl ks (rN ρ) n b sv sf σ T [oc fo] hm (q := ℓ) (by omega) (tE_0 ..)
    rw [tE_u] at hc
    refine fin_ok (lk_append (hw_7 ..) (hw_o ..) hc) (fun _ => p4_append_0 σ z Y _ hm (q := ℓ) (by omega) hl) rfl rfl (fun _ _ => rfl) ?_
    obtain ⟨bc, bc1, bc2⟩ := hbu
    refine ⟨hI, hρ, hn, hp, hz, rfl, by omega, ⟨updN bc ℓ v, fun k => ?_, fun k hk => ?_⟩, hsr, hsl⟩
    · unfold updN; split
      · omega
      · exact bc1 k
    · unfold updN
      by_cases hkl : k = ℓ
      · rw [if_pos hkl, hkl]; exact ⟨upd_s _ _ _, upd_s _ _ _⟩
      · rw [if_neg hkl]
        obtain ⟨e1, e2⟩ := bc2 k (by omega)
        exact ⟨(upd_n _ _ hkl).trans e1, (upd_n _ _ hkl).trans e2⟩
set_option maxHeartbeats 1000000 in
theorem s_clearBuffer {w : PW} (h : SR w) : ST3 mX3_clearBuffer mX4_clearBuffer w := by
  obtain ⟨σ, z, Y, ℓ, s, cs, sl, pl, ks, ρ, n, b, sv, sf, T, fo, rfl, hR⟩ := h
  obtain ⟨hI, hρ, hn, hp, hz, hl, hℓ, hbu, hsr, hsl⟩ := id hR
  have hB := bar_of hI
  have hK := hk_of hI
  have hc := c3_clearBuffer (rP σ z Y) (tE ℓ s) cs sl pl ks (rN ρ) n b sv sf σ T [oc fo]
  rw [tE_u, tE_0] at hc
  have hm := fun g => p4_clearBuffer σ z Y g
  rw [hl] at hm
  refine fin_d (hw_7 ..) hc (hm _) (fun _ _ => rfl) ?_
  exact ⟨hI, hρ, hn, hp, hz, rfl, by omega, ⟨fun _ => 0, fun _ => Nat.zero_lt_succ _, fun k hk => by omega⟩, hsr, hsl⟩
set_option maxHeartbeats 1000000 in
theorem s_keep {w : PW} (h : SR w) (p : Int32) : ST2 mL_keep mX4_keep [.int p] w := by
  obtain ⟨σ, z, Y, ℓ, s, cs, sl, pl, ks, ρ, n, b, sv, sf, T, fo, rfl, hR⟩ := h
  obtain ⟨hI, hρ, hn, hp, hz, hl, hℓ, hbu, hsr, hsl⟩ := id hR
  have hB := bar_of hI
  have hK := hk_of hI
  cases hcp : inB p (nI 0) (nI 1)
  · exact fin_v (lx_keep_1 (hw_7 ..) (x3_keep_1 (rP σ z Y) (tE ℓ s) cs sl pl ks (rN ρ) n b sv sf σ T [oc fo] hcp)) (p4_keep_1 σ z Y _ hcp) rfl (fun _ _ => rfl) (RR_z hR rfl rfl hρ rfl rfl rfl rfl)
  obtain ⟨c, hc0, rfl⟩ := inB_of (by omega) hcp
  have hc : c < 2 := by omega
  refine fin_v (lk_keep (hw_7 ..) (c3_keep (rP σ z Y) (tE ℓ s) cs sl pl ks (rN ρ) n b sv sf σ T [oc fo] hc hB)) (p4_keep_0 σ z Y _ hc) rfl (fun _ _ => rfl) ?_
  refine ⟨hI, hρ, hn, hp, hz, hl, hℓ, hbu, fun k hk => ?_, fun q hq => ?_⟩
  · rw [updT_n T σ (show sv k ≠ c + 1 by have := (hp.2.2.1 k (by omega)).1; omega)]; exact hsr k hk
  · show upd sf c (nI 1) q = upd Y.2.2.1 c (nI 1) q ∧ (upd sf c (nI 1) q = 0 ∨ (upd sf c (nI 1) q = 1 ∧ INV (updT T (c + 1) σ (q + 1)) ∧ ∀ i, i < 109 → va_cpy σ Y.2.1 0 (109 * c) 109 (109 * q + i) = updT T (c + 1) σ (q + 1) i))
    by_cases e : q = c
    · subst e
      rw [upd_s, upd_s, updT_s]
      refine ⟨rfl, Or.inr ⟨rfl, hI, fun i hi => ?_⟩⟩
      rw [pk_cpy_in (by omega) (by omega), show 0 + (109 * q + i - 109 * q) = i by omega]
    · rw [upd_n _ _ e, upd_n _ _ e, updT_n T σ (show q + 1 ≠ c + 1 by omega)]
      obtain ⟨s1, s2⟩ := hsl q hq
      refine ⟨s1, s2.imp id (fun ⟨s3, s4, s5⟩ => ⟨s3, s4, fun i hi => ?_⟩)⟩
      rw [pk_cpy_out (by omega)]
      exact s5 i hi
theorem INV_ext {σ τ : Nat → Int32} (e : ∀ i, i < 109 → σ i = τ i) (h : INV σ) : INV τ := ⟨GLB_congr (fun i hi => (e i (by omega)).symm) (fun i h1 h2 => (e i (by omega)).symm) h.1, fun c hc => CLQ_congr (fun i hi => (e i (by omega)).symm) (fun w hw => (e _ (by simp only [ix]; omega)).symm) (h.2 c hc)⟩
set_option maxHeartbeats 1000000 in
theorem s_goBack {w : PW} (h : SR w) (p : Int32) : ST2 mL_goBack mX4_goBack [.int p] w := by
  obtain ⟨σ, z, Y, ℓ, s, cs, sl, pl, ks, ρ, n, b, sv, sf, T, fo, rfl, hR⟩ := h
  obtain ⟨hI, hρ, hn, hp, hz, hl, hℓ, hbu, hsr, hsl⟩ := id hR
  have hB := bar_of hI
  have hK := hk_of hI
  cases hcp : inB p (nI 0) (nI 1)
  · exact fin_v (lx_goBack_1 (hw_7 ..) (x3_goBack_1 (rP σ z Y) (tE ℓ s) cs sl pl ks (rN ρ) n b sv sf σ T [oc fo] hcp)) (p4_goBack_1 σ z Y _ hcp) rfl (fun _ _ => rfl) (RR_z hR rfl rfl hρ rfl rfl rfl rfl)
  obtain ⟨c, hc0, rfl⟩ := inB_of (by omega) hcp
  have hc : c < 2 := by omega
  obtain ⟨s1, s2⟩ := hsl c hc
  by_cases h3 : sf c = 0
  · exact fin_v (lx_goBack_2 (hw_7 ..) (x3_goBack_2 (rP σ z Y) (tE ℓ s) cs sl pl ks (rN ρ) n b sv sf σ T [oc fo] hc h3)) (p4_goBack_2 σ z Y _ hc (by rw [← s1]; exact h3)) rfl (fun _ _ => rfl) (RR_z hR rfl rfl hρ rfl rfl rfl rfl)
  obtain ⟨-, s4, s5⟩ := s2.resolve_left h3
  have ee : ∀ i, i < 109 → T (c + 1) i = va_cpy (fun k => Y.2.1 (109 * c + k)) σ 0 0 109 i := fun i hi => by
    rw [pk_cpy_in (by omega) (by omega), ← s5 i hi]
    show _ = Y.2.1 (109 * c + (0 + (i - 0)))
    rw [show 0 + (i - 0) = i by omega]
  exact fin_v (lk_goBack (hw_7 ..) (c3_goBack (rP σ z Y) (tE ℓ s) cs sl pl ks (rN ρ) n b sv sf σ T [oc fo] hc h3 (bar_of s4) hn hp hB)) (p4_goBack_0 σ z Y _ hc (by rw [← s1]; exact h3) hn hz) (sv_2 ..) ee (RR_sv hR (INV_ext ee s4) rfl)
set_option maxHeartbeats 1000000 in
theorem s_undo {w : PW} (h : SR w) : ST2 mL_undo mX4_undo [] w := by
  obtain ⟨σ, z, Y, ℓ, s, cs, sl, pl, ks, ρ, n, b, sv, sf, T, fo, rfl, hR⟩ := h
  obtain ⟨hI, hρ, hn, hp, hz, hl, hℓ, hbu, hsr, hsl⟩ := id hR
  have hB := bar_of hI
  have hK := hk_of hI
  by_cases h3 : n = 0
  · subst h3
    exact fin_v (lx_undo_1 (hw_7 ..) (x3_undo_1 (rP σ z Y) (tE ℓ s) cs sl pl ks (rN ρ) b sv sf σ T [oc fo])) (p4_undo_1 σ z Y _ hz) rfl (fun _ _ => rfl) (RR_z hR rfl rfl hρ rfl rfl rfl rfl)
  obtain ⟨m, rfl⟩ : ∃ m, n = m + 1 := ⟨n - 1, by omega⟩
  obtain ⟨s4, s5⟩ := hsr m (by omega)
  have ee : ∀ i, i < 109 → T (sv m) i = va_cpy (fun k => Y.1 (109 * m + k)) σ 0 0 109 i := fun i hi => by
    rw [pk_cpy_in (by omega) (by omega), ← s5 i hi]
    show _ = Y.1 (109 * m + (0 + (i - 0)))
    rw [show 0 + (i - 0) = i by omega]
  refine fin_v (lk_undo (hw_7 ..) (c3_undo (rP σ z Y) (tE ℓ s) cs sl pl ks (rN ρ) b sv sf σ T [oc fo] (by omega) hp (bar_of s4))) (p4_undo_0 σ z Y _ (by omega) hz) rfl ee ?_
  exact ⟨INV_ext ee s4, hρ, by omega, hp, rfl, hl, hℓ, hbu, fun k hk => hsr k (by omega), hsl⟩
