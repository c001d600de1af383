/-! ===== steps that answer a number ===== -/
def ST3I (MC MX : MT) (w : PW) : Prop := ∃ (r : Int32) (u v : PW), Ct MC [.ref 7] w (d1 (some (.int r)) u) nx ∧ Ct MX [.ref 0] u (d1 (some (.int r)) v) nx ∧ (∃ fs, w[7]? = some (.inr (3, fs))) ∧ (∃ fs, u[0]? = some (.inr (4, fs))) ∧ SR v
theorem fin_dI {MC MX : MT} {w : PW} {σ0 σ' z z' cs sl pl ks sf τ : Nat → Int32} {Y Y' : RY} {ℓ n b : Nat} {s : PS} {ρ : Nat → Nat} {sv : Nat → Nat} {T : Nat → Nat → Int32} {fo : Nat → Int64} {fs : List Value} {r : Int32} (hw : w[7]? = some (.inr (3, fs))) (hC : Ct MC [.ref 7] w (d1 (some (.int r)) (HW σ0 z Y (tE ℓ s) cs sl pl ks (rN ρ) n b sv sf τ T fo)) nx) (hM : Ct MX [.ref 0] (rw9 σ0 z Y (h7 (tE ℓ s) cs sl pl ks (rN ρ) n b sv sf τ T fo)) (d1 (some (.int r)) (rw9 σ' z' Y' (h7 (tE ℓ s) cs sl pl ks (rN ρ) n b sv sf τ T fo))) nx) (hτ : ∀ i, i < 109 → τ i = σ' i) (hR : RR σ' z' Y' ℓ cs ρ n b sv sf T) : ST3I MC MX w := by
  refine ⟨r, _, HW σ' z' Y' (tE ℓ s) cs sl pl ks (rN ρ) n b sv sf τ T fo, hC, ?_, ⟨_, hw⟩, ⟨_, hw_0 ..⟩, σ', z', Y', ℓ, s, cs, sl, pl, ks, ρ, n, b, sv, sf, T, fo, hv_ext hτ, hR⟩
  rw [hv_rw, hv_rw]; exact hM
def ST3D (MC MX : MT) (w : PW) : Prop := ∃ (r : UInt64) (u v : PW), Ct MC [.ref 7] w (d1 (some (.double r)) u) nx ∧ Ct MX [.ref 0] u (d1 (some (.double r)) v) nx ∧ (∃ fs, w[7]? = some (.inr (3, fs))) ∧ (∃ fs, u[0]? = some (.inr (4, fs))) ∧ SR v
theorem fin_dD {MC MX : MT} {w : PW} {σ0 σ' z z' cs sl pl ks sf τ : Nat → Int32} {Y Y' : RY} {ℓ n b : Nat} {s : PS} {ρ : Nat → Nat} {sv : Nat → Nat} {T : Nat → Nat → Int32} {fo : Nat → Int64} {fs : List Value} {r : UInt64} (hw : w[7]? = some (.inr (3, fs))) (hC : Ct MC [.ref 7] w (d1 (some (.double r)) (HW σ0 z Y (tE ℓ s) cs sl pl ks (rN ρ) n b sv sf τ T fo)) nx) (hM : Ct MX [.ref 0] (rw9 σ0 z Y (h7 (tE ℓ s) cs sl pl ks (rN ρ) n b sv sf τ T fo)) (d1 (some (.double r)) (rw9 σ' z' Y' (h7 (tE ℓ s) cs sl pl ks (rN ρ) n b sv sf τ T fo))) nx) (hτ : ∀ i, i < 109 → τ i = σ' i) (hR : RR σ' z' Y' ℓ cs ρ n b sv sf T) : ST3D MC MX w := by
  refine ⟨r, _, HW σ' z' Y' (tE ℓ s) cs sl pl ks (rN ρ) n b sv sf τ T fo, hC, ?_, ⟨_, hw⟩, ⟨_, hw_0 ..⟩, σ', z', Y', ℓ, s, cs, sl, pl, ks, ρ, n, b, sv, sf, T, fo, hv_ext hτ, hR⟩
  rw [hv_rw, hv_rw]; exact hM
def ST3L (MC MX : MT) (w : PW) : Prop := ∃ (r : Int64) (u v : PW), Ct MC [.ref 7] w (d1 (some (.long r)) u) nx ∧ Ct MX [.ref 0] u (d1 (some (.long r)) v) nx ∧ (∃ fs, w[7]? = some (.inr (3, fs))) ∧ (∃ fs, u[0]? = some (.inr (4, fs))) ∧ SR v
theorem fin_dL {MC MX : MT} {w : PW} {σ0 σ' z z' cs sl pl ks sf τ : Nat → Int32} {Y Y' : RY} {ℓ n b : Nat} {s : PS} {ρ : Nat → Nat} {sv : Nat → Nat} {T : Nat → Nat → Int32} {fo : Nat → Int64} {fs : List Value} {r : Int64} (hw : w[7]? = some (.inr (3, fs))) (hC : Ct MC [.ref 7] w (d1 (some (.long r)) (HW σ0 z Y (tE ℓ s) cs sl pl ks (rN ρ) n b sv sf τ T fo)) nx) (hM : Ct MX [.ref 0] (rw9 σ0 z Y (h7 (tE ℓ s) cs sl pl ks (rN ρ) n b sv sf τ T fo)) (d1 (some (.long r)) (rw9 σ' z' Y' (h7 (tE ℓ s) cs sl pl ks (rN ρ) n b sv sf τ T fo))) nx) (hτ : ∀ i, i < 109 → τ i = σ' i) (hR : RR σ' z' Y' ℓ cs ρ n b sv sf T) : ST3L MC MX w := by
  refine ⟨r, _, HW σ' z' Y' (tE ℓ s) cs sl pl ks (rN ρ) n b sv sf τ T fo, hC, ?_, ⟨_, hw⟩, ⟨_, hw_0 ..⟩, σ', z', Y', ℓ, s, cs, sl, pl, ks, ρ, n, b, sv, sf, T, fo, hv_ext hτ, hR⟩
  rw [hv_rw, hv_rw]; exact hM
set_option maxHeartbeats 1000000 in
theorem t_turnOrder {w : PW} (h : SR w) : ST3I mX3_turnOrder mX4_turnOrder w := by
  obtain ⟨σ, z, Y, ℓ, s, cs, sl, pl, ks, ρ, n, b, sv, sf, T, fo, rfl, hR⟩ := h
  obtain ⟨hI, hρ, hn, hp, hz, hl, hℓ, hbu, hsr, hsl⟩ := id hR
  have hB := bar_of hI
  have hK := hk_of hI
  exact fin_dI (hw_7 ..) (c3_turnOrder (rP σ z Y) (tE ℓ s) cs sl pl ks (rN ρ) n b sv sf σ T [oc fo] hn hp hB) (p4_turnOrder σ z Y _ hn hz) (fun _ _ => rfl) (RR_sv hR (set_turn hI) rfl)
set_option maxHeartbeats 1000000 in
theorem t_clearBuffer {w : PW} (h : SR w) : ST3I mX3_clearBuffer mX4_clearBuffer w := by
  obtain ⟨σ, z, Y, ℓ, s, cs, sl, pl, ks, ρ, n, b, sv, sf, T, fo, rfl, hR⟩ := h
  obtain ⟨hI, hρ, hn, hp, hz, hl, hℓ, hbu, hsr, hsl⟩ := id hR
  have hB := bar_of hI
  have hK := hk_of hI
  have hc := c3_clearBuffer (rP σ z Y) (tE ℓ s) cs sl pl ks (rN ρ) n b sv sf σ T [oc fo]
  rw [tE_u, tE_0] at hc
  have hm := fun g => p4_clearBuffer σ z Y g
  rw [hl] at hm
  refine fin_dI (hw_7 ..) hc (hm _) (fun _ _ => rfl) ?_
  exact ⟨hI, hρ, hn, hp, hz, rfl, by omega, ⟨fun _ => 0, fun _ => Nat.zero_lt_succ _, fun k hk => by omega⟩, hsr, hsl⟩
set_option maxHeartbeats 1000000 in
theorem t_firstError {w : PW} (h : SR w) : ST3I mX3_firstError mX4_firstError w := by
  obtain ⟨σ, z, Y, ℓ, s, cs, sl, pl, ks, ρ, n, b, sv, sf, T, fo, rfl, hR⟩ := h
  obtain ⟨hI, hρ, hn, hp, hz, hl, hℓ, hbu, hsr, hsl⟩ := id hR
  have hB := bar_of hI
  have hK := hk_of hI
  obtain ⟨bc, bc1, bc2⟩ := hbu
  have hcs : ∀ k, k < ℓ → cs k = nI (bc k) ∧ bc k < 128 := fun k hk => ⟨(bc2 k hk).1, bc1 k⟩
  have hbk : ∀ k, k < ℓ → Y.2.2.2.2.1 k = nI (bc k) := fun k hk => (bc2 k hk).2
  obtain ⟨f1, f2, f3⟩ := fe_same hbk bc1
  have hm := fun g => p4_firstError σ z Y g hℓ hl
  rw [f1] at hm
  exact fin_dI (hw_7 ..) (c3_firstError (rP σ z Y) cs sl pl ks (rN ρ) n b sv sf σ T [oc fo] ℓ s hℓ hcs) (hm _) (fun _ _ => rfl) (RR_z hR rfl rfl hρ rfl rfl rfl rfl)
set_option maxHeartbeats 1000000 in
theorem t_calledNow {w : PW} (h : SR w) : ST3I mX3_calledNow mX4_calledNow w := by
  obtain ⟨σ, z, Y, ℓ, s, cs, sl, pl, ks, ρ, n, b, sv, sf, T, fo, rfl, hR⟩ := h
  obtain ⟨hI, hρ, hn, hp, hz, hl, hℓ, hbu, hsr, hsl⟩ := id hR
  have hB := bar_of hI
  have hK := hk_of hI
  exact fin_dI (hw_7 ..) (c3_calledNow (rP σ z Y) (tE ℓ s) cs sl pl ks (rN ρ) n b sv sf σ T [oc fo]) (p4_calledNow σ z Y _) (fun _ _ => rfl) (RR_z hR rfl rfl hρ rfl rfl rfl rfl)
set_option maxHeartbeats 1000000 in
theorem t_rate {w : PW} (h : SR w) : ST3I mX3_rate mX4_rate w := by
  obtain ⟨σ, z, Y, ℓ, s, cs, sl, pl, ks, ρ, n, b, sv, sf, T, fo, rfl, hR⟩ := h
  obtain ⟨hI, hρ, hn, hp, hz, hl, hℓ, hbu, hsr, hsl⟩ := id hR
  have hB := bar_of hI
  have hK := hk_of hI
  exact fin_dI (hw_7 ..) (c3_rate (rP σ z Y) (tE ℓ s) cs sl pl ks (rN ρ) n b sv sf σ T [oc fo]) (p4_rate σ z Y _) (fun _ _ => rfl) (RR_z hR rfl rfl hρ rfl rfl rfl rfl)
set_option maxHeartbeats 1000000 in
theorem t_grace {w : PW} (h : SR w) : ST3I mX3_grace mX4_grace w := by
  obtain ⟨σ, z, Y, ℓ, s, cs, sl, pl, ks, ρ, n, b, sv, sf, T, fo, rfl, hR⟩ := h
  obtain ⟨hI, hρ, hn, hp, hz, hl, hℓ, hbu, hsr, hsl⟩ := id hR
  have hB := bar_of hI
  have hK := hk_of hI
  exact fin_dI (hw_7 ..) (c3_grace (rP σ z Y) (tE ℓ s) cs sl pl ks (rN ρ) n b sv sf σ T [oc fo]) (p4_grace σ z Y _) (fun _ _ => rfl) (RR_z hR rfl rfl hρ rfl rfl rfl rfl)
set_option maxHeartbeats 1000000 in
theorem t_slip {w : PW} (h : SR w) : ST3I mX3_slip mX4_slip w := by
  obtain ⟨σ, z, Y, ℓ, s, cs, sl, pl, ks, ρ, n, b, sv, sf, T, fo, rfl, hR⟩ := h
  obtain ⟨hI, hρ, hn, hp, hz, hl, hℓ, hbu, hsr, hsl⟩ := id hR
  have hB := bar_of hI
  have hK := hk_of hI
  exact fin_dI (hw_7 ..) (c3_slip (rP σ z Y) (tE ℓ s) cs sl pl ks (rN ρ) n b sv sf σ T [oc fo]) (p4_slip σ z Y _) (fun _ _ => rfl) (RR_z hR rfl rfl hρ rfl rfl rfl rfl)
set_option maxHeartbeats 1000000 in
theorem t_order {w : PW} (h : SR w) : ST3I mX3_order mX4_order w := by
  obtain ⟨σ, z, Y, ℓ, s, cs, sl, pl, ks, ρ, n, b, sv, sf, T, fo, rfl, hR⟩ := h
  obtain ⟨hI, hρ, hn, hp, hz, hl, hℓ, hbu, hsr, hsl⟩ := id hR
  have hB := bar_of hI
  have hK := hk_of hI
  exact fin_dI (hw_7 ..) (c3_order (rP σ z Y) (tE ℓ s) cs sl pl ks (rN ρ) n b sv sf σ T [oc fo]) (p4_order σ z Y _) (fun _ _ => rfl) (RR_z hR rfl rfl hρ rfl rfl rfl rfl)
set_option maxHeartbeats 1000000 in
theorem t_hours {w : PW} (h : SR w) : ST3I mX3_hours mX4_hours w := by
  obtain ⟨σ, z, Y, ℓ, s, cs, sl, pl, ks, ρ, n, b, sv, sf, T, fo, rfl, hR⟩ := h
  obtain ⟨hI, hρ, hn, hp, hz, hl, hℓ, hbu, hsr, hsl⟩ := id hR
  have hB := bar_of hI
  have hK := hk_of hI
  exact fin_dI (hw_7 ..) (c3_hours (rP σ z Y) (tE ℓ s) cs sl pl ks (rN ρ) n b sv sf σ T [oc fo]) (p4_hours σ z Y _) (fun _ _ => rfl) (RR_z hR rfl rfl hρ rfl rfl rfl rfl)
set_option maxHeartbeats 1000000 in
theorem t_debtsByClients {w : PW} (h : SR w) : ST3I mX3_debtsByClients mX4_debtsByClients w := by
  obtain ⟨σ, z, Y, ℓ, s, cs, sl, pl, ks, ρ, n, b, sv, sf, T, fo, rfl, hR⟩ := h
  obtain ⟨hI, hρ, hn, hp, hz, hl, hℓ, hbu, hsr, hsl⟩ := id hR
  have hB := bar_of hI
  have hK := hk_of hI
  exact fin_dI (hw_7 ..) (c3_debtsByClients (rP σ z Y) (tE ℓ s) cs sl pl ks (rN ρ) n b sv sf σ T [oc fo]) (p4_debtsByClients σ z Y _) (fun _ _ => rfl) (RR_z hR rfl rfl hρ rfl rfl rfl rfl)
set_option maxHeartbeats 1000000 in
theorem t_debtsByAccount {w : PW} (h : SR w) : ST3I mX3_debtsByAccount mX4_debtsByAccount w := by
  obtain ⟨σ, z, Y, ℓ, s, cs, sl, pl, ks, ρ, n, b, sv, sf, T, fo, rfl, hR⟩ := h
  obtain ⟨hI, hρ, hn, hp, hz, hl, hℓ, hbu, hsr, hsl⟩ := id hR
  have hB := bar_of hI
  have hK := hk_of hI
  exact fin_dI (hw_7 ..) (c3_debtsByAccount (rP σ z Y) (tE ℓ s) cs sl pl ks (rN ρ) n b sv sf σ T [oc fo]) (p4_debtsByAccount σ z Y _) (fun _ _ => rfl) (RR_z hR rfl rfl hρ rfl rfl rfl rfl)
set_option maxHeartbeats 1000000 in
theorem t_lent {w : PW} (h : SR w) : ST3I mX3_lent mX4_lent w := by
  obtain ⟨σ, z, Y, ℓ, s, cs, sl, pl, ks, ρ, n, b, sv, sf, T, fo, rfl, hR⟩ := h
  obtain ⟨hI, hρ, hn, hp, hz, hl, hℓ, hbu, hsr, hsl⟩ := id hR
  have hB := bar_of hI
  have hK := hk_of hI
  exact fin_dI (hw_7 ..) (c3_lent (rP σ z Y) (tE ℓ s) cs sl pl ks (rN ρ) n b sv sf σ T [oc fo]) (p4_lent σ z Y _) (fun _ _ => rfl) (RR_z hR rfl rfl hρ rfl rfl rfl rfl)
set_option maxHeartbeats 1000000 in
theorem t_interest {w : PW} (h : SR w) : ST3I mX3_interest mX4_interest w := by
  obtain ⟨σ, z, Y, ℓ, s, cs, sl, pl, ks, ρ, n, b, sv, sf, T, fo, rfl, hR⟩ := h
  obtain ⟨hI, hρ, hn, hp, hz, hl, hℓ, hbu, hsr, hsl⟩ := id hR
  have hB := bar_of hI
  have hK := hk_of hI
  exact fin_dI (hw_7 ..) (c3_interest (rP σ z Y) (tE ℓ s) cs sl pl ks (rN ρ) n b sv sf σ T [oc fo]) (p4_interest σ z Y _) (fun _ _ => rfl) (RR_z hR rfl rfl hρ rfl rfl rfl rfl)
set_option maxHeartbeats 1000000 in
theorem t_repaid {w : PW} (h : SR w) : ST3I mX3_repaid mX4_repaid w := by
  obtain ⟨σ, z, Y, ℓ, s, cs, sl, pl, ks, ρ, n, b, sv, sf, T, fo, rfl, hR⟩ := h
  obtain ⟨hI, hρ, hn, hp, hz, hl, hℓ, hbu, hsr, hsl⟩ := id hR
  have hB := bar_of hI
  have hK := hk_of hI
  exact fin_dI (hw_7 ..) (c3_repaid (rP σ z Y) (tE ℓ s) cs sl pl ks (rN ρ) n b sv sf σ T [oc fo]) (p4_repaid σ z Y _) (fun _ _ => rfl) (RR_z hR rfl rfl hρ rfl rfl rfl rfl)
set_option maxHeartbeats 1000000 in
theorem t_lost {w : PW} (h : SR w) : ST3I mX3_lost mX4_lost w := by
  obtain ⟨σ, z, Y, ℓ, s, cs, sl, pl, ks, ρ, n, b, sv, sf, T, fo, rfl, hR⟩ := h
  obtain ⟨hI, hρ, hn, hp, hz, hl, hℓ, hbu, hsr, hsl⟩ := id hR
  have hB := bar_of hI
  have hK := hk_of hI
  exact fin_dI (hw_7 ..) (c3_lost (rP σ z Y) (tE ℓ s) cs sl pl ks (rN ρ) n b sv sf σ T [oc fo]) (p4_lost σ z Y _) (fun _ _ => rfl) (RR_z hR rfl rfl hρ rfl rfl rfl rfl)
set_option maxHeartbeats 1000000 in
theorem t_calls {w : PW} (h : SR w) : ST3I mX3_calls mX4_calls w := by
  obtain ⟨σ, z, Y, ℓ, s, cs, sl, pl, ks, ρ, n, b, sv, sf, T, fo, rfl, hR⟩ := h
  obtain ⟨hI, hρ, hn, hp, hz, hl, hℓ, hbu, hsr, hsl⟩ := id hR
  have hB := bar_of hI
  have hK := hk_of hI
  exact fin_dI (hw_7 ..) (c3_calls (rP σ z Y) (tE ℓ s) cs sl pl ks (rN ρ) n b sv sf σ T [oc fo]) (p4_calls σ z Y _) (fun _ _ => rfl) (RR_z hR rfl rfl hρ rfl rfl rfl rfl)
set_option maxHeartbeats 1000000 in
theorem t_soldOut {w : PW} (h : SR w) : ST3I mX3_soldOut mX4_soldOut w := by
  obtain ⟨σ, z, Y, ℓ, s, cs, sl, pl, ks, ρ, n, b, sv, sf, T, fo, rfl, hR⟩ := h
  obtain ⟨hI, hρ, hn, hp, hz, hl, hℓ, hbu, hsr, hsl⟩ := id hR
  have hB := bar_of hI
  have hK := hk_of hI
  exact fin_dI (hw_7 ..) (c3_soldOut (rP σ z Y) (tE ℓ s) cs sl pl ks (rN ρ) n b sv sf σ T [oc fo]) (p4_soldOut σ z Y _) (fun _ _ => rfl) (RR_z hR rfl rfl hρ rfl rfl rfl rfl)
set_option maxHeartbeats 1000000 in
theorem t_savedStates {w : PW} (h : SR w) : ST3I mX3_savedStates mX4_savedStates w := by
  obtain ⟨σ, z, Y, ℓ, s, cs, sl, pl, ks, ρ, n, b, sv, sf, T, fo, rfl, hR⟩ := h
  obtain ⟨hI, hρ, hn, hp, hz, hl, hℓ, hbu, hsr, hsl⟩ := id hR
  have hB := bar_of hI
  have hK := hk_of hI
  have hm := fun g => p4_savedStates σ z Y g
  rw [hz] at hm
  exact fin_dI (hw_7 ..) (c3_savedStates (rP σ z Y) (tE ℓ s) cs sl pl ks (rN ρ) n b sv sf σ T [oc fo]) (hm _) (fun _ _ => rfl) (RR_z hR rfl rfl hρ rfl rfl rfl rfl)
set_option maxHeartbeats 1000000 in
theorem t_usedShare {w : PW} (h : SR w) : ST3D mX3_usedShare mX4_usedShare w := by
  obtain ⟨σ, z, Y, ℓ, s, cs, sl, pl, ks, ρ, n, b, sv, sf, T, fo, rfl, hR⟩ := h
  obtain ⟨hI, hρ, hn, hp, hz, hl, hℓ, hbu, hsr, hsl⟩ := id hR
  have hB := bar_of hI
  have hK := hk_of hI
  exact fin_dD (hw_7 ..) (c3_usedShare (rP σ z Y) (tE ℓ s) cs sl pl ks (rN ρ) n b sv sf σ T [oc fo] (use_ok hI).1) (p4_usedShare σ z Y _ (use_ok hI).1) (fun _ _ => rfl) (RR_z hR rfl rfl hρ rfl rfl rfl rfl)
set_option maxHeartbeats 1000000 in
theorem t_digest {w : PW} (h : SR w) : ST3L mX3_digest mX4_digest w := by
  obtain ⟨σ, z, Y, ℓ, s, cs, sl, pl, ks, ρ, n, b, sv, sf, T, fo, rfl, hR⟩ := h
  obtain ⟨hI, hρ, hn, hp, hz, hl, hℓ, hbu, hsr, hsl⟩ := id hR
  have hB := bar_of hI
  have hK := hk_of hI
  obtain ⟨u1, B, u2, u3⟩ := use_ok hI
  obtain ⟨bc, bc1, bc2⟩ := hbu
  have hC := c3_digest (rP σ z Y) (tE ℓ s) cs sl pl ks ρ n b sv sf σ T [oc fo] hρ hB (fun c hc => pcc_of hI hc) hℓ (tE_0 ..) (fun q hq => (hsl q hq).2.imp id (fun x => x.1)) u1 u2
  rw [dig_eq (ik := Y.2.2.1) (bu := Y.2.2.2.2.1) hI (sl, (pl, ks)) ρ n B (fun k hk => (bc2 k hk).1.trans (bc2 k hk).2.symm) (fun q hq => (hsl q hq).1)] at hC
  exact fin_dL (hw_7 ..) hC (p4_digest σ z Y _ hz hl hℓ (np_of hI) (fun q hq => by rw [← (hsl q hq).1]; exact (hsl q hq).2.imp id (fun x => x.1)) u1 u3) (fun _ _ => rfl) (RR_z hR rfl rfl (R8_srt hρ 8 (Nat.le_refl 8)) rfl rfl rfl rfl)
