/-! ===== the law's worlds: the house alone ===== -/
def P9 : Nat → va_E := fun _ => .inr (999, [])
/-- the world of a house whose ledger says σ -/
def SW (σ : Nat → Int32) (w : PW) : Prop := ∃ (t cs sl pl ks : Nat → Int32) (ρ : Nat → Nat) (n b : Nat) (sv : Nat → Nat) (sf : Nat → Int32) (T : Nat → Nat → Int32), w = hv P9 t cs sl pl ks (rN ρ) n b sv sf σ T [] ∧ R8 ρ ∧ n ≤ 6 ∧ PM b sv
theorem SW_7 {σ : Nat → Int32} {w : PW} (h : SW σ w) : ∃ fs, w[7]? = some (.inr (3, fs)) := by
  obtain ⟨t, cs, sl, pl, ks, ρ, n, b, sv, sf, T, rfl, h1, h2, h3⟩ := h
  exact ⟨_, rfl⟩
/-- asked so, the house answers r, and its ledger says σ' -/
def QV (M' : MT) (as : List Value) (r : Value) (σ' : Nat → Int32) (w : PW) : Prop := ∃ u, Ct M' (.ref 7 :: as) w (d1 (some r) u) nx ∧ SW σ' u
/-- what a method of the law leaves -/
def pV (r : Value) (σ : Nat → Int32) : PO := fun v u => v = some r ∧ SW σ u
theorem rfB_le {M M' : MT} {k K : Nat} (h : rfB M M' K = true) (hk : k ≤ K) : rfB M M' k = true := by
  simp only [rfB, Bool.and_eq_true, Nat.ble_eq] at h ⊢
  exact ⟨h.1, h.2.1, by omega, by omega⟩
theorem ev_up {M : MT} {po : PO} {px : PX} {k k' pc : Nat} {L : LV} {st : List Value} {w : PW} (h : k ≤ k') (kk : Ev M po px k' pc L st w) : Ev M po px k pc L st w := by
  intro p l e s m args below meth c dC dI dA as A Q H locs ls hX hE hD hl
  exact W.widen h (Nat.mul_le_mul (Nat.le_refl 6) h) (kk p l e s m args below meth c dC dI dA as A Q H locs ls hX hE hD hl)
theorem ev_kk {M : MT} {po : PO} {px : PX} {k k' pc : Nat} {L : LV} {st : List Value} {w : PW} (h : k = k') (kk : Ev M po px k' pc L st w) : Ev M po px k pc L st w := by rw [h]; exact kk
theorem inB_n {p lo hi : Nat} (h1 : lo ≤ p) (h2 : p ≤ hi) (h : hi < 2 ^ 31) : inB (nI p) (nI lo) (nI hi) = true := by
  unfold inB
  rw [decide_eq_true (nI_le h1 (by omega)), decide_eq_true (nI_le h2 h)]
  rfl
section LH
variable {M M' : MT} {po po' : PO} {px : PX} {k K pc idx : Nat} {L : LV} {st : List Value} {w : PW} {σ σ' : Nat → Int32} {r x1 x2 x3 : Value}
theorem ev_h0 (z : Nat) (hS : SW σ w) (hq : QV M' [] r σ' w) (hM : MKV M' 0) (hcl : (mY M').cls = RX3) (hz : mK M' = z) (hlw : Cond.methodLink (mY M).cls idx (mY M') ∈ Gw) (hR : rfB M M' K = true) (hk : k ≤ K) (hs : stB st = true) (d : decode (mC M) pc = .ok (.invokevirtual idx, 3)) (kk : ∀ u, SW σ' u → Ev M po px (k + z) (pc + 3) L (r :: st) u) : Ev M po px k pc L (.ref 7 :: st) w := by
  obtain ⟨u, hc, hu⟩ := hq
  obtain ⟨fs, hw⟩ := SW_7 hS
  exact ev_kV0 hc hM hlw (rfB_le hR hk) hw (by rw [hcl]; rfl) hs d (by rw [hz]; exact kk u hu)
theorem ev_h1 (z : Nat) (hS : SW σ w) (hq : QV M' [x1] r σ' w) (hM : MKV M' 1) (hcl : (mY M').cls = RX3) (hz : mK M' = z) (hlw : Cond.methodLink (mY M).cls idx (mY M') ∈ Gw) (hR : rfB M M' K = true) (hk : k ≤ K) (hs : stB st = true) (d : decode (mC M) pc = .ok (.invokevirtual idx, 3)) (kk : ∀ u, SW σ' u → Ev M po px (k + z) (pc + 3) L (r :: st) u) : Ev M po px k pc L (x1 :: .ref 7 :: st) w := by
  obtain ⟨u, hc, hu⟩ := hq
  obtain ⟨fs, hw⟩ := SW_7 hS
  exact ev_kV1 hc hM hlw (rfB_le hR hk) hw (by rw [hcl]; rfl) hs d (by rw [hz]; exact kk u hu)
theorem ev_h2 (z : Nat) (hS : SW σ w) (hq : QV M' [x1, x2] r σ' w) (hM : MKV M' 2) (hcl : (mY M').cls = RX3) (hz : mK M' = z) (hlw : Cond.methodLink (mY M).cls idx (mY M') ∈ Gw) (hR : rfB M M' K = true) (hk : k ≤ K) (hs : stB st = true) (d : decode (mC M) pc = .ok (.invokevirtual idx, 3)) (kk : ∀ u, SW σ' u → Ev M po px (k + z) (pc + 3) L (r :: st) u) : Ev M po px k pc L (x2 :: x1 :: .ref 7 :: st) w := by
  obtain ⟨u, hc, hu⟩ := hq
  obtain ⟨fs, hw⟩ := SW_7 hS
  exact ev_kV2 hc hM hlw (rfB_le hR hk) hw (by rw [hcl]; rfl) hs d (by rw [hz]; exact kk u hu)
theorem ev_h3 (z : Nat) (hS : SW σ w) (hq : QV M' [x1, x2, x3] r σ' w) (hM : MKV M' 3) (hcl : (mY M').cls = RX3) (hz : mK M' = z) (hlw : Cond.methodLink (mY M).cls idx (mY M') ∈ Gw) (hR : rfB M M' K = true) (hk : k ≤ K) (hs : stB st = true) (d : decode (mC M) pc = .ok (.invokevirtual idx, 3)) (kk : ∀ u, SW σ' u → Ev M po px (k + z) (pc + 3) L (r :: st) u) : Ev M po px k pc L (x3 :: x2 :: x1 :: .ref 7 :: st) w := by
  obtain ⟨u, hc, hu⟩ := hq
  obtain ⟨fs, hw⟩ := SW_7 hS
  exact ev_kV3 hc hM hlw (rfB_le hR hk) hw (by rw [hcl]; rfl) hs d (by rw [hz]; exact kk u hu)
theorem ev_l1 (z : Nat) (hc : Ct M' [x1] w po' nx) (hM : MKS M' 1) (hz : mK M' = z) (hlw : Cond.methodLink (mY M).cls idx (mY M') ∈ Gw) (hR : rfB M M' K = true) (hk : k ≤ K) (hs : stB st = true) (d : decode (mC M) pc = .ok (.invokestatic idx, 3)) (kk : ∀ v u, po' v u → Ev M po px (k + z) (pc + 3) L (v.toList ++ st) u) : Ev M po px k pc L (x1 :: st) w :=
  ev_run (rn_S (As := [x1]) hc hM.1 hM.2.1 hM.2.2 hlw (rf_of (rfB_le hR hk)) rfl (Nat.le_of_ble_eq_true hs) d) (fun v u h => by rw [hz]; exact kk v u h) (fun _ _ h => h.elim)
theorem ev_m1 (z : Nat) (hc : Ct M' [x1] w (pV r σ') nx) (hM : MKS M' 1) (hz : mK M' = z) (hlw : Cond.methodLink (mY M).cls idx (mY M') ∈ Gw) (hR : rfB M M' K = true) (hk : k ≤ K) (hs : stB st = true) (d : decode (mC M) pc = .ok (.invokestatic idx, 3)) (kk : ∀ u, SW σ' u → Ev M po px (k + z) (pc + 3) L (r :: st) u) : Ev M po px k pc L (x1 :: st) w :=
  ev_l1 z hc hM hz hlw hR hk hs d (fun v u h => by obtain ⟨rfl, hu⟩ := h; exact kk u hu)
theorem ev_l2 (z : Nat) (hc : Ct M' [x1, x2] w po' nx) (hM : MKS M' 2) (hz : mK M' = z) (hlw : Cond.methodLink (mY M).cls idx (mY M') ∈ Gw) (hR : rfB M M' K = true) (hk : k ≤ K) (hs : stB st = true) (d : decode (mC M) pc = .ok (.invokestatic idx, 3)) (kk : ∀ v u, po' v u → Ev M po px (k + z) (pc + 3) L (v.toList ++ st) u) : Ev M po px k pc L (x2 :: x1 :: st) w :=
  ev_run (rn_S (As := [x1, x2]) hc hM.1 hM.2.1 hM.2.2 hlw (rf_of (rfB_le hR hk)) rfl (Nat.le_of_ble_eq_true hs) d) (fun v u h => by rw [hz]; exact kk v u h) (fun _ _ h => h.elim)
theorem ev_m2 (z : Nat) (hc : Ct M' [x1, x2] w (pV r σ') nx) (hM : MKS M' 2) (hz : mK M' = z) (hlw : Cond.methodLink (mY M).cls idx (mY M') ∈ Gw) (hR : rfB M M' K = true) (hk : k ≤ K) (hs : stB st = true) (d : decode (mC M) pc = .ok (.invokestatic idx, 3)) (kk : ∀ u, SW σ' u → Ev M po px (k + z) (pc + 3) L (r :: st) u) : Ev M po px k pc L (x2 :: x1 :: st) w :=
  ev_l2 z hc hM hz hlw hR hk hs d (fun v u h => by obtain ⟨rfl, hu⟩ := h; exact kk u hu)
theorem ev_l3 (z : Nat) (hc : Ct M' [x1, x2, x3] w po' nx) (hM : MKS M' 3) (hz : mK M' = z) (hlw : Cond.methodLink (mY M).cls idx (mY M') ∈ Gw) (hR : rfB M M' K = true) (hk : k ≤ K) (hs : stB st = true) (d : decode (mC M) pc = .ok (.invokestatic idx, 3)) (kk : ∀ v u, po' v u → Ev M po px (k + z) (pc + 3) L (v.toList ++ st) u) : Ev M po px k pc L (x3 :: x2 :: x1 :: st) w :=
  ev_run (rn_S (As := [x1, x2, x3]) hc hM.1 hM.2.1 hM.2.2 hlw (rf_of (rfB_le hR hk)) rfl (Nat.le_of_ble_eq_true hs) d) (fun v u h => by rw [hz]; exact kk v u h) (fun _ _ h => h.elim)
theorem ev_m3 (z : Nat) (hc : Ct M' [x1, x2, x3] w (pV r σ') nx) (hM : MKS M' 3) (hz : mK M' = z) (hlw : Cond.methodLink (mY M).cls idx (mY M') ∈ Gw) (hR : rfB M M' K = true) (hk : k ≤ K) (hs : stB st = true) (d : decode (mC M) pc = .ok (.invokestatic idx, 3)) (kk : ∀ u, SW σ' u → Ev M po px (k + z) (pc + 3) L (r :: st) u) : Ev M po px k pc L (x3 :: x2 :: x1 :: st) w :=
  ev_l3 z hc hM hz hlw hR hk hs d (fun v u h => by obtain ⟨rfl, hu⟩ := h; exact kk u hu)
end LH
section QS
variable {σ : Nat → Int32} {w : PW}
theorem q_priceOf (h : SW σ w) {k : Nat} (hk : k < 6) : QV mX3_priceOf [.int (nI k)] (.int (σ k)) σ w := by
  obtain ⟨t, cs, sl, pl, ks, ρ, n, b, sv, sf, T, rfl, h1, h2, h3⟩ := h
  exact ⟨_, c3_priceOf P9 t cs sl pl ks (rN ρ) n b sv sf σ T [] hk, t, cs, sl, pl, ks, ρ, n, b, sv, sf, T, rfl, h1, h2, h3⟩
theorem q_cutOf (h : SW σ w) {k : Nat} (hk : k < 6) : QV mX3_cutOf [.int (nI k)] (.int (σ (6 + k))) σ w := by
  obtain ⟨t, cs, sl, pl, ks, ρ, n, b, sv, sf, T, rfl, h1, h2, h3⟩ := h
  exact ⟨_, c3_cutOf P9 t cs sl pl ks (rN ρ) n b sv sf σ T [] hk, t, cs, sl, pl, ks, ρ, n, b, sv, sf, T, rfl, h1, h2, h3⟩
theorem q_soldOf (h : SW σ w) {k : Nat} (hk : k < 6) : QV mX3_soldOf [.int (nI k)] (.int (σ (12 + k))) σ w := by
  obtain ⟨t, cs, sl, pl, ks, ρ, n, b, sv, sf, T, rfl, h1, h2, h3⟩ := h
  exact ⟨_, c3_soldOf P9 t cs sl pl ks (rN ρ) n b sv sf σ T [] hk, t, cs, sl, pl, ks, ρ, n, b, sv, sf, T, rfl, h1, h2, h3⟩
theorem q_pledgedOf (h : SW σ w) {k : Nat} (hk : k < 6) : QV mX3_pledgedOf [.int (nI k)] (.int (pldS σ k 8)) σ w := by
  obtain ⟨t, cs, sl, pl, ks, ρ, n, b, sv, sf, T, rfl, h1, h2, h3⟩ := h
  exact ⟨_, c3_pledgedOf P9 t cs sl pl ks (rN ρ) n b sv sf σ T [] hk, t, cs, sl, pl, ks, ρ, n, b, sv, sf, T, rfl, h1, h2, h3⟩
theorem q_piecesOf (h : SW σ w) {c : Nat} (hc : c < 8) {k : Nat} (hk : k < 6) : QV mX3_piecesOf [.int (nI c), .int (nI k)] (.int (σ (ix c k))) σ w := by
  obtain ⟨t, cs, sl, pl, ks, ρ, n, b, sv, sf, T, rfl, h1, h2, h3⟩ := h
  exact ⟨_, c3_piecesOf P9 t cs sl pl ks (rN ρ) n b sv sf σ T [] hc hk, t, cs, sl, pl, ks, ρ, n, b, sv, sf, T, rfl, h1, h2, h3⟩
theorem q_coinsOf (h : SW σ w) {c : Nat} (hc : c < 8) : QV mX3_coinsOf [.int (nI c)] (.int (σ (ix c 6))) σ w := by
  obtain ⟨t, cs, sl, pl, ks, ρ, n, b, sv, sf, T, rfl, h1, h2, h3⟩ := h
  exact ⟨_, c3_coinsOf P9 t cs sl pl ks (rN ρ) n b sv sf σ T [] hc, t, cs, sl, pl, ks, ρ, n, b, sv, sf, T, rfl, h1, h2, h3⟩
theorem q_debtOf (h : SW σ w) {c : Nat} (hc : c < 8) : QV mX3_debtOf [.int (nI c)] (.int (σ (ix c 7))) σ w := by
  obtain ⟨t, cs, sl, pl, ks, ρ, n, b, sv, sf, T, rfl, h1, h2, h3⟩ := h
  exact ⟨_, c3_debtOf P9 t cs sl pl ks (rN ρ) n b sv sf σ T [] hc, t, cs, sl, pl, ks, ρ, n, b, sv, sf, T, rfl, h1, h2, h3⟩
theorem q_worthOf (h : SW σ w) {c : Nat} (hc : c < 8) : QV mX3_worthOf [.int (nI c)] (.int (worS σ c 6)) σ w := by
  obtain ⟨t, cs, sl, pl, ks, ρ, n, b, sv, sf, T, rfl, h1, h2, h3⟩ := h
  exact ⟨_, c3_worthOf P9 t cs sl pl ks (rN ρ) n b sv sf σ T [] hc, t, cs, sl, pl, ks, ρ, n, b, sv, sf, T, rfl, h1, h2, h3⟩
theorem q_coverOf (h : SW σ w) {c : Nat} (hc : c < 8) : QV mX3_coverOf [.int (nI c)] (.int (covI σ c (nI 0) (nI 1))) σ w := by
  obtain ⟨t, cs, sl, pl, ks, ρ, n, b, sv, sf, T, rfl, h1, h2, h3⟩ := h
  exact ⟨_, c3_coverOf P9 t cs sl pl ks (rN ρ) n b sv sf σ T [] hc, t, cs, sl, pl, ks, ρ, n, b, sv, sf, T, rfl, h1, h2, h3⟩
theorem q_roomOf (h : SW σ w) {c : Nat} (hc : c < 8) : QV mX3_roomOf [.int (nI c)] (.int (opnS σ c)) σ w := by
  obtain ⟨t, cs, sl, pl, ks, ρ, n, b, sv, sf, T, rfl, h1, h2, h3⟩ := h
  exact ⟨_, c3_roomOf P9 t cs sl pl ks (rN ρ) n b sv sf σ T [] hc, t, cs, sl, pl, ks, ρ, n, b, sv, sf, T, rfl, h1, h2, h3⟩
theorem q_isCalled (h : SW σ w) {c : Nat} (hc : c < 8) : QV mX3_isCalled [.int (nI c)] (.int (bI (isK σ c))) σ w := by
  obtain ⟨t, cs, sl, pl, ks, ρ, n, b, sv, sf, T, rfl, h1, h2, h3⟩ := h
  exact ⟨_, c3_isCalled P9 t cs sl pl ks (rN ρ) n b sv sf σ T [] hc, t, cs, sl, pl, ks, ρ, n, b, sv, sf, T, rfl, h1, h2, h3⟩
theorem q_rankOf (h : SW σ w) {c : Nat} (hc : c < 8) : QV mX3_rankOf [.int (nI c)] (.int (rplS σ c 8)) σ w := by
  obtain ⟨t, cs, sl, pl, ks, ρ, n, b, sv, sf, T, rfl, h1, h2, h3⟩ := h
  exact ⟨_, c3_rankOf P9 t cs sl pl ks (rN ρ) n b sv sf σ T [] hc, t, cs, sl, pl, ks, ρ, n, b, sv, sf, T, rfl, h1, h2, h3⟩
theorem q_riskyByTaking (h : SW σ w) {c : Nat} (hc : c < 8) : QV mX3_riskyByTaking [.int (nI c)] (.int (nI (tkN σ (c + 1)).2)) σ w := by
  obtain ⟨t, cs, sl, pl, ks, ρ, n, b, sv, sf, T, rfl, h1, h2, h3⟩ := h
  exact ⟨_, c3_riskyByTaking P9 t cs sl pl ks (rN ρ) n b sv sf σ T [] hc, t, cs, sl, pl, ks, ρ, n, b, sv, sf, T, rfl, h1, h2, h3⟩
theorem q_hoursLeft (h : SW σ w) {c : Nat} (hc : c < 8) (hh : isK σ c = true) : QV mX3_hoursLeft [.int (nI c)] (.int (σ (ix c 8))) σ w := by
  obtain ⟨t, cs, sl, pl, ks, ρ, n, b, sv, sf, T, rfl, h1, h2, h3⟩ := h
  exact ⟨_, c3_hoursLeft P9 t cs sl pl ks (rN ρ) n b sv sf σ T [] hc hh, t, cs, sl, pl, ks, ρ, n, b, sv, sf, T, rfl, h1, h2, h3⟩
theorem q_isBarred (h : SW σ w) {c : Nat} (hc : c < 8) (hI : INV σ) : QV mX3_isBarred [.int (nI c)] (.int (σ (ix c 9))) σ w := by
  obtain ⟨t, cs, sl, pl, ks, ρ, n, b, sv, sf, T, rfl, h1, h2, h3⟩ := h
  exact ⟨_, c3_isBarred P9 t cs sl pl ks (rN ρ) n b sv sf σ T [] hc (bar_of hI), t, cs, sl, pl, ks, ρ, n, b, sv, sf, T, rfl, h1, h2, h3⟩
theorem q_calledNow (h : SW σ w)  : QV mX3_calledNow [] (.int (allS σ 8)) σ w := by
  obtain ⟨t, cs, sl, pl, ks, ρ, n, b, sv, sf, T, rfl, h1, h2, h3⟩ := h
  exact ⟨_, c3_calledNow P9 t cs sl pl ks (rN ρ) n b sv sf σ T [] , t, cs, sl, pl, ks, ρ, n, b, sv, sf, T, rfl, h1, h2, h3⟩
theorem q_order (h : SW σ w)  : QV mX3_order [] (.int (σ 101)) σ w := by
  obtain ⟨t, cs, sl, pl, ks, ρ, n, b, sv, sf, T, rfl, h1, h2, h3⟩ := h
  exact ⟨_, c3_order P9 t cs sl pl ks (rN ρ) n b sv sf σ T [] , t, cs, sl, pl, ks, ρ, n, b, sv, sf, T, rfl, h1, h2, h3⟩
theorem q_hours (h : SW σ w)  : QV mX3_hours [] (.int (σ 102)) σ w := by
  obtain ⟨t, cs, sl, pl, ks, ρ, n, b, sv, sf, T, rfl, h1, h2, h3⟩ := h
  exact ⟨_, c3_hours P9 t cs sl pl ks (rN ρ) n b sv sf σ T [] , t, cs, sl, pl, ks, ρ, n, b, sv, sf, T, rfl, h1, h2, h3⟩
theorem q_lent (h : SW σ w)  : QV mX3_lent [] (.int (σ 103)) σ w := by
  obtain ⟨t, cs, sl, pl, ks, ρ, n, b, sv, sf, T, rfl, h1, h2, h3⟩ := h
  exact ⟨_, c3_lent P9 t cs sl pl ks (rN ρ) n b sv sf σ T [] , t, cs, sl, pl, ks, ρ, n, b, sv, sf, T, rfl, h1, h2, h3⟩
theorem q_interest (h : SW σ w)  : QV mX3_interest [] (.int (σ 104)) σ w := by
  obtain ⟨t, cs, sl, pl, ks, ρ, n, b, sv, sf, T, rfl, h1, h2, h3⟩ := h
  exact ⟨_, c3_interest P9 t cs sl pl ks (rN ρ) n b sv sf σ T [] , t, cs, sl, pl, ks, ρ, n, b, sv, sf, T, rfl, h1, h2, h3⟩
theorem q_repaid (h : SW σ w)  : QV mX3_repaid [] (.int (σ 105)) σ w := by
  obtain ⟨t, cs, sl, pl, ks, ρ, n, b, sv, sf, T, rfl, h1, h2, h3⟩ := h
  exact ⟨_, c3_repaid P9 t cs sl pl ks (rN ρ) n b sv sf σ T [] , t, cs, sl, pl, ks, ρ, n, b, sv, sf, T, rfl, h1, h2, h3⟩
theorem q_lost (h : SW σ w)  : QV mX3_lost [] (.int (σ 106)) σ w := by
  obtain ⟨t, cs, sl, pl, ks, ρ, n, b, sv, sf, T, rfl, h1, h2, h3⟩ := h
  exact ⟨_, c3_lost P9 t cs sl pl ks (rN ρ) n b sv sf σ T [] , t, cs, sl, pl, ks, ρ, n, b, sv, sf, T, rfl, h1, h2, h3⟩
theorem q_calls (h : SW σ w)  : QV mX3_calls [] (.int (σ 107)) σ w := by
  obtain ⟨t, cs, sl, pl, ks, ρ, n, b, sv, sf, T, rfl, h1, h2, h3⟩ := h
  exact ⟨_, c3_calls P9 t cs sl pl ks (rN ρ) n b sv sf σ T [] , t, cs, sl, pl, ks, ρ, n, b, sv, sf, T, rfl, h1, h2, h3⟩
theorem q_soldOut (h : SW σ w)  : QV mX3_soldOut [] (.int (σ 108)) σ w := by
  obtain ⟨t, cs, sl, pl, ks, ρ, n, b, sv, sf, T, rfl, h1, h2, h3⟩ := h
  exact ⟨_, c3_soldOut P9 t cs sl pl ks (rN ρ) n b sv sf σ T [] , t, cs, sl, pl, ks, ρ, n, b, sv, sf, T, rfl, h1, h2, h3⟩
theorem q_debtsByClients (h : SW σ w)  : QV mX3_debtsByClients [] (.int (dbS σ 8)) σ w := by
  obtain ⟨t, cs, sl, pl, ks, ρ, n, b, sv, sf, T, rfl, h1, h2, h3⟩ := h
  exact ⟨_, c3_debtsByClients P9 t cs sl pl ks (rN ρ) n b sv sf σ T [] , t, cs, sl, pl, ks, ρ, n, b, sv, sf, T, rfl, h1, h2, h3⟩
theorem q_debtsByAccount (h : SW σ w)  : QV mX3_debtsByAccount [] (.int (acV σ)) σ w := by
  obtain ⟨t, cs, sl, pl, ks, ρ, n, b, sv, sf, T, rfl, h1, h2, h3⟩ := h
  exact ⟨_, c3_debtsByAccount P9 t cs sl pl ks (rN ρ) n b sv sf σ T [] , t, cs, sl, pl, ks, ρ, n, b, sv, sf, T, rfl, h1, h2, h3⟩
theorem q_fallToCallByTrying (h : SW σ w) {c : Nat} (hc : c < 8) (hh : ¬ tryS σ c = -1) : QV mX3_fallToCallByTrying [.int (nI c)] (.int (tryS σ c)) σ w := by
  obtain ⟨t, cs, sl, pl, ks, ρ, n, b, sv, sf, T, rfl, h1, h2, h3⟩ := h
  exact ⟨_, c3_fallToCallByTrying P9 t cs sl pl ks (rN ρ) n b sv sf σ T [] hc hh, t, cs, sl, pl, ks, ρ, n, b, sv, sf, T, rfl, h1, h2, h3⟩
theorem q_fallToCallByHalving (h : SW σ w) {c : Nat} (hc : c < 8) (hh : ¬ hlvS σ c = -1) : QV mX3_fallToCallByHalving [.int (nI c)] (.int (hlvS σ c)) σ w := by
  obtain ⟨t, cs, sl, pl, ks, ρ, n, b, sv, sf, T, rfl, h1, h2, h3⟩ := h
  exact ⟨_, c3_fallToCallByHalving P9 t cs sl pl ks (rN ρ) n b sv sf σ T [] hc hh, t, cs, sl, pl, ks, ρ, n, b, sv, sf, T, rfl, h1, h2, h3⟩
theorem q_hoursToCall (h : SW σ w) {c : Nat} (hc : c < 8) (hh : ¬ hucS σ c = -1) : QV mX3_hoursToCall [.int (nI c)] (.int (hucS σ c)) σ w := by
  obtain ⟨t, cs, sl, pl, ks, ρ, n, b, sv, sf, T, rfl, h1, h2, h3⟩ := h
  exact ⟨_, c3_hoursToCall P9 t cs sl pl ks (rN ρ) n b sv sf σ T [] hc hh, t, cs, sl, pl, ks, ρ, n, b, sv, sf, T, rfl, h1, h2, h3⟩
theorem q_calledIfFallen (h : SW σ w) {v : Nat} (v1 : 1 ≤ v) (v2 : v ≤ 90) : QV mX3_calledIfFallen [.int (nI v)] (.int (ifFS σ (nI v) 8)) σ w := by
  obtain ⟨t, cs, sl, pl, ks, ρ, n, b, sv, sf, T, rfl, h1, h2, h3⟩ := h
  exact ⟨_, c3_calledIfFallen P9 t cs sl pl ks (rN ρ) n b sv sf σ T [] (inB_n v1 v2 (by omega)), t, cs, sl, pl, ks, ρ, n, b, sv, sf, T, rfl, h1, h2, h3⟩
theorem q_usedShare (h : SW σ w) (hI : INV σ) : QV mX3_usedShare [] (.double (usS σ)) σ w := by
  obtain ⟨t, cs, sl, pl, ks, ρ, n, b, sv, sf, T, rfl, h1, h2, h3⟩ := h
  exact ⟨_, c3_usedShare P9 t cs sl pl ks (rN ρ) n b sv sf σ T [] (use_n hI), t, cs, sl, pl, ks, ρ, n, b, sv, sf, T, rfl, h1, h2, h3⟩
theorem q_riskyBySorting (h : SW σ w) (hI : INV σ) {c : Nat} (hc : c < 8) : QV mX3_riskyBySorting [.int (nI c)] (.int (nI (tkN σ (c + 1)).2)) σ w := by
  obtain ⟨t, cs, sl, pl, ks, ρ, n, b, sv, sf, T, rfl, h1, h2, h3⟩ := h
  have e := (tk_ok hI ρ (c + 1) (by omega)).2 c rfl
  refine ⟨_, ?_, t, cs, sl, pl, ks, srtN σ ρ 8, n, b, sv, sf, T, rfl, R8_srt h1 8 (Nat.le_refl 8), h2, h3⟩
  rw [e]
  exact c3_riskyBySorting P9 t cs sl pl ks ρ n b sv sf σ T [] hc h1
theorem q_wouldSell (h : SW σ w) (hI : INV σ) {c : Nat} (hc : c < 8) : QV mX3_wouldSell [.int (nI c)] (.int ((sellsS σ c).2)) σ w := by
  obtain ⟨t, cs, sl, pl, ks, ρ, n, b, sv, sf, T, rfl, h1, h2, h3⟩ := h
  have e := (rq_35 hI hc (sl, (pl, ks))).1
  rw [← e]
  have hp := pcc_of hI hc
  exact ⟨_, c3_wouldSell P9 t cs sl pl ks (rN ρ) n b sv sf σ T [] hc (spS_nP (fun k hk => (hp k hk).1) 6 (Nat.le_refl 6)) (np_of hI c hc), t, cs, _, _, _, ρ, n, b, sv, sf, T, rfl, h1, h2, h3⟩
theorem q_wouldLose (h : SW σ w) (hI : INV σ) {c : Nat} (hc : c < 8) : QV mX3_wouldLose [.int (nI c)] (.int ((sellsS σ c).1 106 - σ 106)) σ w := by
  obtain ⟨t, cs, sl, pl, ks, ρ, n, b, sv, sf, T, rfl, h1, h2, h3⟩ := h
  have e := (rq_35 hI hc (sl, (pl, ks))).2
  rw [← e]
  have hp := pcc_of hI hc
  exact ⟨_, c3_wouldLose P9 t cs sl pl ks (rN ρ) n b sv sf σ T [] hc (spS_nP (fun k hk => (hp k hk).1) 6 (Nat.le_refl 6)) (np_of hI c hc), t, cs, _, _, _, ρ, n, b, sv, sf, T, rfl, h1, h2, h3⟩
theorem q_setPrice (h : SW σ w) (hI : INV σ) {k : Nat} (hk : k < 6) {p : Nat} (p1 : 1 ≤ p) (p2 : p ≤ 500) : QV mX3_setPrice [.int (nI k), .int (nI p)] (.int (lkF (upd σ k (nI p)) 8)) (lookN (upd σ k (nI p)) 8) w := by
  obtain ⟨t, cs, sl, pl, ks, ρ, n, b, sv, sf, T, rfl, h1, h2, h3⟩ := h
  exact ⟨_, c3_setPrice P9 t cs sl pl ks (rN ρ) n b sv sf σ T [] hk (inB_n p1 p2 (by omega)) h2 h3 (bar_of hI) (hk_of hI), t, cs, sl, pl, ks, ρ, sN9 n, sB9 n sv, sS9 n b sv, sf, updT T b σ, rfl, h1, by unfold sN9; split <;> omega, PM_sv h2 h3⟩
theorem q_setCut (h : SW σ w) (hI : INV σ) {k : Nat} (hk : k < 6) {p : Nat} (p2 : p ≤ 90) : QV mX3_setCut [.int (nI k), .int (nI p)] (.int (lkF (upd σ (6 + k) (nI p)) 8)) (lookN (upd σ (6 + k) (nI p)) 8) w := by
  obtain ⟨t, cs, sl, pl, ks, ρ, n, b, sv, sf, T, rfl, h1, h2, h3⟩ := h
  exact ⟨_, c3_setCut P9 t cs sl pl ks (rN ρ) n b sv sf σ T [] hk (inB_n (Nat.zero_le _) p2 (by omega)) h2 h3 (bar_of hI) (hk_of hI), t, cs, sl, pl, ks, ρ, sN9 n, sB9 n sv, sS9 n b sv, sf, updT T b σ, rfl, h1, by unfold sN9; split <;> omega, PM_sv h2 h3⟩
theorem q_fall (h : SW σ w) (hI : INV σ) {p : Nat} (p1 : 1 ≤ p) (p2 : p ≤ 90) : QV mX3_fall [.int (nI p)] (.int (lkF (drpN σ (nI p) 6) 8)) (lookN (drpN σ (nI p) 6) 8) w := by
  obtain ⟨t, cs, sl, pl, ks, ρ, n, b, sv, sf, T, rfl, h1, h2, h3⟩ := h
  exact ⟨_, c3_fall P9 t cs sl pl ks (rN ρ) n b sv sf σ T [] (inB_n p1 p2 (by omega)) h2 h3 (bar_of hI) (hk_of hI), t, cs, sl, pl, ks, ρ, sN9 n, sB9 n sv, sS9 n b sv, sf, updT T b σ, rfl, h1, by unfold sN9; split <;> omega, PM_sv h2 h3⟩
theorem q_pledge (h : SW σ w) (hI : INV σ) {c : Nat} (hc : c < 8) {k : Nat} (hk : k < 6) {m : Nat} (m1 : 1 ≤ m) (m2 : m ≤ 50) (hm : σ (ix c k) + nI m ≤ nI 99) : QV mX3_pledge [.int (nI c), .int (nI k), .int (nI m)] (.int (lookN (upd σ (ix c k) (σ (ix c k) + nI m)) 8 (ix c k))) (lookN (upd σ (ix c k) (σ (ix c k) + nI m)) 8) w := by
  obtain ⟨t, cs, sl, pl, ks, ρ, n, b, sv, sf, T, rfl, h1, h2, h3⟩ := h
  exact ⟨_, c3_pledge P9 t cs sl pl ks (rN ρ) n b sv sf σ T [] hc hk (inB_n m1 m2 (by omega)) hm h2 h3 (bar_of hI) (hk_of hI), t, cs, sl, pl, ks, ρ, sN9 n, sB9 n sv, sS9 n b sv, sf, updT T b σ, rfl, h1, by unfold sN9; split <;> omega, PM_sv h2 h3⟩
theorem q_release (h : SW σ w) (hI : INV σ) {c : Nat} (hc : c < 8) {k : Nat} (hk : k < 6) {m : Nat} (m1 : 1 ≤ m) (m2 : m ≤ 50) (hm : nI m ≤ σ (ix c k)) (hm2 : σ (ix c 7) ≤ covI (canTk σ c k (nI m)) c (nI 0) (nI 1)) : QV mX3_release [.int (nI c), .int (nI k), .int (nI m)] (.int (lookN (canTk σ c k (nI m)) 8 (ix c k))) (lookN (canTk σ c k (nI m)) 8) w := by
  obtain ⟨t, cs, sl, pl, ks, ρ, n, b, sv, sf, T, rfl, h1, h2, h3⟩ := h
  exact ⟨_, c3_release P9 t cs sl pl ks (rN ρ) n b sv sf σ T [] hc hk (inB_n m1 m2 (by omega)) hm hm2 h2 h3 (bar_of hI) (hk_of hI), t, cs, sl, pl, ks, ρ, sN9 n, sB9 n sv, sS9 n b sv, sf, updT T b σ, rfl, h1, by unfold sN9; split <;> omega, PM_sv h2 h3⟩
theorem q_deposit (h : SW σ w) (hI : INV σ) {c : Nat} (hc : c < 8) {m : Nat} (m1 : 1 ≤ m) (m2 : m ≤ 9999) (hm : σ (ix c 6) + nI m ≤ nI 99999) : QV mX3_deposit [.int (nI c), .int (nI m)] (.int (lookN (upd σ (ix c 6) (σ (ix c 6) + nI m)) 8 (ix c 6))) (lookN (upd σ (ix c 6) (σ (ix c 6) + nI m)) 8) w := by
  obtain ⟨t, cs, sl, pl, ks, ρ, n, b, sv, sf, T, rfl, h1, h2, h3⟩ := h
  exact ⟨_, c3_deposit P9 t cs sl pl ks (rN ρ) n b sv sf σ T [] hc (inB_n m1 m2 (by omega)) hm h2 h3 (bar_of hI) (hk_of hI), t, cs, sl, pl, ks, ρ, sN9 n, sB9 n sv, sS9 n b sv, sf, updT T b σ, rfl, h1, by unfold sN9; split <;> omega, PM_sv h2 h3⟩
theorem q_lend (h : SW σ w) (hI : INV σ) {c : Nat} (hc : c < 8) {m : Nat} (m1 : 1 ≤ m) (m2 : m ≤ 9999) (hb : σ (ix c 9) = 0) (hm : σ (ix c 7) + nI m ≤ covI σ c (nI 0) (nI 1)) : QV mX3_lend [.int (nI c), .int (nI m)] (.int (lookN (lnd3 σ c (nI m)) 8 (ix c 7))) (lookN (lnd3 σ c (nI m)) 8) w := by
  obtain ⟨t, cs, sl, pl, ks, ρ, n, b, sv, sf, T, rfl, h1, h2, h3⟩ := h
  exact ⟨_, c3_lend P9 t cs sl pl ks (rN ρ) n b sv sf σ T [] hc (inB_n m1 m2 (by omega)) hb hm h2 h3 (bar_of hI) (hk_of hI), t, cs, sl, pl, ks, ρ, sN9 n, sB9 n sv, sS9 n b sv, sf, updT T b σ, rfl, h1, by unfold sN9; split <;> omega, PM_sv h2 h3⟩
theorem q_payBack (h : SW σ w) (hI : INV σ) {c : Nat} (hc : c < 8) {m : Nat} (m1 : 1 ≤ m) (m2 : m ≤ 9999) (hd : ¬ σ (ix c 7) = 0) (hp : ¬ paid σ c (nI m) = -1) : QV mX3_payBack [.int (nI c), .int (nI m)] (.int (paid σ c (nI m))) (lookN (pay3 σ c (paid σ c (nI m))) 8) w := by
  obtain ⟨t, cs, sl, pl, ks, ρ, n, b, sv, sf, T, rfl, h1, h2, h3⟩ := h
  exact ⟨_, c3_payBack P9 t cs sl pl ks (rN ρ) n b sv sf σ T [] hc (inB_n m1 m2 (by omega)) hd hp h2 h3 (bar_of hI) (hk_of hI), t, cs, sl, pl, ks, ρ, sN9 n, sB9 n sv, sS9 n b sv, sf, updT T b σ, rfl, h1, by unfold sN9; split <;> omega, PM_sv h2 h3⟩
theorem q_changeRate (h : SW σ w) (hI : INV σ) {p : Nat} (p2 : p ≤ 100) : QV mX3_changeRate [.int (nI p)] (.int (σ 98)) (upd σ 98 (nI p)) w := by
  obtain ⟨t, cs, sl, pl, ks, ρ, n, b, sv, sf, T, rfl, h1, h2, h3⟩ := h
  exact ⟨_, c3_changeRate P9 t cs sl pl ks (rN ρ) n b sv sf σ T [] (inB_n (Nat.zero_le _) p2 (by omega)) h2 h3 (bar_of hI), t, cs, sl, pl, ks, ρ, sN9 n, sB9 n sv, sS9 n b sv, sf, updT T b σ, rfl, h1, by unfold sN9; split <;> omega, PM_sv h2 h3⟩
theorem q_changeGrace (h : SW σ w) (hI : INV σ) {p : Nat} (p1 : 1 ≤ p) (p2 : p ≤ 24) : QV mX3_changeGrace [.int (nI p)] (.int (σ 99)) (upd σ 99 (nI p)) w := by
  obtain ⟨t, cs, sl, pl, ks, ρ, n, b, sv, sf, T, rfl, h1, h2, h3⟩ := h
  exact ⟨_, c3_changeGrace P9 t cs sl pl ks (rN ρ) n b sv sf σ T [] (inB_n p1 p2 (by omega)) h2 h3 (bar_of hI), t, cs, sl, pl, ks, ρ, sN9 n, sB9 n sv, sS9 n b sv, sf, updT T b σ, rfl, h1, by unfold sN9; split <;> omega, PM_sv h2 h3⟩
theorem q_changeSlip (h : SW σ w) (hI : INV σ) {p : Nat} (p2 : p ≤ 50) : QV mX3_changeSlip [.int (nI p)] (.int (σ 100)) (upd σ 100 (nI p)) w := by
  obtain ⟨t, cs, sl, pl, ks, ρ, n, b, sv, sf, T, rfl, h1, h2, h3⟩ := h
  exact ⟨_, c3_changeSlip P9 t cs sl pl ks (rN ρ) n b sv sf σ T [] (inB_n (Nat.zero_le _) p2 (by omega)) h2 h3 (bar_of hI), t, cs, sl, pl, ks, ρ, sN9 n, sB9 n sv, sS9 n b sv, sf, updT T b σ, rfl, h1, by unfold sN9; split <;> omega, PM_sv h2 h3⟩
theorem q_turnOrder (h : SW σ w) (hI : INV σ)  : QV mX3_turnOrder [] (.int ((σ 101 + nI 1) - (σ 101 + nI 1) / nI 3 * nI 3)) (upd σ 101 ((σ 101 + nI 1) - (σ 101 + nI 1) / nI 3 * nI 3)) w := by
  obtain ⟨t, cs, sl, pl, ks, ρ, n, b, sv, sf, T, rfl, h1, h2, h3⟩ := h
  exact ⟨_, c3_turnOrder P9 t cs sl pl ks (rN ρ) n b sv sf σ T []  h2 h3 (bar_of hI), t, cs, sl, pl, ks, ρ, sN9 n, sB9 n sv, sS9 n b sv, sf, updT T b σ, rfl, h1, by unfold sN9; split <;> omega, PM_sv h2 h3⟩
theorem q_pass (h : SW σ w) (hI : INV σ) {p : Nat} (p1 : 1 ≤ p) (p2 : p ≤ 100) : QV mX3_pass [.int (nI p)] (.int ((pasN σ p).1 108 - σ 108)) ((pasN σ p).1) w := by
  obtain ⟨t, cs, sl, pl, ks, ρ, n, b, sv, sf, T, rfl, h1, h2, h3⟩ := h
  obtain ⟨e, i1, -, i3⟩ := pass_all hI (sl, (pl, ks)) p
  have el := look_id i1
  have hL : HK (phN (σ, (sl, (pl, ks))) p).1 := by rw [e]; exact hk_of i1
  have hc := c3_pass P9 t cs sl pl ks (rN ρ) n b sv sf σ T [] p2 (inB_n p1 p2 (by omega)) i3 hL h2 h3 (bar_of hI)
  rw [e, el] at hc
  exact ⟨_, hc, t, cs, _, _, _, ρ, sN9 n, sB9 n sv, sS9 n b sv, sf, updT T b σ, rfl, h1, by unfold sN9; split <;> omega, PM_sv h2 h3⟩
end QS
/-! ===== the law's smallest methods ===== -/
def lowN (v : Int32) (n : Nat) : Nat := v.toBitVec.toNat % 2 ^ 31 % n
theorem low_lt (v : Int32) {n : Nat} (h : 0 < n) : lowN v n < n := Nat.mod_lt _ h
theorem nI_n0 {n : Nat} (h : 0 < n) (h2 : n < 2 ^ 31) : ¬ nI n = 0 := fun e => by
  have := nI_toInt h2
  rw [e] at this
  have h3 : (0 : Int32).toInt = 0 := by decide
  omega
theorem c_low (w : PW) (v : Int32) {n : Nat} (h : 0 < n) (h2 : n < 2 ^ 31) : Ct mL_low [.int v, .int (nI n)] w (d1 (some (.int (nI (lowN v n)))) w) nx := by
  refine ct_of 2 kL_low.1 rfl (Nat.le_of_ble_eq_true rfl) (fun v u h => by obtain ⟨rfl, rfl⟩ := h; exact rfl) ?_
  show Ev _ _ _ 0 0 [(0, .int v), (1, .int (nI n))] [] _
  refine ev_iload_n 0 dL_low_0 rfl rfl ?_
  refine ev_ldc 2147483647 dL_low_1 g216 ?_
  refine ev_iand dL_low_3 ?_
  refine ev_top (nI (v.toBitVec.toNat % 2 ^ 31)) (pk_and v 31 (by decide)) ?_
  refine ev_iload_n 1 dL_low_4 rfl rfl ?_
  refine ev_irem dL_low_5 (nI_n0 h h2) ?_
  refine ev_top (nI (lowN v n)) (pk_rem (Nat.mod_lt _ (by decide)) h h2) ?_
  exact ev_ireturn dL_low_6 (Nat.le_of_ble_eq_true rfl) ⟨rfl, rfl⟩
def muchN (v : Int32) : Nat := if v &&& nI 1 = 0 then 1 + lowN v 300 else 1 + lowN v 9999
theorem much_b (v : Int32) : 1 ≤ muchN v ∧ muchN v ≤ 9999 := by
  unfold muchN
  have h1 := low_lt v (n := 300) (by decide)
  have h2 := low_lt v (n := 9999) (by decide)
  split <;> omega
theorem c_much (w : PW) (v : Int32) : Ct mL_much [.int v] w (d1 (some (.int (nI (muchN v)))) w) nx := by
  refine ct_of 1 kL_much.1 rfl (Nat.le_of_ble_eq_true rfl) (fun v u h => by obtain ⟨rfl, rfl⟩ := h; exact rfl) ?_
  show Ev _ _ _ 0 0 [(0, .int v)] [] _
  refine ev_iconst (nI 1) dL_much_0 rfl ?_
  refine ev_iload_n 0 dL_much_1 rfl rfl ?_
  refine ev_iload_n 0 dL_much_2 rfl rfl ?_
  refine ev_iconst (nI 1) dL_much_3 rfl ?_
  refine ev_iand dL_much_4 ?_
  refine ev_if_ne 14 dL_much_5 (by decide) (fun hh => ?_) (fun hh => ?_)
  · refine ev_sipush (nI 9999) dL_much_14 rfl ?_
    refine ev_cS2 (c_low _ v (n := 9999) (by decide) (by decide)) kL_low rfl g213 rfl rfl dL_much_17 ?_
    refine ev_iadd dL_much_20 ?_
    refine ev_top (nI (muchN v)) (by unfold muchN; rw [if_neg hh, nI_add]) ?_
    exact ev_ireturn dL_much_21 (Nat.le_of_ble_eq_true rfl) ⟨rfl, rfl⟩
  · refine ev_sipush (nI 300) dL_much_8 rfl ?_
    refine ev_goto 17 dL_much_11 (by decide) ?_
    refine ev_cS2 (c_low _ v (n := 300) (by decide) (by decide)) kL_low rfl g213 rfl rfl dL_much_17 ?_
    refine ev_iadd dL_much_20 ?_
    refine ev_top (nI (muchN v)) (by unfold muchN; rw [if_pos hh, nI_add]) ?_
    exact ev_ireturn dL_much_21 (Nat.le_of_ble_eq_true rfl) ⟨rfl, rfl⟩
