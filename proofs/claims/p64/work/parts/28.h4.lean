/-! ===== the class: the questions ===== -/
set_option maxHeartbeats 1000000 in
theorem c3_priceOf (P : Nat → va_E) (t cs sl pl ks rr : Nat → Int32) (n b : Nat) (sv : Nat → Nat) (sf τ : Nat → Int32) (T : Nat → Nat → Int32) (g : PW) {k : Nat} (hk : k < 6)  : Ct mX3_priceOf [.ref 7, .int (nI k)] (hv P t cs sl pl ks rr n b sv sf τ T g) (d1 (some (.int (τ k))) (hv P t cs sl pl ks rr n b sv sf τ T g)) nx := by
  refine ct_of 1 kX3_priceOf.1 rfl (Nat.le_of_ble_eq_true rfl) (fun v u h => by obtain ⟨rfl, rfl⟩ := h; exact rfl) ?_
  show Ev _ _ _ 0 0 [(0, .ref 7), (1, .int (nI k))] [] _
  refine ev_iload_n 1 dX3_priceOf_0 rfl rfl ?_
  refine ev_kS1v (c3_nKind _ (by omega)) kX3_needKind g228 rfl rfl dX3_priceOf_1 ?_
  refine ev_aload_n 0 dX3_priceOf_4 rfl rfl ?_
  refine ev_getfield 7 dX3_priceOf_5 foX3_41 rfl rfl ?_
  refine ev_getfield 0 dX3_priceOf_8 foX3_175 rfl rfl ?_
  refine ev_iload_n 1 dX3_priceOf_11 rfl rfl ?_
  refine ev_ild (k) dX3_priceOf_12 rfl (by simp only [nI_m, nI_add, ix, oI]) (by omega) rfl ?_
  exact ev_ireturn dX3_priceOf_13 (Nat.le_of_ble_eq_true rfl) ⟨rfl, rfl⟩
set_option maxHeartbeats 1000000 in
theorem c3_cutOf (P : Nat → va_E) (t cs sl pl ks rr : Nat → Int32) (n b : Nat) (sv : Nat → Nat) (sf τ : Nat → Int32) (T : Nat → Nat → Int32) (g : PW) {k : Nat} (hk : k < 6)  : Ct mX3_cutOf [.ref 7, .int (nI k)] (hv P t cs sl pl ks rr n b sv sf τ T g) (d1 (some (.int (τ (6 + k)))) (hv P t cs sl pl ks rr n b sv sf τ T g)) nx := by
  refine ct_of 1 kX3_cutOf.1 rfl (Nat.le_of_ble_eq_true rfl) (fun v u h => by obtain ⟨rfl, rfl⟩ := h; exact rfl) ?_
  show Ev _ _ _ 0 0 [(0, .ref 7), (1, .int (nI k))] [] _
  refine ev_iload_n 1 dX3_cutOf_0 rfl rfl ?_
  refine ev_kS1v (c3_nKind _ (by omega)) kX3_needKind g228 rfl rfl dX3_cutOf_1 ?_
  refine ev_aload_n 0 dX3_cutOf_4 rfl rfl ?_
  refine ev_getfield 7 dX3_cutOf_5 foX3_41 rfl rfl ?_
  refine ev_getfield 1 dX3_cutOf_8 foX3_178 rfl rfl ?_
  refine ev_iload_n 1 dX3_cutOf_11 rfl rfl ?_
  refine ev_ild (k) dX3_cutOf_12 rfl (by simp only [nI_m, nI_add, ix, oI]) (by omega) rfl ?_
  exact ev_ireturn dX3_cutOf_13 (Nat.le_of_ble_eq_true rfl) ⟨rfl, rfl⟩
set_option maxHeartbeats 1000000 in
theorem c3_soldOf (P : Nat → va_E) (t cs sl pl ks rr : Nat → Int32) (n b : Nat) (sv : Nat → Nat) (sf τ : Nat → Int32) (T : Nat → Nat → Int32) (g : PW) {k : Nat} (hk : k < 6)  : Ct mX3_soldOf [.ref 7, .int (nI k)] (hv P t cs sl pl ks rr n b sv sf τ T g) (d1 (some (.int (τ (12 + k)))) (hv P t cs sl pl ks rr n b sv sf τ T g)) nx := by
  refine ct_of 1 kX3_soldOf.1 rfl (Nat.le_of_ble_eq_true rfl) (fun v u h => by obtain ⟨rfl, rfl⟩ := h; exact rfl) ?_
  show Ev _ _ _ 0 0 [(0, .ref 7), (1, .int (nI k))] [] _
  refine ev_iload_n 1 dX3_soldOf_0 rfl rfl ?_
  refine ev_kS1v (c3_nKind _ (by omega)) kX3_needKind g228 rfl rfl dX3_soldOf_1 ?_
  refine ev_aload_n 0 dX3_soldOf_4 rfl rfl ?_
  refine ev_getfield 7 dX3_soldOf_5 foX3_41 rfl rfl ?_
  refine ev_getfield 2 dX3_soldOf_8 foX3_184 rfl rfl ?_
  refine ev_iload_n 1 dX3_soldOf_11 rfl rfl ?_
  refine ev_ild (k) dX3_soldOf_12 rfl (by simp only [nI_m, nI_add, ix, oI]) (by omega) rfl ?_
  exact ev_ireturn dX3_soldOf_13 (Nat.le_of_ble_eq_true rfl) ⟨rfl, rfl⟩
set_option maxHeartbeats 1000000 in
theorem c3_pledgedOf (P : Nat → va_E) (t cs sl pl ks rr : Nat → Int32) (n b : Nat) (sv : Nat → Nat) (sf τ : Nat → Int32) (T : Nat → Nat → Int32) (g : PW) {k : Nat} (hk : k < 6)  : Ct mX3_pledgedOf [.ref 7, .int (nI k)] (hv P t cs sl pl ks rr n b sv sf τ T g) (d1 (some (.int (pldS τ k 8))) (hv P t cs sl pl ks rr n b sv sf τ T g)) nx := by
  refine ct_of 1 kX3_pledgedOf.1 rfl (Nat.le_of_ble_eq_true rfl) (fun v u h => by obtain ⟨rfl, rfl⟩ := h; exact rfl) ?_
  show Ev _ _ _ 0 0 [(0, .ref 7), (1, .int (nI k))] [] _
  refine ev_iload_n 1 dX3_pledgedOf_0 rfl rfl ?_
  refine ev_kS1v (c3_nKind _ (by omega)) kX3_needKind g228 rfl rfl dX3_pledgedOf_1 ?_
  refine ev_aload_n 0 dX3_pledgedOf_4 rfl rfl ?_
  refine ev_getfield 7 dX3_pledgedOf_5 foX3_41 rfl rfl ?_
  refine ev_iload_n 1 dX3_pledgedOf_8 rfl rfl ?_
  refine ev_cV1 (c0_piecesOfAll _ _ _ _ _ _ _ (by omega)) kX0_piecesOfAll rfl g706 rfl rfl rfl rfl dX3_pledgedOf_9 ?_
  exact ev_ireturn dX3_pledgedOf_12 (Nat.le_of_ble_eq_true rfl) ⟨rfl, rfl⟩
set_option maxHeartbeats 1000000 in
theorem c3_piecesOf (P : Nat → va_E) (t cs sl pl ks rr : Nat → Int32) (n b : Nat) (sv : Nat → Nat) (sf τ : Nat → Int32) (T : Nat → Nat → Int32) (g : PW) {c : Nat} (hc : c < 8) {k : Nat} (hk : k < 6)  : Ct mX3_piecesOf [.ref 7, .int (nI c), .int (nI k)] (hv P t cs sl pl ks rr n b sv sf τ T g) (d1 (some (.int (τ (ix c k)))) (hv P t cs sl pl ks rr n b sv sf τ T g)) nx := by
  refine ct_of 2 kX3_piecesOf.1 rfl (Nat.le_of_ble_eq_true rfl) (fun v u h => by obtain ⟨rfl, rfl⟩ := h; exact rfl) ?_
  show Ev _ _ _ 0 0 [(0, .ref 7), (1, .int (nI c)), (2, .int (nI k))] [] _
  refine ev_iload_n 1 dX3_piecesOf_0 rfl rfl ?_
  refine ev_kS1v (c3_nClient _ (by omega)) kX3_needClient g397 rfl rfl dX3_piecesOf_1 ?_
  refine ev_iload_n 2 dX3_piecesOf_4 rfl rfl ?_
  refine ev_kS1v (c3_nKind _ (by omega)) kX3_needKind g228 rfl rfl dX3_piecesOf_5 ?_
  refine ev_aload_n 0 dX3_piecesOf_8 rfl rfl ?_
  refine ev_getfield 7 dX3_piecesOf_9 foX3_41 rfl rfl ?_
  refine ev_getfield 3 dX3_piecesOf_12 foX3_88 rfl rfl ?_
  refine ev_iload_n 1 dX3_piecesOf_15 rfl rfl ?_
  refine ev_iload_n 2 dX3_piecesOf_16 rfl rfl ?_
  refine ev_cS2 (c3_at _ _ _) kX3_at rfl g400 rfl rfl dX3_piecesOf_17 ?_
  refine ev_ild (c * 6 + k) dX3_piecesOf_20 rfl (by simp only [nI_m, nI_add, ix, oI]) (by omega) rfl ?_
  refine ev_top ((τ) (ix c k)) (pc6 hk) ?_
  exact ev_ireturn dX3_piecesOf_21 (Nat.le_of_ble_eq_true rfl) ⟨rfl, rfl⟩
set_option maxHeartbeats 1000000 in
theorem c3_coinsOf (P : Nat → va_E) (t cs sl pl ks rr : Nat → Int32) (n b : Nat) (sv : Nat → Nat) (sf τ : Nat → Int32) (T : Nat → Nat → Int32) (g : PW) {c : Nat} (hc : c < 8)  : Ct mX3_coinsOf [.ref 7, .int (nI c)] (hv P t cs sl pl ks rr n b sv sf τ T g) (d1 (some (.int (τ (ix c 6)))) (hv P t cs sl pl ks rr n b sv sf τ T g)) nx := by
  refine ct_of 1 kX3_coinsOf.1 rfl (Nat.le_of_ble_eq_true rfl) (fun v u h => by obtain ⟨rfl, rfl⟩ := h; exact rfl) ?_
  show Ev _ _ _ 0 0 [(0, .ref 7), (1, .int (nI c))] [] _
  refine ev_iload_n 1 dX3_coinsOf_0 rfl rfl ?_
  refine ev_kS1v (c3_nClient _ (by omega)) kX3_needClient g397 rfl rfl dX3_coinsOf_1 ?_
  refine ev_aload_n 0 dX3_coinsOf_4 rfl rfl ?_
  refine ev_getfield 7 dX3_coinsOf_5 foX3_41 rfl rfl ?_
  refine ev_getfield 4 dX3_coinsOf_8 foX3_101 rfl rfl ?_
  refine ev_iload_n 1 dX3_coinsOf_11 rfl rfl ?_
  refine ev_ild (c) dX3_coinsOf_12 rfl (by simp only [nI_m, nI_add, ix, oI]) (by omega) rfl ?_
  exact ev_ireturn dX3_coinsOf_13 (Nat.le_of_ble_eq_true rfl) ⟨rfl, rfl⟩
set_option maxHeartbeats 1000000 in
theorem c3_debtOf (P : Nat → va_E) (t cs sl pl ks rr : Nat → Int32) (n b : Nat) (sv : Nat → Nat) (sf τ : Nat → Int32) (T : Nat → Nat → Int32) (g : PW) {c : Nat} (hc : c < 8)  : Ct mX3_debtOf [.ref 7, .int (nI c)] (hv P t cs sl pl ks rr n b sv sf τ T g) (d1 (some (.int (τ (ix c 7)))) (hv P t cs sl pl ks rr n b sv sf τ T g)) nx := by
  refine ct_of 1 kX3_debtOf.1 rfl (Nat.le_of_ble_eq_true rfl) (fun v u h => by obtain ⟨rfl, rfl⟩ := h; exact rfl) ?_
  show Ev _ _ _ 0 0 [(0, .ref 7), (1, .int (nI c))] [] _
  refine ev_iload_n 1 dX3_debtOf_0 rfl rfl ?_
  refine ev_kS1v (c3_nClient _ (by omega)) kX3_needClient g397 rfl rfl dX3_debtOf_1 ?_
  refine ev_aload_n 0 dX3_debtOf_4 rfl rfl ?_
  refine ev_getfield 7 dX3_debtOf_5 foX3_41 rfl rfl ?_
  refine ev_getfield 5 dX3_debtOf_8 foX3_110 rfl rfl ?_
  refine ev_iload_n 1 dX3_debtOf_11 rfl rfl ?_
  refine ev_ild (c) dX3_debtOf_12 rfl (by simp only [nI_m, nI_add, ix, oI]) (by omega) rfl ?_
  exact ev_ireturn dX3_debtOf_13 (Nat.le_of_ble_eq_true rfl) ⟨rfl, rfl⟩
set_option maxHeartbeats 1000000 in
theorem c3_worthOf (P : Nat → va_E) (t cs sl pl ks rr : Nat → Int32) (n b : Nat) (sv : Nat → Nat) (sf τ : Nat → Int32) (T : Nat → Nat → Int32) (g : PW) {c : Nat} (hc : c < 8)  : Ct mX3_worthOf [.ref 7, .int (nI c)] (hv P t cs sl pl ks rr n b sv sf τ T g) (d1 (some (.int (worS τ c 6))) (hv P t cs sl pl ks rr n b sv sf τ T g)) nx := by
  refine ct_of 1 kX3_worthOf.1 rfl (Nat.le_of_ble_eq_true rfl) (fun v u h => by obtain ⟨rfl, rfl⟩ := h; exact rfl) ?_
  show Ev _ _ _ 0 0 [(0, .ref 7), (1, .int (nI c))] [] _
  refine ev_iload_n 1 dX3_worthOf_0 rfl rfl ?_
  refine ev_kS1v (c3_nClient _ (by omega)) kX3_needClient g397 rfl rfl dX3_worthOf_1 ?_
  refine ev_aload_n 0 dX3_worthOf_4 rfl rfl ?_
  refine ev_getfield 7 dX3_worthOf_5 foX3_41 rfl rfl ?_
  refine ev_iload_n 1 dX3_worthOf_8 rfl rfl ?_
  refine ev_cV1 (c0_worth _ _ _ _ _ _ _ (by omega)) kX0_worth rfl g613 rfl rfl rfl rfl dX3_worthOf_9 ?_
  exact ev_ireturn dX3_worthOf_12 (Nat.le_of_ble_eq_true rfl) ⟨rfl, rfl⟩
set_option maxHeartbeats 1000000 in
theorem c3_coverOf (P : Nat → va_E) (t cs sl pl ks rr : Nat → Int32) (n b : Nat) (sv : Nat → Nat) (sf τ : Nat → Int32) (T : Nat → Nat → Int32) (g : PW) {c : Nat} (hc : c < 8)  : Ct mX3_coverOf [.ref 7, .int (nI c)] (hv P t cs sl pl ks rr n b sv sf τ T g) (d1 (some (.int (covI τ c (nI 0) (nI 1)))) (hv P t cs sl pl ks rr n b sv sf τ T g)) nx := by
  refine ct_of 1 kX3_coverOf.1 rfl (Nat.le_of_ble_eq_true rfl) (fun v u h => by obtain ⟨rfl, rfl⟩ := h; exact rfl) ?_
  show Ev _ _ _ 0 0 [(0, .ref 7), (1, .int (nI c))] [] _
  refine ev_iload_n 1 dX3_coverOf_0 rfl rfl ?_
  refine ev_kS1v (c3_nClient _ (by omega)) kX3_needClient g397 rfl rfl dX3_coverOf_1 ?_
  refine ev_aload_n 0 dX3_coverOf_4 rfl rfl ?_
  refine ev_getfield 7 dX3_coverOf_5 foX3_41 rfl rfl ?_
  refine ev_iload_n 1 dX3_coverOf_8 rfl rfl ?_
  refine ev_cV1 (c0_cover _ _ _ _ _ _ _ (by omega)) kX0_cover rfl g405 rfl rfl rfl rfl dX3_coverOf_9 ?_
  exact ev_ireturn dX3_coverOf_12 (Nat.le_of_ble_eq_true rfl) ⟨rfl, rfl⟩
set_option maxHeartbeats 1000000 in
theorem c3_roomOf (P : Nat → va_E) (t cs sl pl ks rr : Nat → Int32) (n b : Nat) (sv : Nat → Nat) (sf τ : Nat → Int32) (T : Nat → Nat → Int32) (g : PW) {c : Nat} (hc : c < 8)  : Ct mX3_roomOf [.ref 7, .int (nI c)] (hv P t cs sl pl ks rr n b sv sf τ T g) (d1 (some (.int (opnS τ c))) (hv P t cs sl pl ks rr n b sv sf τ T g)) nx := by
  refine ct_of 1 kX3_roomOf.1 rfl (Nat.le_of_ble_eq_true rfl) (fun v u h => by obtain ⟨rfl, rfl⟩ := h; exact rfl) ?_
  show Ev _ _ _ 0 0 [(0, .ref 7), (1, .int (nI c))] [] _
  refine ev_iload_n 1 dX3_roomOf_0 rfl rfl ?_
  refine ev_kS1v (c3_nClient _ (by omega)) kX3_needClient g397 rfl rfl dX3_roomOf_1 ?_
  refine ev_aload_n 0 dX3_roomOf_4 rfl rfl ?_
  refine ev_getfield 7 dX3_roomOf_5 foX3_41 rfl rfl ?_
  refine ev_iload_n 1 dX3_roomOf_8 rfl rfl ?_
  refine ev_cV1 (c0_openRoom _ _ _ _ _ _ _ (by omega)) kX0_openRoom rfl g472 rfl rfl rfl rfl dX3_roomOf_9 ?_
  exact ev_ireturn dX3_roomOf_12 (Nat.le_of_ble_eq_true rfl) ⟨rfl, rfl⟩
set_option maxHeartbeats 1000000 in
theorem c3_isCalled (P : Nat → va_E) (t cs sl pl ks rr : Nat → Int32) (n b : Nat) (sv : Nat → Nat) (sf τ : Nat → Int32) (T : Nat → Nat → Int32) (g : PW) {c : Nat} (hc : c < 8)  : Ct mX3_isCalled [.ref 7, .int (nI c)] (hv P t cs sl pl ks rr n b sv sf τ T g) (d1 (some (.int (bI (isK τ c)))) (hv P t cs sl pl ks rr n b sv sf τ T g)) nx := by
  refine ct_of 1 kX3_isCalled.1 rfl (Nat.le_of_ble_eq_true rfl) (fun v u h => by obtain ⟨rfl, rfl⟩ := h; exact bI_nar _) ?_
  show Ev _ _ _ 0 0 [(0, .ref 7), (1, .int (nI c))] [] _
  refine ev_iload_n 1 dX3_isCalled_0 rfl rfl ?_
  refine ev_kS1v (c3_nClient _ (by omega)) kX3_needClient g397 rfl rfl dX3_isCalled_1 ?_
  refine ev_aload_n 0 dX3_isCalled_4 rfl rfl ?_
  refine ev_getfield 7 dX3_isCalled_5 foX3_41 rfl rfl ?_
  refine ev_getfield 6 dX3_isCalled_8 foX3_196 rfl rfl ?_
  refine ev_iload_n 1 dX3_isCalled_11 rfl rfl ?_
  refine ev_ild (c) dX3_isCalled_12 rfl (by simp only [nI_m, nI_add, ix, oI]) (by omega) rfl ?_
  refine ev_if_le 20 dX3_isCalled_13 (by decide) (fun h13 => ?_) (fun h13 => ?_)
  · refine ev_iconst (nI 0) dX3_isCalled_20 rfl ?_
    exact ev_ireturn dX3_isCalled_21 (Nat.le_of_ble_eq_true rfl) ⟨by first | (rw [show isK τ c = false from decide_eq_false (Int32.not_lt.mpr h13)]; rfl) | (rw [show isK τ c = true from decide_eq_true (Int32.not_le.mp h13)]; rfl), rfl⟩
  · refine ev_iconst (nI 1) dX3_isCalled_16 rfl ?_
    refine ev_goto 21 dX3_isCalled_17 (by decide) ?_
    exact ev_ireturn dX3_isCalled_21 (Nat.le_of_ble_eq_true rfl) ⟨by first | (rw [show isK τ c = false from decide_eq_false (Int32.not_lt.mpr h13)]; rfl) | (rw [show isK τ c = true from decide_eq_true (Int32.not_le.mp h13)]; rfl), rfl⟩
set_option maxHeartbeats 1000000 in
theorem c3_hoursLeft (P : Nat → va_E) (t cs sl pl ks rr : Nat → Int32) (n b : Nat) (sv : Nat → Nat) (sf τ : Nat → Int32) (T : Nat → Nat → Int32) (g : PW) {c : Nat} (hc : c < 8) (h : isK τ c = true) : Ct mX3_hoursLeft [.ref 7, .int (nI c)] (hv P t cs sl pl ks rr n b sv sf τ T g) (d1 (some (.int (τ (ix c 8)))) (hv P t cs sl pl ks rr n b sv sf τ T g)) nx := by
  refine ct_of 1 kX3_hoursLeft.1 rfl (Nat.le_of_ble_eq_true rfl) (fun v u h => by obtain ⟨rfl, rfl⟩ := h; exact rfl) ?_
  show Ev _ _ _ 0 0 [(0, .ref 7), (1, .int (nI c))] [] _
  refine ev_iload_n 1 dX3_hoursLeft_0 rfl rfl ?_
  refine ev_kS1v (c3_nClient _ (by omega)) kX3_needClient g397 rfl rfl dX3_hoursLeft_1 ?_
  refine ev_aload_n 0 dX3_hoursLeft_4 rfl rfl ?_
  refine ev_getfield 7 dX3_hoursLeft_5 foX3_41 rfl rfl ?_
  refine ev_getfield 6 dX3_hoursLeft_8 foX3_196 rfl rfl ?_
  refine ev_iload_n 1 dX3_hoursLeft_11 rfl rfl ?_
  refine ev_ild (c) dX3_hoursLeft_12 rfl (by simp only [nI_m, nI_add, ix, oI]) (by omega) rfl ?_
  refine ev_if_le 20 dX3_hoursLeft_13 (by decide) (fun h13 => absurd h13 (Int32.not_le.mpr (of_decide_eq_true h))) (fun h13 => ?_)
  refine ev_iconst (nI 1) dX3_hoursLeft_16 rfl ?_
  refine ev_goto 21 dX3_hoursLeft_17 (by decide) ?_
  refine ev_kS1v (c3_need _ (by decide)) kX3_need g414 rfl rfl dX3_hoursLeft_21 ?_
  refine ev_aload_n 0 dX3_hoursLeft_24 rfl rfl ?_
  refine ev_getfield 7 dX3_hoursLeft_25 foX3_41 rfl rfl ?_
  refine ev_getfield 6 dX3_hoursLeft_28 foX3_196 rfl rfl ?_
  refine ev_iload_n 1 dX3_hoursLeft_31 rfl rfl ?_
  refine ev_ild (c) dX3_hoursLeft_32 rfl (by simp only [nI_m, nI_add, ix, oI]) (by omega) rfl ?_
  exact ev_ireturn dX3_hoursLeft_33 (Nat.le_of_ble_eq_true rfl) ⟨rfl, rfl⟩
set_option maxHeartbeats 1000000 in
theorem c3_isBarred (P : Nat → va_E) (t cs sl pl ks rr : Nat → Int32) (n b : Nat) (sv : Nat → Nat) (sf τ : Nat → Int32) (T : Nat → Nat → Int32) (g : PW) {c : Nat} (hc : c < 8) (hB : BF τ) : Ct mX3_isBarred [.ref 7, .int (nI c)] (hv P t cs sl pl ks rr n b sv sf τ T g) (d1 (some (.int (τ (ix c 9)))) (hv P t cs sl pl ks rr n b sv sf τ T g)) nx := by
  refine ct_of 1 kX3_isBarred.1 rfl (Nat.le_of_ble_eq_true rfl) (fun v u h => by obtain ⟨rfl, rfl⟩ := h; (show narrow .boolean (.int (τ (ix c 9))) = _; rcases hB c hc with e | e <;> rw [e] <;> rfl)) ?_
  show Ev _ _ _ 0 0 [(0, .ref 7), (1, .int (nI c))] [] _
  refine ev_iload_n 1 dX3_isBarred_0 rfl rfl ?_
  refine ev_kS1v (c3_nClient _ (by omega)) kX3_needClient g397 rfl rfl dX3_isBarred_1 ?_
  refine ev_aload_n 0 dX3_isBarred_4 rfl rfl ?_
  refine ev_getfield 7 dX3_isBarred_5 foX3_41 rfl rfl ?_
  refine ev_getfield 7 dX3_isBarred_8 foX3_199 rfl rfl ?_
  refine ev_iload_n 1 dX3_isBarred_11 rfl rfl ?_
  refine ev_bld (c) dX3_isBarred_12 rfl rfl (by omega) rfl ?_
  exact ev_ireturn dX3_isBarred_13 (Nat.le_of_ble_eq_true rfl) ⟨rfl, rfl⟩
set_option maxHeartbeats 1000000 in
theorem c3_rankOf (P : Nat → va_E) (t cs sl pl ks rr : Nat → Int32) (n b : Nat) (sv : Nat → Nat) (sf τ : Nat → Int32) (T : Nat → Nat → Int32) (g : PW) {c : Nat} (hc : c < 8)  : Ct mX3_rankOf [.ref 7, .int (nI c)] (hv P t cs sl pl ks rr n b sv sf τ T g) (d1 (some (.int (rplS τ c 8))) (hv P t cs sl pl ks rr n b sv sf τ T g)) nx := by
  refine ct_of 1 kX3_rankOf.1 rfl (Nat.le_of_ble_eq_true rfl) (fun v u h => by obtain ⟨rfl, rfl⟩ := h; exact rfl) ?_
  show Ev _ _ _ 0 0 [(0, .ref 7), (1, .int (nI c))] [] _
  refine ev_iload_n 1 dX3_rankOf_0 rfl rfl ?_
  refine ev_kS1v (c3_nClient _ (by omega)) kX3_needClient g397 rfl rfl dX3_rankOf_1 ?_
  refine ev_aload_n 0 dX3_rankOf_4 rfl rfl ?_
  refine ev_getfield 7 dX3_rankOf_5 foX3_41 rfl rfl ?_
  refine ev_iload_n 1 dX3_rankOf_8 rfl rfl ?_
  refine ev_cV1 (c0_riskPlace _ _ _ _ _ _ _ (by omega)) kX0_riskPlace rfl g695 rfl rfl rfl rfl dX3_rankOf_9 ?_
  exact ev_ireturn dX3_rankOf_12 (Nat.le_of_ble_eq_true rfl) ⟨rfl, rfl⟩
set_option maxHeartbeats 1000000 in
theorem c3_riskyBySorting (P : Nat → va_E) (t cs sl pl ks : Nat → Int32) (ρ : Nat → Nat) (n b : Nat) (sv : Nat → Nat) (sf τ : Nat → Int32) (T : Nat → Nat → Int32) (g : PW) {c : Nat} (hc : c < 8) (hR : R8 ρ) : Ct mX3_riskyBySorting [.ref 7, .int (nI c)] (hv P t cs sl pl ks (rN ρ) n b sv sf τ T g) (d1 (some (.int (nI (srtN τ ρ 8 c)))) (hv P t cs sl pl ks (rN (srtN τ ρ 8)) n b sv sf τ T g)) nx := by
  refine ct_of 1 kX3_riskyBySorting.1 rfl (Nat.le_of_ble_eq_true rfl) (fun v u h => by obtain ⟨rfl, rfl⟩ := h; exact rfl) ?_
  show Ev _ _ _ 0 0 [(0, .ref 7), (1, .int (nI c))] [] _
  refine ev_iload_n 1 dX3_riskyBySorting_0 rfl rfl ?_
  refine ev_kS1v (c3_nPlace _ (by omega)) kX3_needPlace g668 rfl rfl dX3_riskyBySorting_1 ?_
  refine ev_aload_n 0 dX3_riskyBySorting_4 rfl rfl ?_
  refine ev_getfield 7 dX3_riskyBySorting_5 foX3_41 rfl rfl ?_
  refine ev_aload_n 0 dX3_riskyBySorting_8 rfl rfl ?_
  refine ev_getfield 2 dX3_riskyBySorting_9 foX3_23 rfl rfl ?_
  refine ev_cV1v (c0_sort _ _ _ _ _ _ _ hR) kX0_sortByRisk rfl g671 rfl rfl rfl rfl dX3_riskyBySorting_12 ?_
  refine ev_aload_n 0 dX3_riskyBySorting_15 rfl rfl ?_
  refine ev_getfield 2 dX3_riskyBySorting_16 foX3_23 rfl rfl ?_
  refine ev_iload_n 1 dX3_riskyBySorting_19 rfl rfl ?_
  refine ev_ild (c) dX3_riskyBySorting_20 rfl (by simp only [nI_m, nI_add, ix, oI]) (by omega) rfl ?_
  exact ev_ireturn dX3_riskyBySorting_21 (Nat.le_of_ble_eq_true rfl) ⟨rfl, rfl⟩
set_option maxHeartbeats 1000000 in
theorem c3_riskyByTaking (P : Nat → va_E) (t cs sl pl ks rr : Nat → Int32) (n b : Nat) (sv : Nat → Nat) (sf τ : Nat → Int32) (T : Nat → Nat → Int32) (g : PW) {c : Nat} (hc : c < 8)  : Ct mX3_riskyByTaking [.ref 7, .int (nI c)] (hv P t cs sl pl ks rr n b sv sf τ T g) (d1 (some (.int (nI (tkN τ (c + 1)).2))) (hv P t cs sl pl ks rr n b sv sf τ T g)) nx := by
  refine ct_of 1 kX3_riskyByTaking.1 rfl (Nat.le_of_ble_eq_true rfl) (fun v u h => by obtain ⟨rfl, rfl⟩ := h; exact rfl) ?_
  show Ev _ _ _ 0 0 [(0, .ref 7), (1, .int (nI c))] [] _
  refine ev_iload_n 1 dX3_riskyByTaking_0 rfl rfl ?_
  refine ev_kS1v (c3_nPlace _ (by omega)) kX3_needPlace g668 rfl rfl dX3_riskyByTaking_1 ?_
  refine ev_aload_n 0 dX3_riskyByTaking_4 rfl rfl ?_
  refine ev_getfield 7 dX3_riskyByTaking_5 foX3_41 rfl rfl ?_
  refine ev_iload_n 1 dX3_riskyByTaking_8 rfl rfl ?_
  refine ev_cV1 (c0_take _ _ _ _ _ _ _ (by omega)) kX0_takeRiskiest rfl g683 rfl rfl rfl rfl dX3_riskyByTaking_9 ?_
  exact ev_ireturn dX3_riskyByTaking_12 (Nat.le_of_ble_eq_true rfl) ⟨rfl, rfl⟩
set_option maxHeartbeats 1000000 in
theorem c3_calledNow (P : Nat → va_E) (t cs sl pl ks rr : Nat → Int32) (n b : Nat) (sv : Nat → Nat) (sf τ : Nat → Int32) (T : Nat → Nat → Int32) (g : PW)  : Ct mX3_calledNow [.ref 7] (hv P t cs sl pl ks rr n b sv sf τ T g) (d1 (some (.int (allS τ 8))) (hv P t cs sl pl ks rr n b sv sf τ T g)) nx := by
  refine ct_of 0 kX3_calledNow.1 rfl (Nat.le_of_ble_eq_true rfl) (fun v u h => by obtain ⟨rfl, rfl⟩ := h; exact rfl) ?_
  show Ev _ _ _ 0 0 [(0, .ref 7)] [] _
  refine ev_aload_n 0 dX3_calledNow_0 rfl rfl ?_
  refine ev_getfield 7 dX3_calledNow_1 foX3_41 rfl rfl ?_
  refine ev_cV0 (c0_countCalled _ _ _ _ _ _ _) kX0_countCalled rfl g389 rfl rfl rfl rfl dX3_calledNow_4 ?_
  exact ev_ireturn dX3_calledNow_7 (Nat.le_of_ble_eq_true rfl) ⟨rfl, rfl⟩
set_option maxHeartbeats 1000000 in
theorem c3_order (P : Nat → va_E) (t cs sl pl ks rr : Nat → Int32) (n b : Nat) (sv : Nat → Nat) (sf τ : Nat → Int32) (T : Nat → Nat → Int32) (g : PW)  : Ct mX3_order [.ref 7] (hv P t cs sl pl ks rr n b sv sf τ T g) (d1 (some (.int (τ 101))) (hv P t cs sl pl ks rr n b sv sf τ T g)) nx := by
  refine ct_of 0 kX3_order.1 rfl (Nat.le_of_ble_eq_true rfl) (fun v u h => by obtain ⟨rfl, rfl⟩ := h; exact rfl) ?_
  show Ev _ _ _ 0 0 [(0, .ref 7)] [] _
  refine ev_aload_n 0 dX3_order_0 rfl rfl ?_
  refine ev_getfield 7 dX3_order_1 foX3_41 rfl rfl ?_
  refine ev_getfield 11 dX3_order_4 foX3_134 rfl rfl ?_
  exact ev_ireturn dX3_order_7 (Nat.le_of_ble_eq_true rfl) ⟨rfl, rfl⟩
set_option maxHeartbeats 1000000 in
theorem c3_hours (P : Nat → va_E) (t cs sl pl ks rr : Nat → Int32) (n b : Nat) (sv : Nat → Nat) (sf τ : Nat → Int32) (T : Nat → Nat → Int32) (g : PW)  : Ct mX3_hours [.ref 7] (hv P t cs sl pl ks rr n b sv sf τ T g) (d1 (some (.int (τ 102))) (hv P t cs sl pl ks rr n b sv sf τ T g)) nx := by
  refine ct_of 0 kX3_hours.1 rfl (Nat.le_of_ble_eq_true rfl) (fun v u h => by obtain ⟨rfl, rfl⟩ := h; exact rfl) ?_
  show Ev _ _ _ 0 0 [(0, .ref 7)] [] _
  refine ev_aload_n 0 dX3_hours_0 rfl rfl ?_
  refine ev_getfield 7 dX3_hours_1 foX3_41 rfl rfl ?_
  refine ev_getfield 12 dX3_hours_4 foX3_237 rfl rfl ?_
  exact ev_ireturn dX3_hours_7 (Nat.le_of_ble_eq_true rfl) ⟨rfl, rfl⟩
set_option maxHeartbeats 1000000 in
theorem c3_lent (P : Nat → va_E) (t cs sl pl ks rr : Nat → Int32) (n b : Nat) (sv : Nat → Nat) (sf τ : Nat → Int32) (T : Nat → Nat → Int32) (g : PW)  : Ct mX3_lent [.ref 7] (hv P t cs sl pl ks rr n b sv sf τ T g) (d1 (some (.int (τ 103))) (hv P t cs sl pl ks rr n b sv sf τ T g)) nx := by
  refine ct_of 0 kX3_lent.1 rfl (Nat.le_of_ble_eq_true rfl) (fun v u h => by obtain ⟨rfl, rfl⟩ := h; exact rfl) ?_
  show Ev _ _ _ 0 0 [(0, .ref 7)] [] _
  refine ev_aload_n 0 dX3_lent_0 rfl rfl ?_
  refine ev_getfield 7 dX3_lent_1 foX3_41 rfl rfl ?_
  refine ev_getfield 13 dX3_lent_4 foX3_243 rfl rfl ?_
  exact ev_ireturn dX3_lent_7 (Nat.le_of_ble_eq_true rfl) ⟨rfl, rfl⟩
set_option maxHeartbeats 1000000 in
theorem c3_interest (P : Nat → va_E) (t cs sl pl ks rr : Nat → Int32) (n b : Nat) (sv : Nat → Nat) (sf τ : Nat → Int32) (T : Nat → Nat → Int32) (g : PW)  : Ct mX3_interest [.ref 7] (hv P t cs sl pl ks rr n b sv sf τ T g) (d1 (some (.int (τ 104))) (hv P t cs sl pl ks rr n b sv sf τ T g)) nx := by
  refine ct_of 0 kX3_interest.1 rfl (Nat.le_of_ble_eq_true rfl) (fun v u h => by obtain ⟨rfl, rfl⟩ := h; exact rfl) ?_
  show Ev _ _ _ 0 0 [(0, .ref 7)] [] _
  refine ev_aload_n 0 dX3_interest_0 rfl rfl ?_
  refine ev_getfield 7 dX3_interest_1 foX3_41 rfl rfl ?_
  refine ev_getfield 14 dX3_interest_4 foX3_246 rfl rfl ?_
  exact ev_ireturn dX3_interest_7 (Nat.le_of_ble_eq_true rfl) ⟨rfl, rfl⟩
set_option maxHeartbeats 1000000 in
theorem c3_repaid (P : Nat → va_E) (t cs sl pl ks rr : Nat → Int32) (n b : Nat) (sv : Nat → Nat) (sf τ : Nat → Int32) (T : Nat → Nat → Int32) (g : PW)  : Ct mX3_repaid [.ref 7] (hv P t cs sl pl ks rr n b sv sf τ T g) (d1 (some (.int (τ 105))) (hv P t cs sl pl ks rr n b sv sf τ T g)) nx := by
  refine ct_of 0 kX3_repaid.1 rfl (Nat.le_of_ble_eq_true rfl) (fun v u h => by obtain ⟨rfl, rfl⟩ := h; exact rfl) ?_
  show Ev _ _ _ 0 0 [(0, .ref 7)] [] _
  refine ev_aload_n 0 dX3_repaid_0 rfl rfl ?_
  refine ev_getfield 7 dX3_repaid_1 foX3_41 rfl rfl ?_
  refine ev_getfield 15 dX3_repaid_4 foX3_249 rfl rfl ?_
  exact ev_ireturn dX3_repaid_7 (Nat.le_of_ble_eq_true rfl) ⟨rfl, rfl⟩
set_option maxHeartbeats 1000000 in
theorem c3_lost (P : Nat → va_E) (t cs sl pl ks rr : Nat → Int32) (n b : Nat) (sv : Nat → Nat) (sf τ : Nat → Int32) (T : Nat → Nat → Int32) (g : PW)  : Ct mX3_lost [.ref 7] (hv P t cs sl pl ks rr n b sv sf τ T g) (d1 (some (.int (τ 106))) (hv P t cs sl pl ks rr n b sv sf τ T g)) nx := by
  refine ct_of 0 kX3_lost.1 rfl (Nat.le_of_ble_eq_true rfl) (fun v u h => by obtain ⟨rfl, rfl⟩ := h; exact rfl) ?_
  show Ev _ _ _ 0 0 [(0, .ref 7)] [] _
  refine ev_aload_n 0 dX3_lost_0 rfl rfl ?_
  refine ev_getfield 7 dX3_lost_1 foX3_41 rfl rfl ?_
  refine ev_getfield 16 dX3_lost_4 foX3_252 rfl rfl ?_
  exact ev_ireturn dX3_lost_7 (Nat.le_of_ble_eq_true rfl) ⟨rfl, rfl⟩
set_option maxHeartbeats 1000000 in
theorem c3_calls (P : Nat → va_E) (t cs sl pl ks rr : Nat → Int32) (n b : Nat) (sv : Nat → Nat) (sf τ : Nat → Int32) (T : Nat → Nat → Int32) (g : PW)  : Ct mX3_calls [.ref 7] (hv P t cs sl pl ks rr n b sv sf τ T g) (d1 (some (.int (τ 107))) (hv P t cs sl pl ks rr n b sv sf τ T g)) nx := by
  refine ct_of 0 kX3_calls.1 rfl (Nat.le_of_ble_eq_true rfl) (fun v u h => by obtain ⟨rfl, rfl⟩ := h; exact rfl) ?_
  show Ev _ _ _ 0 0 [(0, .ref 7)] [] _
  refine ev_aload_n 0 dX3_calls_0 rfl rfl ?_
  refine ev_getfield 7 dX3_calls_1 foX3_41 rfl rfl ?_
  refine ev_getfield 17 dX3_calls_4 foX3_255 rfl rfl ?_
  exact ev_ireturn dX3_calls_7 (Nat.le_of_ble_eq_true rfl) ⟨rfl, rfl⟩
set_option maxHeartbeats 1000000 in
theorem c3_soldOut (P : Nat → va_E) (t cs sl pl ks rr : Nat → Int32) (n b : Nat) (sv : Nat → Nat) (sf τ : Nat → Int32) (T : Nat → Nat → Int32) (g : PW)  : Ct mX3_soldOut [.ref 7] (hv P t cs sl pl ks rr n b sv sf τ T g) (d1 (some (.int (τ 108))) (hv P t cs sl pl ks rr n b sv sf τ T g)) nx := by
  refine ct_of 0 kX3_soldOut.1 rfl (Nat.le_of_ble_eq_true rfl) (fun v u h => by obtain ⟨rfl, rfl⟩ := h; exact rfl) ?_
  show Ev _ _ _ 0 0 [(0, .ref 7)] [] _
  refine ev_aload_n 0 dX3_soldOut_0 rfl rfl ?_
  refine ev_getfield 7 dX3_soldOut_1 foX3_41 rfl rfl ?_
  refine ev_getfield 18 dX3_soldOut_4 foX3_258 rfl rfl ?_
  exact ev_ireturn dX3_soldOut_7 (Nat.le_of_ble_eq_true rfl) ⟨rfl, rfl⟩
set_option maxHeartbeats 1000000 in
theorem c3_fallToCallByTrying (P : Nat → va_E) (t cs sl pl ks rr : Nat → Int32) (n b : Nat) (sv : Nat → Nat) (sf τ : Nat → Int32) (T : Nat → Nat → Int32) (g : PW) {c : Nat} (hc : c < 8) (h : ¬ tryS τ c = -1) : Ct mX3_fallToCallByTrying [.ref 7, .int (nI c)] (hv P t cs sl pl ks rr n b sv sf τ T g) (d1 (some (.int (tryS τ c))) (hv P t cs sl pl ks rr n b sv sf τ T g)) nx := by
  refine ct_of 1 kX3_fallToCallByTrying.1 rfl (Nat.le_of_ble_eq_true rfl) (fun v u h => by obtain ⟨rfl, rfl⟩ := h; exact rfl) ?_
  show Ev _ _ _ 0 0 [(0, .ref 7), (1, .int (nI c))] [] _
  refine ev_iload_n 1 dX3_fallToCallByTrying_0 rfl rfl ?_
  refine ev_kS1v (c3_nClient _ (by omega)) kX3_needClient g397 rfl rfl dX3_fallToCallByTrying_1 ?_
  refine ev_aload_n 0 dX3_fallToCallByTrying_4 rfl rfl ?_
  refine ev_getfield 7 dX3_fallToCallByTrying_5 foX3_41 rfl rfl ?_
  refine ev_iload_n 1 dX3_fallToCallByTrying_8 rfl rfl ?_
  refine ev_cV1 (c0_try _ _ _ _ _ _ _ (by omega)) kX0_callingFallByTrying rfl g629 rfl rfl rfl rfl dX3_fallToCallByTrying_9 ?_
  refine ev_istore_n 2 dX3_fallToCallByTrying_12 rfl (Nat.le_of_ble_eq_true rfl) rfl ?_
  refine ev_iload_n 2 dX3_fallToCallByTrying_13 rfl rfl ?_
  refine ev_iconst (-1) dX3_fallToCallByTrying_14 rfl ?_
  refine ev_icmp_eq 22 dX3_fallToCallByTrying_15 (by decide) (fun h15 => absurd h15 h) (fun h15 => ?_)
  refine ev_iconst (nI 1) dX3_fallToCallByTrying_18 rfl ?_
  refine ev_goto 23 dX3_fallToCallByTrying_19 (by decide) ?_
  refine ev_kS1v (c3_need _ (by decide)) kX3_need g414 rfl rfl dX3_fallToCallByTrying_23 ?_
  refine ev_iload_n 2 dX3_fallToCallByTrying_26 rfl rfl ?_
  exact ev_ireturn dX3_fallToCallByTrying_27 (Nat.le_of_ble_eq_true rfl) ⟨rfl, rfl⟩
set_option maxHeartbeats 1000000 in
theorem c3_fallToCallByHalving (P : Nat → va_E) (t cs sl pl ks rr : Nat → Int32) (n b : Nat) (sv : Nat → Nat) (sf τ : Nat → Int32) (T : Nat → Nat → Int32) (g : PW) {c : Nat} (hc : c < 8) (h : ¬ hlvS τ c = -1) : Ct mX3_fallToCallByHalving [.ref 7, .int (nI c)] (hv P t cs sl pl ks rr n b sv sf τ T g) (d1 (some (.int (hlvS τ c))) (hv P t cs sl pl ks rr n b sv sf τ T g)) nx := by
  refine ct_of 1 kX3_fallToCallByHalving.1 rfl (Nat.le_of_ble_eq_true rfl) (fun v u h => by obtain ⟨rfl, rfl⟩ := h; exact rfl) ?_
  show Ev _ _ _ 0 0 [(0, .ref 7), (1, .int (nI c))] [] _
  refine ev_iload_n 1 dX3_fallToCallByHalving_0 rfl rfl ?_
  refine ev_kS1v (c3_nClient _ (by omega)) kX3_needClient g397 rfl rfl dX3_fallToCallByHalving_1 ?_
  refine ev_aload_n 0 dX3_fallToCallByHalving_4 rfl rfl ?_
  refine ev_getfield 7 dX3_fallToCallByHalving_5 foX3_41 rfl rfl ?_
  refine ev_iload_n 1 dX3_fallToCallByHalving_8 rfl rfl ?_
  refine ev_cV1 (c0_halve _ _ _ _ _ _ _ (by omega)) kX0_callingFallByHalving rfl g654 rfl rfl rfl rfl dX3_fallToCallByHalving_9 ?_
  refine ev_istore_n 2 dX3_fallToCallByHalving_12 rfl (Nat.le_of_ble_eq_true rfl) rfl ?_
  refine ev_iload_n 2 dX3_fallToCallByHalving_13 rfl rfl ?_
  refine ev_iconst (-1) dX3_fallToCallByHalving_14 rfl ?_
  refine ev_icmp_eq 22 dX3_fallToCallByHalving_15 (by decide) (fun h15 => absurd h15 h) (fun h15 => ?_)
  refine ev_iconst (nI 1) dX3_fallToCallByHalving_18 rfl ?_
  refine ev_goto 23 dX3_fallToCallByHalving_19 (by decide) ?_
  refine ev_kS1v (c3_need _ (by decide)) kX3_need g414 rfl rfl dX3_fallToCallByHalving_23 ?_
  refine ev_iload_n 2 dX3_fallToCallByHalving_26 rfl rfl ?_
  exact ev_ireturn dX3_fallToCallByHalving_27 (Nat.le_of_ble_eq_true rfl) ⟨rfl, rfl⟩
set_option maxHeartbeats 1000000 in
theorem c3_hoursToCall (P : Nat → va_E) (t cs sl pl ks rr : Nat → Int32) (n b : Nat) (sv : Nat → Nat) (sf τ : Nat → Int32) (T : Nat → Nat → Int32) (g : PW) {c : Nat} (hc : c < 8) (h : ¬ hucS τ c = -1) : Ct mX3_hoursToCall [.ref 7, .int (nI c)] (hv P t cs sl pl ks rr n b sv sf τ T g) (d1 (some (.int (hucS τ c))) (hv P t cs sl pl ks rr n b sv sf τ T g)) nx := by
  refine ct_of 1 kX3_hoursToCall.1 rfl (Nat.le_of_ble_eq_true rfl) (fun v u h => by obtain ⟨rfl, rfl⟩ := h; exact rfl) ?_
  show Ev _ _ _ 0 0 [(0, .ref 7), (1, .int (nI c))] [] _
  refine ev_iload_n 1 dX3_hoursToCall_0 rfl rfl ?_
  refine ev_kS1v (c3_nClient _ (by omega)) kX3_needClient g397 rfl rfl dX3_hoursToCall_1 ?_
  refine ev_aload_n 0 dX3_hoursToCall_4 rfl rfl ?_
  refine ev_getfield 7 dX3_hoursToCall_5 foX3_41 rfl rfl ?_
  refine ev_iload_n 1 dX3_hoursToCall_8 rfl rfl ?_
  refine ev_cV1 (c0_huc _ _ _ _ _ _ _ (by omega)) kX0_hoursUntilCall rfl g637 rfl rfl rfl rfl dX3_hoursToCall_9 ?_
  refine ev_istore_n 2 dX3_hoursToCall_12 rfl (Nat.le_of_ble_eq_true rfl) rfl ?_
  refine ev_iload_n 2 dX3_hoursToCall_13 rfl rfl ?_
  refine ev_iconst (-1) dX3_hoursToCall_14 rfl ?_
  refine ev_icmp_eq 22 dX3_hoursToCall_15 (by decide) (fun h15 => absurd h15 h) (fun h15 => ?_)
  refine ev_iconst (nI 1) dX3_hoursToCall_18 rfl ?_
  refine ev_goto 23 dX3_hoursToCall_19 (by decide) ?_
  refine ev_kS1v (c3_need _ (by decide)) kX3_need g414 rfl rfl dX3_hoursToCall_23 ?_
  refine ev_iload_n 2 dX3_hoursToCall_26 rfl rfl ?_
  exact ev_ireturn dX3_hoursToCall_27 (Nat.le_of_ble_eq_true rfl) ⟨rfl, rfl⟩
set_option maxHeartbeats 1000000 in
theorem c3_wouldSell (P : Nat → va_E) (t cs sl pl ks rr : Nat → Int32) (n b : Nat) (sv : Nat → Nat) (sf τ : Nat → Int32) (T : Nat → Nat → Int32) (g : PW) {c : Nat} (hc : c < 8)  {m : Nat} (hm : spS τ c 6 = nI m) (hm2 : m ≤ 594) : Ct mX3_wouldSell [.ref 7, .int (nI c)] (hv P t cs sl pl ks rr n b sv sf τ T g) (d1 (some (.int (rkE (rkS τ sl pl ks c m).1 3))) (hv P t cs (rkE (rkS τ sl pl ks c m).1) ((rkS τ sl pl ks c m).2) (layK τ ks 6) rr n b sv sf τ T g)) nx := by
  refine ct_of 1 kX3_wouldSell.1 rfl (Nat.le_of_ble_eq_true rfl) (fun v u h => by obtain ⟨rfl, rfl⟩ := h; exact rfl) ?_
  show Ev _ _ _ 0 0 [(0, .ref 7), (1, .int (nI c))] [] _
  refine ev_iload_n 1 dX3_wouldSell_0 rfl rfl ?_
  refine ev_kS1v (c3_nClient _ (by omega)) kX3_needClient g397 rfl rfl dX3_wouldSell_1 ?_
  refine ev_aload_n 0 dX3_wouldSell_4 rfl rfl ?_
  refine ev_getfield 1 dX3_wouldSell_5 foX3_19 rfl rfl ?_
  refine ev_aload_n 0 dX3_wouldSell_8 rfl rfl ?_
  refine ev_getfield 7 dX3_wouldSell_9 foX3_41 rfl rfl ?_
  refine ev_iload_n 1 dX3_wouldSell_12 rfl rfl ?_
  refine ev_cV2v (c2_reckon _ _ _ _ _ _ _ hc hm hm2) kX2_reckon rfl g645 rfl rfl rfl rfl dX3_wouldSell_13 ?_
  refine ev_aload_n 0 dX3_wouldSell_16 rfl rfl ?_
  refine ev_getfield 1 dX3_wouldSell_17 foX3_19 rfl rfl ?_
  refine ev_getfield 5 dX3_wouldSell_20 foX3_228 rfl rfl ?_
  exact ev_ireturn dX3_wouldSell_23 (Nat.le_of_ble_eq_true rfl) ⟨rfl, rfl⟩
set_option maxHeartbeats 1000000 in
theorem c3_wouldLose (P : Nat → va_E) (t cs sl pl ks rr : Nat → Int32) (n b : Nat) (sv : Nat → Nat) (sf τ : Nat → Int32) (T : Nat → Nat → Int32) (g : PW) {c : Nat} (hc : c < 8)  {m : Nat} (hm : spS τ c 6 = nI m) (hm2 : m ≤ 594) : Ct mX3_wouldLose [.ref 7, .int (nI c)] (hv P t cs sl pl ks rr n b sv sf τ T g) (d1 (some (.int (rkE (rkS τ sl pl ks c m).1 5))) (hv P t cs (rkE (rkS τ sl pl ks c m).1) ((rkS τ sl pl ks c m).2) (layK τ ks 6) rr n b sv sf τ T g)) nx := by
  refine ct_of 1 kX3_wouldLose.1 rfl (Nat.le_of_ble_eq_true rfl) (fun v u h => by obtain ⟨rfl, rfl⟩ := h; exact rfl) ?_
  show Ev _ _ _ 0 0 [(0, .ref 7), (1, .int (nI c))] [] _
  refine ev_iload_n 1 dX3_wouldLose_0 rfl rfl ?_
  refine ev_kS1v (c3_nClient _ (by omega)) kX3_needClient g397 rfl rfl dX3_wouldLose_1 ?_
  refine ev_aload_n 0 dX3_wouldLose_4 rfl rfl ?_
  refine ev_getfield 1 dX3_wouldLose_5 foX3_19 rfl rfl ?_
  refine ev_aload_n 0 dX3_wouldLose_8 rfl rfl ?_
  refine ev_getfield 7 dX3_wouldLose_9 foX3_41 rfl rfl ?_
  refine ev_iload_n 1 dX3_wouldLose_12 rfl rfl ?_
  refine ev_cV2v (c2_reckon _ _ _ _ _ _ _ hc hm hm2) kX2_reckon rfl g645 rfl rfl rfl rfl dX3_wouldLose_13 ?_
  refine ev_aload_n 0 dX3_wouldLose_16 rfl rfl ?_
  refine ev_getfield 1 dX3_wouldLose_17 foX3_19 rfl rfl ?_
  refine ev_getfield 7 dX3_wouldLose_20 foX3_231 rfl rfl ?_
  exact ev_ireturn dX3_wouldLose_23 (Nat.le_of_ble_eq_true rfl) ⟨rfl, rfl⟩
set_option maxHeartbeats 1000000 in
theorem c3_calledIfFallen (P : Nat → va_E) (t cs sl pl ks rr : Nat → Int32) (n b : Nat) (sv : Nat → Nat) (sf τ : Nat → Int32) (T : Nat → Nat → Int32) (g : PW) {v : Int32} (hr : inB v (nI 1) (nI 90) = true) : Ct mX3_calledIfFallen [.ref 7, .int v] (hv P t cs sl pl ks rr n b sv sf τ T g) (d1 (some (.int (ifFS τ v 8))) (hv P t cs sl pl ks rr n b sv sf τ T g)) nx := by
  refine ct_of 1 kX3_calledIfFallen.1 rfl (Nat.le_of_ble_eq_true rfl) (fun v u h => by obtain ⟨rfl, rfl⟩ := h; exact rfl) ?_
  show Ev _ _ _ 0 0 [(0, .ref 7), (1, .int v)] [] _
  refine ev_iload_n 1 dX3_calledIfFallen_0 rfl rfl ?_
  refine ev_iconst (nI 1) dX3_calledIfFallen_1 rfl ?_
  refine ev_bipush (nI 90) dX3_calledIfFallen_2 rfl ?_
  refine ev_kS3v (c3_nRange _ hr) kX3_needRange g294 rfl rfl dX3_calledIfFallen_4 ?_
  refine ev_aload_n 0 dX3_calledIfFallen_7 rfl rfl ?_
  refine ev_getfield 7 dX3_calledIfFallen_8 foX3_41 rfl rfl ?_
  refine ev_iload_n 1 dX3_calledIfFallen_11 rfl rfl ?_
  refine ev_cV1 (c0_countUncovered _ _ _ _ _ _ _ _) kX0_countUncoveredAfterFall rfl g369 rfl rfl rfl rfl dX3_calledIfFallen_12 ?_
  exact ev_ireturn dX3_calledIfFallen_15 (Nat.le_of_ble_eq_true rfl) ⟨rfl, rfl⟩
set_option maxHeartbeats 1000000 in
theorem c3_debtsByClients (P : Nat → va_E) (t cs sl pl ks rr : Nat → Int32) (n b : Nat) (sv : Nat → Nat) (sf τ : Nat → Int32) (T : Nat → Nat → Int32) (g : PW)  : Ct mX3_debtsByClients [.ref 7] (hv P t cs sl pl ks rr n b sv sf τ T g) (d1 (some (.int (dbS τ 8))) (hv P t cs sl pl ks rr n b sv sf τ T g)) nx := by
  refine ct_of 0 kX3_debtsByClients.1 rfl (Nat.le_of_ble_eq_true rfl) (fun v u h => by obtain ⟨rfl, rfl⟩ := h; exact rfl) ?_
  show Ev _ _ _ 0 0 [(0, .ref 7)] [] _
  refine ev_aload_n 0 dX3_debtsByClients_0 rfl rfl ?_
  refine ev_getfield 7 dX3_debtsByClients_1 foX3_41 rfl rfl ?_
  refine ev_cV0 (c0_debtsOfAll _ _ _ _ _ _ _) kX0_debtsOfAll rfl g531 rfl rfl rfl rfl dX3_debtsByClients_4 ?_
  exact ev_ireturn dX3_debtsByClients_7 (Nat.le_of_ble_eq_true rfl) ⟨rfl, rfl⟩
set_option maxHeartbeats 1000000 in
theorem c3_debtsByAccount (P : Nat → va_E) (t cs sl pl ks rr : Nat → Int32) (n b : Nat) (sv : Nat → Nat) (sf τ : Nat → Int32) (T : Nat → Nat → Int32) (g : PW)  : Ct mX3_debtsByAccount [.ref 7] (hv P t cs sl pl ks rr n b sv sf τ T g) (d1 (some (.int (τ 103 + τ 104 - τ 105 - τ 106))) (hv P t cs sl pl ks rr n b sv sf τ T g)) nx := by
  refine ct_of 0 kX3_debtsByAccount.1 rfl (Nat.le_of_ble_eq_true rfl) (fun v u h => by obtain ⟨rfl, rfl⟩ := h; exact rfl) ?_
  show Ev _ _ _ 0 0 [(0, .ref 7)] [] _
  refine ev_aload_n 0 dX3_debtsByAccount_0 rfl rfl ?_
  refine ev_getfield 7 dX3_debtsByAccount_1 foX3_41 rfl rfl ?_
  refine ev_getfield 13 dX3_debtsByAccount_4 foX3_243 rfl rfl ?_
  refine ev_aload_n 0 dX3_debtsByAccount_7 rfl rfl ?_
  refine ev_getfield 7 dX3_debtsByAccount_8 foX3_41 rfl rfl ?_
  refine ev_getfield 14 dX3_debtsByAccount_11 foX3_246 rfl rfl ?_
  refine ev_iadd dX3_debtsByAccount_14 ?_
  refine ev_aload_n 0 dX3_debtsByAccount_15 rfl rfl ?_
  refine ev_getfield 7 dX3_debtsByAccount_16 foX3_41 rfl rfl ?_
  refine ev_getfield 15 dX3_debtsByAccount_19 foX3_249 rfl rfl ?_
  refine ev_isub dX3_debtsByAccount_22 ?_
  refine ev_aload_n 0 dX3_debtsByAccount_23 rfl rfl ?_
  refine ev_getfield 7 dX3_debtsByAccount_24 foX3_41 rfl rfl ?_
  refine ev_getfield 16 dX3_debtsByAccount_27 foX3_252 rfl rfl ?_
  refine ev_isub dX3_debtsByAccount_30 ?_
  exact ev_ireturn dX3_debtsByAccount_31 (Nat.le_of_ble_eq_true rfl) ⟨rfl, rfl⟩
