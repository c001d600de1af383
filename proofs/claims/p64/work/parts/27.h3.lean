/-! ===== the class: the public changes ===== -/
set_option maxHeartbeats 1000000 in
theorem c3_setPrice (P : Nat → va_E) (t cs sl pl ks rr : Nat → Int32) (n b : Nat) (sv : Nat → Nat) (sf τ : Nat → Int32) (T : Nat → Nat → Int32) (g : PW) {k : Nat} (hk : k < 6) {v : Int32} (hr : inB v (nI 1) (nI 500) = true) (hn : n ≤ 6) (hp : PM b sv) (hB : BF τ) (hK : HK τ) : Ct mX3_setPrice [.ref 7, .int (nI k), .int v] (hv P t cs sl pl ks rr n b sv sf τ T g) (d1 (some (.int (lkF (upd τ (k) v) 8))) (hv P t cs sl pl ks rr (sN9 n) (sB9 n sv) (sS9 n b sv) sf (lookN (upd τ (k) v) 8) (updT T b τ) g)) nx := by
  refine ct_of 2 kX3_setPrice.1 rfl (Nat.le_of_ble_eq_true rfl) (fun v u h => by obtain ⟨rfl, rfl⟩ := h; exact rfl) ?_
  show Ev _ _ _ 0 0 [(0, .ref 7), (1, .int (nI k)), (2, .int v)] [] _
  refine ev_iload_n 1 dX3_setPrice_0 rfl rfl ?_
  refine ev_kS1v (c3_nKind _ (by omega)) kX3_needKind g228 rfl rfl dX3_setPrice_1 ?_
  refine ev_iload_n 2 dX3_setPrice_4 rfl rfl ?_
  refine ev_iconst (nI 1) dX3_setPrice_5 rfl ?_
  refine ev_sipush (nI 500) dX3_setPrice_6 rfl ?_
  refine ev_kS3v (c3_nRange _ hr) kX3_needRange g294 rfl rfl dX3_setPrice_9 ?_
  refine ev_aload_n 0 dX3_setPrice_12 rfl rfl ?_
  refine ev_cV0v (c3_save _ _ _ _ _ _ _ _ _ _ _ _ _ _ hn hp hB) kX3_save rfl g312 rfl rfl rfl rfl dX3_setPrice_13 ?_
  refine ev_aload_n 0 dX3_setPrice_16 rfl rfl ?_
  refine ev_getfield 7 dX3_setPrice_17 foX3_41 rfl rfl ?_
  refine ev_iload_n 1 dX3_setPrice_20 rfl rfl ?_
  refine ev_iload_n 2 dX3_setPrice_21 rfl rfl ?_
  refine ev_cV2 (c0_putPrice _ _ _ _ _ _ _ hk v hK) kX0_putPrice rfl g327 rfl rfl rfl rfl dX3_setPrice_22 ?_
  exact ev_ireturn dX3_setPrice_25 (Nat.le_of_ble_eq_true rfl) ⟨rfl, rfl⟩
set_option maxHeartbeats 1000000 in
theorem c3_setCut (P : Nat → va_E) (t cs sl pl ks rr : Nat → Int32) (n b : Nat) (sv : Nat → Nat) (sf τ : Nat → Int32) (T : Nat → Nat → Int32) (g : PW) {k : Nat} (hk : k < 6) {v : Int32} (hr : inB v (nI 0) (nI 90) = true) (hn : n ≤ 6) (hp : PM b sv) (hB : BF τ) (hK : HK τ) : Ct mX3_setCut [.ref 7, .int (nI k), .int v] (hv P t cs sl pl ks rr n b sv sf τ T g) (d1 (some (.int (lkF (upd τ (6 + k) v) 8))) (hv P t cs sl pl ks rr (sN9 n) (sB9 n sv) (sS9 n b sv) sf (lookN (upd τ (6 + k) v) 8) (updT T b τ) g)) nx := by
  refine ct_of 2 kX3_setCut.1 rfl (Nat.le_of_ble_eq_true rfl) (fun v u h => by obtain ⟨rfl, rfl⟩ := h; exact rfl) ?_
  show Ev _ _ _ 0 0 [(0, .ref 7), (1, .int (nI k)), (2, .int v)] [] _
  refine ev_iload_n 1 dX3_setCut_0 rfl rfl ?_
  refine ev_kS1v (c3_nKind _ (by omega)) kX3_needKind g228 rfl rfl dX3_setCut_1 ?_
  refine ev_iload_n 2 dX3_setCut_4 rfl rfl ?_
  refine ev_iconst (nI 0) dX3_setCut_5 rfl ?_
  refine ev_bipush (nI 90) dX3_setCut_6 rfl ?_
  refine ev_kS3v (c3_nRange _ hr) kX3_needRange g294 rfl rfl dX3_setCut_8 ?_
  refine ev_aload_n 0 dX3_setCut_11 rfl rfl ?_
  refine ev_cV0v (c3_save _ _ _ _ _ _ _ _ _ _ _ _ _ _ hn hp hB) kX3_save rfl g312 rfl rfl rfl rfl dX3_setCut_12 ?_
  refine ev_aload_n 0 dX3_setCut_15 rfl rfl ?_
  refine ev_getfield 7 dX3_setCut_16 foX3_41 rfl rfl ?_
  refine ev_iload_n 1 dX3_setCut_19 rfl rfl ?_
  refine ev_iload_n 2 dX3_setCut_20 rfl rfl ?_
  refine ev_cV2 (c0_putCut _ _ _ _ _ _ _ hk v hK) kX0_putCut rfl g357 rfl rfl rfl rfl dX3_setCut_21 ?_
  exact ev_ireturn dX3_setCut_24 (Nat.le_of_ble_eq_true rfl) ⟨rfl, rfl⟩
set_option maxHeartbeats 1000000 in
theorem c3_fall (P : Nat → va_E) (t cs sl pl ks rr : Nat → Int32) (n b : Nat) (sv : Nat → Nat) (sf τ : Nat → Int32) (T : Nat → Nat → Int32) (g : PW) {v : Int32} (hr : inB v (nI 1) (nI 90) = true) (hn : n ≤ 6) (hp : PM b sv) (hB : BF τ) (hK : HK τ) : Ct mX3_fall [.ref 7, .int v] (hv P t cs sl pl ks rr n b sv sf τ T g) (d1 (some (.int (lkF (drpN τ v 6) 8))) (hv P t cs sl pl ks rr (sN9 n) (sB9 n sv) (sS9 n b sv) sf (lookN (drpN τ v 6) 8) (updT T b τ) g)) nx := by
  refine ct_of 1 kX3_fall.1 rfl (Nat.le_of_ble_eq_true rfl) (fun v u h => by obtain ⟨rfl, rfl⟩ := h; exact rfl) ?_
  show Ev _ _ _ 0 0 [(0, .ref 7), (1, .int v)] [] _
  refine ev_iload_n 1 dX3_fall_0 rfl rfl ?_
  refine ev_iconst (nI 1) dX3_fall_1 rfl ?_
  refine ev_bipush (nI 90) dX3_fall_2 rfl ?_
  refine ev_kS3v (c3_nRange _ hr) kX3_needRange g294 rfl rfl dX3_fall_4 ?_
  refine ev_aload_n 0 dX3_fall_7 rfl rfl ?_
  refine ev_cV0v (c3_save _ _ _ _ _ _ _ _ _ _ _ _ _ _ hn hp hB) kX3_save rfl g312 rfl rfl rfl rfl dX3_fall_8 ?_
  refine ev_aload_n 0 dX3_fall_11 rfl rfl ?_
  refine ev_getfield 7 dX3_fall_12 foX3_41 rfl rfl ?_
  refine ev_iload_n 1 dX3_fall_15 rfl rfl ?_
  refine ev_cV1 (c0_dropPrices _ _ _ _ _ _ _ v hK) kX0_dropPrices rfl g381 rfl rfl rfl rfl dX3_fall_16 ?_
  exact ev_ireturn dX3_fall_19 (Nat.le_of_ble_eq_true rfl) ⟨rfl, rfl⟩
set_option maxHeartbeats 1000000 in
theorem c3_pledge (P : Nat → va_E) (t cs sl pl ks rr : Nat → Int32) (n b : Nat) (sv : Nat → Nat) (sf τ : Nat → Int32) (T : Nat → Nat → Int32) (g : PW) {c : Nat} (hc : c < 8) {k : Nat} (hk : k < 6) {m : Int32} (hr : inB m (nI 1) (nI 50) = true) (h : τ (ix c k) + m ≤ nI 99) (hn : n ≤ 6) (hp : PM b sv) (hB : BF τ) (hK : HK τ) : Ct mX3_pledge [.ref 7, .int (nI c), .int (nI k), .int m] (hv P t cs sl pl ks rr n b sv sf τ T g) (d1 (some (.int ((lookN (upd τ (ix c k) (τ (ix c k) + m)) 8) (ix c k)))) (hv P t cs sl pl ks rr (sN9 n) (sB9 n sv) (sS9 n b sv) sf (lookN (upd τ (ix c k) (τ (ix c k) + m)) 8) (updT T b τ) g)) nx := by
  refine ct_of 3 kX3_pledge.1 rfl (Nat.le_of_ble_eq_true rfl) (fun v u h => by obtain ⟨rfl, rfl⟩ := h; exact rfl) ?_
  show Ev _ _ _ 0 0 [(0, .ref 7), (1, .int (nI c)), (2, .int (nI k)), (3, .int m)] [] _
  refine ev_iload_n 1 dX3_pledge_0 rfl rfl ?_
  refine ev_kS1v (c3_nClient _ (by omega)) kX3_needClient g397 rfl rfl dX3_pledge_1 ?_
  refine ev_iload_n 2 dX3_pledge_4 rfl rfl ?_
  refine ev_kS1v (c3_nKind _ (by omega)) kX3_needKind g228 rfl rfl dX3_pledge_5 ?_
  refine ev_iload_n 3 dX3_pledge_8 rfl rfl ?_
  refine ev_iconst (nI 1) dX3_pledge_9 rfl ?_
  refine ev_bipush (nI 50) dX3_pledge_10 rfl ?_
  refine ev_kS3v (c3_nRange _ hr) kX3_needRange g294 rfl rfl dX3_pledge_12 ?_
  refine ev_aload_n 0 dX3_pledge_15 rfl rfl ?_
  refine ev_getfield 8 dX3_pledge_16 foX3_45 rfl rfl ?_
  refine ev_aload_n 0 dX3_pledge_19 rfl rfl ?_
  refine ev_getfield 7 dX3_pledge_20 foX3_41 rfl rfl ?_
  refine ev_cV1v (c3_cpa _ _ _ _ _ _ _ _ _ _ _ _ _ _ hp.2.1 (by have := hp.1; omega) hB) kX0_copyFrom rfl g316 rfl (hv_g0 _ _ _ _ _ _ _ _ _ _ _ _ _ _ hp.2.1) rfl rfl dX3_pledge_23 ?_
  refine ev_aload_n 0 dX3_pledge_26 rfl rfl ?_
  refine ev_getfield 7 dX3_pledge_27 foX3_41 rfl rfl ?_
  refine ev_iload_n 1 dX3_pledge_30 rfl rfl ?_
  refine ev_iload_n 2 dX3_pledge_31 rfl rfl ?_
  refine ev_iload_n 3 dX3_pledge_32 rfl rfl ?_
  refine ev_cV3 (c0_addPieces_1 _ _ _ _ _ _ _ hc hk h hK) kX0_addPieces rfl g410 rfl rfl rfl rfl dX3_pledge_33 ?_
  refine ev_kS1v (c3_need _ (by decide)) kX3_need g414 rfl rfl dX3_pledge_36 ?_
  refine ev_aload_n 0 dX3_pledge_39 rfl rfl ?_
  refine ev_cV0v (c3_saveBefore _ _ _ _ _ _ _ _ _ _ _ _ _ _ hn hp) kX3_saveBefore rfl g323 rfl rfl rfl rfl dX3_pledge_40 ?_
  refine ev_aload_n 0 dX3_pledge_43 rfl rfl ?_
  refine ev_getfield 7 dX3_pledge_44 foX3_41 rfl rfl ?_
  refine ev_getfield 3 dX3_pledge_47 foX3_88 rfl rfl ?_
  refine ev_iload_n 1 dX3_pledge_50 rfl rfl ?_
  refine ev_iload_n 2 dX3_pledge_51 rfl rfl ?_
  refine ev_cS2 (c3_at _ _ _) kX3_at rfl g400 rfl rfl dX3_pledge_52 ?_
  refine ev_ild (c * 6 + k) dX3_pledge_55 rfl (by simp only [nI_m, nI_add, ix, oI]) (by omega) rfl ?_
  refine ev_top ((lookN (upd τ (ix c k) (τ (ix c k) + m)) 8) (ix c k)) (pc6 hk) ?_
  exact ev_ireturn dX3_pledge_56 (Nat.le_of_ble_eq_true rfl) ⟨rfl, rfl⟩
set_option maxHeartbeats 1000000 in
theorem c3_release (P : Nat → va_E) (t cs sl pl ks rr : Nat → Int32) (n b : Nat) (sv : Nat → Nat) (sf τ : Nat → Int32) (T : Nat → Nat → Int32) (g : PW) {c : Nat} (hc : c < 8) {k : Nat} (hk : k < 6) {m : Int32} (hr : inB m (nI 1) (nI 50) = true) (h : m ≤ τ (ix c k)) (h2 : τ (ix c 7) ≤ covI (canTk τ c k m) c (nI 0) (nI 1)) (hn : n ≤ 6) (hp : PM b sv) (hB : BF τ) (hK : HK τ) : Ct mX3_release [.ref 7, .int (nI c), .int (nI k), .int m] (hv P t cs sl pl ks rr n b sv sf τ T g) (d1 (some (.int ((lookN (canTk τ c k m) 8) (ix c k)))) (hv P t cs sl pl ks rr (sN9 n) (sB9 n sv) (sS9 n b sv) sf (lookN (canTk τ c k m) 8) (updT T b τ) g)) nx := by
  refine ct_of 3 kX3_release.1 rfl (Nat.le_of_ble_eq_true rfl) (fun v u h => by obtain ⟨rfl, rfl⟩ := h; exact rfl) ?_
  show Ev _ _ _ 0 0 [(0, .ref 7), (1, .int (nI c)), (2, .int (nI k)), (3, .int m)] [] _
  refine ev_iload_n 1 dX3_release_0 rfl rfl ?_
  refine ev_kS1v (c3_nClient _ (by omega)) kX3_needClient g397 rfl rfl dX3_release_1 ?_
  refine ev_iload_n 2 dX3_release_4 rfl rfl ?_
  refine ev_kS1v (c3_nKind _ (by omega)) kX3_needKind g228 rfl rfl dX3_release_5 ?_
  refine ev_iload_n 3 dX3_release_8 rfl rfl ?_
  refine ev_iconst (nI 1) dX3_release_9 rfl ?_
  refine ev_bipush (nI 50) dX3_release_10 rfl ?_
  refine ev_kS3v (c3_nRange _ hr) kX3_needRange g294 rfl rfl dX3_release_12 ?_
  refine ev_aload_n 0 dX3_release_15 rfl rfl ?_
  refine ev_getfield 8 dX3_release_16 foX3_45 rfl rfl ?_
  refine ev_aload_n 0 dX3_release_19 rfl rfl ?_
  refine ev_getfield 7 dX3_release_20 foX3_41 rfl rfl ?_
  refine ev_cV1v (c3_cpa _ _ _ _ _ _ _ _ _ _ _ _ _ _ hp.2.1 (by have := hp.1; omega) hB) kX0_copyFrom rfl g316 rfl (hv_g0 _ _ _ _ _ _ _ _ _ _ _ _ _ _ hp.2.1) rfl rfl dX3_release_23 ?_
  refine ev_aload_n 0 dX3_release_26 rfl rfl ?_
  refine ev_getfield 7 dX3_release_27 foX3_41 rfl rfl ?_
  refine ev_iload_n 1 dX3_release_30 rfl rfl ?_
  refine ev_iload_n 2 dX3_release_31 rfl rfl ?_
  refine ev_iload_n 3 dX3_release_32 rfl rfl ?_
  refine ev_cV3 (c0_takePieces_1 _ _ _ _ _ _ _ hc hk h h2 hK) kX0_takePieces rfl g457 rfl rfl rfl rfl dX3_release_33 ?_
  refine ev_kS1v (c3_need _ (by decide)) kX3_need g414 rfl rfl dX3_release_36 ?_
  refine ev_aload_n 0 dX3_release_39 rfl rfl ?_
  refine ev_cV0v (c3_saveBefore _ _ _ _ _ _ _ _ _ _ _ _ _ _ hn hp) kX3_saveBefore rfl g323 rfl rfl rfl rfl dX3_release_40 ?_
  refine ev_aload_n 0 dX3_release_43 rfl rfl ?_
  refine ev_getfield 7 dX3_release_44 foX3_41 rfl rfl ?_
  refine ev_getfield 3 dX3_release_47 foX3_88 rfl rfl ?_
  refine ev_iload_n 1 dX3_release_50 rfl rfl ?_
  refine ev_iload_n 2 dX3_release_51 rfl rfl ?_
  refine ev_cS2 (c3_at _ _ _) kX3_at rfl g400 rfl rfl dX3_release_52 ?_
  refine ev_ild (c * 6 + k) dX3_release_55 rfl (by simp only [nI_m, nI_add, ix, oI]) (by omega) rfl ?_
  refine ev_top ((lookN (canTk τ c k m) 8) (ix c k)) (pc6 hk) ?_
  exact ev_ireturn dX3_release_56 (Nat.le_of_ble_eq_true rfl) ⟨rfl, rfl⟩
set_option maxHeartbeats 1000000 in
theorem c3_deposit (P : Nat → va_E) (t cs sl pl ks rr : Nat → Int32) (n b : Nat) (sv : Nat → Nat) (sf τ : Nat → Int32) (T : Nat → Nat → Int32) (g : PW) {c : Nat} (hc : c < 8) {m : Int32} (hr : inB m (nI 1) (nI 9999) = true) (h : τ (ix c 6) + m ≤ nI 99999) (hn : n ≤ 6) (hp : PM b sv) (hB : BF τ) (hK : HK τ) : Ct mX3_deposit [.ref 7, .int (nI c), .int m] (hv P t cs sl pl ks rr n b sv sf τ T g) (d1 (some (.int ((lookN (upd τ (ix c 6) (τ (ix c 6) + m)) 8) (ix c 6)))) (hv P t cs sl pl ks rr (sN9 n) (sB9 n sv) (sS9 n b sv) sf (lookN (upd τ (ix c 6) (τ (ix c 6) + m)) 8) (updT T b τ) g)) nx := by
  refine ct_of 2 kX3_deposit.1 rfl (Nat.le_of_ble_eq_true rfl) (fun v u h => by obtain ⟨rfl, rfl⟩ := h; exact rfl) ?_
  show Ev _ _ _ 0 0 [(0, .ref 7), (1, .int (nI c)), (2, .int m)] [] _
  refine ev_iload_n 1 dX3_deposit_0 rfl rfl ?_
  refine ev_kS1v (c3_nClient _ (by omega)) kX3_needClient g397 rfl rfl dX3_deposit_1 ?_
  refine ev_iload_n 2 dX3_deposit_4 rfl rfl ?_
  refine ev_iconst (nI 1) dX3_deposit_5 rfl ?_
  refine ev_sipush (nI 9999) dX3_deposit_6 rfl ?_
  refine ev_kS3v (c3_nRange _ hr) kX3_needRange g294 rfl rfl dX3_deposit_9 ?_
  refine ev_aload_n 0 dX3_deposit_12 rfl rfl ?_
  refine ev_getfield 8 dX3_deposit_13 foX3_45 rfl rfl ?_
  refine ev_aload_n 0 dX3_deposit_16 rfl rfl ?_
  refine ev_getfield 7 dX3_deposit_17 foX3_41 rfl rfl ?_
  refine ev_cV1v (c3_cpa _ _ _ _ _ _ _ _ _ _ _ _ _ _ hp.2.1 (by have := hp.1; omega) hB) kX0_copyFrom rfl g316 rfl (hv_g0 _ _ _ _ _ _ _ _ _ _ _ _ _ _ hp.2.1) rfl rfl dX3_deposit_20 ?_
  refine ev_aload_n 0 dX3_deposit_23 rfl rfl ?_
  refine ev_getfield 7 dX3_deposit_24 foX3_41 rfl rfl ?_
  refine ev_iload_n 1 dX3_deposit_27 rfl rfl ?_
  refine ev_iload_n 2 dX3_deposit_28 rfl rfl ?_
  refine ev_cV2 (c0_addCoins_1 _ _ _ _ _ _ _ hc h hK) kX0_addCoins rfl g444 rfl rfl rfl rfl dX3_deposit_29 ?_
  refine ev_kS1v (c3_need _ (by decide)) kX3_need g414 rfl rfl dX3_deposit_32 ?_
  refine ev_aload_n 0 dX3_deposit_35 rfl rfl ?_
  refine ev_cV0v (c3_saveBefore _ _ _ _ _ _ _ _ _ _ _ _ _ _ hn hp) kX3_saveBefore rfl g323 rfl rfl rfl rfl dX3_deposit_36 ?_
  refine ev_aload_n 0 dX3_deposit_39 rfl rfl ?_
  refine ev_getfield 7 dX3_deposit_40 foX3_41 rfl rfl ?_
  refine ev_getfield 4 dX3_deposit_43 foX3_101 rfl rfl ?_
  refine ev_iload_n 1 dX3_deposit_46 rfl rfl ?_
  refine ev_ild (c) dX3_deposit_47 rfl (by simp only [nI_m, nI_add, ix, oI]) (by omega) rfl ?_
  exact ev_ireturn dX3_deposit_48 (Nat.le_of_ble_eq_true rfl) ⟨rfl, rfl⟩
set_option maxHeartbeats 1000000 in
theorem c3_lend (P : Nat → va_E) (t cs sl pl ks rr : Nat → Int32) (n b : Nat) (sv : Nat → Nat) (sf τ : Nat → Int32) (T : Nat → Nat → Int32) (g : PW) {c : Nat} (hc : c < 8) {m : Int32} (hr : inB m (nI 1) (nI 9999) = true) (h : τ (ix c 9) = 0) (h2 : τ (ix c 7) + m ≤ covI τ c (nI 0) (nI 1)) (hn : n ≤ 6) (hp : PM b sv) (hB : BF τ) (hK : HK τ) : Ct mX3_lend [.ref 7, .int (nI c), .int m] (hv P t cs sl pl ks rr n b sv sf τ T g) (d1 (some (.int ((lookN (lnd3 τ c m) 8) (ix c 7)))) (hv P t cs sl pl ks rr (sN9 n) (sB9 n sv) (sS9 n b sv) sf (lookN (lnd3 τ c m) 8) (updT T b τ) g)) nx := by
  refine ct_of 2 kX3_lend.1 rfl (Nat.le_of_ble_eq_true rfl) (fun v u h => by obtain ⟨rfl, rfl⟩ := h; exact rfl) ?_
  show Ev _ _ _ 0 0 [(0, .ref 7), (1, .int (nI c)), (2, .int m)] [] _
  refine ev_iload_n 1 dX3_lend_0 rfl rfl ?_
  refine ev_kS1v (c3_nClient _ (by omega)) kX3_needClient g397 rfl rfl dX3_lend_1 ?_
  refine ev_iload_n 2 dX3_lend_4 rfl rfl ?_
  refine ev_iconst (nI 1) dX3_lend_5 rfl ?_
  refine ev_sipush (nI 9999) dX3_lend_6 rfl ?_
  refine ev_kS3v (c3_nRange _ hr) kX3_needRange g294 rfl rfl dX3_lend_9 ?_
  refine ev_aload_n 0 dX3_lend_12 rfl rfl ?_
  refine ev_getfield 8 dX3_lend_13 foX3_45 rfl rfl ?_
  refine ev_aload_n 0 dX3_lend_16 rfl rfl ?_
  refine ev_getfield 7 dX3_lend_17 foX3_41 rfl rfl ?_
  refine ev_cV1v (c3_cpa _ _ _ _ _ _ _ _ _ _ _ _ _ _ hp.2.1 (by have := hp.1; omega) hB) kX0_copyFrom rfl g316 rfl (hv_g0 _ _ _ _ _ _ _ _ _ _ _ _ _ _ hp.2.1) rfl rfl dX3_lend_20 ?_
  refine ev_aload_n 0 dX3_lend_23 rfl rfl ?_
  refine ev_getfield 7 dX3_lend_24 foX3_41 rfl rfl ?_
  refine ev_iload_n 1 dX3_lend_27 rfl rfl ?_
  refine ev_iload_n 2 dX3_lend_28 rfl rfl ?_
  refine ev_cV2 (c0_addDebt_1 _ _ _ _ _ _ _ hc h h2 hK) kX0_addDebt rfl g484 rfl rfl rfl rfl dX3_lend_29 ?_
  refine ev_kS1v (c3_need _ (by decide)) kX3_need g414 rfl rfl dX3_lend_32 ?_
  refine ev_aload_n 0 dX3_lend_35 rfl rfl ?_
  refine ev_cV0v (c3_saveBefore _ _ _ _ _ _ _ _ _ _ _ _ _ _ hn hp) kX3_saveBefore rfl g323 rfl rfl rfl rfl dX3_lend_36 ?_
  refine ev_aload_n 0 dX3_lend_39 rfl rfl ?_
  refine ev_getfield 7 dX3_lend_40 foX3_41 rfl rfl ?_
  refine ev_getfield 5 dX3_lend_43 foX3_110 rfl rfl ?_
  refine ev_iload_n 1 dX3_lend_46 rfl rfl ?_
  refine ev_ild (c) dX3_lend_47 rfl (by simp only [nI_m, nI_add, ix, oI]) (by omega) rfl ?_
  exact ev_ireturn dX3_lend_48 (Nat.le_of_ble_eq_true rfl) ⟨rfl, rfl⟩
set_option maxHeartbeats 1000000 in
theorem c3_payBack (P : Nat → va_E) (t cs sl pl ks rr : Nat → Int32) (n b : Nat) (sv : Nat → Nat) (sf τ : Nat → Int32) (T : Nat → Nat → Int32) (g : PW) {c : Nat} (hc : c < 8) {m : Int32} (hr : inB m (nI 1) (nI 9999) = true) (h : ¬ τ (ix c 7) = 0) (hne : ¬ paid τ c m = -1) (hn : n ≤ 6) (hp : PM b sv) (hB : BF τ) (hK : HK τ) : Ct mX3_payBack [.ref 7, .int (nI c), .int m] (hv P t cs sl pl ks rr n b sv sf τ T g) (d1 (some (.int (paid τ c m))) (hv P t cs sl pl ks rr (sN9 n) (sB9 n sv) (sS9 n b sv) sf (lookN (pay3 τ c (paid τ c m)) 8) (updT T b τ) g)) nx := by
  refine ct_of 2 kX3_payBack.1 rfl (Nat.le_of_ble_eq_true rfl) (fun v u h => by obtain ⟨rfl, rfl⟩ := h; exact rfl) ?_
  show Ev _ _ _ 0 0 [(0, .ref 7), (1, .int (nI c)), (2, .int m)] [] _
  refine ev_iload_n 1 dX3_payBack_0 rfl rfl ?_
  refine ev_kS1v (c3_nClient _ (by omega)) kX3_needClient g397 rfl rfl dX3_payBack_1 ?_
  refine ev_iload_n 2 dX3_payBack_4 rfl rfl ?_
  refine ev_iconst (nI 1) dX3_payBack_5 rfl ?_
  refine ev_sipush (nI 9999) dX3_payBack_6 rfl ?_
  refine ev_kS3v (c3_nRange _ hr) kX3_needRange g294 rfl rfl dX3_payBack_9 ?_
  refine ev_aload_n 0 dX3_payBack_12 rfl rfl ?_
  refine ev_getfield 8 dX3_payBack_13 foX3_45 rfl rfl ?_
  refine ev_aload_n 0 dX3_payBack_16 rfl rfl ?_
  refine ev_getfield 7 dX3_payBack_17 foX3_41 rfl rfl ?_
  refine ev_cV1v (c3_cpa _ _ _ _ _ _ _ _ _ _ _ _ _ _ hp.2.1 (by have := hp.1; omega) hB) kX0_copyFrom rfl g316 rfl (hv_g0 _ _ _ _ _ _ _ _ _ _ _ _ _ _ hp.2.1) rfl rfl dX3_payBack_20 ?_
  refine ev_aload_n 0 dX3_payBack_23 rfl rfl ?_
  refine ev_getfield 7 dX3_payBack_24 foX3_41 rfl rfl ?_
  refine ev_iload_n 1 dX3_payBack_27 rfl rfl ?_
  refine ev_iload_n 2 dX3_payBack_28 rfl rfl ?_
  refine ev_cV2 (c0_takeDebt_1 _ _ _ _ _ _ _ hc h hK) kX0_takeDebt rfl g492 rfl rfl rfl rfl dX3_payBack_29 ?_
  refine ev_istore_n 3 dX3_payBack_32 rfl (Nat.le_of_ble_eq_true rfl) rfl ?_
  refine ev_iload_n 3 dX3_payBack_33 rfl rfl ?_
  refine ev_iconst (-1) dX3_payBack_34 rfl ?_
  refine ev_icmp_eq 42 dX3_payBack_35 (by decide) (fun h35 => absurd h35 hne) (fun h35 => ?_)
  refine ev_iconst (nI 1) dX3_payBack_38 rfl ?_
  refine ev_goto 43 dX3_payBack_39 (by decide) ?_
  refine ev_kS1v (c3_need _ (by decide)) kX3_need g414 rfl rfl dX3_payBack_43 ?_
  refine ev_aload_n 0 dX3_payBack_46 rfl rfl ?_
  refine ev_cV0v (c3_saveBefore _ _ _ _ _ _ _ _ _ _ _ _ _ _ hn hp) kX3_saveBefore rfl g323 rfl rfl rfl rfl dX3_payBack_47 ?_
  refine ev_iload_n 3 dX3_payBack_50 rfl rfl ?_
  exact ev_ireturn dX3_payBack_51 (Nat.le_of_ble_eq_true rfl) ⟨rfl, rfl⟩
set_option maxHeartbeats 1000000 in
theorem c3_pass (P : Nat → va_E) (t cs sl pl ks rr : Nat → Int32) (n b : Nat) (sv : Nat → Nat) (sf τ : Nat → Int32) (T : Nat → Nat → Int32) (g : PW) {h : Nat} (hh : h ≤ 100) (hr : inB (nI h) (nI 1) (nI 100) = true) (hI : ∀ j, j < h → PhI (phN (τ, (sl, (pl, ks))) j)) (hL : HK (phN (τ, (sl, (pl, ks))) h).1) (hn : n ≤ 6) (hp : PM b sv) (hB : BF τ) : Ct mX3_pass [.ref 7, .int (nI h)] (hv P t cs sl pl ks rr n b sv sf τ T g) (d1 (some (.int (lookN (phN (τ, (sl, (pl, ks))) h).1 8 108 - τ 108))) (hv P t cs ((phN (τ, (sl, (pl, ks))) h).2.1) ((phN (τ, (sl, (pl, ks))) h).2.2.1) ((phN (τ, (sl, (pl, ks))) h).2.2.2) rr (sN9 n) (sB9 n sv) (sS9 n b sv) sf (lookN (phN (τ, (sl, (pl, ks))) h).1 8) (updT T b τ) g)) nx := by
  refine ct_of 1 kX3_pass.1 rfl (Nat.le_of_ble_eq_true rfl) (fun v u h => by obtain ⟨rfl, rfl⟩ := h; exact rfl) ?_
  show Ev _ _ _ 0 0 [(0, .ref 7), (1, .int (nI h))] [] _
  refine ev_iload_n 1 dX3_pass_0 rfl rfl ?_
  refine ev_iconst (nI 1) dX3_pass_1 rfl ?_
  refine ev_bipush (nI 100) dX3_pass_2 rfl ?_
  refine ev_kS3v (c3_nRange _ hr) kX3_needRange g294 rfl rfl dX3_pass_4 ?_
  refine ev_aload_n 0 dX3_pass_7 rfl rfl ?_
  refine ev_cV0v (c3_save _ _ _ _ _ _ _ _ _ _ _ _ _ _ hn hp hB) kX3_save rfl g312 rfl rfl rfl rfl dX3_pass_8 ?_
  refine ev_aload_n 0 dX3_pass_11 rfl rfl ?_
  refine ev_getfield 7 dX3_pass_12 foX3_41 rfl rfl ?_
  refine ev_iload_n 1 dX3_pass_15 rfl rfl ?_
  refine ev_aload_n 0 dX3_pass_16 rfl rfl ?_
  refine ev_getfield 1 dX3_pass_17 foX3_19 rfl rfl ?_
  refine ev_w (w' := nwq (hpP P t cs (sN9 n) (sB9 n sv) (sS9 n b sv) sf) (τ, (sl, (pl, ks))) rr (hgT (updT T b τ) g)) rfl ?_
  refine ev_cV2 (c0_passHours (hpP P t cs (sN9 n) (sB9 n sv) (sS9 n b sv) sf) (τ, (sl, (pl, ks))) rr (hgT (updT T b τ) g) hh hI hL) kX0_passHours rfl g539 rfl rfl rfl rfl dX3_pass_20 ?_
  refine ev_w (w' := hv P t cs ((phN (τ, (sl, (pl, ks))) h).2.1) ((phN (τ, (sl, (pl, ks))) h).2.2.1) ((phN (τ, (sl, (pl, ks))) h).2.2.2) rr (sN9 n) (sB9 n sv) (sS9 n b sv) sf (lookN (phN (τ, (sl, (pl, ks))) h).1 8) (updT T b τ) g) rfl ?_
  exact ev_ireturn dX3_pass_23 (Nat.le_of_ble_eq_true rfl) ⟨rfl, rfl⟩
set_option maxHeartbeats 1000000 in
theorem c3_changeRate (P : Nat → va_E) (t cs sl pl ks rr : Nat → Int32) (n b : Nat) (sv : Nat → Nat) (sf τ : Nat → Int32) (T : Nat → Nat → Int32) (g : PW) {v : Int32} (hr : inB v (nI 0) (nI 100) = true) (hn : n ≤ 6) (hp : PM b sv) (hB : BF τ) : Ct mX3_changeRate [.ref 7, .int v] (hv P t cs sl pl ks rr n b sv sf τ T g) (d1 (some (.int (τ 98))) (hv P t cs sl pl ks rr (sN9 n) (sB9 n sv) (sS9 n b sv) sf (upd τ 98 v) (updT T b τ) g)) nx := by
  refine ct_of 1 kX3_changeRate.1 rfl (Nat.le_of_ble_eq_true rfl) (fun v u h => by obtain ⟨rfl, rfl⟩ := h; exact rfl) ?_
  show Ev _ _ _ 0 0 [(0, .ref 7), (1, .int v)] [] _
  refine ev_iload_n 1 dX3_changeRate_0 rfl rfl ?_
  refine ev_iconst (nI 0) dX3_changeRate_1 rfl ?_
  refine ev_bipush (nI 100) dX3_changeRate_2 rfl ?_
  refine ev_kS3v (c3_nRange _ hr) kX3_needRange g294 rfl rfl dX3_changeRate_4 ?_
  refine ev_aload_n 0 dX3_changeRate_7 rfl rfl ?_
  refine ev_cV0v (c3_save _ _ _ _ _ _ _ _ _ _ _ _ _ _ hn hp hB) kX3_save rfl g312 rfl rfl rfl rfl dX3_changeRate_8 ?_
  refine ev_aload_n 0 dX3_changeRate_11 rfl rfl ?_
  refine ev_getfield 7 dX3_changeRate_12 foX3_41 rfl rfl ?_
  refine ev_getfield 8 dX3_changeRate_15 foX3_124 rfl rfl ?_
  refine ev_istore_n 2 dX3_changeRate_18 rfl (Nat.le_of_ble_eq_true rfl) rfl ?_
  refine ev_aload_n 0 dX3_changeRate_19 rfl rfl ?_
  refine ev_getfield 7 dX3_changeRate_20 foX3_41 rfl rfl ?_
  refine ev_iload_n 1 dX3_changeRate_23 rfl rfl ?_
  refine ev_putfield 8 dX3_changeRate_24 fpX3_124 rfl (Nat.le_of_ble_eq_true rfl) (fun _ => rfl) (fun _ => rfl) (nw_f98 _ _ _ _ _ _ _ _) ?_
  refine ev_iload_n 2 dX3_changeRate_27 rfl rfl ?_
  exact ev_ireturn dX3_changeRate_28 (Nat.le_of_ble_eq_true rfl) ⟨rfl, rfl⟩
set_option maxHeartbeats 1000000 in
theorem c3_changeGrace (P : Nat → va_E) (t cs sl pl ks rr : Nat → Int32) (n b : Nat) (sv : Nat → Nat) (sf τ : Nat → Int32) (T : Nat → Nat → Int32) (g : PW) {v : Int32} (hr : inB v (nI 1) (nI 24) = true) (hn : n ≤ 6) (hp : PM b sv) (hB : BF τ) : Ct mX3_changeGrace [.ref 7, .int v] (hv P t cs sl pl ks rr n b sv sf τ T g) (d1 (some (.int (τ 99))) (hv P t cs sl pl ks rr (sN9 n) (sB9 n sv) (sS9 n b sv) sf (upd τ 99 v) (updT T b τ) g)) nx := by
  refine ct_of 1 kX3_changeGrace.1 rfl (Nat.le_of_ble_eq_true rfl) (fun v u h => by obtain ⟨rfl, rfl⟩ := h; exact rfl) ?_
  show Ev _ _ _ 0 0 [(0, .ref 7), (1, .int v)] [] _
  refine ev_iload_n 1 dX3_changeGrace_0 rfl rfl ?_
  refine ev_iconst (nI 1) dX3_changeGrace_1 rfl ?_
  refine ev_bipush (nI 24) dX3_changeGrace_2 rfl ?_
  refine ev_kS3v (c3_nRange _ hr) kX3_needRange g294 rfl rfl dX3_changeGrace_4 ?_
  refine ev_aload_n 0 dX3_changeGrace_7 rfl rfl ?_
  refine ev_cV0v (c3_save _ _ _ _ _ _ _ _ _ _ _ _ _ _ hn hp hB) kX3_save rfl g312 rfl rfl rfl rfl dX3_changeGrace_8 ?_
  refine ev_aload_n 0 dX3_changeGrace_11 rfl rfl ?_
  refine ev_getfield 7 dX3_changeGrace_12 foX3_41 rfl rfl ?_
  refine ev_getfield 9 dX3_changeGrace_15 foX3_128 rfl rfl ?_
  refine ev_istore_n 2 dX3_changeGrace_18 rfl (Nat.le_of_ble_eq_true rfl) rfl ?_
  refine ev_aload_n 0 dX3_changeGrace_19 rfl rfl ?_
  refine ev_getfield 7 dX3_changeGrace_20 foX3_41 rfl rfl ?_
  refine ev_iload_n 1 dX3_changeGrace_23 rfl rfl ?_
  refine ev_putfield 9 dX3_changeGrace_24 fpX3_128 rfl (Nat.le_of_ble_eq_true rfl) (fun _ => rfl) (fun _ => rfl) (nw_f99 _ _ _ _ _ _ _ _) ?_
  refine ev_iload_n 2 dX3_changeGrace_27 rfl rfl ?_
  exact ev_ireturn dX3_changeGrace_28 (Nat.le_of_ble_eq_true rfl) ⟨rfl, rfl⟩
set_option maxHeartbeats 1000000 in
theorem c3_changeSlip (P : Nat → va_E) (t cs sl pl ks rr : Nat → Int32) (n b : Nat) (sv : Nat → Nat) (sf τ : Nat → Int32) (T : Nat → Nat → Int32) (g : PW) {v : Int32} (hr : inB v (nI 0) (nI 50) = true) (hn : n ≤ 6) (hp : PM b sv) (hB : BF τ) : Ct mX3_changeSlip [.ref 7, .int v] (hv P t cs sl pl ks rr n b sv sf τ T g) (d1 (some (.int (τ 100))) (hv P t cs sl pl ks rr (sN9 n) (sB9 n sv) (sS9 n b sv) sf (upd τ 100 v) (updT T b τ) g)) nx := by
  refine ct_of 1 kX3_changeSlip.1 rfl (Nat.le_of_ble_eq_true rfl) (fun v u h => by obtain ⟨rfl, rfl⟩ := h; exact rfl) ?_
  show Ev _ _ _ 0 0 [(0, .ref 7), (1, .int v)] [] _
  refine ev_iload_n 1 dX3_changeSlip_0 rfl rfl ?_
  refine ev_iconst (nI 0) dX3_changeSlip_1 rfl ?_
  refine ev_bipush (nI 50) dX3_changeSlip_2 rfl ?_
  refine ev_kS3v (c3_nRange _ hr) kX3_needRange g294 rfl rfl dX3_changeSlip_4 ?_
  refine ev_aload_n 0 dX3_changeSlip_7 rfl rfl ?_
  refine ev_cV0v (c3_save _ _ _ _ _ _ _ _ _ _ _ _ _ _ hn hp hB) kX3_save rfl g312 rfl rfl rfl rfl dX3_changeSlip_8 ?_
  refine ev_aload_n 0 dX3_changeSlip_11 rfl rfl ?_
  refine ev_getfield 7 dX3_changeSlip_12 foX3_41 rfl rfl ?_
  refine ev_getfield 10 dX3_changeSlip_15 foX3_131 rfl rfl ?_
  refine ev_istore_n 2 dX3_changeSlip_18 rfl (Nat.le_of_ble_eq_true rfl) rfl ?_
  refine ev_aload_n 0 dX3_changeSlip_19 rfl rfl ?_
  refine ev_getfield 7 dX3_changeSlip_20 foX3_41 rfl rfl ?_
  refine ev_iload_n 1 dX3_changeSlip_23 rfl rfl ?_
  refine ev_putfield 10 dX3_changeSlip_24 fpX3_131 rfl (Nat.le_of_ble_eq_true rfl) (fun _ => rfl) (fun _ => rfl) (nw_f100 _ _ _ _ _ _ _ _) ?_
  refine ev_iload_n 2 dX3_changeSlip_27 rfl rfl ?_
  exact ev_ireturn dX3_changeSlip_28 (Nat.le_of_ble_eq_true rfl) ⟨rfl, rfl⟩
set_option maxHeartbeats 1000000 in
theorem c3_turnOrder (P : Nat → va_E) (t cs sl pl ks rr : Nat → Int32) (n b : Nat) (sv : Nat → Nat) (sf τ : Nat → Int32) (T : Nat → Nat → Int32) (g : PW)  (hn : n ≤ 6) (hp : PM b sv) (hB : BF τ) : Ct mX3_turnOrder [.ref 7] (hv P t cs sl pl ks rr n b sv sf τ T g) (d1 (some (.int ((τ 101 + nI 1) - (τ 101 + nI 1) / nI 3 * nI 3))) (hv P t cs sl pl ks rr (sN9 n) (sB9 n sv) (sS9 n b sv) sf (upd τ 101 ((τ 101 + nI 1) - (τ 101 + nI 1) / nI 3 * nI 3)) (updT T b τ) g)) nx := by
  refine ct_of 0 kX3_turnOrder.1 rfl (Nat.le_of_ble_eq_true rfl) (fun v u h => by obtain ⟨rfl, rfl⟩ := h; exact rfl) ?_
  show Ev _ _ _ 0 0 [(0, .ref 7)] [] _
  refine ev_aload_n 0 dX3_turnOrder_0 rfl rfl ?_
  refine ev_cV0v (c3_save _ _ _ _ _ _ _ _ _ _ _ _ _ _ hn hp hB) kX3_save rfl g312 rfl rfl rfl rfl dX3_turnOrder_1 ?_
  refine ev_aload_n 0 dX3_turnOrder_4 rfl rfl ?_
  refine ev_getfield 7 dX3_turnOrder_5 foX3_41 rfl rfl ?_
  refine ev_aload_n 0 dX3_turnOrder_8 rfl rfl ?_
  refine ev_getfield 7 dX3_turnOrder_9 foX3_41 rfl rfl ?_
  refine ev_getfield 11 dX3_turnOrder_12 foX3_134 rfl rfl ?_
  refine ev_iconst (nI 1) dX3_turnOrder_15 rfl ?_
  refine ev_iadd dX3_turnOrder_16 ?_
  refine ev_iconst (nI 3) dX3_turnOrder_17 rfl ?_
  refine ev_irem dX3_turnOrder_18 (by decide) ?_
  refine ev_putfield 11 dX3_turnOrder_19 fpX3_134 rfl (Nat.le_of_ble_eq_true rfl) (fun _ => rfl) (fun _ => rfl) (nw_f101 _ _ _ _ _ _ _ _) ?_
  refine ev_aload_n 0 dX3_turnOrder_22 rfl rfl ?_
  refine ev_getfield 7 dX3_turnOrder_23 foX3_41 rfl rfl ?_
  refine ev_getfield 11 dX3_turnOrder_26 foX3_134 rfl rfl ?_
  exact ev_ireturn dX3_turnOrder_29 (Nat.le_of_ble_eq_true rfl) ⟨rfl, rfl⟩
