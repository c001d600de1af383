/-! ===== the class: the public changes ===== -/
set_option maxHeartbeats 1000000 in
theorem x3_setPrice_1 (P : Nat → va_E) (t cs sl pl ks rr : Nat → Int32) (n b : Nat) (sv : Nat → Nat) (sf τ : Nat → Int32) (T : Nat → Nat → Int32) (g : PW) {q : Int32} (v : Int32) (h : inB q (nI 0) (nI 5) = false) : Ct mX3_setPrice [.ref 7, .int q, .int v] (hv P t cs sl pl ks rr n b sv sf τ T g) (fun _ _ => False) (pX "java/lang/IndexOutOfBoundsException" (hv P t cs sl pl ks rr n b sv sf τ T g)) := by
  refine ct_of 2 kX3_setPrice.1 rfl (Nat.le_of_ble_eq_true rfl) (fun v u h => h.elim) ?_
  show Ev _ _ _ 0 0 [(0, .ref 7), (1, .int q), (2, .int v)] [] _
  refine ev_iload_n 1 dX3_setPrice_0 rfl rfl ?_
  exact ev_tS1 (x3_nKind _ h) kX3_needKind g631 rfl rfl dX3_setPrice_1 rfl (Nat.le_of_ble_eq_true rfl) ⟨rfl, rfl⟩
set_option maxHeartbeats 1000000 in
theorem x3_setPrice_2 (P : Nat → va_E) (t cs sl pl ks rr : Nat → Int32) (n b : Nat) (sv : Nat → Nat) (sf τ : Nat → Int32) (T : Nat → Nat → Int32) (g : PW) {k : Nat} (hk : k < 6) {v : Int32} (h : inB v (nI 1) (nI 500) = false) : Ct mX3_setPrice [.ref 7, .int (nI k), .int v] (hv P t cs sl pl ks rr n b sv sf τ T g) (fun _ _ => False) (pX "java/lang/IllegalArgumentException" (hv P t cs sl pl ks rr n b sv sf τ T g)) := by
  refine ct_of 2 kX3_setPrice.1 rfl (Nat.le_of_ble_eq_true rfl) (fun v u h => h.elim) ?_
  show Ev _ _ _ 0 0 [(0, .ref 7), (1, .int (nI k)), (2, .int v)] [] _
  refine ev_iload_n 1 dX3_setPrice_0 rfl rfl ?_
  refine ev_kS1v (c3_nKind _ (by omega)) kX3_needKind g631 rfl rfl dX3_setPrice_1 ?_
  refine ev_iload_n 2 dX3_setPrice_4 rfl rfl ?_
  refine ev_iconst (nI 1) dX3_setPrice_5 rfl ?_
  refine ev_sipush (nI 500) dX3_setPrice_6 rfl ?_
  exact ev_tS3 (x3_nRange _ h) kX3_needRange g697 rfl rfl dX3_setPrice_9 rfl (Nat.le_of_ble_eq_true rfl) ⟨rfl, rfl⟩
set_option maxHeartbeats 1000000 in
theorem c3_setPrice (P : Nat → va_E) (t cs sl pl ks rr : Nat → Int32) (n b : Nat) (sv : Nat → Nat) (sf τ : Nat → Int32) (T : Nat → Nat → Int32) (g : PW) {k : Nat} (hk : k < 6) {v : Int32} (hr : inB v (nI 1) (nI 500) = true) (hn : n ≤ 6) (hp : PM b sv) (hB : BF τ) (hK : HK τ) : Ct mX3_setPrice [.ref 7, .int (nI k), .int v] (hv P t cs sl pl ks rr n b sv sf τ T g) (d1 (some (.int (lkF (upd τ (k) v) 8))) (hv P t cs sl pl ks rr (sN9 n) (sB9 n sv) (sS9 n b sv) sf (lookN (upd τ (k) v) 8) (updT T b τ) g)) nx := by
  refine ct_of 2 kX3_setPrice.1 rfl (Nat.le_of_ble_eq_true rfl) (fun v u h => by obtain ⟨rfl, rfl⟩ := h; exact rfl) ?_
  show Ev _ _ _ 0 0 [(0, .ref 7), (1, .int (nI k)), (2, .int v)] [] _
  refine ev_iload_n 1 dX3_setPrice_0 rfl rfl ?_
  refine ev_kS1v (c3_nKind _ (by omega)) kX3_needKind g631 rfl rfl dX3_setPrice_1 ?_
  refine ev_iload_n 2 dX3_setPrice_4 rfl rfl ?_
  refine ev_iconst (nI 1) dX3_setPrice_5 rfl ?_
  refine ev_sipush (nI 500) dX3_setPrice_6 rfl ?_
  refine ev_kS3v (c3_nRange _ hr) kX3_needRange g697 rfl rfl dX3_setPrice_9 ?_
  refine ev_aload_n 0 dX3_setPrice_12 rfl rfl ?_
  refine ev_cV0v (c3_save _ _ _ _ _ _ _ _ _ _ _ _ _ _ hn hp hB) kX3_save rfl g288 rfl rfl rfl rfl dX3_setPrice_13 ?_
  refine ev_aload_n 0 dX3_setPrice_16 rfl rfl ?_
  refine ev_getfield 7 dX3_setPrice_17 foX3_41 rfl rfl ?_
  refine ev_iload_n 1 dX3_setPrice_20 rfl rfl ?_
  refine ev_iload_n 2 dX3_setPrice_21 rfl rfl ?_
  refine ev_cV2 (c0_putPrice _ _ _ _ _ _ _ hk v hK) kX0_putPrice rfl g715 rfl rfl rfl rfl dX3_setPrice_22 ?_
  exact ev_ireturn dX3_setPrice_25 (Nat.le_of_ble_eq_true rfl) ⟨rfl, rfl⟩
set_option maxHeartbeats 1000000 in
theorem x3_setCut_1 (P : Nat → va_E) (t cs sl pl ks rr : Nat → Int32) (n b : Nat) (sv : Nat → Nat) (sf τ : Nat → Int32) (T : Nat → Nat → Int32) (g : PW) {q : Int32} (v : Int32) (h : inB q (nI 0) (nI 5) = false) : Ct mX3_setCut [.ref 7, .int q, .int v] (hv P t cs sl pl ks rr n b sv sf τ T g) (fun _ _ => False) (pX "java/lang/IndexOutOfBoundsException" (hv P t cs sl pl ks rr n b sv sf τ T g)) := by
  refine ct_of 2 kX3_setCut.1 rfl (Nat.le_of_ble_eq_true rfl) (fun v u h => h.elim) ?_
  show Ev _ _ _ 0 0 [(0, .ref 7), (1, .int q), (2, .int v)] [] _
  refine ev_iload_n 1 dX3_setCut_0 rfl rfl ?_
  exact ev_tS1 (x3_nKind _ h) kX3_needKind g631 rfl rfl dX3_setCut_1 rfl (Nat.le_of_ble_eq_true rfl) ⟨rfl, rfl⟩
set_option maxHeartbeats 1000000 in
theorem x3_setCut_2 (P : Nat → va_E) (t cs sl pl ks rr : Nat → Int32) (n b : Nat) (sv : Nat → Nat) (sf τ : Nat → Int32) (T : Nat → Nat → Int32) (g : PW) {k : Nat} (hk : k < 6) {v : Int32} (h : inB v (nI 0) (nI 90) = false) : Ct mX3_setCut [.ref 7, .int (nI k), .int v] (hv P t cs sl pl ks rr n b sv sf τ T g) (fun _ _ => False) (pX "java/lang/IllegalArgumentException" (hv P t cs sl pl ks rr n b sv sf τ T g)) := by
  refine ct_of 2 kX3_setCut.1 rfl (Nat.le_of_ble_eq_true rfl) (fun v u h => h.elim) ?_
  show Ev _ _ _ 0 0 [(0, .ref 7), (1, .int (nI k)), (2, .int v)] [] _
  refine ev_iload_n 1 dX3_setCut_0 rfl rfl ?_
  refine ev_kS1v (c3_nKind _ (by omega)) kX3_needKind g631 rfl rfl dX3_setCut_1 ?_
  refine ev_iload_n 2 dX3_setCut_4 rfl rfl ?_
  refine ev_iconst (nI 0) dX3_setCut_5 rfl ?_
  refine ev_bipush (nI 90) dX3_setCut_6 rfl ?_
  exact ev_tS3 (x3_nRange _ h) kX3_needRange g697 rfl rfl dX3_setCut_8 rfl (Nat.le_of_ble_eq_true rfl) ⟨rfl, rfl⟩
set_option maxHeartbeats 1000000 in
theorem c3_setCut (P : Nat → va_E) (t cs sl pl ks rr : Nat → Int32) (n b : Nat) (sv : Nat → Nat) (sf τ : Nat → Int32) (T : Nat → Nat → Int32) (g : PW) {k : Nat} (hk : k < 6) {v : Int32} (hr : inB v (nI 0) (nI 90) = true) (hn : n ≤ 6) (hp : PM b sv) (hB : BF τ) (hK : HK τ) : Ct mX3_setCut [.ref 7, .int (nI k), .int v] (hv P t cs sl pl ks rr n b sv sf τ T g) (d1 (some (.int (lkF (upd τ (6 + k) v) 8))) (hv P t cs sl pl ks rr (sN9 n) (sB9 n sv) (sS9 n b sv) sf (lookN (upd τ (6 + k) v) 8) (updT T b τ) g)) nx := by
  refine ct_of 2 kX3_setCut.1 rfl (Nat.le_of_ble_eq_true rfl) (fun v u h => by obtain ⟨rfl, rfl⟩ := h; exact rfl) ?_
  show Ev _ _ _ 0 0 [(0, .ref 7), (1, .int (nI k)), (2, .int v)] [] _
  refine ev_iload_n 1 dX3_setCut_0 rfl rfl ?_
  refine ev_kS1v (c3_nKind _ (by omega)) kX3_needKind g631 rfl rfl dX3_setCut_1 ?_
  refine ev_iload_n 2 dX3_setCut_4 rfl rfl ?_
  refine ev_iconst (nI 0) dX3_setCut_5 rfl ?_
  refine ev_bipush (nI 90) dX3_setCut_6 rfl ?_
  refine ev_kS3v (c3_nRange _ hr) kX3_needRange g697 rfl rfl dX3_setCut_8 ?_
  refine ev_aload_n 0 dX3_setCut_11 rfl rfl ?_
  refine ev_cV0v (c3_save _ _ _ _ _ _ _ _ _ _ _ _ _ _ hn hp hB) kX3_save rfl g288 rfl rfl rfl rfl dX3_setCut_12 ?_
  refine ev_aload_n 0 dX3_setCut_15 rfl rfl ?_
  refine ev_getfield 7 dX3_setCut_16 foX3_41 rfl rfl ?_
  refine ev_iload_n 1 dX3_setCut_19 rfl rfl ?_
  refine ev_iload_n 2 dX3_setCut_20 rfl rfl ?_
  refine ev_cV2 (c0_putCut _ _ _ _ _ _ _ hk v hK) kX0_putCut rfl g730 rfl rfl rfl rfl dX3_setCut_21 ?_
  exact ev_ireturn dX3_setCut_24 (Nat.le_of_ble_eq_true rfl) ⟨rfl, rfl⟩
set_option maxHeartbeats 1000000 in
theorem x3_fall_1 (P : Nat → va_E) (t cs sl pl ks rr : Nat → Int32) (n b : Nat) (sv : Nat → Nat) (sf τ : Nat → Int32) (T : Nat → Nat → Int32) (g : PW) {v : Int32} (h : inB v (nI 1) (nI 90) = false) : Ct mX3_fall [.ref 7, .int v] (hv P t cs sl pl ks rr n b sv sf τ T g) (fun _ _ => False) (pX "java/lang/IllegalArgumentException" (hv P t cs sl pl ks rr n b sv sf τ T g)) := by
  refine ct_of 1 kX3_fall.1 rfl (Nat.le_of_ble_eq_true rfl) (fun v u h => h.elim) ?_
  show Ev _ _ _ 0 0 [(0, .ref 7), (1, .int v)] [] _
  refine ev_iload_n 1 dX3_fall_0 rfl rfl ?_
  refine ev_iconst (nI 1) dX3_fall_1 rfl ?_
  refine ev_bipush (nI 90) dX3_fall_2 rfl ?_
  exact ev_tS3 (x3_nRange _ h) kX3_needRange g697 rfl rfl dX3_fall_4 rfl (Nat.le_of_ble_eq_true rfl) ⟨rfl, rfl⟩
set_option maxHeartbeats 1000000 in
theorem c3_fall (P : Nat → va_E) (t cs sl pl ks rr : Nat → Int32) (n b : Nat) (sv : Nat → Nat) (sf τ : Nat → Int32) (T : Nat → Nat → Int32) (g : PW) {v : Int32} (hr : inB v (nI 1) (nI 90) = true) (hn : n ≤ 6) (hp : PM b sv) (hB : BF τ) (hK : HK τ) : Ct mX3_fall [.ref 7, .int v] (hv P t cs sl pl ks rr n b sv sf τ T g) (d1 (some (.int (lkF (drpN τ v 6) 8))) (hv P t cs sl pl ks rr (sN9 n) (sB9 n sv) (sS9 n b sv) sf (lookN (drpN τ v 6) 8) (updT T b τ) g)) nx := by
  refine ct_of 1 kX3_fall.1 rfl (Nat.le_of_ble_eq_true rfl) (fun v u h => by obtain ⟨rfl, rfl⟩ := h; exact rfl) ?_
  show Ev _ _ _ 0 0 [(0, .ref 7), (1, .int v)] [] _
  refine ev_iload_n 1 dX3_fall_0 rfl rfl ?_
  refine ev_iconst (nI 1) dX3_fall_1 rfl ?_
  refine ev_bipush (nI 90) dX3_fall_2 rfl ?_
  refine ev_kS3v (c3_nRange _ hr) kX3_needRange g697 rfl rfl dX3_fall_4 ?_
  refine ev_aload_n 0 dX3_fall_7 rfl rfl ?_
  refine ev_cV0v (c3_save _ _ _ _ _ _ _ _ _ _ _ _ _ _ hn hp hB) kX3_save rfl g288 rfl rfl rfl rfl dX3_fall_8 ?_
  refine ev_aload_n 0 dX3_fall_11 rfl rfl ?_
  refine ev_getfield 7 dX3_fall_12 foX3_41 rfl rfl ?_
  refine ev_iload_n 1 dX3_fall_15 rfl rfl ?_
  refine ev_cV1 (c0_dropPrices _ _ _ _ _ _ _ v hK) kX0_dropPrices rfl g741 rfl rfl rfl rfl dX3_fall_16 ?_
  exact ev_ireturn dX3_fall_19 (Nat.le_of_ble_eq_true rfl) ⟨rfl, rfl⟩
set_option maxHeartbeats 1000000 in
theorem x3_pledge_1 (P : Nat → va_E) (t cs sl pl ks rr : Nat → Int32) (n b : Nat) (sv : Nat → Nat) (sf τ : Nat → Int32) (T : Nat → Nat → Int32) (g : PW) {p : Int32} (q m : Int32) (h : inB p (nI 0) (nI 7) = false) : Ct mX3_pledge [.ref 7, .int p, .int q, .int m] (hv P t cs sl pl ks rr n b sv sf τ T g) (fun _ _ => False) (pX "java/lang/IndexOutOfBoundsException" (hv P t cs sl pl ks rr n b sv sf τ T g)) := by
  refine ct_of 3 kX3_pledge.1 rfl (Nat.le_of_ble_eq_true rfl) (fun v u h => h.elim) ?_
  show Ev _ _ _ 0 0 [(0, .ref 7), (1, .int p), (2, .int q), (3, .int m)] [] _
  refine ev_iload_n 1 dX3_pledge_0 rfl rfl ?_
  exact ev_tS1 (x3_nClient _ h) kX3_needClient g753 rfl rfl dX3_pledge_1 rfl (Nat.le_of_ble_eq_true rfl) ⟨rfl, rfl⟩
set_option maxHeartbeats 1000000 in
theorem x3_pledge_1k (P : Nat → va_E) (t cs sl pl ks rr : Nat → Int32) (n b : Nat) (sv : Nat → Nat) (sf τ : Nat → Int32) (T : Nat → Nat → Int32) (g : PW) {c : Nat} (hc : c < 8) {q : Int32} (m : Int32) (h : inB q (nI 0) (nI 5) = false) : Ct mX3_pledge [.ref 7, .int (nI c), .int q, .int m] (hv P t cs sl pl ks rr n b sv sf τ T g) (fun _ _ => False) (pX "java/lang/IndexOutOfBoundsException" (hv P t cs sl pl ks rr n b sv sf τ T g)) := by
  refine ct_of 3 kX3_pledge.1 rfl (Nat.le_of_ble_eq_true rfl) (fun v u h => h.elim) ?_
  show Ev _ _ _ 0 0 [(0, .ref 7), (1, .int (nI c)), (2, .int q), (3, .int m)] [] _
  refine ev_iload_n 1 dX3_pledge_0 rfl rfl ?_
  refine ev_kS1v (c3_nClient _ (by omega)) kX3_needClient g753 rfl rfl dX3_pledge_1 ?_
  refine ev_iload_n 2 dX3_pledge_4 rfl rfl ?_
  exact ev_tS1 (x3_nKind _ h) kX3_needKind g631 rfl rfl dX3_pledge_5 rfl (Nat.le_of_ble_eq_true rfl) ⟨rfl, rfl⟩
set_option maxHeartbeats 1000000 in
theorem x3_pledge_2 (P : Nat → va_E) (t cs sl pl ks rr : Nat → Int32) (n b : Nat) (sv : Nat → Nat) (sf τ : Nat → Int32) (T : Nat → Nat → Int32) (g : PW) {c : Nat} (hc : c < 8) {k : Nat} (hk : k < 6) {m : Int32} (h : inB m (nI 1) (nI 50) = false) : Ct mX3_pledge [.ref 7, .int (nI c), .int (nI k), .int m] (hv P t cs sl pl ks rr n b sv sf τ T g) (fun _ _ => False) (pX "java/lang/IllegalArgumentException" (hv P t cs sl pl ks rr n b sv sf τ T g)) := by
  refine ct_of 3 kX3_pledge.1 rfl (Nat.le_of_ble_eq_true rfl) (fun v u h => h.elim) ?_
  show Ev _ _ _ 0 0 [(0, .ref 7), (1, .int (nI c)), (2, .int (nI k)), (3, .int m)] [] _
  refine ev_iload_n 1 dX3_pledge_0 rfl rfl ?_
  refine ev_kS1v (c3_nClient _ (by omega)) kX3_needClient g753 rfl rfl dX3_pledge_1 ?_
  refine ev_iload_n 2 dX3_pledge_4 rfl rfl ?_
  refine ev_kS1v (c3_nKind _ (by omega)) kX3_needKind g631 rfl rfl dX3_pledge_5 ?_
  refine ev_iload_n 3 dX3_pledge_8 rfl rfl ?_
  refine ev_iconst (nI 1) dX3_pledge_9 rfl ?_
  refine ev_bipush (nI 50) dX3_pledge_10 rfl ?_
  exact ev_tS3 (x3_nRange _ h) kX3_needRange g697 rfl rfl dX3_pledge_12 rfl (Nat.le_of_ble_eq_true rfl) ⟨rfl, rfl⟩
set_option maxHeartbeats 1000000 in
theorem x3_pledge_3a (P : Nat → va_E) (t cs sl pl ks rr : Nat → Int32) (n b : Nat) (sv : Nat → Nat) (sf τ : Nat → Int32) (T : Nat → Nat → Int32) (g : PW) {c : Nat} (hc : c < 8) {k : Nat} (hk : k < 6) {m : Int32} (hr : inB m (nI 1) (nI 50) = true) (h : ¬ τ (ix c k) + m ≤ nI 99) (hp : PM b sv) (hB : BF τ) : Ct mX3_pledge [.ref 7, .int (nI c), .int (nI k), .int m] (hv P t cs sl pl ks rr n b sv sf τ T g) (fun _ _ => False) (pX "java/lang/IllegalStateException" (hv P t cs sl pl ks rr n b sv sf τ (updT T b τ) g)) := by
  refine ct_of 3 kX3_pledge.1 rfl (Nat.le_of_ble_eq_true rfl) (fun v u h => h.elim) ?_
  show Ev _ _ _ 0 0 [(0, .ref 7), (1, .int (nI c)), (2, .int (nI k)), (3, .int m)] [] _
  refine ev_iload_n 1 dX3_pledge_0 rfl rfl ?_
  refine ev_kS1v (c3_nClient _ (by omega)) kX3_needClient g753 rfl rfl dX3_pledge_1 ?_
  refine ev_iload_n 2 dX3_pledge_4 rfl rfl ?_
  refine ev_kS1v (c3_nKind _ (by omega)) kX3_needKind g631 rfl rfl dX3_pledge_5 ?_
  refine ev_iload_n 3 dX3_pledge_8 rfl rfl ?_
  refine ev_iconst (nI 1) dX3_pledge_9 rfl ?_
  refine ev_bipush (nI 50) dX3_pledge_10 rfl ?_
  refine ev_kS3v (c3_nRange _ hr) kX3_needRange g697 rfl rfl dX3_pledge_12 ?_
  refine ev_aload_n 0 dX3_pledge_15 rfl rfl ?_
  refine ev_getfield 8 dX3_pledge_16 foX3_45 rfl rfl ?_
  refine ev_aload_n 0 dX3_pledge_19 rfl rfl ?_
  refine ev_getfield 7 dX3_pledge_20 foX3_41 rfl rfl ?_
  refine ev_cV1v (c3_cpa _ _ _ _ _ _ _ _ _ _ _ _ _ _ hp.2.1 (by have := hp.1; omega) hB) kX0_copyFrom rfl g292 rfl (hv_g0 _ _ _ _ _ _ _ _ _ _ _ _ _ _ hp.2.1) rfl rfl dX3_pledge_23 ?_
  refine ev_aload_n 0 dX3_pledge_26 rfl rfl ?_
  refine ev_getfield 7 dX3_pledge_27 foX3_41 rfl rfl ?_
  refine ev_iload_n 1 dX3_pledge_30 rfl rfl ?_
  refine ev_iload_n 2 dX3_pledge_31 rfl rfl ?_
  refine ev_iload_n 3 dX3_pledge_32 rfl rfl ?_
  refine ev_cV3 (c0_addPieces_0 _ _ _ _ _ _ _ hc hk h) kX0_addPieces rfl g756 rfl rfl rfl rfl dX3_pledge_33 ?_
  exact ev_tS1 (x3_need _ rfl) kX3_need g760 rfl rfl dX3_pledge_36 rfl (Nat.le_of_ble_eq_true rfl) ⟨rfl, rfl⟩
set_option maxHeartbeats 1000000 in
theorem c3_pledge (P : Nat → va_E) (t cs sl pl ks rr : Nat → Int32) (n b : Nat) (sv : Nat → Nat) (sf τ : Nat → Int32) (T : Nat → Nat → Int32) (g : PW) {c : Nat} (hc : c < 8) {k : Nat} (hk : k < 6) {m : Int32} (hr : inB m (nI 1) (nI 50) = true) (h : τ (ix c k) + m ≤ nI 99) (hn : n ≤ 6) (hp : PM b sv) (hB : BF τ) (hK : HK τ) : Ct mX3_pledge [.ref 7, .int (nI c), .int (nI k), .int m] (hv P t cs sl pl ks rr n b sv sf τ T g) (d1 (some (.int ((lookN (upd τ (ix c k) (τ (ix c k) + m)) 8) (ix c k)))) (hv P t cs sl pl ks rr (sN9 n) (sB9 n sv) (sS9 n b sv) sf (lookN (upd τ (ix c k) (τ (ix c k) + m)) 8) (updT T b τ) g)) nx := by
  refine ct_of 3 kX3_pledge.1 rfl (Nat.le_of_ble_eq_true rfl) (fun v u h => by obtain ⟨rfl, rfl⟩ := h; exact rfl) ?_
  show Ev _ _ _ 0 0 [(0, .ref 7), (1, .int (nI c)), (2, .int (nI k)), (3, .int m)] [] _
  refine ev_iload_n 1 dX3_pledge_0 rfl rfl ?_
  refine ev_kS1v (c3_nClient _ (by omega)) kX3_needClient g753 rfl rfl dX3_pledge_1 ?_
  refine ev_iload_n 2 dX3_pledge_4 rfl rfl ?_
  refine ev_kS1v (c3_nKind _ (by omega)) kX3_needKind g631 rfl rfl dX3_pledge_5 ?_
  refine ev_iload_n 3 dX3_pledge_8 rfl rfl ?_
  refine ev_iconst (nI 1) dX3_pledge_9 rfl ?_
  refine ev_bipush (nI 50) dX3_pledge_10 rfl ?_
  refine ev_kS3v (c3_nRange _ hr) kX3_needRange g697 rfl rfl dX3_pledge_12 ?_
  refine ev_aload_n 0 dX3_pledge_15 rfl rfl ?_
  refine ev_getfield 8 dX3_pledge_16 foX3_45 rfl rfl ?_
  refine ev_aload_n 0 dX3_pledge_19 rfl rfl ?_
  refine ev_getfield 7 dX3_pledge_20 foX3_41 rfl rfl ?_
  refine ev_cV1v (c3_cpa _ _ _ _ _ _ _ _ _ _ _ _ _ _ hp.2.1 (by have := hp.1; omega) hB) kX0_copyFrom rfl g292 rfl (hv_g0 _ _ _ _ _ _ _ _ _ _ _ _ _ _ hp.2.1) rfl rfl dX3_pledge_23 ?_
  refine ev_aload_n 0 dX3_pledge_26 rfl rfl ?_
  refine ev_getfield 7 dX3_pledge_27 foX3_41 rfl rfl ?_
  refine ev_iload_n 1 dX3_pledge_30 rfl rfl ?_
  refine ev_iload_n 2 dX3_pledge_31 rfl rfl ?_
  refine ev_iload_n 3 dX3_pledge_32 rfl rfl ?_
  refine ev_cV3 (c0_addPieces_1 _ _ _ _ _ _ _ hc hk h hK) kX0_addPieces rfl g756 rfl rfl rfl rfl dX3_pledge_33 ?_
  refine ev_kS1v (c3_need _ (by decide)) kX3_need g760 rfl rfl dX3_pledge_36 ?_
  refine ev_aload_n 0 dX3_pledge_39 rfl rfl ?_
  refine ev_cV0v (c3_saveBefore _ _ _ _ _ _ _ _ _ _ _ _ _ _ hn hp) kX3_saveBefore rfl g299 rfl rfl rfl rfl dX3_pledge_40 ?_
  refine ev_aload_n 0 dX3_pledge_43 rfl rfl ?_
  refine ev_getfield 7 dX3_pledge_44 foX3_41 rfl rfl ?_
  refine ev_getfield 3 dX3_pledge_47 foX3_88 rfl rfl ?_
  refine ev_iload_n 1 dX3_pledge_50 rfl rfl ?_
  refine ev_iload_n 2 dX3_pledge_51 rfl rfl ?_
  refine ev_cS2 (c3_at _ _ _) kX3_at rfl g515 rfl rfl dX3_pledge_52 ?_
  refine ev_ild (c * 6 + k) dX3_pledge_55 rfl (by simp only [nI_m, nI_add, ix, oI]) (by omega) rfl ?_
  refine ev_top ((lookN (upd τ (ix c k) (τ (ix c k) + m)) 8) (ix c k)) (pc6 hk) ?_
  exact ev_ireturn dX3_pledge_56 (Nat.le_of_ble_eq_true rfl) ⟨rfl, rfl⟩
set_option maxHeartbeats 1000000 in
theorem x3_release_1 (P : Nat → va_E) (t cs sl pl ks rr : Nat → Int32) (n b : Nat) (sv : Nat → Nat) (sf τ : Nat → Int32) (T : Nat → Nat → Int32) (g : PW) {p : Int32} (q m : Int32) (h : inB p (nI 0) (nI 7) = false) : Ct mX3_release [.ref 7, .int p, .int q, .int m] (hv P t cs sl pl ks rr n b sv sf τ T g) (fun _ _ => False) (pX "java/lang/IndexOutOfBoundsException" (hv P t cs sl pl ks rr n b sv sf τ T g)) := by
  refine ct_of 3 kX3_release.1 rfl (Nat.le_of_ble_eq_true rfl) (fun v u h => h.elim) ?_
  show Ev _ _ _ 0 0 [(0, .ref 7), (1, .int p), (2, .int q), (3, .int m)] [] _
  refine ev_iload_n 1 dX3_release_0 rfl rfl ?_
  exact ev_tS1 (x3_nClient _ h) kX3_needClient g753 rfl rfl dX3_release_1 rfl (Nat.le_of_ble_eq_true rfl) ⟨rfl, rfl⟩
set_option maxHeartbeats 1000000 in
theorem x3_release_1k (P : Nat → va_E) (t cs sl pl ks rr : Nat → Int32) (n b : Nat) (sv : Nat → Nat) (sf τ : Nat → Int32) (T : Nat → Nat → Int32) (g : PW) {c : Nat} (hc : c < 8) {q : Int32} (m : Int32) (h : inB q (nI 0) (nI 5) = false) : Ct mX3_release [.ref 7, .int (nI c), .int q, .int m] (hv P t cs sl pl ks rr n b sv sf τ T g) (fun _ _ => False) (pX "java/lang/IndexOutOfBoundsException" (hv P t cs sl pl ks rr n b sv sf τ T g)) := by
  refine ct_of 3 kX3_release.1 rfl (Nat.le_of_ble_eq_true rfl) (fun v u h => h.elim) ?_
  show Ev _ _ _ 0 0 [(0, .ref 7), (1, .int (nI c)), (2, .int q), (3, .int m)] [] _
  refine ev_iload_n 1 dX3_release_0 rfl rfl ?_
  refine ev_kS1v (c3_nClient _ (by omega)) kX3_needClient g753 rfl rfl dX3_release_1 ?_
  refine ev_iload_n 2 dX3_release_4 rfl rfl ?_
  exact ev_tS1 (x3_nKind _ h) kX3_needKind g631 rfl rfl dX3_release_5 rfl (Nat.le_of_ble_eq_true rfl) ⟨rfl, rfl⟩
set_option maxHeartbeats 1000000 in
theorem x3_release_2 (P : Nat → va_E) (t cs sl pl ks rr : Nat → Int32) (n b : Nat) (sv : Nat → Nat) (sf τ : Nat → Int32) (T : Nat → Nat → Int32) (g : PW) {c : Nat} (hc : c < 8) {k : Nat} (hk : k < 6) {m : Int32} (h : inB m (nI 1) (nI 50) = false) : Ct mX3_release [.ref 7, .int (nI c), .int (nI k), .int m] (hv P t cs sl pl ks rr n b sv sf τ T g) (fun _ _ => False) (pX "java/lang/IllegalArgumentException" (hv P t cs sl pl ks rr n b sv sf τ T g)) := by
  refine ct_of 3 kX3_release.1 rfl (Nat.le_of_ble_eq_true rfl) (fun v u h => h.elim) ?_
  show Ev _ _ _ 0 0 [(0, .ref 7), (1, .int (nI c)), (2, .int (nI k)), (3, .int m)] [] _
  refine ev_iload_n 1 dX3_release_0 rfl rfl ?_
  refine ev_kS1v (c3_nClient _ (by omega)) kX3_needClient g753 rfl rfl dX3_release_1 ?_
  refine ev_iload_n 2 dX3_release_4 rfl rfl ?_
  refine ev_kS1v (c3_nKind _ (by omega)) kX3_needKind g631 rfl rfl dX3_release_5 ?_
  refine ev_iload_n 3 dX3_release_8 rfl rfl ?_
  refine ev_iconst (nI 1) dX3_release_9 rfl ?_
  refine ev_bipush (nI 50) dX3_release_10 rfl ?_
  exact ev_tS3 (x3_nRange _ h) kX3_needRange g697 rfl rfl dX3_release_12 rfl (Nat.le_of_ble_eq_true rfl) ⟨rfl, rfl⟩
set_option maxHeartbeats 1000000 in
theorem x3_release_3a (P : Nat → va_E) (t cs sl pl ks rr : Nat → Int32) (n b : Nat) (sv : Nat → Nat) (sf τ : Nat → Int32) (T : Nat → Nat → Int32) (g : PW) {c : Nat} (hc : c < 8) {k : Nat} (hk : k < 6) {m : Int32} (hr : inB m (nI 1) (nI 50) = true) (h : ¬ m ≤ τ (ix c k)) (hp : PM b sv) (hB : BF τ) : Ct mX3_release [.ref 7, .int (nI c), .int (nI k), .int m] (hv P t cs sl pl ks rr n b sv sf τ T g) (fun _ _ => False) (pX "java/lang/IllegalStateException" (hv P t cs sl pl ks rr n b sv sf τ (updT T b τ) g)) := by
  refine ct_of 3 kX3_release.1 rfl (Nat.le_of_ble_eq_true rfl) (fun v u h => h.elim) ?_
  show Ev _ _ _ 0 0 [(0, .ref 7), (1, .int (nI c)), (2, .int (nI k)), (3, .int m)] [] _
  refine ev_iload_n 1 dX3_release_0 rfl rfl ?_
  refine ev_kS1v (c3_nClient _ (by omega)) kX3_needClient g753 rfl rfl dX3_release_1 ?_
  refine ev_iload_n 2 dX3_release_4 rfl rfl ?_
  refine ev_kS1v (c3_nKind _ (by omega)) kX3_needKind g631 rfl rfl dX3_release_5 ?_
  refine ev_iload_n 3 dX3_release_8 rfl rfl ?_
  refine ev_iconst (nI 1) dX3_release_9 rfl ?_
  refine ev_bipush (nI 50) dX3_release_10 rfl ?_
  refine ev_kS3v (c3_nRange _ hr) kX3_needRange g697 rfl rfl dX3_release_12 ?_
  refine ev_aload_n 0 dX3_release_15 rfl rfl ?_
  refine ev_getfield 8 dX3_release_16 foX3_45 rfl rfl ?_
  refine ev_aload_n 0 dX3_release_19 rfl rfl ?_
  refine ev_getfield 7 dX3_release_20 foX3_41 rfl rfl ?_
  refine ev_cV1v (c3_cpa _ _ _ _ _ _ _ _ _ _ _ _ _ _ hp.2.1 (by have := hp.1; omega) hB) kX0_copyFrom rfl g292 rfl (hv_g0 _ _ _ _ _ _ _ _ _ _ _ _ _ _ hp.2.1) rfl rfl dX3_release_23 ?_
  refine ev_aload_n 0 dX3_release_26 rfl rfl ?_
  refine ev_getfield 7 dX3_release_27 foX3_41 rfl rfl ?_
  refine ev_iload_n 1 dX3_release_30 rfl rfl ?_
  refine ev_iload_n 2 dX3_release_31 rfl rfl ?_
  refine ev_iload_n 3 dX3_release_32 rfl rfl ?_
  refine ev_cV3 (c0_takePieces_0 _ _ _ _ _ _ _ hc hk h) kX0_takePieces rfl g785 rfl rfl rfl rfl dX3_release_33 ?_
  exact ev_tS1 (x3_need _ rfl) kX3_need g760 rfl rfl dX3_release_36 rfl (Nat.le_of_ble_eq_true rfl) ⟨rfl, rfl⟩
set_option maxHeartbeats 1000000 in
theorem x3_release_3b (P : Nat → va_E) (t cs sl pl ks rr : Nat → Int32) (n b : Nat) (sv : Nat → Nat) (sf τ : Nat → Int32) (T : Nat → Nat → Int32) (g : PW) {c : Nat} (hc : c < 8) {k : Nat} (hk : k < 6) {m : Int32} (hr : inB m (nI 1) (nI 50) = true) (h : m ≤ τ (ix c k)) (h2 : ¬ τ (ix c 7) ≤ covI (canTk τ c k m) c (nI 0) (nI 1)) (hp : PM b sv) (hB : BF τ) : Ct mX3_release [.ref 7, .int (nI c), .int (nI k), .int m] (hv P t cs sl pl ks rr n b sv sf τ T g) (fun _ _ => False) (pX "java/lang/IllegalStateException" (hv P t cs sl pl ks rr n b sv sf τ (updT T b τ) g)) := by
  refine ct_of 3 kX3_release.1 rfl (Nat.le_of_ble_eq_true rfl) (fun v u h => h.elim) ?_
  show Ev _ _ _ 0 0 [(0, .ref 7), (1, .int (nI c)), (2, .int (nI k)), (3, .int m)] [] _
  refine ev_iload_n 1 dX3_release_0 rfl rfl ?_
  refine ev_kS1v (c3_nClient _ (by omega)) kX3_needClient g753 rfl rfl dX3_release_1 ?_
  refine ev_iload_n 2 dX3_release_4 rfl rfl ?_
  refine ev_kS1v (c3_nKind _ (by omega)) kX3_needKind g631 rfl rfl dX3_release_5 ?_
  refine ev_iload_n 3 dX3_release_8 rfl rfl ?_
  refine ev_iconst (nI 1) dX3_release_9 rfl ?_
  refine ev_bipush (nI 50) dX3_release_10 rfl ?_
  refine ev_kS3v (c3_nRange _ hr) kX3_needRange g697 rfl rfl dX3_release_12 ?_
  refine ev_aload_n 0 dX3_release_15 rfl rfl ?_
  refine ev_getfield 8 dX3_release_16 foX3_45 rfl rfl ?_
  refine ev_aload_n 0 dX3_release_19 rfl rfl ?_
  refine ev_getfield 7 dX3_release_20 foX3_41 rfl rfl ?_
  refine ev_cV1v (c3_cpa _ _ _ _ _ _ _ _ _ _ _ _ _ _ hp.2.1 (by have := hp.1; omega) hB) kX0_copyFrom rfl g292 rfl (hv_g0 _ _ _ _ _ _ _ _ _ _ _ _ _ _ hp.2.1) rfl rfl dX3_release_23 ?_
  refine ev_aload_n 0 dX3_release_26 rfl rfl ?_
  refine ev_getfield 7 dX3_release_27 foX3_41 rfl rfl ?_
  refine ev_iload_n 1 dX3_release_30 rfl rfl ?_
  refine ev_iload_n 2 dX3_release_31 rfl rfl ?_
  refine ev_iload_n 3 dX3_release_32 rfl rfl ?_
  refine ev_cV3 (c0_takePieces_2 _ _ _ _ _ _ _ hc hk h h2) kX0_takePieces rfl g785 rfl rfl rfl rfl dX3_release_33 ?_
  exact ev_tS1 (x3_need _ rfl) kX3_need g760 rfl rfl dX3_release_36 rfl (Nat.le_of_ble_eq_true rfl) ⟨rfl, rfl⟩
set_option maxHeartbeats 1000000 in
theorem c3_release (P : Nat → va_E) (t cs sl pl ks rr : Nat → Int32) (n b : Nat) (sv : Nat → Nat) (sf τ : Nat → Int32) (T : Nat → Nat → Int32) (g : PW) {c : Nat} (hc : c < 8) {k : Nat} (hk : k < 6) {m : Int32} (hr : inB m (nI 1) (nI 50) = true) (h : m ≤ τ (ix c k)) (h2 : τ (ix c 7) ≤ covI (canTk τ c k m) c (nI 0) (nI 1)) (hn : n ≤ 6) (hp : PM b sv) (hB : BF τ) (hK : HK τ) : Ct mX3_release [.ref 7, .int (nI c), .int (nI k), .int m] (hv P t cs sl pl ks rr n b sv sf τ T g) (d1 (some (.int ((lookN (canTk τ c k m) 8) (ix c k)))) (hv P t cs sl pl ks rr (sN9 n) (sB9 n sv) (sS9 n b sv) sf (lookN (canTk τ c k m) 8) (updT T b τ) g)) nx := by
  refine ct_of 3 kX3_release.1 rfl (Nat.le_of_ble_eq_true rfl) (fun v u h => by obtain ⟨rfl, rfl⟩ := h; exact rfl) ?_
  show Ev _ _ _ 0 0 [(0, .ref 7), (1, .int (nI c)), (2, .int (nI k)), (3, .int m)] [] _
  refine ev_iload_n 1 dX3_release_0 rfl rfl ?_
  refine ev_kS1v (c3_nClient _ (by omega)) kX3_needClient g753 rfl rfl dX3_release_1 ?_
  refine ev_iload_n 2 dX3_release_4 rfl rfl ?_
  refine ev_kS1v (c3_nKind _ (by omega)) kX3_needKind g631 rfl rfl dX3_release_5 ?_
  refine ev_iload_n 3 dX3_release_8 rfl rfl ?_
  refine ev_iconst (nI 1) dX3_release_9 rfl ?_
  refine ev_bipush (nI 50) dX3_release_10 rfl ?_
  refine ev_kS3v (c3_nRange _ hr) kX3_needRange g697 rfl rfl dX3_release_12 ?_
  refine ev_aload_n 0 dX3_release_15 rfl rfl ?_
  refine ev_getfield 8 dX3_release_16 foX3_45 rfl rfl ?_
  refine ev_aload_n 0 dX3_release_19 rfl rfl ?_
  refine ev_getfield 7 dX3_release_20 foX3_41 rfl rfl ?_
  refine ev_cV1v (c3_cpa _ _ _ _ _ _ _ _ _ _ _ _ _ _ hp.2.1 (by have := hp.1; omega) hB) kX0_copyFrom rfl g292 rfl (hv_g0 _ _ _ _ _ _ _ _ _ _ _ _ _ _ hp.2.1) rfl rfl dX3_release_23 ?_
  refine ev_aload_n 0 dX3_release_26 rfl rfl ?_
  refine ev_getfield 7 dX3_release_27 foX3_41 rfl rfl ?_
  refine ev_iload_n 1 dX3_release_30 rfl rfl ?_
  refine ev_iload_n 2 dX3_release_31 rfl rfl ?_
  refine ev_iload_n 3 dX3_release_32 rfl rfl ?_
  refine ev_cV3 (c0_takePieces_1 _ _ _ _ _ _ _ hc hk h h2 hK) kX0_takePieces rfl g785 rfl rfl rfl rfl dX3_release_33 ?_
  refine ev_kS1v (c3_need _ (by decide)) kX3_need g760 rfl rfl dX3_release_36 ?_
  refine ev_aload_n 0 dX3_release_39 rfl rfl ?_
  refine ev_cV0v (c3_saveBefore _ _ _ _ _ _ _ _ _ _ _ _ _ _ hn hp) kX3_saveBefore rfl g299 rfl rfl rfl rfl dX3_release_40 ?_
  refine ev_aload_n 0 dX3_release_43 rfl rfl ?_
  refine ev_getfield 7 dX3_release_44 foX3_41 rfl rfl ?_
  refine ev_getfield 3 dX3_release_47 foX3_88 rfl rfl ?_
  refine ev_iload_n 1 dX3_release_50 rfl rfl ?_
  refine ev_iload_n 2 dX3_release_51 rfl rfl ?_
  refine ev_cS2 (c3_at _ _ _) kX3_at rfl g515 rfl rfl dX3_release_52 ?_
  refine ev_ild (c * 6 + k) dX3_release_55 rfl (by simp only [nI_m, nI_add, ix, oI]) (by omega) rfl ?_
  refine ev_top ((lookN (canTk τ c k m) 8) (ix c k)) (pc6 hk) ?_
  exact ev_ireturn dX3_release_56 (Nat.le_of_ble_eq_true rfl) ⟨rfl, rfl⟩
set_option maxHeartbeats 1000000 in
theorem x3_deposit_1 (P : Nat → va_E) (t cs sl pl ks rr : Nat → Int32) (n b : Nat) (sv : Nat → Nat) (sf τ : Nat → Int32) (T : Nat → Nat → Int32) (g : PW) {p : Int32} (m : Int32) (h : inB p (nI 0) (nI 7) = false) : Ct mX3_deposit [.ref 7, .int p, .int m] (hv P t cs sl pl ks rr n b sv sf τ T g) (fun _ _ => False) (pX "java/lang/IndexOutOfBoundsException" (hv P t cs sl pl ks rr n b sv sf τ T g)) := by
  refine ct_of 2 kX3_deposit.1 rfl (Nat.le_of_ble_eq_true rfl) (fun v u h => h.elim) ?_
  show Ev _ _ _ 0 0 [(0, .ref 7), (1, .int p), (2, .int m)] [] _
  refine ev_iload_n 1 dX3_deposit_0 rfl rfl ?_
  exact ev_tS1 (x3_nClient _ h) kX3_needClient g753 rfl rfl dX3_deposit_1 rfl (Nat.le_of_ble_eq_true rfl) ⟨rfl, rfl⟩
set_option maxHeartbeats 1000000 in
theorem x3_deposit_2 (P : Nat → va_E) (t cs sl pl ks rr : Nat → Int32) (n b : Nat) (sv : Nat → Nat) (sf τ : Nat → Int32) (T : Nat → Nat → Int32) (g : PW) {c : Nat} (hc : c < 8) {m : Int32} (h : inB m (nI 1) (nI 9999) = false) : Ct mX3_deposit [.ref 7, .int (nI c), .int m] (hv P t cs sl pl ks rr n b sv sf τ T g) (fun _ _ => False) (pX "java/lang/IllegalArgumentException" (hv P t cs sl pl ks rr n b sv sf τ T g)) := by
  refine ct_of 2 kX3_deposit.1 rfl (Nat.le_of_ble_eq_true rfl) (fun v u h => h.elim) ?_
  show Ev _ _ _ 0 0 [(0, .ref 7), (1, .int (nI c)), (2, .int m)] [] _
  refine ev_iload_n 1 dX3_deposit_0 rfl rfl ?_
  refine ev_kS1v (c3_nClient _ (by omega)) kX3_needClient g753 rfl rfl dX3_deposit_1 ?_
  refine ev_iload_n 2 dX3_deposit_4 rfl rfl ?_
  refine ev_iconst (nI 1) dX3_deposit_5 rfl ?_
  refine ev_sipush (nI 9999) dX3_deposit_6 rfl ?_
  exact ev_tS3 (x3_nRange _ h) kX3_needRange g697 rfl rfl dX3_deposit_9 rfl (Nat.le_of_ble_eq_true rfl) ⟨rfl, rfl⟩
set_option maxHeartbeats 1000000 in
theorem x3_deposit_3a (P : Nat → va_E) (t cs sl pl ks rr : Nat → Int32) (n b : Nat) (sv : Nat → Nat) (sf τ : Nat → Int32) (T : Nat → Nat → Int32) (g : PW) {c : Nat} (hc : c < 8) {m : Int32} (hr : inB m (nI 1) (nI 9999) = true) (h : ¬ τ (ix c 6) + m ≤ nI 99999) (hp : PM b sv) (hB : BF τ) : Ct mX3_deposit [.ref 7, .int (nI c), .int m] (hv P t cs sl pl ks rr n b sv sf τ T g) (fun _ _ => False) (pX "java/lang/IllegalStateException" (hv P t cs sl pl ks rr n b sv sf τ (updT T b τ) g)) := by
  refine ct_of 2 kX3_deposit.1 rfl (Nat.le_of_ble_eq_true rfl) (fun v u h => h.elim) ?_
  show Ev _ _ _ 0 0 [(0, .ref 7), (1, .int (nI c)), (2, .int m)] [] _
  refine ev_iload_n 1 dX3_deposit_0 rfl rfl ?_
  refine ev_kS1v (c3_nClient _ (by omega)) kX3_needClient g753 rfl rfl dX3_deposit_1 ?_
  refine ev_iload_n 2 dX3_deposit_4 rfl rfl ?_
  refine ev_iconst (nI 1) dX3_deposit_5 rfl ?_
  refine ev_sipush (nI 9999) dX3_deposit_6 rfl ?_
  refine ev_kS3v (c3_nRange _ hr) kX3_needRange g697 rfl rfl dX3_deposit_9 ?_
  refine ev_aload_n 0 dX3_deposit_12 rfl rfl ?_
  refine ev_getfield 8 dX3_deposit_13 foX3_45 rfl rfl ?_
  refine ev_aload_n 0 dX3_deposit_16 rfl rfl ?_
  refine ev_getfield 7 dX3_deposit_17 foX3_41 rfl rfl ?_
  refine ev_cV1v (c3_cpa _ _ _ _ _ _ _ _ _ _ _ _ _ _ hp.2.1 (by have := hp.1; omega) hB) kX0_copyFrom rfl g292 rfl (hv_g0 _ _ _ _ _ _ _ _ _ _ _ _ _ _ hp.2.1) rfl rfl dX3_deposit_20 ?_
  refine ev_aload_n 0 dX3_deposit_23 rfl rfl ?_
  refine ev_getfield 7 dX3_deposit_24 foX3_41 rfl rfl ?_
  refine ev_iload_n 1 dX3_deposit_27 rfl rfl ?_
  refine ev_iload_n 2 dX3_deposit_28 rfl rfl ?_
  refine ev_cV2 (c0_addCoins_0 _ _ _ _ _ _ _ hc h) kX0_addCoins rfl g796 rfl rfl rfl rfl dX3_deposit_29 ?_
  exact ev_tS1 (x3_need _ rfl) kX3_need g760 rfl rfl dX3_deposit_32 rfl (Nat.le_of_ble_eq_true rfl) ⟨rfl, rfl⟩
set_option maxHeartbeats 1000000 in
theorem c3_deposit (P : Nat → va_E) (t cs sl pl ks rr : Nat → Int32) (n b : Nat) (sv : Nat → Nat) (sf τ : Nat → Int32) (T : Nat → Nat → Int32) (g : PW) {c : Nat} (hc : c < 8) {m : Int32} (hr : inB m (nI 1) (nI 9999) = true) (h : τ (ix c 6) + m ≤ nI 99999) (hn : n ≤ 6) (hp : PM b sv) (hB : BF τ) (hK : HK τ) : Ct mX3_deposit [.ref 7, .int (nI c), .int m] (hv P t cs sl pl ks rr n b sv sf τ T g) (d1 (some (.int ((lookN (upd τ (ix c 6) (τ (ix c 6) + m)) 8) (ix c 6)))) (hv P t cs sl pl ks rr (sN9 n) (sB9 n sv) (sS9 n b sv) sf (lookN (upd τ (ix c 6) (τ (ix c 6) + m)) 8) (updT T b τ) g)) nx := by
  refine ct_of 2 kX3_deposit.1 rfl (Nat.le_of_ble_eq_true rfl) (fun v u h => by obtain ⟨rfl, rfl⟩ := h; exact rfl) ?_
  show Ev _ _ _ 0 0 [(0, .ref 7), (1, .int (nI c)), (2, .int m)] [] _
  refine ev_iload_n 1 dX3_deposit_0 rfl rfl ?_
  refine ev_kS1v (c3_nClient _ (by omega)) kX3_needClient g753 rfl rfl dX3_deposit_1 ?_
  refine ev_iload_n 2 dX3_deposit_4 rfl rfl ?_
  refine ev_iconst (nI 1) dX3_deposit_5 rfl ?_
  refine ev_sipush (nI 9999) dX3_deposit_6 rfl ?_
  refine ev_kS3v (c3_nRange _ hr) kX3_needRange g697 rfl rfl dX3_deposit_9 ?_
  refine ev_aload_n 0 dX3_deposit_12 rfl rfl ?_
  refine ev_getfield 8 dX3_deposit_13 foX3_45 rfl rfl ?_
  refine ev_aload_n 0 dX3_deposit_16 rfl rfl ?_
  refine ev_getfield 7 dX3_deposit_17 foX3_41 rfl rfl ?_
  refine ev_cV1v (c3_cpa _ _ _ _ _ _ _ _ _ _ _ _ _ _ hp.2.1 (by have := hp.1; omega) hB) kX0_copyFrom rfl g292 rfl (hv_g0 _ _ _ _ _ _ _ _ _ _ _ _ _ _ hp.2.1) rfl rfl dX3_deposit_20 ?_
  refine ev_aload_n 0 dX3_deposit_23 rfl rfl ?_
  refine ev_getfield 7 dX3_deposit_24 foX3_41 rfl rfl ?_
  refine ev_iload_n 1 dX3_deposit_27 rfl rfl ?_
  refine ev_iload_n 2 dX3_deposit_28 rfl rfl ?_
  refine ev_cV2 (c0_addCoins_1 _ _ _ _ _ _ _ hc h hK) kX0_addCoins rfl g796 rfl rfl rfl rfl dX3_deposit_29 ?_
  refine ev_kS1v (c3_need _ (by decide)) kX3_need g760 rfl rfl dX3_deposit_32 ?_
  refine ev_aload_n 0 dX3_deposit_35 rfl rfl ?_
  refine ev_cV0v (c3_saveBefore _ _ _ _ _ _ _ _ _ _ _ _ _ _ hn hp) kX3_saveBefore rfl g299 rfl rfl rfl rfl dX3_deposit_36 ?_
  refine ev_aload_n 0 dX3_deposit_39 rfl rfl ?_
  refine ev_getfield 7 dX3_deposit_40 foX3_41 rfl rfl ?_
  refine ev_getfield 4 dX3_deposit_43 foX3_101 rfl rfl ?_
  refine ev_iload_n 1 dX3_deposit_46 rfl rfl ?_
  refine ev_ild (c) dX3_deposit_47 rfl (by simp only [nI_m, nI_add, ix, oI]) (by omega) rfl ?_
  exact ev_ireturn dX3_deposit_48 (Nat.le_of_ble_eq_true rfl) ⟨rfl, rfl⟩
set_option maxHeartbeats 1000000 in
theorem x3_withdraw_1 (P : Nat → va_E) (t cs sl pl ks rr : Nat → Int32) (n b : Nat) (sv : Nat → Nat) (sf τ : Nat → Int32) (T : Nat → Nat → Int32) (g : PW) {p : Int32} (m : Int32) (h : inB p (nI 0) (nI 7) = false) : Ct mX3_withdraw [.ref 7, .int p, .int m] (hv P t cs sl pl ks rr n b sv sf τ T g) (fun _ _ => False) (pX "java/lang/IndexOutOfBoundsException" (hv P t cs sl pl ks rr n b sv sf τ T g)) := by
  refine ct_of 2 kX3_withdraw.1 rfl (Nat.le_of_ble_eq_true rfl) (fun v u h => h.elim) ?_
  show Ev _ _ _ 0 0 [(0, .ref 7), (1, .int p), (2, .int m)] [] _
  refine ev_iload_n 1 dX3_withdraw_0 rfl rfl ?_
  exact ev_tS1 (x3_nClient _ h) kX3_needClient g753 rfl rfl dX3_withdraw_1 rfl (Nat.le_of_ble_eq_true rfl) ⟨rfl, rfl⟩
set_option maxHeartbeats 1000000 in
theorem x3_withdraw_2 (P : Nat → va_E) (t cs sl pl ks rr : Nat → Int32) (n b : Nat) (sv : Nat → Nat) (sf τ : Nat → Int32) (T : Nat → Nat → Int32) (g : PW) {c : Nat} (hc : c < 8) {m : Int32} (h : inB m (nI 1) (nI 9999) = false) : Ct mX3_withdraw [.ref 7, .int (nI c), .int m] (hv P t cs sl pl ks rr n b sv sf τ T g) (fun _ _ => False) (pX "java/lang/IllegalArgumentException" (hv P t cs sl pl ks rr n b sv sf τ T g)) := by
  refine ct_of 2 kX3_withdraw.1 rfl (Nat.le_of_ble_eq_true rfl) (fun v u h => h.elim) ?_
  show Ev _ _ _ 0 0 [(0, .ref 7), (1, .int (nI c)), (2, .int m)] [] _
  refine ev_iload_n 1 dX3_withdraw_0 rfl rfl ?_
  refine ev_kS1v (c3_nClient _ (by omega)) kX3_needClient g753 rfl rfl dX3_withdraw_1 ?_
  refine ev_iload_n 2 dX3_withdraw_4 rfl rfl ?_
  refine ev_iconst (nI 1) dX3_withdraw_5 rfl ?_
  refine ev_sipush (nI 9999) dX3_withdraw_6 rfl ?_
  exact ev_tS3 (x3_nRange _ h) kX3_needRange g697 rfl rfl dX3_withdraw_9 rfl (Nat.le_of_ble_eq_true rfl) ⟨rfl, rfl⟩
set_option maxHeartbeats 1000000 in
theorem x3_withdraw_3a (P : Nat → va_E) (t cs sl pl ks rr : Nat → Int32) (n b : Nat) (sv : Nat → Nat) (sf τ : Nat → Int32) (T : Nat → Nat → Int32) (g : PW) {c : Nat} (hc : c < 8) {m : Int32} (hr : inB m (nI 1) (nI 9999) = true) (h : τ (ix c 6) < m) (hp : PM b sv) (hB : BF τ) : Ct mX3_withdraw [.ref 7, .int (nI c), .int m] (hv P t cs sl pl ks rr n b sv sf τ T g) (fun _ _ => False) (pX "java/lang/IllegalStateException" (hv P t cs sl pl ks rr n b sv sf τ (updT T b τ) g)) := by
  refine ct_of 2 kX3_withdraw.1 rfl (Nat.le_of_ble_eq_true rfl) (fun v u h => h.elim) ?_
  show Ev _ _ _ 0 0 [(0, .ref 7), (1, .int (nI c)), (2, .int m)] [] _
  refine ev_iload_n 1 dX3_withdraw_0 rfl rfl ?_
  refine ev_kS1v (c3_nClient _ (by omega)) kX3_needClient g753 rfl rfl dX3_withdraw_1 ?_
  refine ev_iload_n 2 dX3_withdraw_4 rfl rfl ?_
  refine ev_iconst (nI 1) dX3_withdraw_5 rfl ?_
  refine ev_sipush (nI 9999) dX3_withdraw_6 rfl ?_
  refine ev_kS3v (c3_nRange _ hr) kX3_needRange g697 rfl rfl dX3_withdraw_9 ?_
  refine ev_aload_n 0 dX3_withdraw_12 rfl rfl ?_
  refine ev_getfield 8 dX3_withdraw_13 foX3_45 rfl rfl ?_
  refine ev_aload_n 0 dX3_withdraw_16 rfl rfl ?_
  refine ev_getfield 7 dX3_withdraw_17 foX3_41 rfl rfl ?_
  refine ev_cV1v (c3_cpa _ _ _ _ _ _ _ _ _ _ _ _ _ _ hp.2.1 (by have := hp.1; omega) hB) kX0_copyFrom rfl g292 rfl (hv_g0 _ _ _ _ _ _ _ _ _ _ _ _ _ _ hp.2.1) rfl rfl dX3_withdraw_20 ?_
  refine ev_aload_n 0 dX3_withdraw_23 rfl rfl ?_
  refine ev_getfield 7 dX3_withdraw_24 foX3_41 rfl rfl ?_
  refine ev_iload_n 1 dX3_withdraw_27 rfl rfl ?_
  refine ev_iload_n 2 dX3_withdraw_28 rfl rfl ?_
  refine ev_cV2 (c0_takeCoins_0 _ _ _ _ _ _ _ hc h) kX0_takeCoins rfl g808 rfl rfl rfl rfl dX3_withdraw_29 ?_
  exact ev_tS1 (x3_need _ rfl) kX3_need g760 rfl rfl dX3_withdraw_32 rfl (Nat.le_of_ble_eq_true rfl) ⟨rfl, rfl⟩
set_option maxHeartbeats 1000000 in
theorem x3_withdraw_3b (P : Nat → va_E) (t cs sl pl ks rr : Nat → Int32) (n b : Nat) (sv : Nat → Nat) (sf τ : Nat → Int32) (T : Nat → Nat → Int32) (g : PW) {c : Nat} (hc : c < 8) {m : Int32} (hr : inB m (nI 1) (nI 9999) = true) (h : ¬ τ (ix c 6) < m) (h2 : ¬ τ (ix c 7) ≤ covI τ c (nI 0) (nI 1) - m) (hp : PM b sv) (hB : BF τ) : Ct mX3_withdraw [.ref 7, .int (nI c), .int m] (hv P t cs sl pl ks rr n b sv sf τ T g) (fun _ _ => False) (pX "java/lang/IllegalStateException" (hv P t cs sl pl ks rr n b sv sf τ (updT T b τ) g)) := by
  refine ct_of 2 kX3_withdraw.1 rfl (Nat.le_of_ble_eq_true rfl) (fun v u h => h.elim) ?_
  show Ev _ _ _ 0 0 [(0, .ref 7), (1, .int (nI c)), (2, .int m)] [] _
  refine ev_iload_n 1 dX3_withdraw_0 rfl rfl ?_
  refine ev_kS1v (c3_nClient _ (by omega)) kX3_needClient g753 rfl rfl dX3_withdraw_1 ?_
  refine ev_iload_n 2 dX3_withdraw_4 rfl rfl ?_
  refine ev_iconst (nI 1) dX3_withdraw_5 rfl ?_
  refine ev_sipush (nI 9999) dX3_withdraw_6 rfl ?_
  refine ev_kS3v (c3_nRange _ hr) kX3_needRange g697 rfl rfl dX3_withdraw_9 ?_
  refine ev_aload_n 0 dX3_withdraw_12 rfl rfl ?_
  refine ev_getfield 8 dX3_withdraw_13 foX3_45 rfl rfl ?_
  refine ev_aload_n 0 dX3_withdraw_16 rfl rfl ?_
  refine ev_getfield 7 dX3_withdraw_17 foX3_41 rfl rfl ?_
  refine ev_cV1v (c3_cpa _ _ _ _ _ _ _ _ _ _ _ _ _ _ hp.2.1 (by have := hp.1; omega) hB) kX0_copyFrom rfl g292 rfl (hv_g0 _ _ _ _ _ _ _ _ _ _ _ _ _ _ hp.2.1) rfl rfl dX3_withdraw_20 ?_
  refine ev_aload_n 0 dX3_withdraw_23 rfl rfl ?_
  refine ev_getfield 7 dX3_withdraw_24 foX3_41 rfl rfl ?_
  refine ev_iload_n 1 dX3_withdraw_27 rfl rfl ?_
  refine ev_iload_n 2 dX3_withdraw_28 rfl rfl ?_
  refine ev_cV2 (c0_takeCoins_2 _ _ _ _ _ _ _ hc h h2) kX0_takeCoins rfl g808 rfl rfl rfl rfl dX3_withdraw_29 ?_
  exact ev_tS1 (x3_need _ rfl) kX3_need g760 rfl rfl dX3_withdraw_32 rfl (Nat.le_of_ble_eq_true rfl) ⟨rfl, rfl⟩
set_option maxHeartbeats 1000000 in
theorem c3_withdraw (P : Nat → va_E) (t cs sl pl ks rr : Nat → Int32) (n b : Nat) (sv : Nat → Nat) (sf τ : Nat → Int32) (T : Nat → Nat → Int32) (g : PW) {c : Nat} (hc : c < 8) {m : Int32} (hr : inB m (nI 1) (nI 9999) = true) (h : ¬ τ (ix c 6) < m) (h2 : τ (ix c 7) ≤ covI τ c (nI 0) (nI 1) - m) (hn : n ≤ 6) (hp : PM b sv) (hB : BF τ) (hK : HK τ) : Ct mX3_withdraw [.ref 7, .int (nI c), .int m] (hv P t cs sl pl ks rr n b sv sf τ T g) (d1 (some (.int ((lookN (canTk τ c 6 m) 8) (ix c 6)))) (hv P t cs sl pl ks rr (sN9 n) (sB9 n sv) (sS9 n b sv) sf (lookN (canTk τ c 6 m) 8) (updT T b τ) g)) nx := by
  refine ct_of 2 kX3_withdraw.1 rfl (Nat.le_of_ble_eq_true rfl) (fun v u h => by obtain ⟨rfl, rfl⟩ := h; exact rfl) ?_
  show Ev _ _ _ 0 0 [(0, .ref 7), (1, .int (nI c)), (2, .int m)] [] _
  refine ev_iload_n 1 dX3_withdraw_0 rfl rfl ?_
  refine ev_kS1v (c3_nClient _ (by omega)) kX3_needClient g753 rfl rfl dX3_withdraw_1 ?_
  refine ev_iload_n 2 dX3_withdraw_4 rfl rfl ?_
  refine ev_iconst (nI 1) dX3_withdraw_5 rfl ?_
  refine ev_sipush (nI 9999) dX3_withdraw_6 rfl ?_
  refine ev_kS3v (c3_nRange _ hr) kX3_needRange g697 rfl rfl dX3_withdraw_9 ?_
  refine ev_aload_n 0 dX3_withdraw_12 rfl rfl ?_
  refine ev_getfield 8 dX3_withdraw_13 foX3_45 rfl rfl ?_
  refine ev_aload_n 0 dX3_withdraw_16 rfl rfl ?_
  refine ev_getfield 7 dX3_withdraw_17 foX3_41 rfl rfl ?_
  refine ev_cV1v (c3_cpa _ _ _ _ _ _ _ _ _ _ _ _ _ _ hp.2.1 (by have := hp.1; omega) hB) kX0_copyFrom rfl g292 rfl (hv_g0 _ _ _ _ _ _ _ _ _ _ _ _ _ _ hp.2.1) rfl rfl dX3_withdraw_20 ?_
  refine ev_aload_n 0 dX3_withdraw_23 rfl rfl ?_
  refine ev_getfield 7 dX3_withdraw_24 foX3_41 rfl rfl ?_
  refine ev_iload_n 1 dX3_withdraw_27 rfl rfl ?_
  refine ev_iload_n 2 dX3_withdraw_28 rfl rfl ?_
  refine ev_cV2 (c0_takeCoins_1 _ _ _ _ _ _ _ hc h h2 hK) kX0_takeCoins rfl g808 rfl rfl rfl rfl dX3_withdraw_29 ?_
  refine ev_kS1v (c3_need _ (by decide)) kX3_need g760 rfl rfl dX3_withdraw_32 ?_
  refine ev_aload_n 0 dX3_withdraw_35 rfl rfl ?_
  refine ev_cV0v (c3_saveBefore _ _ _ _ _ _ _ _ _ _ _ _ _ _ hn hp) kX3_saveBefore rfl g299 rfl rfl rfl rfl dX3_withdraw_36 ?_
  refine ev_aload_n 0 dX3_withdraw_39 rfl rfl ?_
  refine ev_getfield 7 dX3_withdraw_40 foX3_41 rfl rfl ?_
  refine ev_getfield 4 dX3_withdraw_43 foX3_101 rfl rfl ?_
  refine ev_iload_n 1 dX3_withdraw_46 rfl rfl ?_
  refine ev_ild (c) dX3_withdraw_47 rfl (by simp only [nI_m, nI_add, ix, oI]) (by omega) rfl ?_
  exact ev_ireturn dX3_withdraw_48 (Nat.le_of_ble_eq_true rfl) ⟨rfl, rfl⟩
set_option maxHeartbeats 1000000 in
theorem x3_lend_1 (P : Nat → va_E) (t cs sl pl ks rr : Nat → Int32) (n b : Nat) (sv : Nat → Nat) (sf τ : Nat → Int32) (T : Nat → Nat → Int32) (g : PW) {p : Int32} (m : Int32) (h : inB p (nI 0) (nI 7) = false) : Ct mX3_lend [.ref 7, .int p, .int m] (hv P t cs sl pl ks rr n b sv sf τ T g) (fun _ _ => False) (pX "java/lang/IndexOutOfBoundsException" (hv P t cs sl pl ks rr n b sv sf τ T g)) := by
  refine ct_of 2 kX3_lend.1 rfl (Nat.le_of_ble_eq_true rfl) (fun v u h => h.elim) ?_
  show Ev _ _ _ 0 0 [(0, .ref 7), (1, .int p), (2, .int m)] [] _
  refine ev_iload_n 1 dX3_lend_0 rfl rfl ?_
  exact ev_tS1 (x3_nClient _ h) kX3_needClient g753 rfl rfl dX3_lend_1 rfl (Nat.le_of_ble_eq_true rfl) ⟨rfl, rfl⟩
set_option maxHeartbeats 1000000 in
theorem x3_lend_2 (P : Nat → va_E) (t cs sl pl ks rr : Nat → Int32) (n b : Nat) (sv : Nat → Nat) (sf τ : Nat → Int32) (T : Nat → Nat → Int32) (g : PW) {c : Nat} (hc : c < 8) {m : Int32} (h : inB m (nI 1) (nI 9999) = false) : Ct mX3_lend [.ref 7, .int (nI c), .int m] (hv P t cs sl pl ks rr n b sv sf τ T g) (fun _ _ => False) (pX "java/lang/IllegalArgumentException" (hv P t cs sl pl ks rr n b sv sf τ T g)) := by
  refine ct_of 2 kX3_lend.1 rfl (Nat.le_of_ble_eq_true rfl) (fun v u h => h.elim) ?_
  show Ev _ _ _ 0 0 [(0, .ref 7), (1, .int (nI c)), (2, .int m)] [] _
  refine ev_iload_n 1 dX3_lend_0 rfl rfl ?_
  refine ev_kS1v (c3_nClient _ (by omega)) kX3_needClient g753 rfl rfl dX3_lend_1 ?_
  refine ev_iload_n 2 dX3_lend_4 rfl rfl ?_
  refine ev_iconst (nI 1) dX3_lend_5 rfl ?_
  refine ev_sipush (nI 9999) dX3_lend_6 rfl ?_
  exact ev_tS3 (x3_nRange _ h) kX3_needRange g697 rfl rfl dX3_lend_9 rfl (Nat.le_of_ble_eq_true rfl) ⟨rfl, rfl⟩
set_option maxHeartbeats 1000000 in
theorem x3_lend_3a (P : Nat → va_E) (t cs sl pl ks rr : Nat → Int32) (n b : Nat) (sv : Nat → Nat) (sf τ : Nat → Int32) (T : Nat → Nat → Int32) (g : PW) {c : Nat} (hc : c < 8) {m : Int32} (hr : inB m (nI 1) (nI 9999) = true) (h : ¬ τ (ix c 9) = 0) (hp : PM b sv) (hB : BF τ) : Ct mX3_lend [.ref 7, .int (nI c), .int m] (hv P t cs sl pl ks rr n b sv sf τ T g) (fun _ _ => False) (pX "java/lang/IllegalStateException" (hv P t cs sl pl ks rr n b sv sf τ (updT T b τ) g)) := by
  refine ct_of 2 kX3_lend.1 rfl (Nat.le_of_ble_eq_true rfl) (fun v u h => h.elim) ?_
  show Ev _ _ _ 0 0 [(0, .ref 7), (1, .int (nI c)), (2, .int m)] [] _
  refine ev_iload_n 1 dX3_lend_0 rfl rfl ?_
  refine ev_kS1v (c3_nClient _ (by omega)) kX3_needClient g753 rfl rfl dX3_lend_1 ?_
  refine ev_iload_n 2 dX3_lend_4 rfl rfl ?_
  refine ev_iconst (nI 1) dX3_lend_5 rfl ?_
  refine ev_sipush (nI 9999) dX3_lend_6 rfl ?_
  refine ev_kS3v (c3_nRange _ hr) kX3_needRange g697 rfl rfl dX3_lend_9 ?_
  refine ev_aload_n 0 dX3_lend_12 rfl rfl ?_
  refine ev_getfield 8 dX3_lend_13 foX3_45 rfl rfl ?_
  refine ev_aload_n 0 dX3_lend_16 rfl rfl ?_
  refine ev_getfield 7 dX3_lend_17 foX3_41 rfl rfl ?_
  refine ev_cV1v (c3_cpa _ _ _ _ _ _ _ _ _ _ _ _ _ _ hp.2.1 (by have := hp.1; omega) hB) kX0_copyFrom rfl g292 rfl (hv_g0 _ _ _ _ _ _ _ _ _ _ _ _ _ _ hp.2.1) rfl rfl dX3_lend_20 ?_
  refine ev_aload_n 0 dX3_lend_23 rfl rfl ?_
  refine ev_getfield 7 dX3_lend_24 foX3_41 rfl rfl ?_
  refine ev_iload_n 1 dX3_lend_27 rfl rfl ?_
  refine ev_iload_n 2 dX3_lend_28 rfl rfl ?_
  refine ev_cV2 (c0_addDebt_0 _ _ _ _ _ _ _ hc h) kX0_addDebt rfl g819 rfl rfl rfl rfl dX3_lend_29 ?_
  exact ev_tS1 (x3_need _ rfl) kX3_need g760 rfl rfl dX3_lend_32 rfl (Nat.le_of_ble_eq_true rfl) ⟨rfl, rfl⟩
set_option maxHeartbeats 1000000 in
theorem x3_lend_3b (P : Nat → va_E) (t cs sl pl ks rr : Nat → Int32) (n b : Nat) (sv : Nat → Nat) (sf τ : Nat → Int32) (T : Nat → Nat → Int32) (g : PW) {c : Nat} (hc : c < 8) {m : Int32} (hr : inB m (nI 1) (nI 9999) = true) (h : τ (ix c 9) = 0) (h2 : ¬ τ (ix c 7) + m ≤ covI τ c (nI 0) (nI 1)) (hp : PM b sv) (hB : BF τ) : Ct mX3_lend [.ref 7, .int (nI c), .int m] (hv P t cs sl pl ks rr n b sv sf τ T g) (fun _ _ => False) (pX "java/lang/IllegalStateException" (hv P t cs sl pl ks rr n b sv sf τ (updT T b τ) g)) := by
  refine ct_of 2 kX3_lend.1 rfl (Nat.le_of_ble_eq_true rfl) (fun v u h => h.elim) ?_
  show Ev _ _ _ 0 0 [(0, .ref 7), (1, .int (nI c)), (2, .int m)] [] _
  refine ev_iload_n 1 dX3_lend_0 rfl rfl ?_
  refine ev_kS1v (c3_nClient _ (by omega)) kX3_needClient g753 rfl rfl dX3_lend_1 ?_
  refine ev_iload_n 2 dX3_lend_4 rfl rfl ?_
  refine ev_iconst (nI 1) dX3_lend_5 rfl ?_
  refine ev_sipush (nI 9999) dX3_lend_6 rfl ?_
  refine ev_kS3v (c3_nRange _ hr) kX3_needRange g697 rfl rfl dX3_lend_9 ?_
  refine ev_aload_n 0 dX3_lend_12 rfl rfl ?_
  refine ev_getfield 8 dX3_lend_13 foX3_45 rfl rfl ?_
  refine ev_aload_n 0 dX3_lend_16 rfl rfl ?_
  refine ev_getfield 7 dX3_lend_17 foX3_41 rfl rfl ?_
  refine ev_cV1v (c3_cpa _ _ _ _ _ _ _ _ _ _ _ _ _ _ hp.2.1 (by have := hp.1; omega) hB) kX0_copyFrom rfl g292 rfl (hv_g0 _ _ _ _ _ _ _ _ _ _ _ _ _ _ hp.2.1) rfl rfl dX3_lend_20 ?_
  refine ev_aload_n 0 dX3_lend_23 rfl rfl ?_
  refine ev_getfield 7 dX3_lend_24 foX3_41 rfl rfl ?_
  refine ev_iload_n 1 dX3_lend_27 rfl rfl ?_
  refine ev_iload_n 2 dX3_lend_28 rfl rfl ?_
  refine ev_cV2 (c0_addDebt_2 _ _ _ _ _ _ _ hc h h2) kX0_addDebt rfl g819 rfl rfl rfl rfl dX3_lend_29 ?_
  exact ev_tS1 (x3_need _ rfl) kX3_need g760 rfl rfl dX3_lend_32 rfl (Nat.le_of_ble_eq_true rfl) ⟨rfl, rfl⟩
set_option maxHeartbeats 1000000 in
theorem c3_lend (P : Nat → va_E) (t cs sl pl ks rr : Nat → Int32) (n b : Nat) (sv : Nat → Nat) (sf τ : Nat → Int32) (T : Nat → Nat → Int32) (g : PW) {c : Nat} (hc : c < 8) {m : Int32} (hr : inB m (nI 1) (nI 9999) = true) (h : τ (ix c 9) = 0) (h2 : τ (ix c 7) + m ≤ covI τ c (nI 0) (nI 1)) (hn : n ≤ 6) (hp : PM b sv) (hB : BF τ) (hK : HK τ) : Ct mX3_lend [.ref 7, .int (nI c), .int m] (hv P t cs sl pl ks rr n b sv sf τ T g) (d1 (some (.int ((lookN (lnd3 τ c m) 8) (ix c 7)))) (hv P t cs sl pl ks rr (sN9 n) (sB9 n sv) (sS9 n b sv) sf (lookN (lnd3 τ c m) 8) (updT T b τ) g)) nx := by
  refine ct_of 2 kX3_lend.1 rfl (Nat.le_of_ble_eq_true rfl) (fun v u h => by obtain ⟨rfl, rfl⟩ := h; exact rfl) ?_
  show Ev _ _ _ 0 0 [(0, .ref 7), (1, .int (nI c)), (2, .int m)] [] _
  refine ev_iload_n 1 dX3_lend_0 rfl rfl ?_
  refine ev_kS1v (c3_nClient _ (by omega)) kX3_needClient g753 rfl rfl dX3_lend_1 ?_
  refine ev_iload_n 2 dX3_lend_4 rfl rfl ?_
  refine ev_iconst (nI 1) dX3_lend_5 rfl ?_
  refine ev_sipush (nI 9999) dX3_lend_6 rfl ?_
  refine ev_kS3v (c3_nRange _ hr) kX3_needRange g697 rfl rfl dX3_lend_9 ?_
  refine ev_aload_n 0 dX3_lend_12 rfl rfl ?_
  refine ev_getfield 8 dX3_lend_13 foX3_45 rfl rfl ?_
  refine ev_aload_n 0 dX3_lend_16 rfl rfl ?_
  refine ev_getfield 7 dX3_lend_17 foX3_41 rfl rfl ?_
  refine ev_cV1v (c3_cpa _ _ _ _ _ _ _ _ _ _ _ _ _ _ hp.2.1 (by have := hp.1; omega) hB) kX0_copyFrom rfl g292 rfl (hv_g0 _ _ _ _ _ _ _ _ _ _ _ _ _ _ hp.2.1) rfl rfl dX3_lend_20 ?_
  refine ev_aload_n 0 dX3_lend_23 rfl rfl ?_
  refine ev_getfield 7 dX3_lend_24 foX3_41 rfl rfl ?_
  refine ev_iload_n 1 dX3_lend_27 rfl rfl ?_
  refine ev_iload_n 2 dX3_lend_28 rfl rfl ?_
  refine ev_cV2 (c0_addDebt_1 _ _ _ _ _ _ _ hc h h2 hK) kX0_addDebt rfl g819 rfl rfl rfl rfl dX3_lend_29 ?_
  refine ev_kS1v (c3_need _ (by decide)) kX3_need g760 rfl rfl dX3_lend_32 ?_
  refine ev_aload_n 0 dX3_lend_35 rfl rfl ?_
  refine ev_cV0v (c3_saveBefore _ _ _ _ _ _ _ _ _ _ _ _ _ _ hn hp) kX3_saveBefore rfl g299 rfl rfl rfl rfl dX3_lend_36 ?_
  refine ev_aload_n 0 dX3_lend_39 rfl rfl ?_
  refine ev_getfield 7 dX3_lend_40 foX3_41 rfl rfl ?_
  refine ev_getfield 5 dX3_lend_43 foX3_110 rfl rfl ?_
  refine ev_iload_n 1 dX3_lend_46 rfl rfl ?_
  refine ev_ild (c) dX3_lend_47 rfl (by simp only [nI_m, nI_add, ix, oI]) (by omega) rfl ?_
  exact ev_ireturn dX3_lend_48 (Nat.le_of_ble_eq_true rfl) ⟨rfl, rfl⟩
set_option maxHeartbeats 1000000 in
theorem x3_payBack_1 (P : Nat → va_E) (t cs sl pl ks rr : Nat → Int32) (n b : Nat) (sv : Nat → Nat) (sf τ : Nat → Int32) (T : Nat → Nat → Int32) (g : PW) {p : Int32} (m : Int32) (h : inB p (nI 0) (nI 7) = false) : Ct mX3_payBack [.ref 7, .int p, .int m] (hv P t cs sl pl ks rr n b sv sf τ T g) (fun _ _ => False) (pX "java/lang/IndexOutOfBoundsException" (hv P t cs sl pl ks rr n b sv sf τ T g)) := by
  refine ct_of 2 kX3_payBack.1 rfl (Nat.le_of_ble_eq_true rfl) (fun v u h => h.elim) ?_
  show Ev _ _ _ 0 0 [(0, .ref 7), (1, .int p), (2, .int m)] [] _
  refine ev_iload_n 1 dX3_payBack_0 rfl rfl ?_
  exact ev_tS1 (x3_nClient _ h) kX3_needClient g753 rfl rfl dX3_payBack_1 rfl (Nat.le_of_ble_eq_true rfl) ⟨rfl, rfl⟩
set_option maxHeartbeats 1000000 in
theorem x3_payBack_2 (P : Nat → va_E) (t cs sl pl ks rr : Nat → Int32) (n b : Nat) (sv : Nat → Nat) (sf τ : Nat → Int32) (T : Nat → Nat → Int32) (g : PW) {c : Nat} (hc : c < 8) {m : Int32} (h : inB m (nI 1) (nI 9999) = false) : Ct mX3_payBack [.ref 7, .int (nI c), .int m] (hv P t cs sl pl ks rr n b sv sf τ T g) (fun _ _ => False) (pX "java/lang/IllegalArgumentException" (hv P t cs sl pl ks rr n b sv sf τ T g)) := by
  refine ct_of 2 kX3_payBack.1 rfl (Nat.le_of_ble_eq_true rfl) (fun v u h => h.elim) ?_
  show Ev _ _ _ 0 0 [(0, .ref 7), (1, .int (nI c)), (2, .int m)] [] _
  refine ev_iload_n 1 dX3_payBack_0 rfl rfl ?_
  refine ev_kS1v (c3_nClient _ (by omega)) kX3_needClient g753 rfl rfl dX3_payBack_1 ?_
  refine ev_iload_n 2 dX3_payBack_4 rfl rfl ?_
  refine ev_iconst (nI 1) dX3_payBack_5 rfl ?_
  refine ev_sipush (nI 9999) dX3_payBack_6 rfl ?_
  exact ev_tS3 (x3_nRange _ h) kX3_needRange g697 rfl rfl dX3_payBack_9 rfl (Nat.le_of_ble_eq_true rfl) ⟨rfl, rfl⟩
set_option maxHeartbeats 1000000 in
theorem x3_payBack_3 (P : Nat → va_E) (t cs sl pl ks rr : Nat → Int32) (n b : Nat) (sv : Nat → Nat) (sf τ : Nat → Int32) (T : Nat → Nat → Int32) (g : PW) {c : Nat} (hc : c < 8) {m : Int32} (hr : inB m (nI 1) (nI 9999) = true) (h : τ (ix c 7) = 0) (hp : PM b sv) (hB : BF τ) : Ct mX3_payBack [.ref 7, .int (nI c), .int m] (hv P t cs sl pl ks rr n b sv sf τ T g) (fun _ _ => False) (pX "java/lang/IllegalStateException" (hv P t cs sl pl ks rr n b sv sf τ (updT T b τ) g)) := by
  refine ct_of 2 kX3_payBack.1 rfl (Nat.le_of_ble_eq_true rfl) (fun v u h => h.elim) ?_
  show Ev _ _ _ 0 0 [(0, .ref 7), (1, .int (nI c)), (2, .int m)] [] _
  refine ev_iload_n 1 dX3_payBack_0 rfl rfl ?_
  refine ev_kS1v (c3_nClient _ (by omega)) kX3_needClient g753 rfl rfl dX3_payBack_1 ?_
  refine ev_iload_n 2 dX3_payBack_4 rfl rfl ?_
  refine ev_iconst (nI 1) dX3_payBack_5 rfl ?_
  refine ev_sipush (nI 9999) dX3_payBack_6 rfl ?_
  refine ev_kS3v (c3_nRange _ hr) kX3_needRange g697 rfl rfl dX3_payBack_9 ?_
  refine ev_aload_n 0 dX3_payBack_12 rfl rfl ?_
  refine ev_getfield 8 dX3_payBack_13 foX3_45 rfl rfl ?_
  refine ev_aload_n 0 dX3_payBack_16 rfl rfl ?_
  refine ev_getfield 7 dX3_payBack_17 foX3_41 rfl rfl ?_
  refine ev_cV1v (c3_cpa _ _ _ _ _ _ _ _ _ _ _ _ _ _ hp.2.1 (by have := hp.1; omega) hB) kX0_copyFrom rfl g292 rfl (hv_g0 _ _ _ _ _ _ _ _ _ _ _ _ _ _ hp.2.1) rfl rfl dX3_payBack_20 ?_
  refine ev_aload_n 0 dX3_payBack_23 rfl rfl ?_
  refine ev_getfield 7 dX3_payBack_24 foX3_41 rfl rfl ?_
  refine ev_iload_n 1 dX3_payBack_27 rfl rfl ?_
  refine ev_iload_n 2 dX3_payBack_28 rfl rfl ?_
  refine ev_cV2 (c0_takeDebt_0 _ _ _ _ _ _ _ hc (m := m) h) kX0_takeDebt rfl g830 rfl rfl rfl rfl dX3_payBack_29 ?_
  refine ev_istore_n 3 dX3_payBack_32 rfl (Nat.le_of_ble_eq_true rfl) rfl ?_
  refine ev_iload_n 3 dX3_payBack_33 rfl rfl ?_
  refine ev_iconst (-1) dX3_payBack_34 rfl ?_
  refine ev_icmp_eq 42 dX3_payBack_35 (by decide) (fun h35 => ?_) (fun h35 => absurd rfl h35)
  refine ev_iconst (nI 0) dX3_payBack_42 rfl ?_
  exact ev_tS1 (x3_need _ rfl) kX3_need g760 rfl rfl dX3_payBack_43 rfl (Nat.le_of_ble_eq_true rfl) ⟨rfl, rfl⟩
set_option maxHeartbeats 1000000 in
theorem c3_payBack (P : Nat → va_E) (t cs sl pl ks rr : Nat → Int32) (n b : Nat) (sv : Nat → Nat) (sf τ : Nat → Int32) (T : Nat → Nat → Int32) (g : PW) {c : Nat} (hc : c < 8) {m : Int32} (hr : inB m (nI 1) (nI 9999) = true) (h : ¬ τ (ix c 7) = 0) (hne : ¬ paid τ c m = -1) (hn : n ≤ 6) (hp : PM b sv) (hB : BF τ) (hK : HK τ) : Ct mX3_payBack [.ref 7, .int (nI c), .int m] (hv P t cs sl pl ks rr n b sv sf τ T g) (d1 (some (.int (paid τ c m))) (hv P t cs sl pl ks rr (sN9 n) (sB9 n sv) (sS9 n b sv) sf (lookN (pay3 τ c (paid τ c m)) 8) (updT T b τ) g)) nx := by
  refine ct_of 2 kX3_payBack.1 rfl (Nat.le_of_ble_eq_true rfl) (fun v u h => by obtain ⟨rfl, rfl⟩ := h; exact rfl) ?_
  show Ev _ _ _ 0 0 [(0, .ref 7), (1, .int (nI c)), (2, .int m)] [] _
  refine ev_iload_n 1 dX3_payBack_0 rfl rfl ?_
  refine ev_kS1v (c3_nClient _ (by omega)) kX3_needClient g753 rfl rfl dX3_payBack_1 ?_
  refine ev_iload_n 2 dX3_payBack_4 rfl rfl ?_
  refine ev_iconst (nI 1) dX3_payBack_5 rfl ?_
  refine ev_sipush (nI 9999) dX3_payBack_6 rfl ?_
  refine ev_kS3v (c3_nRange _ hr) kX3_needRange g697 rfl rfl dX3_payBack_9 ?_
  refine ev_aload_n 0 dX3_payBack_12 rfl rfl ?_
  refine ev_getfield 8 dX3_payBack_13 foX3_45 rfl rfl ?_
  refine ev_aload_n 0 dX3_payBack_16 rfl rfl ?_
  refine ev_getfield 7 dX3_payBack_17 foX3_41 rfl rfl ?_
  refine ev_cV1v (c3_cpa _ _ _ _ _ _ _ _ _ _ _ _ _ _ hp.2.1 (by have := hp.1; omega) hB) kX0_copyFrom rfl g292 rfl (hv_g0 _ _ _ _ _ _ _ _ _ _ _ _ _ _ hp.2.1) rfl rfl dX3_payBack_20 ?_
  refine ev_aload_n 0 dX3_payBack_23 rfl rfl ?_
  refine ev_getfield 7 dX3_payBack_24 foX3_41 rfl rfl ?_
  refine ev_iload_n 1 dX3_payBack_27 rfl rfl ?_
  refine ev_iload_n 2 dX3_payBack_28 rfl rfl ?_
  refine ev_cV2 (c0_takeDebt_1 _ _ _ _ _ _ _ hc h hK) kX0_takeDebt rfl g830 rfl rfl rfl rfl dX3_payBack_29 ?_
  refine ev_istore_n 3 dX3_payBack_32 rfl (Nat.le_of_ble_eq_true rfl) rfl ?_
  refine ev_iload_n 3 dX3_payBack_33 rfl rfl ?_
  refine ev_iconst (-1) dX3_payBack_34 rfl ?_
  refine ev_icmp_eq 42 dX3_payBack_35 (by decide) (fun h35 => absurd h35 hne) (fun h35 => ?_)
  refine ev_iconst (nI 1) dX3_payBack_38 rfl ?_
  refine ev_goto 43 dX3_payBack_39 (by decide) ?_
  refine ev_kS1v (c3_need _ (by decide)) kX3_need g760 rfl rfl dX3_payBack_43 ?_
  refine ev_aload_n 0 dX3_payBack_46 rfl rfl ?_
  refine ev_cV0v (c3_saveBefore _ _ _ _ _ _ _ _ _ _ _ _ _ _ hn hp) kX3_saveBefore rfl g299 rfl rfl rfl rfl dX3_payBack_47 ?_
  refine ev_iload_n 3 dX3_payBack_50 rfl rfl ?_
  exact ev_ireturn dX3_payBack_51 (Nat.le_of_ble_eq_true rfl) ⟨rfl, rfl⟩
set_option maxHeartbeats 1000000 in
theorem x3_readmit_1 (P : Nat → va_E) (t cs sl pl ks rr : Nat → Int32) (n b : Nat) (sv : Nat → Nat) (sf τ : Nat → Int32) (T : Nat → Nat → Int32) (g : PW) {p : Int32} (h : inB p (nI 0) (nI 7) = false) : Ct mX3_readmit [.ref 7, .int p] (hv P t cs sl pl ks rr n b sv sf τ T g) (fun _ _ => False) (pX "java/lang/IndexOutOfBoundsException" (hv P t cs sl pl ks rr n b sv sf τ T g)) := by
  refine ct_of 1 kX3_readmit.1 rfl (Nat.le_of_ble_eq_true rfl) (fun v u h => h.elim) ?_
  show Ev _ _ _ 0 0 [(0, .ref 7), (1, .int p)] [] _
  refine ev_iload_n 1 dX3_readmit_0 rfl rfl ?_
  exact ev_tS1 (x3_nClient _ h) kX3_needClient g753 rfl rfl dX3_readmit_1 rfl (Nat.le_of_ble_eq_true rfl) ⟨rfl, rfl⟩
set_option maxHeartbeats 1000000 in
theorem x3_readmit_2 (P : Nat → va_E) (t cs sl pl ks rr : Nat → Int32) (n b : Nat) (sv : Nat → Nat) (sf τ : Nat → Int32) (T : Nat → Nat → Int32) (g : PW) {c : Nat} (hc : c < 8) (h : τ (ix c 9) = 0) (hp : PM b sv) (hB : BF τ) : Ct mX3_readmit [.ref 7, .int (nI c)] (hv P t cs sl pl ks rr n b sv sf τ T g) (fun _ _ => False) (pX "java/lang/IllegalStateException" (hv P t cs sl pl ks rr n b sv sf τ (updT T b τ) g)) := by
  refine ct_of 1 kX3_readmit.1 rfl (Nat.le_of_ble_eq_true rfl) (fun v u h => h.elim) ?_
  show Ev _ _ _ 0 0 [(0, .ref 7), (1, .int (nI c))] [] _
  refine ev_iload_n 1 dX3_readmit_0 rfl rfl ?_
  refine ev_kS1v (c3_nClient _ (by omega)) kX3_needClient g753 rfl rfl dX3_readmit_1 ?_
  refine ev_aload_n 0 dX3_readmit_4 rfl rfl ?_
  refine ev_getfield 8 dX3_readmit_5 foX3_45 rfl rfl ?_
  refine ev_aload_n 0 dX3_readmit_8 rfl rfl ?_
  refine ev_getfield 7 dX3_readmit_9 foX3_41 rfl rfl ?_
  refine ev_cV1v (c3_cpa _ _ _ _ _ _ _ _ _ _ _ _ _ _ hp.2.1 (by have := hp.1; omega) hB) kX0_copyFrom rfl g292 rfl (hv_g0 _ _ _ _ _ _ _ _ _ _ _ _ _ _ hp.2.1) rfl rfl dX3_readmit_12 ?_
  refine ev_aload_n 0 dX3_readmit_15 rfl rfl ?_
  refine ev_getfield 7 dX3_readmit_16 foX3_41 rfl rfl ?_
  refine ev_iload_n 1 dX3_readmit_19 rfl rfl ?_
  refine ev_cV1 (c0_liftBar_0 _ _ _ _ _ _ _ hc h) kX0_liftBar rfl g841 rfl rfl rfl rfl dX3_readmit_20 ?_
  exact ev_tS1 (x3_need _ rfl) kX3_need g760 rfl rfl dX3_readmit_23 rfl (Nat.le_of_ble_eq_true rfl) ⟨rfl, rfl⟩
set_option maxHeartbeats 1000000 in
theorem c3_readmit (P : Nat → va_E) (t cs sl pl ks rr : Nat → Int32) (n b : Nat) (sv : Nat → Nat) (sf τ : Nat → Int32) (T : Nat → Nat → Int32) (g : PW) {c : Nat} (hc : c < 8) (h : ¬ τ (ix c 9) = 0) (hn : n ≤ 6) (hp : PM b sv) (hB : BF τ) (hK : HK τ) : Ct mX3_readmit [.ref 7, .int (nI c)] (hv P t cs sl pl ks rr n b sv sf τ T g) (d1 none (hv P t cs sl pl ks rr (sN9 n) (sB9 n sv) (sS9 n b sv) sf (lookN (upd τ (ix c 9) (nI 0)) 8) (updT T b τ) g)) nx := by
  refine ct_of 1 kX3_readmit.1 rfl (Nat.le_of_ble_eq_true rfl) (fun v u h => by obtain ⟨rfl, rfl⟩ := h; exact trivial) ?_
  show Ev _ _ _ 0 0 [(0, .ref 7), (1, .int (nI c))] [] _
  refine ev_iload_n 1 dX3_readmit_0 rfl rfl ?_
  refine ev_kS1v (c3_nClient _ (by omega)) kX3_needClient g753 rfl rfl dX3_readmit_1 ?_
  refine ev_aload_n 0 dX3_readmit_4 rfl rfl ?_
  refine ev_getfield 8 dX3_readmit_5 foX3_45 rfl rfl ?_
  refine ev_aload_n 0 dX3_readmit_8 rfl rfl ?_
  refine ev_getfield 7 dX3_readmit_9 foX3_41 rfl rfl ?_
  refine ev_cV1v (c3_cpa _ _ _ _ _ _ _ _ _ _ _ _ _ _ hp.2.1 (by have := hp.1; omega) hB) kX0_copyFrom rfl g292 rfl (hv_g0 _ _ _ _ _ _ _ _ _ _ _ _ _ _ hp.2.1) rfl rfl dX3_readmit_12 ?_
  refine ev_aload_n 0 dX3_readmit_15 rfl rfl ?_
  refine ev_getfield 7 dX3_readmit_16 foX3_41 rfl rfl ?_
  refine ev_iload_n 1 dX3_readmit_19 rfl rfl ?_
  refine ev_cV1 (c0_liftBar_1 _ _ _ _ _ _ _ hc h hK) kX0_liftBar rfl g841 rfl rfl rfl rfl dX3_readmit_20 ?_
  refine ev_kS1v (c3_need _ (by decide)) kX3_need g760 rfl rfl dX3_readmit_23 ?_
  refine ev_aload_n 0 dX3_readmit_26 rfl rfl ?_
  refine ev_cV0v (c3_saveBefore _ _ _ _ _ _ _ _ _ _ _ _ _ _ hn hp) kX3_saveBefore rfl g299 rfl rfl rfl rfl dX3_readmit_27 ?_
  exact ev_return dX3_readmit_30 (Nat.le_of_ble_eq_true rfl) ⟨rfl, rfl⟩
set_option maxHeartbeats 1000000 in
theorem x3_pass_1 (P : Nat → va_E) (t cs sl pl ks rr : Nat → Int32) (n b : Nat) (sv : Nat → Nat) (sf τ : Nat → Int32) (T : Nat → Nat → Int32) (g : PW) {v : Int32} (h : inB v (nI 1) (nI 100) = false) : Ct mX3_pass [.ref 7, .int v] (hv P t cs sl pl ks rr n b sv sf τ T g) (fun _ _ => False) (pX "java/lang/IllegalArgumentException" (hv P t cs sl pl ks rr n b sv sf τ T g)) := by
  refine ct_of 1 kX3_pass.1 rfl (Nat.le_of_ble_eq_true rfl) (fun v u h => h.elim) ?_
  show Ev _ _ _ 0 0 [(0, .ref 7), (1, .int v)] [] _
  refine ev_iload_n 1 dX3_pass_0 rfl rfl ?_
  refine ev_iconst (nI 1) dX3_pass_1 rfl ?_
  refine ev_bipush (nI 100) dX3_pass_2 rfl ?_
  exact ev_tS3 (x3_nRange _ h) kX3_needRange g697 rfl rfl dX3_pass_4 rfl (Nat.le_of_ble_eq_true rfl) ⟨rfl, rfl⟩
set_option maxHeartbeats 1000000 in
theorem c3_pass (P : Nat → va_E) (t cs sl pl ks rr : Nat → Int32) (n b : Nat) (sv : Nat → Nat) (sf τ : Nat → Int32) (T : Nat → Nat → Int32) (g : PW) {h : Nat} (hh : h ≤ 100) (hr : inB (nI h) (nI 1) (nI 100) = true) (hI : ∀ j, j < h → PhI (phN (τ, (sl, (pl, ks))) j)) (hL : HK (phN (τ, (sl, (pl, ks))) h).1) (hn : n ≤ 6) (hp : PM b sv) (hB : BF τ) : Ct mX3_pass [.ref 7, .int (nI h)] (hv P t cs sl pl ks rr n b sv sf τ T g) (d1 (some (.int (lookN (phN (τ, (sl, (pl, ks))) h).1 8 108 - τ 108))) (hv P t cs ((phN (τ, (sl, (pl, ks))) h).2.1) ((phN (τ, (sl, (pl, ks))) h).2.2.1) ((phN (τ, (sl, (pl, ks))) h).2.2.2) rr (sN9 n) (sB9 n sv) (sS9 n b sv) sf (lookN (phN (τ, (sl, (pl, ks))) h).1 8) (updT T b τ) g)) nx := by
  refine ct_of 1 kX3_pass.1 rfl (Nat.le_of_ble_eq_true rfl) (fun v u h => by obtain ⟨rfl, rfl⟩ := h; exact rfl) ?_
  show Ev _ _ _ 0 0 [(0, .ref 7), (1, .int (nI h))] [] _
  refine ev_iload_n 1 dX3_pass_0 rfl rfl ?_
  refine ev_iconst (nI 1) dX3_pass_1 rfl ?_
  refine ev_bipush (nI 100) dX3_pass_2 rfl ?_
  refine ev_kS3v (c3_nRange _ hr) kX3_needRange g697 rfl rfl dX3_pass_4 ?_
  refine ev_aload_n 0 dX3_pass_7 rfl rfl ?_
  refine ev_cV0v (c3_save _ _ _ _ _ _ _ _ _ _ _ _ _ _ hn hp hB) kX3_save rfl g288 rfl rfl rfl rfl dX3_pass_8 ?_
  refine ev_aload_n 0 dX3_pass_11 rfl rfl ?_
  refine ev_getfield 7 dX3_pass_12 foX3_41 rfl rfl ?_
  refine ev_iload_n 1 dX3_pass_15 rfl rfl ?_
  refine ev_aload_n 0 dX3_pass_16 rfl rfl ?_
  refine ev_getfield 1 dX3_pass_17 foX3_19 rfl rfl ?_
  refine ev_w (w' := nwq (hpP P t cs (sN9 n) (sB9 n sv) (sS9 n b sv) sf) (τ, (sl, (pl, ks))) rr (hgT (updT T b τ) g)) rfl ?_
  refine ev_cV2 (c0_passHours (hpP P t cs (sN9 n) (sB9 n sv) (sS9 n b sv) sf) (τ, (sl, (pl, ks))) rr (hgT (updT T b τ) g) hh hI hL) kX0_passHours rfl g852 rfl rfl rfl rfl dX3_pass_20 ?_
  refine ev_w (w' := hv P t cs ((phN (τ, (sl, (pl, ks))) h).2.1) ((phN (τ, (sl, (pl, ks))) h).2.2.1) ((phN (τ, (sl, (pl, ks))) h).2.2.2) rr (sN9 n) (sB9 n sv) (sS9 n b sv) sf (lookN (phN (τ, (sl, (pl, ks))) h).1 8) (updT T b τ) g) rfl ?_
  exact ev_ireturn dX3_pass_23 (Nat.le_of_ble_eq_true rfl) ⟨rfl, rfl⟩
set_option maxHeartbeats 1000000 in
theorem x3_changeRate_1 (P : Nat → va_E) (t cs sl pl ks rr : Nat → Int32) (n b : Nat) (sv : Nat → Nat) (sf τ : Nat → Int32) (T : Nat → Nat → Int32) (g : PW) {v : Int32} (h : inB v (nI 0) (nI 100) = false) : Ct mX3_changeRate [.ref 7, .int v] (hv P t cs sl pl ks rr n b sv sf τ T g) (fun _ _ => False) (pX "java/lang/IllegalArgumentException" (hv P t cs sl pl ks rr n b sv sf τ T g)) := by
  refine ct_of 1 kX3_changeRate.1 rfl (Nat.le_of_ble_eq_true rfl) (fun v u h => h.elim) ?_
  show Ev _ _ _ 0 0 [(0, .ref 7), (1, .int v)] [] _
  refine ev_iload_n 1 dX3_changeRate_0 rfl rfl ?_
  refine ev_iconst (nI 0) dX3_changeRate_1 rfl ?_
  refine ev_bipush (nI 100) dX3_changeRate_2 rfl ?_
  exact ev_tS3 (x3_nRange _ h) kX3_needRange g697 rfl rfl dX3_changeRate_4 rfl (Nat.le_of_ble_eq_true rfl) ⟨rfl, rfl⟩
set_option maxHeartbeats 1000000 in
theorem c3_changeRate (P : Nat → va_E) (t cs sl pl ks rr : Nat → Int32) (n b : Nat) (sv : Nat → Nat) (sf τ : Nat → Int32) (T : Nat → Nat → Int32) (g : PW) {v : Int32} (hr : inB v (nI 0) (nI 100) = true) (hn : n ≤ 6) (hp : PM b sv) (hB : BF τ) : Ct mX3_changeRate [.ref 7, .int v] (hv P t cs sl pl ks rr n b sv sf τ T g) (d1 (some (.int (τ 98))) (hv P t cs sl pl ks rr (sN9 n) (sB9 n sv) (sS9 n b sv) sf (upd τ 98 v) (updT T b τ) g)) nx := by
  refine ct_of 1 kX3_changeRate.1 rfl (Nat.le_of_ble_eq_true rfl) (fun v u h => by obtain ⟨rfl, rfl⟩ := h; exact rfl) ?_
  show Ev _ _ _ 0 0 [(0, .ref 7), (1, .int v)] [] _
  refine ev_iload_n 1 dX3_changeRate_0 rfl rfl ?_
  refine ev_iconst (nI 0) dX3_changeRate_1 rfl ?_
  refine ev_bipush (nI 100) dX3_changeRate_2 rfl ?_
  refine ev_kS3v (c3_nRange _ hr) kX3_needRange g697 rfl rfl dX3_changeRate_4 ?_
  refine ev_aload_n 0 dX3_changeRate_7 rfl rfl ?_
  refine ev_cV0v (c3_save _ _ _ _ _ _ _ _ _ _ _ _ _ _ hn hp hB) kX3_save rfl g288 rfl rfl rfl rfl dX3_changeRate_8 ?_
  refine ev_aload_n 0 dX3_changeRate_11 rfl rfl ?_
  refine ev_getfield 7 dX3_changeRate_12 foX3_41 rfl rfl ?_
  refine ev_getfield 8 dX3_changeRate_15 foX3_124 rfl rfl ?_
  refine ev_istore_n 2 dX3_changeRate_18 rfl (Nat.le_of_ble_eq_true rfl) rfl ?_
  refine ev_aload_n 0 dX3_changeRate_19 rfl rfl ?_
  refine ev_getfield 7 dX3_changeRate_20 foX3_41 rfl rfl ?_
  refine ev_iload_n 1 dX3_changeRate_23 rfl rfl ?_
  refine ev_putfield 8 dX3_changeRate_24 fpX3_124 rfl (Nat.le_of_ble_eq_true rfl) (fun _ => rfl) (fun _ => rfl) (nw_f98 _ _ _ _ _ _ _ _) ?_
  refine ev_iload_n 2 dX3_changeRate_27 rfl rfl ?_
  exact ev_ireturn dX3_changeRate_28 (Nat.le_of_ble_eq_true rfl) ⟨rfl, rfl⟩
set_option maxHeartbeats 1000000 in
theorem x3_changeGrace_1 (P : Nat → va_E) (t cs sl pl ks rr : Nat → Int32) (n b : Nat) (sv : Nat → Nat) (sf τ : Nat → Int32) (T : Nat → Nat → Int32) (g : PW) {v : Int32} (h : inB v (nI 1) (nI 24) = false) : Ct mX3_changeGrace [.ref 7, .int v] (hv P t cs sl pl ks rr n b sv sf τ T g) (fun _ _ => False) (pX "java/lang/IllegalArgumentException" (hv P t cs sl pl ks rr n b sv sf τ T g)) := by
  refine ct_of 1 kX3_changeGrace.1 rfl (Nat.le_of_ble_eq_true rfl) (fun v u h => h.elim) ?_
  show Ev _ _ _ 0 0 [(0, .ref 7), (1, .int v)] [] _
  refine ev_iload_n 1 dX3_changeGrace_0 rfl rfl ?_
  refine ev_iconst (nI 1) dX3_changeGrace_1 rfl ?_
  refine ev_bipush (nI 24) dX3_changeGrace_2 rfl ?_
  exact ev_tS3 (x3_nRange _ h) kX3_needRange g697 rfl rfl dX3_changeGrace_4 rfl (Nat.le_of_ble_eq_true rfl) ⟨rfl, rfl⟩
set_option maxHeartbeats 1000000 in
theorem c3_changeGrace (P : Nat → va_E) (t cs sl pl ks rr : Nat → Int32) (n b : Nat) (sv : Nat → Nat) (sf τ : Nat → Int32) (T : Nat → Nat → Int32) (g : PW) {v : Int32} (hr : inB v (nI 1) (nI 24) = true) (hn : n ≤ 6) (hp : PM b sv) (hB : BF τ) : Ct mX3_changeGrace [.ref 7, .int v] (hv P t cs sl pl ks rr n b sv sf τ T g) (d1 (some (.int (τ 99))) (hv P t cs sl pl ks rr (sN9 n) (sB9 n sv) (sS9 n b sv) sf (upd τ 99 v) (updT T b τ) g)) nx := by
  refine ct_of 1 kX3_changeGrace.1 rfl (Nat.le_of_ble_eq_true rfl) (fun v u h => by obtain ⟨rfl, rfl⟩ := h; exact rfl) ?_
  show Ev _ _ _ 0 0 [(0, .ref 7), (1, .int v)] [] _
  refine ev_iload_n 1 dX3_changeGrace_0 rfl rfl ?_
  refine ev_iconst (nI 1) dX3_changeGrace_1 rfl ?_
  refine ev_bipush (nI 24) dX3_changeGrace_2 rfl ?_
  refine ev_kS3v (c3_nRange _ hr) kX3_needRange g697 rfl rfl dX3_changeGrace_4 ?_
  refine ev_aload_n 0 dX3_changeGrace_7 rfl rfl ?_
  refine ev_cV0v (c3_save _ _ _ _ _ _ _ _ _ _ _ _ _ _ hn hp hB) kX3_save rfl g288 rfl rfl rfl rfl dX3_changeGrace_8 ?_
  refine ev_aload_n 0 dX3_changeGrace_11 rfl rfl ?_
  refine ev_getfield 7 dX3_changeGrace_12 foX3_41 rfl rfl ?_
  refine ev_getfield 9 dX3_changeGrace_15 foX3_128 rfl rfl ?_
  refine ev_istore_n 2 dX3_changeGrace_18 rfl (Nat.le_of_ble_eq_true rfl) rfl ?_
  refine ev_aload_n 0 dX3_changeGrace_19 rfl rfl ?_
  refine ev_getfield 7 dX3_changeGrace_20 foX3_41 rfl rfl ?_
  refine ev_iload_n 1 dX3_changeGrace_23 rfl rfl ?_
  refine ev_putfield 9 dX3_changeGrace_24 fpX3_128 rfl (Nat.le_of_ble_eq_true rfl) (fun _ => rfl) (fun _ => rfl) (nw_f99 _ _ _ _ _ _ _ _) ?_
  refine ev_iload_n 2 dX3_changeGrace_27 rfl rfl ?_
  exact ev_ireturn dX3_changeGrace_28 (Nat.le_of_ble_eq_true rfl) ⟨rfl, rfl⟩
set_option maxHeartbeats 1000000 in
theorem x3_changeSlip_1 (P : Nat → va_E) (t cs sl pl ks rr : Nat → Int32) (n b : Nat) (sv : Nat → Nat) (sf τ : Nat → Int32) (T : Nat → Nat → Int32) (g : PW) {v : Int32} (h : inB v (nI 0) (nI 50) = false) : Ct mX3_changeSlip [.ref 7, .int v] (hv P t cs sl pl ks rr n b sv sf τ T g) (fun _ _ => False) (pX "java/lang/IllegalArgumentException" (hv P t cs sl pl ks rr n b sv sf τ T g)) := by
  refine ct_of 1 kX3_changeSlip.1 rfl (Nat.le_of_ble_eq_true rfl) (fun v u h => h.elim) ?_
  show Ev _ _ _ 0 0 [(0, .ref 7), (1, .int v)] [] _
  refine ev_iload_n 1 dX3_changeSlip_0 rfl rfl ?_
  refine ev_iconst (nI 0) dX3_changeSlip_1 rfl ?_
  refine ev_bipush (nI 50) dX3_changeSlip_2 rfl ?_
  exact ev_tS3 (x3_nRange _ h) kX3_needRange g697 rfl rfl dX3_changeSlip_4 rfl (Nat.le_of_ble_eq_true rfl) ⟨rfl, rfl⟩
set_option maxHeartbeats 1000000 in
theorem c3_changeSlip (P : Nat → va_E) (t cs sl pl ks rr : Nat → Int32) (n b : Nat) (sv : Nat → Nat) (sf τ : Nat → Int32) (T : Nat → Nat → Int32) (g : PW) {v : Int32} (hr : inB v (nI 0) (nI 50) = true) (hn : n ≤ 6) (hp : PM b sv) (hB : BF τ) : Ct mX3_changeSlip [.ref 7, .int v] (hv P t cs sl pl ks rr n b sv sf τ T g) (d1 (some (.int (τ 100))) (hv P t cs sl pl ks rr (sN9 n) (sB9 n sv) (sS9 n b sv) sf (upd τ 100 v) (updT T b τ) g)) nx := by
  refine ct_of 1 kX3_changeSlip.1 rfl (Nat.le_of_ble_eq_true rfl) (fun v u h => by obtain ⟨rfl, rfl⟩ := h; exact rfl) ?_
  show Ev _ _ _ 0 0 [(0, .ref 7), (1, .int v)] [] _
  refine ev_iload_n 1 dX3_changeSlip_0 rfl rfl ?_
  refine ev_iconst (nI 0) dX3_changeSlip_1 rfl ?_
  refine ev_bipush (nI 50) dX3_changeSlip_2 rfl ?_
  refine ev_kS3v (c3_nRange _ hr) kX3_needRange g697 rfl rfl dX3_changeSlip_4 ?_
  refine ev_aload_n 0 dX3_changeSlip_7 rfl rfl ?_
  refine ev_cV0v (c3_save _ _ _ _ _ _ _ _ _ _ _ _ _ _ hn hp hB) kX3_save rfl g288 rfl rfl rfl rfl dX3_changeSlip_8 ?_
  refine ev_aload_n 0 dX3_changeSlip_11 rfl rfl ?_
  refine ev_getfield 7 dX3_changeSlip_12 foX3_41 rfl rfl ?_
  refine ev_getfield 10 dX3_changeSlip_15 foX3_131 rfl rfl ?_
  refine ev_istore_n 2 dX3_changeSlip_18 rfl (Nat.le_of_ble_eq_true rfl) rfl ?_
  refine ev_aload_n 0 dX3_changeSlip_19 rfl rfl ?_
  refine ev_getfield 7 dX3_changeSlip_20 foX3_41 rfl rfl ?_
  refine ev_iload_n 1 dX3_changeSlip_23 rfl rfl ?_
  refine ev_putfield 10 dX3_changeSlip_24 fpX3_131 rfl (Nat.le_of_ble_eq_true rfl) (fun _ => rfl) (fun _ => rfl) (nw_f100 _ _ _ _ _ _ _ _) ?_
  refine ev_iload_n 2 dX3_changeSlip_27 rfl rfl ?_
  exact ev_ireturn dX3_changeSlip_28 (Nat.le_of_ble_eq_true rfl) ⟨rfl, rfl⟩
set_option maxHeartbeats 1000000 in
theorem c3_turnOrder (P : Nat → va_E) (t cs sl pl ks rr : Nat → Int32) (n b : Nat) (sv : Nat → Nat) (sf τ : Nat → Int32) (T : Nat → Nat → Int32) (g : PW)  (hn : n ≤ 6) (hp : PM b sv) (hB : BF τ) : Ct mX3_turnOrder [.ref 7] (hv P t cs sl pl ks rr n b sv sf τ T g) (d1 (some (.int ((τ 101 + nI 1) - (τ 101 + nI 1) / nI 3 * nI 3))) (hv P t cs sl pl ks rr (sN9 n) (sB9 n sv) (sS9 n b sv) sf (upd τ 101 ((τ 101 + nI 1) - (τ 101 + nI 1) / nI 3 * nI 3)) (updT T b τ) g)) nx := by
  refine ct_of 0 kX3_turnOrder.1 rfl (Nat.le_of_ble_eq_true rfl) (fun v u h => by obtain ⟨rfl, rfl⟩ := h; exact rfl) ?_
  show Ev _ _ _ 0 0 [(0, .ref 7)] [] _
  refine ev_aload_n 0 dX3_turnOrder_0 rfl rfl ?_
  refine ev_cV0v (c3_save _ _ _ _ _ _ _ _ _ _ _ _ _ _ hn hp hB) kX3_save rfl g288 rfl rfl rfl rfl dX3_turnOrder_1 ?_
  refine ev_aload_n 0 dX3_turnOrder_4 rfl rfl ?_
  refine ev_getfield 7 dX3_turnOrder_5 foX3_41 rfl rfl ?_
  refine ev_aload_n 0 dX3_turnOrder_8 rfl rfl ?_
  refine ev_getfield 7 dX3_turnOrder_9 foX3_41 rfl rfl ?_
  refine ev_getfield 11 dX3_turnOrder_12 foX3_134 rfl rfl ?_
  refine ev_iconst (nI 1) dX3_turnOrder_15 rfl ?_
  refine ev_iadd dX3_turnOrder_16 ?_
  refine ev_iconst (nI 3) dX3_turnOrder_17 rfl ?_
  refine ev_irem dX3_turnOrder_18 (by decide) ?_
  refine ev_putfield 11 dX3_turnOrder_19 fpX3_134 rfl (Nat.le_of_ble_eq_true rfl) (fun _ => rfl) (fun _ => rfl) (nw_f101 _ _ _ _ _ _ _ _) ?_
  refine ev_aload_n 0 dX3_turnOrder_22 rfl rfl ?_
  refine ev_getfield 7 dX3_turnOrder_23 foX3_41 rfl rfl ?_
  refine ev_getfield 11 dX3_turnOrder_26 foX3_134 rfl rfl ?_
  exact ev_ireturn dX3_turnOrder_29 (Nat.le_of_ble_eq_true rfl) ⟨rfl, rfl⟩
theorem hv_8 (P : Nat → va_E) (t cs sl pl ks rr : Nat → Int32) (n b : Nat) (sv : Nat → Nat) (sf τ : Nat → Int32) (T : Nat → Nat → Int32) (g : PW) (x : Int32) : (hv P t cs sl pl ks rr n b sv sf τ T g).set 8 (.inr (1, [.ref 9, .int x, .int (t 1), .int (t 2), .int (t 3), .int (t 4), .int (t 5), .int (t 6)])) = hv P (upd t 0 x) cs sl pl ks rr n b sv sf τ T g := rfl
theorem hv_9 (P : Nat → va_E) (t cs sl pl ks rr : Nat → Int32) (n b : Nat) (sv : Nat → Nat) (sf τ : Nat → Int32) (T : Nat → Nat → Int32) (g : PW) (f : Nat → Int32) : (hv P t cs sl pl ks rr n b sv sf τ T g).set 9 (.inl (0, 60, .inl (tr 60 f))) = hv P t f sl pl ks rr n b sv sf τ T g := rfl
theorem hv_16 (P : Nat → va_E) (t cs sl pl ks rr : Nat → Int32) (n b : Nat) (sv : Nat → Nat) (sf τ : Nat → Int32) (T : Nat → Nat → Int32) (g : PW) (f : Nat → Int32) : (hv P t cs sl pl ks rr n b sv sf τ T g).set 16 (.inl (1, 2, .inl (tr 2 f))) = hv P t cs sl pl ks rr n b sv f τ T g := rfl
set_option maxHeartbeats 1000000 in
theorem x3_append_1 (P : Nat → va_E) (t cs sl pl ks rr : Nat → Int32) (n b : Nat) (sv : Nat → Nat) (sf τ : Nat → Int32) (T : Nat → Nat → Int32) (g : PW) {v : Int32} (h : inB v (nI 33) (nI 126) = false) : Ct mX3_append [.ref 7, .int v] (hv P t cs sl pl ks rr n b sv sf τ T g) (fun _ _ => False) (pX "java/lang/IllegalArgumentException" (hv P t cs sl pl ks rr n b sv sf τ T g)) := by
  refine ct_of 1 kX3_append.1 rfl (Nat.le_of_ble_eq_true rfl) (fun v u h => h.elim) ?_
  show Ev _ _ _ 0 0 [(0, .ref 7), (1, .int v)] [] _
  refine ev_iload_n 1 dX3_append_0 rfl rfl ?_
  refine ev_bipush (nI 33) dX3_append_1 rfl ?_
  refine ev_bipush (nI 126) dX3_append_3 rfl ?_
  exact ev_tS3 (x3_nRange _ h) kX3_needRange g697 rfl rfl dX3_append_5 rfl (Nat.le_of_ble_eq_true rfl) ⟨rfl, rfl⟩
set_option maxHeartbeats 1000000 in
theorem x3_append_2 (P : Nat → va_E) (t cs sl pl ks rr : Nat → Int32) (n b : Nat) (sv : Nat → Nat) (sf τ : Nat → Int32) (T : Nat → Nat → Int32) (g : PW) {v : Int32} (hr : inB v (nI 33) (nI 126) = true) (ht : t 0 = nI 60) : Ct mX3_append [.ref 7, .int v] (hv P t cs sl pl ks rr n b sv sf τ T g) (fun _ _ => False) (pX "java/lang/IllegalStateException" (hv P t cs sl pl ks rr n b sv sf τ T g)) := by
  refine ct_of 1 kX3_append.1 rfl (Nat.le_of_ble_eq_true rfl) (fun v u h => h.elim) ?_
  show Ev _ _ _ 0 0 [(0, .ref 7), (1, .int v)] [] _
  refine ev_iload_n 1 dX3_append_0 rfl rfl ?_
  refine ev_bipush (nI 33) dX3_append_1 rfl ?_
  refine ev_bipush (nI 126) dX3_append_3 rfl ?_
  refine ev_kS3v (c3_nRange _ hr) kX3_needRange g697 rfl rfl dX3_append_5 ?_
  refine ev_aload_n 0 dX3_append_8 rfl rfl ?_
  refine ev_getfield 0 dX3_append_9 foX3_10 rfl rfl ?_
  refine ev_getfield 1 dX3_append_12 foX3_137 rfl rfl ?_
  refine ev_top (nI 60) ht ?_
  refine ev_bipush (nI 60) dX3_append_15 rfl ?_
  refine ev_icmp_lt 28 dX3_append_17 (by decide) (fun h17 => absurd h17 (fun q => nI_nlt (Nat.le_refl 60) (by omega) q)) (fun h17 => ?_)
  exact ev_throw (ik := 140) (ic := 142) (ci := 7) ["java/lang/RuntimeException", "java/lang/Exception"] (by decide) (by decide) g763 g72 ta_IS tb_IS tc_IS rfl (by decide) (by decide) (by decide) (by decide) (by intro x hx; cases hx) dX3_append_20 dX3_append_23 dX3_append_24 dX3_append_27 ⟨rfl, rfl⟩
set_option maxHeartbeats 1000000 in
theorem c3_append (P : Nat → va_E) (t cs sl pl ks rr : Nat → Int32) (n b : Nat) (sv : Nat → Nat) (sf τ : Nat → Int32) (T : Nat → Nat → Int32) (g : PW) {v : Int32} (hr : inB v (nI 33) (nI 126) = true) {q : Nat} (hq : q < 60) (ht : t 0 = nI q) : Ct mX3_append [.ref 7, .int v] (hv P t cs sl pl ks rr n b sv sf τ T g) (d1 (some (.int (nI (q + 1)))) (hv P (upd t 0 (nI (q + 1))) (upd cs q v) sl pl ks rr n b sv sf τ T g)) nx := by
  refine ct_of 1 kX3_append.1 rfl (Nat.le_of_ble_eq_true rfl) (fun v u h => by obtain ⟨rfl, rfl⟩ := h; exact rfl) ?_
  show Ev _ _ _ 0 0 [(0, .ref 7), (1, .int v)] [] _
  refine ev_iload_n 1 dX3_append_0 rfl rfl ?_
  refine ev_bipush (nI 33) dX3_append_1 rfl ?_
  refine ev_bipush (nI 126) dX3_append_3 rfl ?_
  refine ev_kS3v (c3_nRange _ hr) kX3_needRange g697 rfl rfl dX3_append_5 ?_
  refine ev_aload_n 0 dX3_append_8 rfl rfl ?_
  refine ev_getfield 0 dX3_append_9 foX3_10 rfl rfl ?_
  refine ev_getfield 1 dX3_append_12 foX3_137 rfl rfl ?_
  refine ev_top (nI q) ht ?_
  refine ev_bipush (nI 60) dX3_append_15 rfl ?_
  refine ev_icmp_lt 28 dX3_append_17 (by decide) (fun h17 => ?_) (fun h17 => absurd (nI_lt hq (by omega)) h17)
  refine ev_aload_n 0 dX3_append_28 rfl rfl ?_
  refine ev_getfield 0 dX3_append_29 foX3_10 rfl rfl ?_
  refine ev_getfield 0 dX3_append_32 foX3_143 rfl rfl ?_
  refine ev_aload_n 0 dX3_append_35 rfl rfl ?_
  refine ev_getfield 0 dX3_append_36 foX3_10 rfl rfl ?_
  refine ev_getfield 1 dX3_append_39 foX3_137 rfl rfl ?_
  refine ev_top (nI q) ht ?_
  refine ev_iload_n 1 dX3_append_42 rfl rfl ?_
  refine ev_ist (q) dX3_append_43 rfl (by simp only [nI_m, nI_add, ix, oI]) (by omega) rfl (hv_9 _ _ _ _ _ _ _ _ _ _ _ _ _ _ _) ?_
  refine ev_aload_n 0 dX3_append_44 rfl rfl ?_
  refine ev_getfield 0 dX3_append_45 foX3_10 rfl rfl ?_
  refine ev_dup dX3_append_48 rfl ?_
  refine ev_getfield 1 dX3_append_49 foX3_137 rfl rfl ?_
  refine ev_top (nI q) ht ?_
  refine ev_iconst (nI 1) dX3_append_52 rfl ?_
  refine ev_iadd dX3_append_53 ?_
  refine ev_top (nI (q + 1)) (nI_add q 1) ?_
  refine ev_putfield 1 dX3_append_54 fpX3_137 rfl (Nat.le_of_ble_eq_true rfl) (fun _ => rfl) (fun _ => rfl) (hv_8 _ _ _ _ _ _ _ _ _ _ _ _ _ _ _) ?_
  refine ev_aload_n 0 dX3_append_57 rfl rfl ?_
  refine ev_getfield 0 dX3_append_58 foX3_10 rfl rfl ?_
  refine ev_getfield 1 dX3_append_61 foX3_137 rfl rfl ?_
  exact ev_ireturn dX3_append_64 (Nat.le_of_ble_eq_true rfl) ⟨by rfl, rfl⟩
set_option maxHeartbeats 1000000 in
theorem c3_clearBuffer (P : Nat → va_E) (t cs sl pl ks rr : Nat → Int32) (n b : Nat) (sv : Nat → Nat) (sf τ : Nat → Int32) (T : Nat → Nat → Int32) (g : PW)  : Ct mX3_clearBuffer [.ref 7] (hv P t cs sl pl ks rr n b sv sf τ T g) (d1 (some (.int (t 0))) (hv P (upd t 0 (nI 0)) cs sl pl ks rr n b sv sf τ T g)) nx := by
  refine ct_of 0 kX3_clearBuffer.1 rfl (Nat.le_of_ble_eq_true rfl) (fun v u h => by obtain ⟨rfl, rfl⟩ := h; exact rfl) ?_
  show Ev _ _ _ 0 0 [(0, .ref 7)] [] _
  refine ev_aload_n 0 dX3_clearBuffer_0 rfl rfl ?_
  refine ev_getfield 0 dX3_clearBuffer_1 foX3_10 rfl rfl ?_
  refine ev_getfield 1 dX3_clearBuffer_4 foX3_137 rfl rfl ?_
  refine ev_istore_n 1 dX3_clearBuffer_7 rfl (Nat.le_of_ble_eq_true rfl) rfl ?_
  refine ev_aload_n 0 dX3_clearBuffer_8 rfl rfl ?_
  refine ev_getfield 0 dX3_clearBuffer_9 foX3_10 rfl rfl ?_
  refine ev_iconst (nI 0) dX3_clearBuffer_12 rfl ?_
  refine ev_putfield 1 dX3_clearBuffer_13 fpX3_137 rfl (Nat.le_of_ble_eq_true rfl) (fun _ => rfl) (fun _ => rfl) (hv_8 _ _ _ _ _ _ _ _ _ _ _ _ _ _ _) ?_
  refine ev_iload_n 1 dX3_clearBuffer_16 rfl rfl ?_
  exact ev_ireturn dX3_clearBuffer_17 (Nat.le_of_ble_eq_true rfl) ⟨rfl, rfl⟩
set_option maxHeartbeats 1000000 in
theorem x3_keep_1 (P : Nat → va_E) (t cs sl pl ks rr : Nat → Int32) (n b : Nat) (sv : Nat → Nat) (sf τ : Nat → Int32) (T : Nat → Nat → Int32) (g : PW) {p : Int32} (h : inB p (nI 0) (nI 1) = false) : Ct mX3_keep [.ref 7, .int p] (hv P t cs sl pl ks rr n b sv sf τ T g) (fun _ _ => False) (pX "java/lang/IllegalArgumentException" (hv P t cs sl pl ks rr n b sv sf τ T g)) := by
  refine ct_of 1 kX3_keep.1 rfl (Nat.le_of_ble_eq_true rfl) (fun v u h => h.elim) ?_
  show Ev _ _ _ 0 0 [(0, .ref 7), (1, .int p)] [] _
  refine ev_iload_n 1 dX3_keep_0 rfl rfl ?_
  refine ev_iconst (nI 0) dX3_keep_1 rfl ?_
  refine ev_iconst (nI 1) dX3_keep_2 rfl ?_
  exact ev_tS3 (x3_nRange _ h) kX3_needRange g697 rfl rfl dX3_keep_3 rfl (Nat.le_of_ble_eq_true rfl) ⟨rfl, rfl⟩
set_option maxHeartbeats 1000000 in
theorem c3_keep (P : Nat → va_E) (t cs sl pl ks rr : Nat → Int32) (n b : Nat) (sv : Nat → Nat) (sf τ : Nat → Int32) (T : Nat → Nat → Int32) (g : PW) {k : Nat} (hk : k < 2) (hB : BF τ) : Ct mX3_keep [.ref 7, .int (nI k)] (hv P t cs sl pl ks rr n b sv sf τ T g) (d1 none (hv P t cs sl pl ks rr n b sv (upd sf k (nI 1)) τ (updT T (k + 1) τ) g)) nx := by
  refine ct_of 1 kX3_keep.1 rfl (Nat.le_of_ble_eq_true rfl) (fun v u h => by obtain ⟨rfl, rfl⟩ := h; exact trivial) ?_
  show Ev _ _ _ 0 0 [(0, .ref 7), (1, .int (nI k))] [] _
  refine ev_iload_n 1 dX3_keep_0 rfl rfl ?_
  refine ev_iconst (nI 0) dX3_keep_1 rfl ?_
  refine ev_iconst (nI 1) dX3_keep_2 rfl ?_
  refine ev_kS3v (c3_nRange _ (inB_nat (by omega) (by omega))) kX3_needRange g697 rfl rfl dX3_keep_3 ?_
  refine ev_aload_n 0 dX3_keep_6 rfl rfl ?_
  refine ev_getfield 3 dX3_keep_7 foX3_29 rfl rfl ?_
  refine ev_iload_n 1 dX3_keep_10 rfl rfl ?_
  refine ev_aaload (r := 17 + 9 * (k + 1)) dX3_keep_11 rfl (vp_in_nI hk (by omega)) (by rw [nI_clamp (by omega)]; exact if_pos hk) ?_
  refine ev_aload_n 0 dX3_keep_12 rfl rfl ?_
  refine ev_getfield 7 dX3_keep_13 foX3_41 rfl rfl ?_
  refine ev_cV1v (c3_cpa _ _ _ _ _ _ _ _ _ _ _ _ _ _ (a := k + 1) (by omega) (by omega) hB) kX0_copyFrom rfl g292 rfl (hv_g0 _ _ _ _ _ _ _ _ _ _ _ _ _ _ (a := k + 1) (by omega)) rfl rfl dX3_keep_16 ?_
  refine ev_aload_n 0 dX3_keep_19 rfl rfl ?_
  refine ev_getfield 4 dX3_keep_20 foX3_33 rfl rfl ?_
  refine ev_iload_n 1 dX3_keep_23 rfl rfl ?_
  refine ev_iconst (nI 1) dX3_keep_24 rfl ?_
  refine ev_bst k dX3_keep_25 rfl rfl (by omega) rfl rfl (hv_16 _ _ _ _ _ _ _ _ _ _ _ _ _ _ _) ?_
  exact ev_return dX3_keep_26 (Nat.le_of_ble_eq_true rfl) ⟨rfl, rfl⟩
set_option maxHeartbeats 1000000 in
theorem x3_goBack_1 (P : Nat → va_E) (t cs sl pl ks rr : Nat → Int32) (n b : Nat) (sv : Nat → Nat) (sf τ : Nat → Int32) (T : Nat → Nat → Int32) (g : PW) {p : Int32} (h : inB p (nI 0) (nI 1) = false) : Ct mX3_goBack [.ref 7, .int p] (hv P t cs sl pl ks rr n b sv sf τ T g) (fun _ _ => False) (pX "java/lang/IllegalArgumentException" (hv P t cs sl pl ks rr n b sv sf τ T g)) := by
  refine ct_of 1 kX3_goBack.1 rfl (Nat.le_of_ble_eq_true rfl) (fun v u h => h.elim) ?_
  show Ev _ _ _ 0 0 [(0, .ref 7), (1, .int p)] [] _
  refine ev_iload_n 1 dX3_goBack_0 rfl rfl ?_
  refine ev_iconst (nI 0) dX3_goBack_1 rfl ?_
  refine ev_iconst (nI 1) dX3_goBack_2 rfl ?_
  exact ev_tS3 (x3_nRange _ h) kX3_needRange g697 rfl rfl dX3_goBack_3 rfl (Nat.le_of_ble_eq_true rfl) ⟨rfl, rfl⟩
set_option maxHeartbeats 1000000 in
theorem x3_goBack_2 (P : Nat → va_E) (t cs sl pl ks rr : Nat → Int32) (n b : Nat) (sv : Nat → Nat) (sf τ : Nat → Int32) (T : Nat → Nat → Int32) (g : PW) {k : Nat} (hk : k < 2) (h : sf k = 0) : Ct mX3_goBack [.ref 7, .int (nI k)] (hv P t cs sl pl ks rr n b sv sf τ T g) (fun _ _ => False) (pX "java/lang/IllegalStateException" (hv P t cs sl pl ks rr n b sv sf τ T g)) := by
  refine ct_of 1 kX3_goBack.1 rfl (Nat.le_of_ble_eq_true rfl) (fun v u h => h.elim) ?_
  show Ev _ _ _ 0 0 [(0, .ref 7), (1, .int (nI k))] [] _
  refine ev_iload_n 1 dX3_goBack_0 rfl rfl ?_
  refine ev_iconst (nI 0) dX3_goBack_1 rfl ?_
  refine ev_iconst (nI 1) dX3_goBack_2 rfl ?_
  refine ev_kS3v (c3_nRange _ (inB_nat (by omega) (by omega))) kX3_needRange g697 rfl rfl dX3_goBack_3 ?_
  refine ev_aload_n 0 dX3_goBack_6 rfl rfl ?_
  refine ev_getfield 4 dX3_goBack_7 foX3_33 rfl rfl ?_
  refine ev_iload_n 1 dX3_goBack_10 rfl rfl ?_
  refine ev_bld k dX3_goBack_11 rfl rfl (by omega) rfl ?_
  exact ev_tS1 (x3_need _ h) kX3_need g760 rfl rfl dX3_goBack_12 rfl (Nat.le_of_ble_eq_true rfl) ⟨rfl, rfl⟩
set_option maxHeartbeats 1000000 in
theorem c3_goBack (P : Nat → va_E) (t cs sl pl ks rr : Nat → Int32) (n b : Nat) (sv : Nat → Nat) (sf τ : Nat → Int32) (T : Nat → Nat → Int32) (g : PW) {k : Nat} (hk : k < 2) (h : ¬ sf k = 0) (hBk : BF (T (k + 1))) (hn : n ≤ 6) (hp : PM b sv) (hB : BF τ) : Ct mX3_goBack [.ref 7, .int (nI k)] (hv P t cs sl pl ks rr n b sv sf τ T g) (d1 none (hv P t cs sl pl ks rr (sN9 n) (sB9 n sv) (sS9 n b sv) sf (T (k + 1)) (updT T b τ) g)) nx := by
  refine ct_of 1 kX3_goBack.1 rfl (Nat.le_of_ble_eq_true rfl) (fun v u h => by obtain ⟨rfl, rfl⟩ := h; exact trivial) ?_
  show Ev _ _ _ 0 0 [(0, .ref 7), (1, .int (nI k))] [] _
  refine ev_iload_n 1 dX3_goBack_0 rfl rfl ?_
  refine ev_iconst (nI 0) dX3_goBack_1 rfl ?_
  refine ev_iconst (nI 1) dX3_goBack_2 rfl ?_
  refine ev_kS3v (c3_nRange _ (inB_nat (by omega) (by omega))) kX3_needRange g697 rfl rfl dX3_goBack_3 ?_
  refine ev_aload_n 0 dX3_goBack_6 rfl rfl ?_
  refine ev_getfield 4 dX3_goBack_7 foX3_33 rfl rfl ?_
  refine ev_iload_n 1 dX3_goBack_10 rfl rfl ?_
  refine ev_bld k dX3_goBack_11 rfl rfl (by omega) rfl ?_
  refine ev_kS1v (c3_need _ h) kX3_need g760 rfl rfl dX3_goBack_12 ?_
  refine ev_aload_n 0 dX3_goBack_15 rfl rfl ?_
  refine ev_cV0v (c3_save _ _ _ _ _ _ _ _ _ _ _ _ _ _ hn hp hB) kX3_save rfl g288 rfl rfl rfl rfl dX3_goBack_16 ?_
  refine ev_aload_n 0 dX3_goBack_19 rfl rfl ?_
  refine ev_getfield 7 dX3_goBack_20 foX3_41 rfl rfl ?_
  refine ev_aload_n 0 dX3_goBack_23 rfl rfl ?_
  refine ev_getfield 3 dX3_goBack_24 foX3_29 rfl rfl ?_
  refine ev_iload_n 1 dX3_goBack_27 rfl rfl ?_
  refine ev_aaload (r := 17 + 9 * (k + 1)) dX3_goBack_28 rfl (vp_in_nI hk (by omega)) (by rw [nI_clamp (by omega)]; exact if_pos hk) ?_
  refine ev_cV1v (c3_cpn _ _ _ _ _ _ _ _ _ _ _ _ (updT T b τ) _ (a := k + 1) (by omega) (by omega) (by rw [updT_n _ _ (by have := hp.1; omega)]; exact hBk)) kX0_copyFrom rfl g292 rfl rfl rfl rfl dX3_goBack_29 ?_
  refine ev_w (w' := hv P t cs sl pl ks rr (sN9 n) (sB9 n sv) (sS9 n b sv) sf (T (k + 1)) (updT T b τ) g) (by rw [updT_n _ _ (by have := hp.1; omega)]) ?_
  exact ev_return dX3_goBack_32 (Nat.le_of_ble_eq_true rfl) ⟨rfl, rfl⟩
set_option maxHeartbeats 1000000 in
theorem x3_undo_1 (P : Nat → va_E) (t cs sl pl ks rr : Nat → Int32) (b : Nat) (sv : Nat → Nat) (sf τ : Nat → Int32) (T : Nat → Nat → Int32) (g : PW)  : Ct mX3_undo [.ref 7] (hv P t cs sl pl ks rr 0 b sv sf τ T g) (fun _ _ => False) (pX "java/lang/IllegalStateException" (hv P t cs sl pl ks rr 0 b sv sf τ T g)) := by
  refine ct_of 0 kX3_undo.1 rfl (Nat.le_of_ble_eq_true rfl) (fun v u h => h.elim) ?_
  show Ev _ _ _ 0 0 [(0, .ref 7)] [] _
  refine ev_aload_n 0 dX3_undo_0 rfl rfl ?_
  refine ev_getfield 6 dX3_undo_1 foX3_172 rfl rfl ?_
  refine ev_if_le 11 dX3_undo_4 (by decide) (fun h4 => ?_) (fun h4 => absurd (by decide) h4)
  refine ev_iconst (nI 0) dX3_undo_11 rfl ?_
  exact ev_tS1 (x3_need _ rfl) kX3_need g760 rfl rfl dX3_undo_12 rfl (Nat.le_of_ble_eq_true rfl) ⟨rfl, rfl⟩
set_option maxHeartbeats 1000000 in
theorem c3_undo (P : Nat → va_E) (t cs sl pl ks rr : Nat → Int32) (b : Nat) (sv : Nat → Nat) (sf τ : Nat → Int32) (T : Nat → Nat → Int32) (g : PW) {m : Nat} (hm : m < 6) (hp : PM b sv) (hBk : BF (T (sv m))) : Ct mX3_undo [.ref 7] (hv P t cs sl pl ks rr (m + 1) b sv sf τ T g) (d1 none (hv P t cs sl pl ks rr m b sv sf (T (sv m)) T g)) nx := by
  refine ct_of 0 kX3_undo.1 rfl (Nat.le_of_ble_eq_true rfl) (fun v u h => by obtain ⟨rfl, rfl⟩ := h; exact trivial) ?_
  show Ev _ _ _ 0 0 [(0, .ref 7)] [] _
  refine ev_aload_n 0 dX3_undo_0 rfl rfl ?_
  refine ev_getfield 6 dX3_undo_1 foX3_172 rfl rfl ?_
  refine ev_if_le 11 dX3_undo_4 (by decide) (fun h4 => absurd h4 (fun q => absurd (Int32.not_lt.mpr q) (fun z => z (nI_lt (a := 0) (b := m + 1) (by omega) (by omega))))) (fun h4 => ?_)
  refine ev_iconst (nI 1) dX3_undo_7 rfl ?_
  refine ev_goto 12 dX3_undo_8 (by decide) ?_
  refine ev_kS1v (c3_need _ (by decide)) kX3_need g760 rfl rfl dX3_undo_12 ?_
  refine ev_aload_n 0 dX3_undo_15 rfl rfl ?_
  refine ev_dup dX3_undo_16 rfl ?_
  refine ev_getfield 6 dX3_undo_17 foX3_172 rfl rfl ?_
  refine ev_iconst (nI 1) dX3_undo_20 rfl ?_
  refine ev_isub dX3_undo_21 ?_
  refine ev_top (nI m) (nI_pred m) ?_
  refine ev_putfield 6 dX3_undo_22 fpX3_172 rfl (Nat.le_of_ble_eq_true rfl) (fun _ => rfl) (fun _ => rfl) (hv_7 _ _ _ _ _ _ _ _ _ _ _ _ _ _ (m) (b)) ?_
  refine ev_aload_n 0 dX3_undo_25 rfl rfl ?_
  refine ev_getfield 7 dX3_undo_26 foX3_41 rfl rfl ?_
  refine ev_aload_n 0 dX3_undo_29 rfl rfl ?_
  refine ev_getfield 5 dX3_undo_30 foX3_37 rfl rfl ?_
  refine ev_aload_n 0 dX3_undo_33 rfl rfl ?_
  refine ev_getfield 6 dX3_undo_34 foX3_172 rfl rfl ?_
  refine ev_aaload (r := 17 + 9 * sv m) dX3_undo_37 rfl (vp_in_nI hm (by omega)) (by rw [nI_clamp (by omega)]; exact if_pos hm) ?_
  refine ev_cV1v (c3_cpn _ _ _ _ _ _ _ _ _ _ _ _ _ _ (hp.2.2.1 m hm).2.1 (by have := (hp.2.2.1 m hm).1; omega) hBk) kX0_copyFrom rfl g292 rfl rfl rfl rfl dX3_undo_38 ?_
  exact ev_return dX3_undo_41 (Nat.le_of_ble_eq_true rfl) ⟨rfl, rfl⟩
set_option maxHeartbeats 1000000 in
theorem c3_savedStates (P : Nat → va_E) (t cs sl pl ks rr : Nat → Int32) (n b : Nat) (sv : Nat → Nat) (sf τ : Nat → Int32) (T : Nat → Nat → Int32) (g : PW)  : Ct mX3_savedStates [.ref 7] (hv P t cs sl pl ks rr n b sv sf τ T g) (d1 (some (.int (nI n))) (hv P t cs sl pl ks rr n b sv sf τ T g)) nx := by
  refine ct_of 0 kX3_savedStates.1 rfl (Nat.le_of_ble_eq_true rfl) (fun v u h => by obtain ⟨rfl, rfl⟩ := h; exact rfl) ?_
  show Ev _ _ _ 0 0 [(0, .ref 7)] [] _
  refine ev_aload_n 0 dX3_savedStates_0 rfl rfl ?_
  refine ev_getfield 6 dX3_savedStates_1 foX3_172 rfl rfl ?_
  exact ev_ireturn dX3_savedStates_4 (Nat.le_of_ble_eq_true rfl) ⟨rfl, rfl⟩
