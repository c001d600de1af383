/-! ===== the class: orders are followed ===== -/
/-- an order is carried out: letter l, client c, kind k, number m -/
def carC (l c k m : Nat) (q : CQ) : Bool × CQ :=
  if l = 112 then (true, (lookN (upd q.1 k (nI m)) 8, q.2))
  else if l = 99 then (true, (lookN (upd q.1 (6 + k) (nI m)) 8, q.2))
  else if l = 43 then (if q.1 (ix c k) + nI m ≤ nI 99 then (true, (lookN (upd q.1 (ix c k) (q.1 (ix c k) + nI m)) 8, q.2)) else (false, q))
  else if l = 45 then (if nI m ≤ q.1 (ix c k) ∧ q.1 (ix c 7) ≤ covI (canTk q.1 c k (nI m)) c (nI 0) (nI 1) then (true, (lookN (canTk q.1 c k (nI m)) 8, q.2)) else (false, q))
  else if l = 108 then (if q.1 (ix c 9) = 0 ∧ q.1 (ix c 7) + nI m ≤ covI q.1 c (nI 0) (nI 1) then (true, (lookN (lnd3 q.1 c (nI m)) 8, q.2)) else (false, q))
  else if l = 98 then (if q.1 (ix c 7) = 0 then (false, q) else (true, (lookN (pay3 q.1 c (paid q.1 c (nI m))) 8, q.2)))
  else (true, (lookN (phN q m).1 8, (phN q m).2))
theorem carC_112 (c k m : Nat) (q : CQ) : carC 112 c k m q = (true, (lookN (upd q.1 k (nI m)) 8, q.2)) := by unfold carC; rw [if_pos rfl]
theorem carC_99 (c k m : Nat) (q : CQ) : carC 99 c k m q = (true, (lookN (upd q.1 (6 + k) (nI m)) 8, q.2)) := by unfold carC; rw [if_neg (by decide), if_pos rfl]
theorem carC_43 (c k m : Nat) (q : CQ) : carC 43 c k m q = (if q.1 (ix c k) + nI m ≤ nI 99 then (true, (lookN (upd q.1 (ix c k) (q.1 (ix c k) + nI m)) 8, q.2)) else (false, q)) := by unfold carC; rw [if_neg (by decide), if_neg (by decide), if_pos rfl]
theorem carC_45 (c k m : Nat) (q : CQ) : carC 45 c k m q = (if nI m ≤ q.1 (ix c k) ∧ q.1 (ix c 7) ≤ covI (canTk q.1 c k (nI m)) c (nI 0) (nI 1) then (true, (lookN (canTk q.1 c k (nI m)) 8, q.2)) else (false, q)) := by unfold carC; rw [if_neg (by decide), if_neg (by decide), if_neg (by decide), if_pos rfl]
theorem carC_108 (c k m : Nat) (q : CQ) : carC 108 c k m q = (if q.1 (ix c 9) = 0 ∧ q.1 (ix c 7) + nI m ≤ covI q.1 c (nI 0) (nI 1) then (true, (lookN (lnd3 q.1 c (nI m)) 8, q.2)) else (false, q)) := by unfold carC; rw [if_neg (by decide), if_neg (by decide), if_neg (by decide), if_neg (by decide), if_pos rfl]
theorem carC_98 (c k m : Nat) (q : CQ) : carC 98 c k m q = (if q.1 (ix c 7) = 0 then (false, q) else (true, (lookN (pay3 q.1 c (paid q.1 c (nI m))) 8, q.2))) := by unfold carC; rw [if_neg (by decide), if_neg (by decide), if_neg (by decide), if_neg (by decide), if_neg (by decide), if_pos rfl]
theorem carC_104 (c k m : Nat) (q : CQ) : carC 104 c k m q = (true, (lookN (phN q m).1 8, (phN q m).2)) := by unfold carC; rw [if_neg (by decide), if_neg (by decide), if_neg (by decide), if_neg (by decide), if_neg (by decide), if_neg (by decide)]
/-- what carrying out needs -/
def CarOK (l c k m : Nat) (q : CQ) : Prop :=
  (l = 112 ∨ l = 99 ∨ l = 43 ∨ l = 45 ∨ l = 108 ∨ l = 98 ∨ l = 104) ∧ c < 8 ∧ k < 6 ∧ HK q.1 ∧
  (l = 98 → ¬ q.1 (ix c 7) = 0 → ¬ paid q.1 c (nI m) = -1) ∧ (l = 104 → m ≤ 100 ∧ (∀ j, j < m → PhI (phN q j)) ∧ HK (phN q m).1)
set_option maxHeartbeats 1000000 in
theorem c3_car_p (P : Nat → va_E) (cs rr : Nat → Int32) (n b : Nat) (sv : Nat → Nat) (sf : Nat → Int32) (T : Nat → Nat → Int32) (g : PW) (ℓ : Nat) (q : CQ) (sp c k m dg : Nat) (hk : k < 6) (hK : HK q.1)  : Ct mX3_carryOutPart [.ref 7] (hv P (tE ℓ ⟨some 112, sp, nI c, nI k, m, dg⟩) cs (q.2.1) (q.2.2.1) (q.2.2.2) rr n b sv sf (q.1) T g) (d1 (some (.int (bI true))) (hv P (tE ℓ ⟨some 112, sp, nI c, nI k, m, dg⟩) cs (q.2.1) (q.2.2.1) (q.2.2.2) rr n b sv sf (lookN (upd q.1 k (nI m)) 8) T g)) nx := by
  refine ct_of 0 kX3_carryOutPart.1 rfl (Nat.le_of_ble_eq_true rfl) (fun v u h => by obtain ⟨rfl, rfl⟩ := h; exact bI_nar _) ?_
  show Ev _ _ _ 0 0 [(0, .ref 7)] [] _
  refine ev_aload_n 0 dX3_carryOutPart_0 rfl rfl ?_
  refine ev_getfield 0 dX3_carryOutPart_1 foX3_10 rfl rfl ?_
  refine ev_getfield 2 dX3_carryOutPart_4 foX3_310 rfl rfl ?_
  refine ev_top (nI 112) rfl ?_
  refine ev_lookup (off := 57) 64 dX3_carryOutPart_7 (by decide) (by decide) (by decide) ?_
  refine ev_aload_n 0 dX3_carryOutPart_64 rfl rfl ?_
  refine ev_getfield 7 dX3_carryOutPart_65 foX3_41 rfl rfl ?_
  refine ev_aload_n 0 dX3_carryOutPart_68 rfl rfl ?_
  refine ev_getfield 0 dX3_carryOutPart_69 foX3_10 rfl rfl ?_
  refine ev_getfield 5 dX3_carryOutPart_72 foX3_313 rfl rfl ?_
  refine ev_aload_n 0 dX3_carryOutPart_75 rfl rfl ?_
  refine ev_getfield 0 dX3_carryOutPart_76 foX3_10 rfl rfl ?_
  refine ev_getfield 6 dX3_carryOutPart_79 foX3_316 rfl rfl ?_
  refine ev_cV2 (c0_putPrice _ _ _ _ _ _ _ hk _ hK) kX0_putPrice rfl g715 rfl rfl rfl rfl dX3_carryOutPart_82 ?_
  refine ev_pop dX3_carryOutPart_85 rfl ?_
  refine ev_iconst (nI 1) dX3_carryOutPart_86 rfl ?_
  exact ev_ireturn dX3_carryOutPart_87 (Nat.le_of_ble_eq_true rfl) ⟨rfl, rfl⟩
set_option maxHeartbeats 1000000 in
theorem c3_car_c (P : Nat → va_E) (cs rr : Nat → Int32) (n b : Nat) (sv : Nat → Nat) (sf : Nat → Int32) (T : Nat → Nat → Int32) (g : PW) (ℓ : Nat) (q : CQ) (sp c k m dg : Nat) (hk : k < 6) (hK : HK q.1)  : Ct mX3_carryOutPart [.ref 7] (hv P (tE ℓ ⟨some 99, sp, nI c, nI k, m, dg⟩) cs (q.2.1) (q.2.2.1) (q.2.2.2) rr n b sv sf (q.1) T g) (d1 (some (.int (bI true))) (hv P (tE ℓ ⟨some 99, sp, nI c, nI k, m, dg⟩) cs (q.2.1) (q.2.2.1) (q.2.2.2) rr n b sv sf (lookN (upd q.1 (6 + k) (nI m)) 8) T g)) nx := by
  refine ct_of 0 kX3_carryOutPart.1 rfl (Nat.le_of_ble_eq_true rfl) (fun v u h => by obtain ⟨rfl, rfl⟩ := h; exact bI_nar _) ?_
  show Ev _ _ _ 0 0 [(0, .ref 7)] [] _
  refine ev_aload_n 0 dX3_carryOutPart_0 rfl rfl ?_
  refine ev_getfield 0 dX3_carryOutPart_1 foX3_10 rfl rfl ?_
  refine ev_getfield 2 dX3_carryOutPart_4 foX3_310 rfl rfl ?_
  refine ev_top (nI 99) rfl ?_
  refine ev_lookup (off := 81) 88 dX3_carryOutPart_7 (by decide) (by decide) (by decide) ?_
  refine ev_aload_n 0 dX3_carryOutPart_88 rfl rfl ?_
  refine ev_getfield 7 dX3_carryOutPart_89 foX3_41 rfl rfl ?_
  refine ev_aload_n 0 dX3_carryOutPart_92 rfl rfl ?_
  refine ev_getfield 0 dX3_carryOutPart_93 foX3_10 rfl rfl ?_
  refine ev_getfield 5 dX3_carryOutPart_96 foX3_313 rfl rfl ?_
  refine ev_aload_n 0 dX3_carryOutPart_99 rfl rfl ?_
  refine ev_getfield 0 dX3_carryOutPart_100 foX3_10 rfl rfl ?_
  refine ev_getfield 6 dX3_carryOutPart_103 foX3_316 rfl rfl ?_
  refine ev_cV2 (c0_putCut _ _ _ _ _ _ _ hk _ hK) kX0_putCut rfl g730 rfl rfl rfl rfl dX3_carryOutPart_106 ?_
  refine ev_pop dX3_carryOutPart_109 rfl ?_
  refine ev_iconst (nI 1) dX3_carryOutPart_110 rfl ?_
  exact ev_ireturn dX3_carryOutPart_111 (Nat.le_of_ble_eq_true rfl) ⟨rfl, rfl⟩
set_option maxHeartbeats 1000000 in
theorem c3_car_a0 (P : Nat → va_E) (cs rr : Nat → Int32) (n b : Nat) (sv : Nat → Nat) (sf : Nat → Int32) (T : Nat → Nat → Int32) (g : PW) (ℓ : Nat) (q : CQ) (sp c k m dg : Nat) (hc : c < 8) (hk : k < 6) (h : ¬ q.1 (ix c k) + nI m ≤ nI 99) : Ct mX3_carryOutPart [.ref 7] (hv P (tE ℓ ⟨some 43, sp, nI c, nI k, m, dg⟩) cs (q.2.1) (q.2.2.1) (q.2.2.2) rr n b sv sf (q.1) T g) (d1 (some (.int (bI false))) (hv P (tE ℓ ⟨some 43, sp, nI c, nI k, m, dg⟩) cs (q.2.1) (q.2.2.1) (q.2.2.2) rr n b sv sf (q.1) T g)) nx := by
  refine ct_of 0 kX3_carryOutPart.1 rfl (Nat.le_of_ble_eq_true rfl) (fun v u h => by obtain ⟨rfl, rfl⟩ := h; exact bI_nar _) ?_
  show Ev _ _ _ 0 0 [(0, .ref 7)] [] _
  refine ev_aload_n 0 dX3_carryOutPart_0 rfl rfl ?_
  refine ev_getfield 0 dX3_carryOutPart_1 foX3_10 rfl rfl ?_
  refine ev_getfield 2 dX3_carryOutPart_4 foX3_310 rfl rfl ?_
  refine ev_top (nI 43) rfl ?_
  refine ev_lookup (off := 105) 112 dX3_carryOutPart_7 (by decide) (by decide) (by decide) ?_
  refine ev_aload_n 0 dX3_carryOutPart_112 rfl rfl ?_
  refine ev_getfield 7 dX3_carryOutPart_113 foX3_41 rfl rfl ?_
  refine ev_aload_n 0 dX3_carryOutPart_116 rfl rfl ?_
  refine ev_getfield 0 dX3_carryOutPart_117 foX3_10 rfl rfl ?_
  refine ev_getfield 4 dX3_carryOutPart_120 foX3_319 rfl rfl ?_
  refine ev_aload_n 0 dX3_carryOutPart_123 rfl rfl ?_
  refine ev_getfield 0 dX3_carryOutPart_124 foX3_10 rfl rfl ?_
  refine ev_getfield 5 dX3_carryOutPart_127 foX3_313 rfl rfl ?_
  refine ev_aload_n 0 dX3_carryOutPart_130 rfl rfl ?_
  refine ev_getfield 0 dX3_carryOutPart_131 foX3_10 rfl rfl ?_
  refine ev_getfield 6 dX3_carryOutPart_134 foX3_316 rfl rfl ?_
  refine ev_cV3 (c0_addPieces_0 _ _ _ _ _ _ _ hc hk h) kX0_addPieces rfl g756 rfl rfl rfl rfl dX3_carryOutPart_137 ?_
  exact ev_ireturn dX3_carryOutPart_140 (Nat.le_of_ble_eq_true rfl) ⟨rfl, rfl⟩
set_option maxHeartbeats 1000000 in
theorem c3_car_a1 (P : Nat → va_E) (cs rr : Nat → Int32) (n b : Nat) (sv : Nat → Nat) (sf : Nat → Int32) (T : Nat → Nat → Int32) (g : PW) (ℓ : Nat) (q : CQ) (sp c k m dg : Nat) (hc : c < 8) (hk : k < 6) (h : q.1 (ix c k) + nI m ≤ nI 99) (hK : HK q.1)  : Ct mX3_carryOutPart [.ref 7] (hv P (tE ℓ ⟨some 43, sp, nI c, nI k, m, dg⟩) cs (q.2.1) (q.2.2.1) (q.2.2.2) rr n b sv sf (q.1) T g) (d1 (some (.int (bI true))) (hv P (tE ℓ ⟨some 43, sp, nI c, nI k, m, dg⟩) cs (q.2.1) (q.2.2.1) (q.2.2.2) rr n b sv sf (lookN (upd q.1 (ix c k) (q.1 (ix c k) + nI m)) 8) T g)) nx := by
  refine ct_of 0 kX3_carryOutPart.1 rfl (Nat.le_of_ble_eq_true rfl) (fun v u h => by obtain ⟨rfl, rfl⟩ := h; exact bI_nar _) ?_
  show Ev _ _ _ 0 0 [(0, .ref 7)] [] _
  refine ev_aload_n 0 dX3_carryOutPart_0 rfl rfl ?_
  refine ev_getfield 0 dX3_carryOutPart_1 foX3_10 rfl rfl ?_
  refine ev_getfield 2 dX3_carryOutPart_4 foX3_310 rfl rfl ?_
  refine ev_top (nI 43) rfl ?_
  refine ev_lookup (off := 105) 112 dX3_carryOutPart_7 (by decide) (by decide) (by decide) ?_
  refine ev_aload_n 0 dX3_carryOutPart_112 rfl rfl ?_
  refine ev_getfield 7 dX3_carryOutPart_113 foX3_41 rfl rfl ?_
  refine ev_aload_n 0 dX3_carryOutPart_116 rfl rfl ?_
  refine ev_getfield 0 dX3_carryOutPart_117 foX3_10 rfl rfl ?_
  refine ev_getfield 4 dX3_carryOutPart_120 foX3_319 rfl rfl ?_
  refine ev_aload_n 0 dX3_carryOutPart_123 rfl rfl ?_
  refine ev_getfield 0 dX3_carryOutPart_124 foX3_10 rfl rfl ?_
  refine ev_getfield 5 dX3_carryOutPart_127 foX3_313 rfl rfl ?_
  refine ev_aload_n 0 dX3_carryOutPart_130 rfl rfl ?_
  refine ev_getfield 0 dX3_carryOutPart_131 foX3_10 rfl rfl ?_
  refine ev_getfield 6 dX3_carryOutPart_134 foX3_316 rfl rfl ?_
  refine ev_cV3 (c0_addPieces_1 _ _ _ _ _ _ _ hc hk h hK) kX0_addPieces rfl g756 rfl rfl rfl rfl dX3_carryOutPart_137 ?_
  exact ev_ireturn dX3_carryOutPart_140 (Nat.le_of_ble_eq_true rfl) ⟨rfl, rfl⟩
set_option maxHeartbeats 1000000 in
theorem c3_car_t0 (P : Nat → va_E) (cs rr : Nat → Int32) (n b : Nat) (sv : Nat → Nat) (sf : Nat → Int32) (T : Nat → Nat → Int32) (g : PW) (ℓ : Nat) (q : CQ) (sp c k m dg : Nat) (hc : c < 8) (hk : k < 6) (h : ¬ nI m ≤ q.1 (ix c k)) : Ct mX3_carryOutPart [.ref 7] (hv P (tE ℓ ⟨some 45, sp, nI c, nI k, m, dg⟩) cs (q.2.1) (q.2.2.1) (q.2.2.2) rr n b sv sf (q.1) T g) (d1 (some (.int (bI false))) (hv P (tE ℓ ⟨some 45, sp, nI c, nI k, m, dg⟩) cs (q.2.1) (q.2.2.1) (q.2.2.2) rr n b sv sf (q.1) T g)) nx := by
  refine ct_of 0 kX3_carryOutPart.1 rfl (Nat.le_of_ble_eq_true rfl) (fun v u h => by obtain ⟨rfl, rfl⟩ := h; exact bI_nar _) ?_
  show Ev _ _ _ 0 0 [(0, .ref 7)] [] _
  refine ev_aload_n 0 dX3_carryOutPart_0 rfl rfl ?_
  refine ev_getfield 0 dX3_carryOutPart_1 foX3_10 rfl rfl ?_
  refine ev_getfield 2 dX3_carryOutPart_4 foX3_310 rfl rfl ?_
  refine ev_top (nI 45) rfl ?_
  refine ev_lookup (off := 134) 141 dX3_carryOutPart_7 (by decide) (by decide) (by decide) ?_
  refine ev_aload_n 0 dX3_carryOutPart_141 rfl rfl ?_
  refine ev_getfield 7 dX3_carryOutPart_142 foX3_41 rfl rfl ?_
  refine ev_aload_n 0 dX3_carryOutPart_145 rfl rfl ?_
  refine ev_getfield 0 dX3_carryOutPart_146 foX3_10 rfl rfl ?_
  refine ev_getfield 4 dX3_carryOutPart_149 foX3_319 rfl rfl ?_
  refine ev_aload_n 0 dX3_carryOutPart_152 rfl rfl ?_
  refine ev_getfield 0 dX3_carryOutPart_153 foX3_10 rfl rfl ?_
  refine ev_getfield 5 dX3_carryOutPart_156 foX3_313 rfl rfl ?_
  refine ev_aload_n 0 dX3_carryOutPart_159 rfl rfl ?_
  refine ev_getfield 0 dX3_carryOutPart_160 foX3_10 rfl rfl ?_
  refine ev_getfield 6 dX3_carryOutPart_163 foX3_316 rfl rfl ?_
  refine ev_cV3 (c0_takePieces_0 _ _ _ _ _ _ _ hc hk h) kX0_takePieces rfl g785 rfl rfl rfl rfl dX3_carryOutPart_166 ?_
  exact ev_ireturn dX3_carryOutPart_169 (Nat.le_of_ble_eq_true rfl) ⟨rfl, rfl⟩
set_option maxHeartbeats 1000000 in
theorem c3_car_t2 (P : Nat → va_E) (cs rr : Nat → Int32) (n b : Nat) (sv : Nat → Nat) (sf : Nat → Int32) (T : Nat → Nat → Int32) (g : PW) (ℓ : Nat) (q : CQ) (sp c k m dg : Nat) (hc : c < 8) (hk : k < 6) (h : nI m ≤ q.1 (ix c k)) (h2 : ¬ q.1 (ix c 7) ≤ covI (canTk q.1 c k (nI m)) c (nI 0) (nI 1)) : Ct mX3_carryOutPart [.ref 7] (hv P (tE ℓ ⟨some 45, sp, nI c, nI k, m, dg⟩) cs (q.2.1) (q.2.2.1) (q.2.2.2) rr n b sv sf (q.1) T g) (d1 (some (.int (bI false))) (hv P (tE ℓ ⟨some 45, sp, nI c, nI k, m, dg⟩) cs (q.2.1) (q.2.2.1) (q.2.2.2) rr n b sv sf (q.1) T g)) nx := by
  refine ct_of 0 kX3_carryOutPart.1 rfl (Nat.le_of_ble_eq_true rfl) (fun v u h => by obtain ⟨rfl, rfl⟩ := h; exact bI_nar _) ?_
  show Ev _ _ _ 0 0 [(0, .ref 7)] [] _
  refine ev_aload_n 0 dX3_carryOutPart_0 rfl rfl ?_
  refine ev_getfield 0 dX3_carryOutPart_1 foX3_10 rfl rfl ?_
  refine ev_getfield 2 dX3_carryOutPart_4 foX3_310 rfl rfl ?_
  refine ev_top (nI 45) rfl ?_
  refine ev_lookup (off := 134) 141 dX3_carryOutPart_7 (by decide) (by decide) (by decide) ?_
  refine ev_aload_n 0 dX3_carryOutPart_141 rfl rfl ?_
  refine ev_getfield 7 dX3_carryOutPart_142 foX3_41 rfl rfl ?_
  refine ev_aload_n 0 dX3_carryOutPart_145 rfl rfl ?_
  refine ev_getfield 0 dX3_carryOutPart_146 foX3_10 rfl rfl ?_
  refine ev_getfield 4 dX3_carryOutPart_149 foX3_319 rfl rfl ?_
  refine ev_aload_n 0 dX3_carryOutPart_152 rfl rfl ?_
  refine ev_getfield 0 dX3_carryOutPart_153 foX3_10 rfl rfl ?_
  refine ev_getfield 5 dX3_carryOutPart_156 foX3_313 rfl rfl ?_
  refine ev_aload_n 0 dX3_carryOutPart_159 rfl rfl ?_
  refine ev_getfield 0 dX3_carryOutPart_160 foX3_10 rfl rfl ?_
  refine ev_getfield 6 dX3_carryOutPart_163 foX3_316 rfl rfl ?_
  refine ev_cV3 (c0_takePieces_2 _ _ _ _ _ _ _ hc hk h h2) kX0_takePieces rfl g785 rfl rfl rfl rfl dX3_carryOutPart_166 ?_
  exact ev_ireturn dX3_carryOutPart_169 (Nat.le_of_ble_eq_true rfl) ⟨rfl, rfl⟩
set_option maxHeartbeats 1000000 in
theorem c3_car_t1 (P : Nat → va_E) (cs rr : Nat → Int32) (n b : Nat) (sv : Nat → Nat) (sf : Nat → Int32) (T : Nat → Nat → Int32) (g : PW) (ℓ : Nat) (q : CQ) (sp c k m dg : Nat) (hc : c < 8) (hk : k < 6) (h : nI m ≤ q.1 (ix c k)) (h2 : q.1 (ix c 7) ≤ covI (canTk q.1 c k (nI m)) c (nI 0) (nI 1)) (hK : HK q.1)  : Ct mX3_carryOutPart [.ref 7] (hv P (tE ℓ ⟨some 45, sp, nI c, nI k, m, dg⟩) cs (q.2.1) (q.2.2.1) (q.2.2.2) rr n b sv sf (q.1) T g) (d1 (some (.int (bI true))) (hv P (tE ℓ ⟨some 45, sp, nI c, nI k, m, dg⟩) cs (q.2.1) (q.2.2.1) (q.2.2.2) rr n b sv sf (lookN (canTk q.1 c k (nI m)) 8) T g)) nx := by
  refine ct_of 0 kX3_carryOutPart.1 rfl (Nat.le_of_ble_eq_true rfl) (fun v u h => by obtain ⟨rfl, rfl⟩ := h; exact bI_nar _) ?_
  show Ev _ _ _ 0 0 [(0, .ref 7)] [] _
  refine ev_aload_n 0 dX3_carryOutPart_0 rfl rfl ?_
  refine ev_getfield 0 dX3_carryOutPart_1 foX3_10 rfl rfl ?_
  refine ev_getfield 2 dX3_carryOutPart_4 foX3_310 rfl rfl ?_
  refine ev_top (nI 45) rfl ?_
  refine ev_lookup (off := 134) 141 dX3_carryOutPart_7 (by decide) (by decide) (by decide) ?_
  refine ev_aload_n 0 dX3_carryOutPart_141 rfl rfl ?_
  refine ev_getfield 7 dX3_carryOutPart_142 foX3_41 rfl rfl ?_
  refine ev_aload_n 0 dX3_carryOutPart_145 rfl rfl ?_
  refine ev_getfield 0 dX3_carryOutPart_146 foX3_10 rfl rfl ?_
  refine ev_getfield 4 dX3_carryOutPart_149 foX3_319 rfl rfl ?_
  refine ev_aload_n 0 dX3_carryOutPart_152 rfl rfl ?_
  refine ev_getfield 0 dX3_carryOutPart_153 foX3_10 rfl rfl ?_
  refine ev_getfield 5 dX3_carryOutPart_156 foX3_313 rfl rfl ?_
  refine ev_aload_n 0 dX3_carryOutPart_159 rfl rfl ?_
  refine ev_getfield 0 dX3_carryOutPart_160 foX3_10 rfl rfl ?_
  refine ev_getfield 6 dX3_carryOutPart_163 foX3_316 rfl rfl ?_
  refine ev_cV3 (c0_takePieces_1 _ _ _ _ _ _ _ hc hk h h2 hK) kX0_takePieces rfl g785 rfl rfl rfl rfl dX3_carryOutPart_166 ?_
  exact ev_ireturn dX3_carryOutPart_169 (Nat.le_of_ble_eq_true rfl) ⟨rfl, rfl⟩
set_option maxHeartbeats 1000000 in
theorem c3_car_l0 (P : Nat → va_E) (cs rr : Nat → Int32) (n b : Nat) (sv : Nat → Nat) (sf : Nat → Int32) (T : Nat → Nat → Int32) (g : PW) (ℓ : Nat) (q : CQ) (sp c k m dg : Nat) (hc : c < 8) (h : ¬ q.1 (ix c 9) = 0) : Ct mX3_carryOutPart [.ref 7] (hv P (tE ℓ ⟨some 108, sp, nI c, nI k, m, dg⟩) cs (q.2.1) (q.2.2.1) (q.2.2.2) rr n b sv sf (q.1) T g) (d1 (some (.int (bI false))) (hv P (tE ℓ ⟨some 108, sp, nI c, nI k, m, dg⟩) cs (q.2.1) (q.2.2.1) (q.2.2.2) rr n b sv sf (q.1) T g)) nx := by
  refine ct_of 0 kX3_carryOutPart.1 rfl (Nat.le_of_ble_eq_true rfl) (fun v u h => by obtain ⟨rfl, rfl⟩ := h; exact bI_nar _) ?_
  show Ev _ _ _ 0 0 [(0, .ref 7)] [] _
  refine ev_aload_n 0 dX3_carryOutPart_0 rfl rfl ?_
  refine ev_getfield 0 dX3_carryOutPart_1 foX3_10 rfl rfl ?_
  refine ev_getfield 2 dX3_carryOutPart_4 foX3_310 rfl rfl ?_
  refine ev_top (nI 108) rfl ?_
  refine ev_lookup (off := 163) 170 dX3_carryOutPart_7 (by decide) (by decide) (by decide) ?_
  refine ev_aload_n 0 dX3_carryOutPart_170 rfl rfl ?_
  refine ev_getfield 7 dX3_carryOutPart_171 foX3_41 rfl rfl ?_
  refine ev_aload_n 0 dX3_carryOutPart_174 rfl rfl ?_
  refine ev_getfield 0 dX3_carryOutPart_175 foX3_10 rfl rfl ?_
  refine ev_getfield 4 dX3_carryOutPart_178 foX3_319 rfl rfl ?_
  refine ev_aload_n 0 dX3_carryOutPart_181 rfl rfl ?_
  refine ev_getfield 0 dX3_carryOutPart_182 foX3_10 rfl rfl ?_
  refine ev_getfield 6 dX3_carryOutPart_185 foX3_316 rfl rfl ?_
  refine ev_cV2 (c0_addDebt_0 _ _ _ _ _ _ _ hc h) kX0_addDebt rfl g819 rfl rfl rfl rfl dX3_carryOutPart_188 ?_
  exact ev_ireturn dX3_carryOutPart_191 (Nat.le_of_ble_eq_true rfl) ⟨rfl, rfl⟩
set_option maxHeartbeats 1000000 in
theorem c3_car_l2 (P : Nat → va_E) (cs rr : Nat → Int32) (n b : Nat) (sv : Nat → Nat) (sf : Nat → Int32) (T : Nat → Nat → Int32) (g : PW) (ℓ : Nat) (q : CQ) (sp c k m dg : Nat) (hc : c < 8) (h : q.1 (ix c 9) = 0) (h2 : ¬ q.1 (ix c 7) + nI m ≤ covI q.1 c (nI 0) (nI 1)) : Ct mX3_carryOutPart [.ref 7] (hv P (tE ℓ ⟨some 108, sp, nI c, nI k, m, dg⟩) cs (q.2.1) (q.2.2.1) (q.2.2.2) rr n b sv sf (q.1) T g) (d1 (some (.int (bI false))) (hv P (tE ℓ ⟨some 108, sp, nI c, nI k, m, dg⟩) cs (q.2.1) (q.2.2.1) (q.2.2.2) rr n b sv sf (q.1) T g)) nx := by
  refine ct_of 0 kX3_carryOutPart.1 rfl (Nat.le_of_ble_eq_true rfl) (fun v u h => by obtain ⟨rfl, rfl⟩ := h; exact bI_nar _) ?_
  show Ev _ _ _ 0 0 [(0, .ref 7)] [] _
  refine ev_aload_n 0 dX3_carryOutPart_0 rfl rfl ?_
  refine ev_getfield 0 dX3_carryOutPart_1 foX3_10 rfl rfl ?_
  refine ev_getfield 2 dX3_carryOutPart_4 foX3_310 rfl rfl ?_
  refine ev_top (nI 108) rfl ?_
  refine ev_lookup (off := 163) 170 dX3_carryOutPart_7 (by decide) (by decide) (by decide) ?_
  refine ev_aload_n 0 dX3_carryOutPart_170 rfl rfl ?_
  refine ev_getfield 7 dX3_carryOutPart_171 foX3_41 rfl rfl ?_
  refine ev_aload_n 0 dX3_carryOutPart_174 rfl rfl ?_
  refine ev_getfield 0 dX3_carryOutPart_175 foX3_10 rfl rfl ?_
  refine ev_getfield 4 dX3_carryOutPart_178 foX3_319 rfl rfl ?_
  refine ev_aload_n 0 dX3_carryOutPart_181 rfl rfl ?_
  refine ev_getfield 0 dX3_carryOutPart_182 foX3_10 rfl rfl ?_
  refine ev_getfield 6 dX3_carryOutPart_185 foX3_316 rfl rfl ?_
  refine ev_cV2 (c0_addDebt_2 _ _ _ _ _ _ _ hc h h2) kX0_addDebt rfl g819 rfl rfl rfl rfl dX3_carryOutPart_188 ?_
  exact ev_ireturn dX3_carryOutPart_191 (Nat.le_of_ble_eq_true rfl) ⟨rfl, rfl⟩
set_option maxHeartbeats 1000000 in
theorem c3_car_l1 (P : Nat → va_E) (cs rr : Nat → Int32) (n b : Nat) (sv : Nat → Nat) (sf : Nat → Int32) (T : Nat → Nat → Int32) (g : PW) (ℓ : Nat) (q : CQ) (sp c k m dg : Nat) (hc : c < 8) (h : q.1 (ix c 9) = 0) (h2 : q.1 (ix c 7) + nI m ≤ covI q.1 c (nI 0) (nI 1)) (hK : HK q.1)  : Ct mX3_carryOutPart [.ref 7] (hv P (tE ℓ ⟨some 108, sp, nI c, nI k, m, dg⟩) cs (q.2.1) (q.2.2.1) (q.2.2.2) rr n b sv sf (q.1) T g) (d1 (some (.int (bI true))) (hv P (tE ℓ ⟨some 108, sp, nI c, nI k, m, dg⟩) cs (q.2.1) (q.2.2.1) (q.2.2.2) rr n b sv sf (lookN (lnd3 q.1 c (nI m)) 8) T g)) nx := by
  refine ct_of 0 kX3_carryOutPart.1 rfl (Nat.le_of_ble_eq_true rfl) (fun v u h => by obtain ⟨rfl, rfl⟩ := h; exact bI_nar _) ?_
  show Ev _ _ _ 0 0 [(0, .ref 7)] [] _
  refine ev_aload_n 0 dX3_carryOutPart_0 rfl rfl ?_
  refine ev_getfield 0 dX3_carryOutPart_1 foX3_10 rfl rfl ?_
  refine ev_getfield 2 dX3_carryOutPart_4 foX3_310 rfl rfl ?_
  refine ev_top (nI 108) rfl ?_
  refine ev_lookup (off := 163) 170 dX3_carryOutPart_7 (by decide) (by decide) (by decide) ?_
  refine ev_aload_n 0 dX3_carryOutPart_170 rfl rfl ?_
  refine ev_getfield 7 dX3_carryOutPart_171 foX3_41 rfl rfl ?_
  refine ev_aload_n 0 dX3_carryOutPart_174 rfl rfl ?_
  refine ev_getfield 0 dX3_carryOutPart_175 foX3_10 rfl rfl ?_
  refine ev_getfield 4 dX3_carryOutPart_178 foX3_319 rfl rfl ?_
  refine ev_aload_n 0 dX3_carryOutPart_181 rfl rfl ?_
  refine ev_getfield 0 dX3_carryOutPart_182 foX3_10 rfl rfl ?_
  refine ev_getfield 6 dX3_carryOutPart_185 foX3_316 rfl rfl ?_
  refine ev_cV2 (c0_addDebt_1 _ _ _ _ _ _ _ hc h h2 hK) kX0_addDebt rfl g819 rfl rfl rfl rfl dX3_carryOutPart_188 ?_
  exact ev_ireturn dX3_carryOutPart_191 (Nat.le_of_ble_eq_true rfl) ⟨rfl, rfl⟩
set_option maxHeartbeats 1000000 in
theorem c3_car_b0 (P : Nat → va_E) (cs rr : Nat → Int32) (n b : Nat) (sv : Nat → Nat) (sf : Nat → Int32) (T : Nat → Nat → Int32) (g : PW) (ℓ : Nat) (q : CQ) (sp c k m dg : Nat) (hc : c < 8) (h : q.1 (ix c 7) = 0) : Ct mX3_carryOutPart [.ref 7] (hv P (tE ℓ ⟨some 98, sp, nI c, nI k, m, dg⟩) cs (q.2.1) (q.2.2.1) (q.2.2.2) rr n b sv sf (q.1) T g) (d1 (some (.int (bI false))) (hv P (tE ℓ ⟨some 98, sp, nI c, nI k, m, dg⟩) cs (q.2.1) (q.2.2.1) (q.2.2.2) rr n b sv sf (q.1) T g)) nx := by
  refine ct_of 0 kX3_carryOutPart.1 rfl (Nat.le_of_ble_eq_true rfl) (fun v u h => by obtain ⟨rfl, rfl⟩ := h; exact bI_nar _) ?_
  show Ev _ _ _ 0 0 [(0, .ref 7)] [] _
  refine ev_aload_n 0 dX3_carryOutPart_0 rfl rfl ?_
  refine ev_getfield 0 dX3_carryOutPart_1 foX3_10 rfl rfl ?_
  refine ev_getfield 2 dX3_carryOutPart_4 foX3_310 rfl rfl ?_
  refine ev_top (nI 98) rfl ?_
  refine ev_lookup (off := 185) 192 dX3_carryOutPart_7 (by decide) (by decide) (by decide) ?_
  refine ev_aload_n 0 dX3_carryOutPart_192 rfl rfl ?_
  refine ev_getfield 7 dX3_carryOutPart_193 foX3_41 rfl rfl ?_
  refine ev_aload_n 0 dX3_carryOutPart_196 rfl rfl ?_
  refine ev_getfield 0 dX3_carryOutPart_197 foX3_10 rfl rfl ?_
  refine ev_getfield 4 dX3_carryOutPart_200 foX3_319 rfl rfl ?_
  refine ev_aload_n 0 dX3_carryOutPart_203 rfl rfl ?_
  refine ev_getfield 0 dX3_carryOutPart_204 foX3_10 rfl rfl ?_
  refine ev_getfield 6 dX3_carryOutPart_207 foX3_316 rfl rfl ?_
  refine ev_cV2 (c0_takeDebt_0 _ _ _ _ _ _ _ hc h) kX0_takeDebt rfl g830 rfl rfl rfl rfl dX3_carryOutPart_210 ?_
  refine ev_iconst (-1) dX3_carryOutPart_213 rfl ?_
  refine ev_icmp_eq 221 dX3_carryOutPart_214 (by decide) (fun h214 => ?_) (fun h214 => absurd rfl h214)
  refine ev_iconst (nI 0) dX3_carryOutPart_221 rfl ?_
  exact ev_ireturn dX3_carryOutPart_222 (Nat.le_of_ble_eq_true rfl) ⟨rfl, rfl⟩
set_option maxHeartbeats 1000000 in
theorem c3_car_b1 (P : Nat → va_E) (cs rr : Nat → Int32) (n b : Nat) (sv : Nat → Nat) (sf : Nat → Int32) (T : Nat → Nat → Int32) (g : PW) (ℓ : Nat) (q : CQ) (sp c k m dg : Nat) (hc : c < 8) (h : ¬ q.1 (ix c 7) = 0) (hne : ¬ paid q.1 c (nI m) = -1) (hK : HK q.1)  : Ct mX3_carryOutPart [.ref 7] (hv P (tE ℓ ⟨some 98, sp, nI c, nI k, m, dg⟩) cs (q.2.1) (q.2.2.1) (q.2.2.2) rr n b sv sf (q.1) T g) (d1 (some (.int (bI true))) (hv P (tE ℓ ⟨some 98, sp, nI c, nI k, m, dg⟩) cs (q.2.1) (q.2.2.1) (q.2.2.2) rr n b sv sf (lookN (pay3 q.1 c (paid q.1 c (nI m))) 8) T g)) nx := by
  refine ct_of 0 kX3_carryOutPart.1 rfl (Nat.le_of_ble_eq_true rfl) (fun v u h => by obtain ⟨rfl, rfl⟩ := h; exact bI_nar _) ?_
  show Ev _ _ _ 0 0 [(0, .ref 7)] [] _
  refine ev_aload_n 0 dX3_carryOutPart_0 rfl rfl ?_
  refine ev_getfield 0 dX3_carryOutPart_1 foX3_10 rfl rfl ?_
  refine ev_getfield 2 dX3_carryOutPart_4 foX3_310 rfl rfl ?_
  refine ev_top (nI 98) rfl ?_
  refine ev_lookup (off := 185) 192 dX3_carryOutPart_7 (by decide) (by decide) (by decide) ?_
  refine ev_aload_n 0 dX3_carryOutPart_192 rfl rfl ?_
  refine ev_getfield 7 dX3_carryOutPart_193 foX3_41 rfl rfl ?_
  refine ev_aload_n 0 dX3_carryOutPart_196 rfl rfl ?_
  refine ev_getfield 0 dX3_carryOutPart_197 foX3_10 rfl rfl ?_
  refine ev_getfield 4 dX3_carryOutPart_200 foX3_319 rfl rfl ?_
  refine ev_aload_n 0 dX3_carryOutPart_203 rfl rfl ?_
  refine ev_getfield 0 dX3_carryOutPart_204 foX3_10 rfl rfl ?_
  refine ev_getfield 6 dX3_carryOutPart_207 foX3_316 rfl rfl ?_
  refine ev_cV2 (c0_takeDebt_1 _ _ _ _ _ _ _ hc h hK) kX0_takeDebt rfl g830 rfl rfl rfl rfl dX3_carryOutPart_210 ?_
  refine ev_iconst (-1) dX3_carryOutPart_213 rfl ?_
  refine ev_icmp_eq 221 dX3_carryOutPart_214 (by decide) (fun h214 => absurd h214 hne) (fun h214 => ?_)
  refine ev_iconst (nI 1) dX3_carryOutPart_217 rfl ?_
  refine ev_goto 222 dX3_carryOutPart_218 (by decide) ?_
  exact ev_ireturn dX3_carryOutPart_222 (Nat.le_of_ble_eq_true rfl) ⟨rfl, rfl⟩
set_option maxHeartbeats 1000000 in
theorem c3_car_h (P : Nat → va_E) (cs rr : Nat → Int32) (n b : Nat) (sv : Nat → Nat) (sf : Nat → Int32) (T : Nat → Nat → Int32) (g : PW) (ℓ : Nat) (q : CQ) (sp c k m dg : Nat) (hm : m ≤ 100) (hI : ∀ j, j < m → PhI (phN q j)) (hL : HK (phN q m).1) : Ct mX3_carryOutPart [.ref 7] (hv P (tE ℓ ⟨some 104, sp, nI c, nI k, m, dg⟩) cs (q.2.1) (q.2.2.1) (q.2.2.2) rr n b sv sf (q.1) T g) (d1 (some (.int (bI true))) (hv P (tE ℓ ⟨some 104, sp, nI c, nI k, m, dg⟩) cs ((lookN (phN q m).1 8, (phN q m).2).2.1) ((lookN (phN q m).1 8, (phN q m).2).2.2.1) ((lookN (phN q m).1 8, (phN q m).2).2.2.2) rr n b sv sf ((lookN (phN q m).1 8, (phN q m).2).1) T g)) nx := by
  refine ct_of 0 kX3_carryOutPart.1 rfl (Nat.le_of_ble_eq_true rfl) (fun v u h => by obtain ⟨rfl, rfl⟩ := h; exact bI_nar _) ?_
  show Ev _ _ _ 0 0 [(0, .ref 7)] [] _
  refine ev_aload_n 0 dX3_carryOutPart_0 rfl rfl ?_
  refine ev_getfield 0 dX3_carryOutPart_1 foX3_10 rfl rfl ?_
  refine ev_getfield 2 dX3_carryOutPart_4 foX3_310 rfl rfl ?_
  refine ev_top (nI 104) rfl ?_
  refine ev_lookup (off := 216) 223 dX3_carryOutPart_7 (by decide) (by decide) (by decide) ?_
  refine ev_aload_n 0 dX3_carryOutPart_223 rfl rfl ?_
  refine ev_getfield 7 dX3_carryOutPart_224 foX3_41 rfl rfl ?_
  refine ev_aload_n 0 dX3_carryOutPart_227 rfl rfl ?_
  refine ev_getfield 0 dX3_carryOutPart_228 foX3_10 rfl rfl ?_
  refine ev_getfield 6 dX3_carryOutPart_231 foX3_316 rfl rfl ?_
  refine ev_aload_n 0 dX3_carryOutPart_234 rfl rfl ?_
  refine ev_getfield 1 dX3_carryOutPart_235 foX3_19 rfl rfl ?_
  refine ev_w (w' := nwq (hpP P (tE ℓ ⟨some 104, sp, nI c, nI k, m, dg⟩) cs n b sv sf) q rr (hgT T g)) rfl ?_
  refine ev_cV2 (c0_passHours (hpP P (tE ℓ ⟨some 104, sp, nI c, nI k, m, dg⟩) cs n b sv sf) q rr (hgT T g) (h := m) hm hI hL) kX0_passHours rfl g852 rfl rfl rfl rfl dX3_carryOutPart_238 ?_
  refine ev_w (w' := hv P (tE ℓ ⟨some 104, sp, nI c, nI k, m, dg⟩) cs ((lookN (phN q m).1 8, (phN q m).2).2.1) ((lookN (phN q m).1 8, (phN q m).2).2.2.1) ((lookN (phN q m).1 8, (phN q m).2).2.2.2) rr n b sv sf ((lookN (phN q m).1 8, (phN q m).2).1) T g) rfl ?_
  refine ev_pop dX3_carryOutPart_241 rfl ?_
  refine ev_iconst (nI 1) dX3_carryOutPart_242 rfl ?_
  exact ev_ireturn dX3_carryOutPart_243 (Nat.le_of_ble_eq_true rfl) ⟨rfl, rfl⟩
theorem c3_carry (P : Nat → va_E) (cs rr : Nat → Int32) (n b : Nat) (sv : Nat → Nat) (sf : Nat → Int32) (T : Nat → Nat → Int32) (g : PW) (ℓ : Nat) (q : CQ) (l sp c k m dg : Nat) (h : CarOK l c k m q) : Ct mX3_carryOutPart [.ref 7] (hv P (tE ℓ ⟨some l, sp, nI c, nI k, m, dg⟩) cs (q.2.1) (q.2.2.1) (q.2.2.2) rr n b sv sf (q.1) T g) (d1 (some (.int (bI (carC l c k m q).1))) (hv P (tE ℓ ⟨some l, sp, nI c, nI k, m, dg⟩) cs ((carC l c k m q).2.2.1) ((carC l c k m q).2.2.2.1) ((carC l c k m q).2.2.2.2) rr n b sv sf ((carC l c k m q).2.1) T g)) nx := by
  obtain ⟨hl, hc, hk, hK, hb, hh⟩ := h
  rcases hl with rfl | rfl | rfl | rfl | rfl | rfl | rfl
  · rw [carC_112]
    exact c3_car_p P cs rr n b sv sf T g ℓ q sp c k m dg hk hK
  · rw [carC_99]
    exact c3_car_c P cs rr n b sv sf T g ℓ q sp c k m dg hk hK
  · by_cases q1 : q.1 (ix c k) + nI m ≤ nI 99
    · rw [carC_43, if_pos q1]
      exact c3_car_a1 P cs rr n b sv sf T g ℓ q sp c k m dg hc hk q1 hK
    · rw [carC_43, if_neg q1]
      exact c3_car_a0 P cs rr n b sv sf T g ℓ q sp c k m dg hc hk q1
  · by_cases q1 : nI m ≤ q.1 (ix c k)
    · by_cases q2 : q.1 (ix c 7) ≤ covI (canTk q.1 c k (nI m)) c (nI 0) (nI 1)
      · rw [carC_45, if_pos ⟨q1, q2⟩]
        exact c3_car_t1 P cs rr n b sv sf T g ℓ q sp c k m dg hc hk q1 q2 hK
      · rw [carC_45, if_neg (fun z => q2 z.2)]
        exact c3_car_t2 P cs rr n b sv sf T g ℓ q sp c k m dg hc hk q1 q2
    · rw [carC_45, if_neg (fun z => q1 z.1)]
      exact c3_car_t0 P cs rr n b sv sf T g ℓ q sp c k m dg hc hk q1
  · by_cases q1 : q.1 (ix c 9) = 0
    · by_cases q2 : q.1 (ix c 7) + nI m ≤ covI q.1 c (nI 0) (nI 1)
      · rw [carC_108, if_pos ⟨q1, q2⟩]
        exact c3_car_l1 P cs rr n b sv sf T g ℓ q sp c k m dg hc q1 q2 hK
      · rw [carC_108, if_neg (fun z => q2 z.2)]
        exact c3_car_l2 P cs rr n b sv sf T g ℓ q sp c k m dg hc q1 q2
    · rw [carC_108, if_neg (fun z => q1 z.1)]
      exact c3_car_l0 P cs rr n b sv sf T g ℓ q sp c k m dg hc q1
  · by_cases q1 : q.1 (ix c 7) = 0
    · rw [carC_98, if_pos q1]
      exact c3_car_b0 P cs rr n b sv sf T g ℓ q sp c k m dg hc q1
    · rw [carC_98, if_neg q1]
      exact c3_car_b1 P cs rr n b sv sf T g ℓ q sp c k m dg hc q1 (hb rfl q1) hK
  · rw [carC_104]
    exact c3_car_h P cs rr n b sv sf T g ℓ q sp c k m dg (hh rfl).1 (hh rfl).2.1 (hh rfl).2.2
/-- the reader's order, carried out -/
def carS (s : PS) (q : CQ) : Bool × CQ := carC (s.lt.getD 0) s.client.toNatClampNeg s.kind.toNatClampNeg s.number q
def CarS (s : PS) (q : CQ) : Prop := ∃ l c k, s.lt = some l ∧ s.client = nI c ∧ s.kind = nI k ∧ CarOK l c k s.number q
theorem c3_carryS (P : Nat → va_E) (cs rr : Nat → Int32) (n b : Nat) (sv : Nat → Nat) (sf : Nat → Int32) (T : Nat → Nat → Int32) (g : PW) (ℓ : Nat) (q : CQ) (s : PS) (h : CarS s q) : Ct mX3_carryOutPart [.ref 7] (hv P (tE ℓ s) cs (q.2.1) (q.2.2.1) (q.2.2.2) rr n b sv sf (q.1) T g) (d1 (some (.int (bI (carS s q).1))) (hv P (tE ℓ s) cs ((carS s q).2.2.1) ((carS s q).2.2.2.1) ((carS s q).2.2.2.2) rr n b sv sf ((carS s q).2.1) T g)) nx := by
  obtain ⟨l, c, k, h1, h2, h3, h4⟩ := h
  obtain ⟨lt, sp, cl, kd, m, dg⟩ := s
  have h1' : lt = some l := h1
  have h2' : cl = nI c := h2
  have h3' : kd = nI k := h3
  subst h1' h2' h3'
  have hc : c < 8 := h4.2.1
  have hk : k < 6 := h4.2.2.1
  have e : carS ⟨some l, sp, nI c, nI k, m, dg⟩ q = carC l c k m q := by
    show carC l (nI c).toNatClampNeg (nI k).toNatClampNeg m q = _
    rw [nI_clamp (by omega), nI_clamp (by omega)]
  rw [e]
  exact c3_carry P cs rr n b sv sf T g ℓ q l sp c k m dg h4
/-- the way through a text -/
def folP (bc : Nat → Nat) (ℓ : Nat) : Nat → Nat → PS → CQ → Bool × (PS × CQ)
  | 0, _, s, q => (true, (s, q))
  | f + 1, j, s, q => if endP bc ℓ j = true then (if (carS (takP s (bc j)).2 q).1 = true then folP bc ℓ f (j + 1) (takP s (bc j)).2 (carS (takP s (bc j)).2 q).2 else (false, ((takP s (bc j)).2, (carS (takP s (bc j)).2 q).2))) else folP bc ℓ f (j + 1) (takP s (bc j)).2 q
/-- what holds on that way -/
def FolI (bc : Nat → Nat) (ℓ : Nat) (FI : Nat → PS → CQ → Prop) : Prop :=
  (∀ j s q, j < ℓ → FI j s q → GP j s ∧ (takP s (bc j)).1 = true) ∧
  (∀ j s q, j < ℓ → FI j s q → endP bc ℓ j = true → CarS (takP s (bc j)).2 q) ∧
  (∀ j s q, j < ℓ → FI j s q → endP bc ℓ j = true → (carS (takP s (bc j)).2 q).1 = true → FI (j + 1) (takP s (bc j)).2 (carS (takP s (bc j)).2 q).2) ∧
  (∀ j s q, j < ℓ → FI j s q → ¬ endP bc ℓ j = true → FI (j + 1) (takP s (bc j)).2 q)
set_option maxHeartbeats 1000000 in
theorem c3_firstError (P : Nat → va_E) (cs sl pl ks rr : Nat → Int32) (n b : Nat) (sv : Nat → Nat) (sf τ : Nat → Int32) (T : Nat → Nat → Int32) (g : PW) (ℓ : Nat) (s0 : PS) {bc : Nat → Nat} (hℓ : ℓ ≤ 60) (hcs : ∀ k, k < ℓ → cs k = nI (bc k) ∧ bc k < 128) : Ct mX3_firstError [.ref 7] (hv P (tE ℓ (s0)) cs sl pl ks rr n b sv sf τ T g) (d1 (some (.int (nI (runP bc ℓ 0 PS0).1))) (hv P (tE ℓ ((runP bc ℓ 0 PS0).2)) cs sl pl ks rr n b sv sf τ T g)) nx := by
  refine ct_of 0 kX3_firstError.1 rfl (Nat.le_of_ble_eq_true rfl) (fun v u h => by obtain ⟨rfl, rfl⟩ := h; exact rfl) ?_
  show Ev _ _ _ 0 0 [(0, .ref 7)] [] _
  refine ev_aload_n 0 dX3_firstError_0 rfl rfl ?_
  refine ev_getfield 0 dX3_firstError_1 foX3_10 rfl rfl ?_
  refine ev_cV0 (c1_find _ _ _ _ _ _ _ _ _ _ _ _ _ _ _ hℓ hcs) kX1_findError rfl g311 rfl rfl rfl rfl dX3_firstError_4 ?_
  exact ev_ireturn dX3_firstError_7 (Nat.le_of_ble_eq_true rfl) ⟨rfl, rfl⟩
set_option maxHeartbeats 1000000 in
theorem x3_follow_1 (P : Nat → va_E) (cs sl pl ks rr : Nat → Int32) (n b : Nat) (sv : Nat → Nat) (sf τ : Nat → Int32) (T : Nat → Nat → Int32) (g : PW) (ℓ : Nat) (s0 : PS) {bc : Nat → Nat} (hℓ : ℓ ≤ 60) (hcs : ∀ k, k < ℓ → cs k = nI (bc k) ∧ bc k < 128) (h : (decide ((runP bc ℓ 0 PS0).1 = ℓ) && decide (0 < (runP bc ℓ 0 PS0).2.digits)) = false) : Ct mX3_follow [.ref 7] (hv P (tE ℓ (s0)) cs sl pl ks rr n b sv sf τ T g) (fun _ _ => False) (pX "java/lang/IllegalArgumentException" (hv P (tE ℓ ((runP bc ℓ 0 PS0).2)) cs sl pl ks rr n b sv sf τ T g)) := by
  refine ct_of 0 kX3_follow.1 rfl (Nat.le_of_ble_eq_true rfl) (fun v u h => h.elim) ?_
  show Ev _ _ _ 0 0 [(0, .ref 7)] [] _
  refine ev_aload_n 0 dX3_follow_0 rfl rfl ?_
  refine ev_getfield 0 dX3_follow_1 foX3_10 rfl rfl ?_
  refine ev_cV0 (c1_tells _ _ _ _ _ _ _ _ _ _ _ _ _ _ _ hℓ hcs) kX1_tellsOrders rfl g914 rfl rfl rfl rfl dX3_follow_4 ?_
  refine ev_if_ne 18 dX3_follow_7 (by decide) (fun h7 => absurd (by rw [h]; rfl) h7) (fun h7 => ?_)
  exact ev_throw (ik := 154) (ic := 156) (ci := 6) ["java/lang/RuntimeException", "java/lang/Exception"] (by decide) (by decide) g700 g70 ta_IA tb_IA tc_IA rfl (by decide) (by decide) (by decide) (by decide) (by intro x hx; cases hx) dX3_follow_10 dX3_follow_13 dX3_follow_14 dX3_follow_17 ⟨rfl, rfl⟩
set_option maxHeartbeats 1000000 in
theorem c3_follow (P : Nat → va_E) (cs rr : Nat → Int32) (n b : Nat) (sv : Nat → Nat) (sf : Nat → Int32) (T : Nat → Nat → Int32) (g : PW) (ℓ : Nat) (q : CQ) (s0 : PS) {bc : Nat → Nat} (hℓ : ℓ ≤ 60) (hcs : ∀ k, k < ℓ → cs k = nI (bc k) ∧ bc k < 128) (h : (decide ((runP bc ℓ 0 PS0).1 = ℓ) && decide (0 < (runP bc ℓ 0 PS0).2.digits)) = true) (FI : Nat → PS → CQ → Prop) (hF : FolI bc ℓ FI) (h0 : FI 0 PS0 q) (hR : (folP bc ℓ ℓ 0 PS0 q).1 = true) (hn : n ≤ 6) (hp : PM b sv) (hB : BF q.1) : Ct mX3_follow [.ref 7] (hv P (tE ℓ s0) cs (q.2.1) (q.2.2.1) (q.2.2.2) rr n b sv sf (q.1) T g) (d1 (some (.int (allS (folP bc ℓ ℓ 0 PS0 q).2.2.1 8))) (hv P (tE 0 (folP bc ℓ ℓ 0 PS0 q).2.1) cs ((folP bc ℓ ℓ 0 PS0 q).2.2.2.1) ((folP bc ℓ ℓ 0 PS0 q).2.2.2.2.1) ((folP bc ℓ ℓ 0 PS0 q).2.2.2.2.2) rr (sN9 n) (sB9 n sv) (sS9 n b sv) sf ((folP bc ℓ ℓ 0 PS0 q).2.2.1) (updT T b q.1) g)) nx := by
  refine ct_of 0 kX3_follow.1 rfl (Nat.le_of_ble_eq_true rfl) (fun v u h => by obtain ⟨rfl, rfl⟩ := h; exact rfl) ?_
  show Ev _ _ _ 0 0 [(0, .ref 7)] [] _
  refine ev_aload_n 0 dX3_follow_0 rfl rfl ?_
  refine ev_getfield 0 dX3_follow_1 foX3_10 rfl rfl ?_
  refine ev_cV0 (c1_tells _ _ _ _ _ _ _ _ _ _ _ _ _ _ _ hℓ hcs) kX1_tellsOrders rfl g914 rfl rfl rfl rfl dX3_follow_4 ?_
  refine ev_if_ne 18 dX3_follow_7 (by decide) (fun h7 => ?_) (fun h7 => absurd h7 (by rw [h]; decide))
  refine ev_aload_n 0 dX3_follow_18 rfl rfl ?_
  refine ev_getfield 8 dX3_follow_19 foX3_45 rfl rfl ?_
  refine ev_aload_n 0 dX3_follow_22 rfl rfl ?_
  refine ev_getfield 7 dX3_follow_23 foX3_41 rfl rfl ?_
  refine ev_cV1v (c3_cpa _ _ _ _ _ _ _ _ _ _ _ _ _ _ hp.2.1 (by have := hp.1; omega) hB) kX0_copyFrom rfl g292 rfl (hv_g0 _ _ _ _ _ _ _ _ _ _ _ _ _ _ hp.2.1) rfl rfl dX3_follow_26 ?_
  refine ev_iconst (nI 1) dX3_follow_29 rfl ?_
  refine ev_istore_n 1 dX3_follow_30 rfl (Nat.le_of_ble_eq_true rfl) rfl ?_
  refine ev_aload_n 0 dX3_follow_31 rfl rfl ?_
  refine ev_getfield 0 dX3_follow_32 foX3_10 rfl rfl ?_
  refine ev_cV0v (c1_start _ _ _ _ _ _ _ _ _ _ _ _ _ _ _) kX1_startPart rfl g919 rfl rfl rfl rfl dX3_follow_35 ?_
  refine ev_iconst (nI 0) dX3_follow_38 rfl ?_
  refine ev_istore_n 2 dX3_follow_39 rfl (Nat.le_of_ble_eq_true rfl) rfl ?_
  have F : ∀ j, Ev mX3_follow (d1 (some (.int (allS (folP bc ℓ ℓ 0 PS0 q).2.2.1 8))) (hv P (tE 0 (folP bc ℓ ℓ 0 PS0 q).2.1) cs ((folP bc ℓ ℓ 0 PS0 q).2.2.2.1) ((folP bc ℓ ℓ 0 PS0 q).2.2.2.2.1) ((folP bc ℓ ℓ 0 PS0 q).2.2.2.2.2) rr (sN9 n) (sB9 n sv) (sS9 n b sv) sf ((folP bc ℓ ℓ 0 PS0 q).2.2.1) (updT T b q.1) g)) nx 0 104 [(2, .int (nI j)), (1, .int (nI 1)), (0, .ref 7)] [] (hv P (tE ℓ (folP bc ℓ ℓ 0 PS0 q).2.1) cs ((folP bc ℓ ℓ 0 PS0 q).2.2.2.1) ((folP bc ℓ ℓ 0 PS0 q).2.2.2.2.1) ((folP bc ℓ ℓ 0 PS0 q).2.2.2.2.2) rr n b sv sf ((folP bc ℓ ℓ 0 PS0 q).2.2.1) (updT T b q.1) g) := by
    intro j
    refine ev_iload_n 1 dX3_follow_104 rfl rfl ?_
    refine ev_if_ne 127 dX3_follow_105 (by decide) (fun h105 => ?_) (fun h105 => absurd h105 (by decide))
    refine ev_aload_n 0 dX3_follow_127 rfl rfl ?_
    refine ev_cV0v (c3_saveBefore _ _ _ _ _ _ _ _ _ _ _ _ _ _ hn hp) kX3_saveBefore rfl g299 rfl rfl rfl rfl dX3_follow_128 ?_
    refine ev_aload_n 0 dX3_follow_131 rfl rfl ?_
    refine ev_getfield 0 dX3_follow_132 foX3_10 rfl rfl ?_
    refine ev_iconst (nI 0) dX3_follow_135 rfl ?_
    refine ev_putfield 1 dX3_follow_136 fpX3_137 rfl (Nat.le_of_ble_eq_true rfl) (fun _ => rfl) (fun _ => rfl) (hv_te _ _ _ _ _ _ _ _ _ _ _ _ _ _ (tE 0 (folP bc ℓ ℓ 0 PS0 q).2.1)) ?_
    refine ev_aload_n 0 dX3_follow_139 rfl rfl ?_
    refine ev_getfield 7 dX3_follow_140 foX3_41 rfl rfl ?_
    refine ev_cV0 (c0_countCalled _ _ _ _ _ _ _) kX0_countCalled rfl g412 rfl rfl rfl rfl dX3_follow_143 ?_
    exact ev_ireturn dX3_follow_146 (Nat.le_of_ble_eq_true rfl) ⟨rfl, rfl⟩
  suffices H : ∀ fu j (s : PS) (q1 : CQ), j + fu = ℓ → FI j s q1 → folP bc ℓ fu j s q1 = folP bc ℓ ℓ 0 PS0 q → Ev mX3_follow (d1 (some (.int (allS (folP bc ℓ ℓ 0 PS0 q).2.2.1 8))) (hv P (tE 0 (folP bc ℓ ℓ 0 PS0 q).2.1) cs ((folP bc ℓ ℓ 0 PS0 q).2.2.2.1) ((folP bc ℓ ℓ 0 PS0 q).2.2.2.2.1) ((folP bc ℓ ℓ 0 PS0 q).2.2.2.2.2) rr (sN9 n) (sB9 n sv) (sS9 n b sv) sf ((folP bc ℓ ℓ 0 PS0 q).2.2.1) (updT T b q.1) g)) nx 0 40 [(2, .int (nI j)), (1, .int (nI 1)), (0, .ref 7)] [] (hv P (tE ℓ s) cs (q1.2.1) (q1.2.2.1) (q1.2.2.2) rr n b sv sf (q1.1) (updT T b q.1) g) from ev_sub [0, 1, 2] rfl (H ℓ 0 PS0 q (Nat.zero_add _) h0 rfl)
  intro fu
  induction fu with
  | zero =>
    intro j s q1 hj hs hw
    obtain rfl : ℓ = j := by omega
    have hw1 : s = (folP bc ℓ ℓ 0 PS0 q).2.1 := by rw [← hw]; rfl
    have hw2 : q1 = (folP bc ℓ ℓ 0 PS0 q).2.2 := by rw [← hw]; rfl
    refine ev_iload_n 1 dX3_follow_40 rfl rfl ?_
    refine ev_if_eq 104 dX3_follow_41 (by decide) (fun h41 => absurd h41 (by decide)) (fun h41 => ?_)
    refine ev_iload_n 2 dX3_follow_44 rfl rfl ?_
    refine ev_aload_n 0 dX3_follow_45 rfl rfl ?_
    refine ev_getfield 0 dX3_follow_46 foX3_10 rfl rfl ?_
    refine ev_getfield 1 dX3_follow_49 foX3_137 rfl rfl ?_
    refine ev_icmp_ge 104 dX3_follow_52 (by decide) (fun h52 => ?_) (fun h52 => absurd (nI_le (Nat.le_refl ℓ) (by omega)) h52)
    refine ev_w (w' := hv P (tE ℓ (folP bc ℓ ℓ 0 PS0 q).2.1) cs ((folP bc ℓ ℓ 0 PS0 q).2.2.2.1) ((folP bc ℓ ℓ 0 PS0 q).2.2.2.2.1) ((folP bc ℓ ℓ 0 PS0 q).2.2.2.2.2) rr n b sv sf ((folP bc ℓ ℓ 0 PS0 q).2.2.1) (updT T b q.1) g) (by rw [← hw1, ← hw2]) ?_
    exact ev_sub [0, 1, 2] rfl (F _)
  | succ fu ih =>
    intro j s q1 hj hs hw
    have hc := hcs j (by omega)
    obtain ⟨g1, g2⟩ := hF.1 j s q1 (by omega) hs
    refine ev_iload_n 1 dX3_follow_40 rfl rfl ?_
    refine ev_if_eq 104 dX3_follow_41 (by decide) (fun h41 => absurd h41 (by decide)) (fun h41 => ?_)
    refine ev_iload_n 2 dX3_follow_44 rfl rfl ?_
    refine ev_aload_n 0 dX3_follow_45 rfl rfl ?_
    refine ev_getfield 0 dX3_follow_46 foX3_10 rfl rfl ?_
    refine ev_getfield 1 dX3_follow_49 foX3_137 rfl rfl ?_
    refine ev_icmp_ge 104 dX3_follow_52 (by decide) (fun h52 => absurd h52 (nI_ge (by omega) (by omega))) (fun h52 => ?_)
    refine ev_aload_n 0 dX3_follow_55 rfl rfl ?_
    refine ev_getfield 0 dX3_follow_56 foX3_10 rfl rfl ?_
    refine ev_aload_n 0 dX3_follow_59 rfl rfl ?_
    refine ev_getfield 0 dX3_follow_60 foX3_10 rfl rfl ?_
    refine ev_getfield 0 dX3_follow_63 foX3_143 rfl rfl ?_
    refine ev_iload_n 2 dX3_follow_66 rfl rfl ?_
    refine ev_ild j dX3_follow_67 rfl rfl (by omega) rfl ?_
    refine ev_top (nI (bc j)) hc.1 ?_
    refine ev_cV1 (c1_take _ _ _ _ _ _ _ _ _ _ _ _ _ _ s g1 (by omega) hc.2) kX1_take rfl g920 rfl rfl rfl rfl dX3_follow_68 ?_
    refine ev_if_eq 96 dX3_follow_71 (by decide) (fun h71 => absurd h71 (by rw [g2]; decide)) (fun h71 => ?_)
    refine ev_aload_n 0 dX3_follow_74 rfl rfl ?_
    refine ev_getfield 0 dX3_follow_75 foX3_10 rfl rfl ?_
    refine ev_iload_n 2 dX3_follow_78 rfl rfl ?_
    refine ev_cV1 (c1_ends _ _ _ _ _ _ _ _ _ _ _ _ _ _ _ hℓ hcs (by omega)) kX1_endsPart rfl g921 rfl rfl rfl rfl dX3_follow_79 ?_
    refine ev_if_eq 92 dX3_follow_82 (by decide) (fun h82 => ?_) (fun h82 => ?_)
    · have e9 : folP bc ℓ (fu + 1) j s q1 = folP bc ℓ fu (j + 1) (takP s (bc j)).2 q1 := if_neg (by rw [bI_0.mp h82]; decide)
      refine ev_iconst (nI 1) dX3_follow_92 rfl ?_
      refine ev_goto 97 dX3_follow_93 (by decide) ?_
      refine ev_istore_n 1 dX3_follow_97 rfl (Nat.le_of_ble_eq_true rfl) rfl ?_
      refine ev_iinc (nI (j + 1)) dX3_follow_98 rfl (nI_1 j) (Nat.le_of_ble_eq_true rfl) rfl ?_
      refine ev_goto 40 dX3_follow_101 (by decide) ?_
      exact ev_sub [0, 1, 2] rfl (ih (j + 1) _ _ (by omega) (hF.2.2.2 j s q1 (by omega) hs (by rw [bI_0.mp h82]; decide)) (by rw [← e9]; exact hw))
    · refine ev_aload_n 0 dX3_follow_85 rfl rfl ?_
      refine ev_cV0 (c3_carryS P cs rr n b sv sf _ g ℓ q1 _ (hF.2.1 j s q1 (by omega) hs (bI_1.mp h82))) kX3_carryOutPart rfl g925 rfl rfl rfl rfl dX3_follow_86 ?_
      refine ev_if_eq 96 dX3_follow_89 (by decide) (fun h89 => ?_) (fun h89 => ?_)
      · have e9 : folP bc ℓ (fu + 1) j s q1 = (false, ((takP s (bc j)).2, (carS (takP s (bc j)).2 q1).2)) := by simp only [folP]; rw [if_pos (bI_1.mp h82), if_neg (by rw [bI_0.mp h89]; decide)]
        rw [← hw, e9] at hR
        cases hR
      · have e9 : folP bc ℓ (fu + 1) j s q1 = folP bc ℓ fu (j + 1) (takP s (bc j)).2 (carS (takP s (bc j)).2 q1).2 := by simp only [folP]; rw [if_pos (bI_1.mp h82), if_pos (bI_1.mp h89)]
        refine ev_iconst (nI 1) dX3_follow_92 rfl ?_
        refine ev_goto 97 dX3_follow_93 (by decide) ?_
        refine ev_istore_n 1 dX3_follow_97 rfl (Nat.le_of_ble_eq_true rfl) rfl ?_
        refine ev_iinc (nI (j + 1)) dX3_follow_98 rfl (nI_1 j) (Nat.le_of_ble_eq_true rfl) rfl ?_
        refine ev_goto 40 dX3_follow_101 (by decide) ?_
        exact ev_sub [0, 1, 2] rfl (ih (j + 1) _ _ (by omega) (hF.2.2.1 j s q1 (by omega) hs (bI_1.mp h82) (bI_1.mp h89)) (by rw [← e9]; exact hw))
set_option maxHeartbeats 1000000 in
theorem x3_follow_2 (P : Nat → va_E) (cs rr : Nat → Int32) (n b : Nat) (sv : Nat → Nat) (sf : Nat → Int32) (T : Nat → Nat → Int32) (g : PW) (ℓ : Nat) (q : CQ) (s0 : PS) {bc : Nat → Nat} (hℓ : ℓ ≤ 60) (hcs : ∀ k, k < ℓ → cs k = nI (bc k) ∧ bc k < 128) (h : (decide ((runP bc ℓ 0 PS0).1 = ℓ) && decide (0 < (runP bc ℓ 0 PS0).2.digits)) = true) (FI : Nat → PS → CQ → Prop) (hF : FolI bc ℓ FI) (h0 : FI 0 PS0 q) (hR : (folP bc ℓ ℓ 0 PS0 q).1 = false) (hp : PM b sv) (hB : BF q.1) : Ct mX3_follow [.ref 7] (hv P (tE ℓ s0) cs (q.2.1) (q.2.2.1) (q.2.2.2) rr n b sv sf (q.1) T g) (fun _ _ => False) (pX "java/lang/IllegalStateException" (hv P (tE ℓ (folP bc ℓ ℓ 0 PS0 q).2.1) cs ((folP bc ℓ ℓ 0 PS0 q).2.2.2.1) ((folP bc ℓ ℓ 0 PS0 q).2.2.2.2.1) ((folP bc ℓ ℓ 0 PS0 q).2.2.2.2.2) rr n b sv sf (q.1) (updT T b q.1) g)) := by
  refine ct_of 0 kX3_follow.1 rfl (Nat.le_of_ble_eq_true rfl) (fun v u h => h.elim) ?_
  show Ev _ _ _ 0 0 [(0, .ref 7)] [] _
  refine ev_aload_n 0 dX3_follow_0 rfl rfl ?_
  refine ev_getfield 0 dX3_follow_1 foX3_10 rfl rfl ?_
  refine ev_cV0 (c1_tells _ _ _ _ _ _ _ _ _ _ _ _ _ _ _ hℓ hcs) kX1_tellsOrders rfl g914 rfl rfl rfl rfl dX3_follow_4 ?_
  refine ev_if_ne 18 dX3_follow_7 (by decide) (fun h7 => ?_) (fun h7 => absurd h7 (by rw [h]; decide))
  refine ev_aload_n 0 dX3_follow_18 rfl rfl ?_
  refine ev_getfield 8 dX3_follow_19 foX3_45 rfl rfl ?_
  refine ev_aload_n 0 dX3_follow_22 rfl rfl ?_
  refine ev_getfield 7 dX3_follow_23 foX3_41 rfl rfl ?_
  refine ev_cV1v (c3_cpa _ _ _ _ _ _ _ _ _ _ _ _ _ _ hp.2.1 (by have := hp.1; omega) hB) kX0_copyFrom rfl g292 rfl (hv_g0 _ _ _ _ _ _ _ _ _ _ _ _ _ _ hp.2.1) rfl rfl dX3_follow_26 ?_
  refine ev_iconst (nI 1) dX3_follow_29 rfl ?_
  refine ev_istore_n 1 dX3_follow_30 rfl (Nat.le_of_ble_eq_true rfl) rfl ?_
  refine ev_aload_n 0 dX3_follow_31 rfl rfl ?_
  refine ev_getfield 0 dX3_follow_32 foX3_10 rfl rfl ?_
  refine ev_cV0v (c1_start _ _ _ _ _ _ _ _ _ _ _ _ _ _ _) kX1_startPart rfl g919 rfl rfl rfl rfl dX3_follow_35 ?_
  refine ev_iconst (nI 0) dX3_follow_38 rfl ?_
  refine ev_istore_n 2 dX3_follow_39 rfl (Nat.le_of_ble_eq_true rfl) rfl ?_
  have F : ∀ j, Ev mX3_follow (fun _ _ => False) (pX "java/lang/IllegalStateException" (hv P (tE ℓ (folP bc ℓ ℓ 0 PS0 q).2.1) cs ((folP bc ℓ ℓ 0 PS0 q).2.2.2.1) ((folP bc ℓ ℓ 0 PS0 q).2.2.2.2.1) ((folP bc ℓ ℓ 0 PS0 q).2.2.2.2.2) rr n b sv sf (q.1) (updT T b q.1) g)) 0 104 [(2, .int (nI j)), (1, .int (nI 0)), (0, .ref 7)] [] (hv P (tE ℓ (folP bc ℓ ℓ 0 PS0 q).2.1) cs ((folP bc ℓ ℓ 0 PS0 q).2.2.2.1) ((folP bc ℓ ℓ 0 PS0 q).2.2.2.2.1) ((folP bc ℓ ℓ 0 PS0 q).2.2.2.2.2) rr n b sv sf ((folP bc ℓ ℓ 0 PS0 q).2.2.1) (updT T b q.1) g) := by
    intro j
    refine ev_iload_n 1 dX3_follow_104 rfl rfl ?_
    refine ev_if_ne 127 dX3_follow_105 (by decide) (fun h105 => absurd rfl h105) (fun h105 => ?_)
    refine ev_aload_n 0 dX3_follow_108 rfl rfl ?_
    refine ev_getfield 7 dX3_follow_109 foX3_41 rfl rfl ?_
    refine ev_aload_n 0 dX3_follow_112 rfl rfl ?_
    refine ev_getfield 8 dX3_follow_113 foX3_45 rfl rfl ?_
    refine ev_cV1v (c3_cpn _ _ _ _ _ _ _ _ _ _ _ _ _ _ (a := b) hp.2.1 (by have := hp.1; omega) (by rw [updT_s]; exact hB)) kX0_copyFrom rfl g292 rfl rfl rfl rfl dX3_follow_116 ?_
    refine ev_w (w' := hv P (tE ℓ (folP bc ℓ ℓ 0 PS0 q).2.1) cs ((folP bc ℓ ℓ 0 PS0 q).2.2.2.1) ((folP bc ℓ ℓ 0 PS0 q).2.2.2.2.1) ((folP bc ℓ ℓ 0 PS0 q).2.2.2.2.2) rr n b sv sf (q.1) (updT T b q.1) g) (by rw [updT_s]) ?_
    exact ev_throw (ik := 140) (ic := 142) (ci := 7) ["java/lang/RuntimeException", "java/lang/Exception"] (by decide) (by decide) g763 g72 ta_IS tb_IS tc_IS rfl (by decide) (by decide) (by decide) (by decide) (by intro x hx; cases hx) dX3_follow_119 dX3_follow_122 dX3_follow_123 dX3_follow_126 ⟨rfl, rfl⟩
  suffices H : ∀ fu j (s : PS) (q1 : CQ), j + fu = ℓ → FI j s q1 → folP bc ℓ fu j s q1 = folP bc ℓ ℓ 0 PS0 q → Ev mX3_follow (fun _ _ => False) (pX "java/lang/IllegalStateException" (hv P (tE ℓ (folP bc ℓ ℓ 0 PS0 q).2.1) cs ((folP bc ℓ ℓ 0 PS0 q).2.2.2.1) ((folP bc ℓ ℓ 0 PS0 q).2.2.2.2.1) ((folP bc ℓ ℓ 0 PS0 q).2.2.2.2.2) rr n b sv sf (q.1) (updT T b q.1) g)) 0 40 [(2, .int (nI j)), (1, .int (nI 1)), (0, .ref 7)] [] (hv P (tE ℓ s) cs (q1.2.1) (q1.2.2.1) (q1.2.2.2) rr n b sv sf (q1.1) (updT T b q.1) g) from ev_sub [0, 1, 2] rfl (H ℓ 0 PS0 q (Nat.zero_add _) h0 rfl)
  intro fu
  induction fu with
  | zero =>
    intro j s q1 hj hs hw
    obtain rfl : ℓ = j := by omega
    rw [← hw] at hR
    cases hR
  | succ fu ih =>
    intro j s q1 hj hs hw
    have hc := hcs j (by omega)
    obtain ⟨g1, g2⟩ := hF.1 j s q1 (by omega) hs
    refine ev_iload_n 1 dX3_follow_40 rfl rfl ?_
    refine ev_if_eq 104 dX3_follow_41 (by decide) (fun h41 => absurd h41 (by decide)) (fun h41 => ?_)
    refine ev_iload_n 2 dX3_follow_44 rfl rfl ?_
    refine ev_aload_n 0 dX3_follow_45 rfl rfl ?_
    refine ev_getfield 0 dX3_follow_46 foX3_10 rfl rfl ?_
    refine ev_getfield 1 dX3_follow_49 foX3_137 rfl rfl ?_
    refine ev_icmp_ge 104 dX3_follow_52 (by decide) (fun h52 => absurd h52 (nI_ge (by omega) (by omega))) (fun h52 => ?_)
    refine ev_aload_n 0 dX3_follow_55 rfl rfl ?_
    refine ev_getfield 0 dX3_follow_56 foX3_10 rfl rfl ?_
    refine ev_aload_n 0 dX3_follow_59 rfl rfl ?_
    refine ev_getfield 0 dX3_follow_60 foX3_10 rfl rfl ?_
    refine ev_getfield 0 dX3_follow_63 foX3_143 rfl rfl ?_
    refine ev_iload_n 2 dX3_follow_66 rfl rfl ?_
    refine ev_ild j dX3_follow_67 rfl rfl (by omega) rfl ?_
    refine ev_top (nI (bc j)) hc.1 ?_
    refine ev_cV1 (c1_take _ _ _ _ _ _ _ _ _ _ _ _ _ _ s g1 (by omega) hc.2) kX1_take rfl g920 rfl rfl rfl rfl dX3_follow_68 ?_
    refine ev_if_eq 96 dX3_follow_71 (by decide) (fun h71 => absurd h71 (by rw [g2]; decide)) (fun h71 => ?_)
    refine ev_aload_n 0 dX3_follow_74 rfl rfl ?_
    refine ev_getfield 0 dX3_follow_75 foX3_10 rfl rfl ?_
    refine ev_iload_n 2 dX3_follow_78 rfl rfl ?_
    refine ev_cV1 (c1_ends _ _ _ _ _ _ _ _ _ _ _ _ _ _ _ hℓ hcs (by omega)) kX1_endsPart rfl g921 rfl rfl rfl rfl dX3_follow_79 ?_
    refine ev_if_eq 92 dX3_follow_82 (by decide) (fun h82 => ?_) (fun h82 => ?_)
    · have e9 : folP bc ℓ (fu + 1) j s q1 = folP bc ℓ fu (j + 1) (takP s (bc j)).2 q1 := if_neg (by rw [bI_0.mp h82]; decide)
      refine ev_iconst (nI 1) dX3_follow_92 rfl ?_
      refine ev_goto 97 dX3_follow_93 (by decide) ?_
      refine ev_istore_n 1 dX3_follow_97 rfl (Nat.le_of_ble_eq_true rfl) rfl ?_
      refine ev_iinc (nI (j + 1)) dX3_follow_98 rfl (nI_1 j) (Nat.le_of_ble_eq_true rfl) rfl ?_
      refine ev_goto 40 dX3_follow_101 (by decide) ?_
      exact ev_sub [0, 1, 2] rfl (ih (j + 1) _ _ (by omega) (hF.2.2.2 j s q1 (by omega) hs (by rw [bI_0.mp h82]; decide)) (by rw [← e9]; exact hw))
    · refine ev_aload_n 0 dX3_follow_85 rfl rfl ?_
      refine ev_cV0 (c3_carryS P cs rr n b sv sf _ g ℓ q1 _ (hF.2.1 j s q1 (by omega) hs (bI_1.mp h82))) kX3_carryOutPart rfl g925 rfl rfl rfl rfl dX3_follow_86 ?_
      refine ev_if_eq 96 dX3_follow_89 (by decide) (fun h89 => ?_) (fun h89 => ?_)
      · have e9 : folP bc ℓ (fu + 1) j s q1 = (false, ((takP s (bc j)).2, (carS (takP s (bc j)).2 q1).2)) := by simp only [folP]; rw [if_pos (bI_1.mp h82), if_neg (by rw [bI_0.mp h89]; decide)]
        have hw1 : (takP s (bc j)).2 = (folP bc ℓ ℓ 0 PS0 q).2.1 := by rw [← hw, e9]
        have hw2 : (carS (takP s (bc j)).2 q1).2 = (folP bc ℓ ℓ 0 PS0 q).2.2 := by rw [← hw, e9]
        refine ev_iconst (nI 0) dX3_follow_96 rfl ?_
        refine ev_istore_n 1 dX3_follow_97 rfl (Nat.le_of_ble_eq_true rfl) rfl ?_
        refine ev_iinc (nI (j + 1)) dX3_follow_98 rfl (nI_1 j) (Nat.le_of_ble_eq_true rfl) rfl ?_
        refine ev_goto 40 dX3_follow_101 (by decide) ?_
        refine ev_iload_n 1 dX3_follow_40 rfl rfl ?_
        refine ev_if_eq 104 dX3_follow_41 (by decide) (fun h41 => ?_) (fun h41 => absurd rfl h41)
        refine ev_w (w' := hv P (tE ℓ (folP bc ℓ ℓ 0 PS0 q).2.1) cs ((folP bc ℓ ℓ 0 PS0 q).2.2.2.1) ((folP bc ℓ ℓ 0 PS0 q).2.2.2.2.1) ((folP bc ℓ ℓ 0 PS0 q).2.2.2.2.2) rr n b sv sf ((folP bc ℓ ℓ 0 PS0 q).2.2.1) (updT T b q.1) g) (by rw [← hw1, ← hw2]) ?_
        exact ev_sub [0, 1, 2] rfl (F _)
      · have e9 : folP bc ℓ (fu + 1) j s q1 = folP bc ℓ fu (j + 1) (takP s (bc j)).2 (carS (takP s (bc j)).2 q1).2 := by simp only [folP]; rw [if_pos (bI_1.mp h82), if_pos (bI_1.mp h89)]
        refine ev_iconst (nI 1) dX3_follow_92 rfl ?_
        refine ev_goto 97 dX3_follow_93 (by decide) ?_
        refine ev_istore_n 1 dX3_follow_97 rfl (Nat.le_of_ble_eq_true rfl) rfl ?_
        refine ev_iinc (nI (j + 1)) dX3_follow_98 rfl (nI_1 j) (Nat.le_of_ble_eq_true rfl) rfl ?_
        refine ev_goto 40 dX3_follow_101 (by decide) ?_
        exact ev_sub [0, 1, 2] rfl (ih (j + 1) _ _ (by omega) (hF.2.2.1 j s q1 (by omega) hs (bI_1.mp h82) (bI_1.mp h89)) (by rw [← e9]; exact hw))
