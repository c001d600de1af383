/-! ===== the law: its own methods ===== -/
set_option maxHeartbeats 1000000 in
theorem lk_setPrice {w u : PW} {p q : Int32} {fs : List Value} (hw : w[7]? = some (.inr (3, fs))) {r : Int32} {fo : Nat → Int64} (ho : u[107]? = some (oc fo)) (hc : Ct mX3_setPrice [.ref 7, .int p, .int q] w (d1 (some (.int r)) u) nx) : Ct mL_setPrice [.ref 7, .int p, .int q, .ref 107] w (d1 (some (.int (nI 0))) (u.set 107 (oc (vp_updL fo 0 r.toInt64)))) nx := by
  refine ct_ofH 4 kL_setPrice.1 (by simp) rfl (Nat.le_of_ble_eq_true rfl) (fun v u h => ⟨_, h.1⟩) (fun _ _ h => h.elim) ?_
  show Ev _ _ _ 0 0 [(0, .ref 7), (1, .int p), (2, .int q), (3, .ref 107)] [] _
  refine ev_aload_n 3 dL_setPrice_0 rfl rfl ?_
  refine ev_iconst (nI 0) dL_setPrice_1 rfl ?_
  refine ev_aload_n 0 dL_setPrice_2 rfl rfl ?_
  refine ev_iload_n 1 dL_setPrice_3 rfl rfl ?_
  refine ev_iload_n 2 dL_setPrice_4 rfl rfl ?_
  refine ev_kV2 hc kX3_setPrice g627 rfl hw rfl rfl dL_setPrice_5 ?_
  refine ev_i2l dL_setPrice_8 ?_
  refine ev_las dL_setPrice_9 ho rfl ?_
  refine ev_goto 21 dL_setPrice_10 (by decide) ?_
  refine ev_iconst (nI 0) dL_setPrice_21 rfl ?_
  exact ev_ireturn dL_setPrice_22 (Nat.le_of_ble_eq_true rfl) ⟨rfl, rfl⟩
set_option maxHeartbeats 1000000 in
theorem lx_setPrice_1 {w u : PW} {p q : Int32} {fs : List Value} (hw : w[7]? = some (.inr (3, fs))) (hc : Ct mX3_setPrice [.ref 7, .int p, .int q] w (fun _ _ => False) (pX "java/lang/IndexOutOfBoundsException" u)) : Ct mL_setPrice [.ref 7, .int p, .int q, .ref 107] w (d1 (some (.int (nI 1))) (u)) nx := by
  refine ct_ofH 4 kL_setPrice.1 (by simp) rfl (Nat.le_of_ble_eq_true rfl) (fun v u h => ⟨_, h.1⟩) (fun _ _ h => h.elim) ?_
  show Ev _ _ _ 0 0 [(0, .ref 7), (1, .int p), (2, .int q), (3, .ref 107)] [] _
  refine ev_aload_n 3 dL_setPrice_0 rfl rfl ?_
  refine ev_iconst (nI 0) dL_setPrice_1 rfl ?_
  refine ev_aload_n 0 dL_setPrice_2 rfl rfl ?_
  refine ev_iload_n 1 dL_setPrice_3 rfl rfl ?_
  refine ev_iload_n 2 dL_setPrice_4 rfl rfl ?_
  refine ev_xV2 hc kX3_setPrice g627 rfl hw rfl rfl dL_setPrice_5 ?_
  exact evx_catch [] (te9 (0, 10, 13, 13)) [te9 (0, 10, 17, 15)] rfl (fun z hz => absurd hz List.not_mem_nil) (by decide) (by decide) g625 (by decide) (nI 1) (fun _ _ => trivial) (Or.inr ⟨4, dL_setPrice_13, by decide, _, dL_setPrice_15, rfl, dL_setPrice_16⟩) (Nat.le_of_ble_eq_true rfl) ⟨rfl, rfl⟩
set_option maxHeartbeats 1000000 in
theorem lx_setPrice_2 {w u : PW} {p q : Int32} {fs : List Value} (hw : w[7]? = some (.inr (3, fs))) (hc : Ct mX3_setPrice [.ref 7, .int p, .int q] w (fun _ _ => False) (pX "java/lang/IllegalArgumentException" u)) : Ct mL_setPrice [.ref 7, .int p, .int q, .ref 107] w (d1 (some (.int (nI 2))) (u)) nx := by
  refine ct_ofH 4 kL_setPrice.1 (by simp) rfl (Nat.le_of_ble_eq_true rfl) (fun v u h => ⟨_, h.1⟩) (fun _ _ h => h.elim) ?_
  show Ev _ _ _ 0 0 [(0, .ref 7), (1, .int p), (2, .int q), (3, .ref 107)] [] _
  refine ev_aload_n 3 dL_setPrice_0 rfl rfl ?_
  refine ev_iconst (nI 0) dL_setPrice_1 rfl ?_
  refine ev_aload_n 0 dL_setPrice_2 rfl rfl ?_
  refine ev_iload_n 1 dL_setPrice_3 rfl rfl ?_
  refine ev_iload_n 2 dL_setPrice_4 rfl rfl ?_
  refine ev_xV2 hc kX3_setPrice g627 rfl hw rfl rfl dL_setPrice_5 ?_
  exact evx_catch [te9 (0, 10, 13, 13)] (te9 (0, 10, 17, 15)) [] rfl (fun z hz => by
    simp only [List.mem_cons, List.not_mem_nil, or_false] at hz
    subst hz
    exact ⟨by decide, _, g625, fun _ _ _ _ h => h.2.2.1.1⟩) (by decide) (by decide) g626 (by decide) (nI 2) (fun _ _ => trivial) (Or.inr ⟨4, dL_setPrice_17, by decide, _, dL_setPrice_19, rfl, dL_setPrice_20⟩) (Nat.le_of_ble_eq_true rfl) ⟨rfl, rfl⟩
set_option maxHeartbeats 1000000 in
theorem lk_setCut {w u : PW} {p q : Int32} {fs : List Value} (hw : w[7]? = some (.inr (3, fs))) {r : Int32} {fo : Nat → Int64} (ho : u[107]? = some (oc fo)) (hc : Ct mX3_setCut [.ref 7, .int p, .int q] w (d1 (some (.int r)) u) nx) : Ct mL_setCut [.ref 7, .int p, .int q, .ref 107] w (d1 (some (.int (nI 0))) (u.set 107 (oc (vp_updL fo 0 r.toInt64)))) nx := by
  refine ct_ofH 4 kL_setCut.1 (by simp) rfl (Nat.le_of_ble_eq_true rfl) (fun v u h => ⟨_, h.1⟩) (fun _ _ h => h.elim) ?_
  show Ev _ _ _ 0 0 [(0, .ref 7), (1, .int p), (2, .int q), (3, .ref 107)] [] _
  refine ev_aload_n 3 dL_setCut_0 rfl rfl ?_
  refine ev_iconst (nI 0) dL_setCut_1 rfl ?_
  refine ev_aload_n 0 dL_setCut_2 rfl rfl ?_
  refine ev_iload_n 1 dL_setCut_3 rfl rfl ?_
  refine ev_iload_n 2 dL_setCut_4 rfl rfl ?_
  refine ev_kV2 hc kX3_setCut g726 rfl hw rfl rfl dL_setCut_5 ?_
  refine ev_i2l dL_setCut_8 ?_
  refine ev_las dL_setCut_9 ho rfl ?_
  refine ev_goto 21 dL_setCut_10 (by decide) ?_
  refine ev_iconst (nI 0) dL_setCut_21 rfl ?_
  exact ev_ireturn dL_setCut_22 (Nat.le_of_ble_eq_true rfl) ⟨rfl, rfl⟩
set_option maxHeartbeats 1000000 in
theorem lx_setCut_1 {w u : PW} {p q : Int32} {fs : List Value} (hw : w[7]? = some (.inr (3, fs))) (hc : Ct mX3_setCut [.ref 7, .int p, .int q] w (fun _ _ => False) (pX "java/lang/IndexOutOfBoundsException" u)) : Ct mL_setCut [.ref 7, .int p, .int q, .ref 107] w (d1 (some (.int (nI 1))) (u)) nx := by
  refine ct_ofH 4 kL_setCut.1 (by simp) rfl (Nat.le_of_ble_eq_true rfl) (fun v u h => ⟨_, h.1⟩) (fun _ _ h => h.elim) ?_
  show Ev _ _ _ 0 0 [(0, .ref 7), (1, .int p), (2, .int q), (3, .ref 107)] [] _
  refine ev_aload_n 3 dL_setCut_0 rfl rfl ?_
  refine ev_iconst (nI 0) dL_setCut_1 rfl ?_
  refine ev_aload_n 0 dL_setCut_2 rfl rfl ?_
  refine ev_iload_n 1 dL_setCut_3 rfl rfl ?_
  refine ev_iload_n 2 dL_setCut_4 rfl rfl ?_
  refine ev_xV2 hc kX3_setCut g726 rfl hw rfl rfl dL_setCut_5 ?_
  exact evx_catch [] (te9 (0, 10, 13, 13)) [te9 (0, 10, 17, 15)] rfl (fun z hz => absurd hz List.not_mem_nil) (by decide) (by decide) g625 (by decide) (nI 1) (fun _ _ => trivial) (Or.inr ⟨4, dL_setCut_13, by decide, _, dL_setCut_15, rfl, dL_setCut_16⟩) (Nat.le_of_ble_eq_true rfl) ⟨rfl, rfl⟩
set_option maxHeartbeats 1000000 in
theorem lx_setCut_2 {w u : PW} {p q : Int32} {fs : List Value} (hw : w[7]? = some (.inr (3, fs))) (hc : Ct mX3_setCut [.ref 7, .int p, .int q] w (fun _ _ => False) (pX "java/lang/IllegalArgumentException" u)) : Ct mL_setCut [.ref 7, .int p, .int q, .ref 107] w (d1 (some (.int (nI 2))) (u)) nx := by
  refine ct_ofH 4 kL_setCut.1 (by simp) rfl (Nat.le_of_ble_eq_true rfl) (fun v u h => ⟨_, h.1⟩) (fun _ _ h => h.elim) ?_
  show Ev _ _ _ 0 0 [(0, .ref 7), (1, .int p), (2, .int q), (3, .ref 107)] [] _
  refine ev_aload_n 3 dL_setCut_0 rfl rfl ?_
  refine ev_iconst (nI 0) dL_setCut_1 rfl ?_
  refine ev_aload_n 0 dL_setCut_2 rfl rfl ?_
  refine ev_iload_n 1 dL_setCut_3 rfl rfl ?_
  refine ev_iload_n 2 dL_setCut_4 rfl rfl ?_
  refine ev_xV2 hc kX3_setCut g726 rfl hw rfl rfl dL_setCut_5 ?_
  exact evx_catch [te9 (0, 10, 13, 13)] (te9 (0, 10, 17, 15)) [] rfl (fun z hz => by
    simp only [List.mem_cons, List.not_mem_nil, or_false] at hz
    subst hz
    exact ⟨by decide, _, g625, fun _ _ _ _ h => h.2.2.1.1⟩) (by decide) (by decide) g626 (by decide) (nI 2) (fun _ _ => trivial) (Or.inr ⟨4, dL_setCut_17, by decide, _, dL_setCut_19, rfl, dL_setCut_20⟩) (Nat.le_of_ble_eq_true rfl) ⟨rfl, rfl⟩
set_option maxHeartbeats 1000000 in
theorem lk_fall {w u : PW} {p : Int32} {fs : List Value} (hw : w[7]? = some (.inr (3, fs))) {r : Int32} {fo : Nat → Int64} (ho : u[107]? = some (oc fo)) (hc : Ct mX3_fall [.ref 7, .int p] w (d1 (some (.int r)) u) nx) : Ct mL_fall [.ref 7, .int p, .ref 107] w (d1 (some (.int (nI 0))) (u.set 107 (oc (vp_updL fo 0 r.toInt64)))) nx := by
  refine ct_ofH 3 kL_fall.1 (by simp) rfl (Nat.le_of_ble_eq_true rfl) (fun v u h => ⟨_, h.1⟩) (fun _ _ h => h.elim) ?_
  show Ev _ _ _ 0 0 [(0, .ref 7), (1, .int p), (2, .ref 107)] [] _
  refine ev_aload_n 2 dL_fall_0 rfl rfl ?_
  refine ev_iconst (nI 0) dL_fall_1 rfl ?_
  refine ev_aload_n 0 dL_fall_2 rfl rfl ?_
  refine ev_iload_n 1 dL_fall_3 rfl rfl ?_
  refine ev_kV1 hc kX3_fall g737 rfl hw rfl rfl dL_fall_4 ?_
  refine ev_i2l dL_fall_7 ?_
  refine ev_las dL_fall_8 ho rfl ?_
  refine ev_goto 15 dL_fall_9 (by decide) ?_
  refine ev_iconst (nI 0) dL_fall_15 rfl ?_
  exact ev_ireturn dL_fall_16 (Nat.le_of_ble_eq_true rfl) ⟨rfl, rfl⟩
set_option maxHeartbeats 1000000 in
theorem lx_fall_1 {w u : PW} {p : Int32} {fs : List Value} (hw : w[7]? = some (.inr (3, fs))) (hc : Ct mX3_fall [.ref 7, .int p] w (fun _ _ => False) (pX "java/lang/IllegalArgumentException" u)) : Ct mL_fall [.ref 7, .int p, .ref 107] w (d1 (some (.int (nI 1))) (u)) nx := by
  refine ct_ofH 3 kL_fall.1 (by simp) rfl (Nat.le_of_ble_eq_true rfl) (fun v u h => ⟨_, h.1⟩) (fun _ _ h => h.elim) ?_
  show Ev _ _ _ 0 0 [(0, .ref 7), (1, .int p), (2, .ref 107)] [] _
  refine ev_aload_n 2 dL_fall_0 rfl rfl ?_
  refine ev_iconst (nI 0) dL_fall_1 rfl ?_
  refine ev_aload_n 0 dL_fall_2 rfl rfl ?_
  refine ev_iload_n 1 dL_fall_3 rfl rfl ?_
  refine ev_xV1 hc kX3_fall g737 rfl hw rfl rfl dL_fall_4 ?_
  exact evx_catch [] (te9 (0, 9, 12, 15)) [] rfl (fun z hz => absurd hz List.not_mem_nil) (by decide) (by decide) g626 (by decide) (nI 1) (fun _ _ => trivial) (Or.inl ⟨3, dL_fall_12, by decide, _, dL_fall_13, rfl, dL_fall_14⟩) (Nat.le_of_ble_eq_true rfl) ⟨rfl, rfl⟩
set_option maxHeartbeats 1000000 in
theorem lk_pledge {w u : PW} {p q m : Int32} {fs : List Value} (hw : w[7]? = some (.inr (3, fs))) {r : Int32} {fo : Nat → Int64} (ho : u[107]? = some (oc fo)) (hc : Ct mX3_pledge [.ref 7, .int p, .int q, .int m] w (d1 (some (.int r)) u) nx) : Ct mL_pledge [.ref 7, .int p, .int q, .int m, .ref 107] w (d1 (some (.int (nI 0))) (u.set 107 (oc (vp_updL fo 0 r.toInt64)))) nx := by
  refine ct_ofH 5 kL_pledge.1 (by simp) rfl (Nat.le_of_ble_eq_true rfl) (fun v u h => ⟨_, h.1⟩) (fun _ _ h => h.elim) ?_
  show Ev _ _ _ 0 0 [(0, .ref 7), (1, .int p), (2, .int q), (3, .int m), (4, .ref 107)] [] _
  refine ev_aload dL_pledge_0 rfl ?_
  refine ev_iconst (nI 0) dL_pledge_2 rfl ?_
  refine ev_aload_n 0 dL_pledge_3 rfl rfl ?_
  refine ev_iload_n 1 dL_pledge_4 rfl rfl ?_
  refine ev_iload_n 2 dL_pledge_5 rfl rfl ?_
  refine ev_iload_n 3 dL_pledge_6 rfl rfl ?_
  refine ev_kV3 hc kX3_pledge g749 rfl hw rfl rfl dL_pledge_7 ?_
  refine ev_i2l dL_pledge_10 ?_
  refine ev_las dL_pledge_11 ho rfl ?_
  refine ev_goto 27 dL_pledge_12 (by decide) ?_
  refine ev_iconst (nI 0) dL_pledge_27 rfl ?_
  exact ev_ireturn dL_pledge_28 (Nat.le_of_ble_eq_true rfl) ⟨rfl, rfl⟩
set_option maxHeartbeats 1000000 in
theorem lx_pledge_1 {w u : PW} {p q m : Int32} {fs : List Value} (hw : w[7]? = some (.inr (3, fs))) (hc : Ct mX3_pledge [.ref 7, .int p, .int q, .int m] w (fun _ _ => False) (pX "java/lang/IndexOutOfBoundsException" u)) : Ct mL_pledge [.ref 7, .int p, .int q, .int m, .ref 107] w (d1 (some (.int (nI 1))) (u)) nx := by
  refine ct_ofH 5 kL_pledge.1 (by simp) rfl (Nat.le_of_ble_eq_true rfl) (fun v u h => ⟨_, h.1⟩) (fun _ _ h => h.elim) ?_
  show Ev _ _ _ 0 0 [(0, .ref 7), (1, .int p), (2, .int q), (3, .int m), (4, .ref 107)] [] _
  refine ev_aload dL_pledge_0 rfl ?_
  refine ev_iconst (nI 0) dL_pledge_2 rfl ?_
  refine ev_aload_n 0 dL_pledge_3 rfl rfl ?_
  refine ev_iload_n 1 dL_pledge_4 rfl rfl ?_
  refine ev_iload_n 2 dL_pledge_5 rfl rfl ?_
  refine ev_iload_n 3 dL_pledge_6 rfl rfl ?_
  refine ev_xV3 hc kX3_pledge g749 rfl hw rfl rfl dL_pledge_7 ?_
  exact evx_catch [] (te9 (0, 12, 15, 13)) [te9 (0, 12, 19, 15), te9 (0, 12, 23, 28)] rfl (fun z hz => absurd hz List.not_mem_nil) (by decide) (by decide) g625 (by decide) (nI 1) (fun _ _ => trivial) (Or.inr ⟨5, dL_pledge_15, by decide, _, dL_pledge_17, rfl, dL_pledge_18⟩) (Nat.le_of_ble_eq_true rfl) ⟨rfl, rfl⟩
set_option maxHeartbeats 1000000 in
theorem lx_pledge_2 {w u : PW} {p q m : Int32} {fs : List Value} (hw : w[7]? = some (.inr (3, fs))) (hc : Ct mX3_pledge [.ref 7, .int p, .int q, .int m] w (fun _ _ => False) (pX "java/lang/IllegalArgumentException" u)) : Ct mL_pledge [.ref 7, .int p, .int q, .int m, .ref 107] w (d1 (some (.int (nI 2))) (u)) nx := by
  refine ct_ofH 5 kL_pledge.1 (by simp) rfl (Nat.le_of_ble_eq_true rfl) (fun v u h => ⟨_, h.1⟩) (fun _ _ h => h.elim) ?_
  show Ev _ _ _ 0 0 [(0, .ref 7), (1, .int p), (2, .int q), (3, .int m), (4, .ref 107)] [] _
  refine ev_aload dL_pledge_0 rfl ?_
  refine ev_iconst (nI 0) dL_pledge_2 rfl ?_
  refine ev_aload_n 0 dL_pledge_3 rfl rfl ?_
  refine ev_iload_n 1 dL_pledge_4 rfl rfl ?_
  refine ev_iload_n 2 dL_pledge_5 rfl rfl ?_
  refine ev_iload_n 3 dL_pledge_6 rfl rfl ?_
  refine ev_xV3 hc kX3_pledge g749 rfl hw rfl rfl dL_pledge_7 ?_
  exact evx_catch [te9 (0, 12, 15, 13)] (te9 (0, 12, 19, 15)) [te9 (0, 12, 23, 28)] rfl (fun z hz => by
    simp only [List.mem_cons, List.not_mem_nil, or_false] at hz
    subst hz
    exact ⟨by decide, _, g625, fun _ _ _ _ h => h.2.2.1.1⟩) (by decide) (by decide) g626 (by decide) (nI 2) (fun _ _ => trivial) (Or.inr ⟨5, dL_pledge_19, by decide, _, dL_pledge_21, rfl, dL_pledge_22⟩) (Nat.le_of_ble_eq_true rfl) ⟨rfl, rfl⟩
set_option maxHeartbeats 1000000 in
theorem lx_pledge_3 {w u : PW} {p q m : Int32} {fs : List Value} (hw : w[7]? = some (.inr (3, fs))) (hc : Ct mX3_pledge [.ref 7, .int p, .int q, .int m] w (fun _ _ => False) (pX "java/lang/IllegalStateException" u)) : Ct mL_pledge [.ref 7, .int p, .int q, .int m, .ref 107] w (d1 (some (.int (nI 3))) (u)) nx := by
  refine ct_ofH 5 kL_pledge.1 (by simp) rfl (Nat.le_of_ble_eq_true rfl) (fun v u h => ⟨_, h.1⟩) (fun _ _ h => h.elim) ?_
  show Ev _ _ _ 0 0 [(0, .ref 7), (1, .int p), (2, .int q), (3, .int m), (4, .ref 107)] [] _
  refine ev_aload dL_pledge_0 rfl ?_
  refine ev_iconst (nI 0) dL_pledge_2 rfl ?_
  refine ev_aload_n 0 dL_pledge_3 rfl rfl ?_
  refine ev_iload_n 1 dL_pledge_4 rfl rfl ?_
  refine ev_iload_n 2 dL_pledge_5 rfl rfl ?_
  refine ev_iload_n 3 dL_pledge_6 rfl rfl ?_
  refine ev_xV3 hc kX3_pledge g749 rfl hw rfl rfl dL_pledge_7 ?_
  exact evx_catch [te9 (0, 12, 15, 13), te9 (0, 12, 19, 15)] (te9 (0, 12, 23, 28)) [] rfl (fun z hz => by
    simp only [List.mem_cons, List.not_mem_nil, or_false] at hz
    rcases hz with rfl | rfl
    · exact ⟨by decide, _, g625, fun _ _ _ _ h => h.2.2.1.2.1⟩
    · exact ⟨by decide, _, g626, fun _ _ _ _ h => h.2.2.1.2.2⟩) (by decide) (by decide) g748 (by decide) (nI 3) (fun _ _ => trivial) (Or.inr ⟨5, dL_pledge_23, by decide, _, dL_pledge_25, rfl, dL_pledge_26⟩) (Nat.le_of_ble_eq_true rfl) ⟨rfl, rfl⟩
set_option maxHeartbeats 1000000 in
theorem lk_release {w u : PW} {p q m : Int32} {fs : List Value} (hw : w[7]? = some (.inr (3, fs))) {r : Int32} {fo : Nat → Int64} (ho : u[107]? = some (oc fo)) (hc : Ct mX3_release [.ref 7, .int p, .int q, .int m] w (d1 (some (.int r)) u) nx) : Ct mL_release [.ref 7, .int p, .int q, .int m, .ref 107] w (d1 (some (.int (nI 0))) (u.set 107 (oc (vp_updL fo 0 r.toInt64)))) nx := by
  refine ct_ofH 5 kL_release.1 (by simp) rfl (Nat.le_of_ble_eq_true rfl) (fun v u h => ⟨_, h.1⟩) (fun _ _ h => h.elim) ?_
  show Ev _ _ _ 0 0 [(0, .ref 7), (1, .int p), (2, .int q), (3, .int m), (4, .ref 107)] [] _
  refine ev_aload dL_release_0 rfl ?_
  refine ev_iconst (nI 0) dL_release_2 rfl ?_
  refine ev_aload_n 0 dL_release_3 rfl rfl ?_
  refine ev_iload_n 1 dL_release_4 rfl rfl ?_
  refine ev_iload_n 2 dL_release_5 rfl rfl ?_
  refine ev_iload_n 3 dL_release_6 rfl rfl ?_
  refine ev_kV3 hc kX3_release g781 rfl hw rfl rfl dL_release_7 ?_
  refine ev_i2l dL_release_10 ?_
  refine ev_las dL_release_11 ho rfl ?_
  refine ev_goto 27 dL_release_12 (by decide) ?_
  refine ev_iconst (nI 0) dL_release_27 rfl ?_
  exact ev_ireturn dL_release_28 (Nat.le_of_ble_eq_true rfl) ⟨rfl, rfl⟩
set_option maxHeartbeats 1000000 in
theorem lx_release_1 {w u : PW} {p q m : Int32} {fs : List Value} (hw : w[7]? = some (.inr (3, fs))) (hc : Ct mX3_release [.ref 7, .int p, .int q, .int m] w (fun _ _ => False) (pX "java/lang/IndexOutOfBoundsException" u)) : Ct mL_release [.ref 7, .int p, .int q, .int m, .ref 107] w (d1 (some (.int (nI 1))) (u)) nx := by
  refine ct_ofH 5 kL_release.1 (by simp) rfl (Nat.le_of_ble_eq_true rfl) (fun v u h => ⟨_, h.1⟩) (fun _ _ h => h.elim) ?_
  show Ev _ _ _ 0 0 [(0, .ref 7), (1, .int p), (2, .int q), (3, .int m), (4, .ref 107)] [] _
  refine ev_aload dL_release_0 rfl ?_
  refine ev_iconst (nI 0) dL_release_2 rfl ?_
  refine ev_aload_n 0 dL_release_3 rfl rfl ?_
  refine ev_iload_n 1 dL_release_4 rfl rfl ?_
  refine ev_iload_n 2 dL_release_5 rfl rfl ?_
  refine ev_iload_n 3 dL_release_6 rfl rfl ?_
  refine ev_xV3 hc kX3_release g781 rfl hw rfl rfl dL_release_7 ?_
  exact evx_catch [] (te9 (0, 12, 15, 13)) [te9 (0, 12, 19, 15), te9 (0, 12, 23, 28)] rfl (fun z hz => absurd hz List.not_mem_nil) (by decide) (by decide) g625 (by decide) (nI 1) (fun _ _ => trivial) (Or.inr ⟨5, dL_release_15, by decide, _, dL_release_17, rfl, dL_release_18⟩) (Nat.le_of_ble_eq_true rfl) ⟨rfl, rfl⟩
set_option maxHeartbeats 1000000 in
theorem lx_release_2 {w u : PW} {p q m : Int32} {fs : List Value} (hw : w[7]? = some (.inr (3, fs))) (hc : Ct mX3_release [.ref 7, .int p, .int q, .int m] w (fun _ _ => False) (pX "java/lang/IllegalArgumentException" u)) : Ct mL_release [.ref 7, .int p, .int q, .int m, .ref 107] w (d1 (some (.int (nI 2))) (u)) nx := by
  refine ct_ofH 5 kL_release.1 (by simp) rfl (Nat.le_of_ble_eq_true rfl) (fun v u h => ⟨_, h.1⟩) (fun _ _ h => h.elim) ?_
  show Ev _ _ _ 0 0 [(0, .ref 7), (1, .int p), (2, .int q), (3, .int m), (4, .ref 107)] [] _
  refine ev_aload dL_release_0 rfl ?_
  refine ev_iconst (nI 0) dL_release_2 rfl ?_
  refine ev_aload_n 0 dL_release_3 rfl rfl ?_
  refine ev_iload_n 1 dL_release_4 rfl rfl ?_
  refine ev_iload_n 2 dL_release_5 rfl rfl ?_
  refine ev_iload_n 3 dL_release_6 rfl rfl ?_
  refine ev_xV3 hc kX3_release g781 rfl hw rfl rfl dL_release_7 ?_
  exact evx_catch [te9 (0, 12, 15, 13)] (te9 (0, 12, 19, 15)) [te9 (0, 12, 23, 28)] rfl (fun z hz => by
    simp only [List.mem_cons, List.not_mem_nil, or_false] at hz
    subst hz
    exact ⟨by decide, _, g625, fun _ _ _ _ h => h.2.2.1.1⟩) (by decide) (by decide) g626 (by decide) (nI 2) (fun _ _ => trivial) (Or.inr ⟨5, dL_release_19, by decide, _, dL_release_21, rfl, dL_release_22⟩) (Nat.le_of_ble_eq_true rfl) ⟨rfl, rfl⟩
set_option maxHeartbeats 1000000 in
theorem lx_release_3 {w u : PW} {p q m : Int32} {fs : List Value} (hw : w[7]? = some (.inr (3, fs))) (hc : Ct mX3_release [.ref 7, .int p, .int q, .int m] w (fun _ _ => False) (pX "java/lang/IllegalStateException" u)) : Ct mL_release [.ref 7, .int p, .int q, .int m, .ref 107] w (d1 (some (.int (nI 3))) (u)) nx := by
  refine ct_ofH 5 kL_release.1 (by simp) rfl (Nat.le_of_ble_eq_true rfl) (fun v u h => ⟨_, h.1⟩) (fun _ _ h => h.elim) ?_
  show Ev _ _ _ 0 0 [(0, .ref 7), (1, .int p), (2, .int q), (3, .int m), (4, .ref 107)] [] _
  refine ev_aload dL_release_0 rfl ?_
  refine ev_iconst (nI 0) dL_release_2 rfl ?_
  refine ev_aload_n 0 dL_release_3 rfl rfl ?_
  refine ev_iload_n 1 dL_release_4 rfl rfl ?_
  refine ev_iload_n 2 dL_release_5 rfl rfl ?_
  refine ev_iload_n 3 dL_release_6 rfl rfl ?_
  refine ev_xV3 hc kX3_release g781 rfl hw rfl rfl dL_release_7 ?_
  exact evx_catch [te9 (0, 12, 15, 13), te9 (0, 12, 19, 15)] (te9 (0, 12, 23, 28)) [] rfl (fun z hz => by
    simp only [List.mem_cons, List.not_mem_nil, or_false] at hz
    rcases hz with rfl | rfl
    · exact ⟨by decide, _, g625, fun _ _ _ _ h => h.2.2.1.2.1⟩
    · exact ⟨by decide, _, g626, fun _ _ _ _ h => h.2.2.1.2.2⟩) (by decide) (by decide) g748 (by decide) (nI 3) (fun _ _ => trivial) (Or.inr ⟨5, dL_release_23, by decide, _, dL_release_25, rfl, dL_release_26⟩) (Nat.le_of_ble_eq_true rfl) ⟨rfl, rfl⟩
set_option maxHeartbeats 1000000 in
theorem lk_deposit {w u : PW} {p q : Int32} {fs : List Value} (hw : w[7]? = some (.inr (3, fs))) {r : Int32} {fo : Nat → Int64} (ho : u[107]? = some (oc fo)) (hc : Ct mX3_deposit [.ref 7, .int p, .int q] w (d1 (some (.int r)) u) nx) : Ct mL_deposit [.ref 7, .int p, .int q, .ref 107] w (d1 (some (.int (nI 0))) (u.set 107 (oc (vp_updL fo 0 r.toInt64)))) nx := by
  refine ct_ofH 4 kL_deposit.1 (by simp) rfl (Nat.le_of_ble_eq_true rfl) (fun v u h => ⟨_, h.1⟩) (fun _ _ h => h.elim) ?_
  show Ev _ _ _ 0 0 [(0, .ref 7), (1, .int p), (2, .int q), (3, .ref 107)] [] _
  refine ev_aload_n 3 dL_deposit_0 rfl rfl ?_
  refine ev_iconst (nI 0) dL_deposit_1 rfl ?_
  refine ev_aload_n 0 dL_deposit_2 rfl rfl ?_
  refine ev_iload_n 1 dL_deposit_3 rfl rfl ?_
  refine ev_iload_n 2 dL_deposit_4 rfl rfl ?_
  refine ev_kV2 hc kX3_deposit g792 rfl hw rfl rfl dL_deposit_5 ?_
  refine ev_i2l dL_deposit_8 ?_
  refine ev_las dL_deposit_9 ho rfl ?_
  refine ev_goto 25 dL_deposit_10 (by decide) ?_
  refine ev_iconst (nI 0) dL_deposit_25 rfl ?_
  exact ev_ireturn dL_deposit_26 (Nat.le_of_ble_eq_true rfl) ⟨rfl, rfl⟩
set_option maxHeartbeats 1000000 in
theorem lx_deposit_1 {w u : PW} {p q : Int32} {fs : List Value} (hw : w[7]? = some (.inr (3, fs))) (hc : Ct mX3_deposit [.ref 7, .int p, .int q] w (fun _ _ => False) (pX "java/lang/IndexOutOfBoundsException" u)) : Ct mL_deposit [.ref 7, .int p, .int q, .ref 107] w (d1 (some (.int (nI 1))) (u)) nx := by
  refine ct_ofH 4 kL_deposit.1 (by simp) rfl (Nat.le_of_ble_eq_true rfl) (fun v u h => ⟨_, h.1⟩) (fun _ _ h => h.elim) ?_
  show Ev _ _ _ 0 0 [(0, .ref 7), (1, .int p), (2, .int q), (3, .ref 107)] [] _
  refine ev_aload_n 3 dL_deposit_0 rfl rfl ?_
  refine ev_iconst (nI 0) dL_deposit_1 rfl ?_
  refine ev_aload_n 0 dL_deposit_2 rfl rfl ?_
  refine ev_iload_n 1 dL_deposit_3 rfl rfl ?_
  refine ev_iload_n 2 dL_deposit_4 rfl rfl ?_
  refine ev_xV2 hc kX3_deposit g792 rfl hw rfl rfl dL_deposit_5 ?_
  exact evx_catch [] (te9 (0, 10, 13, 13)) [te9 (0, 10, 17, 15), te9 (0, 10, 21, 28)] rfl (fun z hz => absurd hz List.not_mem_nil) (by decide) (by decide) g625 (by decide) (nI 1) (fun _ _ => trivial) (Or.inr ⟨4, dL_deposit_13, by decide, _, dL_deposit_15, rfl, dL_deposit_16⟩) (Nat.le_of_ble_eq_true rfl) ⟨rfl, rfl⟩
set_option maxHeartbeats 1000000 in
theorem lx_deposit_2 {w u : PW} {p q : Int32} {fs : List Value} (hw : w[7]? = some (.inr (3, fs))) (hc : Ct mX3_deposit [.ref 7, .int p, .int q] w (fun _ _ => False) (pX "java/lang/IllegalArgumentException" u)) : Ct mL_deposit [.ref 7, .int p, .int q, .ref 107] w (d1 (some (.int (nI 2))) (u)) nx := by
  refine ct_ofH 4 kL_deposit.1 (by simp) rfl (Nat.le_of_ble_eq_true rfl) (fun v u h => ⟨_, h.1⟩) (fun _ _ h => h.elim) ?_
  show Ev _ _ _ 0 0 [(0, .ref 7), (1, .int p), (2, .int q), (3, .ref 107)] [] _
  refine ev_aload_n 3 dL_deposit_0 rfl rfl ?_
  refine ev_iconst (nI 0) dL_deposit_1 rfl ?_
  refine ev_aload_n 0 dL_deposit_2 rfl rfl ?_
  refine ev_iload_n 1 dL_deposit_3 rfl rfl ?_
  refine ev_iload_n 2 dL_deposit_4 rfl rfl ?_
  refine ev_xV2 hc kX3_deposit g792 rfl hw rfl rfl dL_deposit_5 ?_
  exact evx_catch [te9 (0, 10, 13, 13)] (te9 (0, 10, 17, 15)) [te9 (0, 10, 21, 28)] rfl (fun z hz => by
    simp only [List.mem_cons, List.not_mem_nil, or_false] at hz
    subst hz
    exact ⟨by decide, _, g625, fun _ _ _ _ h => h.2.2.1.1⟩) (by decide) (by decide) g626 (by decide) (nI 2) (fun _ _ => trivial) (Or.inr ⟨4, dL_deposit_17, by decide, _, dL_deposit_19, rfl, dL_deposit_20⟩) (Nat.le_of_ble_eq_true rfl) ⟨rfl, rfl⟩
set_option maxHeartbeats 1000000 in
theorem lx_deposit_3 {w u : PW} {p q : Int32} {fs : List Value} (hw : w[7]? = some (.inr (3, fs))) (hc : Ct mX3_deposit [.ref 7, .int p, .int q] w (fun _ _ => False) (pX "java/lang/IllegalStateException" u)) : Ct mL_deposit [.ref 7, .int p, .int q, .ref 107] w (d1 (some (.int (nI 3))) (u)) nx := by
  refine ct_ofH 4 kL_deposit.1 (by simp) rfl (Nat.le_of_ble_eq_true rfl) (fun v u h => ⟨_, h.1⟩) (fun _ _ h => h.elim) ?_
  show Ev _ _ _ 0 0 [(0, .ref 7), (1, .int p), (2, .int q), (3, .ref 107)] [] _
  refine ev_aload_n 3 dL_deposit_0 rfl rfl ?_
  refine ev_iconst (nI 0) dL_deposit_1 rfl ?_
  refine ev_aload_n 0 dL_deposit_2 rfl rfl ?_
  refine ev_iload_n 1 dL_deposit_3 rfl rfl ?_
  refine ev_iload_n 2 dL_deposit_4 rfl rfl ?_
  refine ev_xV2 hc kX3_deposit g792 rfl hw rfl rfl dL_deposit_5 ?_
  exact evx_catch [te9 (0, 10, 13, 13), te9 (0, 10, 17, 15)] (te9 (0, 10, 21, 28)) [] rfl (fun z hz => by
    simp only [List.mem_cons, List.not_mem_nil, or_false] at hz
    rcases hz with rfl | rfl
    · exact ⟨by decide, _, g625, fun _ _ _ _ h => h.2.2.1.2.1⟩
    · exact ⟨by decide, _, g626, fun _ _ _ _ h => h.2.2.1.2.2⟩) (by decide) (by decide) g748 (by decide) (nI 3) (fun _ _ => trivial) (Or.inr ⟨4, dL_deposit_21, by decide, _, dL_deposit_23, rfl, dL_deposit_24⟩) (Nat.le_of_ble_eq_true rfl) ⟨rfl, rfl⟩
set_option maxHeartbeats 1000000 in
theorem lk_withdraw {w u : PW} {p q : Int32} {fs : List Value} (hw : w[7]? = some (.inr (3, fs))) {r : Int32} {fo : Nat → Int64} (ho : u[107]? = some (oc fo)) (hc : Ct mX3_withdraw [.ref 7, .int p, .int q] w (d1 (some (.int r)) u) nx) : Ct mL_withdraw [.ref 7, .int p, .int q, .ref 107] w (d1 (some (.int (nI 0))) (u.set 107 (oc (vp_updL fo 0 r.toInt64)))) nx := by
  refine ct_ofH 4 kL_withdraw.1 (by simp) rfl (Nat.le_of_ble_eq_true rfl) (fun v u h => ⟨_, h.1⟩) (fun _ _ h => h.elim) ?_
  show Ev _ _ _ 0 0 [(0, .ref 7), (1, .int p), (2, .int q), (3, .ref 107)] [] _
  refine ev_aload_n 3 dL_withdraw_0 rfl rfl ?_
  refine ev_iconst (nI 0) dL_withdraw_1 rfl ?_
  refine ev_aload_n 0 dL_withdraw_2 rfl rfl ?_
  refine ev_iload_n 1 dL_withdraw_3 rfl rfl ?_
  refine ev_iload_n 2 dL_withdraw_4 rfl rfl ?_
  refine ev_kV2 hc kX3_withdraw g804 rfl hw rfl rfl dL_withdraw_5 ?_
  refine ev_i2l dL_withdraw_8 ?_
  refine ev_las dL_withdraw_9 ho rfl ?_
  refine ev_goto 25 dL_withdraw_10 (by decide) ?_
  refine ev_iconst (nI 0) dL_withdraw_25 rfl ?_
  exact ev_ireturn dL_withdraw_26 (Nat.le_of_ble_eq_true rfl) ⟨rfl, rfl⟩
set_option maxHeartbeats 1000000 in
theorem lx_withdraw_1 {w u : PW} {p q : Int32} {fs : List Value} (hw : w[7]? = some (.inr (3, fs))) (hc : Ct mX3_withdraw [.ref 7, .int p, .int q] w (fun _ _ => False) (pX "java/lang/IndexOutOfBoundsException" u)) : Ct mL_withdraw [.ref 7, .int p, .int q, .ref 107] w (d1 (some (.int (nI 1))) (u)) nx := by
  refine ct_ofH 4 kL_withdraw.1 (by simp) rfl (Nat.le_of_ble_eq_true rfl) (fun v u h => ⟨_, h.1⟩) (fun _ _ h => h.elim) ?_
  show Ev _ _ _ 0 0 [(0, .ref 7), (1, .int p), (2, .int q), (3, .ref 107)] [] _
  refine ev_aload_n 3 dL_withdraw_0 rfl rfl ?_
  refine ev_iconst (nI 0) dL_withdraw_1 rfl ?_
  refine ev_aload_n 0 dL_withdraw_2 rfl rfl ?_
  refine ev_iload_n 1 dL_withdraw_3 rfl rfl ?_
  refine ev_iload_n 2 dL_withdraw_4 rfl rfl ?_
  refine ev_xV2 hc kX3_withdraw g804 rfl hw rfl rfl dL_withdraw_5 ?_
  exact evx_catch [] (te9 (0, 10, 13, 13)) [te9 (0, 10, 17, 15), te9 (0, 10, 21, 28)] rfl (fun z hz => absurd hz List.not_mem_nil) (by decide) (by decide) g625 (by decide) (nI 1) (fun _ _ => trivial) (Or.inr ⟨4, dL_withdraw_13, by decide, _, dL_withdraw_15, rfl, dL_withdraw_16⟩) (Nat.le_of_ble_eq_true rfl) ⟨rfl, rfl⟩
set_option maxHeartbeats 1000000 in
theorem lx_withdraw_2 {w u : PW} {p q : Int32} {fs : List Value} (hw : w[7]? = some (.inr (3, fs))) (hc : Ct mX3_withdraw [.ref 7, .int p, .int q] w (fun _ _ => False) (pX "java/lang/IllegalArgumentException" u)) : Ct mL_withdraw [.ref 7, .int p, .int q, .ref 107] w (d1 (some (.int (nI 2))) (u)) nx := by
  refine ct_ofH 4 kL_withdraw.1 (by simp) rfl (Nat.le_of_ble_eq_true rfl) (fun v u h => ⟨_, h.1⟩) (fun _ _ h => h.elim) ?_
  show Ev _ _ _ 0 0 [(0, .ref 7), (1, .int p), (2, .int q), (3, .ref 107)] [] _
  refine ev_aload_n 3 dL_withdraw_0 rfl rfl ?_
  refine ev_iconst (nI 0) dL_withdraw_1 rfl ?_
  refine ev_aload_n 0 dL_withdraw_2 rfl rfl ?_
  refine ev_iload_n 1 dL_withdraw_3 rfl rfl ?_
  refine ev_iload_n 2 dL_withdraw_4 rfl rfl ?_
  refine ev_xV2 hc kX3_withdraw g804 rfl hw rfl rfl dL_withdraw_5 ?_
  exact evx_catch [te9 (0, 10, 13, 13)] (te9 (0, 10, 17, 15)) [te9 (0, 10, 21, 28)] rfl (fun z hz => by
    simp only [List.mem_cons, List.not_mem_nil, or_false] at hz
    subst hz
    exact ⟨by decide, _, g625, fun _ _ _ _ h => h.2.2.1.1⟩) (by decide) (by decide) g626 (by decide) (nI 2) (fun _ _ => trivial) (Or.inr ⟨4, dL_withdraw_17, by decide, _, dL_withdraw_19, rfl, dL_withdraw_20⟩) (Nat.le_of_ble_eq_true rfl) ⟨rfl, rfl⟩
set_option maxHeartbeats 1000000 in
theorem lx_withdraw_3 {w u : PW} {p q : Int32} {fs : List Value} (hw : w[7]? = some (.inr (3, fs))) (hc : Ct mX3_withdraw [.ref 7, .int p, .int q] w (fun _ _ => False) (pX "java/lang/IllegalStateException" u)) : Ct mL_withdraw [.ref 7, .int p, .int q, .ref 107] w (d1 (some (.int (nI 3))) (u)) nx := by
  refine ct_ofH 4 kL_withdraw.1 (by simp) rfl (Nat.le_of_ble_eq_true rfl) (fun v u h => ⟨_, h.1⟩) (fun _ _ h => h.elim) ?_
  show Ev _ _ _ 0 0 [(0, .ref 7), (1, .int p), (2, .int q), (3, .ref 107)] [] _
  refine ev_aload_n 3 dL_withdraw_0 rfl rfl ?_
  refine ev_iconst (nI 0) dL_withdraw_1 rfl ?_
  refine ev_aload_n 0 dL_withdraw_2 rfl rfl ?_
  refine ev_iload_n 1 dL_withdraw_3 rfl rfl ?_
  refine ev_iload_n 2 dL_withdraw_4 rfl rfl ?_
  refine ev_xV2 hc kX3_withdraw g804 rfl hw rfl rfl dL_withdraw_5 ?_
  exact evx_catch [te9 (0, 10, 13, 13), te9 (0, 10, 17, 15)] (te9 (0, 10, 21, 28)) [] rfl (fun z hz => by
    simp only [List.mem_cons, List.not_mem_nil, or_false] at hz
    rcases hz with rfl | rfl
    · exact ⟨by decide, _, g625, fun _ _ _ _ h => h.2.2.1.2.1⟩
    · exact ⟨by decide, _, g626, fun _ _ _ _ h => h.2.2.1.2.2⟩) (by decide) (by decide) g748 (by decide) (nI 3) (fun _ _ => trivial) (Or.inr ⟨4, dL_withdraw_21, by decide, _, dL_withdraw_23, rfl, dL_withdraw_24⟩) (Nat.le_of_ble_eq_true rfl) ⟨rfl, rfl⟩
set_option maxHeartbeats 1000000 in
theorem lk_lend {w u : PW} {p q : Int32} {fs : List Value} (hw : w[7]? = some (.inr (3, fs))) {r : Int32} {fo : Nat → Int64} (ho : u[107]? = some (oc fo)) (hc : Ct mX3_lend [.ref 7, .int p, .int q] w (d1 (some (.int r)) u) nx) : Ct mL_lend [.ref 7, .int p, .int q, .ref 107] w (d1 (some (.int (nI 0))) (u.set 107 (oc (vp_updL fo 0 r.toInt64)))) nx := by
  refine ct_ofH 4 kL_lend.1 (by simp) rfl (Nat.le_of_ble_eq_true rfl) (fun v u h => ⟨_, h.1⟩) (fun _ _ h => h.elim) ?_
  show Ev _ _ _ 0 0 [(0, .ref 7), (1, .int p), (2, .int q), (3, .ref 107)] [] _
  refine ev_aload_n 3 dL_lend_0 rfl rfl ?_
  refine ev_iconst (nI 0) dL_lend_1 rfl ?_
  refine ev_aload_n 0 dL_lend_2 rfl rfl ?_
  refine ev_iload_n 1 dL_lend_3 rfl rfl ?_
  refine ev_iload_n 2 dL_lend_4 rfl rfl ?_
  refine ev_kV2 hc kX3_lend g815 rfl hw rfl rfl dL_lend_5 ?_
  refine ev_i2l dL_lend_8 ?_
  refine ev_las dL_lend_9 ho rfl ?_
  refine ev_goto 25 dL_lend_10 (by decide) ?_
  refine ev_iconst (nI 0) dL_lend_25 rfl ?_
  exact ev_ireturn dL_lend_26 (Nat.le_of_ble_eq_true rfl) ⟨rfl, rfl⟩
set_option maxHeartbeats 1000000 in
theorem lx_lend_1 {w u : PW} {p q : Int32} {fs : List Value} (hw : w[7]? = some (.inr (3, fs))) (hc : Ct mX3_lend [.ref 7, .int p, .int q] w (fun _ _ => False) (pX "java/lang/IndexOutOfBoundsException" u)) : Ct mL_lend [.ref 7, .int p, .int q, .ref 107] w (d1 (some (.int (nI 1))) (u)) nx := by
  refine ct_ofH 4 kL_lend.1 (by simp) rfl (Nat.le_of_ble_eq_true rfl) (fun v u h => ⟨_, h.1⟩) (fun _ _ h => h.elim) ?_
  show Ev _ _ _ 0 0 [(0, .ref 7), (1, .int p), (2, .int q), (3, .ref 107)] [] _
  refine ev_aload_n 3 dL_lend_0 rfl rfl ?_
  refine ev_iconst (nI 0) dL_lend_1 rfl ?_
  refine ev_aload_n 0 dL_lend_2 rfl rfl ?_
  refine ev_iload_n 1 dL_lend_3 rfl rfl ?_
  refine ev_iload_n 2 dL_lend_4 rfl rfl ?_
  refine ev_xV2 hc kX3_lend g815 rfl hw rfl rfl dL_lend_5 ?_
  exact evx_catch [] (te9 (0, 10, 13, 13)) [te9 (0, 10, 17, 15), te9 (0, 10, 21, 28)] rfl (fun z hz => absurd hz List.not_mem_nil) (by decide) (by decide) g625 (by decide) (nI 1) (fun _ _ => trivial) (Or.inr ⟨4, dL_lend_13, by decide, _, dL_lend_15, rfl, dL_lend_16⟩) (Nat.le_of_ble_eq_true rfl) ⟨rfl, rfl⟩
set_option maxHeartbeats 1000000 in
theorem lx_lend_2 {w u : PW} {p q : Int32} {fs : List Value} (hw : w[7]? = some (.inr (3, fs))) (hc : Ct mX3_lend [.ref 7, .int p, .int q] w (fun _ _ => False) (pX "java/lang/IllegalArgumentException" u)) : Ct mL_lend [.ref 7, .int p, .int q, .ref 107] w (d1 (some (.int (nI 2))) (u)) nx := by
  refine ct_ofH 4 kL_lend.1 (by simp) rfl (Nat.le_of_ble_eq_true rfl) (fun v u h => ⟨_, h.1⟩) (fun _ _ h => h.elim) ?_
  show Ev _ _ _ 0 0 [(0, .ref 7), (1, .int p), (2, .int q), (3, .ref 107)] [] _
  refine ev_aload_n 3 dL_lend_0 rfl rfl ?_
  refine ev_iconst (nI 0) dL_lend_1 rfl ?_
  refine ev_aload_n 0 dL_lend_2 rfl rfl ?_
  refine ev_iload_n 1 dL_lend_3 rfl rfl ?_
  refine ev_iload_n 2 dL_lend_4 rfl rfl ?_
  refine ev_xV2 hc kX3_lend g815 rfl hw rfl rfl dL_lend_5 ?_
  exact evx_catch [te9 (0, 10, 13, 13)] (te9 (0, 10, 17, 15)) [te9 (0, 10, 21, 28)] rfl (fun z hz => by
    simp only [List.mem_cons, List.not_mem_nil, or_false] at hz
    subst hz
    exact ⟨by decide, _, g625, fun _ _ _ _ h => h.2.2.1.1⟩) (by decide) (by decide) g626 (by decide) (nI 2) (fun _ _ => trivial) (Or.inr ⟨4, dL_lend_17, by decide, _, dL_lend_19, rfl, dL_lend_20⟩) (Nat.le_of_ble_eq_true rfl) ⟨rfl, rfl⟩
set_option maxHeartbeats 1000000 in
theorem lx_lend_3 {w u : PW} {p q : Int32} {fs : List Value} (hw : w[7]? = some (.inr (3, fs))) (hc : Ct mX3_lend [.ref 7, .int p, .int q] w (fun _ _ => False) (pX "java/lang/IllegalStateException" u)) : Ct mL_lend [.ref 7, .int p, .int q, .ref 107] w (d1 (some (.int (nI 3))) (u)) nx := by
  refine ct_ofH 4 kL_lend.1 (by simp) rfl (Nat.le_of_ble_eq_true rfl) (fun v u h => ⟨_, h.1⟩) (fun _ _ h => h.elim) ?_
  show Ev _ _ _ 0 0 [(0, .ref 7), (1, .int p), (2, .int q), (3, .ref 107)] [] _
  refine ev_aload_n 3 dL_lend_0 rfl rfl ?_
  refine ev_iconst (nI 0) dL_lend_1 rfl ?_
  refine ev_aload_n 0 dL_lend_2 rfl rfl ?_
  refine ev_iload_n 1 dL_lend_3 rfl rfl ?_
  refine ev_iload_n 2 dL_lend_4 rfl rfl ?_
  refine ev_xV2 hc kX3_lend g815 rfl hw rfl rfl dL_lend_5 ?_
  exact evx_catch [te9 (0, 10, 13, 13), te9 (0, 10, 17, 15)] (te9 (0, 10, 21, 28)) [] rfl (fun z hz => by
    simp only [List.mem_cons, List.not_mem_nil, or_false] at hz
    rcases hz with rfl | rfl
    · exact ⟨by decide, _, g625, fun _ _ _ _ h => h.2.2.1.2.1⟩
    · exact ⟨by decide, _, g626, fun _ _ _ _ h => h.2.2.1.2.2⟩) (by decide) (by decide) g748 (by decide) (nI 3) (fun _ _ => trivial) (Or.inr ⟨4, dL_lend_21, by decide, _, dL_lend_23, rfl, dL_lend_24⟩) (Nat.le_of_ble_eq_true rfl) ⟨rfl, rfl⟩
set_option maxHeartbeats 1000000 in
theorem lk_payBack {w u : PW} {p q : Int32} {fs : List Value} (hw : w[7]? = some (.inr (3, fs))) {r : Int32} {fo : Nat → Int64} (ho : u[107]? = some (oc fo)) (hc : Ct mX3_payBack [.ref 7, .int p, .int q] w (d1 (some (.int r)) u) nx) : Ct mL_payBack [.ref 7, .int p, .int q, .ref 107] w (d1 (some (.int (nI 0))) (u.set 107 (oc (vp_updL fo 0 r.toInt64)))) nx := by
  refine ct_ofH 4 kL_payBack.1 (by simp) rfl (Nat.le_of_ble_eq_true rfl) (fun v u h => ⟨_, h.1⟩) (fun _ _ h => h.elim) ?_
  show Ev _ _ _ 0 0 [(0, .ref 7), (1, .int p), (2, .int q), (3, .ref 107)] [] _
  refine ev_aload_n 3 dL_payBack_0 rfl rfl ?_
  refine ev_iconst (nI 0) dL_payBack_1 rfl ?_
  refine ev_aload_n 0 dL_payBack_2 rfl rfl ?_
  refine ev_iload_n 1 dL_payBack_3 rfl rfl ?_
  refine ev_iload_n 2 dL_payBack_4 rfl rfl ?_
  refine ev_kV2 hc kX3_payBack g826 rfl hw rfl rfl dL_payBack_5 ?_
  refine ev_i2l dL_payBack_8 ?_
  refine ev_las dL_payBack_9 ho rfl ?_
  refine ev_goto 25 dL_payBack_10 (by decide) ?_
  refine ev_iconst (nI 0) dL_payBack_25 rfl ?_
  exact ev_ireturn dL_payBack_26 (Nat.le_of_ble_eq_true rfl) ⟨rfl, rfl⟩
set_option maxHeartbeats 1000000 in
theorem lx_payBack_1 {w u : PW} {p q : Int32} {fs : List Value} (hw : w[7]? = some (.inr (3, fs))) (hc : Ct mX3_payBack [.ref 7, .int p, .int q] w (fun _ _ => False) (pX "java/lang/IndexOutOfBoundsException" u)) : Ct mL_payBack [.ref 7, .int p, .int q, .ref 107] w (d1 (some (.int (nI 1))) (u)) nx := by
  refine ct_ofH 4 kL_payBack.1 (by simp) rfl (Nat.le_of_ble_eq_true rfl) (fun v u h => ⟨_, h.1⟩) (fun _ _ h => h.elim) ?_
  show Ev _ _ _ 0 0 [(0, .ref 7), (1, .int p), (2, .int q), (3, .ref 107)] [] _
  refine ev_aload_n 3 dL_payBack_0 rfl rfl ?_
  refine ev_iconst (nI 0) dL_payBack_1 rfl ?_
  refine ev_aload_n 0 dL_payBack_2 rfl rfl ?_
  refine ev_iload_n 1 dL_payBack_3 rfl rfl ?_
  refine ev_iload_n 2 dL_payBack_4 rfl rfl ?_
  refine ev_xV2 hc kX3_payBack g826 rfl hw rfl rfl dL_payBack_5 ?_
  exact evx_catch [] (te9 (0, 10, 13, 13)) [te9 (0, 10, 17, 15), te9 (0, 10, 21, 28)] rfl (fun z hz => absurd hz List.not_mem_nil) (by decide) (by decide) g625 (by decide) (nI 1) (fun _ _ => trivial) (Or.inr ⟨4, dL_payBack_13, by decide, _, dL_payBack_15, rfl, dL_payBack_16⟩) (Nat.le_of_ble_eq_true rfl) ⟨rfl, rfl⟩
set_option maxHeartbeats 1000000 in
theorem lx_payBack_2 {w u : PW} {p q : Int32} {fs : List Value} (hw : w[7]? = some (.inr (3, fs))) (hc : Ct mX3_payBack [.ref 7, .int p, .int q] w (fun _ _ => False) (pX "java/lang/IllegalArgumentException" u)) : Ct mL_payBack [.ref 7, .int p, .int q, .ref 107] w (d1 (some (.int (nI 2))) (u)) nx := by
  refine ct_ofH 4 kL_payBack.1 (by simp) rfl (Nat.le_of_ble_eq_true rfl) (fun v u h => ⟨_, h.1⟩) (fun _ _ h => h.elim) ?_
  show Ev _ _ _ 0 0 [(0, .ref 7), (1, .int p), (2, .int q), (3, .ref 107)] [] _
  refine ev_aload_n 3 dL_payBack_0 rfl rfl ?_
  refine ev_iconst (nI 0) dL_payBack_1 rfl ?_
  refine ev_aload_n 0 dL_payBack_2 rfl rfl ?_
  refine ev_iload_n 1 dL_payBack_3 rfl rfl ?_
  refine ev_iload_n 2 dL_payBack_4 rfl rfl ?_
  refine ev_xV2 hc kX3_payBack g826 rfl hw rfl rfl dL_payBack_5 ?_
  exact evx_catch [te9 (0, 10, 13, 13)] (te9 (0, 10, 17, 15)) [te9 (0, 10, 21, 28)] rfl (fun z hz => by
    simp only [List.mem_cons, List.not_mem_nil, or_false] at hz
    subst hz
    exact ⟨by decide, _, g625, fun _ _ _ _ h => h.2.2.1.1⟩) (by decide) (by decide) g626 (by decide) (nI 2) (fun _ _ => trivial) (Or.inr ⟨4, dL_payBack_17, by decide, _, dL_payBack_19, rfl, dL_payBack_20⟩) (Nat.le_of_ble_eq_true rfl) ⟨rfl, rfl⟩
set_option maxHeartbeats 1000000 in
theorem lx_payBack_3 {w u : PW} {p q : Int32} {fs : List Value} (hw : w[7]? = some (.inr (3, fs))) (hc : Ct mX3_payBack [.ref 7, .int p, .int q] w (fun _ _ => False) (pX "java/lang/IllegalStateException" u)) : Ct mL_payBack [.ref 7, .int p, .int q, .ref 107] w (d1 (some (.int (nI 3))) (u)) nx := by
  refine ct_ofH 4 kL_payBack.1 (by simp) rfl (Nat.le_of_ble_eq_true rfl) (fun v u h => ⟨_, h.1⟩) (fun _ _ h => h.elim) ?_
  show Ev _ _ _ 0 0 [(0, .ref 7), (1, .int p), (2, .int q), (3, .ref 107)] [] _
  refine ev_aload_n 3 dL_payBack_0 rfl rfl ?_
  refine ev_iconst (nI 0) dL_payBack_1 rfl ?_
  refine ev_aload_n 0 dL_payBack_2 rfl rfl ?_
  refine ev_iload_n 1 dL_payBack_3 rfl rfl ?_
  refine ev_iload_n 2 dL_payBack_4 rfl rfl ?_
  refine ev_xV2 hc kX3_payBack g826 rfl hw rfl rfl dL_payBack_5 ?_
  exact evx_catch [te9 (0, 10, 13, 13), te9 (0, 10, 17, 15)] (te9 (0, 10, 21, 28)) [] rfl (fun z hz => by
    simp only [List.mem_cons, List.not_mem_nil, or_false] at hz
    rcases hz with rfl | rfl
    · exact ⟨by decide, _, g625, fun _ _ _ _ h => h.2.2.1.2.1⟩
    · exact ⟨by decide, _, g626, fun _ _ _ _ h => h.2.2.1.2.2⟩) (by decide) (by decide) g748 (by decide) (nI 3) (fun _ _ => trivial) (Or.inr ⟨4, dL_payBack_21, by decide, _, dL_payBack_23, rfl, dL_payBack_24⟩) (Nat.le_of_ble_eq_true rfl) ⟨rfl, rfl⟩
set_option maxHeartbeats 1000000 in
theorem lk_readmit {w u : PW} {p : Int32} {fs : List Value} (hw : w[7]? = some (.inr (3, fs))) (hc : Ct mX3_readmit [.ref 7, .int p] w (d1 none u) nx) : Ct mL_readmit [.ref 7, .int p] w (d1 (some (.int (nI 0))) (u)) nx := by
  refine ct_ofH 2 kL_readmit.1 (by simp) rfl (Nat.le_of_ble_eq_true rfl) (fun v u h => ⟨_, h.1⟩) (fun _ _ h => h.elim) ?_
  show Ev _ _ _ 0 0 [(0, .ref 7), (1, .int p)] [] _
  refine ev_aload_n 0 dL_readmit_0 rfl rfl ?_
  refine ev_iload_n 1 dL_readmit_1 rfl rfl ?_
  refine ev_kV1v hc kX3_readmit g837 rfl hw rfl rfl dL_readmit_2 ?_
  refine ev_goto 14 dL_readmit_5 (by decide) ?_
  refine ev_iconst (nI 0) dL_readmit_14 rfl ?_
  exact ev_ireturn dL_readmit_15 (Nat.le_of_ble_eq_true rfl) ⟨rfl, rfl⟩
set_option maxHeartbeats 1000000 in
theorem lx_readmit_1 {w u : PW} {p : Int32} {fs : List Value} (hw : w[7]? = some (.inr (3, fs))) (hc : Ct mX3_readmit [.ref 7, .int p] w (fun _ _ => False) (pX "java/lang/IndexOutOfBoundsException" u)) : Ct mL_readmit [.ref 7, .int p] w (d1 (some (.int (nI 1))) (u)) nx := by
  refine ct_ofH 2 kL_readmit.1 (by simp) rfl (Nat.le_of_ble_eq_true rfl) (fun v u h => ⟨_, h.1⟩) (fun _ _ h => h.elim) ?_
  show Ev _ _ _ 0 0 [(0, .ref 7), (1, .int p)] [] _
  refine ev_aload_n 0 dL_readmit_0 rfl rfl ?_
  refine ev_iload_n 1 dL_readmit_1 rfl rfl ?_
  refine ev_xV1 hc kX3_readmit g837 rfl hw rfl rfl dL_readmit_2 ?_
  exact evx_catch [] (te9 (0, 5, 8, 13)) [te9 (0, 5, 11, 28)] rfl (fun z hz => absurd hz List.not_mem_nil) (by decide) (by decide) g625 (by decide) (nI 1) (fun _ _ => trivial) (Or.inl ⟨2, dL_readmit_8, by decide, _, dL_readmit_9, rfl, dL_readmit_10⟩) (Nat.le_of_ble_eq_true rfl) ⟨rfl, rfl⟩
set_option maxHeartbeats 1000000 in
theorem lx_readmit_2 {w u : PW} {p : Int32} {fs : List Value} (hw : w[7]? = some (.inr (3, fs))) (hc : Ct mX3_readmit [.ref 7, .int p] w (fun _ _ => False) (pX "java/lang/IllegalStateException" u)) : Ct mL_readmit [.ref 7, .int p] w (d1 (some (.int (nI 2))) (u)) nx := by
  refine ct_ofH 2 kL_readmit.1 (by simp) rfl (Nat.le_of_ble_eq_true rfl) (fun v u h => ⟨_, h.1⟩) (fun _ _ h => h.elim) ?_
  show Ev _ _ _ 0 0 [(0, .ref 7), (1, .int p)] [] _
  refine ev_aload_n 0 dL_readmit_0 rfl rfl ?_
  refine ev_iload_n 1 dL_readmit_1 rfl rfl ?_
  refine ev_xV1 hc kX3_readmit g837 rfl hw rfl rfl dL_readmit_2 ?_
  exact evx_catch [te9 (0, 5, 8, 13)] (te9 (0, 5, 11, 28)) [] rfl (fun z hz => by
    simp only [List.mem_cons, List.not_mem_nil, or_false] at hz
    subst hz
    exact ⟨by decide, _, g625, fun _ _ _ _ h => h.2.2.1.2.1⟩) (by decide) (by decide) g748 (by decide) (nI 2) (fun _ _ => trivial) (Or.inl ⟨2, dL_readmit_11, by decide, _, dL_readmit_12, rfl, dL_readmit_13⟩) (Nat.le_of_ble_eq_true rfl) ⟨rfl, rfl⟩
set_option maxHeartbeats 1000000 in
theorem lk_pass {w u : PW} {p : Int32} {fs : List Value} (hw : w[7]? = some (.inr (3, fs))) {r : Int32} {fo : Nat → Int64} (ho : u[107]? = some (oc fo)) (hc : Ct mX3_pass [.ref 7, .int p] w (d1 (some (.int r)) u) nx) : Ct mL_pass [.ref 7, .int p, .ref 107] w (d1 (some (.int (nI 0))) (u.set 107 (oc (vp_updL fo 0 r.toInt64)))) nx := by
  refine ct_ofH 3 kL_pass.1 (by simp) rfl (Nat.le_of_ble_eq_true rfl) (fun v u h => ⟨_, h.1⟩) (fun _ _ h => h.elim) ?_
  show Ev _ _ _ 0 0 [(0, .ref 7), (1, .int p), (2, .ref 107)] [] _
  refine ev_aload_n 2 dL_pass_0 rfl rfl ?_
  refine ev_iconst (nI 0) dL_pass_1 rfl ?_
  refine ev_aload_n 0 dL_pass_2 rfl rfl ?_
  refine ev_iload_n 1 dL_pass_3 rfl rfl ?_
  refine ev_kV1 hc kX3_pass g848 rfl hw rfl rfl dL_pass_4 ?_
  refine ev_i2l dL_pass_7 ?_
  refine ev_las dL_pass_8 ho rfl ?_
  refine ev_goto 15 dL_pass_9 (by decide) ?_
  refine ev_iconst (nI 0) dL_pass_15 rfl ?_
  exact ev_ireturn dL_pass_16 (Nat.le_of_ble_eq_true rfl) ⟨rfl, rfl⟩
set_option maxHeartbeats 1000000 in
theorem lx_pass_1 {w u : PW} {p : Int32} {fs : List Value} (hw : w[7]? = some (.inr (3, fs))) (hc : Ct mX3_pass [.ref 7, .int p] w (fun _ _ => False) (pX "java/lang/IllegalArgumentException" u)) : Ct mL_pass [.ref 7, .int p, .ref 107] w (d1 (some (.int (nI 1))) (u)) nx := by
  refine ct_ofH 3 kL_pass.1 (by simp) rfl (Nat.le_of_ble_eq_true rfl) (fun v u h => ⟨_, h.1⟩) (fun _ _ h => h.elim) ?_
  show Ev _ _ _ 0 0 [(0, .ref 7), (1, .int p), (2, .ref 107)] [] _
  refine ev_aload_n 2 dL_pass_0 rfl rfl ?_
  refine ev_iconst (nI 0) dL_pass_1 rfl ?_
  refine ev_aload_n 0 dL_pass_2 rfl rfl ?_
  refine ev_iload_n 1 dL_pass_3 rfl rfl ?_
  refine ev_xV1 hc kX3_pass g848 rfl hw rfl rfl dL_pass_4 ?_
  exact evx_catch [] (te9 (0, 9, 12, 15)) [] rfl (fun z hz => absurd hz List.not_mem_nil) (by decide) (by decide) g626 (by decide) (nI 1) (fun _ _ => trivial) (Or.inl ⟨3, dL_pass_12, by decide, _, dL_pass_13, rfl, dL_pass_14⟩) (Nat.le_of_ble_eq_true rfl) ⟨rfl, rfl⟩
set_option maxHeartbeats 1000000 in
theorem lk_changeRate {w u : PW} {p : Int32} {fs : List Value} (hw : w[7]? = some (.inr (3, fs))) {r : Int32} {fo : Nat → Int64} (ho : u[107]? = some (oc fo)) (hc : Ct mX3_changeRate [.ref 7, .int p] w (d1 (some (.int r)) u) nx) : Ct mL_changeRate [.ref 7, .int p, .ref 107] w (d1 (some (.int (nI 0))) (u.set 107 (oc (vp_updL fo 0 r.toInt64)))) nx := by
  refine ct_ofH 3 kL_changeRate.1 (by simp) rfl (Nat.le_of_ble_eq_true rfl) (fun v u h => ⟨_, h.1⟩) (fun _ _ h => h.elim) ?_
  show Ev _ _ _ 0 0 [(0, .ref 7), (1, .int p), (2, .ref 107)] [] _
  refine ev_aload_n 2 dL_changeRate_0 rfl rfl ?_
  refine ev_iconst (nI 0) dL_changeRate_1 rfl ?_
  refine ev_aload_n 0 dL_changeRate_2 rfl rfl ?_
  refine ev_iload_n 1 dL_changeRate_3 rfl rfl ?_
  refine ev_kV1 hc kX3_changeRate g882 rfl hw rfl rfl dL_changeRate_4 ?_
  refine ev_i2l dL_changeRate_7 ?_
  refine ev_las dL_changeRate_8 ho rfl ?_
  refine ev_goto 15 dL_changeRate_9 (by decide) ?_
  refine ev_iconst (nI 0) dL_changeRate_15 rfl ?_
  exact ev_ireturn dL_changeRate_16 (Nat.le_of_ble_eq_true rfl) ⟨rfl, rfl⟩
set_option maxHeartbeats 1000000 in
theorem lx_changeRate_1 {w u : PW} {p : Int32} {fs : List Value} (hw : w[7]? = some (.inr (3, fs))) (hc : Ct mX3_changeRate [.ref 7, .int p] w (fun _ _ => False) (pX "java/lang/IllegalArgumentException" u)) : Ct mL_changeRate [.ref 7, .int p, .ref 107] w (d1 (some (.int (nI 1))) (u)) nx := by
  refine ct_ofH 3 kL_changeRate.1 (by simp) rfl (Nat.le_of_ble_eq_true rfl) (fun v u h => ⟨_, h.1⟩) (fun _ _ h => h.elim) ?_
  show Ev _ _ _ 0 0 [(0, .ref 7), (1, .int p), (2, .ref 107)] [] _
  refine ev_aload_n 2 dL_changeRate_0 rfl rfl ?_
  refine ev_iconst (nI 0) dL_changeRate_1 rfl ?_
  refine ev_aload_n 0 dL_changeRate_2 rfl rfl ?_
  refine ev_iload_n 1 dL_changeRate_3 rfl rfl ?_
  refine ev_xV1 hc kX3_changeRate g882 rfl hw rfl rfl dL_changeRate_4 ?_
  exact evx_catch [] (te9 (0, 9, 12, 15)) [] rfl (fun z hz => absurd hz List.not_mem_nil) (by decide) (by decide) g626 (by decide) (nI 1) (fun _ _ => trivial) (Or.inl ⟨3, dL_changeRate_12, by decide, _, dL_changeRate_13, rfl, dL_changeRate_14⟩) (Nat.le_of_ble_eq_true rfl) ⟨rfl, rfl⟩
set_option maxHeartbeats 1000000 in
theorem lk_changeGrace {w u : PW} {p : Int32} {fs : List Value} (hw : w[7]? = some (.inr (3, fs))) {r : Int32} {fo : Nat → Int64} (ho : u[107]? = some (oc fo)) (hc : Ct mX3_changeGrace [.ref 7, .int p] w (d1 (some (.int r)) u) nx) : Ct mL_changeGrace [.ref 7, .int p, .ref 107] w (d1 (some (.int (nI 0))) (u.set 107 (oc (vp_updL fo 0 r.toInt64)))) nx := by
  refine ct_ofH 3 kL_changeGrace.1 (by simp) rfl (Nat.le_of_ble_eq_true rfl) (fun v u h => ⟨_, h.1⟩) (fun _ _ h => h.elim) ?_
  show Ev _ _ _ 0 0 [(0, .ref 7), (1, .int p), (2, .ref 107)] [] _
  refine ev_aload_n 2 dL_changeGrace_0 rfl rfl ?_
  refine ev_iconst (nI 0) dL_changeGrace_1 rfl ?_
  refine ev_aload_n 0 dL_changeGrace_2 rfl rfl ?_
  refine ev_iload_n 1 dL_changeGrace_3 rfl rfl ?_
  refine ev_kV1 hc kX3_changeGrace g889 rfl hw rfl rfl dL_changeGrace_4 ?_
  refine ev_i2l dL_changeGrace_7 ?_
  refine ev_las dL_changeGrace_8 ho rfl ?_
  refine ev_goto 15 dL_changeGrace_9 (by decide) ?_
  refine ev_iconst (nI 0) dL_changeGrace_15 rfl ?_
  exact ev_ireturn dL_changeGrace_16 (Nat.le_of_ble_eq_true rfl) ⟨rfl, rfl⟩
set_option maxHeartbeats 1000000 in
theorem lx_changeGrace_1 {w u : PW} {p : Int32} {fs : List Value} (hw : w[7]? = some (.inr (3, fs))) (hc : Ct mX3_changeGrace [.ref 7, .int p] w (fun _ _ => False) (pX "java/lang/IllegalArgumentException" u)) : Ct mL_changeGrace [.ref 7, .int p, .ref 107] w (d1 (some (.int (nI 1))) (u)) nx := by
  refine ct_ofH 3 kL_changeGrace.1 (by simp) rfl (Nat.le_of_ble_eq_true rfl) (fun v u h => ⟨_, h.1⟩) (fun _ _ h => h.elim) ?_
  show Ev _ _ _ 0 0 [(0, .ref 7), (1, .int p), (2, .ref 107)] [] _
  refine ev_aload_n 2 dL_changeGrace_0 rfl rfl ?_
  refine ev_iconst (nI 0) dL_changeGrace_1 rfl ?_
  refine ev_aload_n 0 dL_changeGrace_2 rfl rfl ?_
  refine ev_iload_n 1 dL_changeGrace_3 rfl rfl ?_
  refine ev_xV1 hc kX3_changeGrace g889 rfl hw rfl rfl dL_changeGrace_4 ?_
  exact evx_catch [] (te9 (0, 9, 12, 15)) [] rfl (fun z hz => absurd hz List.not_mem_nil) (by decide) (by decide) g626 (by decide) (nI 1) (fun _ _ => trivial) (Or.inl ⟨3, dL_changeGrace_12, by decide, _, dL_changeGrace_13, rfl, dL_changeGrace_14⟩) (Nat.le_of_ble_eq_true rfl) ⟨rfl, rfl⟩
set_option maxHeartbeats 1000000 in
theorem lk_changeSlip {w u : PW} {p : Int32} {fs : List Value} (hw : w[7]? = some (.inr (3, fs))) {r : Int32} {fo : Nat → Int64} (ho : u[107]? = some (oc fo)) (hc : Ct mX3_changeSlip [.ref 7, .int p] w (d1 (some (.int r)) u) nx) : Ct mL_changeSlip [.ref 7, .int p, .ref 107] w (d1 (some (.int (nI 0))) (u.set 107 (oc (vp_updL fo 0 r.toInt64)))) nx := by
  refine ct_ofH 3 kL_changeSlip.1 (by simp) rfl (Nat.le_of_ble_eq_true rfl) (fun v u h => ⟨_, h.1⟩) (fun _ _ h => h.elim) ?_
  show Ev _ _ _ 0 0 [(0, .ref 7), (1, .int p), (2, .ref 107)] [] _
  refine ev_aload_n 2 dL_changeSlip_0 rfl rfl ?_
  refine ev_iconst (nI 0) dL_changeSlip_1 rfl ?_
  refine ev_aload_n 0 dL_changeSlip_2 rfl rfl ?_
  refine ev_iload_n 1 dL_changeSlip_3 rfl rfl ?_
  refine ev_kV1 hc kX3_changeSlip g896 rfl hw rfl rfl dL_changeSlip_4 ?_
  refine ev_i2l dL_changeSlip_7 ?_
  refine ev_las dL_changeSlip_8 ho rfl ?_
  refine ev_goto 15 dL_changeSlip_9 (by decide) ?_
  refine ev_iconst (nI 0) dL_changeSlip_15 rfl ?_
  exact ev_ireturn dL_changeSlip_16 (Nat.le_of_ble_eq_true rfl) ⟨rfl, rfl⟩
set_option maxHeartbeats 1000000 in
theorem lx_changeSlip_1 {w u : PW} {p : Int32} {fs : List Value} (hw : w[7]? = some (.inr (3, fs))) (hc : Ct mX3_changeSlip [.ref 7, .int p] w (fun _ _ => False) (pX "java/lang/IllegalArgumentException" u)) : Ct mL_changeSlip [.ref 7, .int p, .ref 107] w (d1 (some (.int (nI 1))) (u)) nx := by
  refine ct_ofH 3 kL_changeSlip.1 (by simp) rfl (Nat.le_of_ble_eq_true rfl) (fun v u h => ⟨_, h.1⟩) (fun _ _ h => h.elim) ?_
  show Ev _ _ _ 0 0 [(0, .ref 7), (1, .int p), (2, .ref 107)] [] _
  refine ev_aload_n 2 dL_changeSlip_0 rfl rfl ?_
  refine ev_iconst (nI 0) dL_changeSlip_1 rfl ?_
  refine ev_aload_n 0 dL_changeSlip_2 rfl rfl ?_
  refine ev_iload_n 1 dL_changeSlip_3 rfl rfl ?_
  refine ev_xV1 hc kX3_changeSlip g896 rfl hw rfl rfl dL_changeSlip_4 ?_
  exact evx_catch [] (te9 (0, 9, 12, 15)) [] rfl (fun z hz => absurd hz List.not_mem_nil) (by decide) (by decide) g626 (by decide) (nI 1) (fun _ _ => trivial) (Or.inl ⟨3, dL_changeSlip_12, by decide, _, dL_changeSlip_13, rfl, dL_changeSlip_14⟩) (Nat.le_of_ble_eq_true rfl) ⟨rfl, rfl⟩
set_option maxHeartbeats 1000000 in
theorem lk_append {w u : PW} {p : Int32} {fs : List Value} (hw : w[7]? = some (.inr (3, fs))) {r : Int32} {fo : Nat → Int64} (ho : u[107]? = some (oc fo)) (hc : Ct mX3_append [.ref 7, .int p] w (d1 (some (.int r)) u) nx) : Ct mL_append [.ref 7, .int p, .ref 107] w (d1 (some (.int (nI 0))) (u.set 107 (oc (vp_updL fo 0 r.toInt64)))) nx := by
  refine ct_ofH 3 kL_append.1 (by simp) rfl (Nat.le_of_ble_eq_true rfl) (fun v u h => ⟨_, h.1⟩) (fun _ _ h => h.elim) ?_
  show Ev _ _ _ 0 0 [(0, .ref 7), (1, .int p), (2, .ref 107)] [] _
  refine ev_aload_n 2 dL_append_0 rfl rfl ?_
  refine ev_iconst (nI 0) dL_append_1 rfl ?_
  refine ev_aload_n 0 dL_append_2 rfl rfl ?_
  refine ev_iload_n 1 dL_append_3 rfl rfl ?_
  refine ev_kV1 hc kX3_append g903 rfl hw rfl rfl dL_append_4 ?_
  refine ev_i2l dL_append_7 ?_
  refine ev_las dL_append_8 ho rfl ?_
  refine ev_goto 18 dL_append_9 (by decide) ?_
  refine ev_iconst (nI 0) dL_append_18 rfl ?_
  exact ev_ireturn dL_append_19 (Nat.le_of_ble_eq_true rfl) ⟨rfl, rfl⟩
set_option maxHeartbeats 1000000 in
theorem lx_append_1 {w u : PW} {p : Int32} {fs : List Value} (hw : w[7]? = some (.inr (3, fs))) (hc : Ct mX3_append [.ref 7, .int p] w (fun _ _ => False) (pX "java/lang/IllegalArgumentException" u)) : Ct mL_append [.ref 7, .int p, .ref 107] w (d1 (some (.int (nI 1))) (u)) nx := by
  refine ct_ofH 3 kL_append.1 (by simp) rfl (Nat.le_of_ble_eq_true rfl) (fun v u h => ⟨_, h.1⟩) (fun _ _ h => h.elim) ?_
  show Ev _ _ _ 0 0 [(0, .ref 7), (1, .int p), (2, .ref 107)] [] _
  refine ev_aload_n 2 dL_append_0 rfl rfl ?_
  refine ev_iconst (nI 0) dL_append_1 rfl ?_
  refine ev_aload_n 0 dL_append_2 rfl rfl ?_
  refine ev_iload_n 1 dL_append_3 rfl rfl ?_
  refine ev_xV1 hc kX3_append g903 rfl hw rfl rfl dL_append_4 ?_
  exact evx_catch [] (te9 (0, 9, 12, 15)) [te9 (0, 9, 15, 28)] rfl (fun z hz => absurd hz List.not_mem_nil) (by decide) (by decide) g626 (by decide) (nI 1) (fun _ _ => trivial) (Or.inl ⟨3, dL_append_12, by decide, _, dL_append_13, rfl, dL_append_14⟩) (Nat.le_of_ble_eq_true rfl) ⟨rfl, rfl⟩
set_option maxHeartbeats 1000000 in
theorem lx_append_2 {w u : PW} {p : Int32} {fs : List Value} (hw : w[7]? = some (.inr (3, fs))) (hc : Ct mX3_append [.ref 7, .int p] w (fun _ _ => False) (pX "java/lang/IllegalStateException" u)) : Ct mL_append [.ref 7, .int p, .ref 107] w (d1 (some (.int (nI 2))) (u)) nx := by
  refine ct_ofH 3 kL_append.1 (by simp) rfl (Nat.le_of_ble_eq_true rfl) (fun v u h => ⟨_, h.1⟩) (fun _ _ h => h.elim) ?_
  show Ev _ _ _ 0 0 [(0, .ref 7), (1, .int p), (2, .ref 107)] [] _
  refine ev_aload_n 2 dL_append_0 rfl rfl ?_
  refine ev_iconst (nI 0) dL_append_1 rfl ?_
  refine ev_aload_n 0 dL_append_2 rfl rfl ?_
  refine ev_iload_n 1 dL_append_3 rfl rfl ?_
  refine ev_xV1 hc kX3_append g903 rfl hw rfl rfl dL_append_4 ?_
  exact evx_catch [te9 (0, 9, 12, 15)] (te9 (0, 9, 15, 28)) [] rfl (fun z hz => by
    simp only [List.mem_cons, List.not_mem_nil, or_false] at hz
    subst hz
    exact ⟨by decide, _, g626, fun _ _ _ _ h => h.2.2.1.2.2⟩) (by decide) (by decide) g748 (by decide) (nI 2) (fun _ _ => trivial) (Or.inl ⟨3, dL_append_15, by decide, _, dL_append_16, rfl, dL_append_17⟩) (Nat.le_of_ble_eq_true rfl) ⟨rfl, rfl⟩
set_option maxHeartbeats 1000000 in
theorem lk_follow {w u : PW} {fs : List Value} (hw : w[7]? = some (.inr (3, fs))) {r : Int32} {fo : Nat → Int64} (ho : u[107]? = some (oc fo)) (hc : Ct mX3_follow [.ref 7] w (d1 (some (.int r)) u) nx) : Ct mL_follow [.ref 7, .ref 107] w (d1 (some (.int (nI 0))) (u.set 107 (oc (vp_updL fo 0 r.toInt64)))) nx := by
  refine ct_ofH 2 kL_follow.1 (by simp) rfl (Nat.le_of_ble_eq_true rfl) (fun v u h => ⟨_, h.1⟩) (fun _ _ h => h.elim) ?_
  show Ev _ _ _ 0 0 [(0, .ref 7), (1, .ref 107)] [] _
  refine ev_aload_n 1 dL_follow_0 rfl rfl ?_
  refine ev_iconst (nI 0) dL_follow_1 rfl ?_
  refine ev_aload_n 0 dL_follow_2 rfl rfl ?_
  refine ev_kV0 hc kX3_follow g910 rfl hw rfl rfl dL_follow_3 ?_
  refine ev_i2l dL_follow_6 ?_
  refine ev_las dL_follow_7 ho rfl ?_
  refine ev_goto 17 dL_follow_8 (by decide) ?_
  refine ev_iconst (nI 0) dL_follow_17 rfl ?_
  exact ev_ireturn dL_follow_18 (Nat.le_of_ble_eq_true rfl) ⟨rfl, rfl⟩
set_option maxHeartbeats 1000000 in
theorem lx_follow_1 {w u : PW} {fs : List Value} (hw : w[7]? = some (.inr (3, fs))) (hc : Ct mX3_follow [.ref 7] w (fun _ _ => False) (pX "java/lang/IllegalArgumentException" u)) : Ct mL_follow [.ref 7, .ref 107] w (d1 (some (.int (nI 1))) (u)) nx := by
  refine ct_ofH 2 kL_follow.1 (by simp) rfl (Nat.le_of_ble_eq_true rfl) (fun v u h => ⟨_, h.1⟩) (fun _ _ h => h.elim) ?_
  show Ev _ _ _ 0 0 [(0, .ref 7), (1, .ref 107)] [] _
  refine ev_aload_n 1 dL_follow_0 rfl rfl ?_
  refine ev_iconst (nI 0) dL_follow_1 rfl ?_
  refine ev_aload_n 0 dL_follow_2 rfl rfl ?_
  refine ev_xV0 hc kX3_follow g910 rfl hw rfl rfl dL_follow_3 ?_
  exact evx_catch [] (te9 (0, 8, 11, 15)) [te9 (0, 8, 14, 28)] rfl (fun z hz => absurd hz List.not_mem_nil) (by decide) (by decide) g626 (by decide) (nI 1) (fun _ _ => trivial) (Or.inl ⟨2, dL_follow_11, by decide, _, dL_follow_12, rfl, dL_follow_13⟩) (Nat.le_of_ble_eq_true rfl) ⟨rfl, rfl⟩
set_option maxHeartbeats 1000000 in
theorem lx_follow_2 {w u : PW} {fs : List Value} (hw : w[7]? = some (.inr (3, fs))) (hc : Ct mX3_follow [.ref 7] w (fun _ _ => False) (pX "java/lang/IllegalStateException" u)) : Ct mL_follow [.ref 7, .ref 107] w (d1 (some (.int (nI 2))) (u)) nx := by
  refine ct_ofH 2 kL_follow.1 (by simp) rfl (Nat.le_of_ble_eq_true rfl) (fun v u h => ⟨_, h.1⟩) (fun _ _ h => h.elim) ?_
  show Ev _ _ _ 0 0 [(0, .ref 7), (1, .ref 107)] [] _
  refine ev_aload_n 1 dL_follow_0 rfl rfl ?_
  refine ev_iconst (nI 0) dL_follow_1 rfl ?_
  refine ev_aload_n 0 dL_follow_2 rfl rfl ?_
  refine ev_xV0 hc kX3_follow g910 rfl hw rfl rfl dL_follow_3 ?_
  exact evx_catch [te9 (0, 8, 11, 15)] (te9 (0, 8, 14, 28)) [] rfl (fun z hz => by
    simp only [List.mem_cons, List.not_mem_nil, or_false] at hz
    subst hz
    exact ⟨by decide, _, g626, fun _ _ _ _ h => h.2.2.1.2.2⟩) (by decide) (by decide) g748 (by decide) (nI 2) (fun _ _ => trivial) (Or.inl ⟨2, dL_follow_14, by decide, _, dL_follow_15, rfl, dL_follow_16⟩) (Nat.le_of_ble_eq_true rfl) ⟨rfl, rfl⟩
set_option maxHeartbeats 1000000 in
theorem lk_keep {w u : PW} {p : Int32} {fs : List Value} (hw : w[7]? = some (.inr (3, fs))) (hc : Ct mX3_keep [.ref 7, .int p] w (d1 none u) nx) : Ct mL_keep [.ref 7, .int p] w (d1 (some (.int (nI 0))) (u)) nx := by
  refine ct_ofH 2 kL_keep.1 (by simp) rfl (Nat.le_of_ble_eq_true rfl) (fun v u h => ⟨_, h.1⟩) (fun _ _ h => h.elim) ?_
  show Ev _ _ _ 0 0 [(0, .ref 7), (1, .int p)] [] _
  refine ev_aload_n 0 dL_keep_0 rfl rfl ?_
  refine ev_iload_n 1 dL_keep_1 rfl rfl ?_
  refine ev_kV1v hc kX3_keep g932 rfl hw rfl rfl dL_keep_2 ?_
  refine ev_goto 11 dL_keep_5 (by decide) ?_
  refine ev_iconst (nI 0) dL_keep_11 rfl ?_
  exact ev_ireturn dL_keep_12 (Nat.le_of_ble_eq_true rfl) ⟨rfl, rfl⟩
set_option maxHeartbeats 1000000 in
theorem lx_keep_1 {w u : PW} {p : Int32} {fs : List Value} (hw : w[7]? = some (.inr (3, fs))) (hc : Ct mX3_keep [.ref 7, .int p] w (fun _ _ => False) (pX "java/lang/IllegalArgumentException" u)) : Ct mL_keep [.ref 7, .int p] w (d1 (some (.int (nI 1))) (u)) nx := by
  refine ct_ofH 2 kL_keep.1 (by simp) rfl (Nat.le_of_ble_eq_true rfl) (fun v u h => ⟨_, h.1⟩) (fun _ _ h => h.elim) ?_
  show Ev _ _ _ 0 0 [(0, .ref 7), (1, .int p)] [] _
  refine ev_aload_n 0 dL_keep_0 rfl rfl ?_
  refine ev_iload_n 1 dL_keep_1 rfl rfl ?_
  refine ev_xV1 hc kX3_keep g932 rfl hw rfl rfl dL_keep_2 ?_
  exact evx_catch [] (te9 (0, 5, 8, 15)) [] rfl (fun z hz => absurd hz List.not_mem_nil) (by decide) (by decide) g626 (by decide) (nI 1) (fun _ _ => trivial) (Or.inl ⟨2, dL_keep_8, by decide, _, dL_keep_9, rfl, dL_keep_10⟩) (Nat.le_of_ble_eq_true rfl) ⟨rfl, rfl⟩
set_option maxHeartbeats 1000000 in
theorem lk_goBack {w u : PW} {p : Int32} {fs : List Value} (hw : w[7]? = some (.inr (3, fs))) (hc : Ct mX3_goBack [.ref 7, .int p] w (d1 none u) nx) : Ct mL_goBack [.ref 7, .int p] w (d1 (some (.int (nI 0))) (u)) nx := by
  refine ct_ofH 2 kL_goBack.1 (by simp) rfl (Nat.le_of_ble_eq_true rfl) (fun v u h => ⟨_, h.1⟩) (fun _ _ h => h.elim) ?_
  show Ev _ _ _ 0 0 [(0, .ref 7), (1, .int p)] [] _
  refine ev_aload_n 0 dL_goBack_0 rfl rfl ?_
  refine ev_iload_n 1 dL_goBack_1 rfl rfl ?_
  refine ev_kV1v hc kX3_goBack g939 rfl hw rfl rfl dL_goBack_2 ?_
  refine ev_goto 14 dL_goBack_5 (by decide) ?_
  refine ev_iconst (nI 0) dL_goBack_14 rfl ?_
  exact ev_ireturn dL_goBack_15 (Nat.le_of_ble_eq_true rfl) ⟨rfl, rfl⟩
set_option maxHeartbeats 1000000 in
theorem lx_goBack_1 {w u : PW} {p : Int32} {fs : List Value} (hw : w[7]? = some (.inr (3, fs))) (hc : Ct mX3_goBack [.ref 7, .int p] w (fun _ _ => False) (pX "java/lang/IllegalArgumentException" u)) : Ct mL_goBack [.ref 7, .int p] w (d1 (some (.int (nI 1))) (u)) nx := by
  refine ct_ofH 2 kL_goBack.1 (by simp) rfl (Nat.le_of_ble_eq_true rfl) (fun v u h => ⟨_, h.1⟩) (fun _ _ h => h.elim) ?_
  show Ev _ _ _ 0 0 [(0, .ref 7), (1, .int p)] [] _
  refine ev_aload_n 0 dL_goBack_0 rfl rfl ?_
  refine ev_iload_n 1 dL_goBack_1 rfl rfl ?_
  refine ev_xV1 hc kX3_goBack g939 rfl hw rfl rfl dL_goBack_2 ?_
  exact evx_catch [] (te9 (0, 5, 8, 15)) [te9 (0, 5, 11, 28)] rfl (fun z hz => absurd hz List.not_mem_nil) (by decide) (by decide) g626 (by decide) (nI 1) (fun _ _ => trivial) (Or.inl ⟨2, dL_goBack_8, by decide, _, dL_goBack_9, rfl, dL_goBack_10⟩) (Nat.le_of_ble_eq_true rfl) ⟨rfl, rfl⟩
set_option maxHeartbeats 1000000 in
theorem lx_goBack_2 {w u : PW} {p : Int32} {fs : List Value} (hw : w[7]? = some (.inr (3, fs))) (hc : Ct mX3_goBack [.ref 7, .int p] w (fun _ _ => False) (pX "java/lang/IllegalStateException" u)) : Ct mL_goBack [.ref 7, .int p] w (d1 (some (.int (nI 2))) (u)) nx := by
  refine ct_ofH 2 kL_goBack.1 (by simp) rfl (Nat.le_of_ble_eq_true rfl) (fun v u h => ⟨_, h.1⟩) (fun _ _ h => h.elim) ?_
  show Ev _ _ _ 0 0 [(0, .ref 7), (1, .int p)] [] _
  refine ev_aload_n 0 dL_goBack_0 rfl rfl ?_
  refine ev_iload_n 1 dL_goBack_1 rfl rfl ?_
  refine ev_xV1 hc kX3_goBack g939 rfl hw rfl rfl dL_goBack_2 ?_
  exact evx_catch [te9 (0, 5, 8, 15)] (te9 (0, 5, 11, 28)) [] rfl (fun z hz => by
    simp only [List.mem_cons, List.not_mem_nil, or_false] at hz
    subst hz
    exact ⟨by decide, _, g626, fun _ _ _ _ h => h.2.2.1.2.2⟩) (by decide) (by decide) g748 (by decide) (nI 2) (fun _ _ => trivial) (Or.inl ⟨2, dL_goBack_11, by decide, _, dL_goBack_12, rfl, dL_goBack_13⟩) (Nat.le_of_ble_eq_true rfl) ⟨rfl, rfl⟩
set_option maxHeartbeats 1000000 in
theorem lk_undo {w u : PW} {fs : List Value} (hw : w[7]? = some (.inr (3, fs))) (hc : Ct mX3_undo [.ref 7] w (d1 none u) nx) : Ct mL_undo [.ref 7] w (d1 (some (.int (nI 0))) (u)) nx := by
  refine ct_ofH 1 kL_undo.1 (by simp) rfl (Nat.le_of_ble_eq_true rfl) (fun v u h => ⟨_, h.1⟩) (fun _ _ h => h.elim) ?_
  show Ev _ _ _ 0 0 [(0, .ref 7)] [] _
  refine ev_aload_n 0 dL_undo_0 rfl rfl ?_
  refine ev_kV0v hc kX3_undo g946 rfl hw rfl rfl dL_undo_1 ?_
  refine ev_goto 10 dL_undo_4 (by decide) ?_
  refine ev_iconst (nI 0) dL_undo_10 rfl ?_
  exact ev_ireturn dL_undo_11 (Nat.le_of_ble_eq_true rfl) ⟨rfl, rfl⟩
set_option maxHeartbeats 1000000 in
theorem lx_undo_1 {w u : PW} {fs : List Value} (hw : w[7]? = some (.inr (3, fs))) (hc : Ct mX3_undo [.ref 7] w (fun _ _ => False) (pX "java/lang/IllegalStateException" u)) : Ct mL_undo [.ref 7] w (d1 (some (.int (nI 1))) (u)) nx := by
  refine ct_ofH 1 kL_undo.1 (by simp) rfl (Nat.le_of_ble_eq_true rfl) (fun v u h => ⟨_, h.1⟩) (fun _ _ h => h.elim) ?_
  show Ev _ _ _ 0 0 [(0, .ref 7)] [] _
  refine ev_aload_n 0 dL_undo_0 rfl rfl ?_
  refine ev_xV0 hc kX3_undo g946 rfl hw rfl rfl dL_undo_1 ?_
  exact evx_catch [] (te9 (0, 4, 7, 28)) [] rfl (fun z hz => absurd hz List.not_mem_nil) (by decide) (by decide) g748 (by decide) (nI 1) (fun _ _ => trivial) (Or.inl ⟨1, dL_undo_7, by decide, _, dL_undo_8, rfl, dL_undo_9⟩) (Nat.le_of_ble_eq_true rfl) ⟨rfl, rfl⟩
set_option maxHeartbeats 1000000 in
theorem lk_priceOf {w u : PW} {p : Int32} {fs : List Value} (hw : w[7]? = some (.inr (3, fs))) {r : Int32} {fo : Nat → Int64} (ho : u[107]? = some (oc fo)) (hc : Ct mX3_priceOf [.ref 7, .int p] w (d1 (some (.int r)) u) nx) : Ct mL_priceOf [.ref 7, .int p, .ref 107] w (d1 (some (.int (nI 0))) (u.set 107 (oc (vp_updL fo 0 r.toInt64)))) nx := by
  refine ct_ofH 3 kL_priceOf.1 (by simp) rfl (Nat.le_of_ble_eq_true rfl) (fun v u h => ⟨_, h.1⟩) (fun _ _ h => h.elim) ?_
  show Ev _ _ _ 0 0 [(0, .ref 7), (1, .int p), (2, .ref 107)] [] _
  refine ev_aload_n 2 dL_priceOf_0 rfl rfl ?_
  refine ev_iconst (nI 0) dL_priceOf_1 rfl ?_
  refine ev_aload_n 0 dL_priceOf_2 rfl rfl ?_
  refine ev_iload_n 1 dL_priceOf_3 rfl rfl ?_
  refine ev_kV1 hc kX3_priceOf g953 rfl hw rfl rfl dL_priceOf_4 ?_
  refine ev_i2l dL_priceOf_7 ?_
  refine ev_las dL_priceOf_8 ho rfl ?_
  refine ev_goto 15 dL_priceOf_9 (by decide) ?_
  refine ev_iconst (nI 0) dL_priceOf_15 rfl ?_
  exact ev_ireturn dL_priceOf_16 (Nat.le_of_ble_eq_true rfl) ⟨rfl, rfl⟩
set_option maxHeartbeats 1000000 in
theorem lx_priceOf_1 {w u : PW} {p : Int32} {fs : List Value} (hw : w[7]? = some (.inr (3, fs))) (hc : Ct mX3_priceOf [.ref 7, .int p] w (fun _ _ => False) (pX "java/lang/IndexOutOfBoundsException" u)) : Ct mL_priceOf [.ref 7, .int p, .ref 107] w (d1 (some (.int (nI 1))) (u)) nx := by
  refine ct_ofH 3 kL_priceOf.1 (by simp) rfl (Nat.le_of_ble_eq_true rfl) (fun v u h => ⟨_, h.1⟩) (fun _ _ h => h.elim) ?_
  show Ev _ _ _ 0 0 [(0, .ref 7), (1, .int p), (2, .ref 107)] [] _
  refine ev_aload_n 2 dL_priceOf_0 rfl rfl ?_
  refine ev_iconst (nI 0) dL_priceOf_1 rfl ?_
  refine ev_aload_n 0 dL_priceOf_2 rfl rfl ?_
  refine ev_iload_n 1 dL_priceOf_3 rfl rfl ?_
  refine ev_xV1 hc kX3_priceOf g953 rfl hw rfl rfl dL_priceOf_4 ?_
  exact evx_catch [] (te9 (0, 9, 12, 13)) [] rfl (fun z hz => absurd hz List.not_mem_nil) (by decide) (by decide) g625 (by decide) (nI 1) (fun _ _ => trivial) (Or.inl ⟨3, dL_priceOf_12, by decide, _, dL_priceOf_13, rfl, dL_priceOf_14⟩) (Nat.le_of_ble_eq_true rfl) ⟨rfl, rfl⟩
set_option maxHeartbeats 1000000 in
theorem lk_cutOf {w u : PW} {p : Int32} {fs : List Value} (hw : w[7]? = some (.inr (3, fs))) {r : Int32} {fo : Nat → Int64} (ho : u[107]? = some (oc fo)) (hc : Ct mX3_cutOf [.ref 7, .int p] w (d1 (some (.int r)) u) nx) : Ct mL_cutOf [.ref 7, .int p, .ref 107] w (d1 (some (.int (nI 0))) (u.set 107 (oc (vp_updL fo 0 r.toInt64)))) nx := by
  refine ct_ofH 3 kL_cutOf.1 (by simp) rfl (Nat.le_of_ble_eq_true rfl) (fun v u h => ⟨_, h.1⟩) (fun _ _ h => h.elim) ?_
  show Ev _ _ _ 0 0 [(0, .ref 7), (1, .int p), (2, .ref 107)] [] _
  refine ev_aload_n 2 dL_cutOf_0 rfl rfl ?_
  refine ev_iconst (nI 0) dL_cutOf_1 rfl ?_
  refine ev_aload_n 0 dL_cutOf_2 rfl rfl ?_
  refine ev_iload_n 1 dL_cutOf_3 rfl rfl ?_
  refine ev_kV1 hc kX3_cutOf g960 rfl hw rfl rfl dL_cutOf_4 ?_
  refine ev_i2l dL_cutOf_7 ?_
  refine ev_las dL_cutOf_8 ho rfl ?_
  refine ev_goto 15 dL_cutOf_9 (by decide) ?_
  refine ev_iconst (nI 0) dL_cutOf_15 rfl ?_
  exact ev_ireturn dL_cutOf_16 (Nat.le_of_ble_eq_true rfl) ⟨rfl, rfl⟩
set_option maxHeartbeats 1000000 in
theorem lx_cutOf_1 {w u : PW} {p : Int32} {fs : List Value} (hw : w[7]? = some (.inr (3, fs))) (hc : Ct mX3_cutOf [.ref 7, .int p] w (fun _ _ => False) (pX "java/lang/IndexOutOfBoundsException" u)) : Ct mL_cutOf [.ref 7, .int p, .ref 107] w (d1 (some (.int (nI 1))) (u)) nx := by
  refine ct_ofH 3 kL_cutOf.1 (by simp) rfl (Nat.le_of_ble_eq_true rfl) (fun v u h => ⟨_, h.1⟩) (fun _ _ h => h.elim) ?_
  show Ev _ _ _ 0 0 [(0, .ref 7), (1, .int p), (2, .ref 107)] [] _
  refine ev_aload_n 2 dL_cutOf_0 rfl rfl ?_
  refine ev_iconst (nI 0) dL_cutOf_1 rfl ?_
  refine ev_aload_n 0 dL_cutOf_2 rfl rfl ?_
  refine ev_iload_n 1 dL_cutOf_3 rfl rfl ?_
  refine ev_xV1 hc kX3_cutOf g960 rfl hw rfl rfl dL_cutOf_4 ?_
  exact evx_catch [] (te9 (0, 9, 12, 13)) [] rfl (fun z hz => absurd hz List.not_mem_nil) (by decide) (by decide) g625 (by decide) (nI 1) (fun _ _ => trivial) (Or.inl ⟨3, dL_cutOf_12, by decide, _, dL_cutOf_13, rfl, dL_cutOf_14⟩) (Nat.le_of_ble_eq_true rfl) ⟨rfl, rfl⟩
set_option maxHeartbeats 1000000 in
theorem lk_pledgedOf {w u : PW} {p : Int32} {fs : List Value} (hw : w[7]? = some (.inr (3, fs))) {r : Int32} {fo : Nat → Int64} (ho : u[107]? = some (oc fo)) (hc : Ct mX3_pledgedOf [.ref 7, .int p] w (d1 (some (.int r)) u) nx) : Ct mL_pledgedOf [.ref 7, .int p, .ref 107] w (d1 (some (.int (nI 0))) (u.set 107 (oc (vp_updL fo 0 r.toInt64)))) nx := by
  refine ct_ofH 3 kL_pledgedOf.1 (by simp) rfl (Nat.le_of_ble_eq_true rfl) (fun v u h => ⟨_, h.1⟩) (fun _ _ h => h.elim) ?_
  show Ev _ _ _ 0 0 [(0, .ref 7), (1, .int p), (2, .ref 107)] [] _
  refine ev_aload_n 2 dL_pledgedOf_0 rfl rfl ?_
  refine ev_iconst (nI 0) dL_pledgedOf_1 rfl ?_
  refine ev_aload_n 0 dL_pledgedOf_2 rfl rfl ?_
  refine ev_iload_n 1 dL_pledgedOf_3 rfl rfl ?_
  refine ev_kV1 hc kX3_pledgedOf g967 rfl hw rfl rfl dL_pledgedOf_4 ?_
  refine ev_i2l dL_pledgedOf_7 ?_
  refine ev_las dL_pledgedOf_8 ho rfl ?_
  refine ev_goto 15 dL_pledgedOf_9 (by decide) ?_
  refine ev_iconst (nI 0) dL_pledgedOf_15 rfl ?_
  exact ev_ireturn dL_pledgedOf_16 (Nat.le_of_ble_eq_true rfl) ⟨rfl, rfl⟩
set_option maxHeartbeats 1000000 in
theorem lx_pledgedOf_1 {w u : PW} {p : Int32} {fs : List Value} (hw : w[7]? = some (.inr (3, fs))) (hc : Ct mX3_pledgedOf [.ref 7, .int p] w (fun _ _ => False) (pX "java/lang/IndexOutOfBoundsException" u)) : Ct mL_pledgedOf [.ref 7, .int p, .ref 107] w (d1 (some (.int (nI 1))) (u)) nx := by
  refine ct_ofH 3 kL_pledgedOf.1 (by simp) rfl (Nat.le_of_ble_eq_true rfl) (fun v u h => ⟨_, h.1⟩) (fun _ _ h => h.elim) ?_
  show Ev _ _ _ 0 0 [(0, .ref 7), (1, .int p), (2, .ref 107)] [] _
  refine ev_aload_n 2 dL_pledgedOf_0 rfl rfl ?_
  refine ev_iconst (nI 0) dL_pledgedOf_1 rfl ?_
  refine ev_aload_n 0 dL_pledgedOf_2 rfl rfl ?_
  refine ev_iload_n 1 dL_pledgedOf_3 rfl rfl ?_
  refine ev_xV1 hc kX3_pledgedOf g967 rfl hw rfl rfl dL_pledgedOf_4 ?_
  exact evx_catch [] (te9 (0, 9, 12, 13)) [] rfl (fun z hz => absurd hz List.not_mem_nil) (by decide) (by decide) g625 (by decide) (nI 1) (fun _ _ => trivial) (Or.inl ⟨3, dL_pledgedOf_12, by decide, _, dL_pledgedOf_13, rfl, dL_pledgedOf_14⟩) (Nat.le_of_ble_eq_true rfl) ⟨rfl, rfl⟩
set_option maxHeartbeats 1000000 in
theorem lk_soldOf {w u : PW} {p : Int32} {fs : List Value} (hw : w[7]? = some (.inr (3, fs))) {r : Int32} {fo : Nat → Int64} (ho : u[107]? = some (oc fo)) (hc : Ct mX3_soldOf [.ref 7, .int p] w (d1 (some (.int r)) u) nx) : Ct mL_soldOf [.ref 7, .int p, .ref 107] w (d1 (some (.int (nI 0))) (u.set 107 (oc (vp_updL fo 0 r.toInt64)))) nx := by
  refine ct_ofH 3 kL_soldOf.1 (by simp) rfl (Nat.le_of_ble_eq_true rfl) (fun v u h => ⟨_, h.1⟩) (fun _ _ h => h.elim) ?_
  show Ev _ _ _ 0 0 [(0, .ref 7), (1, .int p), (2, .ref 107)] [] _
  refine ev_aload_n 2 dL_soldOf_0 rfl rfl ?_
  refine ev_iconst (nI 0) dL_soldOf_1 rfl ?_
  refine ev_aload_n 0 dL_soldOf_2 rfl rfl ?_
  refine ev_iload_n 1 dL_soldOf_3 rfl rfl ?_
  refine ev_kV1 hc kX3_soldOf g974 rfl hw rfl rfl dL_soldOf_4 ?_
  refine ev_i2l dL_soldOf_7 ?_
  refine ev_las dL_soldOf_8 ho rfl ?_
  refine ev_goto 15 dL_soldOf_9 (by decide) ?_
  refine ev_iconst (nI 0) dL_soldOf_15 rfl ?_
  exact ev_ireturn dL_soldOf_16 (Nat.le_of_ble_eq_true rfl) ⟨rfl, rfl⟩
set_option maxHeartbeats 1000000 in
theorem lx_soldOf_1 {w u : PW} {p : Int32} {fs : List Value} (hw : w[7]? = some (.inr (3, fs))) (hc : Ct mX3_soldOf [.ref 7, .int p] w (fun _ _ => False) (pX "java/lang/IndexOutOfBoundsException" u)) : Ct mL_soldOf [.ref 7, .int p, .ref 107] w (d1 (some (.int (nI 1))) (u)) nx := by
  refine ct_ofH 3 kL_soldOf.1 (by simp) rfl (Nat.le_of_ble_eq_true rfl) (fun v u h => ⟨_, h.1⟩) (fun _ _ h => h.elim) ?_
  show Ev _ _ _ 0 0 [(0, .ref 7), (1, .int p), (2, .ref 107)] [] _
  refine ev_aload_n 2 dL_soldOf_0 rfl rfl ?_
  refine ev_iconst (nI 0) dL_soldOf_1 rfl ?_
  refine ev_aload_n 0 dL_soldOf_2 rfl rfl ?_
  refine ev_iload_n 1 dL_soldOf_3 rfl rfl ?_
  refine ev_xV1 hc kX3_soldOf g974 rfl hw rfl rfl dL_soldOf_4 ?_
  exact evx_catch [] (te9 (0, 9, 12, 13)) [] rfl (fun z hz => absurd hz List.not_mem_nil) (by decide) (by decide) g625 (by decide) (nI 1) (fun _ _ => trivial) (Or.inl ⟨3, dL_soldOf_12, by decide, _, dL_soldOf_13, rfl, dL_soldOf_14⟩) (Nat.le_of_ble_eq_true rfl) ⟨rfl, rfl⟩
set_option maxHeartbeats 1000000 in
theorem lk_piecesOf {w u : PW} {p q : Int32} {fs : List Value} (hw : w[7]? = some (.inr (3, fs))) {r : Int32} {fo : Nat → Int64} (ho : u[107]? = some (oc fo)) (hc : Ct mX3_piecesOf [.ref 7, .int p, .int q] w (d1 (some (.int r)) u) nx) : Ct mL_piecesOf [.ref 7, .int p, .int q, .ref 107] w (d1 (some (.int (nI 0))) (u.set 107 (oc (vp_updL fo 0 r.toInt64)))) nx := by
  refine ct_ofH 4 kL_piecesOf.1 (by simp) rfl (Nat.le_of_ble_eq_true rfl) (fun v u h => ⟨_, h.1⟩) (fun _ _ h => h.elim) ?_
  show Ev _ _ _ 0 0 [(0, .ref 7), (1, .int p), (2, .int q), (3, .ref 107)] [] _
  refine ev_aload_n 3 dL_piecesOf_0 rfl rfl ?_
  refine ev_iconst (nI 0) dL_piecesOf_1 rfl ?_
  refine ev_aload_n 0 dL_piecesOf_2 rfl rfl ?_
  refine ev_iload_n 1 dL_piecesOf_3 rfl rfl ?_
  refine ev_iload_n 2 dL_piecesOf_4 rfl rfl ?_
  refine ev_kV2 hc kX3_piecesOf g981 rfl hw rfl rfl dL_piecesOf_5 ?_
  refine ev_i2l dL_piecesOf_8 ?_
  refine ev_las dL_piecesOf_9 ho rfl ?_
  refine ev_goto 17 dL_piecesOf_10 (by decide) ?_
  refine ev_iconst (nI 0) dL_piecesOf_17 rfl ?_
  exact ev_ireturn dL_piecesOf_18 (Nat.le_of_ble_eq_true rfl) ⟨rfl, rfl⟩
set_option maxHeartbeats 1000000 in
theorem lx_piecesOf_1 {w u : PW} {p q : Int32} {fs : List Value} (hw : w[7]? = some (.inr (3, fs))) (hc : Ct mX3_piecesOf [.ref 7, .int p, .int q] w (fun _ _ => False) (pX "java/lang/IndexOutOfBoundsException" u)) : Ct mL_piecesOf [.ref 7, .int p, .int q, .ref 107] w (d1 (some (.int (nI 1))) (u)) nx := by
  refine ct_ofH 4 kL_piecesOf.1 (by simp) rfl (Nat.le_of_ble_eq_true rfl) (fun v u h => ⟨_, h.1⟩) (fun _ _ h => h.elim) ?_
  show Ev _ _ _ 0 0 [(0, .ref 7), (1, .int p), (2, .int q), (3, .ref 107)] [] _
  refine ev_aload_n 3 dL_piecesOf_0 rfl rfl ?_
  refine ev_iconst (nI 0) dL_piecesOf_1 rfl ?_
  refine ev_aload_n 0 dL_piecesOf_2 rfl rfl ?_
  refine ev_iload_n 1 dL_piecesOf_3 rfl rfl ?_
  refine ev_iload_n 2 dL_piecesOf_4 rfl rfl ?_
  refine ev_xV2 hc kX3_piecesOf g981 rfl hw rfl rfl dL_piecesOf_5 ?_
  exact evx_catch [] (te9 (0, 10, 13, 13)) [] rfl (fun z hz => absurd hz List.not_mem_nil) (by decide) (by decide) g625 (by decide) (nI 1) (fun _ _ => trivial) (Or.inr ⟨4, dL_piecesOf_13, by decide, _, dL_piecesOf_15, rfl, dL_piecesOf_16⟩) (Nat.le_of_ble_eq_true rfl) ⟨rfl, rfl⟩
set_option maxHeartbeats 1000000 in
theorem lk_coinsOf {w u : PW} {p : Int32} {fs : List Value} (hw : w[7]? = some (.inr (3, fs))) {r : Int32} {fo : Nat → Int64} (ho : u[107]? = some (oc fo)) (hc : Ct mX3_coinsOf [.ref 7, .int p] w (d1 (some (.int r)) u) nx) : Ct mL_coinsOf [.ref 7, .int p, .ref 107] w (d1 (some (.int (nI 0))) (u.set 107 (oc (vp_updL fo 0 r.toInt64)))) nx := by
  refine ct_ofH 3 kL_coinsOf.1 (by simp) rfl (Nat.le_of_ble_eq_true rfl) (fun v u h => ⟨_, h.1⟩) (fun _ _ h => h.elim) ?_
  show Ev _ _ _ 0 0 [(0, .ref 7), (1, .int p), (2, .ref 107)] [] _
  refine ev_aload_n 2 dL_coinsOf_0 rfl rfl ?_
  refine ev_iconst (nI 0) dL_coinsOf_1 rfl ?_
  refine ev_aload_n 0 dL_coinsOf_2 rfl rfl ?_
  refine ev_iload_n 1 dL_coinsOf_3 rfl rfl ?_
  refine ev_kV1 hc kX3_coinsOf g988 rfl hw rfl rfl dL_coinsOf_4 ?_
  refine ev_i2l dL_coinsOf_7 ?_
  refine ev_las dL_coinsOf_8 ho rfl ?_
  refine ev_goto 15 dL_coinsOf_9 (by decide) ?_
  refine ev_iconst (nI 0) dL_coinsOf_15 rfl ?_
  exact ev_ireturn dL_coinsOf_16 (Nat.le_of_ble_eq_true rfl) ⟨rfl, rfl⟩
set_option maxHeartbeats 1000000 in
theorem lx_coinsOf_1 {w u : PW} {p : Int32} {fs : List Value} (hw : w[7]? = some (.inr (3, fs))) (hc : Ct mX3_coinsOf [.ref 7, .int p] w (fun _ _ => False) (pX "java/lang/IndexOutOfBoundsException" u)) : Ct mL_coinsOf [.ref 7, .int p, .ref 107] w (d1 (some (.int (nI 1))) (u)) nx := by
  refine ct_ofH 3 kL_coinsOf.1 (by simp) rfl (Nat.le_of_ble_eq_true rfl) (fun v u h => ⟨_, h.1⟩) (fun _ _ h => h.elim) ?_
  show Ev _ _ _ 0 0 [(0, .ref 7), (1, .int p), (2, .ref 107)] [] _
  refine ev_aload_n 2 dL_coinsOf_0 rfl rfl ?_
  refine ev_iconst (nI 0) dL_coinsOf_1 rfl ?_
  refine ev_aload_n 0 dL_coinsOf_2 rfl rfl ?_
  refine ev_iload_n 1 dL_coinsOf_3 rfl rfl ?_
  refine ev_xV1 hc kX3_coinsOf g988 rfl hw rfl rfl dL_coinsOf_4 ?_
  exact evx_catch [] (te9 (0, 9, 12, 13)) [] rfl (fun z hz => absurd hz List.not_mem_nil) (by decide) (by decide) g625 (by decide) (nI 1) (fun _ _ => trivial) (Or.inl ⟨3, dL_coinsOf_12, by decide, _, dL_coinsOf_13, rfl, dL_coinsOf_14⟩) (Nat.le_of_ble_eq_true rfl) ⟨rfl, rfl⟩
set_option maxHeartbeats 1000000 in
theorem lk_debtOf {w u : PW} {p : Int32} {fs : List Value} (hw : w[7]? = some (.inr (3, fs))) {r : Int32} {fo : Nat → Int64} (ho : u[107]? = some (oc fo)) (hc : Ct mX3_debtOf [.ref 7, .int p] w (d1 (some (.int r)) u) nx) : Ct mL_debtOf [.ref 7, .int p, .ref 107] w (d1 (some (.int (nI 0))) (u.set 107 (oc (vp_updL fo 0 r.toInt64)))) nx := by
  refine ct_ofH 3 kL_debtOf.1 (by simp) rfl (Nat.le_of_ble_eq_true rfl) (fun v u h => ⟨_, h.1⟩) (fun _ _ h => h.elim) ?_
  show Ev _ _ _ 0 0 [(0, .ref 7), (1, .int p), (2, .ref 107)] [] _
  refine ev_aload_n 2 dL_debtOf_0 rfl rfl ?_
  refine ev_iconst (nI 0) dL_debtOf_1 rfl ?_
  refine ev_aload_n 0 dL_debtOf_2 rfl rfl ?_
  refine ev_iload_n 1 dL_debtOf_3 rfl rfl ?_
  refine ev_kV1 hc kX3_debtOf g995 rfl hw rfl rfl dL_debtOf_4 ?_
  refine ev_i2l dL_debtOf_7 ?_
  refine ev_las dL_debtOf_8 ho rfl ?_
  refine ev_goto 15 dL_debtOf_9 (by decide) ?_
  refine ev_iconst (nI 0) dL_debtOf_15 rfl ?_
  exact ev_ireturn dL_debtOf_16 (Nat.le_of_ble_eq_true rfl) ⟨rfl, rfl⟩
set_option maxHeartbeats 1000000 in
theorem lx_debtOf_1 {w u : PW} {p : Int32} {fs : List Value} (hw : w[7]? = some (.inr (3, fs))) (hc : Ct mX3_debtOf [.ref 7, .int p] w (fun _ _ => False) (pX "java/lang/IndexOutOfBoundsException" u)) : Ct mL_debtOf [.ref 7, .int p, .ref 107] w (d1 (some (.int (nI 1))) (u)) nx := by
  refine ct_ofH 3 kL_debtOf.1 (by simp) rfl (Nat.le_of_ble_eq_true rfl) (fun v u h => ⟨_, h.1⟩) (fun _ _ h => h.elim) ?_
  show Ev _ _ _ 0 0 [(0, .ref 7), (1, .int p), (2, .ref 107)] [] _
  refine ev_aload_n 2 dL_debtOf_0 rfl rfl ?_
  refine ev_iconst (nI 0) dL_debtOf_1 rfl ?_
  refine ev_aload_n 0 dL_debtOf_2 rfl rfl ?_
  refine ev_iload_n 1 dL_debtOf_3 rfl rfl ?_
  refine ev_xV1 hc kX3_debtOf g995 rfl hw rfl rfl dL_debtOf_4 ?_
  exact evx_catch [] (te9 (0, 9, 12, 13)) [] rfl (fun z hz => absurd hz List.not_mem_nil) (by decide) (by decide) g625 (by decide) (nI 1) (fun _ _ => trivial) (Or.inl ⟨3, dL_debtOf_12, by decide, _, dL_debtOf_13, rfl, dL_debtOf_14⟩) (Nat.le_of_ble_eq_true rfl) ⟨rfl, rfl⟩
set_option maxHeartbeats 1000000 in
theorem lk_worthOf {w u : PW} {p : Int32} {fs : List Value} (hw : w[7]? = some (.inr (3, fs))) {r : Int32} {fo : Nat → Int64} (ho : u[107]? = some (oc fo)) (hc : Ct mX3_worthOf [.ref 7, .int p] w (d1 (some (.int r)) u) nx) : Ct mL_worthOf [.ref 7, .int p, .ref 107] w (d1 (some (.int (nI 0))) (u.set 107 (oc (vp_updL fo 0 r.toInt64)))) nx := by
  refine ct_ofH 3 kL_worthOf.1 (by simp) rfl (Nat.le_of_ble_eq_true rfl) (fun v u h => ⟨_, h.1⟩) (fun _ _ h => h.elim) ?_
  show Ev _ _ _ 0 0 [(0, .ref 7), (1, .int p), (2, .ref 107)] [] _
  refine ev_aload_n 2 dL_worthOf_0 rfl rfl ?_
  refine ev_iconst (nI 0) dL_worthOf_1 rfl ?_
  refine ev_aload_n 0 dL_worthOf_2 rfl rfl ?_
  refine ev_iload_n 1 dL_worthOf_3 rfl rfl ?_
  refine ev_kV1 hc kX3_worthOf g1002 rfl hw rfl rfl dL_worthOf_4 ?_
  refine ev_i2l dL_worthOf_7 ?_
  refine ev_las dL_worthOf_8 ho rfl ?_
  refine ev_goto 15 dL_worthOf_9 (by decide) ?_
  refine ev_iconst (nI 0) dL_worthOf_15 rfl ?_
  exact ev_ireturn dL_worthOf_16 (Nat.le_of_ble_eq_true rfl) ⟨rfl, rfl⟩
set_option maxHeartbeats 1000000 in
theorem lx_worthOf_1 {w u : PW} {p : Int32} {fs : List Value} (hw : w[7]? = some (.inr (3, fs))) (hc : Ct mX3_worthOf [.ref 7, .int p] w (fun _ _ => False) (pX "java/lang/IndexOutOfBoundsException" u)) : Ct mL_worthOf [.ref 7, .int p, .ref 107] w (d1 (some (.int (nI 1))) (u)) nx := by
  refine ct_ofH 3 kL_worthOf.1 (by simp) rfl (Nat.le_of_ble_eq_true rfl) (fun v u h => ⟨_, h.1⟩) (fun _ _ h => h.elim) ?_
  show Ev _ _ _ 0 0 [(0, .ref 7), (1, .int p), (2, .ref 107)] [] _
  refine ev_aload_n 2 dL_worthOf_0 rfl rfl ?_
  refine ev_iconst (nI 0) dL_worthOf_1 rfl ?_
  refine ev_aload_n 0 dL_worthOf_2 rfl rfl ?_
  refine ev_iload_n 1 dL_worthOf_3 rfl rfl ?_
  refine ev_xV1 hc kX3_worthOf g1002 rfl hw rfl rfl dL_worthOf_4 ?_
  exact evx_catch [] (te9 (0, 9, 12, 13)) [] rfl (fun z hz => absurd hz List.not_mem_nil) (by decide) (by decide) g625 (by decide) (nI 1) (fun _ _ => trivial) (Or.inl ⟨3, dL_worthOf_12, by decide, _, dL_worthOf_13, rfl, dL_worthOf_14⟩) (Nat.le_of_ble_eq_true rfl) ⟨rfl, rfl⟩
set_option maxHeartbeats 1000000 in
theorem lk_coverOf {w u : PW} {p : Int32} {fs : List Value} (hw : w[7]? = some (.inr (3, fs))) {r : Int32} {fo : Nat → Int64} (ho : u[107]? = some (oc fo)) (hc : Ct mX3_coverOf [.ref 7, .int p] w (d1 (some (.int r)) u) nx) : Ct mL_coverOf [.ref 7, .int p, .ref 107] w (d1 (some (.int (nI 0))) (u.set 107 (oc (vp_updL fo 0 r.toInt64)))) nx := by
  refine ct_ofH 3 kL_coverOf.1 (by simp) rfl (Nat.le_of_ble_eq_true rfl) (fun v u h => ⟨_, h.1⟩) (fun _ _ h => h.elim) ?_
  show Ev _ _ _ 0 0 [(0, .ref 7), (1, .int p), (2, .ref 107)] [] _
  refine ev_aload_n 2 dL_coverOf_0 rfl rfl ?_
  refine ev_iconst (nI 0) dL_coverOf_1 rfl ?_
  refine ev_aload_n 0 dL_coverOf_2 rfl rfl ?_
  refine ev_iload_n 1 dL_coverOf_3 rfl rfl ?_
  refine ev_kV1 hc kX3_coverOf g1009 rfl hw rfl rfl dL_coverOf_4 ?_
  refine ev_i2l dL_coverOf_7 ?_
  refine ev_las dL_coverOf_8 ho rfl ?_
  refine ev_goto 15 dL_coverOf_9 (by decide) ?_
  refine ev_iconst (nI 0) dL_coverOf_15 rfl ?_
  exact ev_ireturn dL_coverOf_16 (Nat.le_of_ble_eq_true rfl) ⟨rfl, rfl⟩
set_option maxHeartbeats 1000000 in
theorem lx_coverOf_1 {w u : PW} {p : Int32} {fs : List Value} (hw : w[7]? = some (.inr (3, fs))) (hc : Ct mX3_coverOf [.ref 7, .int p] w (fun _ _ => False) (pX "java/lang/IndexOutOfBoundsException" u)) : Ct mL_coverOf [.ref 7, .int p, .ref 107] w (d1 (some (.int (nI 1))) (u)) nx := by
  refine ct_ofH 3 kL_coverOf.1 (by simp) rfl (Nat.le_of_ble_eq_true rfl) (fun v u h => ⟨_, h.1⟩) (fun _ _ h => h.elim) ?_
  show Ev _ _ _ 0 0 [(0, .ref 7), (1, .int p), (2, .ref 107)] [] _
  refine ev_aload_n 2 dL_coverOf_0 rfl rfl ?_
  refine ev_iconst (nI 0) dL_coverOf_1 rfl ?_
  refine ev_aload_n 0 dL_coverOf_2 rfl rfl ?_
  refine ev_iload_n 1 dL_coverOf_3 rfl rfl ?_
  refine ev_xV1 hc kX3_coverOf g1009 rfl hw rfl rfl dL_coverOf_4 ?_
  exact evx_catch [] (te9 (0, 9, 12, 13)) [] rfl (fun z hz => absurd hz List.not_mem_nil) (by decide) (by decide) g625 (by decide) (nI 1) (fun _ _ => trivial) (Or.inl ⟨3, dL_coverOf_12, by decide, _, dL_coverOf_13, rfl, dL_coverOf_14⟩) (Nat.le_of_ble_eq_true rfl) ⟨rfl, rfl⟩
set_option maxHeartbeats 1000000 in
theorem lk_roomOf {w u : PW} {p : Int32} {fs : List Value} (hw : w[7]? = some (.inr (3, fs))) {r : Int32} {fo : Nat → Int64} (ho : u[107]? = some (oc fo)) (hc : Ct mX3_roomOf [.ref 7, .int p] w (d1 (some (.int r)) u) nx) : Ct mL_roomOf [.ref 7, .int p, .ref 107] w (d1 (some (.int (nI 0))) (u.set 107 (oc (vp_updL fo 0 r.toInt64)))) nx := by
  refine ct_ofH 3 kL_roomOf.1 (by simp) rfl (Nat.le_of_ble_eq_true rfl) (fun v u h => ⟨_, h.1⟩) (fun _ _ h => h.elim) ?_
  show Ev _ _ _ 0 0 [(0, .ref 7), (1, .int p), (2, .ref 107)] [] _
  refine ev_aload_n 2 dL_roomOf_0 rfl rfl ?_
  refine ev_iconst (nI 0) dL_roomOf_1 rfl ?_
  refine ev_aload_n 0 dL_roomOf_2 rfl rfl ?_
  refine ev_iload_n 1 dL_roomOf_3 rfl rfl ?_
  refine ev_kV1 hc kX3_roomOf g1016 rfl hw rfl rfl dL_roomOf_4 ?_
  refine ev_i2l dL_roomOf_7 ?_
  refine ev_las dL_roomOf_8 ho rfl ?_
  refine ev_goto 15 dL_roomOf_9 (by decide) ?_
  refine ev_iconst (nI 0) dL_roomOf_15 rfl ?_
  exact ev_ireturn dL_roomOf_16 (Nat.le_of_ble_eq_true rfl) ⟨rfl, rfl⟩
set_option maxHeartbeats 1000000 in
theorem lx_roomOf_1 {w u : PW} {p : Int32} {fs : List Value} (hw : w[7]? = some (.inr (3, fs))) (hc : Ct mX3_roomOf [.ref 7, .int p] w (fun _ _ => False) (pX "java/lang/IndexOutOfBoundsException" u)) : Ct mL_roomOf [.ref 7, .int p, .ref 107] w (d1 (some (.int (nI 1))) (u)) nx := by
  refine ct_ofH 3 kL_roomOf.1 (by simp) rfl (Nat.le_of_ble_eq_true rfl) (fun v u h => ⟨_, h.1⟩) (fun _ _ h => h.elim) ?_
  show Ev _ _ _ 0 0 [(0, .ref 7), (1, .int p), (2, .ref 107)] [] _
  refine ev_aload_n 2 dL_roomOf_0 rfl rfl ?_
  refine ev_iconst (nI 0) dL_roomOf_1 rfl ?_
  refine ev_aload_n 0 dL_roomOf_2 rfl rfl ?_
  refine ev_iload_n 1 dL_roomOf_3 rfl rfl ?_
  refine ev_xV1 hc kX3_roomOf g1016 rfl hw rfl rfl dL_roomOf_4 ?_
  exact evx_catch [] (te9 (0, 9, 12, 13)) [] rfl (fun z hz => absurd hz List.not_mem_nil) (by decide) (by decide) g625 (by decide) (nI 1) (fun _ _ => trivial) (Or.inl ⟨3, dL_roomOf_12, by decide, _, dL_roomOf_13, rfl, dL_roomOf_14⟩) (Nat.le_of_ble_eq_true rfl) ⟨rfl, rfl⟩
set_option maxHeartbeats 1000000 in
theorem lk_isCalled_t {w u : PW} {p : Int32} {fs : List Value} (hw : w[7]? = some (.inr (3, fs))) {fo : Nat → Int64} (ho : u[107]? = some (oc fo)) (hc : Ct mX3_isCalled [.ref 7, .int p] w (d1 (some (.int (nI 1))) u) nx) : Ct mL_isCalled [.ref 7, .int p, .ref 107] w (d1 (some (.int (nI 0))) (u.set 107 (oc (vp_updL fo 0 (lN 1))))) nx := by
  refine ct_ofH 3 kL_isCalled.1 (by simp) rfl (Nat.le_of_ble_eq_true rfl) (fun v u h => ⟨_, h.1⟩) (fun _ _ h => h.elim) ?_
  show Ev _ _ _ 0 0 [(0, .ref 7), (1, .int p), (2, .ref 107)] [] _
  refine ev_aload_n 2 dL_isCalled_0 rfl rfl ?_
  refine ev_iconst (nI 0) dL_isCalled_1 rfl ?_
  refine ev_aload_n 0 dL_isCalled_2 rfl rfl ?_
  refine ev_iload_n 1 dL_isCalled_3 rfl rfl ?_
  refine ev_kV1 hc kX3_isCalled g1023 rfl hw rfl rfl dL_isCalled_4 ?_
  refine ev_if_eq 14 dL_isCalled_7 (by decide) (fun h7 => absurd h7 (by decide)) (fun h7 => ?_)
  refine ev_lconst (lN 1) dL_isCalled_10 rfl ?_
  refine ev_goto 15 dL_isCalled_11 (by decide) ?_
  refine ev_las dL_isCalled_15 ho rfl ?_
  refine ev_goto 22 dL_isCalled_16 (by decide) ?_
  refine ev_iconst (nI 0) dL_isCalled_22 rfl ?_
  exact ev_ireturn dL_isCalled_23 (Nat.le_of_ble_eq_true rfl) ⟨rfl, rfl⟩
set_option maxHeartbeats 1000000 in
theorem lk_isCalled_f {w u : PW} {p : Int32} {fs : List Value} (hw : w[7]? = some (.inr (3, fs))) {fo : Nat → Int64} (ho : u[107]? = some (oc fo)) (hc : Ct mX3_isCalled [.ref 7, .int p] w (d1 (some (.int (nI 0))) u) nx) : Ct mL_isCalled [.ref 7, .int p, .ref 107] w (d1 (some (.int (nI 0))) (u.set 107 (oc (vp_updL fo 0 (lN 0))))) nx := by
  refine ct_ofH 3 kL_isCalled.1 (by simp) rfl (Nat.le_of_ble_eq_true rfl) (fun v u h => ⟨_, h.1⟩) (fun _ _ h => h.elim) ?_
  show Ev _ _ _ 0 0 [(0, .ref 7), (1, .int p), (2, .ref 107)] [] _
  refine ev_aload_n 2 dL_isCalled_0 rfl rfl ?_
  refine ev_iconst (nI 0) dL_isCalled_1 rfl ?_
  refine ev_aload_n 0 dL_isCalled_2 rfl rfl ?_
  refine ev_iload_n 1 dL_isCalled_3 rfl rfl ?_
  refine ev_kV1 hc kX3_isCalled g1023 rfl hw rfl rfl dL_isCalled_4 ?_
  refine ev_if_eq 14 dL_isCalled_7 (by decide) (fun h7 => ?_) (fun h7 => absurd rfl h7)
  refine ev_lconst (lN 0) dL_isCalled_14 rfl ?_
  refine ev_las dL_isCalled_15 ho rfl ?_
  refine ev_goto 22 dL_isCalled_16 (by decide) ?_
  refine ev_iconst (nI 0) dL_isCalled_22 rfl ?_
  exact ev_ireturn dL_isCalled_23 (Nat.le_of_ble_eq_true rfl) ⟨rfl, rfl⟩
set_option maxHeartbeats 1000000 in
theorem lx_isCalled_1 {w u : PW} {p : Int32} {fs : List Value} (hw : w[7]? = some (.inr (3, fs))) (hc : Ct mX3_isCalled [.ref 7, .int p] w (fun _ _ => False) (pX "java/lang/IndexOutOfBoundsException" u)) : Ct mL_isCalled [.ref 7, .int p, .ref 107] w (d1 (some (.int (nI 1))) (u)) nx := by
  refine ct_ofH 3 kL_isCalled.1 (by simp) rfl (Nat.le_of_ble_eq_true rfl) (fun v u h => ⟨_, h.1⟩) (fun _ _ h => h.elim) ?_
  show Ev _ _ _ 0 0 [(0, .ref 7), (1, .int p), (2, .ref 107)] [] _
  refine ev_aload_n 2 dL_isCalled_0 rfl rfl ?_
  refine ev_iconst (nI 0) dL_isCalled_1 rfl ?_
  refine ev_aload_n 0 dL_isCalled_2 rfl rfl ?_
  refine ev_iload_n 1 dL_isCalled_3 rfl rfl ?_
  refine ev_xV1 hc kX3_isCalled g1023 rfl hw rfl rfl dL_isCalled_4 ?_
  exact evx_catch [] (te9 (0, 16, 19, 13)) [] rfl (fun z hz => absurd hz List.not_mem_nil) (by decide) (by decide) g625 (by decide) (nI 1) (fun _ _ => trivial) (Or.inl ⟨3, dL_isCalled_19, by decide, _, dL_isCalled_20, rfl, dL_isCalled_21⟩) (Nat.le_of_ble_eq_true rfl) ⟨rfl, rfl⟩
set_option maxHeartbeats 1000000 in
theorem lk_hoursLeft {w u : PW} {p : Int32} {fs : List Value} (hw : w[7]? = some (.inr (3, fs))) {r : Int32} {fo : Nat → Int64} (ho : u[107]? = some (oc fo)) (hc : Ct mX3_hoursLeft [.ref 7, .int p] w (d1 (some (.int r)) u) nx) : Ct mL_hoursLeft [.ref 7, .int p, .ref 107] w (d1 (some (.int (nI 0))) (u.set 107 (oc (vp_updL fo 0 r.toInt64)))) nx := by
  refine ct_ofH 3 kL_hoursLeft.1 (by simp) rfl (Nat.le_of_ble_eq_true rfl) (fun v u h => ⟨_, h.1⟩) (fun _ _ h => h.elim) ?_
  show Ev _ _ _ 0 0 [(0, .ref 7), (1, .int p), (2, .ref 107)] [] _
  refine ev_aload_n 2 dL_hoursLeft_0 rfl rfl ?_
  refine ev_iconst (nI 0) dL_hoursLeft_1 rfl ?_
  refine ev_aload_n 0 dL_hoursLeft_2 rfl rfl ?_
  refine ev_iload_n 1 dL_hoursLeft_3 rfl rfl ?_
  refine ev_kV1 hc kX3_hoursLeft g1030 rfl hw rfl rfl dL_hoursLeft_4 ?_
  refine ev_i2l dL_hoursLeft_7 ?_
  refine ev_las dL_hoursLeft_8 ho rfl ?_
  refine ev_goto 18 dL_hoursLeft_9 (by decide) ?_
  refine ev_iconst (nI 0) dL_hoursLeft_18 rfl ?_
  exact ev_ireturn dL_hoursLeft_19 (Nat.le_of_ble_eq_true rfl) ⟨rfl, rfl⟩
set_option maxHeartbeats 1000000 in
theorem lx_hoursLeft_1 {w u : PW} {p : Int32} {fs : List Value} (hw : w[7]? = some (.inr (3, fs))) (hc : Ct mX3_hoursLeft [.ref 7, .int p] w (fun _ _ => False) (pX "java/lang/IndexOutOfBoundsException" u)) : Ct mL_hoursLeft [.ref 7, .int p, .ref 107] w (d1 (some (.int (nI 1))) (u)) nx := by
  refine ct_ofH 3 kL_hoursLeft.1 (by simp) rfl (Nat.le_of_ble_eq_true rfl) (fun v u h => ⟨_, h.1⟩) (fun _ _ h => h.elim) ?_
  show Ev _ _ _ 0 0 [(0, .ref 7), (1, .int p), (2, .ref 107)] [] _
  refine ev_aload_n 2 dL_hoursLeft_0 rfl rfl ?_
  refine ev_iconst (nI 0) dL_hoursLeft_1 rfl ?_
  refine ev_aload_n 0 dL_hoursLeft_2 rfl rfl ?_
  refine ev_iload_n 1 dL_hoursLeft_3 rfl rfl ?_
  refine ev_xV1 hc kX3_hoursLeft g1030 rfl hw rfl rfl dL_hoursLeft_4 ?_
  exact evx_catch [] (te9 (0, 9, 12, 13)) [te9 (0, 9, 15, 28)] rfl (fun z hz => absurd hz List.not_mem_nil) (by decide) (by decide) g625 (by decide) (nI 1) (fun _ _ => trivial) (Or.inl ⟨3, dL_hoursLeft_12, by decide, _, dL_hoursLeft_13, rfl, dL_hoursLeft_14⟩) (Nat.le_of_ble_eq_true rfl) ⟨rfl, rfl⟩
set_option maxHeartbeats 1000000 in
theorem lx_hoursLeft_2 {w u : PW} {p : Int32} {fs : List Value} (hw : w[7]? = some (.inr (3, fs))) (hc : Ct mX3_hoursLeft [.ref 7, .int p] w (fun _ _ => False) (pX "java/lang/IllegalStateException" u)) : Ct mL_hoursLeft [.ref 7, .int p, .ref 107] w (d1 (some (.int (nI 2))) (u)) nx := by
  refine ct_ofH 3 kL_hoursLeft.1 (by simp) rfl (Nat.le_of_ble_eq_true rfl) (fun v u h => ⟨_, h.1⟩) (fun _ _ h => h.elim) ?_
  show Ev _ _ _ 0 0 [(0, .ref 7), (1, .int p), (2, .ref 107)] [] _
  refine ev_aload_n 2 dL_hoursLeft_0 rfl rfl ?_
  refine ev_iconst (nI 0) dL_hoursLeft_1 rfl ?_
  refine ev_aload_n 0 dL_hoursLeft_2 rfl rfl ?_
  refine ev_iload_n 1 dL_hoursLeft_3 rfl rfl ?_
  refine ev_xV1 hc kX3_hoursLeft g1030 rfl hw rfl rfl dL_hoursLeft_4 ?_
  exact evx_catch [te9 (0, 9, 12, 13)] (te9 (0, 9, 15, 28)) [] rfl (fun z hz => by
    simp only [List.mem_cons, List.not_mem_nil, or_false] at hz
    subst hz
    exact ⟨by decide, _, g625, fun _ _ _ _ h => h.2.2.1.2.1⟩) (by decide) (by decide) g748 (by decide) (nI 2) (fun _ _ => trivial) (Or.inl ⟨3, dL_hoursLeft_15, by decide, _, dL_hoursLeft_16, rfl, dL_hoursLeft_17⟩) (Nat.le_of_ble_eq_true rfl) ⟨rfl, rfl⟩
set_option maxHeartbeats 1000000 in
theorem lk_isBarred_t {w u : PW} {p : Int32} {fs : List Value} (hw : w[7]? = some (.inr (3, fs))) {fo : Nat → Int64} (ho : u[107]? = some (oc fo)) (hc : Ct mX3_isBarred [.ref 7, .int p] w (d1 (some (.int (nI 1))) u) nx) : Ct mL_isBarred [.ref 7, .int p, .ref 107] w (d1 (some (.int (nI 0))) (u.set 107 (oc (vp_updL fo 0 (lN 1))))) nx := by
  refine ct_ofH 3 kL_isBarred.1 (by simp) rfl (Nat.le_of_ble_eq_true rfl) (fun v u h => ⟨_, h.1⟩) (fun _ _ h => h.elim) ?_
  show Ev _ _ _ 0 0 [(0, .ref 7), (1, .int p), (2, .ref 107)] [] _
  refine ev_aload_n 2 dL_isBarred_0 rfl rfl ?_
  refine ev_iconst (nI 0) dL_isBarred_1 rfl ?_
  refine ev_aload_n 0 dL_isBarred_2 rfl rfl ?_
  refine ev_iload_n 1 dL_isBarred_3 rfl rfl ?_
  refine ev_kV1 hc kX3_isBarred g1037 rfl hw rfl rfl dL_isBarred_4 ?_
  refine ev_if_eq 14 dL_isBarred_7 (by decide) (fun h7 => absurd h7 (by decide)) (fun h7 => ?_)
  refine ev_lconst (lN 1) dL_isBarred_10 rfl ?_
  refine ev_goto 15 dL_isBarred_11 (by decide) ?_
  refine ev_las dL_isBarred_15 ho rfl ?_
  refine ev_goto 22 dL_isBarred_16 (by decide) ?_
  refine ev_iconst (nI 0) dL_isBarred_22 rfl ?_
  exact ev_ireturn dL_isBarred_23 (Nat.le_of_ble_eq_true rfl) ⟨rfl, rfl⟩
set_option maxHeartbeats 1000000 in
theorem lk_isBarred_f {w u : PW} {p : Int32} {fs : List Value} (hw : w[7]? = some (.inr (3, fs))) {fo : Nat → Int64} (ho : u[107]? = some (oc fo)) (hc : Ct mX3_isBarred [.ref 7, .int p] w (d1 (some (.int (nI 0))) u) nx) : Ct mL_isBarred [.ref 7, .int p, .ref 107] w (d1 (some (.int (nI 0))) (u.set 107 (oc (vp_updL fo 0 (lN 0))))) nx := by
  refine ct_ofH 3 kL_isBarred.1 (by simp) rfl (Nat.le_of_ble_eq_true rfl) (fun v u h => ⟨_, h.1⟩) (fun _ _ h => h.elim) ?_
  show Ev _ _ _ 0 0 [(0, .ref 7), (1, .int p), (2, .ref 107)] [] _
  refine ev_aload_n 2 dL_isBarred_0 rfl rfl ?_
  refine ev_iconst (nI 0) dL_isBarred_1 rfl ?_
  refine ev_aload_n 0 dL_isBarred_2 rfl rfl ?_
  refine ev_iload_n 1 dL_isBarred_3 rfl rfl ?_
  refine ev_kV1 hc kX3_isBarred g1037 rfl hw rfl rfl dL_isBarred_4 ?_
  refine ev_if_eq 14 dL_isBarred_7 (by decide) (fun h7 => ?_) (fun h7 => absurd rfl h7)
  refine ev_lconst (lN 0) dL_isBarred_14 rfl ?_
  refine ev_las dL_isBarred_15 ho rfl ?_
  refine ev_goto 22 dL_isBarred_16 (by decide) ?_
  refine ev_iconst (nI 0) dL_isBarred_22 rfl ?_
  exact ev_ireturn dL_isBarred_23 (Nat.le_of_ble_eq_true rfl) ⟨rfl, rfl⟩
set_option maxHeartbeats 1000000 in
theorem lx_isBarred_1 {w u : PW} {p : Int32} {fs : List Value} (hw : w[7]? = some (.inr (3, fs))) (hc : Ct mX3_isBarred [.ref 7, .int p] w (fun _ _ => False) (pX "java/lang/IndexOutOfBoundsException" u)) : Ct mL_isBarred [.ref 7, .int p, .ref 107] w (d1 (some (.int (nI 1))) (u)) nx := by
  refine ct_ofH 3 kL_isBarred.1 (by simp) rfl (Nat.le_of_ble_eq_true rfl) (fun v u h => ⟨_, h.1⟩) (fun _ _ h => h.elim) ?_
  show Ev _ _ _ 0 0 [(0, .ref 7), (1, .int p), (2, .ref 107)] [] _
  refine ev_aload_n 2 dL_isBarred_0 rfl rfl ?_
  refine ev_iconst (nI 0) dL_isBarred_1 rfl ?_
  refine ev_aload_n 0 dL_isBarred_2 rfl rfl ?_
  refine ev_iload_n 1 dL_isBarred_3 rfl rfl ?_
  refine ev_xV1 hc kX3_isBarred g1037 rfl hw rfl rfl dL_isBarred_4 ?_
  exact evx_catch [] (te9 (0, 16, 19, 13)) [] rfl (fun z hz => absurd hz List.not_mem_nil) (by decide) (by decide) g625 (by decide) (nI 1) (fun _ _ => trivial) (Or.inl ⟨3, dL_isBarred_19, by decide, _, dL_isBarred_20, rfl, dL_isBarred_21⟩) (Nat.le_of_ble_eq_true rfl) ⟨rfl, rfl⟩
set_option maxHeartbeats 1000000 in
theorem lk_rankOf {w u : PW} {p : Int32} {fs : List Value} (hw : w[7]? = some (.inr (3, fs))) {r : Int32} {fo : Nat → Int64} (ho : u[107]? = some (oc fo)) (hc : Ct mX3_rankOf [.ref 7, .int p] w (d1 (some (.int r)) u) nx) : Ct mL_rankOf [.ref 7, .int p, .ref 107] w (d1 (some (.int (nI 0))) (u.set 107 (oc (vp_updL fo 0 r.toInt64)))) nx := by
  refine ct_ofH 3 kL_rankOf.1 (by simp) rfl (Nat.le_of_ble_eq_true rfl) (fun v u h => ⟨_, h.1⟩) (fun _ _ h => h.elim) ?_
  show Ev _ _ _ 0 0 [(0, .ref 7), (1, .int p), (2, .ref 107)] [] _
  refine ev_aload_n 2 dL_rankOf_0 rfl rfl ?_
  refine ev_iconst (nI 0) dL_rankOf_1 rfl ?_
  refine ev_aload_n 0 dL_rankOf_2 rfl rfl ?_
  refine ev_iload_n 1 dL_rankOf_3 rfl rfl ?_
  refine ev_kV1 hc kX3_rankOf g1044 rfl hw rfl rfl dL_rankOf_4 ?_
  refine ev_i2l dL_rankOf_7 ?_
  refine ev_las dL_rankOf_8 ho rfl ?_
  refine ev_goto 15 dL_rankOf_9 (by decide) ?_
  refine ev_iconst (nI 0) dL_rankOf_15 rfl ?_
  exact ev_ireturn dL_rankOf_16 (Nat.le_of_ble_eq_true rfl) ⟨rfl, rfl⟩
set_option maxHeartbeats 1000000 in
theorem lx_rankOf_1 {w u : PW} {p : Int32} {fs : List Value} (hw : w[7]? = some (.inr (3, fs))) (hc : Ct mX3_rankOf [.ref 7, .int p] w (fun _ _ => False) (pX "java/lang/IndexOutOfBoundsException" u)) : Ct mL_rankOf [.ref 7, .int p, .ref 107] w (d1 (some (.int (nI 1))) (u)) nx := by
  refine ct_ofH 3 kL_rankOf.1 (by simp) rfl (Nat.le_of_ble_eq_true rfl) (fun v u h => ⟨_, h.1⟩) (fun _ _ h => h.elim) ?_
  show Ev _ _ _ 0 0 [(0, .ref 7), (1, .int p), (2, .ref 107)] [] _
  refine ev_aload_n 2 dL_rankOf_0 rfl rfl ?_
  refine ev_iconst (nI 0) dL_rankOf_1 rfl ?_
  refine ev_aload_n 0 dL_rankOf_2 rfl rfl ?_
  refine ev_iload_n 1 dL_rankOf_3 rfl rfl ?_
  refine ev_xV1 hc kX3_rankOf g1044 rfl hw rfl rfl dL_rankOf_4 ?_
  exact evx_catch [] (te9 (0, 9, 12, 13)) [] rfl (fun z hz => absurd hz List.not_mem_nil) (by decide) (by decide) g625 (by decide) (nI 1) (fun _ _ => trivial) (Or.inl ⟨3, dL_rankOf_12, by decide, _, dL_rankOf_13, rfl, dL_rankOf_14⟩) (Nat.le_of_ble_eq_true rfl) ⟨rfl, rfl⟩
set_option maxHeartbeats 1000000 in
theorem lk_riskyBySorting {w u : PW} {p : Int32} {fs : List Value} (hw : w[7]? = some (.inr (3, fs))) {r : Int32} {fo : Nat → Int64} (ho : u[107]? = some (oc fo)) (hc : Ct mX3_riskyBySorting [.ref 7, .int p] w (d1 (some (.int r)) u) nx) : Ct mL_riskyBySorting [.ref 7, .int p, .ref 107] w (d1 (some (.int (nI 0))) (u.set 107 (oc (vp_updL fo 0 r.toInt64)))) nx := by
  refine ct_ofH 3 kL_riskyBySorting.1 (by simp) rfl (Nat.le_of_ble_eq_true rfl) (fun v u h => ⟨_, h.1⟩) (fun _ _ h => h.elim) ?_
  show Ev _ _ _ 0 0 [(0, .ref 7), (1, .int p), (2, .ref 107)] [] _
  refine ev_aload_n 2 dL_riskyBySorting_0 rfl rfl ?_
  refine ev_iconst (nI 0) dL_riskyBySorting_1 rfl ?_
  refine ev_aload_n 0 dL_riskyBySorting_2 rfl rfl ?_
  refine ev_iload_n 1 dL_riskyBySorting_3 rfl rfl ?_
  refine ev_kV1 hc kX3_riskyBySorting g1051 rfl hw rfl rfl dL_riskyBySorting_4 ?_
  refine ev_i2l dL_riskyBySorting_7 ?_
  refine ev_las dL_riskyBySorting_8 ho rfl ?_
  refine ev_goto 15 dL_riskyBySorting_9 (by decide) ?_
  refine ev_iconst (nI 0) dL_riskyBySorting_15 rfl ?_
  exact ev_ireturn dL_riskyBySorting_16 (Nat.le_of_ble_eq_true rfl) ⟨rfl, rfl⟩
set_option maxHeartbeats 1000000 in
theorem lx_riskyBySorting_1 {w u : PW} {p : Int32} {fs : List Value} (hw : w[7]? = some (.inr (3, fs))) (hc : Ct mX3_riskyBySorting [.ref 7, .int p] w (fun _ _ => False) (pX "java/lang/IndexOutOfBoundsException" u)) : Ct mL_riskyBySorting [.ref 7, .int p, .ref 107] w (d1 (some (.int (nI 1))) (u)) nx := by
  refine ct_ofH 3 kL_riskyBySorting.1 (by simp) rfl (Nat.le_of_ble_eq_true rfl) (fun v u h => ⟨_, h.1⟩) (fun _ _ h => h.elim) ?_
  show Ev _ _ _ 0 0 [(0, .ref 7), (1, .int p), (2, .ref 107)] [] _
  refine ev_aload_n 2 dL_riskyBySorting_0 rfl rfl ?_
  refine ev_iconst (nI 0) dL_riskyBySorting_1 rfl ?_
  refine ev_aload_n 0 dL_riskyBySorting_2 rfl rfl ?_
  refine ev_iload_n 1 dL_riskyBySorting_3 rfl rfl ?_
  refine ev_xV1 hc kX3_riskyBySorting g1051 rfl hw rfl rfl dL_riskyBySorting_4 ?_
  exact evx_catch [] (te9 (0, 9, 12, 13)) [] rfl (fun z hz => absurd hz List.not_mem_nil) (by decide) (by decide) g625 (by decide) (nI 1) (fun _ _ => trivial) (Or.inl ⟨3, dL_riskyBySorting_12, by decide, _, dL_riskyBySorting_13, rfl, dL_riskyBySorting_14⟩) (Nat.le_of_ble_eq_true rfl) ⟨rfl, rfl⟩
set_option maxHeartbeats 1000000 in
theorem lk_riskyByTaking {w u : PW} {p : Int32} {fs : List Value} (hw : w[7]? = some (.inr (3, fs))) {r : Int32} {fo : Nat → Int64} (ho : u[107]? = some (oc fo)) (hc : Ct mX3_riskyByTaking [.ref 7, .int p] w (d1 (some (.int r)) u) nx) : Ct mL_riskyByTaking [.ref 7, .int p, .ref 107] w (d1 (some (.int (nI 0))) (u.set 107 (oc (vp_updL fo 0 r.toInt64)))) nx := by
  refine ct_ofH 3 kL_riskyByTaking.1 (by simp) rfl (Nat.le_of_ble_eq_true rfl) (fun v u h => ⟨_, h.1⟩) (fun _ _ h => h.elim) ?_
  show Ev _ _ _ 0 0 [(0, .ref 7), (1, .int p), (2, .ref 107)] [] _
  refine ev_aload_n 2 dL_riskyByTaking_0 rfl rfl ?_
  refine ev_iconst (nI 0) dL_riskyByTaking_1 rfl ?_
  refine ev_aload_n 0 dL_riskyByTaking_2 rfl rfl ?_
  refine ev_iload_n 1 dL_riskyByTaking_3 rfl rfl ?_
  refine ev_kV1 hc kX3_riskyByTaking g1061 rfl hw rfl rfl dL_riskyByTaking_4 ?_
  refine ev_i2l dL_riskyByTaking_7 ?_
  refine ev_las dL_riskyByTaking_8 ho rfl ?_
  refine ev_goto 15 dL_riskyByTaking_9 (by decide) ?_
  refine ev_iconst (nI 0) dL_riskyByTaking_15 rfl ?_
  exact ev_ireturn dL_riskyByTaking_16 (Nat.le_of_ble_eq_true rfl) ⟨rfl, rfl⟩
set_option maxHeartbeats 1000000 in
theorem lx_riskyByTaking_1 {w u : PW} {p : Int32} {fs : List Value} (hw : w[7]? = some (.inr (3, fs))) (hc : Ct mX3_riskyByTaking [.ref 7, .int p] w (fun _ _ => False) (pX "java/lang/IndexOutOfBoundsException" u)) : Ct mL_riskyByTaking [.ref 7, .int p, .ref 107] w (d1 (some (.int (nI 1))) (u)) nx := by
  refine ct_ofH 3 kL_riskyByTaking.1 (by simp) rfl (Nat.le_of_ble_eq_true rfl) (fun v u h => ⟨_, h.1⟩) (fun _ _ h => h.elim) ?_
  show Ev _ _ _ 0 0 [(0, .ref 7), (1, .int p), (2, .ref 107)] [] _
  refine ev_aload_n 2 dL_riskyByTaking_0 rfl rfl ?_
  refine ev_iconst (nI 0) dL_riskyByTaking_1 rfl ?_
  refine ev_aload_n 0 dL_riskyByTaking_2 rfl rfl ?_
  refine ev_iload_n 1 dL_riskyByTaking_3 rfl rfl ?_
  refine ev_xV1 hc kX3_riskyByTaking g1061 rfl hw rfl rfl dL_riskyByTaking_4 ?_
  exact evx_catch [] (te9 (0, 9, 12, 13)) [] rfl (fun z hz => absurd hz List.not_mem_nil) (by decide) (by decide) g625 (by decide) (nI 1) (fun _ _ => trivial) (Or.inl ⟨3, dL_riskyByTaking_12, by decide, _, dL_riskyByTaking_13, rfl, dL_riskyByTaking_14⟩) (Nat.le_of_ble_eq_true rfl) ⟨rfl, rfl⟩
set_option maxHeartbeats 1000000 in
theorem lk_fallToCallByTrying {w u : PW} {p : Int32} {fs : List Value} (hw : w[7]? = some (.inr (3, fs))) {r : Int32} {fo : Nat → Int64} (ho : u[107]? = some (oc fo)) (hc : Ct mX3_fallToCallByTrying [.ref 7, .int p] w (d1 (some (.int r)) u) nx) : Ct mL_fallToCallByTrying [.ref 7, .int p, .ref 107] w (d1 (some (.int (nI 0))) (u.set 107 (oc (vp_updL fo 0 r.toInt64)))) nx := by
  refine ct_ofH 3 kL_fallToCallByTrying.1 (by simp) rfl (Nat.le_of_ble_eq_true rfl) (fun v u h => ⟨_, h.1⟩) (fun _ _ h => h.elim) ?_
  show Ev _ _ _ 0 0 [(0, .ref 7), (1, .int p), (2, .ref 107)] [] _
  refine ev_aload_n 2 dL_fallToCallByTrying_0 rfl rfl ?_
  refine ev_iconst (nI 0) dL_fallToCallByTrying_1 rfl ?_
  refine ev_aload_n 0 dL_fallToCallByTrying_2 rfl rfl ?_
  refine ev_iload_n 1 dL_fallToCallByTrying_3 rfl rfl ?_
  refine ev_kV1 hc kX3_fallToCallByTrying g1068 rfl hw rfl rfl dL_fallToCallByTrying_4 ?_
  refine ev_i2l dL_fallToCallByTrying_7 ?_
  refine ev_las dL_fallToCallByTrying_8 ho rfl ?_
  refine ev_goto 18 dL_fallToCallByTrying_9 (by decide) ?_
  refine ev_iconst (nI 0) dL_fallToCallByTrying_18 rfl ?_
  exact ev_ireturn dL_fallToCallByTrying_19 (Nat.le_of_ble_eq_true rfl) ⟨rfl, rfl⟩
set_option maxHeartbeats 1000000 in
theorem lx_fallToCallByTrying_1 {w u : PW} {p : Int32} {fs : List Value} (hw : w[7]? = some (.inr (3, fs))) (hc : Ct mX3_fallToCallByTrying [.ref 7, .int p] w (fun _ _ => False) (pX "java/lang/IndexOutOfBoundsException" u)) : Ct mL_fallToCallByTrying [.ref 7, .int p, .ref 107] w (d1 (some (.int (nI 1))) (u)) nx := by
  refine ct_ofH 3 kL_fallToCallByTrying.1 (by simp) rfl (Nat.le_of_ble_eq_true rfl) (fun v u h => ⟨_, h.1⟩) (fun _ _ h => h.elim) ?_
  show Ev _ _ _ 0 0 [(0, .ref 7), (1, .int p), (2, .ref 107)] [] _
  refine ev_aload_n 2 dL_fallToCallByTrying_0 rfl rfl ?_
  refine ev_iconst (nI 0) dL_fallToCallByTrying_1 rfl ?_
  refine ev_aload_n 0 dL_fallToCallByTrying_2 rfl rfl ?_
  refine ev_iload_n 1 dL_fallToCallByTrying_3 rfl rfl ?_
  refine ev_xV1 hc kX3_fallToCallByTrying g1068 rfl hw rfl rfl dL_fallToCallByTrying_4 ?_
  exact evx_catch [] (te9 (0, 9, 12, 13)) [te9 (0, 9, 15, 28)] rfl (fun z hz => absurd hz List.not_mem_nil) (by decide) (by decide) g625 (by decide) (nI 1) (fun _ _ => trivial) (Or.inl ⟨3, dL_fallToCallByTrying_12, by decide, _, dL_fallToCallByTrying_13, rfl, dL_fallToCallByTrying_14⟩) (Nat.le_of_ble_eq_true rfl) ⟨rfl, rfl⟩
set_option maxHeartbeats 1000000 in
theorem lx_fallToCallByTrying_2 {w u : PW} {p : Int32} {fs : List Value} (hw : w[7]? = some (.inr (3, fs))) (hc : Ct mX3_fallToCallByTrying [.ref 7, .int p] w (fun _ _ => False) (pX "java/lang/IllegalStateException" u)) : Ct mL_fallToCallByTrying [.ref 7, .int p, .ref 107] w (d1 (some (.int (nI 2))) (u)) nx := by
  refine ct_ofH 3 kL_fallToCallByTrying.1 (by simp) rfl (Nat.le_of_ble_eq_true rfl) (fun v u h => ⟨_, h.1⟩) (fun _ _ h => h.elim) ?_
  show Ev _ _ _ 0 0 [(0, .ref 7), (1, .int p), (2, .ref 107)] [] _
  refine ev_aload_n 2 dL_fallToCallByTrying_0 rfl rfl ?_
  refine ev_iconst (nI 0) dL_fallToCallByTrying_1 rfl ?_
  refine ev_aload_n 0 dL_fallToCallByTrying_2 rfl rfl ?_
  refine ev_iload_n 1 dL_fallToCallByTrying_3 rfl rfl ?_
  refine ev_xV1 hc kX3_fallToCallByTrying g1068 rfl hw rfl rfl dL_fallToCallByTrying_4 ?_
  exact evx_catch [te9 (0, 9, 12, 13)] (te9 (0, 9, 15, 28)) [] rfl (fun z hz => by
    simp only [List.mem_cons, List.not_mem_nil, or_false] at hz
    subst hz
    exact ⟨by decide, _, g625, fun _ _ _ _ h => h.2.2.1.2.1⟩) (by decide) (by decide) g748 (by decide) (nI 2) (fun _ _ => trivial) (Or.inl ⟨3, dL_fallToCallByTrying_15, by decide, _, dL_fallToCallByTrying_16, rfl, dL_fallToCallByTrying_17⟩) (Nat.le_of_ble_eq_true rfl) ⟨rfl, rfl⟩
set_option maxHeartbeats 1000000 in
theorem lk_fallToCallByHalving {w u : PW} {p : Int32} {fs : List Value} (hw : w[7]? = some (.inr (3, fs))) {r : Int32} {fo : Nat → Int64} (ho : u[107]? = some (oc fo)) (hc : Ct mX3_fallToCallByHalving [.ref 7, .int p] w (d1 (some (.int r)) u) nx) : Ct mL_fallToCallByHalving [.ref 7, .int p, .ref 107] w (d1 (some (.int (nI 0))) (u.set 107 (oc (vp_updL fo 0 r.toInt64)))) nx := by
  refine ct_ofH 3 kL_fallToCallByHalving.1 (by simp) rfl (Nat.le_of_ble_eq_true rfl) (fun v u h => ⟨_, h.1⟩) (fun _ _ h => h.elim) ?_
  show Ev _ _ _ 0 0 [(0, .ref 7), (1, .int p), (2, .ref 107)] [] _
  refine ev_aload_n 2 dL_fallToCallByHalving_0 rfl rfl ?_
  refine ev_iconst (nI 0) dL_fallToCallByHalving_1 rfl ?_
  refine ev_aload_n 0 dL_fallToCallByHalving_2 rfl rfl ?_
  refine ev_iload_n 1 dL_fallToCallByHalving_3 rfl rfl ?_
  refine ev_kV1 hc kX3_fallToCallByHalving g1075 rfl hw rfl rfl dL_fallToCallByHalving_4 ?_
  refine ev_i2l dL_fallToCallByHalving_7 ?_
  refine ev_las dL_fallToCallByHalving_8 ho rfl ?_
  refine ev_goto 18 dL_fallToCallByHalving_9 (by decide) ?_
  refine ev_iconst (nI 0) dL_fallToCallByHalving_18 rfl ?_
  exact ev_ireturn dL_fallToCallByHalving_19 (Nat.le_of_ble_eq_true rfl) ⟨rfl, rfl⟩
set_option maxHeartbeats 1000000 in
theorem lx_fallToCallByHalving_1 {w u : PW} {p : Int32} {fs : List Value} (hw : w[7]? = some (.inr (3, fs))) (hc : Ct mX3_fallToCallByHalving [.ref 7, .int p] w (fun _ _ => False) (pX "java/lang/IndexOutOfBoundsException" u)) : Ct mL_fallToCallByHalving [.ref 7, .int p, .ref 107] w (d1 (some (.int (nI 1))) (u)) nx := by
  refine ct_ofH 3 kL_fallToCallByHalving.1 (by simp) rfl (Nat.le_of_ble_eq_true rfl) (fun v u h => ⟨_, h.1⟩) (fun _ _ h => h.elim) ?_
  show Ev _ _ _ 0 0 [(0, .ref 7), (1, .int p), (2, .ref 107)] [] _
  refine ev_aload_n 2 dL_fallToCallByHalving_0 rfl rfl ?_
  refine ev_iconst (nI 0) dL_fallToCallByHalving_1 rfl ?_
  refine ev_aload_n 0 dL_fallToCallByHalving_2 rfl rfl ?_
  refine ev_iload_n 1 dL_fallToCallByHalving_3 rfl rfl ?_
  refine ev_xV1 hc kX3_fallToCallByHalving g1075 rfl hw rfl rfl dL_fallToCallByHalving_4 ?_
  exact evx_catch [] (te9 (0, 9, 12, 13)) [te9 (0, 9, 15, 28)] rfl (fun z hz => absurd hz List.not_mem_nil) (by decide) (by decide) g625 (by decide) (nI 1) (fun _ _ => trivial) (Or.inl ⟨3, dL_fallToCallByHalving_12, by decide, _, dL_fallToCallByHalving_13, rfl, dL_fallToCallByHalving_14⟩) (Nat.le_of_ble_eq_true rfl) ⟨rfl, rfl⟩
set_option maxHeartbeats 1000000 in
theorem lx_fallToCallByHalving_2 {w u : PW} {p : Int32} {fs : List Value} (hw : w[7]? = some (.inr (3, fs))) (hc : Ct mX3_fallToCallByHalving [.ref 7, .int p] w (fun _ _ => False) (pX "java/lang/IllegalStateException" u)) : Ct mL_fallToCallByHalving [.ref 7, .int p, .ref 107] w (d1 (some (.int (nI 2))) (u)) nx := by
  refine ct_ofH 3 kL_fallToCallByHalving.1 (by simp) rfl (Nat.le_of_ble_eq_true rfl) (fun v u h => ⟨_, h.1⟩) (fun _ _ h => h.elim) ?_
  show Ev _ _ _ 0 0 [(0, .ref 7), (1, .int p), (2, .ref 107)] [] _
  refine ev_aload_n 2 dL_fallToCallByHalving_0 rfl rfl ?_
  refine ev_iconst (nI 0) dL_fallToCallByHalving_1 rfl ?_
  refine ev_aload_n 0 dL_fallToCallByHalving_2 rfl rfl ?_
  refine ev_iload_n 1 dL_fallToCallByHalving_3 rfl rfl ?_
  refine ev_xV1 hc kX3_fallToCallByHalving g1075 rfl hw rfl rfl dL_fallToCallByHalving_4 ?_
  exact evx_catch [te9 (0, 9, 12, 13)] (te9 (0, 9, 15, 28)) [] rfl (fun z hz => by
    simp only [List.mem_cons, List.not_mem_nil, or_false] at hz
    subst hz
    exact ⟨by decide, _, g625, fun _ _ _ _ h => h.2.2.1.2.1⟩) (by decide) (by decide) g748 (by decide) (nI 2) (fun _ _ => trivial) (Or.inl ⟨3, dL_fallToCallByHalving_15, by decide, _, dL_fallToCallByHalving_16, rfl, dL_fallToCallByHalving_17⟩) (Nat.le_of_ble_eq_true rfl) ⟨rfl, rfl⟩
set_option maxHeartbeats 1000000 in
theorem lk_hoursToCall {w u : PW} {p : Int32} {fs : List Value} (hw : w[7]? = some (.inr (3, fs))) {r : Int32} {fo : Nat → Int64} (ho : u[107]? = some (oc fo)) (hc : Ct mX3_hoursToCall [.ref 7, .int p] w (d1 (some (.int r)) u) nx) : Ct mL_hoursToCall [.ref 7, .int p, .ref 107] w (d1 (some (.int (nI 0))) (u.set 107 (oc (vp_updL fo 0 r.toInt64)))) nx := by
  refine ct_ofH 3 kL_hoursToCall.1 (by simp) rfl (Nat.le_of_ble_eq_true rfl) (fun v u h => ⟨_, h.1⟩) (fun _ _ h => h.elim) ?_
  show Ev _ _ _ 0 0 [(0, .ref 7), (1, .int p), (2, .ref 107)] [] _
  refine ev_aload_n 2 dL_hoursToCall_0 rfl rfl ?_
  refine ev_iconst (nI 0) dL_hoursToCall_1 rfl ?_
  refine ev_aload_n 0 dL_hoursToCall_2 rfl rfl ?_
  refine ev_iload_n 1 dL_hoursToCall_3 rfl rfl ?_
  refine ev_kV1 hc kX3_hoursToCall g1082 rfl hw rfl rfl dL_hoursToCall_4 ?_
  refine ev_i2l dL_hoursToCall_7 ?_
  refine ev_las dL_hoursToCall_8 ho rfl ?_
  refine ev_goto 18 dL_hoursToCall_9 (by decide) ?_
  refine ev_iconst (nI 0) dL_hoursToCall_18 rfl ?_
  exact ev_ireturn dL_hoursToCall_19 (Nat.le_of_ble_eq_true rfl) ⟨rfl, rfl⟩
set_option maxHeartbeats 1000000 in
theorem lx_hoursToCall_1 {w u : PW} {p : Int32} {fs : List Value} (hw : w[7]? = some (.inr (3, fs))) (hc : Ct mX3_hoursToCall [.ref 7, .int p] w (fun _ _ => False) (pX "java/lang/IndexOutOfBoundsException" u)) : Ct mL_hoursToCall [.ref 7, .int p, .ref 107] w (d1 (some (.int (nI 1))) (u)) nx := by
  refine ct_ofH 3 kL_hoursToCall.1 (by simp) rfl (Nat.le_of_ble_eq_true rfl) (fun v u h => ⟨_, h.1⟩) (fun _ _ h => h.elim) ?_
  show Ev _ _ _ 0 0 [(0, .ref 7), (1, .int p), (2, .ref 107)] [] _
  refine ev_aload_n 2 dL_hoursToCall_0 rfl rfl ?_
  refine ev_iconst (nI 0) dL_hoursToCall_1 rfl ?_
  refine ev_aload_n 0 dL_hoursToCall_2 rfl rfl ?_
  refine ev_iload_n 1 dL_hoursToCall_3 rfl rfl ?_
  refine ev_xV1 hc kX3_hoursToCall g1082 rfl hw rfl rfl dL_hoursToCall_4 ?_
  exact evx_catch [] (te9 (0, 9, 12, 13)) [te9 (0, 9, 15, 28)] rfl (fun z hz => absurd hz List.not_mem_nil) (by decide) (by decide) g625 (by decide) (nI 1) (fun _ _ => trivial) (Or.inl ⟨3, dL_hoursToCall_12, by decide, _, dL_hoursToCall_13, rfl, dL_hoursToCall_14⟩) (Nat.le_of_ble_eq_true rfl) ⟨rfl, rfl⟩
set_option maxHeartbeats 1000000 in
theorem lx_hoursToCall_2 {w u : PW} {p : Int32} {fs : List Value} (hw : w[7]? = some (.inr (3, fs))) (hc : Ct mX3_hoursToCall [.ref 7, .int p] w (fun _ _ => False) (pX "java/lang/IllegalStateException" u)) : Ct mL_hoursToCall [.ref 7, .int p, .ref 107] w (d1 (some (.int (nI 2))) (u)) nx := by
  refine ct_ofH 3 kL_hoursToCall.1 (by simp) rfl (Nat.le_of_ble_eq_true rfl) (fun v u h => ⟨_, h.1⟩) (fun _ _ h => h.elim) ?_
  show Ev _ _ _ 0 0 [(0, .ref 7), (1, .int p), (2, .ref 107)] [] _
  refine ev_aload_n 2 dL_hoursToCall_0 rfl rfl ?_
  refine ev_iconst (nI 0) dL_hoursToCall_1 rfl ?_
  refine ev_aload_n 0 dL_hoursToCall_2 rfl rfl ?_
  refine ev_iload_n 1 dL_hoursToCall_3 rfl rfl ?_
  refine ev_xV1 hc kX3_hoursToCall g1082 rfl hw rfl rfl dL_hoursToCall_4 ?_
  exact evx_catch [te9 (0, 9, 12, 13)] (te9 (0, 9, 15, 28)) [] rfl (fun z hz => by
    simp only [List.mem_cons, List.not_mem_nil, or_false] at hz
    subst hz
    exact ⟨by decide, _, g625, fun _ _ _ _ h => h.2.2.1.2.1⟩) (by decide) (by decide) g748 (by decide) (nI 2) (fun _ _ => trivial) (Or.inl ⟨3, dL_hoursToCall_15, by decide, _, dL_hoursToCall_16, rfl, dL_hoursToCall_17⟩) (Nat.le_of_ble_eq_true rfl) ⟨rfl, rfl⟩
set_option maxHeartbeats 1000000 in
theorem lk_wouldSell {w u : PW} {p : Int32} {fs : List Value} (hw : w[7]? = some (.inr (3, fs))) {r : Int32} {fo : Nat → Int64} (ho : u[107]? = some (oc fo)) (hc : Ct mX3_wouldSell [.ref 7, .int p] w (d1 (some (.int r)) u) nx) : Ct mL_wouldSell [.ref 7, .int p, .ref 107] w (d1 (some (.int (nI 0))) (u.set 107 (oc (vp_updL fo 0 r.toInt64)))) nx := by
  refine ct_ofH 3 kL_wouldSell.1 (by simp) rfl (Nat.le_of_ble_eq_true rfl) (fun v u h => ⟨_, h.1⟩) (fun _ _ h => h.elim) ?_
  show Ev _ _ _ 0 0 [(0, .ref 7), (1, .int p), (2, .ref 107)] [] _
  refine ev_aload_n 2 dL_wouldSell_0 rfl rfl ?_
  refine ev_iconst (nI 0) dL_wouldSell_1 rfl ?_
  refine ev_aload_n 0 dL_wouldSell_2 rfl rfl ?_
  refine ev_iload_n 1 dL_wouldSell_3 rfl rfl ?_
  refine ev_kV1 hc kX3_wouldSell g1093 rfl hw rfl rfl dL_wouldSell_4 ?_
  refine ev_i2l dL_wouldSell_7 ?_
  refine ev_las dL_wouldSell_8 ho rfl ?_
  refine ev_goto 15 dL_wouldSell_9 (by decide) ?_
  refine ev_iconst (nI 0) dL_wouldSell_15 rfl ?_
  exact ev_ireturn dL_wouldSell_16 (Nat.le_of_ble_eq_true rfl) ⟨rfl, rfl⟩
set_option maxHeartbeats 1000000 in
theorem lx_wouldSell_1 {w u : PW} {p : Int32} {fs : List Value} (hw : w[7]? = some (.inr (3, fs))) (hc : Ct mX3_wouldSell [.ref 7, .int p] w (fun _ _ => False) (pX "java/lang/IndexOutOfBoundsException" u)) : Ct mL_wouldSell [.ref 7, .int p, .ref 107] w (d1 (some (.int (nI 1))) (u)) nx := by
  refine ct_ofH 3 kL_wouldSell.1 (by simp) rfl (Nat.le_of_ble_eq_true rfl) (fun v u h => ⟨_, h.1⟩) (fun _ _ h => h.elim) ?_
  show Ev _ _ _ 0 0 [(0, .ref 7), (1, .int p), (2, .ref 107)] [] _
  refine ev_aload_n 2 dL_wouldSell_0 rfl rfl ?_
  refine ev_iconst (nI 0) dL_wouldSell_1 rfl ?_
  refine ev_aload_n 0 dL_wouldSell_2 rfl rfl ?_
  refine ev_iload_n 1 dL_wouldSell_3 rfl rfl ?_
  refine ev_xV1 hc kX3_wouldSell g1093 rfl hw rfl rfl dL_wouldSell_4 ?_
  exact evx_catch [] (te9 (0, 9, 12, 13)) [] rfl (fun z hz => absurd hz List.not_mem_nil) (by decide) (by decide) g625 (by decide) (nI 1) (fun _ _ => trivial) (Or.inl ⟨3, dL_wouldSell_12, by decide, _, dL_wouldSell_13, rfl, dL_wouldSell_14⟩) (Nat.le_of_ble_eq_true rfl) ⟨rfl, rfl⟩
set_option maxHeartbeats 1000000 in
theorem lk_wouldLose {w u : PW} {p : Int32} {fs : List Value} (hw : w[7]? = some (.inr (3, fs))) {r : Int32} {fo : Nat → Int64} (ho : u[107]? = some (oc fo)) (hc : Ct mX3_wouldLose [.ref 7, .int p] w (d1 (some (.int r)) u) nx) : Ct mL_wouldLose [.ref 7, .int p, .ref 107] w (d1 (some (.int (nI 0))) (u.set 107 (oc (vp_updL fo 0 r.toInt64)))) nx := by
  refine ct_ofH 3 kL_wouldLose.1 (by simp) rfl (Nat.le_of_ble_eq_true rfl) (fun v u h => ⟨_, h.1⟩) (fun _ _ h => h.elim) ?_
  show Ev _ _ _ 0 0 [(0, .ref 7), (1, .int p), (2, .ref 107)] [] _
  refine ev_aload_n 2 dL_wouldLose_0 rfl rfl ?_
  refine ev_iconst (nI 0) dL_wouldLose_1 rfl ?_
  refine ev_aload_n 0 dL_wouldLose_2 rfl rfl ?_
  refine ev_iload_n 1 dL_wouldLose_3 rfl rfl ?_
  refine ev_kV1 hc kX3_wouldLose g1100 rfl hw rfl rfl dL_wouldLose_4 ?_
  refine ev_i2l dL_wouldLose_7 ?_
  refine ev_las dL_wouldLose_8 ho rfl ?_
  refine ev_goto 15 dL_wouldLose_9 (by decide) ?_
  refine ev_iconst (nI 0) dL_wouldLose_15 rfl ?_
  exact ev_ireturn dL_wouldLose_16 (Nat.le_of_ble_eq_true rfl) ⟨rfl, rfl⟩
set_option maxHeartbeats 1000000 in
theorem lx_wouldLose_1 {w u : PW} {p : Int32} {fs : List Value} (hw : w[7]? = some (.inr (3, fs))) (hc : Ct mX3_wouldLose [.ref 7, .int p] w (fun _ _ => False) (pX "java/lang/IndexOutOfBoundsException" u)) : Ct mL_wouldLose [.ref 7, .int p, .ref 107] w (d1 (some (.int (nI 1))) (u)) nx := by
  refine ct_ofH 3 kL_wouldLose.1 (by simp) rfl (Nat.le_of_ble_eq_true rfl) (fun v u h => ⟨_, h.1⟩) (fun _ _ h => h.elim) ?_
  show Ev _ _ _ 0 0 [(0, .ref 7), (1, .int p), (2, .ref 107)] [] _
  refine ev_aload_n 2 dL_wouldLose_0 rfl rfl ?_
  refine ev_iconst (nI 0) dL_wouldLose_1 rfl ?_
  refine ev_aload_n 0 dL_wouldLose_2 rfl rfl ?_
  refine ev_iload_n 1 dL_wouldLose_3 rfl rfl ?_
  refine ev_xV1 hc kX3_wouldLose g1100 rfl hw rfl rfl dL_wouldLose_4 ?_
  exact evx_catch [] (te9 (0, 9, 12, 13)) [] rfl (fun z hz => absurd hz List.not_mem_nil) (by decide) (by decide) g625 (by decide) (nI 1) (fun _ _ => trivial) (Or.inl ⟨3, dL_wouldLose_12, by decide, _, dL_wouldLose_13, rfl, dL_wouldLose_14⟩) (Nat.le_of_ble_eq_true rfl) ⟨rfl, rfl⟩
set_option maxHeartbeats 1000000 in
theorem lk_calledIfFallen {w u : PW} {p : Int32} {fs : List Value} (hw : w[7]? = some (.inr (3, fs))) {r : Int32} {fo : Nat → Int64} (ho : u[107]? = some (oc fo)) (hc : Ct mX3_calledIfFallen [.ref 7, .int p] w (d1 (some (.int r)) u) nx) : Ct mL_calledIfFallen [.ref 7, .int p, .ref 107] w (d1 (some (.int (nI 0))) (u.set 107 (oc (vp_updL fo 0 r.toInt64)))) nx := by
  refine ct_ofH 3 kL_calledIfFallen.1 (by simp) rfl (Nat.le_of_ble_eq_true rfl) (fun v u h => ⟨_, h.1⟩) (fun _ _ h => h.elim) ?_
  show Ev _ _ _ 0 0 [(0, .ref 7), (1, .int p), (2, .ref 107)] [] _
  refine ev_aload_n 2 dL_calledIfFallen_0 rfl rfl ?_
  refine ev_iconst (nI 0) dL_calledIfFallen_1 rfl ?_
  refine ev_aload_n 0 dL_calledIfFallen_2 rfl rfl ?_
  refine ev_iload_n 1 dL_calledIfFallen_3 rfl rfl ?_
  refine ev_kV1 hc kX3_calledIfFallen g1107 rfl hw rfl rfl dL_calledIfFallen_4 ?_
  refine ev_i2l dL_calledIfFallen_7 ?_
  refine ev_las dL_calledIfFallen_8 ho rfl ?_
  refine ev_goto 15 dL_calledIfFallen_9 (by decide) ?_
  refine ev_iconst (nI 0) dL_calledIfFallen_15 rfl ?_
  exact ev_ireturn dL_calledIfFallen_16 (Nat.le_of_ble_eq_true rfl) ⟨rfl, rfl⟩
set_option maxHeartbeats 1000000 in
theorem lx_calledIfFallen_1 {w u : PW} {p : Int32} {fs : List Value} (hw : w[7]? = some (.inr (3, fs))) (hc : Ct mX3_calledIfFallen [.ref 7, .int p] w (fun _ _ => False) (pX "java/lang/IllegalArgumentException" u)) : Ct mL_calledIfFallen [.ref 7, .int p, .ref 107] w (d1 (some (.int (nI 1))) (u)) nx := by
  refine ct_ofH 3 kL_calledIfFallen.1 (by simp) rfl (Nat.le_of_ble_eq_true rfl) (fun v u h => ⟨_, h.1⟩) (fun _ _ h => h.elim) ?_
  show Ev _ _ _ 0 0 [(0, .ref 7), (1, .int p), (2, .ref 107)] [] _
  refine ev_aload_n 2 dL_calledIfFallen_0 rfl rfl ?_
  refine ev_iconst (nI 0) dL_calledIfFallen_1 rfl ?_
  refine ev_aload_n 0 dL_calledIfFallen_2 rfl rfl ?_
  refine ev_iload_n 1 dL_calledIfFallen_3 rfl rfl ?_
  refine ev_xV1 hc kX3_calledIfFallen g1107 rfl hw rfl rfl dL_calledIfFallen_4 ?_
  exact evx_catch [] (te9 (0, 9, 12, 15)) [] rfl (fun z hz => absurd hz List.not_mem_nil) (by decide) (by decide) g626 (by decide) (nI 1) (fun _ _ => trivial) (Or.inl ⟨3, dL_calledIfFallen_12, by decide, _, dL_calledIfFallen_13, rfl, dL_calledIfFallen_14⟩) (Nat.le_of_ble_eq_true rfl) ⟨rfl, rfl⟩
