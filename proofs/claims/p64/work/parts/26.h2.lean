/-! ===== the class: copies of the present ledger, saving ===== -/
theorem hgT_ext {T T' : Nat → Nat → Int32} (g : PW) (h : ∀ j, 1 ≤ j → j < 10 → T j = T' j) : hgT T g = hgT T' g := by
  unfold hgT
  rw [h 1 (by omega) (by omega), h 2 (by omega) (by omega), h 3 (by omega) (by omega), h 4 (by omega) (by omega), h 5 (by omega) (by omega), h 6 (by omega) (by omega), h 7 (by omega) (by omega), h 8 (by omega) (by omega), h 9 (by omega) (by omega)]
/-- the house's world: the present ledger says τ, the others T 1 .. T 9 -/
abbrev hv (P : Nat → va_E) (t cs sl pl ks rr : Nat → Int32) (n b : Nat) (sv : Nat → Nat) (sf τ : Nat → Int32) (T : Nat → Nat → Int32) (g : PW) : PW := nw (hpP P t cs n b sv sf) sl pl ks rr τ (hgT T g)
theorem hv_hw (P : Nat → va_E) (t cs sl pl ks rr : Nat → Int32) (n b : Nat) (sv : Nat → Nat) (sf τ : Nat → Int32) (T : Nat → Nat → Int32) (g : PW) : hv P t cs sl pl ks rr n b sv sf τ T g = hw P t cs sl pl ks rr n b sv sf (updT T 0 τ) g := by
  show nw _ _ _ _ _ τ (hgT T g) = nw _ _ _ _ _ ((updT T 0 τ) 0) (hgT (updT T 0 τ) g)
  rw [updT_s, hgT_ext (T := updT T 0 τ) (T' := T) g (fun j h1 _ => updT_n T τ (by omega))]
theorem hw_hv (P : Nat → va_E) (t cs sl pl ks rr : Nat → Int32) (n b : Nat) (sv : Nat → Nat) (sf : Nat → Int32) (T T' : Nat → Nat → Int32) (g : PW) (h : ∀ j, 1 ≤ j → j < 10 → T j = T' j) : hw P t cs sl pl ks rr n b sv sf T g = hv P t cs sl pl ks rr n b sv sf (T 0) T' g := by
  show nw _ _ _ _ _ (T 0) (hgT T g) = nw _ _ _ _ _ (T 0) (hgT T' g)
  rw [hgT_ext g h]
/-- the barred are told by 0 and 1 -/
def BF (τ : Nat → Int32) : Prop := ∀ c, c < 8 → τ (ix c 9) = 0 ∨ τ (ix c 9) = 1
theorem BF_fit {τ : Nat → Int32} (h : BF τ) : ∀ i, i < 8 → fits .boolean (.int (tr 8 (fun c => τ (ix c 9)) i)) = true := fun i hi => by
  have e : tr 8 (fun c => τ (ix c 9)) i = τ (ix i 9) := if_pos hi
  rw [e]
  rcases h i hi with q | q <;> rw [q] <;> rfl
/-- now to a -/
theorem c3_cpa (P : Nat → va_E) (t cs sl pl ks rr : Nat → Int32) (n b : Nat) (sv : Nat → Nat) (sf τ : Nat → Int32) (T : Nat → Nat → Int32) (g : PW) {a : Nat} (ha : a < 10) (ha0 : a ≠ 0) (hB : BF τ) : Ct mX0_copyFrom [.ref (17 + 9 * a), .ref 17] (hv P t cs sl pl ks rr n b sv sf τ T g) (d1 none (hv P t cs sl pl ks rr n b sv sf τ (updT T a τ) g)) nx := by
  have e := c0_copy P t cs sl pl ks rr n b sv sf (updT T 0 τ) g (a := a) (b := 0) ha (by omega) (Ne.symm ha0) (by rw [updT_s]; exact BF_fit hB)
  rw [← hv_hw, hw_hv _ _ _ _ _ _ _ _ _ _ _ _ (updT T a τ) _ (fun j h1 _ => by
    by_cases q : j = a
    · subst q; rw [updT_s, updT_s, updT_s]
    · rw [updT_n _ _ q, updT_n _ _ q, updT_n _ _ (by omega)]), updT_n _ _ (Ne.symm ha0), updT_s] at e
  exact e
/-- a to now -/
theorem c3_cpn (P : Nat → va_E) (t cs sl pl ks rr : Nat → Int32) (n b : Nat) (sv : Nat → Nat) (sf τ : Nat → Int32) (T : Nat → Nat → Int32) (g : PW) {a : Nat} (ha : a < 10) (ha0 : a ≠ 0) (hB : BF (T a)) : Ct mX0_copyFrom [.ref 17, .ref (17 + 9 * a)] (hv P t cs sl pl ks rr n b sv sf τ T g) (d1 none (hv P t cs sl pl ks rr n b sv sf (T a) T g)) nx := by
  have e := c0_copy P t cs sl pl ks rr n b sv sf (updT T 0 τ) g (a := 0) (b := a) (by omega) ha ha0 (by rw [updT_n _ _ ha0]; exact BF_fit hB)
  rw [← hv_hw, updT_n _ _ ha0, hw_hv _ _ _ _ _ _ _ _ _ _ _ _ T _ (fun j h1 _ => by rw [updT_n _ _ (by omega), updT_n _ _ (by omega)]), updT_s] at e
  exact e
theorem hv_g0 (P : Nat → va_E) (t cs sl pl ks rr : Nat → Int32) (n b : Nat) (sv : Nat → Nat) (sf τ : Nat → Int32) (T : Nat → Nat → Int32) (g : PW) {a : Nat} (ha : a < 10) : (hv P t cs sl pl ks rr n b sv sf τ T g)[17 + 9 * a]? = some (.inr (0, [.ref (17 + 9 * a + 1), .ref (17 + 9 * a + 2), .ref (17 + 9 * a + 3), .ref (17 + 9 * a + 4), .ref (17 + 9 * a + 5), .ref (17 + 9 * a + 6), .ref (17 + 9 * a + 7), .ref (17 + 9 * a + 8), .int ((updT T 0 τ) a 98), .int ((updT T 0 τ) a 99), .int ((updT T 0 τ) a 100), .int ((updT T 0 τ) a 101), .int ((updT T 0 τ) a 102), .int ((updT T 0 τ) a 103), .int ((updT T 0 τ) a 104), .int ((updT T 0 τ) a 105), .int ((updT T 0 τ) a 106), .int ((updT T 0 τ) a 107), .int ((updT T 0 τ) a 108)])) := by
  rw [hv_hw]
  exact hw_g0 _ _ _ _ _ _ _ _ _ _ _ _ _ ha
def shN (sv : Nat → Nat) (j : Nat) : Nat → Nat := fun k => if k < j then sv (k + 1) else sv k
theorem shN_s (sv : Nat → Nat) (j k : Nat) : shN sv (j + 1) k = if k = j then sv (j + 1) else shN sv j k := by
  simp only [shN]
  by_cases q : k = j
  · subst q; rw [if_pos (by omega), if_pos rfl]
  · rw [if_neg q]
    by_cases z : k < j
    · rw [if_pos (by omega), if_pos z]
    · rw [if_neg (by omega), if_neg z]
theorem hv_7 (P : Nat → va_E) (t cs sl pl ks rr : Nat → Int32) (n b : Nat) (sv : Nat → Nat) (sf τ : Nat → Int32) (T : Nat → Nat → Int32) (g : PW) (n' b' : Nat) : (hv P t cs sl pl ks rr n b sv sf τ T g).set 7 (.inr (3, [.ref 8, .ref 10, .ref 13, .ref 15, .ref 16, .ref 14, .int (nI n'), .ref 17, .ref (17 + 9 * b')])) = hv P t cs sl pl ks rr (n') (b') sv sf τ T g := rfl
theorem hv_14 (P : Nat → va_E) (t cs sl pl ks rr : Nat → Int32) (n b : Nat) (sv : Nat → Nat) (sf τ : Nat → Int32) (T : Nat → Nat → Int32) (g : PW) {i a : Nat} (hi : i < 6) (sv' : Nat → Nat) (h : ∀ k, k < 6 → sv' k = if k = i then a else sv k) : (hv P t cs sl pl ks rr n b sv sf τ T g).set 14 (.inl (3, 6, .inr (.inr (.inr (.inr (va_up (fun k => if k < 6 then some (17 + 9 * sv k) else none) (nI i).toNatClampNeg (some (17 + 9 * a)))))))) = hv P t cs sl pl ks rr n b (sv') sf τ T g := by
  rw [nI_clamp (by omega)]
  have e : va_up (fun k => if k < 6 then some (17 + 9 * sv k) else none) i (some (17 + 9 * a)) = fun k => if k < 6 then some (17 + 9 * sv' k) else none := by
    funext k
    simp only [va_up]
    by_cases q : k = i
    · subst q; rw [if_pos rfl, if_pos hi, h _ hi, if_pos rfl]
    · rw [if_neg q]
      by_cases q2 : k < 6
      · rw [if_pos q2, if_pos q2, h _ q2, if_neg q]
      · rw [if_neg q2, if_neg q2]
  rw [e]
  rfl
def sN9 (n : Nat) : Nat := if n < 6 then n + 1 else 6
def sB9 (n : Nat) (sv : Nat → Nat) : Nat := if n < 6 then sv n else sv 0
def sS9 (n b : Nat) (sv : Nat → Nat) : Nat → Nat := if n < 6 then updN sv n b else updN (shN sv 5) 5 b
/-- the ledgers change places -/
def PM (b : Nat) (sv : Nat → Nat) : Prop := 2 < b ∧ b < 10 ∧ (∀ k, k < 6 → 2 < sv k ∧ sv k < 10 ∧ sv k ≠ b) ∧ ∀ j k, j < k → k < 6 → sv j ≠ sv k
theorem PM_sv {n b : Nat} {sv : Nat → Nat} (hn : n ≤ 6) (h : PM b sv) : PM (sB9 n sv) (sS9 n b sv) := by
  obtain ⟨h1, h2, h3, h4⟩ := h
  unfold sB9 sS9
  by_cases q : n < 6
  · simp only [if_pos q]
    refine ⟨(h3 n q).1, (h3 n q).2.1, fun k hk => ?_, fun j k hj hk => ?_⟩
    · simp only [updN]; split
      · exact ⟨h1, h2, (h3 n q).2.2.symm⟩
      · next e =>
        refine ⟨(h3 k hk).1, (h3 k hk).2.1, ?_⟩
        rcases Nat.lt_or_gt_of_ne e with z | z
        · exact h4 k n z q
        · exact (h4 n k z hk).symm
    · simp only [updN]; split
      · split
        · omega
        · exact (h3 k hk).2.2.symm
      · split
        · exact (h3 j (by omega)).2.2
        · exact h4 j k hj hk
  · simp only [if_neg q]
    refine ⟨(h3 0 (by omega)).1, (h3 0 (by omega)).2.1, fun k hk => ?_, fun j k hj hk => ?_⟩
    · simp only [updN, shN]; split
      · exact ⟨h1, h2, (h3 0 (by omega)).2.2.symm⟩
      · rw [if_pos (by omega)]
        exact ⟨(h3 (k + 1) (by omega)).1, (h3 (k + 1) (by omega)).2.1, (h4 0 (k + 1) (by omega) (by omega)).symm⟩
    · simp only [updN, shN]
      rw [if_neg (by omega), if_pos (by omega)]
      split
      · exact (h3 (j + 1) (by omega)).2.2
      · rw [if_pos (by omega)]
        exact h4 (j + 1) (k + 1) (by omega) (by omega)
set_option maxHeartbeats 1000000 in
theorem c3_sbL (P : Nat → va_E) (t cs sl pl ks rr : Nat → Int32) (n b : Nat) (sv : Nat → Nat) (sf τ : Nat → Int32) (T : Nat → Nat → Int32) (g : PW) (hn : n < 6) (hp : PM b sv) : Ct mX3_saveBefore [.ref 7] (hv P t cs sl pl ks rr n b sv sf τ T g) (d1 none (hv P t cs sl pl ks rr (n + 1) (sv n) (updN sv n b) sf τ T g)) nx := by
  refine ct_of 0 kX3_saveBefore.1 rfl (Nat.le_of_ble_eq_true rfl) (fun v u h => by obtain ⟨rfl, rfl⟩ := h; exact trivial) ?_
  show Ev _ _ _ 0 0 [(0, .ref 7)] [] _
  refine ev_aload_n 0 dX3_saveBefore_0 rfl rfl ?_
  refine ev_getfield 6 dX3_saveBefore_1 foX3_172 rfl rfl ?_
  refine ev_bipush (nI 6) dX3_saveBefore_4 rfl ?_
  refine ev_icmp_ge 32 dX3_saveBefore_6 (by decide) (fun h6 => absurd h6 (nI_ge hn (by omega))) (fun h6 => ?_)
  refine ev_aload_n 0 dX3_saveBefore_9 rfl rfl ?_
  refine ev_getfield 5 dX3_saveBefore_10 foX3_37 rfl rfl ?_
  refine ev_aload_n 0 dX3_saveBefore_13 rfl rfl ?_
  refine ev_getfield 6 dX3_saveBefore_14 foX3_172 rfl rfl ?_
  refine ev_aaload (r := 17 + 9 * sv n) dX3_saveBefore_17 rfl (vp_in_nI hn (by omega)) (by rw [nI_clamp (by omega)]; exact if_pos hn) ?_
  refine ev_astore_n 1 dX3_saveBefore_18 rfl (Nat.le_of_ble_eq_true rfl) rfl ?_
  refine ev_aload_n 0 dX3_saveBefore_19 rfl rfl ?_
  refine ev_dup dX3_saveBefore_20 rfl ?_
  refine ev_getfield 6 dX3_saveBefore_21 foX3_172 rfl rfl ?_
  refine ev_iconst (nI 1) dX3_saveBefore_24 rfl ?_
  refine ev_iadd dX3_saveBefore_25 ?_
  refine ev_top (nI (n + 1)) (nI_add n 1) ?_
  refine ev_putfield 6 dX3_saveBefore_26 fpX3_172 rfl (Nat.le_of_ble_eq_true rfl) (fun _ => rfl) (fun _ => rfl) (hv_7 _ _ _ _ _ _ _ _ _ _ _ _ _ _ (n + 1) (b)) ?_
  refine ev_goto 67 dX3_saveBefore_29 (by decide) ?_
  refine ev_aload_n 0 dX3_saveBefore_67 rfl rfl ?_
  refine ev_getfield 5 dX3_saveBefore_68 foX3_37 rfl rfl ?_
  refine ev_aload_n 0 dX3_saveBefore_71 rfl rfl ?_
  refine ev_getfield 6 dX3_saveBefore_72 foX3_172 rfl rfl ?_
  refine ev_iconst (nI 1) dX3_saveBefore_75 rfl ?_
  refine ev_isub dX3_saveBefore_76 ?_
  refine ev_top (nI n) (nI_pred n) ?_
  refine ev_aload_n 0 dX3_saveBefore_77 rfl rfl ?_
  refine ev_getfield 8 dX3_saveBefore_78 foX3_45 rfl rfl ?_
  refine ev_aastore (ci := 0) dX3_saveBefore_81 rfl (hv_g0 _ _ _ _ _ _ _ _ _ _ _ _ _ _ (a := b) hp.2.1) (vp_in_nI hn (by omega)) (hv_14 _ _ _ _ _ _ _ _ _ _ _ _ _ _ hn (updN sv n b) (fun k hk => rfl)) ?_
  refine ev_aload_n 0 dX3_saveBefore_82 rfl rfl ?_
  refine ev_aload_n 1 dX3_saveBefore_83 rfl rfl ?_
  refine ev_putfield 8 dX3_saveBefore_84 fpX3_45 rfl (Nat.le_of_ble_eq_true rfl) (fun _ => rfl) (fun _ => rfl) (hv_7 _ _ _ _ _ _ _ _ _ _ _ _ _ _ (n + 1) (sv n)) ?_
  exact ev_return dX3_saveBefore_87 (Nat.le_of_ble_eq_true rfl) ⟨rfl, rfl⟩
set_option maxHeartbeats 1000000 in
theorem c3_sb6 (P : Nat → va_E) (t cs sl pl ks rr : Nat → Int32) (b : Nat) (sv : Nat → Nat) (sf τ : Nat → Int32) (T : Nat → Nat → Int32) (g : PW) (hp : PM b sv) : Ct mX3_saveBefore [.ref 7] (hv P t cs sl pl ks rr 6 b sv sf τ T g) (d1 none (hv P t cs sl pl ks rr 6 (sv 0) (updN (shN sv 5) 5 b) sf τ T g)) nx := by
  refine ct_of 0 kX3_saveBefore.1 rfl (Nat.le_of_ble_eq_true rfl) (fun v u h => by obtain ⟨rfl, rfl⟩ := h; exact trivial) ?_
  show Ev _ _ _ 0 0 [(0, .ref 7)] [] _
  refine ev_aload_n 0 dX3_saveBefore_0 rfl rfl ?_
  refine ev_getfield 6 dX3_saveBefore_1 foX3_172 rfl rfl ?_
  refine ev_bipush (nI 6) dX3_saveBefore_4 rfl ?_
  refine ev_icmp_ge 32 dX3_saveBefore_6 (by decide) (fun h6 => ?_) (fun h6 => absurd (nI_le (Nat.le_refl 6) (by omega)) h6)
  refine ev_aload_n 0 dX3_saveBefore_32 rfl rfl ?_
  refine ev_getfield 5 dX3_saveBefore_33 foX3_37 rfl rfl ?_
  refine ev_iconst (nI 0) dX3_saveBefore_36 rfl ?_
  refine ev_aaload (r := 17 + 9 * sv 0) dX3_saveBefore_37 rfl (vp_in_nI (show 0 < 6 by omega) (by omega)) (by rw [nI_clamp (by omega)]; exact if_pos (show 0 < 6 by omega)) ?_
  refine ev_astore_n 1 dX3_saveBefore_38 rfl (Nat.le_of_ble_eq_true rfl) rfl ?_
  refine ev_iconst (nI 1) dX3_saveBefore_39 rfl ?_
  refine ev_istore_n 2 dX3_saveBefore_40 rfl (Nat.le_of_ble_eq_true rfl) rfl ?_
  refine ev_w (w' := hv P t cs sl pl ks rr 6 b (shN sv 0) sf τ T g) (by rw [show shN sv 0 = sv from funext (fun k => if_neg (by omega))]) ?_
  suffices H : ∀ fu j, j + fu = 5 → Ev mX3_saveBefore (d1 none (hv P t cs sl pl ks rr 6 (sv 0) (updN (shN sv 5) 5 b) sf τ T g)) nx 0 41 [(2, .int (nI (j + 1))), (1, .ref (17 + 9 * sv 0)), (0, .ref 7)] [] (hv P t cs sl pl ks rr 6 b (shN sv j) sf τ T g) from ev_sub [0, 1, 2] rfl (H 5 0 rfl)
  intro fu
  induction fu with
  | zero =>
    intro j hj
    obtain rfl : 5 = j := by omega
    refine ev_iload_n 2 dX3_saveBefore_41 rfl rfl ?_
    refine ev_bipush (nI 6) dX3_saveBefore_42 rfl ?_
    refine ev_icmp_ge 67 dX3_saveBefore_44 (by decide) (fun h44 => ?_) (fun h44 => absurd (nI_le (Nat.le_refl 6) (by omega)) h44)
    refine ev_aload_n 0 dX3_saveBefore_67 rfl rfl ?_
    refine ev_getfield 5 dX3_saveBefore_68 foX3_37 rfl rfl ?_
    refine ev_aload_n 0 dX3_saveBefore_71 rfl rfl ?_
    refine ev_getfield 6 dX3_saveBefore_72 foX3_172 rfl rfl ?_
    refine ev_iconst (nI 1) dX3_saveBefore_75 rfl ?_
    refine ev_isub dX3_saveBefore_76 ?_
    refine ev_top (nI 5) (nI_pred 5) ?_
    refine ev_aload_n 0 dX3_saveBefore_77 rfl rfl ?_
    refine ev_getfield 8 dX3_saveBefore_78 foX3_45 rfl rfl ?_
    refine ev_aastore (ci := 0) dX3_saveBefore_81 rfl (hv_g0 _ _ _ _ _ _ _ _ _ _ _ _ _ _ (a := b) hp.2.1) (vp_in_nI (show 5 < 6 by omega) (by omega)) (hv_14 _ _ _ _ _ _ _ _ _ _ _ _ _ _ (show 5 < 6 by omega) (updN (shN sv 5) 5 b) (fun k hk => rfl)) ?_
    refine ev_aload_n 0 dX3_saveBefore_82 rfl rfl ?_
    refine ev_aload_n 1 dX3_saveBefore_83 rfl rfl ?_
    refine ev_putfield 8 dX3_saveBefore_84 fpX3_45 rfl (Nat.le_of_ble_eq_true rfl) (fun _ => rfl) (fun _ => rfl) (hv_7 _ _ _ _ _ _ _ _ _ _ _ _ _ _ (6) (sv 0)) ?_
    exact ev_return dX3_saveBefore_87 (Nat.le_of_ble_eq_true rfl) ⟨rfl, rfl⟩
  | succ fu ih =>
    intro j hj
    refine ev_iload_n 2 dX3_saveBefore_41 rfl rfl ?_
    refine ev_bipush (nI 6) dX3_saveBefore_42 rfl ?_
    refine ev_icmp_ge 67 dX3_saveBefore_44 (by decide) (fun h44 => absurd h44 (nI_ge (by omega) (by omega))) (fun h44 => ?_)
    refine ev_aload_n 0 dX3_saveBefore_47 rfl rfl ?_
    refine ev_getfield 5 dX3_saveBefore_48 foX3_37 rfl rfl ?_
    refine ev_iload_n 2 dX3_saveBefore_51 rfl rfl ?_
    refine ev_iconst (nI 1) dX3_saveBefore_52 rfl ?_
    refine ev_isub dX3_saveBefore_53 ?_
    refine ev_top (nI j) (nI_pred j) ?_
    refine ev_aload_n 0 dX3_saveBefore_54 rfl rfl ?_
    refine ev_getfield 5 dX3_saveBefore_55 foX3_37 rfl rfl ?_
    refine ev_iload_n 2 dX3_saveBefore_58 rfl rfl ?_
    refine ev_aaload (r := 17 + 9 * sv (j + 1)) dX3_saveBefore_59 rfl (vp_in_nI (show j + 1 < 6 by omega) (by omega)) (by rw [nI_clamp (by omega)]; show (if j + 1 < 6 then some (17 + 9 * shN sv j (j + 1)) else none) = _; rw [if_pos (by omega), show shN sv j (j + 1) = sv (j + 1) from if_neg (by omega)]) ?_
    refine ev_aastore (ci := 0) dX3_saveBefore_60 rfl (hv_g0 _ _ _ _ _ _ _ _ _ _ _ _ _ _ (a := sv (j + 1)) (hp.2.2.1 (j + 1) (by omega)).2.1) (vp_in_nI (show j < 6 by omega) (by omega)) (hv_14 _ _ _ _ _ _ _ _ _ _ _ _ _ _ (show j < 6 by omega) (shN sv (j + 1)) (fun k _ => shN_s sv j k)) ?_
    refine ev_iinc (nI (j + 1 + 1)) dX3_saveBefore_61 rfl (nI_1 (j + 1)) (Nat.le_of_ble_eq_true rfl) rfl ?_
    refine ev_goto 41 dX3_saveBefore_64 (by decide) ?_
    exact ev_sub [0, 1, 2] rfl (ih (j + 1) (by omega))
theorem c3_saveBefore (P : Nat → va_E) (t cs sl pl ks rr : Nat → Int32) (n b : Nat) (sv : Nat → Nat) (sf τ : Nat → Int32) (T : Nat → Nat → Int32) (g : PW) (hn : n ≤ 6) (hp : PM b sv) : Ct mX3_saveBefore [.ref 7] (hv P t cs sl pl ks rr n b sv sf τ T g) (d1 none (hv P t cs sl pl ks rr (sN9 n) (sB9 n sv) (sS9 n b sv) sf τ T g)) nx := by
  unfold sN9 sB9 sS9
  by_cases q : n < 6
  · simp only [if_pos q]
    exact c3_sbL P t cs sl pl ks rr n b sv sf τ T g q hp
  · obtain rfl : n = 6 := by omega
    exact c3_sb6 P t cs sl pl ks rr b sv sf τ T g hp
set_option maxHeartbeats 1000000 in
theorem c3_save (P : Nat → va_E) (t cs sl pl ks rr : Nat → Int32) (n b : Nat) (sv : Nat → Nat) (sf τ : Nat → Int32) (T : Nat → Nat → Int32) (g : PW) (hn : n ≤ 6) (hp : PM b sv) (hB : BF τ) : Ct mX3_save [.ref 7] (hv P t cs sl pl ks rr n b sv sf τ T g) (d1 none (hv P t cs sl pl ks rr (sN9 n) (sB9 n sv) (sS9 n b sv) sf τ (updT T b τ) g)) nx := by
  refine ct_of 0 kX3_save.1 rfl (Nat.le_of_ble_eq_true rfl) (fun v u h => by obtain ⟨rfl, rfl⟩ := h; exact trivial) ?_
  show Ev _ _ _ 0 0 [(0, .ref 7)] [] _
  refine ev_aload_n 0 dX3_save_0 rfl rfl ?_
  refine ev_getfield 8 dX3_save_1 foX3_45 rfl rfl ?_
  refine ev_aload_n 0 dX3_save_4 rfl rfl ?_
  refine ev_getfield 7 dX3_save_5 foX3_41 rfl rfl ?_
  refine ev_cV1v (c3_cpa _ _ _ _ _ _ _ _ _ _ _ _ _ _ hp.2.1 (by have := hp.1; omega) hB) kX0_copyFrom rfl g316 rfl (hv_g0 _ _ _ _ _ _ _ _ _ _ _ _ _ _ hp.2.1) rfl rfl dX3_save_8 ?_
  refine ev_aload_n 0 dX3_save_11 rfl rfl ?_
  refine ev_cV0v (c3_saveBefore _ _ _ _ _ _ _ _ _ _ _ _ _ _ hn hp) kX3_saveBefore rfl g323 rfl rfl rfl rfl dX3_save_12 ?_
  exact ev_return dX3_save_15 (Nat.le_of_ble_eq_true rfl) ⟨rfl, rfl⟩
