/-! ===== the library's texts ===== -/
abbrev mJ0_length_8abf5 : MT := (yJ0_length_8abf5, (some .int), cJ0_length_8abf5, 1, { frames := 1, cells := 0, slots := 0, locals := 22 }, [], 0, none)
theorem kJ0_length_8abf5 : MKV mJ0_length_8abf5 0 := ⟨⟨(by rw [hdW, if_pos rfl]; exact g346), g73, ⟨by decide, by decide⟩, by decide +kernel, rfl, rfl, by decide +kernel, rfl⟩, ⟨g344, g345⟩, rfl⟩
abbrev mJ0_isEmpty_aae02 : MT := (yJ0_isEmpty_aae02, (some .boolean), cJ0_isEmpty_aae02, 1, { frames := 0, cells := 0, slots := 0, locals := 0 }, [], 0, none)
theorem kJ0_isEmpty_aae02 : MKV mJ0_isEmpty_aae02 0 := ⟨⟨(by rw [hdW, if_pos rfl]; exact g334), g73, ⟨by decide, by decide⟩, by decide +kernel, rfl, rfl, by decide +kernel, rfl⟩, ⟨g332, g333⟩, rfl⟩
abbrev mJ0_charAt_5068e : MT := (yJ0_charAt_5068e, (some .char), cJ0_charAt_5068e, 2, { frames := 3, cells := 0, slots := 0, locals := 80 }, [], 0, none)
theorem kJ0_charAt_5068e : MKV mJ0_charAt_5068e 1 := ⟨⟨(by rw [hdW, if_pos rfl]; exact g356), g73, ⟨by decide, by decide⟩, by decide +kernel, rfl, rfl, by decide +kernel, rfl⟩, ⟨g354, g355⟩, rfl⟩
abbrev mJ0_coder_7d493 : MT := (yJ0_coder_7d493, (some .byte), cJ0_coder_7d493, 1, { frames := 0, cells := 0, slots := 0, locals := 0 }, [], 0, none)
theorem kJ0_coder_7d493 : MKV mJ0_coder_7d493 0 := ⟨⟨(by rw [hdW, if_pos rfl]; exact g350), g73, ⟨by decide, by decide⟩, by decide +kernel, rfl, rfl, by decide +kernel, rfl⟩, ⟨g348, g349⟩, rfl⟩
abbrev mJ0_isLatin1_aae02 : MT := (yJ0_isLatin1_aae02, (some .boolean), cJ0_isLatin1_aae02, 1, { frames := 0, cells := 0, slots := 0, locals := 0 }, [], 0, none)
theorem kJ0_isLatin1_aae02 : MKV mJ0_isLatin1_aae02 0 := ⟨⟨(by rw [hdW, if_pos rfl]; exact g360), g73, ⟨by decide, by decide⟩, by decide +kernel, rfl, rfl, by decide +kernel, rfl⟩, ⟨g358, g359⟩, rfl⟩
abbrev mJ0_checkIndex_df160 : MT := (yJ0_checkIndex_df160, none, cJ0_checkIndex_df160, 2, { frames := 1, cells := 0, slots := 0, locals := 22 }, [], 0, none)
theorem kJ0_checkIndex_df160 : MKS mJ0_checkIndex_df160 2 := ⟨⟨(by rw [hdW, if_pos rfl]; exact g366), g73, ⟨by decide, by decide⟩, by decide +kernel, rfl, rfl, by decide +kernel, rfl⟩, g365, rfl⟩
abbrev mJ1_charAt_3b067 : MT := (yJ1_charAt_3b067, (some .char), cJ1_charAt_3b067, 2, { frames := 2, cells := 0, slots := 0, locals := 45 }, [], 0, none)
theorem kJ1_charAt_3b067 : MKS mJ1_charAt_3b067 2 := ⟨⟨(by rw [hdW, if_pos rfl]; exact g363), g74, ⟨by decide, by decide⟩, by decide +kernel, rfl, rfl, by decide +kernel, rfl⟩, g362, rfl⟩
abbrev mJ3_checkIndex_8e157 : MT := (yJ3_checkIndex_8e157, (some .int), cJ3_checkIndex_8e157, 3, { frames := 0, cells := 0, slots := 0, locals := 0 }, [], 0, none)
theorem kJ3_checkIndex_8e157 : MKS mJ3_checkIndex_8e157 3 := ⟨⟨(by rw [hdW, if_pos rfl]; exact g371), g75, ⟨by decide, by decide⟩, by decide +kernel, rfl, rfl, by decide +kernel, rfl⟩, g370, rfl⟩
section CTT
variable {M M' : MT} {po : PO} {px : PX} {k pc : Nat} {L : LV} {st : List Value} {w u : PW} {idx i : Nat}
theorem ev_cT0 {r : Value} (hc : Ct M' [.ref (1000 + i)] w (d1 (some r) u) nx) (hM : MKV M' 0) (hz : mK M' = 0) (hlw : Cond.methodLink (mY M).cls idx (mY M') ∈ Gw) (hR : rfB M M' k = true) (hi : i < 5) (hcl : (mY M').cls = "java/lang/String") (hs : stB st = true) (d : decode (mC M) pc = .ok (.invokevirtual idx, 3)) (kk : Ev M po px k (pc + 3) L (r :: st) u) : Ev M po px k pc L (.ref (1000 + i) :: st) w := by
  refine ev_run (rn_T (As := []) hc hM.1 hM.2.1 hM.2.2 hlw (rf_of hR) rfl hi hcl (Nat.le_of_ble_eq_true hs) d) (fun v u' h => ?_) (fun _ _ h => h.elim)
  obtain ⟨rfl, rfl⟩ := h
  rw [hz]
  exact kk
theorem ev_cT1 {x1 : Value} {r : Value} (hc : Ct M' [.ref (1000 + i), x1] w (d1 (some r) u) nx) (hM : MKV M' 1) (hz : mK M' = 0) (hlw : Cond.methodLink (mY M).cls idx (mY M') ∈ Gw) (hR : rfB M M' k = true) (hi : i < 5) (hcl : (mY M').cls = "java/lang/String") (hs : stB st = true) (d : decode (mC M) pc = .ok (.invokevirtual idx, 3)) (kk : Ev M po px k (pc + 3) L (r :: st) u) : Ev M po px k pc L (x1 :: .ref (1000 + i) :: st) w := by
  refine ev_run (rn_T (As := [x1]) hc hM.1 hM.2.1 hM.2.2 hlw (rf_of hR) rfl hi hcl (Nat.le_of_ble_eq_true hs) d) (fun v u' h => ?_) (fun _ _ h => h.elim)
  obtain ⟨rfl, rfl⟩ := h
  rw [hz]
  exact kk
end CTT
/-- the texts' lengths, their signs -/
def ln5 (i : Nat) : Nat := ([3, 5, 3, 1, 0] : List Nat).getD i 0
def ch5 (i a : Nat) : Nat := (([[107, 61, 110], [119, 58, 107, 42, 110], [119, 61, 110], [110], []] : List (List Nat)).getD i []).getD a 0
theorem ln5_sh : ∀ i, i < 5 → Int32.ofNat (([3, 5, 3, 1, 0] : List Nat).getD i 0) >>> ((0 : Int32) &&& 31) = nI (ln5 i) := by decide +kernel
theorem ln5_0 : ∀ i, i < 4 → ¬ Int32.ofNat (([3, 5, 3, 1, 0] : List Nat).getD i 0) = 0 := by decide +kernel
theorem ln5_s : ∀ i, i < 5 → ln5 i ≤ 5 := by decide +kernel
set_option maxHeartbeats 1000000 in
theorem j_coder (w : PW) {i : Nat} (hi : i < 5) : Ct mJ0_coder_7d493 [.ref (1000 + i)] w (d1 (some (.int (0))) w) nx := by
  refine ct_of 0 kJ0_coder_7d493.1 rfl (Nat.le_of_ble_eq_true rfl) (fun v u h => by obtain ⟨rfl, rfl⟩ := h; exact rfl) ?_
  show Ev _ _ _ 0 0 [(0, .ref (1000 + i))] [] _
  refine ev_getCS dJ0_coder_7d493_0 g351 ?_
  refine ev_if_eq 13 dJ0_coder_7d493_3 (by decide) (fun h3 => absurd h3 (by decide)) (fun h3 => ?_)
  refine ev_aload_n 0 dJ0_coder_7d493_6 rfl rfl ?_
  refine ev_gfC hi dJ0_coder_7d493_7 g1621 ?_
  refine ev_goto 14 dJ0_coder_7d493_10 (by decide) ?_
  exact ev_ireturn dJ0_coder_7d493_14 (Nat.le_of_ble_eq_true rfl) ⟨rfl, rfl⟩
set_option maxHeartbeats 1000000 in
theorem j_isLatin1 (w : PW) {i : Nat} (hi : i < 5) : Ct mJ0_isLatin1_aae02 [.ref (1000 + i)] w (d1 (some (.int (nI 1))) w) nx := by
  refine ct_of 0 kJ0_isLatin1_aae02.1 rfl (Nat.le_of_ble_eq_true rfl) (fun v u h => by obtain ⟨rfl, rfl⟩ := h; exact rfl) ?_
  show Ev _ _ _ 0 0 [(0, .ref (1000 + i))] [] _
  refine ev_getCS dJ0_isLatin1_aae02_0 g351 ?_
  refine ev_if_eq 17 dJ0_isLatin1_aae02_3 (by decide) (fun h3 => absurd h3 (by decide)) (fun h3 => ?_)
  refine ev_aload_n 0 dJ0_isLatin1_aae02_6 rfl rfl ?_
  refine ev_gfC hi dJ0_isLatin1_aae02_7 g1621 ?_
  refine ev_if_ne 17 dJ0_isLatin1_aae02_10 (by decide) (fun h10 => absurd rfl h10) (fun h10 => ?_)
  refine ev_iconst (nI 1) dJ0_isLatin1_aae02_13 rfl ?_
  refine ev_goto 18 dJ0_isLatin1_aae02_14 (by decide) ?_
  exact ev_ireturn dJ0_isLatin1_aae02_18 (Nat.le_of_ble_eq_true rfl) ⟨rfl, rfl⟩
set_option maxHeartbeats 1000000 in
theorem j_length (w : PW) {i : Nat} (hi : i < 5) : Ct mJ0_length_8abf5 [.ref (1000 + i)] w (d1 (some (.int (nI (ln5 i)))) w) nx := by
  refine ct_of 0 kJ0_length_8abf5.1 rfl (Nat.le_of_ble_eq_true rfl) (fun v u h => by obtain ⟨rfl, rfl⟩ := h; exact rfl) ?_
  show Ev _ _ _ 0 0 [(0, .ref (1000 + i))] [] _
  refine ev_aload_n 0 dJ0_length_8abf5_0 rfl rfl ?_
  refine ev_gfV hi dJ0_length_8abf5_1 g1620 ?_
  refine ev_alT hi dJ0_length_8abf5_4 ?_
  refine ev_aload_n 0 dJ0_length_8abf5_5 rfl rfl ?_
  refine ev_cT0 (j_coder _ hi) kJ0_coder_7d493 rfl g347 rfl hi rfl rfl dJ0_length_8abf5_6 ?_
  refine ev_ishr dJ0_length_8abf5_9 ?_
  refine ev_top (nI (ln5 i)) (ln5_sh i hi) ?_
  exact ev_ireturn dJ0_length_8abf5_10 (Nat.le_of_ble_eq_true rfl) ⟨rfl, rfl⟩
set_option maxHeartbeats 1000000 in
theorem j_isEmptyN (w : PW) {i : Nat} (h4 : i < 4) : Ct mJ0_isEmpty_aae02 [.ref (1000 + i)] w (d1 (some (.int (nI 0))) w) nx := by
  have hi : i < 5 := by omega
  refine ct_of 0 kJ0_isEmpty_aae02.1 rfl (Nat.le_of_ble_eq_true rfl) (fun v u h => by obtain ⟨rfl, rfl⟩ := h; exact rfl) ?_
  show Ev _ _ _ 0 0 [(0, .ref (1000 + i))] [] _
  refine ev_aload_n 0 dJ0_isEmpty_aae02_0 rfl rfl ?_
  refine ev_gfV hi dJ0_isEmpty_aae02_1 g1620 ?_
  refine ev_alT hi dJ0_isEmpty_aae02_4 ?_
  refine ev_if_ne 12 dJ0_isEmpty_aae02_5 (by decide) (fun h5 => ?_) (fun h5 => absurd h5 (ln5_0 i h4))
  refine ev_iconst (nI 0) dJ0_isEmpty_aae02_12 rfl ?_
  exact ev_ireturn dJ0_isEmpty_aae02_13 (Nat.le_of_ble_eq_true rfl) ⟨rfl, rfl⟩
set_option maxHeartbeats 1000000 in
theorem j_isEmpty4 (w : PW) : Ct mJ0_isEmpty_aae02 [.ref (1000 + 4)] w (d1 (some (.int (nI 1))) w) nx := by
  have hi : 4 < 5 := by omega
  refine ct_of 0 kJ0_isEmpty_aae02.1 rfl (Nat.le_of_ble_eq_true rfl) (fun v u h => by obtain ⟨rfl, rfl⟩ := h; exact rfl) ?_
  show Ev _ _ _ 0 0 [(0, .ref (1000 + 4))] [] _
  refine ev_aload_n 0 dJ0_isEmpty_aae02_0 rfl rfl ?_
  refine ev_gfV hi dJ0_isEmpty_aae02_1 g1620 ?_
  refine ev_alT hi dJ0_isEmpty_aae02_4 ?_
  refine ev_if_ne 12 dJ0_isEmpty_aae02_5 (by decide) (fun h5 => absurd (by decide) h5) (fun h5 => ?_)
  refine ev_iconst (nI 1) dJ0_isEmpty_aae02_8 rfl ?_
  refine ev_goto 13 dJ0_isEmpty_aae02_9 (by decide) ?_
  exact ev_ireturn dJ0_isEmpty_aae02_13 (Nat.le_of_ble_eq_true rfl) ⟨rfl, rfl⟩
set_option maxHeartbeats 1000000 in
theorem j_check3n (w : PW) {a n : Nat} (h : a < n) (hn : n < 2147483648) : Ct mJ3_checkIndex_8e157 [.int (nI a), .int (nI n), .null] w (d1 (some (.int (nI a))) w) nx := by
  refine ct_of 3 kJ3_checkIndex_8e157.1 rfl (Nat.le_of_ble_eq_true rfl) (fun v u h => by obtain ⟨rfl, rfl⟩ := h; exact rfl) ?_
  show Ev _ _ _ 0 0 [(0, .int (nI a)), (1, .int (nI n)), (2, .null)] [] _
  refine ev_iload_n 0 dJ3_checkIndex_8e157_0 rfl rfl ?_
  refine ev_if_lt 9 dJ3_checkIndex_8e157_1 (by decide) (fun h1 => absurd h1 (nI_pos (by omega))) (fun h1 => ?_)
  refine ev_iload_n 0 dJ3_checkIndex_8e157_4 rfl rfl ?_
  refine ev_iload_n 1 dJ3_checkIndex_8e157_5 rfl rfl ?_
  refine ev_icmp_lt 16 dJ3_checkIndex_8e157_6 (by decide) (fun h6 => ?_) (fun h6 => absurd (nI_lt h hn) h6)
  refine ev_iload_n 0 dJ3_checkIndex_8e157_16 rfl rfl ?_
  exact ev_ireturn dJ3_checkIndex_8e157_17 (Nat.le_of_ble_eq_true rfl) ⟨rfl, rfl⟩
set_option maxHeartbeats 1000000 in
theorem j_check3r (w : PW) {a n : Nat} (h : a < n) (hn : n < 2147483648) : Ct mJ3_checkIndex_8e157 [.int (nI a), .int (nI n), .ref 998] w (d1 (some (.int (nI a))) w) nx := by
  refine ct_of 3 kJ3_checkIndex_8e157.1 rfl (Nat.le_of_ble_eq_true rfl) (fun v u h => by obtain ⟨rfl, rfl⟩ := h; exact rfl) ?_
  show Ev _ _ _ 0 0 [(0, .int (nI a)), (1, .int (nI n)), (2, .ref 998)] [] _
  refine ev_iload_n 0 dJ3_checkIndex_8e157_0 rfl rfl ?_
  refine ev_if_lt 9 dJ3_checkIndex_8e157_1 (by decide) (fun h1 => absurd h1 (nI_pos (by omega))) (fun h1 => ?_)
  refine ev_iload_n 0 dJ3_checkIndex_8e157_4 rfl rfl ?_
  refine ev_iload_n 1 dJ3_checkIndex_8e157_5 rfl rfl ?_
  refine ev_icmp_lt 16 dJ3_checkIndex_8e157_6 (by decide) (fun h6 => ?_) (fun h6 => absurd (nI_lt h hn) h6)
  refine ev_iload_n 0 dJ3_checkIndex_8e157_16 rfl rfl ?_
  exact ev_ireturn dJ3_checkIndex_8e157_17 (Nat.le_of_ble_eq_true rfl) ⟨rfl, rfl⟩
theorem j_check3 (w : PW) {a n : Nat} (h : a < n) (hn : n < 2147483648) (v : Value) (hv : v = .null ∨ v = .ref 998) : Ct mJ3_checkIndex_8e157 [.int (nI a), .int (nI n), v] w (d1 (some (.int (nI a))) w) nx := by
  rcases hv with rfl | rfl
  · exact j_check3n w h hn
  · exact j_check3r w h hn
set_option maxHeartbeats 1000000 in
theorem j_check0 (w : PW) {a n : Nat} (h : a < n) (hn : n < 2147483648) : Ct mJ0_checkIndex_df160 [.int (nI a), .int (nI n)] w (d1 none w) nx := by
  refine ct_of 2 kJ0_checkIndex_df160.1 rfl (Nat.le_of_ble_eq_true rfl) (fun v u h => by obtain ⟨rfl, rfl⟩ := h; exact trivial) ?_
  show Ev _ _ _ 0 0 [(0, .int (nI a)), (1, .int (nI n))] [] _
  refine ev_iload_n 0 dJ0_checkIndex_df160_0 rfl rfl ?_
  refine ev_iload_n 1 dJ0_checkIndex_df160_1 rfl rfl ?_
  refine ev_getSI dJ0_checkIndex_df160_2 g367 (fun v hv => ?_)
  refine ev_cS3 (j_check3 _ h hn v hv) kJ3_checkIndex_8e157 rfl g369 rfl rfl dJ0_checkIndex_df160_5 ?_
  refine ev_pop dJ0_checkIndex_df160_8 rfl ?_
  exact ev_return dJ0_checkIndex_df160_9 (Nat.le_of_ble_eq_true rfl) ⟨rfl, rfl⟩
theorem ch5_b : ∀ i, i < 5 → ∀ a, a < 5 → a < ln5 i → ((by5.getD i []).getD a 0) &&& nI 255 = nI (ch5 i a) := by decide +kernel
theorem ch5_l : ∀ i, i < 5 → ∀ a, a < 5 → ch5 i a < 128 := by decide +kernel
theorem ch5_c : ∀ n, n < 128 → (nI n).toUInt32 % 65536 = UInt32.ofNat n ∧ ((nI n).toUInt32 % 65536).toInt32 = nI n := by decide +kernel
theorem ln5_in {i a : Nat} (h : a < ln5 i) (hi : i < 5) : vp_in (nI a) (([3, 5, 3, 1, 0] : List Nat).getD i 0) := vp_in_nI h (by have := ln5_s i hi; show ln5 i < _; omega)
theorem ch5_n : ∀ n, n < 128 → rtOK (some .char) (some (.int (nI n))) := fun n h => by
  show narrow .char (.int (nI n)) = .int (nI n)
  exact congrArg Value.int (ch5_c n h).2
set_option maxHeartbeats 1000000 in
theorem j_charAt1 (w : PW) {i a : Nat} (hi : i < 5) (ha : a < ln5 i) : Ct mJ1_charAt_3b067 [.ref (1010 + i), .int (nI a)] w (d1 (some (.int (nI (ch5 i a)))) w) nx := by
  have h5 := ln5_s i hi
  refine ct_of 2 kJ1_charAt_3b067.1 rfl (Nat.le_of_ble_eq_true rfl) (fun v u h => by obtain ⟨rfl, rfl⟩ := h; exact ch5_n _ (ch5_l i hi a (by have := ln5_s i hi; omega))) ?_
  show Ev _ _ _ 0 0 [(0, .ref (1010 + i)), (1, .int (nI a))] [] _
  refine ev_iload_n 1 dJ1_charAt_3b067_0 rfl rfl ?_
  refine ev_aload_n 0 dJ1_charAt_3b067_1 rfl rfl ?_
  refine ev_alT hi dJ1_charAt_3b067_2 ?_
  refine ev_kS2v (j_check0 _ (n := ln5 i) ha (by omega)) kJ0_checkIndex_df160 g364 rfl rfl dJ1_charAt_3b067_3 ?_
  refine ev_aload_n 0 dJ1_charAt_3b067_6 rfl rfl ?_
  refine ev_iload_n 1 dJ1_charAt_3b067_7 rfl rfl ?_
  refine ev_balT hi dJ1_charAt_3b067_8 (ln5_in ha hi) ?_
  refine ev_sipush (nI 255) dJ1_charAt_3b067_9 rfl ?_
  refine ev_iand dJ1_charAt_3b067_12 ?_
  refine ev_top (nI (ch5 i a)) (by rw [nI_clamp (by omega)]; exact ch5_b i hi a (by omega) ha) ?_
  refine ev_i2c dJ1_charAt_3b067_13 ?_
  refine ev_top (nI (ch5 i a)) (ch5_c _ (ch5_l i hi a (by omega))).2 ?_
  exact ev_ireturn dJ1_charAt_3b067_14 (Nat.le_of_ble_eq_true rfl) ⟨rfl, rfl⟩
set_option maxHeartbeats 1000000 in
theorem j_charAt (w : PW) {i a : Nat} (hi : i < 5) (ha : a < ln5 i) : Ct mJ0_charAt_5068e [.ref (1000 + i), .int (nI a)] w (d1 (some (.int (nI (ch5 i a)))) w) nx := by
  refine ct_of 1 kJ0_charAt_5068e.1 rfl (Nat.le_of_ble_eq_true rfl) (fun v u h => by obtain ⟨rfl, rfl⟩ := h; exact ch5_n _ (ch5_l i hi a (by have := ln5_s i hi; omega))) ?_
  show Ev _ _ _ 0 0 [(0, .ref (1000 + i)), (1, .int (nI a))] [] _
  refine ev_aload_n 0 dJ0_charAt_5068e_0 rfl rfl ?_
  refine ev_cT0 (j_isLatin1 _ hi) kJ0_isLatin1_aae02 rfl g357 rfl hi rfl rfl dJ0_charAt_5068e_1 ?_
  refine ev_if_eq 16 dJ0_charAt_5068e_4 (by decide) (fun h4 => absurd h4 (by decide)) (fun h4 => ?_)
  refine ev_aload_n 0 dJ0_charAt_5068e_7 rfl rfl ?_
  refine ev_gfV hi dJ0_charAt_5068e_8 g1620 ?_
  refine ev_iload_n 1 dJ0_charAt_5068e_11 rfl rfl ?_
  refine ev_cS2 (j_charAt1 _ hi ha) kJ1_charAt_3b067 rfl g361 rfl rfl dJ0_charAt_5068e_12 ?_
  exact ev_ireturn dJ0_charAt_5068e_15 (Nat.le_of_ble_eq_true rfl) ⟨rfl, rfl⟩
