/-! ===== the start ===== -/
theorem kn_start {s : State} {args : Array Value} (hts : ∀ w ∈ lw_tbl, w.before args s = true) : ∃ (dC : Nat → ClassId) (dI : Nat → Nat → Nat) (dA : Nat → ClassId), va_K (dC, dI) vwC8 (tyT dA) s := by
  have hgw : ∀ w ∈ Gw, w.before args s = true := fun w h => hts w (Gw_in w h)
  obtain ⟨c0, i0, h0⟩ := u_known (C := RX0) (T := TX0) (N := 19) (n := 19) hgw inGX0 (hgw _ g163)
  obtain ⟨c1, i1, h1⟩ := u_known (C := RX1) (T := TX1) (N := 8) (n := 8) hgw inGX1 (hgw _ g86)
  obtain ⟨c2, i2, h2⟩ := u_known (C := RX2) (T := TX2) (N := 8) (n := 8) hgw inGX2 (hgw _ g124)
  obtain ⟨c3, i3, h3⟩ := u_known (C := RX3) (T := TX3) (N := 9) (n := 9) hgw inGX3 (hgw _ g78)
  obtain ⟨c4, i4, h4⟩ := u_known (C := RX4) (T := TX4) (N := 12) (n := 12) hgw inGX4 (hgw _ g1112)
  obtain ⟨c5, i5, h5⟩ := u_known (C := "java/lang/IndexOutOfBoundsException") (T := TX9) (N := 0) (n := 6) hgw (fun w h => absurd h List.not_mem_nil) (hgw _ g635)
  obtain ⟨c6, i6, h6⟩ := u_known (C := "java/lang/IllegalArgumentException") (T := TX9) (N := 0) (n := 6) hgw (fun w h => absurd h List.not_mem_nil) (hgw _ g701)
  obtain ⟨c7, i7, h7⟩ := u_known (C := "java/lang/IllegalStateException") (T := TX9) (N := 0) (n := 6) hgw (fun w h => absurd h List.not_mem_nil) (hgw _ g764)
  obtain ⟨aI, kI, pI, eI1, eI2, eI3⟩ := Cond.arrayClass_spec (type := .int) (hgw _ g122)
  obtain ⟨aZ, kZ, pZ, eZ1, eZ2, eZ3⟩ := Cond.arrayClass_spec (type := .boolean) (hgw _ g255)
  obtain ⟨aJ, kJ, pJ, eJ1, eJ2, eJ3⟩ := Cond.arrayClass_spec (type := .long) (hgw _ g1618)
  obtain ⟨pQ, aQ, kQ, eQ0, -, eQ2, eQ3, eQ4⟩ := Cond.arrayOver_spec (n := RX0) (hts (.arrayOver (.object RX0)) (by decide +kernel))
  refine ⟨fun k => match k with | 0 => c0 | 1 => c1 | 2 => c2 | 3 => c3 | 4 => c4 | 5 => c5 | 6 => c6 | _ => c7, fun k => match k with | 0 => i0 | 1 => i1 | 2 => i2 | 3 => i3 | 4 => i4 | 5 => i5 | 6 => i6 | _ => i7, fun k => match k with | 0 => aI | 1 => aZ | 2 => aJ | _ => aQ, fun k q hq => ?_, fun k q hq => ?_⟩
  · match k, hq with
    | 0, hq => cases hq; exact h0
    | 1, hq => cases hq; exact h1
    | 2, hq => cases hq; exact h2
    | 3, hq => cases hq; exact h3
    | 4, hq => cases hq; exact h4
    | 5, hq => cases hq; exact h5
    | 6, hq => cases hq; exact h6
    | 7, hq => cases hq; exact h7
    | k + 8, hq => simp [vwC8] at hq
  · match k, hq with
    | 0, hq => cases hq; exact ⟨fun n z => ⟨(fun k h => by cases h), kI, eI2, pI, eI3⟩, eI1⟩
    | 1, hq => cases hq; exact ⟨fun n z => ⟨(fun k h => by cases h), kZ, eZ2, pZ, eZ3⟩, eZ1⟩
    | 2, hq => cases hq; exact ⟨fun n z => ⟨(fun k h => by cases h), kJ, eJ2, pJ, eJ3⟩, eJ1⟩
    | 3, hq => cases hq; exact ⟨fun n z => ⟨(fun k h => by cases h), kQ, eQ2, pQ, eQ3⟩, kQ, pQ, eQ2, eQ3, eQ0, eQ4⟩
    | k + 4, hq => simp [tyT] at hq
abbrev fl9 : List Cond := flatC (Jvm.Cond.and given_1 narrow_1)
abbrev tm9 (i : Nat) : Term := Term.string RX1 ((tx5.getD i (0, "")).1)
abbrev ln9 : List Nat := [3, 5, 3, 1, 0]
abbrev va9 (i : Nat) : Term := .field (tm9 i) "java/lang/String" "value" "[B"
theorem tx_start {s : State} {args : Array Value} {A : Nat → Prop} (hfl : ∀ c ∈ fl9, c.before args s = true) (hA : ∀ a : Nat, a < s.heap.size → ¬ A a) : ∃ adK adV : Nat → Nat, vk_S 5 ln9 by5 adK adV A s s.heap ∧ ∀ i : Nat, i < 5 → (tm9 i).eval args s none [] s = some (.ref (adK i)) := by
  refine vk_Sof (tm := tm9) (by decide +kernel) (fun i hi => hfl _ ((by decide +kernel : ∀ i, i < 5 → Cond.exactly (tm9 i) "java/lang/String" ∈ fl9) i hi)) (fun i hi => hfl _ ((by decide +kernel : ∀ i, i < 5 → Cond.eq (.field (tm9 i) "java/lang/String" "coder" "B") (.int 0) ∈ fl9) i hi)) (fun i hi => hfl _ ((by decide +kernel : ∀ i, i < 5 → Cond.arrayOf (va9 i) .byte ∈ fl9) i hi)) (fun i hi => hfl _ ((by decide +kernel : ∀ i, i < 5 → Cond.eq (.length (va9 i)) (.int (Int32.ofNat (ln9.getD i 0))) ∈ fl9) i hi)) (fun i hi j hj => hfl _ ((by decide +kernel : ∀ i, i < 5 → ∀ j, j < ln9.getD i 0 → Cond.eq (.elem (va9 i) (.int (Int32.ofNat j))) (.int ((by5.getD i []).getD j 0)) ∈ fl9) i hi j hj)) (fun i j hi hj hij => ?_) hA
  rcases (by decide +kernel : ∀ i, i < 5 → ∀ j, j < 5 → i ≠ j → Cond.not (Cond.eq (tm9 i) (tm9 j)) ∈ fl9 ∨ Cond.not (Cond.eq (tm9 j) (tm9 i)) ∈ fl9) i hi j hj hij with h | h
  · exact Or.inl (hfl _ h)
  · exact Or.inr (hfl _ h)
/-- where the texts lie, the formatter, the script -/
def as9 (b f : Nat) (adK adV : Nat → Nat) : Nat → Nat := fun j => if j = 999 then b else if j < 999 then f else if j < 1010 then adK (j - 1000) else adV (j - 1010)
theorem gx_start {s : State} {args : Array Value} {A : Nat → Prop} (b : Nat) (hts : ∀ w ∈ lw_tbl, w.before args s = true) (hfl : ∀ c ∈ fl9, c.before args s = true) (hA : ∀ a : Nat, a < s.heap.size → ¬ A a) : ∃ as : Nat → Nat, as 999 = b ∧ GX as A s s.heap := by
  obtain ⟨adK, adV, hS, hev⟩ := tx_start (A := A) hfl hA
  have hnw : ∀ w : Cond, w ∈ lw_tbl → w.onTables = true → va_Nw w s := fun w h ho => va_Nw.of ho (hts w h)
  have hf : ∃ f : Nat, ∃ v : Value, (v = .null ∨ v = .ref 998) ∧ va_Z "jdk/internal/util/Preconditions" "SIOOBE_FORMATTER" "Ljava/util/function/BiFunction;" (em (as9 b f adK adV) v) A s s.heap := by
    rcases va_Zqof (C := "jdk/internal/util/Preconditions") (n := "SIOOBE_FORMATTER") (d := "Ljava/util/function/BiFunction;") (hts _ (by decide +kernel)) (hts _ (by decide +kernel)) (hfl _ (by decide +kernel)) hA with h | ⟨t, h⟩
    · exact ⟨0, .null, Or.inl rfl, h⟩
    · exact ⟨t, .ref 998, Or.inr rfl, h⟩
  obtain ⟨f, hf⟩ := hf
  have e1 : ∀ i, i < 5 → as9 b f adK adV (1000 + i) = adK i := fun i hi => by
    unfold as9
    rw [if_neg (by omega), if_neg (by omega), if_pos (by omega)]
    exact congrArg adK (Nat.add_sub_cancel_left 1000 i)
  have e2 : ∀ i, i < 5 → as9 b f adK adV (1010 + i) = adV i := fun i hi => by
    unfold as9
    rw [if_neg (by omega), if_neg (by omega), if_neg (by omega)]
    exact congrArg adV (Nat.add_sub_cancel_left 1010 i)
  refine ⟨as9 b f adK adV, if_pos rfl, ⟨hnw _ (by decide +kernel) rfl, hnw _ (by decide +kernel) rfl, hnw _ (by decide +kernel) rfl, hnw _ (by decide +kernel) rfl, hnw _ (by decide +kernel) rfl⟩, fun w hw => hnw w ((by decide +kernel : ∀ w ∈ bd9, w ∈ lw_tbl) w hw) ((by decide +kernel : ∀ w ∈ bd9, w.onTables = true) w hw), ⟨va_Nc.of (hfl _ (by decide +kernel)), va_Nc.of (hfl _ (by decide +kernel)), va_Nc.of (hfl _ (by decide +kernel))⟩, vx_Zqof (hts _ (by decide +kernel)) (hts _ (by decide +kernel)) (hfl _ (by decide +kernel)) hA, vx_Zqof (hts _ (by decide +kernel)) (hts _ (by decide +kernel)) (hfl _ (by decide +kernel)) hA, va_Zof (hts _ (by decide +kernel)) (hts _ (by decide +kernel)) (va_eqi (hfl _ (by decide +kernel))) hA, hf, ⟨fun i hi => ?_, fun i j hi hj h => ?_⟩, fun i hi => ?_⟩
  · have h := hS.1 i hi
    show va_O "java/lang/String" (as9 b f adK adV (1000 + i)) A s s.heap ∧ va_OF "java/lang/String" "coder" "B" (.int 0) (as9 b f adK adV (1000 + i)) A s s.heap ∧ va_OF "java/lang/String" "value" "[B" (.ref (as9 b f adK adV (1010 + i))) (as9 b f adK adV (1000 + i)) A s s.heap ∧ va_T .byte (as9 b f adK adV (1010 + i)) _ _ A s s.heap
    rw [e1 i hi, e2 i hi]
    exact h
  · have h : as9 b f adK adV (1000 + i) = as9 b f adK adV (1000 + j) := h
    rw [e1 i hi, e1 j hj] at h
    exact hS.2 i j hi hj h
  · rw [e1 i hi]
    exact vk_R.of (hts _ ((by decide +kernel : ∀ i, i < 5 → Cond.stringRef RX1 ((tx5.getD i (0, "")).1) ((tx5.getD i (0, "")).2) ∈ lw_tbl) i hi)) (hev i hi)
