/-! ===== the start ===== -/
theorem kn_start {s : State} {args : Array Value} (hts : ∀ w ∈ lw_tbl, w.before args s = true) : ∃ (dC : Nat → ClassId) (dI : Nat → Nat → Nat) (dA : Nat → ClassId), va_K (dC, dI) vwC8 (tyT dA) s := by
  have hgw : ∀ w ∈ Gw, w.before args s = true := fun w h => hts w (Gw_in w h)
  obtain ⟨c0, i0, h0⟩ := u_known (C := RX0) (T := TX0) (N := 19) (n := 19) hgw inGX0 (hgw _ g89)
  obtain ⟨c1, i1, h1⟩ := u_known (C := RX1) (T := TX1) (N := 8) (n := 8) hgw inGX1 (hgw _ g25)
  obtain ⟨c2, i2, h2⟩ := u_known (C := RX2) (T := TX2) (N := 8) (n := 8) hgw inGX2 (hgw _ g50)
  obtain ⟨c3, i3, h3⟩ := u_known (C := RX3) (T := TX3) (N := 9) (n := 9) hgw inGX3 (hgw _ g17)
  obtain ⟨aI, kI, pI, eI1, eI2, eI3⟩ := Cond.arrayClass_spec (type := .int) (hgw _ g48)
  obtain ⟨aZ, kZ, pZ, eZ1, eZ2, eZ3⟩ := Cond.arrayClass_spec (type := .boolean) (hgw _ g181)
  obtain ⟨pQ, aQ, kQ, eQ0, -, eQ2, eQ3, eQ4⟩ := Cond.arrayOver_spec (n := RX0) (hts (.arrayOver (.object RX0)) (by decide +kernel))
  refine ⟨fun k => match k with | 0 => c0 | 1 => c1 | 2 => c2 | _ => c3, fun k => match k with | 0 => i0 | 1 => i1 | 2 => i2 | _ => i3, fun k => match k with | 0 => aI | 1 => aZ | 2 => aI | _ => aQ, fun k q hq => ?_, fun k q hq => ?_⟩
  · match k, hq with
    | 0, hq => cases hq; exact h0
    | 1, hq => cases hq; exact h1
    | 2, hq => cases hq; exact h2
    | 3, hq => cases hq; exact h3
    | k + 4, hq => simp [vwC8] at hq
  · match k, hq with
    | 0, hq => cases hq; exact ⟨fun n z => ⟨(fun k h => by cases h), kI, eI2, pI, eI3⟩, eI1⟩
    | 1, hq => cases hq; exact ⟨fun n z => ⟨(fun k h => by cases h), kZ, eZ2, pZ, eZ3⟩, eZ1⟩
    | 2, hq => cases hq; exact ⟨fun n z => ⟨(fun k h => by cases h), kI, eI2, pI, eI3⟩, eI1⟩
    | 3, hq => cases hq; exact ⟨fun n z => ⟨(fun k h => by cases h), kQ, eQ2, pQ, eQ3⟩, kQ, pQ, eQ2, eQ3, eQ0, eQ4⟩
    | k + 4, hq => simp [tyT] at hq
theorem gx_start {s : State} {args : Array Value} {A : Nat → Prop} (b : Nat) (hts : ∀ w ∈ lw_tbl, w.before args s = true) : ∃ as : Nat → Nat, as 999 = b ∧ GX as A s s.heap := by
  have hnw : ∀ w : Cond, w ∈ lw_tbl → w.onTables = true → va_Nw w s := fun w h ho => va_Nw.of ho (hts w h)
  exact ⟨fun _ => b, rfl, ⟨hnw _ (by decide +kernel) rfl, hnw _ (by decide +kernel) rfl, hnw _ (by decide +kernel) rfl, hnw _ (by decide +kernel) rfl, hnw _ (by decide +kernel) rfl⟩, rfl, Iff.rfl, rfl⟩
