/-! ===== the share and its bits, for class and reference ===== -/
theorem us_0 {b : Nat} (hb : 0 < b) (hb2 : b < 2 ^ 31) : FP.ddiv (FP.i2d (nI 0)) (FP.i2d (nI b)) = FP.dconst0 := by
  have hz : FP.Core.val64 (FP.i2d (nI 0)) = .fin false 0 (-1074) := by decide +kernel
  have hz0 : FP.Core.val64 FP.dconst0 = .fin false 0 (-1074) := by decide +kernel
  have hi : FP.i2d (nI b) = Vd b 0 := by
    refine Vd_of ?_
    rw [show FP.i2d = FP.Core.i2d from rfl, FP.Core.val64_i2d, nI_toInt hb2]
    show FP.Core.round FP.Core.b64 (.fin (decide ((b : Int) < 0)) (b : Int).natAbs 0) = _
    rw [decide_eq_false (by omega), Int.natAbs_natCast]
    rfl
  obtain ⟨b', r', e2, h2, f2⟩ := Vd_ex (c := b) (q := 0) (by omega) (by omega) (by omega)
  have hb' : 0 < b' := by
    rcases Nat.eq_zero_or_pos b' with z | z
    · rw [z, Nat.zero_mul] at f2
      have := Nat.mul_pos hb (Nat.two_pow_pos ((0 : Int) - -1074).toNat)
      omega
    · exact z
  have hv : FP.Core.val64 (FP.ddiv (FP.i2d (nI 0)) (FP.i2d (nI b))) = .fin false 0 (-1074) := by
    rw [show FP.ddiv = FP.Core.ddiv from rfl, FP.Core.val64_ddiv, hz, hi, e2]
    show (if b' = 0 then (if (0 : Nat) = 0 then FP.Core.Datum.nan else .inf (false != false)) else FP.Core.roundRatio FP.Core.b64 (false != false) 0 b' (-1074 - r')) = _
    rw [if_neg (by omega)]
    rfl
  refine FP.Core.val64_inj (by rw [hv]; exact FP.Core.Datum.noConfusion) ?_
  rw [hv, hz0]
/-- what both say of a share's bits -/
def BitsOK (x : UInt64) (B : Int64) : Prop := (∀ w : PW, Ct mX3_bitsOf [.double x] w (d1 (some (.long B)) w) nx) ∧ (∀ w : PW, Ct mX4_bitsOf [.double x, .int (nI 52), .int (nI 1023)] w (d1 (some (.long B)) w) nx)
theorem bits_0 : BitsOK FP.dconst0 (lN 0) := ⟨c3_bits0, c4_bits0⟩
theorem us_all {a b : Nat} (ha : a < 2 ^ 31) (hb : 0 < b) (hb2 : b < 2 ^ 31) : vf_n64 (FP.ddiv (FP.i2d (nI a)) (FP.i2d (nI b))) ∧ ∃ B, BitsOK (FP.ddiv (FP.i2d (nI a)) (FP.i2d (nI b))) B := by
  rcases Nat.eq_zero_or_pos a with z | z
  · subst z
    rw [us_0 hb hb2]
    exact ⟨by unfold vf_n64; decide +kernel, _, bits_0⟩
  · obtain ⟨c, q, h1, h2, h3, h4, e, -⟩ := Vd_share z hb ha hb2
    rw [e]
    refine ⟨Vd_nn h2 (by omega) (by omega), bsN (c - 4503599627370496) (q + 92).toNat, ?_⟩
    have e2 : Vd c q = Vs (c - 4503599627370496) (q + 92).toNat := by
      unfold Vs
      rw [show 4503599627370496 + (c - 4503599627370496) = c by omega, show (((q + 92).toNat : Nat) : Int) - 92 = q by omega]
    rw [e2]
    exact ⟨fun w => c3_bitsV w (by omega) (by omega) (by omega), fun w => c4_bitsV w (by omega) (by omega) (by omega)⟩
