/-! ===== the share and its bits, for class and reference ===== -/
theorem us_0 {b : Nat} (hb : 0 < b) (hb2 : b < 2 ^ 31) : FP.ddiv (FP.i2d (nI 0)) (FP.i2d (nI b)) = FP.dconst0 := by
  have hz : FP.Core.val64 (FP.i2d (nI 0)) = .fin false 0 (-1074) := by decide +kernel
  have hz0 : FP.Core.val64 FP.dconst0 = .fin false 0 (-1074) := by decide +kernel
  have hi : FP.i2d (nI b) = Vd b 0 := by
    refine Vd_of ?_
    rw [show FP.i2d = FP.Core.i2d from rfl, FP.Core.val64_i2d, nI_toInt hb2]
    show FP.Core.round FP.Core.b64 (.fin (decide ((b : Int) < 0)) (b : Int).natAbs 0) = _
    rw [decide_eq_false (by omega), Int.natAbs_natCast]
    rfl
  obtain ⟨b', r', e2, h2, f2⟩ := Vd_ex (c := b) (q := 0) (by omega) (by omega) (by omega)
  have hb' : 0 < b' := by
    rcases Nat.eq_zero_or_pos b' with z | z
    · rw [z, Nat.zero_mul] at f2
      have := Nat.mul_pos hb (Nat.two_pow_pos ((0 : Int) - -1074).toNat)
      omega
    · exact z
  have hv : FP.Core.val64 (FP.ddiv (FP.i2d (nI 0)) (FP.i2d (nI b))) = .fin false 0 (-1074) := by
    rw [show FP.ddiv = FP.Core.ddiv from rfl, FP.Core.val64_ddiv, hz, hi, e2]
    show (if b' = 0 then (if (0 : Nat) = 0 then FP.Core.Datum.nan else .inf (false != false)) else FP.Core.roundRatio FP.Core.b64 (false != false) 0 b' (-1074 - r')) = _
    rw [if_neg (by omega)]
    rfl
  refine FP.Core.val64_inj (by rw [hv]; exact FP.Core.Datum.noConfusion) ?_
  rw [hv, hz0]
