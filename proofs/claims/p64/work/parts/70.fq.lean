/-! ===== the share times the cover: near the debts ===== -/
theorem vf_of {x : UInt64} (h : FP.Core.val64 x ≠ .nan) : vf_n64 x := by
  unfold vf_n64
  rw [UInt64.le_iff_toNat_le, FP.Core.mask_toNat, show (0x7ff0000000000000 : UInt64).toNat = 9218868437227405312 by decide +kernel]
  exact (FP.Core.ne_nan x).mp h
theorem i2d_V {n : Nat} (hn : n < 2 ^ 31) : FP.i2d (nI n) = Vd n 0 := by
  refine Vd_of ?_
  rw [show FP.i2d = FP.Core.i2d from rfl, FP.Core.val64_i2d, nI_toInt hn]
  show FP.Core.round FP.Core.b64 (.fin (decide ((n : Int) < 0)) (n : Int).natAbs 0) = _
  rw [decide_eq_false (by omega), Int.natAbs_natCast]
  rfl
/-- a number of the format, by its value in units of the least -/
theorem Vd_z {c : Nat} {q : Int} (hc : c < 2 ^ 53) (h1 : -1074 ≤ q) (h2 : q ≤ 971) : ∃ c' q', FP.Core.val64 (Vd c q) = .fin false c' q' ∧ FP.Core.fits FP.Core.b64 (.fin false c' q') ∧ FP.Core.zmag FP.Core.b64 (.fin false c' q') = c * 2 ^ (q - -1074).toNat := by
  obtain ⟨c', q', e1, h3, e2⟩ := Vd_ex hc h1 h2
  have h := FP.Core.val64_fits (Vd c q)
  rw [e1] at h
  exact ⟨c', q', e1, h, e2⟩
theorem ddiv_V {a b : Nat} (hb : 0 < b) (ha2 : a < 2 ^ 31) (hb2 : b < 2 ^ 31) : FP.Core.val64 (FP.ddiv (Vd a 0) (Vd b 0)) = FP.Core.roundRatio FP.Core.b64 false a b 0 := by
  obtain ⟨a', p', e1, h1, f1⟩ := Vd_ex (c := a) (q := 0) (by omega) (by omega) (by omega)
  obtain ⟨b', r', e2, h2, f2⟩ := Vd_ex (c := b) (q := 0) (by omega) (by omega) (by omega)
  have hb' : 0 < b' := by
    rcases Nat.eq_zero_or_pos b' with z | z
    · rw [z, Nat.zero_mul] at f2
      have := Nat.mul_pos hb (Nat.two_pow_pos ((0 : Int) - -1074).toNat)
      omega
    · exact z
  rw [show FP.ddiv = FP.Core.ddiv from rfl, FP.Core.val64_ddiv, e1, e2]
  show (if b' = 0 then (if a' = 0 then FP.Core.Datum.nan else .inf (false != false)) else FP.Core.roundRatio FP.Core.b64 (false != false) a' b' (p' - r')) = _
  rw [if_neg (by omega)]
  show FP.Core.roundRatio FP.Core.b64 false a' b' (p' - r') = _
  refine FP.Core.roundRatio_congr hb' hb ?_
  have h := pw_eq (m := -1074) (a := p') (b := r') (A := a' * b) (B := a * b') h1 h2 ?_
  · rw [show (p' - r' - 0).toNat = (p' - r').toNat by simp, show (0 - (p' - r')).toNat = (r' - p').toNat by congr 1; omega]
    exact h
  · have pz := Nat.two_pow_pos ((0 : Int) - -1074).toNat
    generalize 2 ^ ((0 : Int) - -1074).toNat = Z at f1 f2 pz
    refine Nat.eq_of_mul_eq_mul_right pz ?_
    calc a' * b * 2 ^ (p' - -1074).toNat * Z = (a' * 2 ^ (p' - -1074).toNat) * (b * Z) := by ac_rfl
      _ = (a * Z) * (b' * 2 ^ (r' - -1074).toNat) := by rw [f1, f2]
      _ = a * b' * 2 ^ (r' - -1074).toNat * Z := by ac_rfl
theorem pw_0 : 2 ^ ((0 : Int) - -1074).toNat = 536870912 * 2 ^ 1045 := by
  rw [show ((0 : Int) - -1074).toNat = 29 + 1045 from rfl, Nat.pow_add]
theorem pw_1 : 2 ^ ((-1 : Int) - -1074).toNat = 268435456 * 2 ^ 1045 := by
  rw [show ((-1 : Int) - -1074).toNat = 28 + 1045 from rfl, Nat.pow_add]
theorem pw_29 : 2 ^ ((-29 : Int) - -1074).toNat = 2 ^ 1045 := rfl
/-- the share, in units -/
theorem sh_z {d c : Nat} (hd0 : 0 < d) (hd : d ≤ 8000000) (hc0 : 0 < c) (hc : c ≤ 3175992) : ∃ cx qx, FP.Core.val64 (FP.ddiv (Vd d 0) (Vd c 0)) = .fin false cx qx ∧ FP.Core.fits FP.Core.b64 (.fin false cx qx) ∧ FP.Core.zmag FP.Core.b64 (.fin false cx qx) * c ≤ (2 * d + 1) * (268435456 * 2 ^ 1045) ∧ (2 * d - 1) * (268435456 * 2 ^ 1045) ≤ FP.Core.zmag FP.Core.b64 (.fin false cx qx) * c := by
  have hv := ddiv_V (a := d) hc0 (by omega) (by omega)
  obtain ⟨c1, q1, -, -, -, -, e1, e2⟩ := Vd_share hd0 hc0 (by omega) (by omega)
  rw [i2d_V (by omega), i2d_V (by omega)] at e1
  rw [e1, e2] at hv
  rw [e1, e2]
  have hf := FP.Core.val64_fits (Vd c1 q1)
  rw [e2] at hf
  have hm1 := Nat.div_add_mod (d * 536870912) c
  have hm2 := Nat.mod_lt (d * 536870912) hc0
  have hm3 := Nat.div_le_self (d * 536870912) c
  have h53 : (2 : Nat) ^ 53 = 9007199254740992 := rfl
  generalize d * 536870912 / c = m at hm1 hm3
  generalize d * 536870912 % c = r at hm1 hm2
  obtain ⟨cu, qu, u1, u2, u3⟩ := Vd_z (c := m + 1) (q := -29) (by omega) (by omega) (by omega)
  obtain ⟨cd, qd, v1, v2, v3⟩ := Vd_z (c := m) (q := -29) (by omega) (by omega) (by omega)
  have hle := FP.Core.zmag_roundRatio_le FP.Core.good_b64 (s := false) (A := d) (B := c) (e := 0) (e0 := -1074) hc0 u2 FP.Core.Datum.noConfusion (by decide) (by decide)
  have hge := FP.Core.zmag_roundRatio_ge FP.Core.good_b64 (s := false) (A := d) (B := c) (e := 0) (e0 := -1074) hc0 v2 (by decide) (by decide)
  rw [← hv, u3] at hle
  rw [← hv, v3] at hge
  have z0 : (FP.Core.b64.qmin - -1074).toNat = 0 := by decide
  rw [z0, pw_29] at hle hge
  unfold FP.Core.inUnits at hle hge
  rw [pw_0] at hle hge
  refine ⟨c1, q1, rfl, hf, ?_⟩
  generalize FP.Core.zmag FP.Core.b64 (.fin false c1 q1) = X at hle hge ⊢
  have hP : 0 < 2 ^ 1045 := Nat.two_pow_pos 1045
  generalize 2 ^ 1045 = P at hle hge hP ⊢
  have hmc : c * (m + 1) = c * m + c := Nat.mul_succ c m
  have hle := hle (by
    calc d * (536870912 * P) = (d * 536870912) * P := by ac_rfl
      _ ≤ (c * (m + 1)) * P := Nat.mul_le_mul_right _ (by omega)
      _ = (m + 1) * P * 2 ^ 0 * c := by rw [Nat.pow_zero, Nat.mul_one]; ac_rfl)
  have hge := hge (by
    calc m * P * 2 ^ 0 * c = (c * m) * P := by rw [Nat.pow_zero, Nat.mul_one]; ac_rfl
      _ ≤ (d * 536870912) * P := Nat.mul_le_mul_right _ (by omega)
      _ = d * (536870912 * P) := by ac_rfl)
  refine ⟨?_, ?_⟩
  · calc X * c ≤ ((m + 1) * P) * c := Nat.mul_le_mul_right _ hle
      _ = (c * (m + 1)) * P := by ac_rfl
      _ ≤ ((2 * d + 1) * 268435456) * P := Nat.mul_le_mul_right _ (by omega)
      _ = (2 * d + 1) * (268435456 * P) := by ac_rfl
  · calc (2 * d - 1) * (268435456 * P) = ((2 * d - 1) * 268435456) * P := by ac_rfl
      _ ≤ (c * m) * P := Nat.mul_le_mul_right _ (by omega)
      _ = (m * P) * c := by ac_rfl
      _ ≤ X * c := Nat.mul_le_mul_right _ hge
theorem cmpI_g {a b : Int} (h : b < a) : compare a b = .gt := by
  simp only [compare, compareOfLessAndEq]
  rw [if_neg (by omega), if_neg (by omega)]
theorem cmpI_l {a b : Int} (h : a < b) : compare a b = .lt := by
  simp only [compare, compareOfLessAndEq]
  rw [if_pos h]
theorem cv_gt (o : CmpOp) : Op.cmpValue (some .gt) o = 1 := by cases o <;> rfl
/-- the share times the cover is a number near the debts -/
theorem sh_mul {d c : Nat} (hd0 : 0 < d) (hd : d ≤ 8000000) (hc0 : 0 < c) (hc : c ≤ 3175992) : vf_n64 (FP.dmul (FP.ddiv (Vd d 0) (Vd c 0)) (Vd c 0)) ∧ (∀ o, Op.cmpValue (FP.dcmp (FP.dmul (FP.ddiv (Vd d 0) (Vd c 0)) (Vd c 0)) (Vd (d - 1) 0)) o = 1) ∧ ∀ o, Op.cmpValue (FP.dcmp (FP.dmul (FP.ddiv (Vd d 0) (Vd c 0)) (Vd c 0)) (Vd (d + 1) 0)) o = -1 := by
  have h53 : (2 : Nat) ^ 53 = 9007199254740992 := rfl
  obtain ⟨cx, qx, x1, x2, x3, x4⟩ := sh_z hd0 hd hc0 hc
  obtain ⟨cc, qc, y1, y2, y3⟩ := Vd_z (c := c) (q := 0) (by omega) (by omega) (by omega)
  obtain ⟨cu, qu, u1, u2, u3⟩ := Vd_z (c := 2 * d + 1) (q := -1) (by omega) (by omega) (by omega)
  obtain ⟨cd, qd, v1, v2, v3⟩ := Vd_z (c := 2 * d - 1) (q := -1) (by omega) (by omega) (by omega)
  obtain ⟨ca, qa, a1, a2, a3⟩ := Vd_z (c := d - 1) (q := 0) (by omega) (by omega) (by omega)
  obtain ⟨cb, qb, b1, b2, b3⟩ := Vd_z (c := d + 1) (q := 0) (by omega) (by omega) (by omega)
  obtain ⟨p1, p2, p3⟩ := FP.Core.product_units x2 y2
  have hval : FP.Core.val64 (FP.dmul (FP.ddiv (Vd d 0) (Vd c 0)) (Vd c 0)) = FP.Core.round FP.Core.b64 (.fin false (cx * cc) (qx + qc)) := by
    rw [show FP.dmul = FP.Core.dmul from rfl, FP.Core.val64_dmul, x1, y1, p1]
    rfl
  have hnn : FP.Core.round FP.Core.b64 (.fin false (cx * cc) (qx + qc)) ≠ .nan := fun h => by
    have := FP.Core.round_nan.mp h
    exact FP.Core.Datum.noConfusion this
  have hfr := FP.Core.round_fits FP.Core.good_b64 (.fin false (cx * cc) (qx + qc))
  have hle := FP.Core.zval_round_le FP.Core.good_b64 (s := false) (c := cx * cc) (q := qx + qc) (e0 := 2 * FP.Core.b64.qmin) u2 FP.Core.Datum.noConfusion (by decide) p2
  have hge := FP.Core.zval_round_ge FP.Core.good_b64 (s := false) (c := cx * cc) (q := qx + qc) (e0 := 2 * FP.Core.b64.qmin) v2 FP.Core.Datum.noConfusion (by decide) p2
  have zv : ∀ (c' : Nat) (q' : Int), FP.Core.zval FP.Core.b64 (.fin false c' q') = ((FP.Core.zmag FP.Core.b64 (.fin false c' q') : Nat) : Int) := fun _ _ => rfl
  have sg : ∀ n : Nat, FP.Core.signed false n = (n : Int) := fun _ => rfl
  rw [zv, sg, p3, u3, pw_1, show (FP.Core.b64.qmin - 2 * FP.Core.b64.qmin).toNat = ((0 : Int) - -1074).toNat by decide, y3, pw_0, ← Int.natCast_mul] at hle
  rw [zv, sg, p3, v3, pw_1, show (FP.Core.b64.qmin - 2 * FP.Core.b64.qmin).toNat = ((0 : Int) - -1074).toNat by decide, y3, pw_0, ← Int.natCast_mul] at hge
  have hP : 0 < 2 ^ 1045 := Nat.two_pow_pos 1045
  rw [pw_0] at a3 b3
  generalize hPe : 2 ^ 1045 = P at hle hge hP x3 x4 a3 b3
  generalize FP.Core.zmag FP.Core.b64 (.fin false cx qx) = X at hle hge x3 x4
  have hle := hle (by
    refine Int.ofNat_le.mpr ?_
    calc X * (c * (536870912 * P)) = (X * c) * (536870912 * P) := by ac_rfl
      _ ≤ ((2 * d + 1) * (268435456 * P)) * (536870912 * P) := Nat.mul_le_mul_right _ x3)
  have hge := hge (by
    refine Int.ofNat_le.mpr ?_
    calc ((2 * d - 1) * (268435456 * P)) * (536870912 * P) ≤ (X * c) * (536870912 * P) := Nat.mul_le_mul_right _ x4
      _ = X * (c * (536870912 * P)) := by ac_rfl)
  have hA : FP.Core.zval FP.Core.b64 (.fin false ca qa) = (((d - 1) * (536870912 * P) : Nat) : Int) := by rw [zv, a3]
  have hB : FP.Core.zval FP.Core.b64 (.fin false cb qb) = (((d + 1) * (536870912 * P) : Nat) : Int) := by rw [zv, b3]
  have n1 : (d - 1) * (536870912 * P) < (2 * d - 1) * (268435456 * P) := by
    calc (d - 1) * (536870912 * P) = ((d - 1) * 536870912) * P := by ac_rfl
      _ < ((2 * d - 1) * 268435456) * P := Nat.mul_lt_mul_of_pos_right (by omega) hP
      _ = (2 * d - 1) * (268435456 * P) := by ac_rfl
  have n2 : (2 * d + 1) * (268435456 * P) < (d + 1) * (536870912 * P) := by
    calc (2 * d + 1) * (268435456 * P) = ((2 * d + 1) * 268435456) * P := by ac_rfl
      _ < ((d + 1) * 536870912) * P := Nat.mul_lt_mul_of_pos_right (by omega) hP
      _ = (d + 1) * (536870912 * P) := by ac_rfl
  refine ⟨vf_of (by rw [hval]; exact hnn), fun o => ?_, fun o => ?_⟩
  · have e : FP.dcmp (FP.dmul (FP.ddiv (Vd d 0) (Vd c 0)) (Vd c 0)) (Vd (d - 1) 0) = some .gt := by
      show FP.Core.order (FP.Core.val64 (FP.dmul (FP.ddiv (Vd d 0) (Vd c 0)) (Vd c 0))) (FP.Core.val64 (Vd (d - 1) 0)) = _
      rw [hval, a1, FP.Core.order_zval FP.Core.good_b64 hfr a2 hnn FP.Core.Datum.noConfusion, hA]
      exact congrArg some (cmpI_g (Int.lt_of_lt_of_le (Int.ofNat_lt.mpr n1) hge))
    rw [e, cv_gt]
  · have e : FP.dcmp (FP.dmul (FP.ddiv (Vd d 0) (Vd c 0)) (Vd c 0)) (Vd (d + 1) 0) = some .lt := by
      show FP.Core.order (FP.Core.val64 (FP.dmul (FP.ddiv (Vd d 0) (Vd c 0)) (Vd c 0))) (FP.Core.val64 (Vd (d + 1) 0)) = _
      rw [hval, b1, FP.Core.order_zval FP.Core.good_b64 hfr b2 hnn FP.Core.Datum.noConfusion, hB]
      exact congrArg some (cmpI_l (Int.lt_of_le_of_lt hle (Int.ofNat_lt.mpr n2)))
    rw [e, cv_l]
/-- without debts -/
theorem sh_mul0 {c : Nat} (hc : c < 2 ^ 31) : FP.dmul FP.dconst0 (Vd c 0) = FP.dconst0 := by
  have z : FP.Core.val64 FP.dconst0 = .fin false 0 (-1074) := by decide +kernel
  obtain ⟨cc, qc, y1, y2, y3⟩ := Vd_z (c := c) (q := 0) (by omega) (by omega) (by omega)
  have hv : FP.Core.val64 (FP.dmul FP.dconst0 (Vd c 0)) = .fin false 0 (-1074) := by
    rw [show FP.dmul = FP.Core.dmul from rfl, FP.Core.val64_dmul, z, y1]
    show FP.Core.roundRatio FP.Core.b64 false (0 * cc) 1 (-1074 + qc) = _
    rw [Nat.zero_mul]
    rfl
  exact FP.Core.val64_inj (by rw [hv]; exact FP.Core.Datum.noConfusion) (hv.trans z.symm)
theorem sh_n0 : vf_n64 FP.dconst0 := vf_of (by decide +kernel)
theorem sh_m1 (o : CmpOp) : Op.cmpValue (FP.dcmp FP.dconst0 (FP.i2d (nI 0 - nI 1))) o = 1 := by
  have e : FP.dcmp FP.dconst0 (FP.i2d (nI 0 - nI 1)) = some .gt := by decide +kernel
  rw [e, cv_gt]
theorem sh_p1 (o : CmpOp) : Op.cmpValue (FP.dcmp FP.dconst0 (FP.i2d (nI 0 + nI 1))) o = -1 := by
  have e : FP.dcmp FP.dconst0 (FP.i2d (nI 0 + nI 1)) = some .lt := by decide +kernel
  rw [e, cv_l]
/-- the share as the house tells it -/
theorem use_n {σ : Nat → Int32} (h : INV σ) : ¬ cvS σ 8 = 0 → vf_n64 (useD σ) := by
  intro hc
  obtain ⟨D, hD, eD⟩ := dbS_n h 8 (Nat.le_refl 8)
  obtain ⟨C, hC, eC⟩ := cvS_n h 8 (Nat.le_refl 8)
  have hC0 : 0 < C := by
    rcases Nat.eq_zero_or_pos C with z | z
    · subst z; exact absurd eC hc
    · exact z
  unfold useD
  rw [eD, eC, i2d_V (by omega), i2d_V (by omega)]
  refine vf_of ?_
  rw [ddiv_V hC0 (by omega) (by omega)]
  exact FP.Core.roundRatio_ne_nan _ _ _ _ _
theorem use_b {σ : Nat → Int32} (h : INV σ) (hc : ¬ cvS σ 8 = 0) : vf_n64 (FP.dmul (usS σ) (FP.i2d (cvS σ 8))) ∧ (∀ o, Op.cmpValue (FP.dcmp (FP.dmul (usS σ) (FP.i2d (cvS σ 8))) (FP.i2d (dbS σ 8 - nI 1))) o = 1) ∧ ∀ o, Op.cmpValue (FP.dcmp (FP.dmul (usS σ) (FP.i2d (cvS σ 8))) (FP.i2d (dbS σ 8 + nI 1))) o = -1 := by
  obtain ⟨D, hD, eD⟩ := dbS_n h 8 (Nat.le_refl 8)
  obtain ⟨C, hC, eC⟩ := cvS_n h 8 (Nat.le_refl 8)
  have hC0 : 0 < C := by
    rcases Nat.eq_zero_or_pos C with z | z
    · subst z; exact absurd eC hc
    · exact z
  unfold usS
  rw [if_neg hc]
  unfold useD
  rw [eD, eC]
  rcases Nat.eq_zero_or_pos D with z | z
  · subst z
    rw [us_0 hC0 (by omega), i2d_V (n := C) (by omega), sh_mul0 (by omega)]
    exact ⟨sh_n0, sh_m1, sh_p1⟩
  · have e1 : nI D - nI 1 = nI (D - 1) := by
      obtain ⟨k, rfl⟩ : ∃ k, D = k + 1 := ⟨D - 1, by omega⟩
      rw [← nI_add, Int32.add_sub_cancel]; rfl
    rw [e1, nI_add, i2d_V (n := D) (by omega), i2d_V (n := C) (by omega), i2d_V (n := D - 1) (by omega), i2d_V (n := D + 1) (by omega)]
    exact sh_mul z (by omega) hC0 (by omega)
theorem use_0 {σ : Nat → Int32} (hc : cvS σ 8 = 0) : usS σ = FP.dconst0 := if_pos hc
