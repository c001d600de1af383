/-! ===== doubles: shares and their bits ===== -/
theorem pw_eq {A B : Nat} {a b m : Int} (ha : m ≤ a) (hb : m ≤ b) (h : A * 2 ^ (a - m).toNat = B * 2 ^ (b - m).toNat) : A * 2 ^ (a - b).toNat = B * 2 ^ (b - a).toNat := by
  rcases Int.le_total a b with q | q
  · have e1 : (b - m).toNat = (b - a).toNat + (a - m).toNat := by omega
    rw [e1, Nat.pow_add, ← Nat.mul_assoc] at h
    have h2 := Nat.eq_of_mul_eq_mul_right (Nat.two_pow_pos _) h
    rw [h2, show (a - b).toNat = 0 by omega, Nat.pow_zero, Nat.mul_one]
  · have e1 : (a - m).toNat = (a - b).toNat + (b - m).toNat := by omega
    rw [e1, Nat.pow_add, ← Nat.mul_assoc] at h
    have h2 := Nat.eq_of_mul_eq_mul_right (Nat.two_pow_pos _) h
    rw [h2, show (b - a).toNat = 0 by omega, Nat.pow_zero, Nat.mul_one]
def Vd (c : Nat) (q : Int) : UInt64 := FP.Core.of64 (FP.Core.round FP.Core.b64 (.fin false c q))
theorem Vd_val (c : Nat) (q : Int) : FP.Core.val64 (Vd c q) = FP.Core.round FP.Core.b64 (.fin false c q) := FP.Core.val64_of64 (FP.Core.round_fits FP.Core.good_b64 _)
theorem Vd_ex {c : Nat} {q : Int} (hc : c < 2 ^ 53) (h1 : -1074 ≤ q) (h2 : q ≤ 971) : ∃ c' q', FP.Core.val64 (Vd c q) = .fin false c' q' ∧ -1074 ≤ q' ∧ c' * 2 ^ (q' - -1074).toNat = c * 2 ^ (q - -1074).toNat := by
  obtain ⟨c', q', e1, e2⟩ := FP.Core.round_exact FP.Core.good_b64 false hc h1 h2
  refine ⟨c', q', (Vd_val c q).trans e1, ?_, e2⟩
  have hf := FP.Core.round_fits FP.Core.good_b64 (.fin false c q)
  rw [e1] at hf
  exact hf.2.1
theorem Vd_of {x : UInt64} {c : Nat} {q : Int} (h : FP.Core.val64 x = FP.Core.roundRatio FP.Core.b64 false c 1 q) : x = Vd c q := by
  refine FP.Core.val64_inj ?_ (h.trans (Vd_val c q).symm)
  rw [h]
  exact FP.Core.roundRatio_ne_nan _ _ _ _ _
theorem two_val : FP.Core.val64 4611686018427387904 = .fin false (2 ^ 52) (-51) := by decide +kernel
theorem one_val : FP.Core.val64 FP.dconst1 = .fin false (2 ^ 52) (-52) := by decide +kernel
theorem p52_val : FP.Core.val64 4841369599423283200 = .fin false (2 ^ 52) 0 := by decide +kernel
/-- times 2^k -/
theorem Vd_mul {c : Nat} {q : Int} (hc : c < 2 ^ 53) (h1 : -1074 ≤ q) (h2 : q ≤ 971) {y : UInt64} {k : Nat} (hy : FP.Core.val64 y = .fin false (2 ^ 52) ((k : Int) - 52)) : FP.dmul (Vd c q) y = Vd c (q + k) := by
  obtain ⟨c', q', e1, h3, e2⟩ := Vd_ex hc h1 h2
  refine Vd_of ?_
  rw [show FP.dmul = FP.Core.dmul from rfl, FP.Core.val64_dmul, e1, hy]
  show FP.Core.roundRatio FP.Core.b64 false (c' * 2 ^ 52) 1 (q' + ((k : Int) - 52)) = _
  refine FP.Core.roundRatio_congr (by decide) (by decide) ?_
  rw [Nat.mul_one, Nat.mul_one]
  have h := pw_eq (m := -1074 - 52) (a := q' + ((k : Int) - 52)) (b := q + k) (A := c' * 2 ^ 52) (B := c) (by omega) (by omega) ?_
  · exact h
  · rw [show (q' + ((k : Int) - 52) - (-1074 - 52)).toNat = (q' - -1074).toNat + k by omega, show (q + (k : Int) - (-1074 - 52)).toNat = (q - -1074).toNat + (k + 52) by omega, Nat.pow_add, Nat.pow_add, Nat.pow_add]
    calc c' * 2 ^ 52 * (2 ^ (q' - -1074).toNat * 2 ^ k) = (c' * 2 ^ (q' - -1074).toNat) * (2 ^ k * 2 ^ 52) := by ac_rfl
      _ = (c * 2 ^ (q - -1074).toNat) * (2 ^ k * 2 ^ 52) := by rw [e2]
      _ = c * (2 ^ (q - -1074).toNat * (2 ^ k * 2 ^ 52)) := by ac_rfl
theorem Vd_m2 {c : Nat} {q : Int} (hc : c < 2 ^ 53) (h1 : -1074 ≤ q) (h2 : q ≤ 971) : FP.dmul (Vd c q) 4611686018427387904 = Vd c (q + 1) := Vd_mul (k := 1) hc h1 h2 two_val
theorem Vd_m52 {c : Nat} {q : Int} (hc : c < 2 ^ 53) (h1 : -1074 ≤ q) (h2 : q ≤ 971) : FP.dmul (Vd c q) 4841369599423283200 = Vd c (q + 52) := Vd_mul (k := 52) hc h1 h2 p52_val
/-- half of it -/
theorem Vd_d2 {c : Nat} {q : Int} (hc : c < 2 ^ 53) (h1 : -1073 ≤ q) (h2 : q ≤ 971) : FP.ddiv (Vd c q) 4611686018427387904 = Vd c (q - 1) := by
  obtain ⟨c', q', e1, h3, e2⟩ := Vd_ex hc (by omega) h2
  refine Vd_of ?_
  rw [show FP.ddiv = FP.Core.ddiv from rfl, FP.Core.val64_ddiv, e1, two_val]
  show (if (2 ^ 52 : Nat) = 0 then (if c' = 0 then FP.Core.Datum.nan else .inf (false != false)) else FP.Core.roundRatio FP.Core.b64 (false != false) c' (2 ^ 52) (q' - -51)) = _
  rw [if_neg (by decide)]
  show FP.Core.roundRatio FP.Core.b64 false c' (2 ^ 52) (q' - -51) = _
  refine FP.Core.roundRatio_congr (by decide) (by decide) ?_
  rw [Nat.mul_one]
  have h := pw_eq (m := -1074 - 52) (a := q' - -51) (b := q - 1) (A := c') (B := c * 2 ^ 52) (by omega) (by omega) ?_
  · exact h
  · rw [show (q' - -51 - (-1074 - 52)).toNat = (q' - -1074).toNat + 103 by omega, show (q - 1 - (-1074 - 52)).toNat = (q - -1074).toNat + 51 by omega, Nat.pow_add, Nat.pow_add]
    calc c' * (2 ^ (q' - -1074).toNat * 2 ^ 103) = (c' * 2 ^ (q' - -1074).toNat) * 2 ^ 103 := by ac_rfl
      _ = (c * 2 ^ (q - -1074).toNat) * 2 ^ 103 := by rw [e2]
      _ = c * 2 ^ 52 * (2 ^ (q - -1074).toNat * 2 ^ 51) := by
        rw [show (2 : Nat) ^ 103 = 2 ^ 52 * 2 ^ 51 from rfl]; ac_rfl
/-- compared with 2^(k - 52) times 2^52 -/
theorem Vd_cmp {c : Nat} {q : Int} (hc : c < 2 ^ 53) (h1 : -1074 ≤ q) (h2 : q ≤ 971) {y : UInt64} {r : Int} (hr : -1074 ≤ r) (hy : FP.Core.val64 y = .fin false (2 ^ 52) r) : FP.dcmp (Vd c q) y = some (compare (c * 2 ^ (q - -1074).toNat) (2 ^ 52 * 2 ^ (r - -1074).toNat)) := by
  obtain ⟨c', q', e1, h3, e2⟩ := Vd_ex hc h1 h2
  show FP.Core.order (FP.Core.val64 (Vd c q)) (FP.Core.val64 y) = _
  rw [e1, hy]
  show some (compare ((c' * 2 ^ (q' - min q' r).toNat : Nat) : Int) ((2 ^ 52 * 2 ^ (r - min q' r).toNat : Nat) : Int)) = _
  congr 1
  have p := Nat.two_pow_pos (min q' r - -1074).toNat
  have f1 : c * 2 ^ (q - -1074).toNat = (c' * 2 ^ (q' - min q' r).toNat) * 2 ^ (min q' r - -1074).toNat := by
    rw [← e2, show (q' - -1074).toNat = (q' - min q' r).toNat + (min q' r - -1074).toNat by omega, Nat.pow_add, Nat.mul_assoc]
  have f2 : 2 ^ 52 * 2 ^ (r - -1074).toNat = (2 ^ 52 * 2 ^ (r - min q' r).toNat) * 2 ^ (min q' r - -1074).toNat := by
    rw [show (r - -1074).toNat = (r - min q' r).toNat + (min q' r - -1074).toNat by omega, Nat.pow_add, Nat.mul_assoc]
  rw [f1, f2]
  generalize c' * 2 ^ (q' - min q' r).toNat = A
  generalize 2 ^ 52 * 2 ^ (r - min q' r).toNat = B
  generalize 2 ^ (min q' r - -1074).toNat = C at p
  simp only [compare, compareOfLessAndEq]
  by_cases h : A < B
  · rw [if_pos (by omega), if_pos (Nat.mul_lt_mul_of_pos_right h p)]
  · rw [if_neg (by omega), if_neg (fun z => h (Nat.lt_of_mul_lt_mul_right z))]
    by_cases h' : A = B
    · rw [if_pos (by omega), if_pos (by rw [h'])]
    · rw [if_neg (by omega), if_neg (fun z => h' (Nat.eq_of_mul_eq_mul_right p z))]
theorem V53 : (2 : Nat) ^ 53 = 9007199254740992 := rfl
/-- less one -/
theorem Vd_s1 {c j : Nat} (hc : c < 2 ^ 53) (hj : j ≤ 52) (hcj : 2 ^ j ≤ c) : FP.dsub (Vd c (-(j : Int))) FP.dconst1 = Vd (c - 2 ^ j) (-(j : Int)) := by
  obtain ⟨c', q', e1, h3, e2⟩ := Vd_ex (q := -(j : Int)) hc (by omega) (by omega)
  refine Vd_of ?_
  rw [show FP.dsub = FP.Core.dsub from rfl, FP.Core.val64_dsub, e1, one_val]
  have hm : min q' (-52) ≤ q' := Int.min_le_left _ _
  have hm2 : min q' (-52) ≤ -52 := Int.min_le_right _ _
  have hm3 : -1074 ≤ min q' (-52) := by omega
  generalize hmm : min q' (-52) = m at hm hm2 hm3
  have fA : c' * 2 ^ (q' - m).toNat * 2 ^ (m - -1074).toNat = c * 2 ^ (-(j : Int) - -1074).toNat := by
    rw [← e2, Nat.mul_assoc, ← Nat.pow_add]
    congr 2; omega
  have fB : 2 ^ 52 * 2 ^ ((-52 : Int) - m).toNat * 2 ^ (m - -1074).toNat = 2 ^ j * 2 ^ (-(j : Int) - -1074).toNat := by
    rw [Nat.mul_assoc, ← Nat.pow_add, ← Nat.pow_add, ← Nat.pow_add]
    congr 1; omega
  generalize hA : c' * 2 ^ (q' - m).toNat = A at fA
  generalize hB : 2 ^ 52 * 2 ^ ((-52 : Int) - m).toNat = B at fB
  have p := Nat.two_pow_pos (m - -1074).toNat
  have hAB : B ≤ A := by
    refine Nat.le_of_mul_le_mul_right ?_ p
    rw [fA, fB]
    exact Nat.mul_le_mul_right _ hcj
  have hu : FP.Core.sumUnits false c' q' true (2 ^ 52) (-52) m = ((A - B : Nat) : Int) := by
    show ((c' * 2 ^ (q' - m).toNat : Nat) : Int) + -((2 ^ 52 * 2 ^ ((-52 : Int) - m).toNat : Nat) : Int) = _
    rw [hA, hB]; omega
  show FP.Core.round FP.Core.b64 (.fin (FP.Core.sumSign false true (FP.Core.sumUnits false c' q' true (2 ^ 52) (-52) (min q' (-52)))) (FP.Core.sumUnits false c' q' true (2 ^ 52) (-52) (min q' (-52))).natAbs (min q' (-52))) = _
  rw [hmm, hu]
  have hs : FP.Core.sumSign false true ((A - B : Nat) : Int) = false := by
    unfold FP.Core.sumSign; split
    · rfl
    · exact decide_eq_false (by omega)
  rw [hs, Int.natAbs_natCast]
  refine FP.Core.roundRatio_congr (by decide) (by decide) ?_
  rw [Nat.mul_one, Nat.mul_one]
  refine pw_eq (m := -1074) hm3 (by omega) ?_
  rw [Nat.sub_mul, Nat.sub_mul, fA, fB]
/-- less nothing -/
theorem Vd_s0 {c : Nat} {q : Int} (hc : c < 2 ^ 53) (h1 : -1074 ≤ q) (h2 : q ≤ 971) : FP.dsub (Vd c q) (FP.l2d 0) = Vd c q := by
  obtain ⟨c', q', e1, h3, e2⟩ := Vd_ex hc h1 h2
  refine Vd_of ?_
  have z : FP.Core.val64 (FP.l2d 0) = .fin false 0 (-1074) := by decide +kernel
  rw [show FP.dsub = FP.Core.dsub from rfl, FP.Core.val64_dsub, e1, z]
  have hmm : min q' (-1074) = -1074 := by omega
  have hu : FP.Core.sumUnits false c' q' true 0 (-1074) (-1074) = ((c' * 2 ^ (q' - -1074).toNat : Nat) : Int) := by
    show ((c' * 2 ^ (q' - -1074).toNat : Nat) : Int) + -((0 * 2 ^ ((-1074 : Int) - -1074).toNat : Nat) : Int) = _
    rw [Nat.zero_mul]; simp
  show FP.Core.round FP.Core.b64 (.fin (FP.Core.sumSign false true (FP.Core.sumUnits false c' q' true 0 (-1074) (min q' (-1074)))) (FP.Core.sumUnits false c' q' true 0 (-1074) (min q' (-1074))).natAbs (min q' (-1074))) = _
  rw [hmm, hu]
  have hs : FP.Core.sumSign false true ((c' * 2 ^ (q' - -1074).toNat : Nat) : Int) = false := by
    unfold FP.Core.sumSign; split
    · rfl
    · exact decide_eq_false (by omega)
  rw [hs, Int.natAbs_natCast, e2]
  refine FP.Core.roundRatio_congr (by decide) (by decide) ?_
  rw [Nat.mul_one, Nat.mul_one]
  refine pw_eq (m := -1074) (by decide) h1 ?_
  rw [show ((-1074 : Int) - -1074).toNat = 0 by decide, Nat.pow_zero, Nat.mul_one]
/-- a whole number -/
theorem Vd_l {c : Nat} (hc : c < 2 ^ 53) : FP.d2l (Vd c 0) = Int64.ofNat c := by
  obtain ⟨c', q', e1, h3, e2⟩ := Vd_ex (q := 0) hc (by omega) (by omega)
  have e3 := pw_eq (m := -1074) h3 (by decide) e2
  show FP.Core.toL (FP.Core.val64 (Vd c 0)) = _
  rw [e1]
  show Int64.ofInt (max (-2 ^ 63) (min (2 ^ 63 - 1) ((c' * 2 ^ q'.toNat / 2 ^ (-q').toNat : Nat) : Int))) = _
  have e4 : c' * 2 ^ q'.toNat / 2 ^ (-q').toNat = c := by
    rw [show q'.toNat = (q' - 0).toNat by simp, show (-q').toNat = (0 - q').toNat by simp, e3]
    exact Nat.mul_div_cancel _ (Nat.two_pow_pos _)
  rw [e4]
  have h5 : max (-2 ^ 63 : Int) (min (2 ^ 63 - 1) (c : Int)) = (c : Int) := by
    have : (2 : Nat) ^ 53 = 9007199254740992 := rfl
    omega
  rw [h5]
  exact Int64.ofInt_eq_ofNat
/-- the share: a over b -/
theorem Vd_share {a b : Nat} (ha : 0 < a) (hb : 0 < b) (ha2 : a < 2 ^ 31) (hb2 : b < 2 ^ 31) : ∃ c q, 2 ^ 52 ≤ c ∧ c < 2 ^ 53 ∧ -90 ≤ q ∧ q ≤ -20 ∧ FP.ddiv (FP.i2d (nI a)) (FP.i2d (nI b)) = Vd c q ∧ FP.Core.val64 (Vd c q) = .fin false c q := by
  have hi : ∀ n : Nat, n < 2 ^ 31 → FP.i2d (nI n) = Vd n 0 := fun n hn => by
    refine Vd_of ?_
    rw [show FP.i2d = FP.Core.i2d from rfl, FP.Core.val64_i2d, nI_toInt hn]
    show FP.Core.round FP.Core.b64 (.fin (decide ((n : Int) < 0)) (n : Int).natAbs 0) = _
    rw [decide_eq_false (by omega), Int.natAbs_natCast]
    rfl
  rw [hi a ha2, hi b hb2]
  obtain ⟨a', p', e1, h1, f1⟩ := Vd_ex (c := a) (q := 0) (by omega) (by omega) (by omega)
  obtain ⟨b', r', e2, h2, f2⟩ := Vd_ex (c := b) (q := 0) (by omega) (by omega) (by omega)
  have hb' : 0 < b' := by
    rcases Nat.eq_zero_or_pos b' with z | z
    · rw [z, Nat.zero_mul] at f2
      have := Nat.mul_pos hb (Nat.two_pow_pos ((0 : Int) - -1074).toNat)
      omega
    · exact z
  have hv : FP.Core.val64 (FP.ddiv (Vd a 0) (Vd b 0)) = FP.Core.roundRatio FP.Core.b64 false a b 0 := by
    rw [show FP.ddiv = FP.Core.ddiv from rfl, FP.Core.val64_ddiv, e1, e2]
    show (if b' = 0 then (if a' = 0 then FP.Core.Datum.nan else .inf (false != false)) else FP.Core.roundRatio FP.Core.b64 (false != false) a' b' (p' - r')) = _
    rw [if_neg (by omega)]
    show FP.Core.roundRatio FP.Core.b64 false a' b' (p' - r') = _
    refine FP.Core.roundRatio_congr hb' hb ?_
    have h := pw_eq (m := -1074) (a := p') (b := r') (A := a' * b) (B := a * b') h1 h2 ?_
    · rw [show (p' - r' - 0).toNat = (p' - r').toNat by simp, show (0 - (p' - r')).toNat = (r' - p').toNat by congr 1; omega]
      exact h
    · have pz := Nat.two_pow_pos ((0 : Int) - -1074).toNat
      generalize 2 ^ ((0 : Int) - -1074).toNat = Z at f1 f2 pz
      refine Nat.eq_of_mul_eq_mul_right pz ?_
      calc a' * b * 2 ^ (p' - -1074).toNat * Z = (a' * 2 ^ (p' - -1074).toNat) * (b * Z) := by ac_rfl
        _ = (a * Z) * (b' * 2 ^ (r' - -1074).toNat) := by rw [f1, f2]
        _ = a * b' * 2 ^ (r' - -1074).toNat * Z := by ac_rfl
  have hl : -31 ≤ FP.Core.leading a b ∧ FP.Core.leading a b ≤ 30 := by
    have la : a.log2 < 31 := (Nat.log2_lt (by omega)).mpr ha2
    have lb : b.log2 < 31 := (Nat.log2_lt (by omega)).mpr hb2
    unfold FP.Core.leading
    dsimp only
    split <;> omega
  have hq : FP.Core.quantum FP.Core.b64 a b 0 = FP.Core.leading a b - 52 := by
    unfold FP.Core.quantum
    show max (-1074 : Int) (FP.Core.leading a b + 0 - 52) = _
    omega
  have hfit := FP.Core.roundRatio_fits FP.Core.good_b64 false a hb 0
  have key : ∃ c q, FP.Core.roundRatio FP.Core.b64 false a b 0 = .fin false c q ∧ -83 ≤ q ∧ q ≤ -21 := by
    unfold FP.Core.roundRatio
    rw [if_neg (by omega), FP.Core.roundAt, hq]
    unfold FP.Core.settle FP.Core.bound
    have hqm : FP.Core.b64.qmax = 971 := rfl
    rw [hqm]
    split
    · rw [if_pos (by omega)]; exact ⟨_, _, rfl, by omega, by omega⟩
    · rw [if_pos (by omega)]; exact ⟨_, _, rfl, by omega, by omega⟩
  obtain ⟨c, q, e3, g1, g2⟩ := key
  rw [e3] at hfit
  obtain ⟨k1, k2, k3, k4⟩ := id hfit
  have hr : FP.Core.val64 (Vd c q) = .fin false c q := (Vd_val c q).trans (FP.Core.round_of_fits FP.Core.good_b64 hfit)
  refine ⟨c, q, ?_, k1, by omega, by omega, ?_, hr⟩
  · rcases k4 with z | z
    · rw [show FP.Core.b64.qmin = -1074 from rfl] at z; omega
    · exact z
  · refine FP.Core.val64_inj (by rw [hv, e3]; exact FP.Core.Datum.noConfusion) ?_
    rw [hv, e3, hr]
theorem enc_n {c : Nat} {q : Int} (h1 : 4503599627370496 ≤ c) : FP.Core.encode FP.Core.b64 (.fin false c q) = ((q - -1074).toNat + 1) * 4503599627370496 + (c - 4503599627370496) := by
  have hc : ¬ c < FP.Core.b64.tails := Nat.not_lt.mpr h1
  have e : FP.Core.encode FP.Core.b64 (.fin false c q) = FP.Core.assemble FP.Core.b64 false ((q - FP.Core.b64.qmin).toNat + 1) (c - FP.Core.b64.tails) := by
    simp only [FP.Core.encode, if_neg hc]
  rw [e]
  unfold FP.Core.assemble
  rw [show false.toNat = 0 from rfl, Nat.zero_mul, Nat.zero_add]
  rfl
theorem num_of {x : UInt64} {N : Nat} (hx : x = UInt64.ofNat N) (h : N < 9218868437227405312) : vf_n64 x := by
  have e1 : x.toNat = N := by rw [hx]; exact Nat.mod_eq_of_lt (by omega)
  unfold vf_n64
  rw [UInt64.le_iff_toNat_le, FP.Core.mask_toNat, e1]
  have e2 : (0x7ff0000000000000 : UInt64).toNat = 9218868437227405312 := by decide +kernel
  rw [e2]
  omega
theorem enc_s {c : Nat} {q : Int} (h1 : c < 4503599627370496) : FP.Core.encode FP.Core.b64 (.fin false c q) = c := by
  have hc : c < FP.Core.b64.tails := h1
  have e : FP.Core.encode FP.Core.b64 (.fin false c q) = FP.Core.assemble FP.Core.b64 false 0 c := by
    simp only [FP.Core.encode, if_pos hc]
  rw [e]
  unfold FP.Core.assemble
  rw [show false.toNat = 0 from rfl, Nat.zero_mul, Nat.zero_add, Nat.zero_mul, Nat.zero_add]
/-- it is a number -/
theorem Vd_nn {c : Nat} {q : Int} (hc : c < 2 ^ 53) (h1 : -1074 ≤ q) (h2 : q ≤ 971) : vf_n64 (Vd c q) := by
  obtain ⟨c', q', e1, h3, e2⟩ := Vd_ex hc h1 h2
  have hn : FP.Core.val64 (Vd c q) ≠ .nan := by rw [e1]; exact FP.Core.Datum.noConfusion
  have e := FP.Core.of64_val64 hn
  have hf := FP.Core.val64_fits (Vd c q)
  rw [e1] at e hf
  have hq : q' ≤ 971 := hf.2.2.1
  have hcc : c' < 9007199254740992 := hf.1
  by_cases z : c' < 4503599627370496
  · exact num_of (e.symm.trans (congrArg UInt64.ofNat (enc_s z))) (by omega)
  · exact num_of (e.symm.trans (congrArg UInt64.ofNat (enc_n (Nat.not_lt.mp z)))) (by omega)
theorem cmp_l {a b : Nat} (h : a < b) : compare a b = .lt := by simp only [compare, compareOfLessAndEq]; rw [if_pos h]
theorem cmp_g {a b : Nat} (h : b ≤ a) : compare a b = .eq ∨ compare a b = .gt := by
  simp only [compare, compareOfLessAndEq]; rw [if_neg (by omega)]
  by_cases q : a = b
  · rw [if_pos q]; exact Or.inl rfl
  · rw [if_neg q]; exact Or.inr rfl
theorem cv_l (o : CmpOp) : Op.cmpValue (some .lt) o = -1 := by cases o <;> rfl
theorem cv_g {a b : Nat} (h : b ≤ a) (o : CmpOp) : ¬ Op.cmpValue (some (compare a b)) o < 0 := by
  rcases cmp_g h with e | e <;> rw [e] <;> cases o <;> decide
/-- against 2, against 1 -/
theorem Vd_lt {c : Nat} {q r : Int} (hc : c < 2 ^ 53) (h1 : -1074 ≤ q) (h2 : q ≤ 971) {y : UInt64} (hr : -1074 ≤ r) (hy : FP.Core.val64 y = .fin false (2 ^ 52) r) (hqr : q < r) (o : CmpOp) : Op.cmpValue (FP.dcmp (Vd c q) y) o = -1 := by
  rw [Vd_cmp hc h1 h2 hr hy, cmp_l, cv_l]
  have e : (r - -1074).toNat = (r - 1 - q).toNat + ((q - -1074).toNat + 1) := by omega
  rw [e, Nat.pow_add, show 2 ^ ((q - -1074).toNat + 1) = 2 ^ (q - -1074).toNat * 2 from Nat.pow_succ ..]
  have p := Nat.two_pow_pos (q - -1074).toNat
  have p2 := Nat.two_pow_pos (r - 1 - q).toNat
  generalize 2 ^ (q - -1074).toNat = X at p
  generalize 2 ^ (r - 1 - q).toNat = Z at p2
  calc c * X < 2 ^ 53 * X := Nat.mul_lt_mul_of_pos_right hc p
    _ = 2 ^ 52 * (1 * (X * 2)) := by rw [show (2 : Nat) ^ 53 = 2 ^ 52 * 2 from rfl]; ac_rfl
    _ ≤ 2 ^ 52 * (Z * (X * 2)) := Nat.mul_le_mul_left _ (Nat.mul_le_mul_right _ p2)
theorem Vd_ge {c : Nat} {q r : Int} (hc0 : 2 ^ 52 ≤ c) (hc : c < 2 ^ 53) (h1 : -1074 ≤ q) (h2 : q ≤ 971) {y : UInt64} (hr : -1074 ≤ r) (hy : FP.Core.val64 y = .fin false (2 ^ 52) r) (hqr : r ≤ q) (o : CmpOp) : ¬ Op.cmpValue (FP.dcmp (Vd c q) y) o < 0 := by
  rw [Vd_cmp hc h1 h2 hr hy]
  refine cv_g ?_ o
  have e : (q - -1074).toNat = (r - -1074).toNat + (q - r).toNat := by omega
  rw [e, Nat.pow_add]
  have p2 := Nat.two_pow_pos (q - r).toNat
  generalize 2 ^ (r - -1074).toNat = X
  generalize 2 ^ (q - r).toNat = Z at p2
  calc 2 ^ 52 * X ≤ c * X := Nat.mul_le_mul_right _ hc0
    _ = c * (X * 1) := by rw [Nat.mul_one]
    _ ≤ c * (X * Z) := Nat.mul_le_mul_left _ (Nat.mul_le_mul_left _ p2)
/-- a part of 1 against 1 -/
theorem Vd_r1 {c j : Nat} (hc : c < 2 ^ 53) (hj : j ≤ 52) (o : CmpOp) : (2 ^ j ≤ c → ¬ Op.cmpValue (FP.dcmp (Vd c (-(j : Int))) FP.dconst1) o < 0) ∧ (c < 2 ^ j → Op.cmpValue (FP.dcmp (Vd c (-(j : Int))) FP.dconst1) o = -1) := by
  rw [Vd_cmp hc (by omega) (by omega) (by decide) one_val]
  have e : 2 ^ 52 * 2 ^ ((-52 : Int) - -1074).toNat = 2 ^ j * 2 ^ (-(j : Int) - -1074).toNat := by
    rw [← Nat.pow_add, ← Nat.pow_add]; congr 1; omega
  rw [e]
  have p := Nat.two_pow_pos (-(j : Int) - -1074).toNat
  exact ⟨fun h => cv_g (Nat.mul_le_mul_right _ h) o, fun h => by rw [cmp_l (Nat.mul_lt_mul_of_pos_right h p), cv_l]⟩
theorem Vd_c0 {c : Nat} {q : Int} (h0 : 0 < c) (hc : c < 2 ^ 53) (h1 : -1074 ≤ q) (h2 : q ≤ 971) (o : CmpOp) : Op.cmpValue (FP.dcmp (Vd c q) FP.dconst0) o = 1 := by
  obtain ⟨c', q', e1, h3, e2⟩ := Vd_ex hc h1 h2
  have z : FP.Core.val64 FP.dconst0 = .fin false 0 (-1074) := by decide +kernel
  have e : FP.dcmp (Vd c q) FP.dconst0 = some .gt := by
    show FP.Core.order (FP.Core.val64 (Vd c q)) (FP.Core.val64 FP.dconst0) = _
    rw [e1, z]
    show some (compare ((c' * 2 ^ (q' - min q' (-1074)).toNat : Nat) : Int) ((0 * 2 ^ ((-1074 : Int) - min q' (-1074)).toNat : Nat) : Int)) = _
    congr 1
    have hp : 0 < c' := by
      rcases Nat.eq_zero_or_pos c' with y | y
      · rw [y, Nat.zero_mul] at e2
        have := Nat.mul_pos h0 (Nat.two_pow_pos (q - -1074).toNat)
        omega
      · exact y
    have := Nat.mul_pos hp (Nat.two_pow_pos (q' - min q' (-1074)).toNat)
    generalize c' * 2 ^ (q' - min q' (-1074)).toNat = A at this
    rw [Nat.zero_mul]
    simp only [compare, compareOfLessAndEq]
    rw [if_neg (by omega), if_neg (by omega)]
  rw [e]; cases o <;> rfl
theorem cz_0 (o : CmpOp) : Op.cmpValue (FP.dcmp FP.dconst0 FP.dconst0) o = 0 := by
  have e : FP.dcmp FP.dconst0 FP.dconst0 = some .eq := by decide +kernel
  rw [e]; cases o <;> rfl
/-- the exponent, 40 more -/
def xE (j : Nat) : Int32 := nI j - nI 40
theorem xE_0 : nI 0 = xE 40 := by decide +kernel
theorem xE_p : ∀ j, j < 80 → xE j + 1 = xE (j + 1) := by decide +kernel
theorem xE_m : ∀ j, j < 80 → xE (j + 1) + -1 = xE j := by decide +kernel
theorem xE_u : ∀ j, j < 81 → ¬ nI 1023 ≤ xE j := by decide +kernel
theorem xE_l : ∀ j, j < 81 → ¬ xE j ≤ -1022 := by decide +kernel
theorem xE_e : ∀ j, j < 81 → xE j + nI 1023 = nI (j + 983) := by decide +kernel
