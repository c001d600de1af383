/-! ===== the bits of a share ===== -/
theorem ev_topD {M : MT} {po : PO} {px : PX} {k pc : Nat} {L : LV} {x : UInt64} (y : UInt64) {st : List Value} {w : PW} (h : x = y) (kk : Ev M po px k pc L (.double y :: st) w) : Ev M po px k pc L (.double x :: st) w := by rw [h]; exact kk
/-- the scaled share: i - 92 -/
def Vs (T i : Nat) : UInt64 := Vd (4503599627370496 + T) ((i : Int) - 92)
theorem Vs_m {T i : Nat} (hT : T < 4503599627370496) (hi : i < 80) : FP.dmul (Vs T i) 4611686018427387904 = Vs T (i + 1) := by
  unfold Vs
  rw [Vd_m2 (by omega) (by omega) (by omega)]
  congr 1; omega
theorem Vs_d {T i : Nat} (hT : T < 4503599627370496) (hi : i < 80) : FP.ddiv (Vs T (i + 1)) 4611686018427387904 = Vs T i := by
  unfold Vs
  rw [Vd_d2 (by omega) (by omega) (by omega)]
  congr 1; omega
theorem Vs_n {T i : Nat} (hT : T < 4503599627370496) (hi : i < 81) : vf_n64 (Vs T i) := Vd_nn (by omega) (by omega) (by omega)
theorem Vs_2a {T i : Nat} (hT : T < 4503599627370496) (hi : i < 81) (h : 41 ≤ i) (o : CmpOp) : ¬ Op.cmpValue (FP.dcmp (Vs T i) 4611686018427387904) o < 0 := Vd_ge (by omega) (by omega) (by omega) (by omega) (by decide) two_val (by omega) o
theorem Vs_2b {T i : Nat} (hT : T < 4503599627370496) (h : ¬ 41 ≤ i) (o : CmpOp) : Op.cmpValue (FP.dcmp (Vs T i) 4611686018427387904) o < 0 := by
  rw [show Vs T i = Vd (4503599627370496 + T) ((i : Int) - 92) from rfl, Vd_lt (by omega) (by omega) (by omega) (by decide) two_val (by omega)]; decide
theorem Vs_1a {T i : Nat} (hT : T < 4503599627370496) (hi : i < 81) (h : 40 ≤ i) (o : CmpOp) : ¬ Op.cmpValue (FP.dcmp (Vs T i) FP.dconst1) o < 0 := Vd_ge (by omega) (by omega) (by omega) (by omega) (by decide) one_val (by omega) o
theorem Vs_1b {T i : Nat} (hT : T < 4503599627370496) (h : ¬ 40 ≤ i) (o : CmpOp) : Op.cmpValue (FP.dcmp (Vs T i) FP.dconst1) o < 0 := by
  rw [show Vs T i = Vd (4503599627370496 + T) ((i : Int) - 92) from rfl, Vd_lt (by omega) (by omega) (by omega) (by decide) one_val (by omega)]; decide
theorem Vs_s {T : Nat} (hT : T < 4503599627370496) : FP.dsub (Vs T 40) FP.dconst1 = Vd T (-((52 : Nat) : Int)) := by
  have h := Vd_s1 (c := 4503599627370496 + T) (j := 52) (by omega) (by omega) (by omega)
  unfold Vs
  rw [show ((40 : Nat) : Int) - 92 = -((52 : Nat) : Int) by decide, h, show 4503599627370496 + T - 2 ^ 52 = T by omega]
/-- the bits, told -/
def bsN (T j : Nat) : Int64 := lN ((j + 983) * 4503599627370496 + T)
theorem bs_sh {T j : Nat} (hj : j < 81) : ((nI (j + 983)).toInt64 <<< ((nI 52).toInt64 &&& 63)) + lN T = bsN T j := by
  have e : ∀ j, j < 81 → (nI (j + 983)).toInt64 <<< ((nI 52).toInt64 &&& 63) = lN ((j + 983) * 4503599627370496) := by decide +kernel
  rw [e j hj]
  exact (Int64.ofNat_add _ _).symm
theorem nI_64 : ∀ j, j < 81 → (nI (j + 983)).toInt64 = lN (j + 983) := by decide +kernel
/-- what is left behind k of the 52 -/
def rsN (T k : Nat) : UInt64 := Vd (T % 2 ^ (52 - k)) (-((52 - k : Nat) : Int))
def bsK (T j k : Nat) : Int64 := lN ((j + 983) * 2 ^ k + T / 2 ^ (52 - k))
theorem rs_lt {T k : Nat} (hT : T < 4503599627370496) : T % 2 ^ k < 2 ^ 53 := Nat.lt_of_le_of_lt (Nat.mod_le _ _) (by omega)
theorem rs_m {T k : Nat} (hT : T < 4503599627370496) (hk : k < 52) : FP.dmul (rsN T k) 4611686018427387904 = Vd (T % 2 ^ (52 - k)) (-((51 - k : Nat) : Int)) := by
  unfold rsN
  rw [Vd_m2 (rs_lt hT) (by omega) (by omega)]
  congr 1; omega
theorem rs_n {T k n : Nat} (hT : T < 4503599627370496) (hn : n ≤ 52) : vf_n64 (Vd (T % 2 ^ k) (-(n : Int))) := Vd_nn (rs_lt hT) (by omega) (by omega)
theorem md_s (T n : Nat) : T % 2 ^ (n + 1) = T % 2 ^ n + 2 ^ n * (T / 2 ^ n % 2) := by rw [Nat.pow_succ, Nat.mod_mul]
theorem dv_s (T n : Nat) : T / 2 ^ n = 2 * (T / 2 ^ (n + 1)) + T / 2 ^ n % 2 := by
  have := Nat.div_add_mod (T / 2 ^ n) 2
  rw [Nat.div_div_eq_div_mul, ← Nat.pow_succ] at this
  exact this.symm
theorem rs_1 {T k : Nat} (hk : k < 52) (h : 2 ^ (51 - k) ≤ T % 2 ^ (52 - k)) : T % 2 ^ (52 - k) - 2 ^ (51 - k) = T % 2 ^ (51 - k) ∧ T / 2 ^ (51 - k) = 2 * (T / 2 ^ (52 - k)) + 1 := by
  have e : 52 - k = (51 - k) + 1 := by omega
  rw [e, md_s] at h ⊢
  have d := dv_s T (51 - k)
  have m := Nat.mod_lt T (Nat.two_pow_pos (51 - k))
  rcases Nat.mod_two_eq_zero_or_one (T / 2 ^ (51 - k)) with z | z
  · rw [z] at h; omega
  · rw [z] at d ⊢; omega
theorem rs_0 {T k : Nat} (hk : k < 52) (h : T % 2 ^ (52 - k) < 2 ^ (51 - k)) : T % 2 ^ (52 - k) = T % 2 ^ (51 - k) ∧ T / 2 ^ (51 - k) = 2 * (T / 2 ^ (52 - k)) := by
  have e : 52 - k = (51 - k) + 1 := by omega
  rw [e, md_s] at h ⊢
  have d := dv_s T (51 - k)
  rcases Nat.mod_two_eq_zero_or_one (T / 2 ^ (51 - k)) with z | z
  · rw [z] at d ⊢; omega
  · rw [z, Nat.mul_one] at h; omega
theorem bs_1 {T j k : Nat} (hk : k < 52) (h : 2 ^ (51 - k) ≤ T % 2 ^ (52 - k)) : lN 2 * bsK T j k + lN 1 = bsK T j (k + 1) := by
  unfold bsK
  rw [show 52 - (k + 1) = 51 - k by omega, (rs_1 hk h).2, Nat.pow_succ]
  rw [show (j + 983) * (2 ^ k * 2) + (2 * (T / 2 ^ (52 - k)) + 1) = 2 * ((j + 983) * 2 ^ k + T / 2 ^ (52 - k)) + 1 by rw [Nat.mul_add, ← Nat.mul_assoc, Nat.mul_comm 2 ((j + 983) * 2 ^ k)]; omega]
  rw [show (lN (2 * ((j + 983) * 2 ^ k + T / 2 ^ (52 - k)) + 1) : Int64) = lN (2 * ((j + 983) * 2 ^ k + T / 2 ^ (52 - k))) + lN 1 from Int64.ofNat_add _ _, show lN (2 * ((j + 983) * 2 ^ k + T / 2 ^ (52 - k))) = lN 2 * lN ((j + 983) * 2 ^ k + T / 2 ^ (52 - k)) from Int64.ofNat_mul _ _]
theorem bs_0 {T j k : Nat} (hk : k < 52) (h : T % 2 ^ (52 - k) < 2 ^ (51 - k)) : lN 2 * bsK T j k + lN 0 = bsK T j (k + 1) := by
  unfold bsK
  rw [show 52 - (k + 1) = 51 - k by omega, (rs_0 hk h).2, Nat.pow_succ]
  rw [show (j + 983) * (2 ^ k * 2) + 2 * (T / 2 ^ (52 - k)) = 2 * ((j + 983) * 2 ^ k + T / 2 ^ (52 - k)) by rw [Nat.mul_add, ← Nat.mul_assoc, Nat.mul_comm 2 ((j + 983) * 2 ^ k)]]
  rw [show lN (2 * ((j + 983) * 2 ^ k + T / 2 ^ (52 - k))) = lN 2 * lN ((j + 983) * 2 ^ k + T / 2 ^ (52 - k)) from Int64.ofNat_mul _ _]
  exact Int64.add_zero _
theorem bs_e {T j : Nat} (hT : T < 4503599627370496) : bsK T j 52 = bsN T j := by
  unfold bsK bsN
  rw [show (52 - 52 : Nat) = 0 from rfl, Nat.pow_zero, Nat.div_one]
theorem bs_b {T j : Nat} (hT : T < 4503599627370496) : lN (j + 983) = bsK T j 0 := by
  unfold bsK
  rw [show (52 - 0 : Nat) = 52 from rfl, Nat.pow_zero, Nat.mul_one, Nat.div_eq_of_lt (by omega), Nat.add_zero]
theorem l2d_1 : FP.l2d (lN 1) = FP.dconst1 := by decide +kernel
theorem xE_j {i j : Nat} (h1 : i + 1 ≤ 40 + j) (h2 : j < 81) (h : 40 + j - i < 81) : xE (40 + j - (i + 1)) + 1 = xE (40 + j - i) := by
  have e : 40 + j - i = 40 + j - (i + 1) + 1 := by omega
  rw [e]; exact xE_p _ (by omega)
theorem xE_k {i j : Nat} (h1 : i + 1 ≤ 40 + j) (h : 40 + j - i < 81) : xE (40 + j - i) + -1 = xE (40 + j - (i + 1)) := by
  have e : 40 + j - i = 40 + j - (i + 1) + 1 := by omega
  rw [e]; exact xE_m _ (by omega)
set_option maxHeartbeats 1000000 in
theorem c3_bits0 (w : PW) : Ct mX3_bitsOf [.double FP.dconst0] w (d1 (some (.long (lN 0))) w) nx := by
  refine ct_of 1 kX3_bitsOf.1 rfl (Nat.le_of_ble_eq_true rfl) (fun v u h => by obtain ⟨rfl, rfl⟩ := h; exact rfl) ?_
  show Ev _ _ _ 0 0 [(0, .double FP.dconst0)] [] _
  refine ev_dload_n 0 dX3_bitsOf_0 rfl rfl ?_
  refine ev_dconst0 dX3_bitsOf_1 ?_
  refine ev_dcmp dX3_bitsOf_2 ?_
  refine ev_if_gt 8 dX3_bitsOf_3 (by decide) (fun h3 => absurd h3 (by rw [cz_0]; decide)) (fun h3 => ?_)
  refine ev_lconst (lN 0) dX3_bitsOf_6 rfl ?_
  exact ev_lreturn dX3_bitsOf_7 (Nat.le_of_ble_eq_true rfl) ⟨rfl, rfl⟩
set_option maxHeartbeats 1000000 in
theorem c3_bitsV (w : PW) {T j : Nat} (hT : T < 4503599627370496) (h2 : 2 ≤ j) (hj : j ≤ 72) : Ct mX3_bitsOf [.double (Vs T j)] w (d1 (some (.long (bsN T j))) w) nx := by
  refine ct_of 1 kX3_bitsOf.1 rfl (Nat.le_of_ble_eq_true rfl) (fun v u h => by obtain ⟨rfl, rfl⟩ := h; exact rfl) ?_
  show Ev _ _ _ 0 0 [(0, .double (Vs T j))] [] _
  refine ev_dload_n 0 dX3_bitsOf_0 rfl rfl ?_
  refine ev_dconst0 dX3_bitsOf_1 ?_
  refine ev_dcmp dX3_bitsOf_2 ?_
  refine ev_if_gt 8 dX3_bitsOf_3 (by decide) (fun h3 => ?_) (fun h3 => absurd (by rw [show Vs T j = Vd (4503599627370496 + T) ((j : Int) - 92) from rfl, Vd_c0 (by omega) (by omega) (by omega) (by omega)]; decide) h3)
  refine ev_dload_n 0 dX3_bitsOf_8 rfl rfl ?_
  refine ev_dstore_n 2 dX3_bitsOf_9 rfl (Nat.le_of_ble_eq_true rfl) rfl ?_
  refine ev_iconst (nI 0) dX3_bitsOf_10 rfl ?_
  refine ev_istore dX3_bitsOf_11 (Nat.le_of_ble_eq_true rfl) rfl ?_
  suffices D : ∀ i, i ≤ 40 → 40 + j - i < 81 → Ev mX3_bitsOf (d1 (some (.long (bsN T j))) w) nx 0 41 [(4, .int (xE (40 + j - i))), (2, .double (Vs T i)), (0, .double (Vs T j))] [] w by
    refine ev_LL [(4, .int (xE (40 + j - j))), (2, .double (Vs T j)), (0, .double (Vs T j))] (by rw [xE_0, show 40 + j - j = 40 by omega]; rfl) ?_
    suffices U : ∀ fu i, i ≤ j → i ≤ 40 + fu → 40 + j - i < 81 → Ev mX3_bitsOf (d1 (some (.long (bsN T j))) w) nx 0 13 [(4, .int (xE (40 + j - i))), (2, .double (Vs T i)), (0, .double (Vs T j))] [] w from U 40 j (Nat.le_refl j) (by omega) (by omega)
    intro fu
    induction fu with
    | zero =>
      intro i hij hi he
      refine ev_iload dX3_bitsOf_13 rfl ?_
      refine ev_sipush (nI 1023) dX3_bitsOf_15 rfl ?_
      refine ev_icmp_ge 41 dX3_bitsOf_18 (by decide) (fun h18 => absurd h18 (xE_u _ he)) (fun h18 => ?_)
      refine ev_dload_n 2 dX3_bitsOf_21 rfl rfl ?_
      refine ev_ldc2d 4611686018427387904 dX3_bitsOf_22 g616 ?_
      refine ev_dcmp dX3_bitsOf_25 ?_
      refine ev_if_lt 41 dX3_bitsOf_26 (by decide) (fun h26 => ?_) (fun h26 => absurd (Vs_2b hT (by omega) _) h26)
      exact ev_sub [0, 1, 2] rfl (D i (by omega) he)
    | succ fu ih =>
      intro i hij hi he
      refine ev_iload dX3_bitsOf_13 rfl ?_
      refine ev_sipush (nI 1023) dX3_bitsOf_15 rfl ?_
      refine ev_icmp_ge 41 dX3_bitsOf_18 (by decide) (fun h18 => absurd h18 (xE_u _ he)) (fun h18 => ?_)
      refine ev_dload_n 2 dX3_bitsOf_21 rfl rfl ?_
      refine ev_ldc2d 4611686018427387904 dX3_bitsOf_22 g616 ?_
      refine ev_dcmp dX3_bitsOf_25 ?_
      refine ev_if_lt 41 dX3_bitsOf_26 (by decide) (fun h26 => ?_) (fun h26 => ?_)
      · have h41 : ¬ 41 ≤ i := fun y => Vs_2a hT (by omega) y _ h26
        exact ev_sub [0, 1, 2] rfl (D i (by omega) he)
      · have h41 : 41 ≤ i := Decidable.byContradiction (fun y => h26 (Vs_2b hT y _))
        obtain ⟨i, rfl⟩ : ∃ i2, i = i2 + 1 := ⟨i - 1, by omega⟩
        refine ev_dload_n 2 dX3_bitsOf_29 rfl rfl ?_
        refine ev_ldc2d 4611686018427387904 dX3_bitsOf_30 g616 ?_
        refine ev_ddiv dX3_bitsOf_33 (by rw [Vs_d hT (by omega)]; exact Vs_n hT (by omega)) ?_
        refine ev_topD (Vs T i) (Vs_d hT (by omega)) ?_
        refine ev_dstore_n 2 dX3_bitsOf_34 rfl (Nat.le_of_ble_eq_true rfl) rfl ?_
        refine ev_iinc (xE (40 + j - i)) dX3_bitsOf_35 rfl (xE_j (by omega) (by omega) (by omega)) (Nat.le_of_ble_eq_true rfl) rfl ?_
        refine ev_goto 13 dX3_bitsOf_38 (by decide) ?_
        exact ev_sub [0, 1, 2] rfl (ih i (by omega) (by omega) (by omega))
  suffices Z : Ev mX3_bitsOf (d1 (some (.long (bsN T j))) w) nx 0 67 [(4, .int (xE (40 + j - 40))), (2, .double (Vs T 40)), (0, .double (Vs T j))] [] w by
    suffices U : ∀ fu i, i ≤ 40 → 40 ≤ i + fu → 40 + j - i < 81 → Ev mX3_bitsOf (d1 (some (.long (bsN T j))) w) nx 0 41 [(4, .int (xE (40 + j - i))), (2, .double (Vs T i)), (0, .double (Vs T j))] [] w from fun i h1 h3 => U 40 i h1 (by omega) h3
    intro fu
    induction fu with
    | zero =>
      intro i hi hf he
      obtain rfl : i = 40 := by omega
      refine ev_iload dX3_bitsOf_41 rfl ?_
      refine ev_sipush (-1022) dX3_bitsOf_43 rfl ?_
      refine ev_icmp_le 67 dX3_bitsOf_46 (by decide) (fun h46 => absurd h46 (xE_l _ (by omega))) (fun h46 => ?_)
      refine ev_dload_n 2 dX3_bitsOf_49 rfl rfl ?_
      refine ev_dconst1 dX3_bitsOf_50 ?_
      refine ev_dcmp dX3_bitsOf_51 ?_
      refine ev_if_ge 67 dX3_bitsOf_52 (by decide) (fun h52 => ?_) (fun h52 => absurd (Int32.not_lt.mp (Vs_1a hT (by omega) (by omega) _)) h52)
      exact ev_sub [0, 1, 2] rfl Z
    | succ fu ih =>
      intro i hi hf he
      refine ev_iload dX3_bitsOf_41 rfl ?_
      refine ev_sipush (-1022) dX3_bitsOf_43 rfl ?_
      refine ev_icmp_le 67 dX3_bitsOf_46 (by decide) (fun h46 => absurd h46 (xE_l _ (by omega))) (fun h46 => ?_)
      refine ev_dload_n 2 dX3_bitsOf_49 rfl rfl ?_
      refine ev_dconst1 dX3_bitsOf_50 ?_
      refine ev_dcmp dX3_bitsOf_51 ?_
      refine ev_if_ge 67 dX3_bitsOf_52 (by decide) (fun h52 => ?_) (fun h52 => ?_)
      · have h40 : i = 40 := by have h : 40 ≤ i := Decidable.byContradiction (fun y => absurd (Vs_1b hT y _) (Int32.not_lt.mpr h52)); omega
        subst h40
        exact ev_sub [0, 1, 2] rfl Z
      · have h40 : ¬ 40 ≤ i := fun y => h52 (Int32.not_lt.mp (Vs_1a hT (by omega) y _))
        refine ev_dload_n 2 dX3_bitsOf_55 rfl rfl ?_
        refine ev_ldc2d 4611686018427387904 dX3_bitsOf_56 g616 ?_
        refine ev_dmul dX3_bitsOf_59 (by rw [Vs_m hT (by omega)]; exact Vs_n hT (by omega)) ?_
        refine ev_topD (Vs T (i + 1)) (Vs_m hT (by omega)) ?_
        refine ev_dstore_n 2 dX3_bitsOf_60 rfl (Nat.le_of_ble_eq_true rfl) rfl ?_
        refine ev_iinc (xE (40 + j - (i + 1))) dX3_bitsOf_61 rfl (xE_k (by omega) (by omega)) (Nat.le_of_ble_eq_true rfl) rfl ?_
        refine ev_goto 41 dX3_bitsOf_64 (by decide) ?_
        exact ev_sub [0, 1, 2] rfl (ih (i + 1) (by omega) (by omega) (by omega))
  refine ev_dload_n 2 dX3_bitsOf_67 rfl rfl ?_
  refine ev_dconst1 dX3_bitsOf_68 ?_
  refine ev_dsub dX3_bitsOf_69 (by rw [Vs_s hT]; exact Vd_nn (by omega) (by omega) (by omega)) ?_
  refine ev_topD (Vd T (-((52 : Nat) : Int))) (Vs_s hT) ?_
  refine ev_ldc2d 4841369599423283200 dX3_bitsOf_70 g617 ?_
  refine ev_dmul dX3_bitsOf_73 (by rw [(Vd_m52 (by omega) (by omega) (by omega))]; exact Vd_nn (by omega) (by omega) (by omega)) ?_
  refine ev_topD (Vd T 0) ((Vd_m52 (by omega) (by omega) (by omega))) ?_
  refine ev_d2l dX3_bitsOf_74 ?_
  refine ev_topL (lN T) (Vd_l (by omega)) ?_
  refine ev_lstore dX3_bitsOf_75 (Nat.le_of_ble_eq_true rfl) rfl ?_
  refine ev_iload dX3_bitsOf_77 rfl ?_
  refine ev_sipush (nI 1023) dX3_bitsOf_79 rfl ?_
  refine ev_iadd dX3_bitsOf_82 ?_
  refine ev_top (nI (j + 983)) (by rw [show 40 + j - 40 = j by omega]; exact xE_e j (by omega)) ?_
  refine ev_i2l dX3_bitsOf_83 ?_
  refine ev_bipush (nI 52) dX3_bitsOf_84 rfl ?_
  refine ev_lshl dX3_bitsOf_86 ?_
  refine ev_lload dX3_bitsOf_87 rfl ?_
  refine ev_ladd dX3_bitsOf_89 ?_
  exact ev_lreturn dX3_bitsOf_90 (Nat.le_of_ble_eq_true rfl) ⟨by rw [← bs_sh (by omega)], rfl⟩

set_option maxHeartbeats 1000000 in
theorem c4_bits0 (w : PW) : Ct mX4_bitsOf [.double FP.dconst0, .int (nI 52), .int (nI 1023)] w (d1 (some (.long (lN 0))) w) nx := by
  refine ct_of 3 kX4_bitsOf.1 rfl (Nat.le_of_ble_eq_true rfl) (fun v u h => by obtain ⟨rfl, rfl⟩ := h; exact rfl) ?_
  show Ev _ _ _ 0 0 [(0, .double FP.dconst0), (2, .int (nI 52)), (3, .int (nI 1023))] [] _
  refine ev_dload_n 0 dX4_bitsOf_0 rfl rfl ?_
  refine ev_dconst0 dX4_bitsOf_1 ?_
  refine ev_dcmp dX4_bitsOf_2 ?_
  refine ev_if_ne 8 dX4_bitsOf_3 (by decide) (fun h3 => absurd (by rw [cz_0]) h3) (fun h3 => ?_)
  refine ev_lconst (lN 0) dX4_bitsOf_6 rfl ?_
  exact ev_lreturn dX4_bitsOf_7 (Nat.le_of_ble_eq_true rfl) ⟨rfl, rfl⟩
theorem rs_d1 {T k : Nat} (hT : T < 4503599627370496) (hk : k < 52) (h : 2 ^ (51 - k) ≤ T % 2 ^ (52 - k)) : FP.dsub (Vd (T % 2 ^ (52 - k)) (-((51 - k : Nat) : Int))) (FP.l2d (lN 1)) = rsN T (k + 1) := by
  rw [l2d_1, Vd_s1 (rs_lt hT) (by omega) h, (rs_1 hk h).1]
  unfold rsN
  rw [show 52 - (k + 1) = 51 - k by omega]
theorem rs_d0 {T k : Nat} (hT : T < 4503599627370496) (hk : k < 52) (h : T % 2 ^ (52 - k) < 2 ^ (51 - k)) : FP.dsub (Vd (T % 2 ^ (52 - k)) (-((51 - k : Nat) : Int))) (FP.l2d (lN 0)) = rsN T (k + 1) := by
  rw [show FP.l2d (lN 0) = FP.l2d 0 from rfl, Vd_s0 (rs_lt hT) (by omega) (by omega), (rs_0 hk h).1]
  unfold rsN
  rw [show 52 - (k + 1) = 51 - k by omega]
theorem rs_b {T : Nat} (hT : T < 4503599627370496) : Vd T (-((52 : Nat) : Int)) = rsN T 0 := by
  unfold rsN
  rw [show (52 - 0 : Nat) = 52 from rfl, Nat.mod_eq_of_lt (by omega)]
set_option maxHeartbeats 1000000 in
theorem c4_bitsV (w : PW) {T j : Nat} (hT : T < 4503599627370496) (h2 : 2 ≤ j) (hj : j ≤ 72) : Ct mX4_bitsOf [.double (Vs T j), .int (nI 52), .int (nI 1023)] w (d1 (some (.long (bsN T j))) w) nx := by
  refine ct_of 3 kX4_bitsOf.1 rfl (Nat.le_of_ble_eq_true rfl) (fun v u h => by obtain ⟨rfl, rfl⟩ := h; exact rfl) ?_
  show Ev _ _ _ 0 0 [(0, .double (Vs T j)), (2, .int (nI 52)), (3, .int (nI 1023))] [] _
  refine ev_dload_n 0 dX4_bitsOf_0 rfl rfl ?_
  refine ev_dconst0 dX4_bitsOf_1 ?_
  refine ev_dcmp dX4_bitsOf_2 ?_
  refine ev_if_ne 8 dX4_bitsOf_3 (by decide) (fun h3 => ?_) (fun h3 => absurd h3 (by rw [show Vs T j = Vd (4503599627370496 + T) ((j : Int) - 92) from rfl, Vd_c0 (by omega) (by omega) (by omega) (by omega)]; decide))
  refine ev_dload_n 0 dX4_bitsOf_8 rfl rfl ?_
  refine ev_dstore dX4_bitsOf_9 (Nat.le_of_ble_eq_true rfl) rfl ?_
  refine ev_iload_n 3 dX4_bitsOf_11 rfl rfl ?_
  refine ev_istore dX4_bitsOf_12 (Nat.le_of_ble_eq_true rfl) rfl ?_
  suffices D : ∀ i, i ≤ 40 → i ≤ 40 + j → Ev mX4_bitsOf (d1 (some (.long (bsN T j))) w) nx 0 37 [(6, .int (nI (983 + (40 + j - i)))), (4, .double (Vs T i)), (0, .double (Vs T j)), (2, .int (nI 52)), (3, .int (nI 1023))] [] w by
    refine ev_sub [0, 1, 2, 3, 4] rfl ?_
    refine ev_LL [(6, .int (nI (983 + (40 + j - j)))), (4, .double (Vs T j)), (0, .double (Vs T j)), (2, .int (nI 52)), (3, .int (nI 1023))] (by rw [show 983 + (40 + j - j) = 1023 by omega]; rfl) ?_
    suffices U : ∀ fu i, i ≤ j → i ≤ 40 + fu → Ev mX4_bitsOf (d1 (some (.long (bsN T j))) w) nx 0 14 [(6, .int (nI (983 + (40 + j - i)))), (4, .double (Vs T i)), (0, .double (Vs T j)), (2, .int (nI 52)), (3, .int (nI 1023))] [] w from U 40 j (Nat.le_refl j) (by omega)
    intro fu
    induction fu with
    | zero =>
      intro i hij hi
      refine ev_dload dX4_bitsOf_14 rfl ?_
      refine ev_ldc2d 4611686018427387904 dX4_bitsOf_16 g1616 ?_
      refine ev_dcmp dX4_bitsOf_19 ?_
      refine ev_if_lt 37 dX4_bitsOf_20 (by decide) (fun h20 => ?_) (fun h20 => absurd (Vs_2b hT (by omega) _) h20)
      exact ev_sub [0, 1, 2, 3, 4] rfl (D i (by omega) (by omega))
    | succ fu ih =>
      intro i hij hi
      refine ev_dload dX4_bitsOf_14 rfl ?_
      refine ev_ldc2d 4611686018427387904 dX4_bitsOf_16 g1616 ?_
      refine ev_dcmp dX4_bitsOf_19 ?_
      refine ev_if_lt 37 dX4_bitsOf_20 (by decide) (fun h20 => ?_) (fun h20 => ?_)
      · have h41 : ¬ 41 ≤ i := fun y => Vs_2a hT (by omega) y _ h20
        exact ev_sub [0, 1, 2, 3, 4] rfl (D i (by omega) (by omega))
      · have h41 : 41 ≤ i := Decidable.byContradiction (fun y => h20 (Vs_2b hT y _))
        obtain ⟨i, rfl⟩ : ∃ i2, i = i2 + 1 := ⟨i - 1, by omega⟩
        refine ev_dload dX4_bitsOf_23 rfl ?_
        refine ev_ldc2d 4611686018427387904 dX4_bitsOf_25 g1616 ?_
        refine ev_ddiv dX4_bitsOf_28 (by rw [Vs_d hT (by omega)]; exact Vs_n hT (by omega)) ?_
        refine ev_topD (Vs T i) (Vs_d hT (by omega)) ?_
        refine ev_dstore dX4_bitsOf_29 (Nat.le_of_ble_eq_true rfl) rfl ?_
        refine ev_iinc (nI (983 + (40 + j - i))) dX4_bitsOf_31 rfl ((nI_1 _).trans (congrArg nI (by omega))) (Nat.le_of_ble_eq_true rfl) rfl ?_
        refine ev_goto 14 dX4_bitsOf_34 (by decide) ?_
        exact ev_sub [0, 1, 2, 3, 4] rfl (ih i (by omega) (by omega))
  suffices Z : Ev mX4_bitsOf (d1 (some (.long (bsN T j))) w) nx 0 58 [(6, .int (nI (983 + (40 + j - 40)))), (4, .double (Vs T 40)), (0, .double (Vs T j)), (2, .int (nI 52)), (3, .int (nI 1023))] [] w by
    suffices U : ∀ fu i, i ≤ 40 → 40 ≤ i + fu → Ev mX4_bitsOf (d1 (some (.long (bsN T j))) w) nx 0 37 [(6, .int (nI (983 + (40 + j - i)))), (4, .double (Vs T i)), (0, .double (Vs T j)), (2, .int (nI 52)), (3, .int (nI 1023))] [] w from fun i h1 _ => U 40 i h1 (by omega)
    intro fu
    induction fu with
    | zero =>
      intro i hi hf
      obtain rfl : i = 40 := by omega
      refine ev_dload dX4_bitsOf_37 rfl ?_
      refine ev_dconst1 dX4_bitsOf_39 ?_
      refine ev_dcmp dX4_bitsOf_40 ?_
      refine ev_if_ge 58 dX4_bitsOf_41 (by decide) (fun h41 => ?_) (fun h41 => absurd (Int32.not_lt.mp (Vs_1a hT (by omega) (by omega) _)) h41)
      exact ev_sub [0, 1, 2, 3, 4] rfl Z
    | succ fu ih =>
      intro i hi hf
      refine ev_dload dX4_bitsOf_37 rfl ?_
      refine ev_dconst1 dX4_bitsOf_39 ?_
      refine ev_dcmp dX4_bitsOf_40 ?_
      refine ev_if_ge 58 dX4_bitsOf_41 (by decide) (fun h41 => ?_) (fun h41 => ?_)
      · have h40 : i = 40 := by have h : 40 ≤ i := Decidable.byContradiction (fun y => absurd (Vs_1b hT y _) (Int32.not_lt.mpr h41)); omega
        subst h40
        exact ev_sub [0, 1, 2, 3, 4] rfl Z
      · have h40 : ¬ 40 ≤ i := fun y => h41 (Int32.not_lt.mp (Vs_1a hT (by omega) y _))
        have ei : 983 + (40 + j - i) = 983 + (40 + j - (i + 1)) + 1 := by omega
        refine ev_dload dX4_bitsOf_44 rfl ?_
        refine ev_ldc2d 4611686018427387904 dX4_bitsOf_46 g1616 ?_
        refine ev_dmul dX4_bitsOf_49 (by rw [Vs_m hT (by omega)]; exact Vs_n hT (by omega)) ?_
        refine ev_topD (Vs T (i + 1)) (Vs_m hT (by omega)) ?_
        refine ev_dstore dX4_bitsOf_50 (Nat.le_of_ble_eq_true rfl) rfl ?_
        refine ev_iinc (nI (983 + (40 + j - (i + 1)))) dX4_bitsOf_52 rfl (by rw [ei]; exact pk_m1 _) (Nat.le_of_ble_eq_true rfl) rfl ?_
        refine ev_goto 37 dX4_bitsOf_55 (by decide) ?_
        exact ev_sub [0, 1, 2, 3, 4] rfl (ih (i + 1) (by omega) (by omega))
  refine ev_dload dX4_bitsOf_58 rfl ?_
  refine ev_dconst1 dX4_bitsOf_60 ?_
  refine ev_dsub dX4_bitsOf_61 (by rw [Vs_s hT]; exact Vd_nn (by omega) (by omega) (by omega)) ?_
  refine ev_topD (rsN T 0) ((Vs_s hT).trans (rs_b hT)) ?_
  refine ev_dstore dX4_bitsOf_62 (Nat.le_of_ble_eq_true rfl) rfl ?_
  refine ev_iload dX4_bitsOf_64 rfl ?_
  refine ev_i2l dX4_bitsOf_66 ?_
  refine ev_topL (bsK T j 0) (by rw [show 983 + (40 + j - 40) = j + 983 by omega, nI_64 j (by omega)]; exact bs_b hT) ?_
  refine ev_lstore dX4_bitsOf_67 (Nat.le_of_ble_eq_true rfl) rfl ?_
  refine ev_iconst (nI 0) dX4_bitsOf_69 rfl ?_
  refine ev_istore dX4_bitsOf_70 (Nat.le_of_ble_eq_true rfl) rfl ?_
  suffices R : ∀ fu k, k + fu = 52 → Ev mX4_bitsOf (d1 (some (.long (bsN T j))) w) nx 0 72 [(11, .int (nI k)), (9, .long (bsK T j k)), (7, .double (rsN T k)), (2, .int (nI 52))] [] w from ev_sub [0, 1, 2, 6] rfl (R 52 0 rfl)
  intro fu
  induction fu with
  | zero =>
    intro k hk
    obtain rfl : 52 = k := by omega
    refine ev_iload dX4_bitsOf_72 rfl ?_
    refine ev_iload_n 2 dX4_bitsOf_74 rfl rfl ?_
    refine ev_icmp_ge 125 dX4_bitsOf_75 (by decide) (fun h75 => ?_) (fun h75 => absurd (nI_le (Nat.le_refl 52) (by omega)) h75)
    refine ev_lload dX4_bitsOf_125 rfl ?_
    exact ev_lreturn dX4_bitsOf_127 (Nat.le_of_ble_eq_true rfl) ⟨by rw [bs_e hT], rfl⟩
  | succ fu ih =>
    intro k hk
    have hk5 : k < 52 := by omega
    refine ev_iload dX4_bitsOf_72 rfl ?_
    refine ev_iload_n 2 dX4_bitsOf_74 rfl rfl ?_
    refine ev_icmp_ge 125 dX4_bitsOf_75 (by decide) (fun h75 => absurd h75 (nI_ge hk5 (by omega))) (fun h75 => ?_)
    refine ev_dload dX4_bitsOf_78 rfl ?_
    refine ev_ldc2d 4611686018427387904 dX4_bitsOf_80 g1616 ?_
    refine ev_dmul dX4_bitsOf_83 (by rw [rs_m hT hk5]; exact rs_n hT (by omega)) ?_
    refine ev_topD (Vd (T % 2 ^ (52 - k)) (-((51 - k : Nat) : Int))) (rs_m hT hk5) ?_
    refine ev_dstore dX4_bitsOf_84 (Nat.le_of_ble_eq_true rfl) rfl ?_
    refine ev_dload dX4_bitsOf_86 rfl ?_
    refine ev_dconst1 dX4_bitsOf_88 ?_
    refine ev_dcmp dX4_bitsOf_89 ?_
    refine ev_if_lt 97 dX4_bitsOf_90 (by decide) (fun h90 => ?_) (fun h90 => ?_)
    · have hr : T % 2 ^ (52 - k) < 2 ^ (51 - k) := Nat.lt_of_not_le (fun y => (Vd_r1 (rs_lt hT) (by omega) _).1 y h90)
      refine ev_lconst (lN 0) dX4_bitsOf_97 rfl ?_
      refine ev_lstore dX4_bitsOf_98 (Nat.le_of_ble_eq_true rfl) rfl ?_
      refine ev_dload dX4_bitsOf_100 rfl ?_
      refine ev_lload dX4_bitsOf_102 rfl ?_
      refine ev_l2d dX4_bitsOf_104 ?_
      refine ev_dsub dX4_bitsOf_105 (by rw [(show FP.dsub (Vd (T % 2 ^ (52 - k)) (-((51 - k : Nat) : Int))) (FP.l2d (lN 0)) = rsN T (k + 1) from rs_d0 hT hk5 hr)]; exact rs_n hT (by omega)) ?_
      refine ev_topD (rsN T (k + 1)) (show FP.dsub (Vd (T % 2 ^ (52 - k)) (-((51 - k : Nat) : Int))) (FP.l2d (lN 0)) = rsN T (k + 1) from rs_d0 hT hk5 hr) ?_
      refine ev_dstore dX4_bitsOf_106 (Nat.le_of_ble_eq_true rfl) rfl ?_
      refine ev_ldc2 (lN 2) dX4_bitsOf_108 g1617 ?_
      refine ev_lload dX4_bitsOf_111 rfl ?_
      refine ev_lmul dX4_bitsOf_113 ?_
      refine ev_lload dX4_bitsOf_114 rfl ?_
      refine ev_ladd dX4_bitsOf_116 ?_
      refine ev_topL (bsK T j (k + 1)) (bs_0 hk5 hr) ?_
      refine ev_lstore dX4_bitsOf_117 (Nat.le_of_ble_eq_true rfl) rfl ?_
      refine ev_iinc (nI (k + 1)) dX4_bitsOf_119 rfl (nI_1 k) (Nat.le_of_ble_eq_true rfl) rfl ?_
      refine ev_goto 72 dX4_bitsOf_122 (by decide) ?_
      exact ev_sub [0, 1, 2, 4] rfl (ih (k + 1) (by omega))
    · have hr : 2 ^ (51 - k) ≤ T % 2 ^ (52 - k) := Nat.le_of_not_lt (fun y => h90 (by rw [(Vd_r1 (rs_lt hT) (by omega) _).2 y]; decide))
      refine ev_lconst (lN 1) dX4_bitsOf_93 rfl ?_
      refine ev_goto 98 dX4_bitsOf_94 (by decide) ?_
      refine ev_lstore dX4_bitsOf_98 (Nat.le_of_ble_eq_true rfl) rfl ?_
      refine ev_dload dX4_bitsOf_100 rfl ?_
      refine ev_lload dX4_bitsOf_102 rfl ?_
      refine ev_l2d dX4_bitsOf_104 ?_
      refine ev_dsub dX4_bitsOf_105 (by rw [(show FP.dsub (Vd (T % 2 ^ (52 - k)) (-((51 - k : Nat) : Int))) (FP.l2d (lN 1)) = rsN T (k + 1) from rs_d1 hT hk5 hr)]; exact rs_n hT (by omega)) ?_
      refine ev_topD (rsN T (k + 1)) (show FP.dsub (Vd (T % 2 ^ (52 - k)) (-((51 - k : Nat) : Int))) (FP.l2d (lN 1)) = rsN T (k + 1) from rs_d1 hT hk5 hr) ?_
      refine ev_dstore dX4_bitsOf_106 (Nat.le_of_ble_eq_true rfl) rfl ?_
      refine ev_ldc2 (lN 2) dX4_bitsOf_108 g1617 ?_
      refine ev_lload dX4_bitsOf_111 rfl ?_
      refine ev_lmul dX4_bitsOf_113 ?_
      refine ev_lload dX4_bitsOf_114 rfl ?_
      refine ev_ladd dX4_bitsOf_116 ?_
      refine ev_topL (bsK T j (k + 1)) (bs_1 hk5 hr) ?_
      refine ev_lstore dX4_bitsOf_117 (Nat.le_of_ble_eq_true rfl) rfl ?_
      refine ev_iinc (nI (k + 1)) dX4_bitsOf_119 rfl (nI_1 k) (Nat.le_of_ble_eq_true rfl) rfl ?_
      refine ev_goto 72 dX4_bitsOf_122 (by decide) ?_
      exact ev_sub [0, 1, 2, 4] rfl (ih (k + 1) (by omega))
