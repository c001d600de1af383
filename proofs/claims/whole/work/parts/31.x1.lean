/-! ===== the class: the reader of orders ===== -/
abbrev PS : Type := Option Nat × Nat × Int32 × Int32 × Nat × Nat
abbrev PS.lt (s : PS) : Option Nat := s.1
abbrev PS.step (s : PS) : Nat := s.2.1
abbrev PS.client (s : PS) : Int32 := s.2.2.1
abbrev PS.kind (s : PS) : Int32 := s.2.2.2.1
abbrev PS.number (s : PS) : Nat := s.2.2.2.2.1
abbrev PS.digits (s : PS) : Nat := s.2.2.2.2.2
def ltI : Option Nat → Int32
  | none => -1
  | some l => nI l
def tE (ℓ : Nat) (s : PS) : Nat → Int32 := fun i => match i with
  | 0 => nI ℓ
  | 1 => ltI s.lt
  | 2 => nI s.step
  | 3 => s.client
  | 4 => s.kind
  | 5 => nI s.number
  | 6 => nI s.digits
  | _ => 0
def PS0 : PS := ⟨none, 0, nI 0, nI 0, 0, 0⟩
/-- the shape of a letter -/
def shp (c : Nat) : Nat := if c = 112 ∨ c = 99 then 0 else if c = 43 ∨ c = 45 then 1 else if c = 108 ∨ c = 98 then 2 else if c = 104 then 3 else 4
def sho (k : Nat) : Int := if k = 0 then 67 else if k = 1 then 70 else if k = 2 then 73 else if k = 3 then 76 else 79
theorem sh_off : ∀ c, c < 128 → Op.lookupswitch.offset (#[((43 : Int), (70 : Int)), (45, 70), (98, 73), (99, 67), (104, 76), (108, 73), (112, 67)] : Array (Int × Int)).toList 79 (nI c).toInt = sho (shp c) := by decide +kernel
theorem shp_5 (c : Nat) : shp c < 5 := by unfold shp; repeat' split
                                          all_goals omega
/-- the most that a number may be -/
def mki (c : Nat) : Nat := if c = 112 then 0 else if c = 99 then 1 else if c = 43 ∨ c = 45 then 2 else if c = 104 then 3 else 4
def mko (k : Nat) : Int := if k = 0 then 52 else if k = 1 then 56 else if k = 2 then 59 else if k = 3 then 62 else 65
def mst (k : Nat) : Nat := if k = 0 then 500 else if k = 1 then 90 else if k = 2 then 50 else if k = 3 then 100 else 9999
theorem mk_off : ∀ c, c < 128 → Op.lookupswitch.offset (#[((43 : Int), (59 : Int)), (45, 59), (99, 56), (104, 62), (112, 52)] : Array (Int × Int)).toList 65 (nI c).toInt = mko (mki c) := by decide +kernel
theorem mki_5 (c : Nat) : mki c < 5 := by unfold mki; repeat' split
                                          all_goals omega
def lst (l : Nat) : Nat := if l = 99 then 0 else 1
theorem le0_no {n : Nat} (h : ¬ nI n ≤ 0) : 0 < n := by
  rcases Nat.eq_zero_or_pos n with q | q
  · subst q; exact absurd (by decide) h
  · exact q
theorem mst_le (k : Nat) : mst k ≤ 9999 := by unfold mst; repeat' split
                                              all_goals omega
theorem hv_te (P : Nat → va_E) (t cs sl pl ks rr : Nat → Int32) (n b : Nat) (sv : Nat → Nat) (sf τ : Nat → Int32) (T : Nat → Nat → Int32) (g : PW) (t' : Nat → Int32) : (hv P t cs sl pl ks rr n b sv sf τ T g).set 8 (.inr (1, [.ref 9, .int (t' 0), .int (t' 1), .int (t' 2), .int (t' 3), .int (t' 4), .int (t' 5), .int (t' 6)])) = hv P (t') cs sl pl ks rr n b sv sf τ T g := rfl
set_option maxHeartbeats 1000000 in
theorem c1_start (P : Nat → va_E) (cs sl pl ks rr : Nat → Int32) (n b : Nat) (sv : Nat → Nat) (sf τ : Nat → Int32) (T : Nat → Nat → Int32) (g : PW) (ℓ : Nat) (s : PS) : Ct mX1_startPart [.ref 8] (hv P (tE ℓ (s)) cs sl pl ks rr n b sv sf τ T g) (d1 none (hv P (tE ℓ (PS0)) cs sl pl ks rr n b sv sf τ T g)) nx := by
  refine ct_of 0 kX1_startPart.1 rfl (Nat.le_of_ble_eq_true rfl) (fun v u h => by obtain ⟨rfl, rfl⟩ := h; exact trivial) ?_
  show Ev _ _ _ 0 0 [(0, .ref 8)] [] _
  refine ev_aload_n 0 dX1_startPart_0 rfl rfl ?_
  refine ev_iconst (-1) dX1_startPart_1 rfl ?_
  refine ev_putfield 2 dX1_startPart_2 fpX1_15 rfl (Nat.le_of_ble_eq_true rfl) (fun _ => rfl) (fun _ => rfl) (hv_te _ _ _ _ _ _ _ _ _ _ _ _ _ _ (tE ℓ (⟨none, s.step, s.client, s.kind, s.number, s.digits⟩))) ?_
  refine ev_aload_n 0 dX1_startPart_5 rfl rfl ?_
  refine ev_iconst (nI 0) dX1_startPart_6 rfl ?_
  refine ev_putfield 3 dX1_startPart_7 fpX1_19 rfl (Nat.le_of_ble_eq_true rfl) (fun _ => rfl) (fun _ => rfl) (hv_te _ _ _ _ _ _ _ _ _ _ _ _ _ _ (tE ℓ (⟨none, 0, s.client, s.kind, s.number, s.digits⟩))) ?_
  refine ev_aload_n 0 dX1_startPart_10 rfl rfl ?_
  refine ev_iconst (nI 0) dX1_startPart_11 rfl ?_
  refine ev_putfield 4 dX1_startPart_12 fpX1_22 rfl (Nat.le_of_ble_eq_true rfl) (fun _ => rfl) (fun _ => rfl) (hv_te _ _ _ _ _ _ _ _ _ _ _ _ _ _ (tE ℓ (⟨none, 0, nI 0, s.kind, s.number, s.digits⟩))) ?_
  refine ev_aload_n 0 dX1_startPart_15 rfl rfl ?_
  refine ev_iconst (nI 0) dX1_startPart_16 rfl ?_
  refine ev_putfield 5 dX1_startPart_17 fpX1_25 rfl (Nat.le_of_ble_eq_true rfl) (fun _ => rfl) (fun _ => rfl) (hv_te _ _ _ _ _ _ _ _ _ _ _ _ _ _ (tE ℓ (⟨none, 0, nI 0, nI 0, s.number, s.digits⟩))) ?_
  refine ev_aload_n 0 dX1_startPart_20 rfl rfl ?_
  refine ev_iconst (nI 0) dX1_startPart_21 rfl ?_
  refine ev_putfield 6 dX1_startPart_22 fpX1_28 rfl (Nat.le_of_ble_eq_true rfl) (fun _ => rfl) (fun _ => rfl) (hv_te _ _ _ _ _ _ _ _ _ _ _ _ _ _ (tE ℓ (⟨none, 0, nI 0, nI 0, 0, s.digits⟩))) ?_
  refine ev_aload_n 0 dX1_startPart_25 rfl rfl ?_
  refine ev_iconst (nI 0) dX1_startPart_26 rfl ?_
  refine ev_putfield 7 dX1_startPart_27 fpX1_31 rfl (Nat.le_of_ble_eq_true rfl) (fun _ => rfl) (fun _ => rfl) (hv_te _ _ _ _ _ _ _ _ _ _ _ _ _ _ (tE ℓ (⟨none, 0, nI 0, nI 0, 0, 0⟩))) ?_
  exact ev_return dX1_startPart_30 (Nat.le_of_ble_eq_true rfl) ⟨rfl, rfl⟩
set_option maxHeartbeats 1000000 in
theorem c1_shape (w : PW) {c : Nat} (hc : c < 128) : Ct mX1_shapeOf [.int (nI c)] w (d1 (some (.ref (1000 + shp c))) w) nx := by
  refine ct_of 1 kX1_shapeOf.1 rfl (Nat.le_of_ble_eq_true rfl) (fun v u h => by obtain ⟨rfl, rfl⟩ := h; exact ⟨_, rfl⟩) ?_
  show Ev _ _ _ 0 0 [(0, .int (nI c))] [] _
  refine ev_iload_n 0 dX1_shapeOf_0 rfl rfl ?_
  have h5 := shp_5 c
  rcases (show shp c = 0 ∨ shp c = 1 ∨ shp c = 2 ∨ shp c = 3 ∨ shp c = 4 by omega) with h | h | h | h | h
  · refine ev_lookup (off := 67) 68 dX1_shapeOf_1 (by decide) (by rw [sh_off c hc, h]; rfl) (by decide) ?_
    refine ev_ldcS (i := 0) dX1_shapeOf_68 rfl (by omega) rfl ?_
    exact ev_areturn dX1_shapeOf_70 (Nat.le_of_ble_eq_true rfl) ⟨by rw [h], rfl⟩
  · refine ev_lookup (off := 70) 71 dX1_shapeOf_1 (by decide) (by rw [sh_off c hc, h]; rfl) (by decide) ?_
    refine ev_ldcS (i := 1) dX1_shapeOf_71 rfl (by omega) rfl ?_
    exact ev_areturn dX1_shapeOf_73 (Nat.le_of_ble_eq_true rfl) ⟨by rw [h], rfl⟩
  · refine ev_lookup (off := 73) 74 dX1_shapeOf_1 (by decide) (by rw [sh_off c hc, h]; rfl) (by decide) ?_
    refine ev_ldcS (i := 2) dX1_shapeOf_74 rfl (by omega) rfl ?_
    exact ev_areturn dX1_shapeOf_76 (Nat.le_of_ble_eq_true rfl) ⟨by rw [h], rfl⟩
  · refine ev_lookup (off := 76) 77 dX1_shapeOf_1 (by decide) (by rw [sh_off c hc, h]; rfl) (by decide) ?_
    refine ev_ldcS (i := 3) dX1_shapeOf_77 rfl (by omega) rfl ?_
    exact ev_areturn dX1_shapeOf_79 (Nat.le_of_ble_eq_true rfl) ⟨by rw [h], rfl⟩
  · refine ev_lookup (off := 79) 80 dX1_shapeOf_1 (by decide) (by rw [sh_off c hc, h]; rfl) (by decide) ?_
    refine ev_ldcS (i := 4) dX1_shapeOf_80 rfl (by omega) rfl ?_
    exact ev_areturn dX1_shapeOf_82 (Nat.le_of_ble_eq_true rfl) ⟨by rw [h], rfl⟩
set_option maxHeartbeats 1000000 in
theorem c1_least (P : Nat → va_E) (cs sl pl ks rr : Nat → Int32) (n b : Nat) (sv : Nat → Nat) (sf τ : Nat → Int32) (T : Nat → Nat → Int32) (g : PW) (ℓ : Nat) {l : Nat} (hl : l < 128) (sp : Nat) (cl kd : Int32) (nb dg : Nat) : Ct mX1_leastNumber [.ref 8] (hv P (tE ℓ (⟨some l, sp, cl, kd, nb, dg⟩)) cs sl pl ks rr n b sv sf τ T g) (d1 (some (.int (nI (lst l)))) (hv P (tE ℓ (⟨some l, sp, cl, kd, nb, dg⟩)) cs sl pl ks rr n b sv sf τ T g)) nx := by
  refine ct_of 0 kX1_leastNumber.1 rfl (Nat.le_of_ble_eq_true rfl) (fun v u h => by obtain ⟨rfl, rfl⟩ := h; exact rfl) ?_
  show Ev _ _ _ 0 0 [(0, .ref 8)] [] _
  refine ev_aload_n 0 dX1_leastNumber_0 rfl rfl ?_
  refine ev_getfield 2 dX1_leastNumber_1 foX1_15 rfl rfl ?_
  refine ev_bipush (nI 99) dX1_leastNumber_4 rfl ?_
  refine ev_icmp_ne 13 dX1_leastNumber_6 (by decide) (fun h6 => ?_) (fun h6 => ?_)
  · have e : lst l = 1 := if_neg (fun q => h6 (congrArg nI q))
    refine ev_iconst (nI 1) dX1_leastNumber_13 rfl ?_
    exact ev_ireturn dX1_leastNumber_14 (Nat.le_of_ble_eq_true rfl) ⟨by rw [e], rfl⟩
  · have e : lst l = 0 := if_pos ((nI_eq (by omega) (by omega)).mp h6)
    refine ev_iconst (nI 0) dX1_leastNumber_9 rfl ?_
    refine ev_goto 14 dX1_leastNumber_10 (by decide) ?_
    exact ev_ireturn dX1_leastNumber_14 (Nat.le_of_ble_eq_true rfl) ⟨by rw [e], rfl⟩
set_option maxHeartbeats 1000000 in
theorem c1_most (P : Nat → va_E) (cs sl pl ks rr : Nat → Int32) (n b : Nat) (sv : Nat → Nat) (sf τ : Nat → Int32) (T : Nat → Nat → Int32) (g : PW) (ℓ : Nat) {l : Nat} (hl : l < 128) (sp : Nat) (cl kd : Int32) (nb dg : Nat) : Ct mX1_mostNumber [.ref 8] (hv P (tE ℓ (⟨some l, sp, cl, kd, nb, dg⟩)) cs sl pl ks rr n b sv sf τ T g) (d1 (some (.int (nI (mst (mki l))))) (hv P (tE ℓ (⟨some l, sp, cl, kd, nb, dg⟩)) cs sl pl ks rr n b sv sf τ T g)) nx := by
  refine ct_of 0 kX1_mostNumber.1 rfl (Nat.le_of_ble_eq_true rfl) (fun v u h => by obtain ⟨rfl, rfl⟩ := h; exact rfl) ?_
  show Ev _ _ _ 0 0 [(0, .ref 8)] [] _
  refine ev_aload_n 0 dX1_mostNumber_0 rfl rfl ?_
  refine ev_getfield 2 dX1_mostNumber_1 foX1_15 rfl rfl ?_
  refine ev_top (nI l) rfl ?_
  have h5 := mki_5 l
  rcases (show mki l = 0 ∨ mki l = 1 ∨ mki l = 2 ∨ mki l = 3 ∨ mki l = 4 by omega) with h | h | h | h | h
  · refine ev_lookup (off := 52) 56 dX1_mostNumber_4 (by decide) (by rw [mk_off l hl, h]; rfl) (by decide) ?_
    refine ev_sipush (nI 500) dX1_mostNumber_56 rfl ?_
    exact ev_ireturn dX1_mostNumber_59 (Nat.le_of_ble_eq_true rfl) ⟨by rw [h]; rfl, rfl⟩
  · refine ev_lookup (off := 56) 60 dX1_mostNumber_4 (by decide) (by rw [mk_off l hl, h]; rfl) (by decide) ?_
    refine ev_bipush (nI 90) dX1_mostNumber_60 rfl ?_
    exact ev_ireturn dX1_mostNumber_62 (Nat.le_of_ble_eq_true rfl) ⟨by rw [h]; rfl, rfl⟩
  · refine ev_lookup (off := 59) 63 dX1_mostNumber_4 (by decide) (by rw [mk_off l hl, h]; rfl) (by decide) ?_
    refine ev_bipush (nI 50) dX1_mostNumber_63 rfl ?_
    exact ev_ireturn dX1_mostNumber_65 (Nat.le_of_ble_eq_true rfl) ⟨by rw [h]; rfl, rfl⟩
  · refine ev_lookup (off := 62) 66 dX1_mostNumber_4 (by decide) (by rw [mk_off l hl, h]; rfl) (by decide) ?_
    refine ev_bipush (nI 100) dX1_mostNumber_66 rfl ?_
    exact ev_ireturn dX1_mostNumber_68 (Nat.le_of_ble_eq_true rfl) ⟨by rw [h]; rfl, rfl⟩
  · refine ev_lookup (off := 65) 69 dX1_mostNumber_4 (by decide) (by rw [mk_off l hl, h]; rfl) (by decide) ?_
    refine ev_sipush (nI 9999) dX1_mostNumber_69 rfl ?_
    exact ev_ireturn dX1_mostNumber_72 (Nat.le_of_ble_eq_true rfl) ⟨by rw [h]; rfl, rfl⟩
set_option maxHeartbeats 1000000 in
theorem c1_whole (P : Nat → va_E) (cs sl pl ks rr : Nat → Int32) (n b : Nat) (sv : Nat → Nat) (sf τ : Nat → Int32) (T : Nat → Nat → Int32) (g : PW) (ℓ : Nat) (s : PS) (hd : s.digits < 1000) : Ct mX1_isWholePart [.ref 8] (hv P (tE ℓ (s)) cs sl pl ks rr n b sv sf τ T g) (d1 (some (.int (bI (decide (0 < s.digits))))) (hv P (tE ℓ (s)) cs sl pl ks rr n b sv sf τ T g)) nx := by
  refine ct_of 0 kX1_isWholePart.1 rfl (Nat.le_of_ble_eq_true rfl) (fun v u h => by obtain ⟨rfl, rfl⟩ := h; exact bI_nar _) ?_
  show Ev _ _ _ 0 0 [(0, .ref 8)] [] _
  refine ev_aload_n 0 dX1_isWholePart_0 rfl rfl ?_
  refine ev_getfield 7 dX1_isWholePart_1 foX1_31 rfl rfl ?_
  refine ev_if_le 11 dX1_isWholePart_4 (by decide) (fun h4 => ?_) (fun h4 => ?_)
  · have e : decide (0 < s.digits) = false := decide_eq_false (fun q => absurd (nI_lt (a := 0) q (by omega)) (Int32.not_lt.mpr h4))
    refine ev_iconst (nI 0) dX1_isWholePart_11 rfl ?_
    exact ev_ireturn dX1_isWholePart_12 (Nat.le_of_ble_eq_true rfl) ⟨by rw [e]; rfl, rfl⟩
  · have e : decide (0 < s.digits) = true := decide_eq_true (le0_no h4)
    refine ev_iconst (nI 1) dX1_isWholePart_7 rfl ?_
    refine ev_goto 12 dX1_isWholePart_8 (by decide) ?_
    exact ev_ireturn dX1_isWholePart_12 (Nat.le_of_ble_eq_true rfl) ⟨by rw [e]; rfl, rfl⟩
def nuN (nb d : Nat) : Nat := nb * 10 + d
def leD (nb dg : Nat) : Bool := decide (0 < dg) && decide (nb = 0)
def okD (l nb dg d : Nat) : Bool := !leD nb dg && (decide (lst l ≤ nuN nb d) && decide (nuN nb d ≤ mst (mki l)))
theorem okD_1 {l nb dg d : Nat} (h : leD nb dg = true) : okD l nb dg d = false := by unfold okD; rw [h]; rfl
theorem okD_2 {l nb dg d : Nat} (h : ¬ lst l ≤ nuN nb d) : okD l nb dg d = false := by unfold okD; rw [decide_eq_false h, Bool.false_and, Bool.and_false]
theorem okD_3 {l nb dg d : Nat} (h : ¬ nuN nb d ≤ mst (mki l)) : okD l nb dg d = false := by unfold okD; rw [decide_eq_false h, Bool.and_false, Bool.and_false]
theorem okD_t {l nb dg d : Nat} (h0 : leD nb dg = false) (h1 : lst l ≤ nuN nb d) (h2 : nuN nb d ≤ mst (mki l)) : okD l nb dg d = true := by unfold okD; rw [h0, decide_eq_true h1, decide_eq_true h2]; rfl
theorem leD_f1 {nb dg : Nat} (h : nI dg ≤ 0) (hd : dg < 1000) : leD nb dg = false := by
  have e : dg = 0 := by
    rcases Nat.eq_zero_or_pos dg with q | q
    · exact q
    · exact absurd (nI_lt (a := 0) q (by omega)) (Int32.not_lt.mpr h)
  rw [leD, e]; rfl
theorem leD_f2 {nb dg : Nat} (h : ¬ nI nb = 0) : leD nb dg = false := by
  have e : ¬ nb = 0 := fun q => h (by rw [q]; rfl)
  rw [leD, decide_eq_false e, Bool.and_false]
theorem leD_t {nb dg : Nat} (h : ¬ nI dg ≤ 0) (h2 : nI nb = 0) (hb : nb < 1000000) : leD nb dg = true := by
  have e : nb = 0 := (nI_eq (a := nb) (b := 0) (by omega) (by omega)).mp h2
  rw [leD, decide_eq_true e, decide_eq_true (le0_no h)]; rfl
set_option maxHeartbeats 1000000 in
theorem c1_digN (P : Nat → va_E) (cs sl pl ks rr : Nat → Int32) (n b : Nat) (sv : Nat → Nat) (sf τ : Nat → Int32) (T : Nat → Nat → Int32) (g : PW) (ℓ : Nat) {l : Nat} (hl : l < 128) (sp : Nat) (cl kd : Int32) (nb dg : Nat) {x : Int32} (hx : x < 0) : Ct mX1_takeDigit [.ref 8, .int x] (hv P (tE ℓ (⟨some l, sp, cl, kd, nb, dg⟩)) cs sl pl ks rr n b sv sf τ T g) (d1 (some (.int (bI false))) (hv P (tE ℓ (⟨some l, sp, cl, kd, nb, dg⟩)) cs sl pl ks rr n b sv sf τ T g)) nx := by
  refine ct_of 1 kX1_takeDigit.1 rfl (Nat.le_of_ble_eq_true rfl) (fun v u h => by obtain ⟨rfl, rfl⟩ := h; exact bI_nar _) ?_
  show Ev _ _ _ 0 0 [(0, .ref 8), (1, .int x)] [] _
  refine ev_iload_n 1 dX1_takeDigit_0 rfl rfl ?_
  refine ev_if_lt 10 dX1_takeDigit_1 (by decide) (fun h1 => ?_) (fun h1 => absurd hx h1)
  refine ev_iconst (nI 0) dX1_takeDigit_10 rfl ?_
  exact ev_ireturn dX1_takeDigit_11 (Nat.le_of_ble_eq_true rfl) ⟨rfl, rfl⟩
set_option maxHeartbeats 1000000 in
theorem c1_digB (P : Nat → va_E) (cs sl pl ks rr : Nat → Int32) (n b : Nat) (sv : Nat → Nat) (sf τ : Nat → Int32) (T : Nat → Nat → Int32) (g : PW) (ℓ : Nat) {l : Nat} (hl : l < 128) (sp : Nat) (cl kd : Int32) (nb dg : Nat) {d : Nat} (hd : 9 < d) (hd2 : d < 1000) : Ct mX1_takeDigit [.ref 8, .int (nI d)] (hv P (tE ℓ (⟨some l, sp, cl, kd, nb, dg⟩)) cs sl pl ks rr n b sv sf τ T g) (d1 (some (.int (bI false))) (hv P (tE ℓ (⟨some l, sp, cl, kd, nb, dg⟩)) cs sl pl ks rr n b sv sf τ T g)) nx := by
  refine ct_of 1 kX1_takeDigit.1 rfl (Nat.le_of_ble_eq_true rfl) (fun v u h => by obtain ⟨rfl, rfl⟩ := h; exact bI_nar _) ?_
  show Ev _ _ _ 0 0 [(0, .ref 8), (1, .int (nI d))] [] _
  refine ev_iload_n 1 dX1_takeDigit_0 rfl rfl ?_
  refine ev_if_lt 10 dX1_takeDigit_1 (by decide) (fun h1 => absurd h1 (nI_pos (by omega))) (fun h1 => ?_)
  refine ev_iload_n 1 dX1_takeDigit_4 rfl rfl ?_
  refine ev_bipush (nI 9) dX1_takeDigit_5 rfl ?_
  refine ev_icmp_le 12 dX1_takeDigit_7 (by decide) (fun h7 => absurd h7 (nI_ge hd (by omega))) (fun h7 => ?_)
  refine ev_iconst (nI 0) dX1_takeDigit_10 rfl ?_
  exact ev_ireturn dX1_takeDigit_11 (Nat.le_of_ble_eq_true rfl) ⟨rfl, rfl⟩
set_option maxHeartbeats 1000000 in
theorem c1_digit (P : Nat → va_E) (cs sl pl ks rr : Nat → Int32) (n b : Nat) (sv : Nat → Nat) (sf τ : Nat → Int32) (T : Nat → Nat → Int32) (g : PW) (ℓ : Nat) {l : Nat} (hl : l < 128) (sp : Nat) (cl kd : Int32) (nb dg : Nat) (hb : nb < 100000) (hg : dg < 1000) {d : Nat} (hd : d ≤ 9) : Ct mX1_takeDigit [.ref 8, .int (nI d)] (hv P (tE ℓ (⟨some l, sp, cl, kd, nb, dg⟩)) cs sl pl ks rr n b sv sf τ T g) (d1 (some (.int (bI (okD l nb dg d)))) (hv P (tE ℓ (⟨some l, sp, cl, kd, nuN nb d, dg + 1⟩)) cs sl pl ks rr n b sv sf τ T g)) nx := by
  have hN : nuN nb d < 2147483648 := by unfold nuN; omega
  have hM : mst (mki l) < 2147483648 := by have := mst_le (mki l); omega
  have hM0 : lst l < 2147483648 := by unfold lst; split <;> omega
  refine ct_of 1 kX1_takeDigit.1 rfl (Nat.le_of_ble_eq_true rfl) (fun v u h => by obtain ⟨rfl, rfl⟩ := h; exact bI_nar _) ?_
  show Ev _ _ _ 0 0 [(0, .ref 8), (1, .int (nI d))] [] _
  refine ev_iload_n 1 dX1_takeDigit_0 rfl rfl ?_
  refine ev_if_lt 10 dX1_takeDigit_1 (by decide) (fun h1 => absurd h1 (nI_pos (by omega))) (fun h1 => ?_)
  refine ev_iload_n 1 dX1_takeDigit_4 rfl rfl ?_
  refine ev_bipush (nI 9) dX1_takeDigit_5 rfl ?_
  refine ev_icmp_le 12 dX1_takeDigit_7 (by decide) (fun h7 => ?_) (fun h7 => absurd (nI_le hd (by omega)) h7)
  refine ev_aload_n 0 dX1_takeDigit_12 rfl rfl ?_
  refine ev_getfield 7 dX1_takeDigit_13 foX1_31 rfl rfl ?_
  suffices J16 : Ev mX1_takeDigit (d1 (some (.int (bI (okD l nb dg d)))) (hv P (tE ℓ (⟨some l, sp, cl, kd, nuN nb d, dg + 1⟩)) cs sl pl ks rr n b sv sf τ T g)) nx 0 31 [(0, .ref 8), (1, .int (nI d))] [.int (bI (leD nb dg))] (hv P (tE ℓ (⟨some l, sp, cl, kd, nb, dg⟩)) cs sl pl ks rr n b sv sf τ T g) by
    refine ev_if_le 30 dX1_takeDigit_16 (by decide) (fun h16 => ?_) (fun h16 => ?_)
    · refine ev_iconst (nI 0) dX1_takeDigit_30 rfl ?_
      exact ev_sub [0, 1] rfl (ev_top _ (by first | (rw [leD_f1 h16 hg]; rfl) | (rw [leD_f2 h23]; rfl) | (rw [leD_t (nb := nb) (dg := dg) h16 h23 (by omega)]; rfl)) J16)
    · refine ev_aload_n 0 dX1_takeDigit_19 rfl rfl ?_
      refine ev_getfield 6 dX1_takeDigit_20 foX1_28 rfl rfl ?_
      refine ev_if_ne 30 dX1_takeDigit_23 (by decide) (fun h23 => ?_) (fun h23 => ?_)
      · refine ev_iconst (nI 0) dX1_takeDigit_30 rfl ?_
        exact ev_sub [0, 1] rfl (ev_top _ (by first | (rw [leD_f1 h16 hg]; rfl) | (rw [leD_f2 h23]; rfl) | (rw [leD_t (nb := nb) (dg := dg) h16 h23 (by omega)]; rfl)) J16)
      · refine ev_iconst (nI 1) dX1_takeDigit_26 rfl ?_
        refine ev_goto 31 dX1_takeDigit_27 (by decide) ?_
        exact ev_sub [0, 1] rfl (ev_top _ (by first | (rw [leD_f1 h16 hg]; rfl) | (rw [leD_f2 h23]; rfl) | (rw [leD_t (nb := nb) (dg := dg) h16 h23 (by omega)]; rfl)) J16)
  refine ev_istore_n 2 dX1_takeDigit_31 rfl (Nat.le_of_ble_eq_true rfl) rfl ?_
  refine ev_aload_n 0 dX1_takeDigit_32 rfl rfl ?_
  refine ev_aload_n 0 dX1_takeDigit_33 rfl rfl ?_
  refine ev_getfield 6 dX1_takeDigit_34 foX1_28 rfl rfl ?_
  refine ev_bipush (nI 10) dX1_takeDigit_37 rfl ?_
  refine ev_imul dX1_takeDigit_39 ?_
  refine ev_iload_n 1 dX1_takeDigit_40 rfl rfl ?_
  refine ev_iadd dX1_takeDigit_41 ?_
  refine ev_top (nI (nuN nb d)) (by show nI nb * nI 10 + nI d = _; rw [pk_mul, nI_add]; rfl) ?_
  refine ev_putfield 6 dX1_takeDigit_42 fpX1_28 rfl (Nat.le_of_ble_eq_true rfl) (fun _ => rfl) (fun _ => rfl) (hv_te _ _ _ _ _ _ _ _ _ _ _ _ _ _ (tE ℓ (⟨some l, sp, cl, kd, nuN nb d, dg⟩))) ?_
  refine ev_aload_n 0 dX1_takeDigit_45 rfl rfl ?_
  refine ev_dup dX1_takeDigit_46 rfl ?_
  refine ev_getfield 7 dX1_takeDigit_47 foX1_31 rfl rfl ?_
  refine ev_iconst (nI 1) dX1_takeDigit_50 rfl ?_
  refine ev_iadd dX1_takeDigit_51 ?_
  refine ev_top (nI (dg + 1)) (nI_add dg 1) ?_
  refine ev_putfield 7 dX1_takeDigit_52 fpX1_31 rfl (Nat.le_of_ble_eq_true rfl) (fun _ => rfl) (fun _ => rfl) (hv_te _ _ _ _ _ _ _ _ _ _ _ _ _ _ (tE ℓ (⟨some l, sp, cl, kd, nuN nb d, dg + 1⟩))) ?_
  refine ev_iload_n 2 dX1_takeDigit_55 rfl rfl ?_
  refine ev_if_ne 85 dX1_takeDigit_56 (by decide) (fun h56 => ?_) (fun h56 => ?_)
  · refine ev_iconst (nI 0) dX1_takeDigit_85 rfl ?_
    exact ev_ireturn dX1_takeDigit_86 (Nat.le_of_ble_eq_true rfl) ⟨by rw [okD_1 (bI_1.mp h56)]; rfl, rfl⟩
  · refine ev_aload_n 0 dX1_takeDigit_59 rfl rfl ?_
    refine ev_getfield 6 dX1_takeDigit_60 foX1_28 rfl rfl ?_
    refine ev_aload_n 0 dX1_takeDigit_63 rfl rfl ?_
    refine ev_cV0 (c1_least _ _ _ _ _ _ _ _ _ _ _ _ _ _ (by omega) _ _ _ _ _) kX1_leastNumber rfl g395 rfl rfl rfl rfl dX1_takeDigit_64 ?_
    refine ev_icmp_lt 85 dX1_takeDigit_67 (by decide) (fun h67 => ?_) (fun h67 => ?_)
    · refine ev_iconst (nI 0) dX1_takeDigit_85 rfl ?_
      exact ev_ireturn dX1_takeDigit_86 (Nat.le_of_ble_eq_true rfl) ⟨by rw [okD_2 (fun q => absurd (nI_nlt q hN) (fun z => z h67))]; rfl, rfl⟩
    · refine ev_aload_n 0 dX1_takeDigit_70 rfl rfl ?_
      refine ev_getfield 6 dX1_takeDigit_71 foX1_28 rfl rfl ?_
      refine ev_aload_n 0 dX1_takeDigit_74 rfl rfl ?_
      refine ev_cV0 (c1_most _ _ _ _ _ _ _ _ _ _ _ _ _ _ (by omega) _ _ _ _ _) kX1_mostNumber rfl g399 rfl rfl rfl rfl dX1_takeDigit_75 ?_
      refine ev_icmp_gt 85 dX1_takeDigit_78 (by decide) (fun h78 => ?_) (fun h78 => ?_)
      · refine ev_iconst (nI 0) dX1_takeDigit_85 rfl ?_
        exact ev_ireturn dX1_takeDigit_86 (Nat.le_of_ble_eq_true rfl) ⟨by rw [okD_3 (fun q => absurd (nI_nlt q hM) (fun z => z h78))]; rfl, rfl⟩
      · refine ev_iconst (nI 1) dX1_takeDigit_81 rfl ?_
        refine ev_goto 86 dX1_takeDigit_82 (by decide) ?_
        exact ev_ireturn dX1_takeDigit_86 (Nat.le_of_ble_eq_true rfl) ⟨by rw [okD_t (bI_0.mp h56) (Nat.le_of_not_lt (fun q => h67 (nI_lt q hM0))) (Nat.le_of_not_lt (fun q => h78 (nI_lt q hN)))]; rfl, rfl⟩
def insP (l sp : Nat) (cl kd : Int32) (nb dg c : Nat) : Bool × PS :=
  if ln5 (shp l) ≤ sp then (false, ⟨some l, sp, cl, kd, nb, dg⟩)
  else if ch5 (shp l) sp = 110 then (if c < 48 then (false, ⟨some l, sp, cl, kd, nb, dg⟩) else if 57 < c then (false, ⟨some l, sp, cl, kd, nb, dg⟩) else (okD l nb dg (c - 48), ⟨some l, sp, cl, kd, nuN nb (c - 48), dg + 1⟩))
  else if ch5 (shp l) sp = 119 then (decide (48 ≤ c) && decide (c < 56), ⟨some l, sp + 1, nI c - nI 48, kd, nb, dg⟩)
  else if ch5 (shp l) sp = 107 then (decide (48 ≤ c) && decide (c < 54), ⟨some l, sp + 1, cl, nI c - nI 48, nb, dg⟩)
  else (decide (c = ch5 (shp l) sp), ⟨some l, sp + 1, cl, kd, nb, dg⟩)
theorem dg_neg : ∀ c, c < 48 → nI c - nI 48 < 0 := by decide +kernel
theorem cl_a : ∀ c, c < 128 → (nI c - nI 48 < 0 ↔ c < 48) := by decide +kernel
theorem cl_b : ∀ c, c < 128 → (nI 8 ≤ nI c - nI 48 ↔ 56 ≤ c ∨ False) := by decide +kernel
theorem cl_d : ∀ c, c < 128 → (nI 6 ≤ nI c - nI 48 ↔ 54 ≤ c ∨ False) := by decide +kernel
theorem b2_f1 {c m : Nat} (h : c < 48) : (decide (48 ≤ c) && decide (c < m)) = false := by rw [decide_eq_false (by omega), Bool.false_and]
theorem b2_f2 {c m : Nat} (h : m ≤ c) : (decide (48 ≤ c) && decide (c < m)) = false := by rw [decide_eq_false (p := c < m) (by omega), Bool.and_false]
theorem b2_t {c m : Nat} (h1 : ¬ c < 48) (h2 : ¬ m ≤ c) : (decide (48 ≤ c) && decide (c < m)) = true := by rw [decide_eq_true (by omega), decide_eq_true (by omega)]; rfl
set_option maxHeartbeats 1000000 in
theorem c1_inA (P : Nat → va_E) (cs sl pl ks rr : Nat → Int32) (n b : Nat) (sv : Nat → Nat) (sf τ : Nat → Int32) (T : Nat → Nat → Int32) (g : PW) (ℓ : Nat) {l : Nat} (hl : l < 128) (sp : Nat) (cl kd : Int32) (nb dg : Nat) (hb : nb < 100000) (hg : dg < 1000) {c : Nat} (hc : c < 128) (hs : sp < 10) (hA : ln5 (shp l) ≤ sp) : Ct mX1_takeInside [.ref 8, .int (nI c)] (hv P (tE ℓ (⟨some l, sp, cl, kd, nb, dg⟩)) cs sl pl ks rr n b sv sf τ T g) (d1 (some (.int (bI false))) (hv P (tE ℓ (⟨some l, sp, cl, kd, nb, dg⟩)) cs sl pl ks rr n b sv sf τ T g)) nx := by
  have hi : shp l < 5 := shp_5 l
  have h6 := ln5_s (shp l) hi
  refine ct_of 1 kX1_takeInside.1 rfl (Nat.le_of_ble_eq_true rfl) (fun v u h => by obtain ⟨rfl, rfl⟩ := h; exact bI_nar _) ?_
  show Ev _ _ _ 0 0 [(0, .ref 8), (1, .int (nI c))] [] _
  refine ev_aload_n 0 dX1_takeInside_0 rfl rfl ?_
  refine ev_getfield 2 dX1_takeInside_1 foX1_15 rfl rfl ?_
  refine ev_cS1 (c1_shape _ hl) kX1_shapeOf rfl g323 rfl rfl dX1_takeInside_4 ?_
  refine ev_astore_n 2 dX1_takeInside_7 rfl (Nat.le_of_ble_eq_true rfl) rfl ?_
  refine ev_aload_n 0 dX1_takeInside_8 rfl rfl ?_
  refine ev_getfield 3 dX1_takeInside_9 foX1_19 rfl rfl ?_
  refine ev_aload_n 2 dX1_takeInside_12 rfl rfl ?_
  refine ev_cT0 (j_length _ hi) kJ0_length_8abf5 rfl g343 rfl hi rfl rfl dX1_takeInside_13 ?_
  refine ev_icmp_lt 21 dX1_takeInside_16 (by decide) (fun h16 => absurd h16 (nI_nlt (a := sp) hA (by omega))) (fun h16 => ?_)
  refine ev_iconst (nI 0) dX1_takeInside_19 rfl ?_
  exact ev_ireturn dX1_takeInside_20 (Nat.le_of_ble_eq_true rfl) ⟨rfl, rfl⟩
set_option maxHeartbeats 1000000 in
theorem c1_inB1 (P : Nat → va_E) (cs sl pl ks rr : Nat → Int32) (n b : Nat) (sv : Nat → Nat) (sf τ : Nat → Int32) (T : Nat → Nat → Int32) (g : PW) (ℓ : Nat) {l : Nat} (hl : l < 128) (sp : Nat) (cl kd : Int32) (nb dg : Nat) (hb : nb < 100000) (hg : dg < 1000) {c : Nat} (hc : c < 128) (hs : sp < 10) (hA : sp < ln5 (shp l)) (hd : ch5 (shp l) sp = 110) (h : c < 48) : Ct mX1_takeInside [.ref 8, .int (nI c)] (hv P (tE ℓ (⟨some l, sp, cl, kd, nb, dg⟩)) cs sl pl ks rr n b sv sf τ T g) (d1 (some (.int (bI false))) (hv P (tE ℓ (⟨some l, sp, cl, kd, nb, dg⟩)) cs sl pl ks rr n b sv sf τ T g)) nx := by
  have hi : shp l < 5 := shp_5 l
  have h6 := ln5_s (shp l) hi
  refine ct_of 1 kX1_takeInside.1 rfl (Nat.le_of_ble_eq_true rfl) (fun v u h => by obtain ⟨rfl, rfl⟩ := h; exact bI_nar _) ?_
  show Ev _ _ _ 0 0 [(0, .ref 8), (1, .int (nI c))] [] _
  refine ev_aload_n 0 dX1_takeInside_0 rfl rfl ?_
  refine ev_getfield 2 dX1_takeInside_1 foX1_15 rfl rfl ?_
  refine ev_cS1 (c1_shape _ hl) kX1_shapeOf rfl g323 rfl rfl dX1_takeInside_4 ?_
  refine ev_astore_n 2 dX1_takeInside_7 rfl (Nat.le_of_ble_eq_true rfl) rfl ?_
  refine ev_aload_n 0 dX1_takeInside_8 rfl rfl ?_
  refine ev_getfield 3 dX1_takeInside_9 foX1_19 rfl rfl ?_
  refine ev_aload_n 2 dX1_takeInside_12 rfl rfl ?_
  refine ev_cT0 (j_length _ hi) kJ0_length_8abf5 rfl g343 rfl hi rfl rfl dX1_takeInside_13 ?_
  refine ev_icmp_lt 21 dX1_takeInside_16 (by decide) (fun h16 => ?_) (fun h16 => absurd (nI_lt hA (by omega)) h16)
  refine ev_aload_n 2 dX1_takeInside_21 rfl rfl ?_
  refine ev_aload_n 0 dX1_takeInside_22 rfl rfl ?_
  refine ev_getfield 3 dX1_takeInside_23 foX1_19 rfl rfl ?_
  refine ev_cT1 (j_charAt _ hi hA) kJ0_charAt_5068e rfl g353 rfl hi rfl rfl dX1_takeInside_26 ?_
  refine ev_istore_n 3 dX1_takeInside_29 rfl (Nat.le_of_ble_eq_true rfl) rfl ?_
  refine ev_iload_n 3 dX1_takeInside_30 rfl rfl ?_
  refine ev_bipush (nI 110) dX1_takeInside_31 rfl ?_
  refine ev_icmp_ne 45 dX1_takeInside_33 (by decide) (fun h33 => absurd (congrArg nI hd) h33) (fun h33 => ?_)
  refine ev_aload_n 0 dX1_takeInside_36 rfl rfl ?_
  refine ev_iload_n 1 dX1_takeInside_37 rfl rfl ?_
  refine ev_bipush (nI 48) dX1_takeInside_38 rfl ?_
  refine ev_isub dX1_takeInside_40 ?_
  refine ev_cV1 (c1_digN _ _ _ _ _ _ _ _ _ _ _ _ _ _ hl _ _ _ _ _ (dg_neg c h)) kX1_takeDigit rfl g391 rfl rfl rfl rfl dX1_takeInside_41 ?_
  exact ev_ireturn dX1_takeInside_44 (Nat.le_of_ble_eq_true rfl) ⟨rfl, rfl⟩
set_option maxHeartbeats 1000000 in
theorem c1_inB2 (P : Nat → va_E) (cs sl pl ks rr : Nat → Int32) (n b : Nat) (sv : Nat → Nat) (sf τ : Nat → Int32) (T : Nat → Nat → Int32) (g : PW) (ℓ : Nat) {l : Nat} (hl : l < 128) (sp : Nat) (cl kd : Int32) (nb dg : Nat) (hb : nb < 100000) (hg : dg < 1000) {c : Nat} (hc : c < 128) (hs : sp < 10) (hA : sp < ln5 (shp l)) (hd : ch5 (shp l) sp = 110) (h : 57 < c) : Ct mX1_takeInside [.ref 8, .int (nI c)] (hv P (tE ℓ (⟨some l, sp, cl, kd, nb, dg⟩)) cs sl pl ks rr n b sv sf τ T g) (d1 (some (.int (bI false))) (hv P (tE ℓ (⟨some l, sp, cl, kd, nb, dg⟩)) cs sl pl ks rr n b sv sf τ T g)) nx := by
  have hi : shp l < 5 := shp_5 l
  have h6 := ln5_s (shp l) hi
  refine ct_of 1 kX1_takeInside.1 rfl (Nat.le_of_ble_eq_true rfl) (fun v u h => by obtain ⟨rfl, rfl⟩ := h; exact bI_nar _) ?_
  show Ev _ _ _ 0 0 [(0, .ref 8), (1, .int (nI c))] [] _
  refine ev_aload_n 0 dX1_takeInside_0 rfl rfl ?_
  refine ev_getfield 2 dX1_takeInside_1 foX1_15 rfl rfl ?_
  refine ev_cS1 (c1_shape _ hl) kX1_shapeOf rfl g323 rfl rfl dX1_takeInside_4 ?_
  refine ev_astore_n 2 dX1_takeInside_7 rfl (Nat.le_of_ble_eq_true rfl) rfl ?_
  refine ev_aload_n 0 dX1_takeInside_8 rfl rfl ?_
  refine ev_getfield 3 dX1_takeInside_9 foX1_19 rfl rfl ?_
  refine ev_aload_n 2 dX1_takeInside_12 rfl rfl ?_
  refine ev_cT0 (j_length _ hi) kJ0_length_8abf5 rfl g343 rfl hi rfl rfl dX1_takeInside_13 ?_
  refine ev_icmp_lt 21 dX1_takeInside_16 (by decide) (fun h16 => ?_) (fun h16 => absurd (nI_lt hA (by omega)) h16)
  refine ev_aload_n 2 dX1_takeInside_21 rfl rfl ?_
  refine ev_aload_n 0 dX1_takeInside_22 rfl rfl ?_
  refine ev_getfield 3 dX1_takeInside_23 foX1_19 rfl rfl ?_
  refine ev_cT1 (j_charAt _ hi hA) kJ0_charAt_5068e rfl g353 rfl hi rfl rfl dX1_takeInside_26 ?_
  refine ev_istore_n 3 dX1_takeInside_29 rfl (Nat.le_of_ble_eq_true rfl) rfl ?_
  refine ev_iload_n 3 dX1_takeInside_30 rfl rfl ?_
  refine ev_bipush (nI 110) dX1_takeInside_31 rfl ?_
  refine ev_icmp_ne 45 dX1_takeInside_33 (by decide) (fun h33 => absurd (congrArg nI hd) h33) (fun h33 => ?_)
  refine ev_aload_n 0 dX1_takeInside_36 rfl rfl ?_
  refine ev_iload_n 1 dX1_takeInside_37 rfl rfl ?_
  refine ev_bipush (nI 48) dX1_takeInside_38 rfl ?_
  refine ev_isub dX1_takeInside_40 ?_
  refine ev_top (nI (c - 48)) (pk_sub (by omega)) ?_
  refine ev_cV1 (c1_digB _ _ _ _ _ _ _ _ _ _ _ _ _ _ hl _ _ _ _ _ (by omega) (by omega)) kX1_takeDigit rfl g391 rfl rfl rfl rfl dX1_takeInside_41 ?_
  exact ev_ireturn dX1_takeInside_44 (Nat.le_of_ble_eq_true rfl) ⟨rfl, rfl⟩
set_option maxHeartbeats 1000000 in
theorem c1_inB3 (P : Nat → va_E) (cs sl pl ks rr : Nat → Int32) (n b : Nat) (sv : Nat → Nat) (sf τ : Nat → Int32) (T : Nat → Nat → Int32) (g : PW) (ℓ : Nat) {l : Nat} (hl : l < 128) (sp : Nat) (cl kd : Int32) (nb dg : Nat) (hb : nb < 100000) (hg : dg < 1000) {c : Nat} (hc : c < 128) (hs : sp < 10) (hA : sp < ln5 (shp l)) (hd : ch5 (shp l) sp = 110) (h : ¬ c < 48) (h2 : ¬ 57 < c) : Ct mX1_takeInside [.ref 8, .int (nI c)] (hv P (tE ℓ (⟨some l, sp, cl, kd, nb, dg⟩)) cs sl pl ks rr n b sv sf τ T g) (d1 (some (.int (bI (okD l nb dg (c - 48))))) (hv P (tE ℓ (⟨some l, sp, cl, kd, nuN nb (c - 48), dg + 1⟩)) cs sl pl ks rr n b sv sf τ T g)) nx := by
  have hi : shp l < 5 := shp_5 l
  have h6 := ln5_s (shp l) hi
  refine ct_of 1 kX1_takeInside.1 rfl (Nat.le_of_ble_eq_true rfl) (fun v u h => by obtain ⟨rfl, rfl⟩ := h; exact bI_nar _) ?_
  show Ev _ _ _ 0 0 [(0, .ref 8), (1, .int (nI c))] [] _
  refine ev_aload_n 0 dX1_takeInside_0 rfl rfl ?_
  refine ev_getfield 2 dX1_takeInside_1 foX1_15 rfl rfl ?_
  refine ev_cS1 (c1_shape _ hl) kX1_shapeOf rfl g323 rfl rfl dX1_takeInside_4 ?_
  refine ev_astore_n 2 dX1_takeInside_7 rfl (Nat.le_of_ble_eq_true rfl) rfl ?_
  refine ev_aload_n 0 dX1_takeInside_8 rfl rfl ?_
  refine ev_getfield 3 dX1_takeInside_9 foX1_19 rfl rfl ?_
  refine ev_aload_n 2 dX1_takeInside_12 rfl rfl ?_
  refine ev_cT0 (j_length _ hi) kJ0_length_8abf5 rfl g343 rfl hi rfl rfl dX1_takeInside_13 ?_
  refine ev_icmp_lt 21 dX1_takeInside_16 (by decide) (fun h16 => ?_) (fun h16 => absurd (nI_lt hA (by omega)) h16)
  refine ev_aload_n 2 dX1_takeInside_21 rfl rfl ?_
  refine ev_aload_n 0 dX1_takeInside_22 rfl rfl ?_
  refine ev_getfield 3 dX1_takeInside_23 foX1_19 rfl rfl ?_
  refine ev_cT1 (j_charAt _ hi hA) kJ0_charAt_5068e rfl g353 rfl hi rfl rfl dX1_takeInside_26 ?_
  refine ev_istore_n 3 dX1_takeInside_29 rfl (Nat.le_of_ble_eq_true rfl) rfl ?_
  refine ev_iload_n 3 dX1_takeInside_30 rfl rfl ?_
  refine ev_bipush (nI 110) dX1_takeInside_31 rfl ?_
  refine ev_icmp_ne 45 dX1_takeInside_33 (by decide) (fun h33 => absurd (congrArg nI hd) h33) (fun h33 => ?_)
  refine ev_aload_n 0 dX1_takeInside_36 rfl rfl ?_
  refine ev_iload_n 1 dX1_takeInside_37 rfl rfl ?_
  refine ev_bipush (nI 48) dX1_takeInside_38 rfl ?_
  refine ev_isub dX1_takeInside_40 ?_
  refine ev_top (nI (c - 48)) (pk_sub (by omega)) ?_
  refine ev_cV1 (c1_digit _ _ _ _ _ _ _ _ _ _ _ _ _ _ hl _ _ _ _ _ hb hg (by omega)) kX1_takeDigit rfl g391 rfl rfl rfl rfl dX1_takeInside_41 ?_
  exact ev_ireturn dX1_takeInside_44 (Nat.le_of_ble_eq_true rfl) ⟨rfl, rfl⟩
set_option maxHeartbeats 1000000 in
theorem c1_inC (P : Nat → va_E) (cs sl pl ks rr : Nat → Int32) (n b : Nat) (sv : Nat → Nat) (sf τ : Nat → Int32) (T : Nat → Nat → Int32) (g : PW) (ℓ : Nat) {l : Nat} (hl : l < 128) (sp : Nat) (cl kd : Int32) (nb dg : Nat) (hb : nb < 100000) (hg : dg < 1000) {c : Nat} (hc : c < 128) (hs : sp < 10) (hA : sp < ln5 (shp l)) (hd : ¬ ch5 (shp l) sp = 110) (hw : ch5 (shp l) sp = 119) : Ct mX1_takeInside [.ref 8, .int (nI c)] (hv P (tE ℓ (⟨some l, sp, cl, kd, nb, dg⟩)) cs sl pl ks rr n b sv sf τ T g) (d1 (some (.int (bI (decide (48 ≤ c) && decide (c < 56))))) (hv P (tE ℓ (⟨some l, sp + 1, nI c - nI 48, kd, nb, dg⟩)) cs sl pl ks rr n b sv sf τ T g)) nx := by
  have hi : shp l < 5 := shp_5 l
  have h6 := ln5_s (shp l) hi
  have hx := ch5_l (shp l) hi sp (by omega)
  refine ct_of 1 kX1_takeInside.1 rfl (Nat.le_of_ble_eq_true rfl) (fun v u h => by obtain ⟨rfl, rfl⟩ := h; exact bI_nar _) ?_
  show Ev _ _ _ 0 0 [(0, .ref 8), (1, .int (nI c))] [] _
  refine ev_aload_n 0 dX1_takeInside_0 rfl rfl ?_
  refine ev_getfield 2 dX1_takeInside_1 foX1_15 rfl rfl ?_
  refine ev_cS1 (c1_shape _ hl) kX1_shapeOf rfl g323 rfl rfl dX1_takeInside_4 ?_
  refine ev_astore_n 2 dX1_takeInside_7 rfl (Nat.le_of_ble_eq_true rfl) rfl ?_
  refine ev_aload_n 0 dX1_takeInside_8 rfl rfl ?_
  refine ev_getfield 3 dX1_takeInside_9 foX1_19 rfl rfl ?_
  refine ev_aload_n 2 dX1_takeInside_12 rfl rfl ?_
  refine ev_cT0 (j_length _ hi) kJ0_length_8abf5 rfl g343 rfl hi rfl rfl dX1_takeInside_13 ?_
  refine ev_icmp_lt 21 dX1_takeInside_16 (by decide) (fun h16 => ?_) (fun h16 => absurd (nI_lt hA (by omega)) h16)
  refine ev_aload_n 2 dX1_takeInside_21 rfl rfl ?_
  refine ev_aload_n 0 dX1_takeInside_22 rfl rfl ?_
  refine ev_getfield 3 dX1_takeInside_23 foX1_19 rfl rfl ?_
  refine ev_cT1 (j_charAt _ hi hA) kJ0_charAt_5068e rfl g353 rfl hi rfl rfl dX1_takeInside_26 ?_
  refine ev_istore_n 3 dX1_takeInside_29 rfl (Nat.le_of_ble_eq_true rfl) rfl ?_
  refine ev_iload_n 3 dX1_takeInside_30 rfl rfl ?_
  refine ev_bipush (nI 110) dX1_takeInside_31 rfl ?_
  refine ev_icmp_ne 45 dX1_takeInside_33 (by decide) (fun h33 => ?_) (fun h33 => absurd h33 (fun q => hd ((nI_eq (by omega) (by omega)).mp q)))
  refine ev_aload_n 0 dX1_takeInside_45 rfl rfl ?_
  refine ev_dup dX1_takeInside_46 rfl ?_
  refine ev_getfield 3 dX1_takeInside_47 foX1_19 rfl rfl ?_
  refine ev_iconst (nI 1) dX1_takeInside_50 rfl ?_
  refine ev_iadd dX1_takeInside_51 ?_
  refine ev_top (nI (sp + 1)) (nI_add sp 1) ?_
  refine ev_putfield 3 dX1_takeInside_52 fpX1_19 rfl (Nat.le_of_ble_eq_true rfl) (fun _ => rfl) (fun _ => rfl) (hv_te _ _ _ _ _ _ _ _ _ _ _ _ _ _ (tE ℓ (⟨some l, sp + 1, cl, kd, nb, dg⟩))) ?_
  refine ev_iload_n 3 dX1_takeInside_55 rfl rfl ?_
  refine ev_bipush (nI 119) dX1_takeInside_56 rfl ?_
  refine ev_icmp_ne 91 dX1_takeInside_58 (by decide) (fun h58 => absurd (congrArg nI hw) h58) (fun h58 => ?_)
  refine ev_aload_n 0 dX1_takeInside_61 rfl rfl ?_
  refine ev_iload_n 1 dX1_takeInside_62 rfl rfl ?_
  refine ev_bipush (nI 48) dX1_takeInside_63 rfl ?_
  refine ev_isub dX1_takeInside_65 ?_
  refine ev_putfield 4 dX1_takeInside_66 fpX1_22 rfl (Nat.le_of_ble_eq_true rfl) (fun _ => rfl) (fun _ => rfl) (hv_te _ _ _ _ _ _ _ _ _ _ _ _ _ _ (tE ℓ (⟨some l, sp + 1, nI c - nI 48, kd, nb, dg⟩))) ?_
  refine ev_aload_n 0 dX1_takeInside_69 rfl rfl ?_
  refine ev_getfield 4 dX1_takeInside_70 foX1_22 rfl rfl ?_
  refine ev_if_lt 89 dX1_takeInside_73 (by decide) (fun h73 => ?_) (fun h73 => ?_)
  · refine ev_iconst (nI 0) dX1_takeInside_89 rfl ?_
    exact ev_ireturn dX1_takeInside_90 (Nat.le_of_ble_eq_true rfl) ⟨by first | (rw [b2_f1 ((cl_a c hc).mp h73)]; rfl) | (rw [b2_f2 ((((cl_b c hc).mp h82)).resolve_right id)]; rfl) | (rw [b2_t (fun q => h73 ((cl_a c hc).mpr q)) (fun q => h82 ((cl_b c hc).mpr (Or.inl q)))]; rfl), rfl⟩
  · refine ev_aload_n 0 dX1_takeInside_76 rfl rfl ?_
    refine ev_getfield 4 dX1_takeInside_77 foX1_22 rfl rfl ?_
    refine ev_bipush (nI 8) dX1_takeInside_80 rfl ?_
    refine ev_icmp_ge 89 dX1_takeInside_82 (by decide) (fun h82 => ?_) (fun h82 => ?_)
    · refine ev_iconst (nI 0) dX1_takeInside_89 rfl ?_
      exact ev_ireturn dX1_takeInside_90 (Nat.le_of_ble_eq_true rfl) ⟨by first | (rw [b2_f1 ((cl_a c hc).mp h73)]; rfl) | (rw [b2_f2 ((((cl_b c hc).mp h82)).resolve_right id)]; rfl) | (rw [b2_t (fun q => h73 ((cl_a c hc).mpr q)) (fun q => h82 ((cl_b c hc).mpr (Or.inl q)))]; rfl), rfl⟩
    · refine ev_iconst (nI 1) dX1_takeInside_85 rfl ?_
      refine ev_goto 90 dX1_takeInside_86 (by decide) ?_
      exact ev_ireturn dX1_takeInside_90 (Nat.le_of_ble_eq_true rfl) ⟨by first | (rw [b2_f1 ((cl_a c hc).mp h73)]; rfl) | (rw [b2_f2 ((((cl_b c hc).mp h82)).resolve_right id)]; rfl) | (rw [b2_t (fun q => h73 ((cl_a c hc).mpr q)) (fun q => h82 ((cl_b c hc).mpr (Or.inl q)))]; rfl), rfl⟩
set_option maxHeartbeats 1000000 in
theorem c1_inD (P : Nat → va_E) (cs sl pl ks rr : Nat → Int32) (n b : Nat) (sv : Nat → Nat) (sf τ : Nat → Int32) (T : Nat → Nat → Int32) (g : PW) (ℓ : Nat) {l : Nat} (hl : l < 128) (sp : Nat) (cl kd : Int32) (nb dg : Nat) (hb : nb < 100000) (hg : dg < 1000) {c : Nat} (hc : c < 128) (hs : sp < 10) (hA : sp < ln5 (shp l)) (hd : ¬ ch5 (shp l) sp = 110) (hw0 : ¬ ch5 (shp l) sp = 119) (hw : ch5 (shp l) sp = 107) : Ct mX1_takeInside [.ref 8, .int (nI c)] (hv P (tE ℓ (⟨some l, sp, cl, kd, nb, dg⟩)) cs sl pl ks rr n b sv sf τ T g) (d1 (some (.int (bI (decide (48 ≤ c) && decide (c < 54))))) (hv P (tE ℓ (⟨some l, sp + 1, cl, nI c - nI 48, nb, dg⟩)) cs sl pl ks rr n b sv sf τ T g)) nx := by
  have hi : shp l < 5 := shp_5 l
  have h6 := ln5_s (shp l) hi
  have hx := ch5_l (shp l) hi sp (by omega)
  refine ct_of 1 kX1_takeInside.1 rfl (Nat.le_of_ble_eq_true rfl) (fun v u h => by obtain ⟨rfl, rfl⟩ := h; exact bI_nar _) ?_
  show Ev _ _ _ 0 0 [(0, .ref 8), (1, .int (nI c))] [] _
  refine ev_aload_n 0 dX1_takeInside_0 rfl rfl ?_
  refine ev_getfield 2 dX1_takeInside_1 foX1_15 rfl rfl ?_
  refine ev_cS1 (c1_shape _ hl) kX1_shapeOf rfl g323 rfl rfl dX1_takeInside_4 ?_
  refine ev_astore_n 2 dX1_takeInside_7 rfl (Nat.le_of_ble_eq_true rfl) rfl ?_
  refine ev_aload_n 0 dX1_takeInside_8 rfl rfl ?_
  refine ev_getfield 3 dX1_takeInside_9 foX1_19 rfl rfl ?_
  refine ev_aload_n 2 dX1_takeInside_12 rfl rfl ?_
  refine ev_cT0 (j_length _ hi) kJ0_length_8abf5 rfl g343 rfl hi rfl rfl dX1_takeInside_13 ?_
  refine ev_icmp_lt 21 dX1_takeInside_16 (by decide) (fun h16 => ?_) (fun h16 => absurd (nI_lt hA (by omega)) h16)
  refine ev_aload_n 2 dX1_takeInside_21 rfl rfl ?_
  refine ev_aload_n 0 dX1_takeInside_22 rfl rfl ?_
  refine ev_getfield 3 dX1_takeInside_23 foX1_19 rfl rfl ?_
  refine ev_cT1 (j_charAt _ hi hA) kJ0_charAt_5068e rfl g353 rfl hi rfl rfl dX1_takeInside_26 ?_
  refine ev_istore_n 3 dX1_takeInside_29 rfl (Nat.le_of_ble_eq_true rfl) rfl ?_
  refine ev_iload_n 3 dX1_takeInside_30 rfl rfl ?_
  refine ev_bipush (nI 110) dX1_takeInside_31 rfl ?_
  refine ev_icmp_ne 45 dX1_takeInside_33 (by decide) (fun h33 => ?_) (fun h33 => absurd h33 (fun q => hd ((nI_eq (by omega) (by omega)).mp q)))
  refine ev_aload_n 0 dX1_takeInside_45 rfl rfl ?_
  refine ev_dup dX1_takeInside_46 rfl ?_
  refine ev_getfield 3 dX1_takeInside_47 foX1_19 rfl rfl ?_
  refine ev_iconst (nI 1) dX1_takeInside_50 rfl ?_
  refine ev_iadd dX1_takeInside_51 ?_
  refine ev_top (nI (sp + 1)) (nI_add sp 1) ?_
  refine ev_putfield 3 dX1_takeInside_52 fpX1_19 rfl (Nat.le_of_ble_eq_true rfl) (fun _ => rfl) (fun _ => rfl) (hv_te _ _ _ _ _ _ _ _ _ _ _ _ _ _ (tE ℓ (⟨some l, sp + 1, cl, kd, nb, dg⟩))) ?_
  refine ev_iload_n 3 dX1_takeInside_55 rfl rfl ?_
  refine ev_bipush (nI 119) dX1_takeInside_56 rfl ?_
  refine ev_icmp_ne 91 dX1_takeInside_58 (by decide) (fun h58 => ?_) (fun h58 => absurd h58 (fun q => hw0 ((nI_eq (by omega) (by omega)).mp q)))
  refine ev_iload_n 3 dX1_takeInside_91 rfl rfl ?_
  refine ev_bipush (nI 107) dX1_takeInside_92 rfl ?_
  refine ev_icmp_ne 127 dX1_takeInside_94 (by decide) (fun h94 => absurd (congrArg nI hw) h94) (fun h94 => ?_)
  refine ev_aload_n 0 dX1_takeInside_97 rfl rfl ?_
  refine ev_iload_n 1 dX1_takeInside_98 rfl rfl ?_
  refine ev_bipush (nI 48) dX1_takeInside_99 rfl ?_
  refine ev_isub dX1_takeInside_101 ?_
  refine ev_putfield 5 dX1_takeInside_102 fpX1_25 rfl (Nat.le_of_ble_eq_true rfl) (fun _ => rfl) (fun _ => rfl) (hv_te _ _ _ _ _ _ _ _ _ _ _ _ _ _ (tE ℓ (⟨some l, sp + 1, cl, nI c - nI 48, nb, dg⟩))) ?_
  refine ev_aload_n 0 dX1_takeInside_105 rfl rfl ?_
  refine ev_getfield 5 dX1_takeInside_106 foX1_25 rfl rfl ?_
  refine ev_if_lt 125 dX1_takeInside_109 (by decide) (fun h109 => ?_) (fun h109 => ?_)
  · refine ev_iconst (nI 0) dX1_takeInside_125 rfl ?_
    exact ev_ireturn dX1_takeInside_126 (Nat.le_of_ble_eq_true rfl) ⟨by first | (rw [b2_f1 ((cl_a c hc).mp h109)]; rfl) | (rw [b2_f2 ((((cl_d c hc).mp h118)).resolve_right id)]; rfl) | (rw [b2_t (fun q => h109 ((cl_a c hc).mpr q)) (fun q => h118 ((cl_d c hc).mpr (Or.inl q)))]; rfl), rfl⟩
  · refine ev_aload_n 0 dX1_takeInside_112 rfl rfl ?_
    refine ev_getfield 5 dX1_takeInside_113 foX1_25 rfl rfl ?_
    refine ev_bipush (nI 6) dX1_takeInside_116 rfl ?_
    refine ev_icmp_ge 125 dX1_takeInside_118 (by decide) (fun h118 => ?_) (fun h118 => ?_)
    · refine ev_iconst (nI 0) dX1_takeInside_125 rfl ?_
      exact ev_ireturn dX1_takeInside_126 (Nat.le_of_ble_eq_true rfl) ⟨by first | (rw [b2_f1 ((cl_a c hc).mp h109)]; rfl) | (rw [b2_f2 ((((cl_d c hc).mp h118)).resolve_right id)]; rfl) | (rw [b2_t (fun q => h109 ((cl_a c hc).mpr q)) (fun q => h118 ((cl_d c hc).mpr (Or.inl q)))]; rfl), rfl⟩
    · refine ev_iconst (nI 1) dX1_takeInside_121 rfl ?_
      refine ev_goto 126 dX1_takeInside_122 (by decide) ?_
      exact ev_ireturn dX1_takeInside_126 (Nat.le_of_ble_eq_true rfl) ⟨by first | (rw [b2_f1 ((cl_a c hc).mp h109)]; rfl) | (rw [b2_f2 ((((cl_d c hc).mp h118)).resolve_right id)]; rfl) | (rw [b2_t (fun q => h109 ((cl_a c hc).mpr q)) (fun q => h118 ((cl_d c hc).mpr (Or.inl q)))]; rfl), rfl⟩
set_option maxHeartbeats 1000000 in
theorem c1_inE (P : Nat → va_E) (cs sl pl ks rr : Nat → Int32) (n b : Nat) (sv : Nat → Nat) (sf τ : Nat → Int32) (T : Nat → Nat → Int32) (g : PW) (ℓ : Nat) {l : Nat} (hl : l < 128) (sp : Nat) (cl kd : Int32) (nb dg : Nat) (hb : nb < 100000) (hg : dg < 1000) {c : Nat} (hc : c < 128) (hs : sp < 10) (hA : sp < ln5 (shp l)) (hd : ¬ ch5 (shp l) sp = 110) (hw0 : ¬ ch5 (shp l) sp = 119) (hw1 : ¬ ch5 (shp l) sp = 107) : Ct mX1_takeInside [.ref 8, .int (nI c)] (hv P (tE ℓ (⟨some l, sp, cl, kd, nb, dg⟩)) cs sl pl ks rr n b sv sf τ T g) (d1 (some (.int (bI (decide (c = ch5 (shp l) sp))))) (hv P (tE ℓ (⟨some l, sp + 1, cl, kd, nb, dg⟩)) cs sl pl ks rr n b sv sf τ T g)) nx := by
  have hi : shp l < 5 := shp_5 l
  have h6 := ln5_s (shp l) hi
  have hx := ch5_l (shp l) hi sp (by omega)
  refine ct_of 1 kX1_takeInside.1 rfl (Nat.le_of_ble_eq_true rfl) (fun v u h => by obtain ⟨rfl, rfl⟩ := h; exact bI_nar _) ?_
  show Ev _ _ _ 0 0 [(0, .ref 8), (1, .int (nI c))] [] _
  refine ev_aload_n 0 dX1_takeInside_0 rfl rfl ?_
  refine ev_getfield 2 dX1_takeInside_1 foX1_15 rfl rfl ?_
  refine ev_cS1 (c1_shape _ hl) kX1_shapeOf rfl g323 rfl rfl dX1_takeInside_4 ?_
  refine ev_astore_n 2 dX1_takeInside_7 rfl (Nat.le_of_ble_eq_true rfl) rfl ?_
  refine ev_aload_n 0 dX1_takeInside_8 rfl rfl ?_
  refine ev_getfield 3 dX1_takeInside_9 foX1_19 rfl rfl ?_
  refine ev_aload_n 2 dX1_takeInside_12 rfl rfl ?_
  refine ev_cT0 (j_length _ hi) kJ0_length_8abf5 rfl g343 rfl hi rfl rfl dX1_takeInside_13 ?_
  refine ev_icmp_lt 21 dX1_takeInside_16 (by decide) (fun h16 => ?_) (fun h16 => absurd (nI_lt hA (by omega)) h16)
  refine ev_aload_n 2 dX1_takeInside_21 rfl rfl ?_
  refine ev_aload_n 0 dX1_takeInside_22 rfl rfl ?_
  refine ev_getfield 3 dX1_takeInside_23 foX1_19 rfl rfl ?_
  refine ev_cT1 (j_charAt _ hi hA) kJ0_charAt_5068e rfl g353 rfl hi rfl rfl dX1_takeInside_26 ?_
  refine ev_istore_n 3 dX1_takeInside_29 rfl (Nat.le_of_ble_eq_true rfl) rfl ?_
  refine ev_iload_n 3 dX1_takeInside_30 rfl rfl ?_
  refine ev_bipush (nI 110) dX1_takeInside_31 rfl ?_
  refine ev_icmp_ne 45 dX1_takeInside_33 (by decide) (fun h33 => ?_) (fun h33 => absurd h33 (fun q => hd ((nI_eq (by omega) (by omega)).mp q)))
  refine ev_aload_n 0 dX1_takeInside_45 rfl rfl ?_
  refine ev_dup dX1_takeInside_46 rfl ?_
  refine ev_getfield 3 dX1_takeInside_47 foX1_19 rfl rfl ?_
  refine ev_iconst (nI 1) dX1_takeInside_50 rfl ?_
  refine ev_iadd dX1_takeInside_51 ?_
  refine ev_top (nI (sp + 1)) (nI_add sp 1) ?_
  refine ev_putfield 3 dX1_takeInside_52 fpX1_19 rfl (Nat.le_of_ble_eq_true rfl) (fun _ => rfl) (fun _ => rfl) (hv_te _ _ _ _ _ _ _ _ _ _ _ _ _ _ (tE ℓ (⟨some l, sp + 1, cl, kd, nb, dg⟩))) ?_
  refine ev_iload_n 3 dX1_takeInside_55 rfl rfl ?_
  refine ev_bipush (nI 119) dX1_takeInside_56 rfl ?_
  refine ev_icmp_ne 91 dX1_takeInside_58 (by decide) (fun h58 => ?_) (fun h58 => absurd h58 (fun q => hw0 ((nI_eq (by omega) (by omega)).mp q)))
  refine ev_iload_n 3 dX1_takeInside_91 rfl rfl ?_
  refine ev_bipush (nI 107) dX1_takeInside_92 rfl ?_
  refine ev_icmp_ne 127 dX1_takeInside_94 (by decide) (fun h94 => ?_) (fun h94 => absurd h94 (fun q => hw1 ((nI_eq (by omega) (by omega)).mp q)))
  refine ev_iload_n 1 dX1_takeInside_127 rfl rfl ?_
  refine ev_iload_n 3 dX1_takeInside_128 rfl rfl ?_
  refine ev_icmp_ne 136 dX1_takeInside_129 (by decide) (fun h129 => ?_) (fun h129 => ?_)
  · refine ev_iconst (nI 0) dX1_takeInside_136 rfl ?_
    exact ev_ireturn dX1_takeInside_137 (Nat.le_of_ble_eq_true rfl) ⟨by first | (rw [decide_eq_false (fun q : c = ch5 (shp l) sp => h129 (congrArg nI q))]; rfl) | (rw [decide_eq_true ((nI_eq (a := c) (b := ch5 (shp l) sp) (by omega) (by omega)).mp h129)]; rfl), rfl⟩
  · refine ev_iconst (nI 1) dX1_takeInside_132 rfl ?_
    refine ev_goto 137 dX1_takeInside_133 (by decide) ?_
    exact ev_ireturn dX1_takeInside_137 (Nat.le_of_ble_eq_true rfl) ⟨by first | (rw [decide_eq_false (fun q : c = ch5 (shp l) sp => h129 (congrArg nI q))]; rfl) | (rw [decide_eq_true ((nI_eq (a := c) (b := ch5 (shp l) sp) (by omega) (by omega)).mp h129)]; rfl), rfl⟩
theorem c1_inside (P : Nat → va_E) (cs sl pl ks rr : Nat → Int32) (n b : Nat) (sv : Nat → Nat) (sf τ : Nat → Int32) (T : Nat → Nat → Int32) (g : PW) (ℓ : Nat) {l : Nat} (hl : l < 128) (sp : Nat) (cl kd : Int32) (nb dg : Nat) (hb : nb < 100000) (hg : dg < 1000) {c : Nat} (hc : c < 128) (hs : sp < 10) : Ct mX1_takeInside [.ref 8, .int (nI c)] (hv P (tE ℓ (⟨some l, sp, cl, kd, nb, dg⟩)) cs sl pl ks rr n b sv sf τ T g) (d1 (some (.int (bI (insP l sp cl kd nb dg c).1))) (hv P (tE ℓ ((insP l sp cl kd nb dg c).2)) cs sl pl ks rr n b sv sf τ T g)) nx := by
  by_cases hA : ln5 (shp l) ≤ sp
  · simp only [insP, if_pos hA]
    exact c1_inA _ _ _ _ _ _ _ _ _ _ _ _ _ _ hl _ _ _ _ _ hb hg hc hs hA
  by_cases hd : ch5 (shp l) sp = 110
  · by_cases h : c < 48
    · simp only [insP, if_neg hA, if_pos hd, if_pos h]
      exact c1_inB1 _ _ _ _ _ _ _ _ _ _ _ _ _ _ hl _ _ _ _ _ hb hg hc hs (by omega) hd h
    by_cases h2 : 57 < c
    · simp only [insP, if_neg hA, if_pos hd, if_neg h, if_pos h2]
      exact c1_inB2 _ _ _ _ _ _ _ _ _ _ _ _ _ _ hl _ _ _ _ _ hb hg hc hs (by omega) hd h2
    · simp only [insP, if_neg hA, if_pos hd, if_neg h, if_neg h2]
      exact c1_inB3 _ _ _ _ _ _ _ _ _ _ _ _ _ _ hl _ _ _ _ _ hb hg hc hs (by omega) hd h h2
  by_cases hw : ch5 (shp l) sp = 119
  · simp only [insP, if_neg hA, if_neg hd, if_pos hw]
    exact c1_inC _ _ _ _ _ _ _ _ _ _ _ _ _ _ hl _ _ _ _ _ hb hg hc hs (by omega) hd hw
  by_cases hw1 : ch5 (shp l) sp = 107
  · simp only [insP, if_neg hA, if_neg hd, if_neg hw, if_pos hw1]
    exact c1_inD _ _ _ _ _ _ _ _ _ _ _ _ _ _ hl _ _ _ _ _ hb hg hc hs (by omega) hd hw hw1
  · simp only [insP, if_neg hA, if_neg hd, if_neg hw, if_neg hw1]
    exact c1_inE _ _ _ _ _ _ _ _ _ _ _ _ _ _ hl _ _ _ _ _ hb hg hc hs (by omega) hd hw hw1
