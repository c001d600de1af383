/-! ===== the class: the share, the digest ===== -/
theorem ev_topL {M : MT} {po : PO} {px : PX} {k pc : Nat} {L : LV} {x : Int64} (y : Int64) {st : List Value} {w : PW} (h : x = y) (kk : Ev M po px k pc L (.long y :: st) w) : Ev M po px k pc L (.long x :: st) w := by rw [h]; exact kk
def mx (h v : Int64) : Int64 := lN 31 * h + v
def mxL (h : Int64) (l : List Int32) : Int64 := l.foldl (fun h x => mx h x.toInt64) h
def usS (τ : Nat → Int32) : UInt64 := if cvS τ 8 = 0 then FP.dconst0 else useD τ
def hkS (τ : Nat → Int32) (h : Int64) (k : Nat) : Int64 := mxL h [τ k, τ (6 + k), pldS τ k 8, τ (12 + k)]
def hpF (τ : Nat → Int32) (c : Nat) (h : Int64) : Nat → Int64
  | 0 => h
  | n + 1 => mx (hpF τ c h n) (τ (ix c n)).toInt64
def hpS (τ : Nat → Int32) (h : Int64) (c : Nat) : Int64 := mxL (hpF τ c h 6) [τ (ix c 6), τ (ix c 7), worS τ c 6, covI τ c (nI 0) (nI 1), opnS τ c]
abbrev SL3 := (Nat → Int32) × ((Nat → Int32) × (Nat → Int32))
def rqS (τ : Nat → Int32) (q : SL3) (c : Nat) : SL3 := (rkE (rkS τ q.1 q.2.1 q.2.2 c (nP τ c 6)).1, ((rkS τ q.1 q.2.1 q.2.2 c (nP τ c 6)).2, layK τ q.2.2 6))
def hoS (τ : Nat → Int32) (q : SL3) (h : Int64) (c : Nat) : Int64 := mxL h [bI (isK τ c), τ (ix c 8), τ (ix c 9), rplS τ c 8, tryS τ c + nI 1, hlvS τ c + nI 1, (rqS τ q c).1 3, (rqS τ q c).1 5]
def dgK (τ : Nat → Int32) : Nat → Int64
  | 0 => lN 4397
  | n + 1 => hkS τ (dgK τ n) n
def dgS (τ : Nat → Int32) (q : SL3) : Nat → SL3 × Int64
  | 0 => (q, dgK τ 6)
  | n + 1 => (rqS τ (dgS τ q n).1 n, hoS τ (dgS τ q n).1 (hpS τ (dgS τ q n).2 n) n)
def dgR (τ : Nat → Int32) (ρ : Nat → Nat) (h : Int64) : Nat → Int64
  | 0 => h
  | n + 1 => mxL (dgR τ ρ h n) [nI (srtN τ ρ 8 n), nI (tkN τ (n + 1)).2]
def hrS (τ : Nat → Int32) (h : Int64) : Int64 := mxL h [allS τ 8, τ 98, τ 99, τ 100, τ 101, ifFS τ (nI 10) 8, ifFS τ (nI 50) 8]
def haS (τ : Nat → Int32) (n : Nat) (B h : Int64) : Int64 := mx (mxL h [τ 102, dbS τ 8, τ 103 + τ 104 - τ 105 - τ 106, τ 103, τ 104, τ 105, τ 106, τ 107, τ 108, nI n]) B
def hsF (sf : Nat → Int32) (h : Int64) : Nat → Int64
  | 0 => h
  | n + 1 => mx (hsF sf h n) (sf n).toInt64
def hsC (cs : Nat → Int32) (h : Int64) : Nat → Int64
  | 0 => h
  | n + 1 => mx (hsC cs h n) (cs n).toInt64
def hsS (sf cs : Nat → Int32) (q : Nat) (h : Int64) : Int64 := hsC cs (mx (hsF sf h 2) (nI q).toInt64) q
def digS (τ : Nat → Int32) (q : SL3) (ρ : Nat → Nat) (n : Nat) (B : Int64) (sf cs : Nat → Int32) (ℓ : Nat) : Int64 := hsS sf cs ℓ (haS τ n B (hrS τ (dgR τ ρ (dgS τ q 8).2 8)))
set_option maxHeartbeats 1000000 in
theorem c3_mixed (w : PW) (h v : Int64) : Ct mX3_mixed [.long h, .long v] w (d1 (some (.long (mx h v))) w) nx := by
  refine ct_of 2 kX3_mixed.1 rfl (Nat.le_of_ble_eq_true rfl) (fun v u h => by obtain ⟨rfl, rfl⟩ := h; exact rfl) ?_
  show Ev _ _ _ 0 0 [(0, .long h), (2, .long v)] [] _
  refine ev_ldc2 (lN 31) dX3_mixed_0 g506 ?_
  refine ev_lload_n 0 dX3_mixed_3 rfl rfl ?_
  refine ev_lmul dX3_mixed_4 ?_
  refine ev_lload_n 2 dX3_mixed_5 rfl rfl ?_
  refine ev_ladd dX3_mixed_6 ?_
  exact ev_lreturn dX3_mixed_7 (Nat.le_of_ble_eq_true rfl) ⟨rfl, rfl⟩
set_option maxHeartbeats 1000000 in
theorem c3_hashKind (P : Nat → va_E) (t cs sl pl ks rr : Nat → Int32) (n b : Nat) (sv : Nat → Nat) (sf τ : Nat → Int32) (T : Nat → Nat → Int32) (g : PW) {k : Nat} (hk : k < 6) (h : Int64) : Ct mX3_hashKind [.ref 7, .long h, .int (nI k)] (hv P t cs sl pl ks rr n b sv sf τ T g) (d1 (some (.long (hkS τ h k))) (hv P t cs sl pl ks rr n b sv sf τ T g)) nx := by
  refine ct_of 2 kX3_hashKind.1 rfl (Nat.le_of_ble_eq_true rfl) (fun v u h => by obtain ⟨rfl, rfl⟩ := h; exact rfl) ?_
  show Ev _ _ _ 0 0 [(0, .ref 7), (1, .long h), (3, .int (nI k))] [] _
  refine ev_lload_n 1 dX3_hashKind_0 rfl rfl ?_
  refine ev_aload_n 0 dX3_hashKind_1 rfl rfl ?_
  refine ev_getfield 7 dX3_hashKind_2 foX3_41 rfl rfl ?_
  refine ev_getfield 0 dX3_hashKind_5 foX3_175 rfl rfl ?_
  refine ev_iload_n 3 dX3_hashKind_8 rfl rfl ?_
  refine ev_ild (k) dX3_hashKind_9 rfl (by simp only [nI_m, nI_add, ix, oI]) (by omega) rfl ?_
  refine ev_i2l dX3_hashKind_10 ?_
  refine ev_cS2 (c3_mixed _ _ _) kX3_mixed rfl g503 rfl rfl dX3_hashKind_11 ?_
  refine ev_lstore dX3_hashKind_14 (Nat.le_of_ble_eq_true rfl) rfl ?_
  refine ev_lload dX3_hashKind_16 rfl ?_
  refine ev_aload_n 0 dX3_hashKind_18 rfl rfl ?_
  refine ev_getfield 7 dX3_hashKind_19 foX3_41 rfl rfl ?_
  refine ev_getfield 1 dX3_hashKind_22 foX3_178 rfl rfl ?_
  refine ev_iload_n 3 dX3_hashKind_25 rfl rfl ?_
  refine ev_ild (k) dX3_hashKind_26 rfl (by simp only [nI_m, nI_add, ix, oI]) (by omega) rfl ?_
  refine ev_i2l dX3_hashKind_27 ?_
  refine ev_cS2 (c3_mixed _ _ _) kX3_mixed rfl g503 rfl rfl dX3_hashKind_28 ?_
  refine ev_lstore dX3_hashKind_31 (Nat.le_of_ble_eq_true rfl) rfl ?_
  refine ev_lload dX3_hashKind_33 rfl ?_
  refine ev_aload_n 0 dX3_hashKind_35 rfl rfl ?_
  refine ev_getfield 7 dX3_hashKind_36 foX3_41 rfl rfl ?_
  refine ev_iload_n 3 dX3_hashKind_39 rfl rfl ?_
  refine ev_cV1 (c0_piecesOfAll _ _ _ _ _ _ _ (by omega)) kX0_piecesOfAll rfl g507 rfl rfl rfl rfl dX3_hashKind_40 ?_
  refine ev_i2l dX3_hashKind_43 ?_
  refine ev_cS2 (c3_mixed _ _ _) kX3_mixed rfl g503 rfl rfl dX3_hashKind_44 ?_
  refine ev_lstore dX3_hashKind_47 (Nat.le_of_ble_eq_true rfl) rfl ?_
  refine ev_lload dX3_hashKind_49 rfl ?_
  refine ev_aload_n 0 dX3_hashKind_51 rfl rfl ?_
  refine ev_getfield 7 dX3_hashKind_52 foX3_41 rfl rfl ?_
  refine ev_getfield 2 dX3_hashKind_55 foX3_184 rfl rfl ?_
  refine ev_iload_n 3 dX3_hashKind_58 rfl rfl ?_
  refine ev_ild (k) dX3_hashKind_59 rfl (by simp only [nI_m, nI_add, ix, oI]) (by omega) rfl ?_
  refine ev_i2l dX3_hashKind_60 ?_
  refine ev_cS2 (c3_mixed _ _ _) kX3_mixed rfl g503 rfl rfl dX3_hashKind_61 ?_
  exact ev_lreturn dX3_hashKind_64 (Nat.le_of_ble_eq_true rfl) ⟨rfl, rfl⟩
set_option maxHeartbeats 1000000 in
theorem c3_usedShare (P : Nat → va_E) (t cs sl pl ks rr : Nat → Int32) (n b : Nat) (sv : Nat → Nat) (sf τ : Nat → Int32) (T : Nat → Nat → Int32) (g : PW) (hne : ¬ cvS τ 8 = 0 → vf_n64 (useD τ)) : Ct mX3_usedShare [.ref 7] (hv P t cs sl pl ks rr n b sv sf τ T g) (d1 (some (.double (usS τ))) (hv P t cs sl pl ks rr n b sv sf τ T g)) nx := by
  refine ct_of 0 kX3_usedShare.1 rfl (Nat.le_of_ble_eq_true rfl) (fun v u h => by obtain ⟨rfl, rfl⟩ := h; exact rfl) ?_
  show Ev _ _ _ 0 0 [(0, .ref 7)] [] _
  refine ev_aload_n 0 dX3_usedShare_0 rfl rfl ?_
  refine ev_getfield 7 dX3_usedShare_1 foX3_41 rfl rfl ?_
  refine ev_cV0 (c0_coverOfAll _ _ _ _ _ _ _) kX0_coverOfAll rfl g476 rfl rfl rfl rfl dX3_usedShare_4 ?_
  refine ev_istore_n 1 dX3_usedShare_7 rfl (Nat.le_of_ble_eq_true rfl) rfl ?_
  refine ev_iload_n 1 dX3_usedShare_8 rfl rfl ?_
  refine ev_if_ne 16 dX3_usedShare_9 (by decide) (fun h9 => ?_) (fun h9 => ?_)
  · have e9 : usS τ = useD τ := if_neg h9
    refine ev_aload_n 0 dX3_usedShare_16 rfl rfl ?_
    refine ev_getfield 7 dX3_usedShare_17 foX3_41 rfl rfl ?_
    refine ev_cV0 (c0_debtsOfAll _ _ _ _ _ _ _) kX0_debtsOfAll rfl g440 rfl rfl rfl rfl dX3_usedShare_20 ?_
    refine ev_i2d dX3_usedShare_23 ?_
    refine ev_iload_n 1 dX3_usedShare_24 rfl rfl ?_
    refine ev_i2d dX3_usedShare_25 ?_
    refine ev_ddiv dX3_usedShare_26 (hne h9) ?_
    exact ev_dreturn dX3_usedShare_27 (Nat.le_of_ble_eq_true rfl) ⟨by rw [e9]; rfl, rfl⟩
  · have e9 : usS τ = FP.dconst0 := if_pos h9
    refine ev_dconst0 dX3_usedShare_12 ?_
    refine ev_goto 27 dX3_usedShare_13 (by decide) ?_
    exact ev_dreturn dX3_usedShare_27 (Nat.le_of_ble_eq_true rfl) ⟨by rw [e9], rfl⟩
set_option maxHeartbeats 1000000 in
theorem c3_hashPledges (P : Nat → va_E) (t cs sl pl ks rr : Nat → Int32) (n b : Nat) (sv : Nat → Nat) (sf τ : Nat → Int32) (T : Nat → Nat → Int32) (g : PW) {c : Nat} (hc : c < 8) (h : Int64) : Ct mX3_hashPledges [.ref 7, .long h, .int (nI c)] (hv P t cs sl pl ks rr n b sv sf τ T g) (d1 (some (.long (hpS τ h c))) (hv P t cs sl pl ks rr n b sv sf τ T g)) nx := by
  refine ct_of 2 kX3_hashPledges.1 rfl (Nat.le_of_ble_eq_true rfl) (fun v u h => by obtain ⟨rfl, rfl⟩ := h; exact rfl) ?_
  show Ev _ _ _ 0 0 [(0, .ref 7), (1, .long h), (3, .int (nI c))] [] _
  refine ev_lload_n 1 dX3_hashPledges_0 rfl rfl ?_
  refine ev_lstore dX3_hashPledges_1 (Nat.le_of_ble_eq_true rfl) rfl ?_
  refine ev_iconst (nI 0) dX3_hashPledges_3 rfl ?_
  refine ev_istore dX3_hashPledges_4 (Nat.le_of_ble_eq_true rfl) rfl ?_
  suffices H : ∀ fu j, j + fu = 6 → Ev mX3_hashPledges (d1 (some (.long (hpS τ h c))) (hv P t cs sl pl ks rr n b sv sf τ T g)) nx 0 6 [(6, .int (nI (j))), (4, .long (hpF τ c h (j))), (0, .ref 7), (1, .long h), (3, .int (nI c))] [] (hv P t cs sl pl ks rr n b sv sf τ T g) from ev_sub [0, 1, 2, 3, 4] rfl (H 6 0 (Nat.zero_add _))
  intro fu
  induction fu with
  | zero =>
    intro j hj
    obtain rfl : 6 = j := by omega
    refine ev_iload dX3_hashPledges_6 rfl ?_
    refine ev_bipush (nI 6) dX3_hashPledges_8 rfl ?_
    refine ev_icmp_ge 41 dX3_hashPledges_10 (by decide) (fun h10 => ?_) (fun h10 => absurd (nI_le (Nat.le_refl 6) (by omega)) h10)
    refine ev_lload dX3_hashPledges_41 rfl ?_
    refine ev_aload_n 0 dX3_hashPledges_43 rfl rfl ?_
    refine ev_getfield 7 dX3_hashPledges_44 foX3_41 rfl rfl ?_
    refine ev_getfield 4 dX3_hashPledges_47 foX3_101 rfl rfl ?_
    refine ev_iload_n 3 dX3_hashPledges_50 rfl rfl ?_
    refine ev_ild (c) dX3_hashPledges_51 rfl (by simp only [nI_m, nI_add, ix, oI]) (by omega) rfl ?_
    refine ev_i2l dX3_hashPledges_52 ?_
    refine ev_cS2 (c3_mixed _ _ _) kX3_mixed rfl g503 rfl rfl dX3_hashPledges_53 ?_
    refine ev_lstore dX3_hashPledges_56 (Nat.le_of_ble_eq_true rfl) rfl ?_
    refine ev_lload dX3_hashPledges_58 rfl ?_
    refine ev_aload_n 0 dX3_hashPledges_60 rfl rfl ?_
    refine ev_getfield 7 dX3_hashPledges_61 foX3_41 rfl rfl ?_
    refine ev_getfield 5 dX3_hashPledges_64 foX3_110 rfl rfl ?_
    refine ev_iload_n 3 dX3_hashPledges_67 rfl rfl ?_
    refine ev_ild (c) dX3_hashPledges_68 rfl (by simp only [nI_m, nI_add, ix, oI]) (by omega) rfl ?_
    refine ev_i2l dX3_hashPledges_69 ?_
    refine ev_cS2 (c3_mixed _ _ _) kX3_mixed rfl g503 rfl rfl dX3_hashPledges_70 ?_
    refine ev_lstore dX3_hashPledges_73 (Nat.le_of_ble_eq_true rfl) rfl ?_
    refine ev_lload dX3_hashPledges_75 rfl ?_
    refine ev_aload_n 0 dX3_hashPledges_77 rfl rfl ?_
    refine ev_getfield 7 dX3_hashPledges_78 foX3_41 rfl rfl ?_
    refine ev_iload_n 3 dX3_hashPledges_81 rfl rfl ?_
    refine ev_cV1 (c0_worth _ _ _ _ _ _ _ (by omega)) kX0_worth rfl g516 rfl rfl rfl rfl dX3_hashPledges_82 ?_
    refine ev_i2l dX3_hashPledges_85 ?_
    refine ev_cS2 (c3_mixed _ _ _) kX3_mixed rfl g503 rfl rfl dX3_hashPledges_86 ?_
    refine ev_lstore dX3_hashPledges_89 (Nat.le_of_ble_eq_true rfl) rfl ?_
    refine ev_lload dX3_hashPledges_91 rfl ?_
    refine ev_aload_n 0 dX3_hashPledges_93 rfl rfl ?_
    refine ev_getfield 7 dX3_hashPledges_94 foX3_41 rfl rfl ?_
    refine ev_iload_n 3 dX3_hashPledges_97 rfl rfl ?_
    refine ev_cV1 (c0_cover _ _ _ _ _ _ _ (by omega)) kX0_cover rfl g520 rfl rfl rfl rfl dX3_hashPledges_98 ?_
    refine ev_i2l dX3_hashPledges_101 ?_
    refine ev_cS2 (c3_mixed _ _ _) kX3_mixed rfl g503 rfl rfl dX3_hashPledges_102 ?_
    refine ev_lstore dX3_hashPledges_105 (Nat.le_of_ble_eq_true rfl) rfl ?_
    refine ev_lload dX3_hashPledges_107 rfl ?_
    refine ev_aload_n 0 dX3_hashPledges_109 rfl rfl ?_
    refine ev_getfield 7 dX3_hashPledges_110 foX3_41 rfl rfl ?_
    refine ev_iload_n 3 dX3_hashPledges_113 rfl rfl ?_
    refine ev_cV1 (c0_openRoom _ _ _ _ _ _ _ (by omega)) kX0_openRoom rfl g521 rfl rfl rfl rfl dX3_hashPledges_114 ?_
    refine ev_i2l dX3_hashPledges_117 ?_
    refine ev_cS2 (c3_mixed _ _ _) kX3_mixed rfl g503 rfl rfl dX3_hashPledges_118 ?_
    exact ev_lreturn dX3_hashPledges_121 (Nat.le_of_ble_eq_true rfl) ⟨rfl, rfl⟩
  | succ fu ih =>
    intro j hj
    have hj6 : j < 6 := by omega
    refine ev_iload dX3_hashPledges_6 rfl ?_
    refine ev_bipush (nI 6) dX3_hashPledges_8 rfl ?_
    refine ev_icmp_ge 41 dX3_hashPledges_10 (by decide) (fun h10 => absurd h10 (nI_ge hj6 (by omega))) (fun h10 => ?_)
    refine ev_lload dX3_hashPledges_13 rfl ?_
    refine ev_aload_n 0 dX3_hashPledges_15 rfl rfl ?_
    refine ev_getfield 7 dX3_hashPledges_16 foX3_41 rfl rfl ?_
    refine ev_getfield 3 dX3_hashPledges_19 foX3_88 rfl rfl ?_
    refine ev_iload_n 3 dX3_hashPledges_22 rfl rfl ?_
    refine ev_iload dX3_hashPledges_23 rfl ?_
    refine ev_cS2 (c3_at _ _ _) kX3_at rfl g515 rfl rfl dX3_hashPledges_25 ?_
    refine ev_ild (c * 6 + j) dX3_hashPledges_28 rfl (by simp only [nI_m, nI_add, ix, oI]) (by omega) rfl ?_
    refine ev_top (τ (ix c j)) (pc6 (by omega)) ?_
    refine ev_i2l dX3_hashPledges_29 ?_
    refine ev_cS2 (c3_mixed _ _ _) kX3_mixed rfl g503 rfl rfl dX3_hashPledges_30 ?_
    refine ev_lstore dX3_hashPledges_33 (Nat.le_of_ble_eq_true rfl) rfl ?_
    refine ev_iinc (nI (j + 1)) dX3_hashPledges_35 rfl (nI_1 j) (Nat.le_of_ble_eq_true rfl) rfl ?_
    refine ev_goto 6 dX3_hashPledges_38 (by decide) ?_
    exact ev_sub [0, 1, 2, 3, 4] rfl (ih (j + 1) (by omega))
set_option maxHeartbeats 1000000 in
theorem c3_hashOutlook (P : Nat → va_E) (t cs sl pl ks rr : Nat → Int32) (n b : Nat) (sv : Nat → Nat) (sf τ : Nat → Int32) (T : Nat → Nat → Int32) (g : PW) {c : Nat} (hc : c < 8) (h : Int64) (hB : BF τ) (hPc : PcC τ c) : Ct mX3_hashOutlook [.ref 7, .long h, .int (nI c)] (hv P t cs sl pl ks rr n b sv sf τ T g) (d1 (some (.long (hoS τ (sl, (pl, ks)) h c))) (hv P t cs ((rqS τ (sl, (pl, ks)) c).1) ((rqS τ (sl, (pl, ks)) c).2.1) ((rqS τ (sl, (pl, ks)) c).2.2) rr n b sv sf τ T g)) nx := by
  refine ct_of 2 kX3_hashOutlook.1 rfl (Nat.le_of_ble_eq_true rfl) (fun v u h => by obtain ⟨rfl, rfl⟩ := h; exact rfl) ?_
  show Ev _ _ _ 0 0 [(0, .ref 7), (1, .long h), (3, .int (nI c))] [] _
  refine ev_lload_n 1 dX3_hashOutlook_0 rfl rfl ?_
  refine ev_aload_n 0 dX3_hashOutlook_1 rfl rfl ?_
  refine ev_getfield 7 dX3_hashOutlook_2 foX3_41 rfl rfl ?_
  refine ev_getfield 6 dX3_hashOutlook_5 foX3_196 rfl rfl ?_
  refine ev_iload_n 3 dX3_hashOutlook_8 rfl rfl ?_
  refine ev_ild (c) dX3_hashOutlook_9 rfl (by simp only [nI_m, nI_add, ix, oI]) (by omega) rfl ?_
  suffices J10 : Ev mX3_hashOutlook (d1 (some (.long (hoS τ (sl, (pl, ks)) h c))) (hv P t cs ((rqS τ (sl, (pl, ks)) c).1) ((rqS τ (sl, (pl, ks)) c).2.1) ((rqS τ (sl, (pl, ks)) c).2.2) rr n b sv sf τ T g)) nx 0 18 [(0, .ref 7), (1, .long h), (3, .int (nI c))] [.long (bI (isK τ c)).toInt64, .long h] (hv P t cs sl pl ks rr n b sv sf τ T g) by
    refine ev_if_le 17 dX3_hashOutlook_10 (by decide) (fun h10 => ?_) (fun h10 => ?_)
    · refine ev_lconst (lN 0) dX3_hashOutlook_17 rfl ?_
      exact ev_sub [0, 1, 2] rfl (ev_topL _ (by first | (rw [show isK τ c = false from decide_eq_false (Int32.not_lt.mpr h10)]; rfl) | (rw [show isK τ c = true from decide_eq_true (Int32.not_le.mp h10)]; rfl)) J10)
    · refine ev_lconst (lN 1) dX3_hashOutlook_13 rfl ?_
      refine ev_goto 18 dX3_hashOutlook_14 (by decide) ?_
      exact ev_sub [0, 1, 2] rfl (ev_topL _ (by first | (rw [show isK τ c = false from decide_eq_false (Int32.not_lt.mpr h10)]; rfl) | (rw [show isK τ c = true from decide_eq_true (Int32.not_le.mp h10)]; rfl)) J10)
  refine ev_cS2 (c3_mixed _ _ _) kX3_mixed rfl g503 rfl rfl dX3_hashOutlook_18 ?_
  refine ev_lstore dX3_hashOutlook_21 (Nat.le_of_ble_eq_true rfl) rfl ?_
  refine ev_lload dX3_hashOutlook_23 rfl ?_
  refine ev_aload_n 0 dX3_hashOutlook_25 rfl rfl ?_
  refine ev_getfield 7 dX3_hashOutlook_26 foX3_41 rfl rfl ?_
  refine ev_getfield 6 dX3_hashOutlook_29 foX3_196 rfl rfl ?_
  refine ev_iload_n 3 dX3_hashOutlook_32 rfl rfl ?_
  refine ev_ild (c) dX3_hashOutlook_33 rfl (by simp only [nI_m, nI_add, ix, oI]) (by omega) rfl ?_
  refine ev_i2l dX3_hashOutlook_34 ?_
  refine ev_cS2 (c3_mixed _ _ _) kX3_mixed rfl g503 rfl rfl dX3_hashOutlook_35 ?_
  refine ev_lstore dX3_hashOutlook_38 (Nat.le_of_ble_eq_true rfl) rfl ?_
  refine ev_lload dX3_hashOutlook_40 rfl ?_
  refine ev_aload_n 0 dX3_hashOutlook_42 rfl rfl ?_
  refine ev_getfield 7 dX3_hashOutlook_43 foX3_41 rfl rfl ?_
  refine ev_getfield 7 dX3_hashOutlook_46 foX3_199 rfl rfl ?_
  refine ev_iload_n 3 dX3_hashOutlook_49 rfl rfl ?_
  refine ev_bld (c) dX3_hashOutlook_50 rfl rfl (by omega) rfl ?_
  suffices J51 : Ev mX3_hashOutlook (d1 (some (.long (hoS τ (sl, (pl, ks)) h c))) (hv P t cs ((rqS τ (sl, (pl, ks)) c).1) ((rqS τ (sl, (pl, ks)) c).2.1) ((rqS τ (sl, (pl, ks)) c).2.2) rr n b sv sf τ T g)) nx 0 59 [(4, .long (mxL h [bI (isK τ c), τ (ix c 8)])), (0, .ref 7), (1, .long h), (3, .int (nI c))] [.long (τ (ix c 9)).toInt64, .long (mxL h [bI (isK τ c), τ (ix c 8)])] (hv P t cs sl pl ks rr n b sv sf τ T g) by
    refine ev_if_eq 58 dX3_hashOutlook_51 (by decide) (fun h51 => ?_) (fun h51 => ?_)
    · refine ev_lconst (lN 0) dX3_hashOutlook_58 rfl ?_
      exact ev_sub [0, 1, 2, 3] rfl (ev_topL _ (by first | (rw [h51]; rfl) | (rw [(hB c hc).resolve_left h51]; rfl)) J51)
    · refine ev_lconst (lN 1) dX3_hashOutlook_54 rfl ?_
      refine ev_goto 59 dX3_hashOutlook_55 (by decide) ?_
      exact ev_sub [0, 1, 2, 3] rfl (ev_topL _ (by first | (rw [h51]; rfl) | (rw [(hB c hc).resolve_left h51]; rfl)) J51)
  refine ev_cS2 (c3_mixed _ _ _) kX3_mixed rfl g503 rfl rfl dX3_hashOutlook_59 ?_
  refine ev_lstore dX3_hashOutlook_62 (Nat.le_of_ble_eq_true rfl) rfl ?_
  refine ev_lload dX3_hashOutlook_64 rfl ?_
  refine ev_aload_n 0 dX3_hashOutlook_66 rfl rfl ?_
  refine ev_getfield 7 dX3_hashOutlook_67 foX3_41 rfl rfl ?_
  refine ev_iload_n 3 dX3_hashOutlook_70 rfl rfl ?_
  refine ev_cV1 (c0_riskPlace _ _ _ _ _ _ _ (by omega)) kX0_riskPlace rfl g529 rfl rfl rfl rfl dX3_hashOutlook_71 ?_
  refine ev_i2l dX3_hashOutlook_74 ?_
  refine ev_cS2 (c3_mixed _ _ _) kX3_mixed rfl g503 rfl rfl dX3_hashOutlook_75 ?_
  refine ev_lstore dX3_hashOutlook_78 (Nat.le_of_ble_eq_true rfl) rfl ?_
  refine ev_lload dX3_hashOutlook_80 rfl ?_
  refine ev_aload_n 0 dX3_hashOutlook_82 rfl rfl ?_
  refine ev_getfield 7 dX3_hashOutlook_83 foX3_41 rfl rfl ?_
  refine ev_iload_n 3 dX3_hashOutlook_86 rfl rfl ?_
  refine ev_cV1 (c0_try _ _ _ _ _ _ _ (by omega)) kX0_callingFallByTrying rfl g537 rfl rfl rfl rfl dX3_hashOutlook_87 ?_
  refine ev_iconst (nI 1) dX3_hashOutlook_90 rfl ?_
  refine ev_iadd dX3_hashOutlook_91 ?_
  refine ev_i2l dX3_hashOutlook_92 ?_
  refine ev_cS2 (c3_mixed _ _ _) kX3_mixed rfl g503 rfl rfl dX3_hashOutlook_93 ?_
  refine ev_lstore dX3_hashOutlook_96 (Nat.le_of_ble_eq_true rfl) rfl ?_
  refine ev_lload dX3_hashOutlook_98 rfl ?_
  refine ev_aload_n 0 dX3_hashOutlook_100 rfl rfl ?_
  refine ev_getfield 7 dX3_hashOutlook_101 foX3_41 rfl rfl ?_
  refine ev_iload_n 3 dX3_hashOutlook_104 rfl rfl ?_
  refine ev_cV1 (c0_halve _ _ _ _ _ _ _ (by omega)) kX0_callingFallByHalving rfl g545 rfl rfl rfl rfl dX3_hashOutlook_105 ?_
  refine ev_iconst (nI 1) dX3_hashOutlook_108 rfl ?_
  refine ev_iadd dX3_hashOutlook_109 ?_
  refine ev_i2l dX3_hashOutlook_110 ?_
  refine ev_cS2 (c3_mixed _ _ _) kX3_mixed rfl g503 rfl rfl dX3_hashOutlook_111 ?_
  refine ev_lstore dX3_hashOutlook_114 (Nat.le_of_ble_eq_true rfl) rfl ?_
  refine ev_aload_n 0 dX3_hashOutlook_116 rfl rfl ?_
  refine ev_getfield 1 dX3_hashOutlook_117 foX3_19 rfl rfl ?_
  refine ev_aload_n 0 dX3_hashOutlook_120 rfl rfl ?_
  refine ev_getfield 7 dX3_hashOutlook_121 foX3_41 rfl rfl ?_
  refine ev_iload_n 3 dX3_hashOutlook_124 rfl rfl ?_
  refine ev_cV2v (c2_reckon _ _ _ _ _ _ _ hc (pcc_n hPc).1 (pcc_n hPc).2) kX2_reckon rfl g549 rfl rfl rfl rfl dX3_hashOutlook_125 ?_
  refine ev_w (w' := hv P t cs ((rqS τ (sl, (pl, ks)) c).1) ((rqS τ (sl, (pl, ks)) c).2.1) ((rqS τ (sl, (pl, ks)) c).2.2) rr n b sv sf τ T g) rfl ?_
  refine ev_lload dX3_hashOutlook_128 rfl ?_
  refine ev_aload_n 0 dX3_hashOutlook_130 rfl rfl ?_
  refine ev_getfield 1 dX3_hashOutlook_131 foX3_19 rfl rfl ?_
  refine ev_getfield 5 dX3_hashOutlook_134 foX3_228 rfl rfl ?_
  refine ev_i2l dX3_hashOutlook_137 ?_
  refine ev_cS2 (c3_mixed _ _ _) kX3_mixed rfl g503 rfl rfl dX3_hashOutlook_138 ?_
  refine ev_lstore dX3_hashOutlook_141 (Nat.le_of_ble_eq_true rfl) rfl ?_
  refine ev_lload dX3_hashOutlook_143 rfl ?_
  refine ev_aload_n 0 dX3_hashOutlook_145 rfl rfl ?_
  refine ev_getfield 1 dX3_hashOutlook_146 foX3_19 rfl rfl ?_
  refine ev_getfield 7 dX3_hashOutlook_149 foX3_231 rfl rfl ?_
  refine ev_i2l dX3_hashOutlook_152 ?_
  refine ev_cS2 (c3_mixed _ _ _) kX3_mixed rfl g503 rfl rfl dX3_hashOutlook_153 ?_
  exact ev_lreturn dX3_hashOutlook_156 (Nat.le_of_ble_eq_true rfl) ⟨rfl, rfl⟩
set_option maxHeartbeats 1000000 in
theorem c3_hashRules (P : Nat → va_E) (t cs sl pl ks rr : Nat → Int32) (n b : Nat) (sv : Nat → Nat) (sf τ : Nat → Int32) (T : Nat → Nat → Int32) (g : PW) (h : Int64) : Ct mX3_hashRules [.ref 7, .long h] (hv P t cs sl pl ks rr n b sv sf τ T g) (d1 (some (.long (hrS τ h))) (hv P t cs sl pl ks rr n b sv sf τ T g)) nx := by
  refine ct_of 1 kX3_hashRules.1 rfl (Nat.le_of_ble_eq_true rfl) (fun v u h => by obtain ⟨rfl, rfl⟩ := h; exact rfl) ?_
  show Ev _ _ _ 0 0 [(0, .ref 7), (1, .long h)] [] _
  refine ev_lload_n 1 dX3_hashRules_0 rfl rfl ?_
  refine ev_aload_n 0 dX3_hashRules_1 rfl rfl ?_
  refine ev_getfield 7 dX3_hashRules_2 foX3_41 rfl rfl ?_
  refine ev_cV0 (c0_countCalled _ _ _ _ _ _ _) kX0_countCalled rfl g412 rfl rfl rfl rfl dX3_hashRules_5 ?_
  refine ev_i2l dX3_hashRules_8 ?_
  refine ev_cS2 (c3_mixed _ _ _) kX3_mixed rfl g503 rfl rfl dX3_hashRules_9 ?_
  refine ev_lstore_n 3 dX3_hashRules_12 rfl (Nat.le_of_ble_eq_true rfl) rfl ?_
  refine ev_lload_n 3 dX3_hashRules_13 rfl rfl ?_
  refine ev_aload_n 0 dX3_hashRules_14 rfl rfl ?_
  refine ev_getfield 7 dX3_hashRules_15 foX3_41 rfl rfl ?_
  refine ev_getfield 8 dX3_hashRules_18 foX3_124 rfl rfl ?_
  refine ev_i2l dX3_hashRules_21 ?_
  refine ev_cS2 (c3_mixed _ _ _) kX3_mixed rfl g503 rfl rfl dX3_hashRules_22 ?_
  refine ev_lstore_n 3 dX3_hashRules_25 rfl (Nat.le_of_ble_eq_true rfl) rfl ?_
  refine ev_lload_n 3 dX3_hashRules_26 rfl rfl ?_
  refine ev_aload_n 0 dX3_hashRules_27 rfl rfl ?_
  refine ev_getfield 7 dX3_hashRules_28 foX3_41 rfl rfl ?_
  refine ev_getfield 9 dX3_hashRules_31 foX3_128 rfl rfl ?_
  refine ev_i2l dX3_hashRules_34 ?_
  refine ev_cS2 (c3_mixed _ _ _) kX3_mixed rfl g503 rfl rfl dX3_hashRules_35 ?_
  refine ev_lstore_n 3 dX3_hashRules_38 rfl (Nat.le_of_ble_eq_true rfl) rfl ?_
  refine ev_lload_n 3 dX3_hashRules_39 rfl rfl ?_
  refine ev_aload_n 0 dX3_hashRules_40 rfl rfl ?_
  refine ev_getfield 7 dX3_hashRules_41 foX3_41 rfl rfl ?_
  refine ev_getfield 10 dX3_hashRules_44 foX3_131 rfl rfl ?_
  refine ev_i2l dX3_hashRules_47 ?_
  refine ev_cS2 (c3_mixed _ _ _) kX3_mixed rfl g503 rfl rfl dX3_hashRules_48 ?_
  refine ev_lstore_n 3 dX3_hashRules_51 rfl (Nat.le_of_ble_eq_true rfl) rfl ?_
  refine ev_lload_n 3 dX3_hashRules_52 rfl rfl ?_
  refine ev_aload_n 0 dX3_hashRules_53 rfl rfl ?_
  refine ev_getfield 7 dX3_hashRules_54 foX3_41 rfl rfl ?_
  refine ev_getfield 11 dX3_hashRules_57 foX3_134 rfl rfl ?_
  refine ev_i2l dX3_hashRules_60 ?_
  refine ev_cS2 (c3_mixed _ _ _) kX3_mixed rfl g503 rfl rfl dX3_hashRules_61 ?_
  refine ev_lstore_n 3 dX3_hashRules_64 rfl (Nat.le_of_ble_eq_true rfl) rfl ?_
  refine ev_lload_n 3 dX3_hashRules_65 rfl rfl ?_
  refine ev_aload_n 0 dX3_hashRules_66 rfl rfl ?_
  refine ev_getfield 7 dX3_hashRules_67 foX3_41 rfl rfl ?_
  refine ev_bipush (nI 10) dX3_hashRules_70 rfl ?_
  refine ev_cV1 (c0_countUncovered _ _ _ _ _ _ _ _) kX0_countUncoveredAfterFall rfl g602 rfl rfl rfl rfl dX3_hashRules_72 ?_
  refine ev_i2l dX3_hashRules_75 ?_
  refine ev_cS2 (c3_mixed _ _ _) kX3_mixed rfl g503 rfl rfl dX3_hashRules_76 ?_
  refine ev_lstore_n 3 dX3_hashRules_79 rfl (Nat.le_of_ble_eq_true rfl) rfl ?_
  refine ev_lload_n 3 dX3_hashRules_80 rfl rfl ?_
  refine ev_aload_n 0 dX3_hashRules_81 rfl rfl ?_
  refine ev_getfield 7 dX3_hashRules_82 foX3_41 rfl rfl ?_
  refine ev_bipush (nI 50) dX3_hashRules_85 rfl ?_
  refine ev_cV1 (c0_countUncovered _ _ _ _ _ _ _ _) kX0_countUncoveredAfterFall rfl g602 rfl rfl rfl rfl dX3_hashRules_87 ?_
  refine ev_i2l dX3_hashRules_90 ?_
  refine ev_cS2 (c3_mixed _ _ _) kX3_mixed rfl g503 rfl rfl dX3_hashRules_91 ?_
  exact ev_lreturn dX3_hashRules_94 (Nat.le_of_ble_eq_true rfl) ⟨rfl, rfl⟩
set_option maxHeartbeats 1000000 in
theorem c3_hashAccounts (P : Nat → va_E) (t cs sl pl ks rr : Nat → Int32) (n b : Nat) (sv : Nat → Nat) (sf τ : Nat → Int32) (T : Nat → Nat → Int32) (g : PW) (hne : ¬ cvS τ 8 = 0 → vf_n64 (useD τ)) {B : Int64} (hbits : ∀ w : PW, Ct mX3_bitsOf [.double (usS τ)] w (d1 (some (.long B)) w) nx) (h : Int64) : Ct mX3_hashAccounts [.ref 7, .long h] (hv P t cs sl pl ks rr n b sv sf τ T g) (d1 (some (.long (haS τ n B h))) (hv P t cs sl pl ks rr n b sv sf τ T g)) nx := by
  refine ct_of 1 kX3_hashAccounts.1 rfl (Nat.le_of_ble_eq_true rfl) (fun v u h => by obtain ⟨rfl, rfl⟩ := h; exact rfl) ?_
  show Ev _ _ _ 0 0 [(0, .ref 7), (1, .long h)] [] _
  refine ev_lload_n 1 dX3_hashAccounts_0 rfl rfl ?_
  refine ev_aload_n 0 dX3_hashAccounts_1 rfl rfl ?_
  refine ev_getfield 7 dX3_hashAccounts_2 foX3_41 rfl rfl ?_
  refine ev_getfield 12 dX3_hashAccounts_5 foX3_237 rfl rfl ?_
  refine ev_i2l dX3_hashAccounts_8 ?_
  refine ev_cS2 (c3_mixed _ _ _) kX3_mixed rfl g503 rfl rfl dX3_hashAccounts_9 ?_
  refine ev_lstore_n 3 dX3_hashAccounts_12 rfl (Nat.le_of_ble_eq_true rfl) rfl ?_
  refine ev_lload_n 3 dX3_hashAccounts_13 rfl rfl ?_
  refine ev_aload_n 0 dX3_hashAccounts_14 rfl rfl ?_
  refine ev_cV0 (c3_debtsByClients _ _ _ _ _ _ _ _ _ _ _ _ _ _) kX3_debtsByClients rfl g610 rfl rfl rfl rfl dX3_hashAccounts_15 ?_
  refine ev_i2l dX3_hashAccounts_18 ?_
  refine ev_cS2 (c3_mixed _ _ _) kX3_mixed rfl g503 rfl rfl dX3_hashAccounts_19 ?_
  refine ev_lstore_n 3 dX3_hashAccounts_22 rfl (Nat.le_of_ble_eq_true rfl) rfl ?_
  refine ev_lload_n 3 dX3_hashAccounts_23 rfl rfl ?_
  refine ev_aload_n 0 dX3_hashAccounts_24 rfl rfl ?_
  refine ev_cV0 (c3_debtsByAccount _ _ _ _ _ _ _ _ _ _ _ _ _ _) kX3_debtsByAccount rfl g611 rfl rfl rfl rfl dX3_hashAccounts_25 ?_
  refine ev_i2l dX3_hashAccounts_28 ?_
  refine ev_cS2 (c3_mixed _ _ _) kX3_mixed rfl g503 rfl rfl dX3_hashAccounts_29 ?_
  refine ev_lstore_n 3 dX3_hashAccounts_32 rfl (Nat.le_of_ble_eq_true rfl) rfl ?_
  refine ev_lload_n 3 dX3_hashAccounts_33 rfl rfl ?_
  refine ev_aload_n 0 dX3_hashAccounts_34 rfl rfl ?_
  refine ev_getfield 7 dX3_hashAccounts_35 foX3_41 rfl rfl ?_
  refine ev_getfield 13 dX3_hashAccounts_38 foX3_243 rfl rfl ?_
  refine ev_i2l dX3_hashAccounts_41 ?_
  refine ev_cS2 (c3_mixed _ _ _) kX3_mixed rfl g503 rfl rfl dX3_hashAccounts_42 ?_
  refine ev_lstore_n 3 dX3_hashAccounts_45 rfl (Nat.le_of_ble_eq_true rfl) rfl ?_
  refine ev_lload_n 3 dX3_hashAccounts_46 rfl rfl ?_
  refine ev_aload_n 0 dX3_hashAccounts_47 rfl rfl ?_
  refine ev_getfield 7 dX3_hashAccounts_48 foX3_41 rfl rfl ?_
  refine ev_getfield 14 dX3_hashAccounts_51 foX3_246 rfl rfl ?_
  refine ev_i2l dX3_hashAccounts_54 ?_
  refine ev_cS2 (c3_mixed _ _ _) kX3_mixed rfl g503 rfl rfl dX3_hashAccounts_55 ?_
  refine ev_lstore_n 3 dX3_hashAccounts_58 rfl (Nat.le_of_ble_eq_true rfl) rfl ?_
  refine ev_lload_n 3 dX3_hashAccounts_59 rfl rfl ?_
  refine ev_aload_n 0 dX3_hashAccounts_60 rfl rfl ?_
  refine ev_getfield 7 dX3_hashAccounts_61 foX3_41 rfl rfl ?_
  refine ev_getfield 15 dX3_hashAccounts_64 foX3_249 rfl rfl ?_
  refine ev_i2l dX3_hashAccounts_67 ?_
  refine ev_cS2 (c3_mixed _ _ _) kX3_mixed rfl g503 rfl rfl dX3_hashAccounts_68 ?_
  refine ev_lstore_n 3 dX3_hashAccounts_71 rfl (Nat.le_of_ble_eq_true rfl) rfl ?_
  refine ev_lload_n 3 dX3_hashAccounts_72 rfl rfl ?_
  refine ev_aload_n 0 dX3_hashAccounts_73 rfl rfl ?_
  refine ev_getfield 7 dX3_hashAccounts_74 foX3_41 rfl rfl ?_
  refine ev_getfield 16 dX3_hashAccounts_77 foX3_252 rfl rfl ?_
  refine ev_i2l dX3_hashAccounts_80 ?_
  refine ev_cS2 (c3_mixed _ _ _) kX3_mixed rfl g503 rfl rfl dX3_hashAccounts_81 ?_
  refine ev_lstore_n 3 dX3_hashAccounts_84 rfl (Nat.le_of_ble_eq_true rfl) rfl ?_
  refine ev_lload_n 3 dX3_hashAccounts_85 rfl rfl ?_
  refine ev_aload_n 0 dX3_hashAccounts_86 rfl rfl ?_
  refine ev_getfield 7 dX3_hashAccounts_87 foX3_41 rfl rfl ?_
  refine ev_getfield 17 dX3_hashAccounts_90 foX3_255 rfl rfl ?_
  refine ev_i2l dX3_hashAccounts_93 ?_
  refine ev_cS2 (c3_mixed _ _ _) kX3_mixed rfl g503 rfl rfl dX3_hashAccounts_94 ?_
  refine ev_lstore_n 3 dX3_hashAccounts_97 rfl (Nat.le_of_ble_eq_true rfl) rfl ?_
  refine ev_lload_n 3 dX3_hashAccounts_98 rfl rfl ?_
  refine ev_aload_n 0 dX3_hashAccounts_99 rfl rfl ?_
  refine ev_getfield 7 dX3_hashAccounts_100 foX3_41 rfl rfl ?_
  refine ev_getfield 18 dX3_hashAccounts_103 foX3_258 rfl rfl ?_
  refine ev_i2l dX3_hashAccounts_106 ?_
  refine ev_cS2 (c3_mixed _ _ _) kX3_mixed rfl g503 rfl rfl dX3_hashAccounts_107 ?_
  refine ev_lstore_n 3 dX3_hashAccounts_110 rfl (Nat.le_of_ble_eq_true rfl) rfl ?_
  refine ev_lload_n 3 dX3_hashAccounts_111 rfl rfl ?_
  refine ev_aload_n 0 dX3_hashAccounts_112 rfl rfl ?_
  refine ev_getfield 6 dX3_hashAccounts_113 foX3_172 rfl rfl ?_
  refine ev_i2l dX3_hashAccounts_116 ?_
  refine ev_cS2 (c3_mixed _ _ _) kX3_mixed rfl g503 rfl rfl dX3_hashAccounts_117 ?_
  refine ev_lstore_n 3 dX3_hashAccounts_120 rfl (Nat.le_of_ble_eq_true rfl) rfl ?_
  refine ev_lload_n 3 dX3_hashAccounts_121 rfl rfl ?_
  refine ev_aload_n 0 dX3_hashAccounts_122 rfl rfl ?_
  refine ev_cV0 (c3_usedShare _ _ _ _ _ _ _ _ _ _ _ _ _ _ hne) kX3_usedShare rfl g612 rfl rfl rfl rfl dX3_hashAccounts_123 ?_
  refine ev_cS1 (hbits _) kX3_bitsOf rfl g613 rfl rfl dX3_hashAccounts_126 ?_
  refine ev_cS2 (c3_mixed _ _ _) kX3_mixed rfl g503 rfl rfl dX3_hashAccounts_129 ?_
  exact ev_lreturn dX3_hashAccounts_132 (Nat.le_of_ble_eq_true rfl) ⟨rfl, rfl⟩
set_option maxHeartbeats 1000000 in
theorem c3_hashSlots (P : Nat → va_E) (t cs sl pl ks rr : Nat → Int32) (n b : Nat) (sv : Nat → Nat) (sf τ : Nat → Int32) (T : Nat → Nat → Int32) (g : PW) {ℓ : Nat} (hℓ : ℓ ≤ 60) (ht : t 0 = nI ℓ) (hsf : ∀ s, s < 2 → sf s = 0 ∨ sf s = 1) (h : Int64) : Ct mX3_hashSlotsAndText [.ref 7, .long h] (hv P t cs sl pl ks rr n b sv sf τ T g) (d1 (some (.long (hsS sf cs ℓ h))) (hv P t cs sl pl ks rr n b sv sf τ T g)) nx := by
  refine ct_of 1 kX3_hashSlotsAndText.1 rfl (Nat.le_of_ble_eq_true rfl) (fun v u h => by obtain ⟨rfl, rfl⟩ := h; exact rfl) ?_
  show Ev _ _ _ 0 0 [(0, .ref 7), (1, .long h)] [] _
  refine ev_lload_n 1 dX3_hashSlotsAndText_0 rfl rfl ?_
  refine ev_lstore_n 3 dX3_hashSlotsAndText_1 rfl (Nat.le_of_ble_eq_true rfl) rfl ?_
  refine ev_iconst (nI 0) dX3_hashSlotsAndText_2 rfl ?_
  refine ev_istore dX3_hashSlotsAndText_3 (Nat.le_of_ble_eq_true rfl) rfl ?_
  suffices H : ∀ fu j, j + fu = 2 → Ev mX3_hashSlotsAndText (d1 (some (.long (hsS sf cs ℓ h))) (hv P t cs sl pl ks rr n b sv sf τ T g)) nx 0 5 [(5, .int (nI (j))), (3, .long (hsF sf h (j))), (0, .ref 7), (1, .long h)] [] (hv P t cs sl pl ks rr n b sv sf τ T g) from ev_sub [0, 1, 2, 3] rfl (H 2 0 (Nat.zero_add _))
  intro fu
  induction fu with
  | zero =>
    intro j hj
    obtain rfl : 2 = j := by omega
    refine ev_iload dX3_hashSlotsAndText_5 rfl ?_
    refine ev_iconst (nI 2) dX3_hashSlotsAndText_7 rfl ?_
    refine ev_icmp_ge 37 dX3_hashSlotsAndText_8 (by decide) (fun h8 => ?_) (fun h8 => absurd (nI_le (Nat.le_refl 2) (by omega)) h8)
    refine ev_lload_n 3 dX3_hashSlotsAndText_37 rfl rfl ?_
    refine ev_aload_n 0 dX3_hashSlotsAndText_38 rfl rfl ?_
    refine ev_getfield 0 dX3_hashSlotsAndText_39 foX3_10 rfl rfl ?_
    refine ev_getfield 1 dX3_hashSlotsAndText_42 foX3_137 rfl rfl ?_
    refine ev_top (nI ℓ) ht ?_
    refine ev_i2l dX3_hashSlotsAndText_45 ?_
    refine ev_cS2 (c3_mixed _ _ _) kX3_mixed rfl g503 rfl rfl dX3_hashSlotsAndText_46 ?_
    refine ev_lstore_n 3 dX3_hashSlotsAndText_49 rfl (Nat.le_of_ble_eq_true rfl) rfl ?_
    refine ev_iconst (nI 0) dX3_hashSlotsAndText_50 rfl ?_
    refine ev_istore dX3_hashSlotsAndText_51 (Nat.le_of_ble_eq_true rfl) rfl ?_
    suffices H : ∀ fu j, j + fu = ℓ → Ev mX3_hashSlotsAndText (d1 (some (.long (hsS sf cs ℓ h))) (hv P t cs sl pl ks rr n b sv sf τ T g)) nx 0 53 [(5, .int (nI (j))), (3, .long (hsC cs (mx (hsF sf h 2) (nI ℓ).toInt64) (j))), (0, .ref 7), (1, .long h)] [] (hv P t cs sl pl ks rr n b sv sf τ T g) from ev_sub [0, 1, 2, 3] rfl (H ℓ 0 (Nat.zero_add _))
    intro fu
    induction fu with
    | zero =>
      intro j hj
      obtain rfl : ℓ = j := by omega
      refine ev_iload dX3_hashSlotsAndText_53 rfl ?_
      refine ev_aload_n 0 dX3_hashSlotsAndText_55 rfl rfl ?_
      refine ev_getfield 0 dX3_hashSlotsAndText_56 foX3_10 rfl rfl ?_
      refine ev_getfield 1 dX3_hashSlotsAndText_59 foX3_137 rfl rfl ?_
      refine ev_top (nI ℓ) ht ?_
      refine ev_icmp_ge 87 dX3_hashSlotsAndText_62 (by decide) (fun h62 => ?_) (fun h62 => absurd (nI_le (Nat.le_refl ℓ) (by omega)) h62)
      refine ev_lload_n 3 dX3_hashSlotsAndText_87 rfl rfl ?_
      exact ev_lreturn dX3_hashSlotsAndText_88 (Nat.le_of_ble_eq_true rfl) ⟨rfl, rfl⟩
    | succ fu ih =>
      intro j hj
      have hj6 : j < ℓ := by omega
      refine ev_iload dX3_hashSlotsAndText_53 rfl ?_
      refine ev_aload_n 0 dX3_hashSlotsAndText_55 rfl rfl ?_
      refine ev_getfield 0 dX3_hashSlotsAndText_56 foX3_10 rfl rfl ?_
      refine ev_getfield 1 dX3_hashSlotsAndText_59 foX3_137 rfl rfl ?_
      refine ev_top (nI ℓ) ht ?_
      refine ev_icmp_ge 87 dX3_hashSlotsAndText_62 (by decide) (fun h62 => absurd h62 (nI_ge hj6 (by omega))) (fun h62 => ?_)
      refine ev_lload_n 3 dX3_hashSlotsAndText_65 rfl rfl ?_
      refine ev_aload_n 0 dX3_hashSlotsAndText_66 rfl rfl ?_
      refine ev_getfield 0 dX3_hashSlotsAndText_67 foX3_10 rfl rfl ?_
      refine ev_getfield 0 dX3_hashSlotsAndText_70 foX3_143 rfl rfl ?_
      refine ev_iload dX3_hashSlotsAndText_73 rfl ?_
      refine ev_ild (j) dX3_hashSlotsAndText_75 rfl (by simp only [nI_m, nI_add, ix, oI]) (by omega) rfl ?_
      refine ev_i2l dX3_hashSlotsAndText_76 ?_
      refine ev_cS2 (c3_mixed _ _ _) kX3_mixed rfl g503 rfl rfl dX3_hashSlotsAndText_77 ?_
      refine ev_lstore_n 3 dX3_hashSlotsAndText_80 rfl (Nat.le_of_ble_eq_true rfl) rfl ?_
      refine ev_iinc (nI (j + 1)) dX3_hashSlotsAndText_81 rfl (nI_1 j) (Nat.le_of_ble_eq_true rfl) rfl ?_
      refine ev_goto 53 dX3_hashSlotsAndText_84 (by decide) ?_
      exact ev_sub [0, 1, 2, 3] rfl (ih (j + 1) (by omega))
  | succ fu ih =>
    intro j hj
    have hj6 : j < 2 := by omega
    refine ev_iload dX3_hashSlotsAndText_5 rfl ?_
    refine ev_iconst (nI 2) dX3_hashSlotsAndText_7 rfl ?_
    refine ev_icmp_ge 37 dX3_hashSlotsAndText_8 (by decide) (fun h8 => absurd h8 (nI_ge hj6 (by omega))) (fun h8 => ?_)
    refine ev_lload_n 3 dX3_hashSlotsAndText_11 rfl rfl ?_
    refine ev_aload_n 0 dX3_hashSlotsAndText_12 rfl rfl ?_
    refine ev_getfield 4 dX3_hashSlotsAndText_13 foX3_33 rfl rfl ?_
    refine ev_iload dX3_hashSlotsAndText_16 rfl ?_
    refine ev_bld (j) dX3_hashSlotsAndText_18 rfl rfl (by omega) rfl ?_
    suffices J19 : Ev mX3_hashSlotsAndText (d1 (some (.long (hsS sf cs ℓ h))) (hv P t cs sl pl ks rr n b sv sf τ T g)) nx 0 27 [(5, .int (nI j)), (3, .long (hsF sf h j)), (0, .ref 7), (1, .long h)] [.long (sf j).toInt64, .long (hsF sf h j)] (hv P t cs sl pl ks rr n b sv sf τ T g) by
      refine ev_if_eq 26 dX3_hashSlotsAndText_19 (by decide) (fun h19 => ?_) (fun h19 => ?_)
      · refine ev_lconst (lN 0) dX3_hashSlotsAndText_26 rfl ?_
        exact ev_sub [0, 1, 2, 3] rfl (ev_topL _ (by first | (rw [h19]; rfl) | (rw [(hsf j hj6).resolve_left h19]; rfl)) J19)
      · refine ev_lconst (lN 1) dX3_hashSlotsAndText_22 rfl ?_
        refine ev_goto 27 dX3_hashSlotsAndText_23 (by decide) ?_
        exact ev_sub [0, 1, 2, 3] rfl (ev_topL _ (by first | (rw [h19]; rfl) | (rw [(hsf j hj6).resolve_left h19]; rfl)) J19)
    refine ev_cS2 (c3_mixed _ _ _) kX3_mixed rfl g503 rfl rfl dX3_hashSlotsAndText_27 ?_
    refine ev_lstore_n 3 dX3_hashSlotsAndText_30 rfl (Nat.le_of_ble_eq_true rfl) rfl ?_
    refine ev_iinc (nI (j + 1)) dX3_hashSlotsAndText_31 rfl (nI_1 j) (Nat.le_of_ble_eq_true rfl) rfl ?_
    refine ev_goto 5 dX3_hashSlotsAndText_34 (by decide) ?_
    exact ev_sub [0, 1, 2, 3] rfl (ih (j + 1) (by omega))
set_option maxHeartbeats 1000000 in
theorem c3_digest (P : Nat → va_E) (t cs sl pl ks : Nat → Int32) (ρ : Nat → Nat) (n b : Nat) (sv : Nat → Nat) (sf τ : Nat → Int32) (T : Nat → Nat → Int32) (g : PW) (hR : R8 ρ) (hB : BF τ) (hPc : ∀ c, c < 8 → PcC τ c) {ℓ : Nat} (hℓ : ℓ ≤ 60) (ht : t 0 = nI ℓ) (hsf : ∀ s, s < 2 → sf s = 0 ∨ sf s = 1) (hne : ¬ cvS τ 8 = 0 → vf_n64 (useD τ)) {B : Int64} (hbits : ∀ w : PW, Ct mX3_bitsOf [.double (usS τ)] w (d1 (some (.long B)) w) nx) : Ct mX3_digest [.ref 7] (hv P t cs sl pl ks (rN ρ) n b sv sf τ T g) (d1 (some (.long (digS τ (sl, (pl, ks)) ρ n B sf cs ℓ))) (hv P t cs ((dgS τ (sl, (pl, ks)) 8).1.1) ((dgS τ (sl, (pl, ks)) 8).1.2.1) ((dgS τ (sl, (pl, ks)) 8).1.2.2) (rN (srtN τ ρ 8)) n b sv sf τ T g)) nx := by
  refine ct_of 0 kX3_digest.1 rfl (Nat.le_of_ble_eq_true rfl) (fun v u h => by obtain ⟨rfl, rfl⟩ := h; exact rfl) ?_
  show Ev _ _ _ 0 0 [(0, .ref 7)] [] _
  refine ev_ldc2 (lN 4397) dX3_digest_0 g498 ?_
  refine ev_lstore_n 1 dX3_digest_3 rfl (Nat.le_of_ble_eq_true rfl) rfl ?_
  refine ev_iconst (nI 0) dX3_digest_4 rfl ?_
  refine ev_istore_n 3 dX3_digest_5 rfl (Nat.le_of_ble_eq_true rfl) rfl ?_
  suffices H : ∀ fu j, j + fu = 6 → Ev mX3_digest (d1 (some (.long (digS τ (sl, (pl, ks)) ρ n B sf cs ℓ))) (hv P t cs ((dgS τ (sl, (pl, ks)) 8).1.1) ((dgS τ (sl, (pl, ks)) 8).1.2.1) ((dgS τ (sl, (pl, ks)) 8).1.2.2) (rN (srtN τ ρ 8)) n b sv sf τ T g)) nx 0 6 [(3, .int (nI (j))), (1, .long (dgK τ (j))), (0, .ref 7)] [] (hv P t cs sl pl ks (rN ρ) n b sv sf τ T g) from ev_sub [0, 1, 2] rfl (H 6 0 (Nat.zero_add _))
  intro fu
  induction fu with
  | zero =>
    intro j hj
    obtain rfl : 6 = j := by omega
    refine ev_iload_n 3 dX3_digest_6 rfl rfl ?_
    refine ev_bipush (nI 6) dX3_digest_7 rfl ?_
    refine ev_icmp_ge 25 dX3_digest_9 (by decide) (fun h9 => ?_) (fun h9 => absurd (nI_le (Nat.le_refl 6) (by omega)) h9)
    refine ev_iconst (nI 0) dX3_digest_25 rfl ?_
    refine ev_istore_n 3 dX3_digest_26 rfl (Nat.le_of_ble_eq_true rfl) rfl ?_
    refine ev_w (w' := hv P t cs ((dgS τ (sl, (pl, ks)) 0).1.1) ((dgS τ (sl, (pl, ks)) 0).1.2.1) ((dgS τ (sl, (pl, ks)) 0).1.2.2) (rN ρ) n b sv sf τ T g) rfl ?_
    suffices H : ∀ fu j, j + fu = 8 → Ev mX3_digest (d1 (some (.long (digS τ (sl, (pl, ks)) ρ n B sf cs ℓ))) (hv P t cs ((dgS τ (sl, (pl, ks)) 8).1.1) ((dgS τ (sl, (pl, ks)) 8).1.2.1) ((dgS τ (sl, (pl, ks)) 8).1.2.2) (rN (srtN τ ρ 8)) n b sv sf τ T g)) nx 0 27 [(3, .int (nI (j))), (1, .long (dgS τ (sl, (pl, ks)) (j)).2), (0, .ref 7)] [] (hv P t cs ((dgS τ (sl, (pl, ks)) j).1.1) ((dgS τ (sl, (pl, ks)) j).1.2.1) ((dgS τ (sl, (pl, ks)) j).1.2.2) (rN ρ) n b sv sf τ T g) from ev_sub [0, 1, 2] rfl (H 8 0 (Nat.zero_add _))
    intro fu
    induction fu with
    | zero =>
      intro j hj
      obtain rfl : 8 = j := by omega
      refine ev_iload_n 3 dX3_digest_27 rfl rfl ?_
      refine ev_bipush (nI 8) dX3_digest_28 rfl ?_
      refine ev_icmp_ge 53 dX3_digest_30 (by decide) (fun h30 => ?_) (fun h30 => absurd (nI_le (Nat.le_refl 8) (by omega)) h30)
      refine ev_aload_n 0 dX3_digest_53 rfl rfl ?_
      refine ev_getfield 7 dX3_digest_54 foX3_41 rfl rfl ?_
      refine ev_aload_n 0 dX3_digest_57 rfl rfl ?_
      refine ev_getfield 2 dX3_digest_58 foX3_23 rfl rfl ?_
      refine ev_cV1v (c0_sort _ _ _ _ _ _ _ hR) kX0_sortByRisk rfl g586 rfl rfl rfl rfl dX3_digest_61 ?_
      refine ev_iconst (nI 0) dX3_digest_64 rfl ?_
      refine ev_istore_n 3 dX3_digest_65 rfl (Nat.le_of_ble_eq_true rfl) rfl ?_
      suffices H : ∀ fu j, j + fu = 8 → Ev mX3_digest (d1 (some (.long (digS τ (sl, (pl, ks)) ρ n B sf cs ℓ))) (hv P t cs ((dgS τ (sl, (pl, ks)) 8).1.1) ((dgS τ (sl, (pl, ks)) 8).1.2.1) ((dgS τ (sl, (pl, ks)) 8).1.2.2) (rN (srtN τ ρ 8)) n b sv sf τ T g)) nx 0 66 [(3, .int (nI (j))), (1, .long (dgR τ ρ (dgS τ (sl, (pl, ks)) 8).2 (j))), (0, .ref 7)] [] (hv P t cs ((dgS τ (sl, (pl, ks)) 8).1.1) ((dgS τ (sl, (pl, ks)) 8).1.2.1) ((dgS τ (sl, (pl, ks)) 8).1.2.2) (rN (srtN τ ρ 8)) n b sv sf τ T g) from ev_sub [0, 1, 2] rfl (H 8 0 (Nat.zero_add _))
      intro fu
      induction fu with
      | zero =>
        intro j hj
        obtain rfl : 8 = j := by omega
        refine ev_iload_n 3 dX3_digest_66 rfl rfl ?_
        refine ev_bipush (nI 8) dX3_digest_67 rfl ?_
        refine ev_icmp_ge 104 dX3_digest_69 (by decide) (fun h69 => ?_) (fun h69 => absurd (nI_le (Nat.le_refl 8) (by omega)) h69)
        refine ev_aload_n 0 dX3_digest_104 rfl rfl ?_
        refine ev_lload_n 1 dX3_digest_105 rfl rfl ?_
        refine ev_cV1 (c3_hashRules _ _ _ _ _ _ _ _ _ _ _ _ _ _ _) kX3_hashRules rfl g598 rfl rfl rfl rfl dX3_digest_106 ?_
        refine ev_lstore_n 1 dX3_digest_109 rfl (Nat.le_of_ble_eq_true rfl) rfl ?_
        refine ev_aload_n 0 dX3_digest_110 rfl rfl ?_
        refine ev_lload_n 1 dX3_digest_111 rfl rfl ?_
        refine ev_cV1 (c3_hashAccounts _ _ _ _ _ _ _ _ _ _ _ _ _ _ hne hbits _) kX3_hashAccounts rfl g606 rfl rfl rfl rfl dX3_digest_112 ?_
        refine ev_lstore_n 1 dX3_digest_115 rfl (Nat.le_of_ble_eq_true rfl) rfl ?_
        refine ev_aload_n 0 dX3_digest_116 rfl rfl ?_
        refine ev_lload_n 1 dX3_digest_117 rfl rfl ?_
        refine ev_cV1 (c3_hashSlots _ _ _ _ _ _ _ _ _ _ _ _ _ _ hℓ ht hsf _) kX3_hashSlotsAndText rfl g618 rfl rfl rfl rfl dX3_digest_118 ?_
        exact ev_lreturn dX3_digest_121 (Nat.le_of_ble_eq_true rfl) ⟨rfl, rfl⟩
      | succ fu ih =>
        intro j hj
        have hj6 : j < 8 := by omega
        refine ev_iload_n 3 dX3_digest_66 rfl rfl ?_
        refine ev_bipush (nI 8) dX3_digest_67 rfl ?_
        refine ev_icmp_ge 104 dX3_digest_69 (by decide) (fun h69 => absurd h69 (nI_ge hj6 (by omega))) (fun h69 => ?_)
        refine ev_lload_n 1 dX3_digest_72 rfl rfl ?_
        refine ev_aload_n 0 dX3_digest_73 rfl rfl ?_
        refine ev_getfield 2 dX3_digest_74 foX3_23 rfl rfl ?_
        refine ev_iload_n 3 dX3_digest_77 rfl rfl ?_
        refine ev_ild (j) dX3_digest_78 rfl (by simp only [nI_m, nI_add, ix, oI]) (by omega) rfl ?_
        refine ev_i2l dX3_digest_79 ?_
        refine ev_cS2 (c3_mixed _ _ _) kX3_mixed rfl g503 rfl rfl dX3_digest_80 ?_
        refine ev_lstore_n 1 dX3_digest_83 rfl (Nat.le_of_ble_eq_true rfl) rfl ?_
        refine ev_lload_n 1 dX3_digest_84 rfl rfl ?_
        refine ev_aload_n 0 dX3_digest_85 rfl rfl ?_
        refine ev_getfield 7 dX3_digest_86 foX3_41 rfl rfl ?_
        refine ev_iload_n 3 dX3_digest_89 rfl rfl ?_
        refine ev_cV1 (c0_take _ _ _ _ _ _ _ (by omega)) kX0_takeRiskiest rfl g590 rfl rfl rfl rfl dX3_digest_90 ?_
        refine ev_i2l dX3_digest_93 ?_
        refine ev_cS2 (c3_mixed _ _ _) kX3_mixed rfl g503 rfl rfl dX3_digest_94 ?_
        refine ev_lstore_n 1 dX3_digest_97 rfl (Nat.le_of_ble_eq_true rfl) rfl ?_
        refine ev_iinc (nI (j + 1)) dX3_digest_98 rfl (nI_1 j) (Nat.le_of_ble_eq_true rfl) rfl ?_
        refine ev_goto 66 dX3_digest_101 (by decide) ?_
        exact ev_sub [0, 1, 2] rfl (ih (j + 1) (by omega))
    | succ fu ih =>
      intro j hj
      have hj6 : j < 8 := by omega
      refine ev_iload_n 3 dX3_digest_27 rfl rfl ?_
      refine ev_bipush (nI 8) dX3_digest_28 rfl ?_
      refine ev_icmp_ge 53 dX3_digest_30 (by decide) (fun h30 => absurd h30 (nI_ge hj6 (by omega))) (fun h30 => ?_)
      refine ev_aload_n 0 dX3_digest_33 rfl rfl ?_
      refine ev_lload_n 1 dX3_digest_34 rfl rfl ?_
      refine ev_iload_n 3 dX3_digest_35 rfl rfl ?_
      refine ev_cV2 (c3_hashPledges _ _ _ _ _ _ _ _ _ _ _ _ _ _ (by omega) _) kX3_hashPledges rfl g511 rfl rfl rfl rfl dX3_digest_36 ?_
      refine ev_lstore_n 1 dX3_digest_39 rfl (Nat.le_of_ble_eq_true rfl) rfl ?_
      refine ev_aload_n 0 dX3_digest_40 rfl rfl ?_
      refine ev_lload_n 1 dX3_digest_41 rfl rfl ?_
      refine ev_iload_n 3 dX3_digest_42 rfl rfl ?_
      refine ev_cV2 (c3_hashOutlook P t cs (dgS τ (sl, (pl, ks)) j).1.1 (dgS τ (sl, (pl, ks)) j).1.2.1 (dgS τ (sl, (pl, ks)) j).1.2.2 _ n b sv sf τ T g (by omega) _ hB (hPc j (by omega))) kX3_hashOutlook rfl g525 rfl rfl rfl rfl dX3_digest_43 ?_
      refine ev_w (w' := hv P t cs ((dgS τ (sl, (pl, ks)) (j + 1)).1.1) ((dgS τ (sl, (pl, ks)) (j + 1)).1.2.1) ((dgS τ (sl, (pl, ks)) (j + 1)).1.2.2) (rN ρ) n b sv sf τ T g) rfl ?_
      refine ev_lstore_n 1 dX3_digest_46 rfl (Nat.le_of_ble_eq_true rfl) rfl ?_
      refine ev_iinc (nI (j + 1)) dX3_digest_47 rfl (nI_1 j) (Nat.le_of_ble_eq_true rfl) rfl ?_
      refine ev_goto 27 dX3_digest_50 (by decide) ?_
      exact ev_sub [0, 1, 2] rfl (ih (j + 1) (by omega))
  | succ fu ih =>
    intro j hj
    have hj6 : j < 6 := by omega
    refine ev_iload_n 3 dX3_digest_6 rfl rfl ?_
    refine ev_bipush (nI 6) dX3_digest_7 rfl ?_
    refine ev_icmp_ge 25 dX3_digest_9 (by decide) (fun h9 => absurd h9 (nI_ge hj6 (by omega))) (fun h9 => ?_)
    refine ev_aload_n 0 dX3_digest_12 rfl rfl ?_
    refine ev_lload_n 1 dX3_digest_13 rfl rfl ?_
    refine ev_iload_n 3 dX3_digest_14 rfl rfl ?_
    refine ev_cV2 (c3_hashKind _ _ _ _ _ _ _ _ _ _ _ _ _ _ (by omega) _) kX3_hashKind rfl g499 rfl rfl rfl rfl dX3_digest_15 ?_
    refine ev_lstore_n 1 dX3_digest_18 rfl (Nat.le_of_ble_eq_true rfl) rfl ?_
    refine ev_iinc (nI (j + 1)) dX3_digest_19 rfl (nI_1 j) (Nat.le_of_ble_eq_true rfl) rfl ?_
    refine ev_goto 6 dX3_digest_22 (by decide) ?_
    exact ev_sub [0, 1, 2] rfl (ih (j + 1) (by omega))
