/-! ===== the class: the share, the digest ===== -/
def mx (h v : Int64) : Int64 := lN 31 * h + v
def mxL (h : Int64) (l : List Int32) : Int64 := l.foldl (fun h x => mx h x.toInt64) h
def usS (τ : Nat → Int32) : UInt64 := if cvS τ 8 = 0 then FP.dconst0 else useD τ
def hkS (τ : Nat → Int32) (h : Int64) (k : Nat) : Int64 := mxL h [τ k, τ (6 + k), pldS τ k 8, τ (12 + k)]
def hpF (τ : Nat → Int32) (c : Nat) (h : Int64) : Nat → Int64
  | 0 => h
  | n + 1 => mx (hpF τ c h n) (τ (ix c n)).toInt64
def hpS (τ : Nat → Int32) (h : Int64) (c : Nat) : Int64 := mxL (hpF τ c h 6) [τ (ix c 6), τ (ix c 7), worS τ c 6, covI τ c (nI 0) (nI 1), opnS τ c]
abbrev SL3 := (Nat → Int32) × ((Nat → Int32) × (Nat → Int32))
def rqS (τ : Nat → Int32) (q : SL3) (c : Nat) : SL3 := (rkE (rkS τ q.1 q.2.1 q.2.2 c (nP τ c 6)).1, ((rkS τ q.1 q.2.1 q.2.2 c (nP τ c 6)).2, layK τ q.2.2 6))
def hoS (τ : Nat → Int32) (q : SL3) (h : Int64) (c : Nat) : Int64 := mxL h [bI (isK τ c), τ (ix c 8), τ (ix c 9), rplS τ c 8, tryS τ c + nI 1, hlvS τ c + nI 1, (rqS τ q c).1 3, (rqS τ q c).1 5]
def dgK (τ : Nat → Int32) : Nat → Int64
  | 0 => lN 4397
  | n + 1 => hkS τ (dgK τ n) n
def dgS (τ : Nat → Int32) (q : SL3) : Nat → SL3 × Int64
  | 0 => (q, dgK τ 6)
  | n + 1 => (rqS τ (dgS τ q n).1 n, hoS τ (dgS τ q n).1 (hpS τ (dgS τ q n).2 n) n)
def dgR (τ : Nat → Int32) (ρ : Nat → Nat) (h : Int64) : Nat → Int64
  | 0 => h
  | n + 1 => mxL (dgR τ ρ h n) [nI (srtN τ ρ 8 n), nI (tkN τ (n + 1)).2]
def hrS (τ : Nat → Int32) (h : Int64) : Int64 := mxL h [allS τ 8, τ 98, τ 99, τ 100, τ 101, ifFS τ (nI 10) 8, ifFS τ (nI 50) 8]
def haS (τ : Nat → Int32) (n : Nat) (B h : Int64) : Int64 := mx (mxL h [τ 102, dbS τ 8, τ 103 + τ 104 - τ 105 - τ 106, τ 103, τ 104, τ 105, τ 106, τ 107, τ 108, nI n]) B
def hsF (sf : Nat → Int32) (h : Int64) : Nat → Int64
  | 0 => h
  | n + 1 => mx (hsF sf h n) (sf n).toInt64
def hsC (cs : Nat → Int32) (h : Int64) : Nat → Int64
  | 0 => h
  | n + 1 => mx (hsC cs h n) (cs n).toInt64
def hsS (sf cs : Nat → Int32) (q : Nat) (h : Int64) : Int64 := hsC cs (mx (hsF sf h 2) (nI q).toInt64) q
def digS (τ : Nat → Int32) (q : SL3) (ρ : Nat → Nat) (n : Nat) (B : Int64) (sf cs : Nat → Int32) (ℓ : Nat) : Int64 := hsS sf cs ℓ (haS τ n B (hrS τ (dgR τ ρ (dgS τ q 8).2 8)))
set_option maxHeartbeats 1000000 in
theorem c3_usedShare (P : Nat → va_E) (t cs sl pl ks rr : Nat → Int32) (n b : Nat) (sv : Nat → Nat) (sf τ : Nat → Int32) (T : Nat → Nat → Int32) (g : PW) (hne : ¬ cvS τ 8 = 0 → vf_n64 (useD τ)) : Ct mX3_usedShare [.ref 7] (hv P t cs sl pl ks rr n b sv sf τ T g) (d1 (some (.double (usS τ))) (hv P t cs sl pl ks rr n b sv sf τ T g)) nx := by
  refine ct_of 0 kX3_usedShare.1 rfl (Nat.le_of_ble_eq_true rfl) (fun v u h => by obtain ⟨rfl, rfl⟩ := h; exact rfl) ?_
  show Ev _ _ _ 0 0 [(0, .ref 7)] [] _
  refine ev_aload_n 0 dX3_usedShare_0 rfl rfl ?_
  refine ev_getfield 7 dX3_usedShare_1 foX3_41 rfl rfl ?_
  refine ev_cV0 (c0_coverOfAll _ _ _ _ _ _ _) kX0_coverOfAll rfl g730 rfl rfl rfl rfl dX3_usedShare_4 ?_
  refine ev_istore_n 1 dX3_usedShare_7 rfl (Nat.le_of_ble_eq_true rfl) rfl ?_
  refine ev_iload_n 1 dX3_usedShare_8 rfl rfl ?_
  refine ev_if_ne 16 dX3_usedShare_9 (by decide) (fun h9 => ?_) (fun h9 => ?_)
  · have e9 : usS τ = useD τ := if_neg h9
    refine ev_aload_n 0 dX3_usedShare_16 rfl rfl ?_
    refine ev_getfield 7 dX3_usedShare_17 foX3_41 rfl rfl ?_
    refine ev_cV0 (c0_debtsOfAll _ _ _ _ _ _ _) kX0_debtsOfAll rfl g531 rfl rfl rfl rfl dX3_usedShare_20 ?_
    refine ev_i2d dX3_usedShare_23 ?_
    refine ev_iload_n 1 dX3_usedShare_24 rfl rfl ?_
    refine ev_i2d dX3_usedShare_25 ?_
    refine ev_ddiv dX3_usedShare_26 (hne h9) ?_
    exact ev_dreturn dX3_usedShare_27 (Nat.le_of_ble_eq_true rfl) ⟨by rw [e9]; rfl, rfl⟩
  · have e9 : usS τ = FP.dconst0 := if_pos h9
    refine ev_dconst0 dX3_usedShare_12 ?_
    refine ev_goto 27 dX3_usedShare_13 (by decide) ?_
    exact ev_dreturn dX3_usedShare_27 (Nat.le_of_ble_eq_true rfl) ⟨by rw [e9], rfl⟩
