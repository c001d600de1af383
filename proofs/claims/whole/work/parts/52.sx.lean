/-! ===== the law: the box of answers, throws that are caught ===== -/
/-- the box: one long -/
def oc (fo : Nat → Int64) : va_E := .inl (2, 1, .inr (.inl fo))
section LX
variable {M M' : MT} {po : PO} {px : PX} {k pc : Nat} {L : LV} {st : List Value} {w u : PW} {idx b ci : Nat} {fs : List Value}
theorem ev_las {x : Int64} {fo : Nat → Int64} {w' : PW} (d : decode (mC M) pc = .ok (.lastore, 1)) (hw : w[107]? = some (oc fo)) (hw' : w.set 107 (oc (vp_updL fo 0 x)) = w') (kk : Ev M po px k (pc + 1) L st w') : Ev M po px k pc L (.long x :: .int (nI 0) :: .ref 107 :: st) w :=
  ev_lastore d hw (vpi (j := 0) (by decide) (by decide)) hw' kk
theorem ev_lld {fo : Nat → Int64} (d : decode (mC M) pc = .ok (.laload, 1)) (hw : w[107]? = some (oc fo)) (kk : Ev M po px k (pc + 1) L (.long (fo 0) :: st) w) : Ev M po px k pc L (.int (nI 0) :: .ref 107 :: st) w :=
  ev_laload d hw (vpi (j := 0) (by decide) (by decide)) kk
theorem ev_rx {stk : List Value} {E : String} (hr : Rn M M' k pc L stk st w (fun _ _ => False) (pX E u)) (kx : EvX M po px (k + mK M') pc L E u) : Ev M po px k pc L stk w :=
  ev_run hr (fun _ _ h => h.elim) (fun E' u' h => by obtain ⟨rfl, rfl⟩ := h; exact kx)
theorem ev_xV0 {E : String} (hc : Ct M' [.ref b] w (fun _ _ => False) (pX E u)) (hM : MKV M' 0) (hlw : Cond.methodLink (mY M).cls idx (mY M') ∈ Gw) (hR : rfB M M' k = true) (hw : w[b]? = some (.inr (ci, fs))) (hci : (vwC8[ci]?).map (fun q => q.1) = some (mY M').cls) (hs : stB st = true) (d : decode (mC M) pc = .ok (.invokevirtual idx, 3)) (kx : EvX M po px (k + mK M') pc L E u) : Ev M po px k pc L (.ref b :: st) w :=
  ev_rx (rn_V (As := []) hc hM.1 hM.2.1 hM.2.2 hlw (rf_of hR) rfl hw hci (Nat.le_of_ble_eq_true hs) d) kx
theorem ev_xV1 {x1 : Value} {E : String} (hc : Ct M' [.ref b, x1] w (fun _ _ => False) (pX E u)) (hM : MKV M' 1) (hlw : Cond.methodLink (mY M).cls idx (mY M') ∈ Gw) (hR : rfB M M' k = true) (hw : w[b]? = some (.inr (ci, fs))) (hci : (vwC8[ci]?).map (fun q => q.1) = some (mY M').cls) (hs : stB st = true) (d : decode (mC M) pc = .ok (.invokevirtual idx, 3)) (kx : EvX M po px (k + mK M') pc L E u) : Ev M po px k pc L (x1 :: .ref b :: st) w :=
  ev_rx (rn_V (As := [x1]) hc hM.1 hM.2.1 hM.2.2 hlw (rf_of hR) rfl hw hci (Nat.le_of_ble_eq_true hs) d) kx
theorem ev_xV2 {x1 x2 : Value} {E : String} (hc : Ct M' [.ref b, x1, x2] w (fun _ _ => False) (pX E u)) (hM : MKV M' 2) (hlw : Cond.methodLink (mY M).cls idx (mY M') ∈ Gw) (hR : rfB M M' k = true) (hw : w[b]? = some (.inr (ci, fs))) (hci : (vwC8[ci]?).map (fun q => q.1) = some (mY M').cls) (hs : stB st = true) (d : decode (mC M) pc = .ok (.invokevirtual idx, 3)) (kx : EvX M po px (k + mK M') pc L E u) : Ev M po px k pc L (x2 :: x1 :: .ref b :: st) w :=
  ev_rx (rn_V (As := [x1, x2]) hc hM.1 hM.2.1 hM.2.2 hlw (rf_of hR) rfl hw hci (Nat.le_of_ble_eq_true hs) d) kx
theorem ev_xV3 {x1 x2 x3 : Value} {E : String} (hc : Ct M' [.ref b, x1, x2, x3] w (fun _ _ => False) (pX E u)) (hM : MKV M' 3) (hlw : Cond.methodLink (mY M).cls idx (mY M') ∈ Gw) (hR : rfB M M' k = true) (hw : w[b]? = some (.inr (ci, fs))) (hci : (vwC8[ci]?).map (fun q => q.1) = some (mY M').cls) (hs : stB st = true) (d : decode (mC M) pc = .ok (.invokevirtual idx, 3)) (kx : EvX M po px (k + mK M') pc L E u) : Ev M po px k pc L (x3 :: x2 :: x1 :: .ref b :: st) w :=
  ev_rx (rn_V (As := [x1, x2, x3]) hc hM.1 hM.2.1 hM.2.2 hlw (rf_of hR) rfl hw hci (Nat.le_of_ble_eq_true hs) d) kx
end LX
/-- an entry of a table -/
def te9 (q : Nat × Nat × Nat × Nat) : ExceptionTableEntry := ⟨q.1, q.2.1, q.2.2.1, q.2.2.2⟩
