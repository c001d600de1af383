/-! ===== the script: the law's reader of it, the loop ===== -/
abbrev pT : PO := fun v _ => v = some (.int (nI 1))
abbrev mCl (n : Nat) (xs : Nat → Int32) : MT := (yL_cell, (some .int), cL_cell, 2, { frames := 0, cells := 0, slots := 0, locals := 0 }, [], 0, some (n, xs))
def PCtS (n : Nat) (xs : Nat → Int32) (dC : Nat → ClassId) (dI : Nat → Nat → Nat) (dA : Nat → ClassId) (as : Nat → Nat) (w : PW) (sz : Nat) : State → Prop := fun U => PCt dC dI dA as w sz U ∧ va_X (as 999) n xs U U.heap ∧ as 999 < U.heap.size ∧ ¬ va_A (emW as dA w) sz (as 999)
/-- the reader's contract: the script lies where it is called with -/
def CtS (n : Nat) (xs : Nat → Int32) (args : List Value) (w : PW) (po : PO) : Prop := ∀ (l : Launch), l.stackTraces = false → ∀ (dC : Nat → ClassId) (dI : Nat → Nat → Nat) (dA : Nat → ClassId) (as : Nat → Nat) (sz : Nat),
  vx_Met l (mY mL_cell) (hdW mL_cell :: Gw) (mR mL_cell) (va_Pc (args.map (em as)) (PCtS n xs dC dI dA as w sz)) (QCt po dC dI dA as w sz) (XCt nx dC dI dA as w sz) (mK mL_cell) (6 * mK mL_cell) (va_A (emW as dA w) sz)
set_option maxHeartbeats 1000000 in
theorem cts_of {n : Nat} {xs : Nat → Int32} {args : List Value} {w : PW} {po : PO} (hl : (lg_sl args).length ≤ 2) (hrt : ∀ v u, po v u → ∃ x, v = some (.int x)) (h : Ev (mCl n xs) po nx 0 0 (lv_args 0 args) [] w) : CtS n xs args w po := by
  obtain ⟨f1, f2, f3, f4, f5, f6, f7, f8⟩ := kL_cell.1
  intro l hst dC dI dA as sz
  have hW : hdW mL_cell = Cond.code (mY mL_cell) (mC mL_cell) (mN mL_cell) (mT mL_cell) := by unfold hdW; rw [if_pos rfl]
  rw [hW]
  refine vx_ofW (cc := mC mL_cell) (maxL := mN mL_cell) (ret := mT mL_cell) f7 rfl ?_
  intro p e s m args' below meth c s₁ B hml hnt hv
  obtain ⟨rfl, ⟨hsz, hP, hK, hD0, hG⟩, hX, hbl, hnA⟩ := hv
  subst hsz
  have hts : ∀ w ∈ Gw, w.before _ s = true := fun w hw => atoms_spec (ws := Cond.code (mY mL_cell) (mC mL_cell) (mN mL_cell) (mT mL_cell) :: Gw) B.pre w (List.mem_cons_of_mem _ hw)
  have htab : c.exceptionTable.toList = tableOf (mH (mCl n xs)) := List.eq_nil_iff_forall_not_mem.mpr (fun x hx => hnt x hx)
  have hent := lv_entry (args.map (em as)) (n := mN (mCl n xs)) (by rw [sl_len]; exact hl)
  rw [lg_entry_eq]
  generalize (lg_sl (args.map (em as)) ++ List.replicate (mN mL_cell - (lg_sl (args.map (em as))).length) Slot.unset).toArray = ls at hent ⊢
  rw [← emL_args] at hent
  refine h p l e s m _ below meth c dC dI dA as (va_A (emW as dA w) s.heap.size) _ s.heap [] ls ⟨B.exec, B.bytes, hml, findClass_of_methodNamed B.named, hts, hst, B.notSynchronized, htab, hK, fun q h => Or.inr h, hG, ⟨hX, hbl, hnA⟩⟩ ⟨?_, ?_⟩ ⟨hP, hD0.self, va_S.rf⟩ hent
  · intro H locs ls pc v u hpo hD hsz d
    obtain ⟨x, rfl⟩ := hrt v u hpo
    have hq : ∀ t : State, t.heap = H → s.WarmedH t.vm → QCt po dC dI dA as w s.heap.size (args.map (em as)).toArray s (.returned (some (.int x))) t := fun t ht _ => ⟨⟨some (.int x), u, rfl, hpo, by rw [ht]; exact hD.1, hD.2.1⟩, hD.2.2.F ht⟩
    exact vx_ret (W.iret B.exec B.bytes B.returns hq hD.2.2.2.2 d B.notSynchronized)
  · intro H locs ls pc st E ce q u hp _ _ _ _ _
    exact hp.elim
theorem pcs_blind (n : Nat) (xs : Nat → Int32) (dC : Nat → ClassId) (dI : Nat → Nat → Nat) (dA : Nat → ClassId) (as : Nat → Nat) (w : PW) (sz : Nat) (av : List Value) : FrameBlind (va_Pc av (PCtS n xs dC dI dA as w sz)) := fun a U g mk h => by
  obtain ⟨h1, ⟨h2, h3, h4, h5, h6⟩, h7, h8, h9⟩ := h
  exact ⟨h1, ⟨h2, h3, va_K.moved (u := U) (U := U.calling g mk a) (Vm.Alike.refl U.vm) h4, h5, GX.warm (s := U) (U := U.calling g mk a) (State.WarmedH.refl U) h6⟩, va_X.moved (u := U) (U := U.calling g mk a) (Vm.Alike.refl U.vm) h7, h8, h9⟩
theorem pcs_at {M : MT} {n : Nat} {xs : Nat → Int32} (hs : mS M = some (n, xs)) {p : Program} {l : Launch} {s U : State} {m : MethodId} {args : Array Value} {meth : Method} {c : Code} {dC : Nat → ClassId} {dI : Nat → Nat → Nat} {dA : Nat → ClassId} {as : Nat → Nat} {A : Nat → Prop} {H : Heap} {locs : List Loc} {w : PW} (hX : Sx M p l s m args meth c dC dI dA as A) (hD : Dy M s dC dI dA as A H locs w) (hU : U.heap = H) (hW : s.WarmedH U.vm) : PCtS n xs dC dI dA as w H.size U := by
  have h0 := pct_at hX hD hU hW
  obtain ⟨hx, hb, hml, hown, hts, hst, hlk, htb, hK, hA, hG, hsc⟩ := hX
  obtain ⟨hP, hDD, hS⟩ := hD
  rw [hs] at hsc
  obtain ⟨s1, s2, s3⟩ := hsc
  subst hU
  exact ⟨h0, (s1.kept (hS.2.1 _ s2 s3)).moved hW.alike, Nat.lt_of_lt_of_le s2 hS.1, fun h => s3 (fA_of hDD hS hA _ h)⟩
section CELL
variable {M : MT} {po po' : PO} {px : PX} {k pc idx n : Nat} {L : LV} {st : List Value} {w : PW} {xs : Nat → Int32}
theorem rn_cell {As : List Value} (hsM : mS M = some (n, xs)) (hc : CtS n xs As w po') (hlw : Cond.methodLink (mY M).cls idx (mY mL_cell) ∈ Gw) (hR : RF M mL_cell k) (hn : As.length = 2) (hs : (st.map fun v => v.category).sum ≤ 8) (d : decode (mC M) pc = .ok (.invokestatic idx, 3)) : Rn M mL_cell k pc L (As.reverse ++ st) st w po' nx := by
  intro p l e s m args below meth c dC dI dA as A H locs ls hX hD hl
  obtain ⟨hx, hb, hml, hown, hts, hst, hlk, htb, hK, hA, hG, hsc⟩ := id hX
  obtain ⟨f1, f2, f3, f4, f5, f6, f7, f8⟩ := kL_cell.1
  obtain ⟨r1, r2, r3, r4⟩ := hR
  have hW : hdW mL_cell = Cond.code (mY mL_cell) (mC mL_cell) (mN mL_cell) (mT mL_cell) := by unfold hdW; rw [if_pos rfl]
  exact ⟨_, vx_runS (As := As.map (em as)) (n := 2) ⟨hx, hb, hml, hown, hts⟩ (hc l hst dC dI dA as H.size) ⟨callB_of 2 hts (gin_hd f1) (by rw [hW]) f5 f6 (hts _ f2) (hts _ hlw) ⟨f3.1, f3.2, f4⟩ ⟨r1, r2⟩, hts _ kL_cell.2.1⟩ ⟨pcs_blind _ _ _ _ _ _ _ _ _, fun U hU hWm => ⟨rfl, pcs_at hsM hX hD hU hWm⟩⟩ rfl (by simpa using hn) hl.1 (by simp [em]) (lv_room (by rw [cat_map]; exact hs)) d ⟨r3, by omega⟩⟩
theorem c_cell (w : PW) {e : Nat} (he : e < 1000) (hn : n < 2 ^ 31) : CtS n xs [.ref 999, .int (nI e)] w (fun v u => ∃ x, v = some (.int x) ∧ u = w) := by
  refine cts_of (Nat.le_of_ble_eq_true rfl) (fun v u h => by obtain ⟨x, rfl, -⟩ := h; exact ⟨x, rfl⟩) ?_
  show Ev _ _ _ 0 0 [(0, .ref 999), (1, .int (nI e))] [] _
  refine ev_iload_n 1 dL_cell_0 rfl rfl ?_
  refine ev_aload_n 0 dL_cell_1 rfl rfl ?_
  refine ev_slen dL_cell_2 rfl ?_
  refine ev_icmp_ge 12 dL_cell_3 (by decide) (fun h3 => ?_) (fun h3 => ?_)
  · refine ev_sipush (nI 7919) dL_cell_12 rfl ?_
    refine ev_iload_n 1 dL_cell_15 rfl rfl ?_
    refine ev_iconst (nI 3) dL_cell_16 rfl ?_
    refine ev_iadd dL_cell_17 ?_
    refine ev_imul dL_cell_18 ?_
    refine ev_iload_n 1 dL_cell_19 rfl rfl ?_
    refine ev_bipush (nI 11) dL_cell_20 rfl ?_
    refine ev_iadd dL_cell_22 ?_
    refine ev_imul dL_cell_23 ?_
    exact ev_ireturn dL_cell_24 (Nat.le_of_ble_eq_true rfl) ⟨_, rfl, rfl⟩
  · refine ev_aload_n 0 dL_cell_6 rfl rfl ?_
    refine ev_iload_n 1 dL_cell_7 rfl rfl ?_
    refine ev_sld dL_cell_8 rfl (vpi (nI_lt10 h3 (by omega) hn) hn) ?_
    refine ev_goto 24 dL_cell_9 (by decide) ?_
    exact ev_ireturn dL_cell_24 (Nat.le_of_ble_eq_true rfl) ⟨_, rfl, rfl⟩
theorem ev_cell {K e : Nat} (hsM : mS M = some (n, xs)) (he : e < 1000) (hn : n < 2 ^ 31) (hlw : Cond.methodLink (mY M).cls idx (mY mL_cell) ∈ Gw) (hR : rfB M mL_cell K = true) (hk : k ≤ K) (hs : stB st = true) (d : decode (mC M) pc = .ok (.invokestatic idx, 3)) (kk : ∀ x, Ev M po px k (pc + 3) L (.int x :: st) w) : Ev M po px k pc L (.int (nI e) :: .ref 999 :: st) w :=
  ev_run (rn_cell (As := [.ref 999, .int (nI e)]) hsM (c_cell w he hn) hlw (rf_of (rfB_le hR hk)) rfl (Nat.le_of_ble_eq_true hs) d) (fun v u h => by obtain ⟨x, rfl, rfl⟩ := h; exact kk x) (fun _ _ h => h.elim)
end CELL
/-! the loop -/
abbrev mLw (nm : String) (HT : List (Nat × Nat × Nat × Nat)) (LL : Nat) (xs : Nat → Int32) : MT := (⟨"PledgeHouseLaw", nm, ""⟩, (some .boolean), cL_law, 5, { frames := 12, cells := 600130, slots := 7301080, locals := 452 }, HT, 200000, some (LL, xs))
def lwB (M' : MT) : Bool := Nat.ble ((mR M').frames + 1) 12 && (Nat.ble (8 + (mN M' + 11) + (mR M').locals) 452 && Nat.ble (mK M') 600)
section LAW
variable {nm : String} {HT : List (Nat × Nat × Nat × Nat)} {LL : Nat} {xs : Nat → Int32}
theorem lw_rf {M' : MT} (h : lwB M' = true) : rfB (mLw nm HT LL xs) M' 150000 = true := by
  simp only [lwB, rfB, Bool.and_eq_true, Nat.ble_eq] at h ⊢
  obtain ⟨h1, h2, h3⟩ := h
  refine ⟨h1, h2, ?_, ?_⟩
  · show 150000 + mK M' ≤ 600130; omega
  · show 6 * (150000 + mK M') ≤ 7301080; omega
set_option maxHeartbeats 1000000 in
theorem lw_loop (hL : LL ≤ 260) : ∀ (N e k B : Nat) (σ : Nat → Int32) (w : PW), e + N = 50 → k ≤ 500 + 2000 * e → B ≤ 57024 * e → SW σ w → INV σ → AS B σ → Ev (mLw nm HT LL xs) pT nx k 10 [(2, .int (nI e)), (1, .ref 7), (0, .ref 999)] [] w := by
  intro N
  induction N with
  | zero =>
    intro e k B σ w he hk hB hS hI hA
    obtain rfl : e = 50 := by omega
    refine ev_iload_n 2 dL_law_10 rfl rfl ?_
    refine ev_bipush (nI 50) dL_law_11 rfl ?_
    refine ev_icmp_ge 78 dL_law_13 (by decide) (fun h13 => ?_) (fun h13 => absurd (Int32.le_refl _) h13)
    refine ev_iconst (nI 1) dL_law_78 rfl ?_
    exact ev_ireturn dL_law_79 (by show k ≤ 200000; omega) rfl
  | succ N ih =>
    intro e k B σ w he hk hB hS hI hA
    refine ev_iload_n 2 dL_law_10 rfl rfl ?_
    refine ev_bipush (nI 50) dL_law_11 rfl ?_
    refine ev_icmp_ge 78 dL_law_13 (by decide) (fun h13 => absurd h13 (nI_nlb (by omega) (by omega))) (fun h13 => ?_)
    refine ev_aload_n 0 dL_law_16 rfl rfl ?_
    refine ev_iload_n 2 dL_law_17 rfl rfl ?_
    refine ev_cell (K := 150000) rfl (by omega) (by omega) g210 (lw_rf rfl) (by omega) rfl dL_law_18 (fun v => ?_)
    refine ev_istore_n 3 dL_law_21 rfl (Nat.le_of_ble_eq_true rfl) rfl ?_
    refine ev_aload_n 0 dL_law_22 rfl rfl ?_
    refine ev_iload_n 2 dL_law_23 rfl rfl ?_
    refine ev_bipush (nI 14) dL_law_24 rfl ?_
    refine ev_iadd dL_law_26 ?_
    refine ev_top (nI (e + 14)) (nI_add _ _) ?_
    refine ev_cell (K := 150000) rfl (by omega) (by omega) g210 (lw_rf rfl) (by omega) rfl dL_law_27 (fun x => ?_)
    refine ev_istore dL_law_30 (Nat.le_of_ble_eq_true rfl) rfl ?_
    refine ev_aload_n 1 dL_law_32 rfl rfl ?_
    refine ev_iload_n 3 dL_law_33 rfl rfl ?_
    refine ev_iload dL_law_34 rfl ?_
    refine ev_l3 (K := 150000) 200 (c_does hS hI hA v x) kL_does rfl g217 (lw_rf rfl) (by omega) rfl dL_law_36 (fun r u h => ?_)
    obtain ⟨rfl, σ1, hS1, hI1, hA1⟩ := h
    refine ev_if_eq 70 dL_law_39 (by decide) (fun h => absurd h (by decide)) (fun _ => ?_)
    refine ev_aload_n 1 dL_law_42 rfl rfl ?_
    refine ev_iload_n 3 dL_law_43 rfl rfl ?_
    refine ev_iconst (nI 3) dL_law_44 rfl ?_
    refine ev_ishr dL_law_45 ?_
    refine ev_iconst (nI 3) dL_law_46 rfl ?_
    refine ev_l2 (K := 150000) 0 (c_low _ (v >>> (nI 3 &&& 31)) (n := 3) (by decide) (by decide)) kL_low rfl g213 (lw_rf rfl) (by omega) rfl dL_law_47 (fun r u' h => ?_)
    obtain ⟨rfl, rfl⟩ := h
    have hl := low_lt (v >>> (nI 3 &&& 31)) (n := 3) (by decide)
    refine ev_m2 (K := 150000) 600 (c_client hS1 hI1 (c := lowN (v >>> (nI 3 &&& 31)) 3) (by omega)) kL_isClientSo rfl g606 (lw_rf rfl) (by omega) rfl dL_law_50 (fun u2 hS2 => ?_)
    refine ev_if_eq 70 dL_law_53 (by decide) (fun h => absurd h (by decide)) (fun _ => ?_)
    refine ev_aload_n 1 dL_law_56 rfl rfl ?_
    refine ev_m1 (K := 150000) 600 (c_risk hS2 hI1) kL_isRiskSo rfl g661 (lw_rf rfl) (by omega) rfl dL_law_57 (fun u3 hS3 => ?_)
    refine ev_if_eq 70 dL_law_60 (by decide) (fun h => absurd h (by decide)) (fun _ => ?_)
    refine ev_aload_n 1 dL_law_63 rfl rfl ?_
    refine ev_m1 (K := 150000) 600 (c_acc hS3 hI1 hA1 (by omega)) kL_areAccountsSo rfl g699 (lw_rf rfl) (by omega) rfl dL_law_64 (fun u4 hS4 => ?_)
    refine ev_if_ne 72 dL_law_67 (by decide) (fun _ => ?_) (fun h => absurd h (by decide))
    refine ev_iinc (nI (e + 1)) dL_law_72 rfl (nI_add e 1) (Nat.le_of_ble_eq_true rfl) rfl ?_
    refine ev_goto 10 dL_law_75 (by decide) ?_
    exact ev_sub [0, 3, 4] rfl (ih (e + 1) _ (B + 57024) σ1 u4 (by omega) (by omega) (by omega) hS4 hI1 hA1)
end LAW
