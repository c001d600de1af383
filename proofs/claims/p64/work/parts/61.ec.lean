/-! ===== constructors: Arrays.fill, the five <init> ===== -/
def noR : Value → Bool
  | .ref _ => false
  | _ => true
theorem noR_of {fs : List Value} (h : fs.all noR = true) : ∀ v ∈ fs, ∀ r, v ≠ .ref r := fun v hv r e => by
  have := List.all_eq_true.mp h v hv
  rw [e] at this
  cases this
section EC
variable {M : MT} {n0 sh : Nat} {X : XT} {k q pc : Nat} {L : LV} {st : List Value} {w : PW}
theorem ea_nwI {n : Nat} {w' : PW} (r : Nat) (hr : sh + w.length = r) (hr8 : r < 998) (d : decode (mC M) pc = .ok (.newarray .int, 2)) (hn : Nat.blt n 1000 = true) (hR : k + 1 ≤ (mR M).cells ∧ q + n ≤ (mR M).slots) (hw' : w ++ [.inl (0, n, .inl (tr n (fun _ => nI 0)))] = w') (kk : EvA M n0 sh X (k + 1) (q + n) (pc + 2) L (.ref r :: st) w') : EvA M n0 sh X k q pc L (.int (nI n) :: st) w := by
  subst hr
  exact ea_newI d g48 (Nat.le_of_ble_eq_true hn) hR hr8 hw' kk
theorem ea_nwZ {n : Nat} {w' : PW} (r : Nat) (hr : sh + w.length = r) (hr8 : r < 998) (d : decode (mC M) pc = .ok (.newarray .boolean, 2)) (hn : Nat.blt n 1000 = true) (hR : k + 1 ≤ (mR M).cells ∧ q + n ≤ (mR M).slots) (hw' : w ++ [.inl (1, n, .inl (tr n (fun _ => nI 0)))] = w') (kk : EvA M n0 sh X (k + 1) (q + n) (pc + 2) L (.ref r :: st) w') : EvA M n0 sh X k q pc L (.int (nI n) :: st) w := by
  subst hr
  exact ea_newZ d g181 (Nat.le_of_ble_eq_true hn) hR hr8 hw' kk
theorem ea_nwQ {idx n : Nat} {w' : PW} (r : Nat) (hr : sh + w.length = r) (hr8 : r < 998) (d : decode (mC M) pc = .ok (.anewarray idx, 3)) (h1 : Cond.classLink (mY M).cls idx RX0 ∈ Gw) (hn : Nat.blt n 1000 = true) (hR : k + 1 ≤ (mR M).cells ∧ q + n ≤ (mR M).slots) (hw' : w ++ [.inl (3, n, .inr (.inr (.inr (.inr (fun _ => none)))))] = w') (kk : EvA M n0 sh X (k + 1) (q + n) (pc + 3) L (.ref r :: st) w') : EvA M n0 sh X k q pc L (.int (nI n) :: st) w := by
  subst hr
  exact ea_newQ d h1 (Nat.le_of_ble_eq_true hn) hR hr8 hw' kk
theorem ea_nw {idx ci : Nat} {C : String} {T : u_T} {N : Nat} {ty : Nat → FieldType} (fs : List Value) {w' : PW} (r : Nat) (hr : sh + w.length = r) (hr8 : r < 998) (d : decode (mC M) pc = .ok (.new idx, 3)) (hc : CF ci C T N ty) (h1 : Cond.classLink (mY M).cls idx C ∈ Gw) (h2 : Cond.instantiable C N ∈ Gw) (h3 : Cond.initialized C ∈ Gw) (hfs : ∀ j, j < N → defaultValue (ty j) = vp_V fs j) (hfe : fs.all noR = true) (hR : k + 1 ≤ (mR M).cells ∧ q + N ≤ (mR M).slots) (hw' : w ++ [.inr (ci, fs)] = w') (kk : EvA M n0 sh X (k + 1) (q + N) (pc + 3) L (.ref r :: st) w') : EvA M n0 sh X k q pc L st w := by
  subst hr
  exact ea_new fs d hc h1 h2 h3 hfs (noR_of hfe) hR hr8 hw' kk
end EC
/-! Arrays.fill -/
abbrev mJ7_fill : MT := (yJ7_fill_53178, none, cJ7_fill_53178, 4, { frames := 0, cells := 0, slots := 0, locals := 0 }, [], 0, none)
theorem kJ7_fill : MF mJ7_fill 2 := ⟨(by rw [hdW, if_pos rfl]; exact g96), g8, ⟨by decide, by decide⟩, by decide +kernel, rfl, rfl, by decide +kernel, rfl⟩
theorem ev_alI {M : MT} {po : PO} {px : PX} {k pc : Nat} {L : LV} {st : List Value} {w : PW} {a n : Nat} {f : Nat → Int32} (v : Int32) (d : decode (mC M) pc = .ok (.arraylength, 1)) (hw : w[a]? = some (.inl (0, n, .inl f))) (hv : Int32.ofNat n = v) (kk : Ev M po px k (pc + 1) L (.int v :: st) w) : Ev M po px k pc L (.ref a :: st) w := by
  intro p l e s m args below meth c dC dI dA as A Q H locs ls hX hE hD hl
  obtain ⟨hx, hb, hml, hown, hts, hst, hlk, htb, hK, hA, hG, hsc⟩ := id hX
  obtain ⟨hP, hDD, hS⟩ := id hD
  obtain ⟨j, hj, -⟩ := emW_at as dA hw rfl
  exact va_alen hx hb hK hP j 0 hj rfl hv d (kk _ _ _ _ _ _ _ _ _ _ _ _ _ _ _ _ _ _ hX hE hD hl)
abbrev fiL (i : Nat) (v : Int32) : LV := [(2, .int (nI i)), (3, .int (nI 6)), (0, .ref 0), (1, .int v)]
theorem fi_step {po : PO} {px : PX} (v : Int32) (F : Nat → Int32) (i : Nat) (hi : i < 6) (hlt : ¬ nI 6 ≤ nI i) (hin : nI i + Int32.ofInt 1 = nI (i + 1)) (kk : Ev mJ7_fill po px 0 5 (fiL (i + 1) v) [] [.inl (0, 6, .inl (tr 6 (upd F i v)))]) : Ev mJ7_fill po px 0 5 (fiL i v) [] [.inl (0, 6, .inl (tr 6 F))] := by
  refine ev_iload_n 2 dJ7_fill_53178_5 rfl rfl ?_
  refine ev_iload_n 3 dJ7_fill_53178_6 rfl rfl ?_
  refine ev_icmp_ge 20 dJ7_fill_53178_7 (by decide) (fun h => absurd h hlt) (fun _ => ?_)
  refine ev_aload_n 0 dJ7_fill_53178_10 rfl rfl ?_
  refine ev_iload_n 2 dJ7_fill_53178_11 rfl rfl ?_
  refine ev_iload_n 1 dJ7_fill_53178_12 rfl rfl ?_
  refine ev_ist i dJ7_fill_53178_13 rfl rfl hi rfl rfl ?_
  refine ev_iinc (nI (i + 1)) dJ7_fill_53178_14 rfl hin (Nat.le_of_ble_eq_true rfl) rfl ?_
  exact ev_goto 5 dJ7_fill_53178_17 (by decide) kk
theorem ct_fill (v : Int32) (F : Nat → Int32) : Ct mJ7_fill [.ref 0, .int v] [.inl (0, 6, .inl (tr 6 F))] (d1 none [.inl (0, 6, .inl (tr 6 (fun _ => v)))]) nx := by
  refine ct_of 2 kJ7_fill rfl (Nat.le_of_ble_eq_true rfl) (fun v u h => by obtain ⟨rfl, rfl⟩ := h; exact trivial) ?_
  refine ev_iconst (nI 0) dJ7_fill_53178_0 rfl ?_
  refine ev_istore_n 2 dJ7_fill_53178_1 rfl (Nat.le_of_ble_eq_true rfl) rfl ?_
  refine ev_aload_n 0 dJ7_fill_53178_2 rfl rfl ?_
  refine ev_alI (nI 6) dJ7_fill_53178_3 rfl rfl ?_
  refine ev_istore_n 3 dJ7_fill_53178_4 rfl (Nat.le_of_ble_eq_true rfl) (L' := [(3, .int (nI 6)), (2, .int (nI 0)), (0, .ref 0), (1, .int v)]) rfl ?_
  have e : Ev mJ7_fill (d1 none [.inl (0, 6, .inl (tr 6 (fun _ => v)))]) nx 0 5 (fiL 0 v) [] [.inl (0, 6, .inl (tr 6 F))] := by
    refine fi_step v _ 0 (by decide) (by decide +kernel) (by decide +kernel) ?_
    refine fi_step v _ 1 (by decide) (by decide +kernel) (by decide +kernel) ?_
    refine fi_step v _ 2 (by decide) (by decide +kernel) (by decide +kernel) ?_
    refine fi_step v _ 3 (by decide) (by decide +kernel) (by decide +kernel) ?_
    refine fi_step v _ 4 (by decide) (by decide +kernel) (by decide +kernel) ?_
    refine fi_step v _ 5 (by decide) (by decide +kernel) (by decide +kernel) ?_
    refine ev_iload_n 2 dJ7_fill_53178_5 rfl rfl ?_
    refine ev_iload_n 3 dJ7_fill_53178_6 rfl rfl ?_
    refine ev_icmp_ge 20 dJ7_fill_53178_7 (by decide) (fun _ => ?_) (fun h => absurd (by decide +kernel) h)
    refine ev_return dJ7_fill_53178_20 (Nat.le_refl _) ⟨rfl, ?_⟩
    have : tr 6 (upd (upd (upd (upd (upd (upd F 0 v) 1 v) 2 v) 3 v) 4 v) 5 v) = tr 6 (fun _ => v) := tr_ext (fun k hk => by
      match k, hk with
      | 0, _ => rfl
      | 1, _ => rfl
      | 2, _ => rfl
      | 3, _ => rfl
      | 4, _ => rfl
      | 5, _ => rfl)
    rw [this]
  exact ev_sub [1, 0, 2, 3] rfl e
theorem P_repl {D : va_G} {cl : List vw_C} {A : Nat → Prop} {p : Nat} {ws : va_W} {a : Nat} {e0 e : va_E} {H H1 : Heap} (h : va_P D cl ws H) (hD : va_D A ws) (hp : ws[p]? = some (a, e0)) (he : va_at D cl (a, e) H1) (oq : ∀ q : Nat, q < H.size → q ≠ a → H1[q]? = H[q]?) : va_P D cl (ws.set p (a, e)) H1 := by
  intro k x hk
  by_cases hpk : p = k
  · subst hpk
    rw [List.getElem?_set_self (List.getElem?_eq_some_iff.mp hp).1] at hk
    cases hk
    exact he
  · rw [List.getElem?_set_ne hpk] at hk
    exact (h k x hk).kept (oq x.1 (h k x hk).lt (fun e1 => hpk (hD.1 k p x _ hk hp e1).symm))
set_option maxHeartbeats 1000000 in
theorem ea_fill {M : MT} {n0 sh : Nat} {X : XT} {k q pc : Nat} {L : LV} {st : List Value} {w : PW} {idx a : Nat} {v : Int32} {F : Nat → Int32} {w' : PW} (a0 : Nat) (ha : a = a0 + sh) (d : decode (mC M) pc = .ok (.invokestatic idx, 3)) (hlw : Cond.methodLink (mY M).cls idx yJ7_fill_53178 ∈ Gw) (hR : 0 + 1 ≤ (mR M).frames ∧ 8 + (4 + 11) + 0 ≤ (mR M).locals) (hkq : k ≤ (mR M).cells ∧ q ≤ (mR M).slots) (hs : stB st = true) (hw : w[a0]? = some (.inl (0, 6, .inl (tr 6 F)))) (hw' : w.set a0 (.inl (0, 6, .inl (tr 6 (fun _ => v)))) = w') (kk : EvA M n0 sh X k q (pc + 3) L st w') : EvA M n0 sh X k q pc L (.int v :: .ref a :: st) w := by
  intro hI p l e s m args below meth c dC dI dA as A Q H locs ls hX hE hD hl
  obtain ⟨hx, hb, hml, hown, hts, hst, hnm, hO, hK, hA, hG⟩ := id hX
  obtain ⟨hP, hDD, hS⟩ := id hD
  obtain ⟨f1, f2, f3, f4, f5, f6, f7, f8⟩ := kJ7_fill
  subst ha; subst hw'
  have hW : hdW mJ7_fill = Cond.code (mY mJ7_fill) (mC mJ7_fill) (mN mJ7_fill) (mT mJ7_fill) := by unfold hdW; rw [if_pos rfl]
  have hat : (emWs as dA sh w)[a0]? = some (as (a0 + sh), emE as dA (.inl (0, 6, .inl (tr 6 F)))) := emWs_get hw
  generalize hf : (fun j => if j = 0 then as (a0 + sh) else as j) = as'
  have h0 : as' 0 = as (a0 + sh) := by rw [← hf]; exact if_pos rfl
  have h9 : ∀ j, 998 ≤ j → as' j = as j := fun j hj => by rw [← hf]; exact if_neg (by omega)
  have one : ∀ (i : Nat) (x : Nat × va_E), (emW as' dA [.inl (0, 6, .inl (tr 6 F))])[i]? = some x → x = (as (a0 + sh), emE as dA (.inl (0, 6, .inl (tr 6 F)))) := fun i x hx => by
    obtain ⟨i, e1, g1, -, g2, -⟩ := emW_inv hx
    have hi : i = 0 := by have := (List.getElem?_eq_some_iff.mp g1).1; simp at this; omega
    subst hi
    cases g1
    rw [g2]
    show (as' 0, _) = _
    rw [h0]; rfl
  have fA : ∀ q, va_A (emW as' dA [.inl (0, 6, .inl (tr 6 F))]) H.size q → A q := fun q h => by
    rcases h with ⟨i, e1, h⟩ | h
    · have := one i _ h
      rw [(Prod.mk.inj this).1]
      exact hDD.2 _ _ hat
    · exact hA q (Nat.le_trans hS.1 h)
  have pc0 : ∀ U : State, U.heap = H → s.WarmedH U.vm → PCt dC dI dA as' [.inl (0, 6, .inl (tr 6 F))] H.size U := fun U hU hWm => by
    subst hU
    refine ⟨rfl, fun i x hx => ?_, va_K.moved hWm.alike hK, ⟨fun i j x y hi hj _ => ?_, fun _ _ _ => trivial⟩, (((GX_ag h9 hG).kept (fun a h1 h2 => hS.2.1 a h1 h2)).narrow fA).warm hWm⟩
    · rw [one i x hx]; exact hP _ _ hat
    · have h1 : i < 1 := (List.getElem?_eq_some_iff.mp hi).1
      have h2 : j < 1 := (List.getElem?_eq_some_iff.mp hj).1
      omega
  have hr := vx_runS (p := p) (l := l) (e := e) (R := mR M) (s := s) (m := m) (args := args) (below := below) (meth := meth) (c := c) (H := H) (locs := locs) (cells := k) (slots := q) (g := F0 m pc ls ((Value.int v :: .ref (a0 + sh) :: st).map (em as))) (rest := st.map (em as)) (As := [.ref (as (a0 + sh)), .int v]) (n := 2) ⟨hx, hb, hml, hown, hts⟩ (ct_fill v F l hst dC dI dA as' H.size) ⟨callB_of 2 hts (gin_hd f1) (by rw [hW]) f5 f6 (hts _ f2) (hts _ hlw) ⟨f3.1, f3.2, f4⟩ hR, hts _ g95⟩ ⟨pct_blind _ _ _ _ _ _ _, fun U hU hWm => ⟨by show [Value.ref (as (a0 + sh)), .int v].toArray = [Value.ref (as' 0), .int v].toArray; rw [h0], pc0 U hU hWm⟩⟩ rfl rfl hl.1 rfl (lv_room (by rw [cat_map]; exact Nat.le_of_ble_eq_true hs)) d hkq
  intro T hT X
  rcases hr T hT X with ⟨v1, st₀, t, T', Ls, h1, X', hL, e1, e2, ⟨⟨v0, u, hv, hpo, hP1, hD1⟩, hF⟩, stp⟩ | ⟨q1, st₀, t, T', Ls, E, ce, h1, X', hL, e1, e2, ⟨⟨u, hpx, -, -⟩, -⟩, -⟩
  · obtain ⟨rfl, rfl⟩ := hpo
    cases hv
    obtain ⟨k1, k2, k3⟩ := vx_keep h1 e1 hS (fun q _ h => fA q h) fA hL hF
    have hPn : va_P (dC, dI) vwC8 (emWs as dA sh (w.set a0 (.inl (0, 6, .inl (tr 6 (fun _ => v)))))) T'.heap := by
      rw [← emWs_set]
      refine P_repl hP hDD hat ?_ (fun q hq hne => k2 q hq (fun h => ?_))
      · rw [e1]
        have := hP1 0 (as' 0, emE as' dA (.inl (0, 6, .inl (tr 6 (fun _ => v))))) rfl
        rw [h0] at this
        exact this
      · rcases h with ⟨i, e1, h⟩ | h
        · exact hne (Prod.mk.inj (one i _ h)).1
        · omega
    have hDn : va_D A (emWs as dA sh (w.set a0 (.inl (0, 6, .inl (tr 6 (fun _ => v)))))) := by
      rw [← emWs_set]
      exact hDD.set hat
    obtain ⟨t2, a1, b1⟩ := kk (hI.pop.pop.cell ⟨fun c' fs' he => (by cases he), fun t m f he => (by cases he)⟩) p l e s m args below meth c dC dI dA as A Q T'.heap (locs ++ Ls) ls hX hE ⟨hPn, hDn, k3⟩ hl T' rfl X'
    exact ⟨t2, stp t2 a1, b1⟩
  · exact hpx.elim
theorem fFX0_9 : FPF RX0 9 0 0 (.array .int) := ⟨_, _, _, _, cf0, by decide, g97, rfl, rfl, by decide +kernel⟩
theorem fFX0_15 : FPF RX0 15 0 1 (.array .int) := ⟨_, _, _, _, cf0, by decide, g100, rfl, rfl, by decide +kernel⟩
theorem fFX0_18 : FPF RX0 18 0 2 (.array .int) := ⟨_, _, _, _, cf0, by decide, g103, rfl, rfl, by decide +kernel⟩
theorem fFX0_21 : FPF RX0 21 0 3 (.array .int) := ⟨_, _, _, _, cf0, by decide, g105, rfl, rfl, by decide +kernel⟩
theorem fFX0_24 : FPF RX0 24 0 4 (.array .int) := ⟨_, _, _, _, cf0, by decide, g108, rfl, rfl, by decide +kernel⟩
theorem fFX0_27 : FPF RX0 27 0 5 (.array .int) := ⟨_, _, _, _, cf0, by decide, g111, rfl, rfl, by decide +kernel⟩
theorem fFX0_30 : FPF RX0 30 0 6 (.array .int) := ⟨_, _, _, _, cf0, by decide, g114, rfl, rfl, by decide +kernel⟩
theorem fFX0_33 : FPF RX0 33 0 7 (.array .boolean) := ⟨_, _, _, _, cf0, by decide, g116, rfl, rfl, by decide +kernel⟩
theorem fFX1_9 : FPF RX1 9 1 0 (.array .int) := ⟨_, _, _, _, cf1, by decide, g30, rfl, rfl, by decide +kernel⟩
theorem fFX2_9 : FPF RX2 9 2 0 (.array .int) := ⟨_, _, _, _, cf2, by decide, g55, rfl, rfl, by decide +kernel⟩
theorem fFX2_15 : FPF RX2 15 2 1 (.array .int) := ⟨_, _, _, _, cf2, by decide, g57, rfl, rfl, by decide +kernel⟩
theorem fFX3_10 : FPF RX3 10 3 0 (.object "PledgeHouse$OrderText") := ⟨_, _, _, _, cf3, by decide, g182, rfl, rfl, by decide +kernel⟩
theorem fFX3_19 : FPF RX3 19 3 1 (.object "PledgeHouse$Sale") := ⟨_, _, _, _, cf3, by decide, g183, rfl, rfl, by decide +kernel⟩
theorem fFX3_23 : FPF RX3 23 3 2 (.array .int) := ⟨_, _, _, _, cf3, by decide, g184, rfl, rfl, by decide +kernel⟩
theorem fFX3_29 : FPF RX3 29 3 3 (.array (.object "PledgeHouse$Ledger")) := ⟨_, _, _, _, cf3, by decide, g185, rfl, rfl, by decide +kernel⟩
theorem fFX3_33 : FPF RX3 33 3 4 (.array .boolean) := ⟨_, _, _, _, cf3, by decide, g186, rfl, rfl, by decide +kernel⟩
theorem fFX3_37 : FPF RX3 37 3 5 (.array (.object "PledgeHouse$Ledger")) := ⟨_, _, _, _, cf3, by decide, g187, rfl, rfl, by decide +kernel⟩
abbrev iX0 : MT := (yX0_init, none, cX0_init, 1, { frames := 1, cells := 8, slots := 98, locals := 40 }, [], 0, none)
theorem jX0_init : MFI iX0 := ⟨(by rw [hdW, if_pos rfl]; exact g92), g7, ⟨by decide, by decide⟩, by decide +kernel, by decide +kernel, rfl, g91, rfl, rfl⟩
abbrev iX1 : MT := (yX1_init, none, cX1_init, 1, { frames := 1, cells := 1, slots := 60, locals := 20 }, [], 0, none)
theorem jX1_init : MFI iX1 := ⟨(by rw [hdW, if_pos rfl]; exact g28), g5, ⟨by decide, by decide⟩, by decide +kernel, by decide +kernel, rfl, g27, rfl, rfl⟩
abbrev iX2 : MT := (yX2_init, none, cX2_init, 1, { frames := 1, cells := 2, slots := 12, locals := 20 }, [], 0, none)
theorem jX2_init : MFI iX2 := ⟨(by rw [hdW, if_pos rfl]; exact g53), g6, ⟨by decide, by decide⟩, by decide +kernel, by decide +kernel, rfl, g52, rfl, rfl⟩
abbrev iX3 : MT := (yX3_init, none, cX3_init, 2, { frames := 2, cells := 99, slots := 1276, locals := 80 }, [], 0, none)
theorem jX3_init : MFI iX3 := ⟨(by rw [hdW, if_pos rfl]; exact g20), g4, ⟨by decide, by decide⟩, by decide +kernel, by decide +kernel, rfl, g19, rfl, rfl⟩
/-- a state at the start -/
def σ0 : Nat → Int32 := fun i => if i < 6 then nI 100 else if i < 12 then nI 20 else if i = 98 then nI 10 else if i = 99 then nI 6 else if i = 100 then nI 5 else nI 0
theorem rw_1 {n ci : Nat} (fs : List Value) (h : ∀ v ∈ fs, ∀ r, v ≠ .ref r) : RfW n [.inr (ci, fs)] := fun x hx => by
  rw [List.mem_singleton.mp hx]
  exact ⟨fun c' fs' he v hv r hr => by cases he; exact absurd hr (h v hv r), fun t m f he => (by cases he)⟩
theorem aX1_init (b : Nat) (hb : b + 2 ≤ 998) : CtA iX1 b [.inr (1, [.null, .int (nI 0), .int (nI 0), .int (nI 0), .int (nI 0), .int (nI 0), .int (nI 0), .int (nI 0)])] [.inr (1, [.ref (b + 1), .int (nI 0), .int (nI 0), .int (nI 0), .int (nI 0), .int (nI 0), .int (nI 0), .int (nI 0)]), .inl (0, 60, .inl (tr 60 (fun _ => nI 0)))] := by
  refine cta_of 12 jX1_init (by decide) ⟨Nat.le_refl _, by show b + 1 ≤ 998; omega, rw_1 _ (noR_of rfl), fun x hx => by rw [List.mem_singleton.mp hx]; exact RfV_ref (Nat.lt_succ_self b), fun _ h => absurd h List.not_mem_nil⟩ dX1_init_12 ?_
  refine ea_aload_n 0 dX1_init_0 rfl rfl ?_
  refine ea_objInit dX1_init_1 g29 g22 g23 (Nat.le_of_ble_eq_true rfl) (Nat.le_of_ble_eq_true rfl) rfl ?_
  refine ea_aload_n 0 dX1_init_4 rfl rfl ?_
  refine ea_bipush (nI 60) dX1_init_5 rfl ?_
  refine ea_nwI (w' := [.inr (1, [.null, .int (nI 0), .int (nI 0), .int (nI 0), .int (nI 0), .int (nI 0), .int (nI 0), .int (nI 0)]), .inl (0, 60, .inl (tr 60 (fun _ => nI 0)))]) (b + 1) rfl (by omega) dX1_init_7 rfl ⟨(Nat.le_of_ble_eq_true rfl), (Nat.le_of_ble_eq_true rfl)⟩ rfl ?_
  refine ea_putF (w' := [.inr (1, [.ref (b + 1), .int (nI 0), .int (nI 0), .int (nI 0), .int (nI 0), .int (nI 0), .int (nI 0), .int (nI 0)]), .inl (0, 60, .inl (tr 60 (fun _ => nI 0)))]) 0 0 (Nat.zero_add b).symm rfl dX1_init_9 fFX1_9 rfl (Nat.le_of_ble_eq_true rfl) (fun _ => rfl) (fun _ => rfl) rfl ?_
  exact ea_exit0 (Nat.le_of_ble_eq_true rfl) (Nat.le_of_ble_eq_true rfl)
theorem aX2_init (b : Nat) (hb : b + 3 ≤ 998) : CtA iX2 b [.inr (2, [.null, .null, .int (nI 0), .int (nI 0), .int (nI 0), .int (nI 0), .int (nI 0), .int (nI 0)])] [.inr (2, [.ref (b + 1), .ref (b + 2), .int (nI 0), .int (nI 0), .int (nI 0), .int (nI 0), .int (nI 0), .int (nI 0)]), .inl (0, 6, .inl (tr 6 (fun _ => nI 0))), .inl (0, 6, .inl (tr 6 (fun _ => nI 0)))] := by
  refine cta_of 20 jX2_init (by decide) ⟨Nat.le_refl _, by show b + 1 ≤ 998; omega, rw_1 _ (noR_of rfl), fun x hx => by rw [List.mem_singleton.mp hx]; exact RfV_ref (Nat.lt_succ_self b), fun _ h => absurd h List.not_mem_nil⟩ dX2_init_20 ?_
  refine ea_aload_n 0 dX2_init_0 rfl rfl ?_
  refine ea_objInit dX2_init_1 g54 g22 g23 (Nat.le_of_ble_eq_true rfl) (Nat.le_of_ble_eq_true rfl) rfl ?_
  refine ea_aload_n 0 dX2_init_4 rfl rfl ?_
  refine ea_bipush (nI 6) dX2_init_5 rfl ?_
  refine ea_nwI (w' := [.inr (2, [.null, .null, .int (nI 0), .int (nI 0), .int (nI 0), .int (nI 0), .int (nI 0), .int (nI 0)]), .inl (0, 6, .inl (tr 6 (fun _ => nI 0)))]) (b + 1) rfl (by omega) dX2_init_7 rfl ⟨(Nat.le_of_ble_eq_true rfl), (Nat.le_of_ble_eq_true rfl)⟩ rfl ?_
  refine ea_putF (w' := [.inr (2, [.ref (b + 1), .null, .int (nI 0), .int (nI 0), .int (nI 0), .int (nI 0), .int (nI 0), .int (nI 0)]), .inl (0, 6, .inl (tr 6 (fun _ => nI 0)))]) 0 0 (Nat.zero_add b).symm rfl dX2_init_9 fFX2_9 rfl (Nat.le_of_ble_eq_true rfl) (fun _ => rfl) (fun _ => rfl) rfl ?_
  refine ea_aload_n 0 dX2_init_12 rfl rfl ?_
  refine ea_bipush (nI 6) dX2_init_13 rfl ?_
  refine ea_nwI (w' := [.inr (2, [.ref (b + 1), .null, .int (nI 0), .int (nI 0), .int (nI 0), .int (nI 0), .int (nI 0), .int (nI 0)]), .inl (0, 6, .inl (tr 6 (fun _ => nI 0))), .inl (0, 6, .inl (tr 6 (fun _ => nI 0)))]) (b + 2) rfl (by omega) dX2_init_15 rfl ⟨(Nat.le_of_ble_eq_true rfl), (Nat.le_of_ble_eq_true rfl)⟩ rfl ?_
  refine ea_putF (w' := [.inr (2, [.ref (b + 1), .ref (b + 2), .int (nI 0), .int (nI 0), .int (nI 0), .int (nI 0), .int (nI 0), .int (nI 0)]), .inl (0, 6, .inl (tr 6 (fun _ => nI 0))), .inl (0, 6, .inl (tr 6 (fun _ => nI 0)))]) 1 0 (Nat.zero_add b).symm rfl dX2_init_17 fFX2_15 rfl (Nat.le_of_ble_eq_true rfl) (fun _ => rfl) (fun _ => rfl) rfl ?_
  exact ea_exit0 (Nat.le_of_ble_eq_true rfl) (Nat.le_of_ble_eq_true rfl)
theorem aX0_init (b : Nat) (hb : b + 9 ≤ 998) : CtA iX0 b [.inr (0, [.null, .null, .null, .null, .null, .null, .null, .null, .int (nI 0), .int (nI 0), .int (nI 0), .int (nI 0), .int (nI 0), .int (nI 0), .int (nI 0), .int (nI 0), .int (nI 0), .int (nI 0), .int (nI 0)])] (ledC b σ0 []) := by
  refine cta_of 108 jX0_init (by decide) ⟨Nat.le_refl _, by show b + 1 ≤ 998; omega, rw_1 _ (noR_of rfl), fun x hx => by rw [List.mem_singleton.mp hx]; exact RfV_ref (Nat.lt_succ_self b), fun _ h => absurd h List.not_mem_nil⟩ dX0_init_108 ?_
  refine ea_aload_n 0 dX0_init_0 rfl rfl ?_
  refine ea_objInit dX0_init_1 g93 g22 g23 (Nat.le_of_ble_eq_true rfl) (Nat.le_of_ble_eq_true rfl) rfl ?_
  refine ea_aload_n 0 dX0_init_4 rfl rfl ?_
  refine ea_bipush (nI 6) dX0_init_5 rfl ?_
  refine ea_nwI (w' := [.inr (0, [.null, .null, .null, .null, .null, .null, .null, .null, .int (nI 0), .int (nI 0), .int (nI 0), .int (nI 0), .int (nI 0), .int (nI 0), .int (nI 0), .int (nI 0), .int (nI 0), .int (nI 0), .int (nI 0)]), .inl (0, 6, .inl (tr 6 (fun _ => nI 0)))]) (b + 1) rfl (by omega) dX0_init_7 rfl ⟨(Nat.le_of_ble_eq_true rfl), (Nat.le_of_ble_eq_true rfl)⟩ rfl ?_
  refine ea_putF (w' := [.inr (0, [.ref (b + 1), .null, .null, .null, .null, .null, .null, .null, .int (nI 0), .int (nI 0), .int (nI 0), .int (nI 0), .int (nI 0), .int (nI 0), .int (nI 0), .int (nI 0), .int (nI 0), .int (nI 0), .int (nI 0)]), .inl (0, 6, .inl (tr 6 (fun _ => nI 0)))]) 0 0 (Nat.zero_add b).symm rfl dX0_init_9 fFX0_9 rfl (Nat.le_of_ble_eq_true rfl) (fun _ => rfl) (fun _ => rfl) rfl ?_
  refine ea_aload_n 0 dX0_init_12 rfl rfl ?_
  refine ea_bipush (nI 6) dX0_init_13 rfl ?_
  refine ea_nwI (w' := [.inr (0, [.ref (b + 1), .null, .null, .null, .null, .null, .null, .null, .int (nI 0), .int (nI 0), .int (nI 0), .int (nI 0), .int (nI 0), .int (nI 0), .int (nI 0), .int (nI 0), .int (nI 0), .int (nI 0), .int (nI 0)]), .inl (0, 6, .inl (tr 6 (fun _ => nI 0))), .inl (0, 6, .inl (tr 6 (fun _ => nI 0)))]) (b + 2) rfl (by omega) dX0_init_15 rfl ⟨(Nat.le_of_ble_eq_true rfl), (Nat.le_of_ble_eq_true rfl)⟩ rfl ?_
  refine ea_putF (w' := [.inr (0, [.ref (b + 1), .ref (b + 2), .null, .null, .null, .null, .null, .null, .int (nI 0), .int (nI 0), .int (nI 0), .int (nI 0), .int (nI 0), .int (nI 0), .int (nI 0), .int (nI 0), .int (nI 0), .int (nI 0), .int (nI 0)]), .inl (0, 6, .inl (tr 6 (fun _ => nI 0))), .inl (0, 6, .inl (tr 6 (fun _ => nI 0)))]) 1 0 (Nat.zero_add b).symm rfl dX0_init_17 fFX0_15 rfl (Nat.le_of_ble_eq_true rfl) (fun _ => rfl) (fun _ => rfl) rfl ?_
  refine ea_aload_n 0 dX0_init_20 rfl rfl ?_
  refine ea_bipush (nI 6) dX0_init_21 rfl ?_
  refine ea_nwI (w' := [.inr (0, [.ref (b + 1), .ref (b + 2), .null, .null, .null, .null, .null, .null, .int (nI 0), .int (nI 0), .int (nI 0), .int (nI 0), .int (nI 0), .int (nI 0), .int (nI 0), .int (nI 0), .int (nI 0), .int (nI 0), .int (nI 0)]), .inl (0, 6, .inl (tr 6 (fun _ => nI 0))), .inl (0, 6, .inl (tr 6 (fun _ => nI 0))), .inl (0, 6, .inl (tr 6 (fun _ => nI 0)))]) (b + 3) rfl (by omega) dX0_init_23 rfl ⟨(Nat.le_of_ble_eq_true rfl), (Nat.le_of_ble_eq_true rfl)⟩ rfl ?_
  refine ea_putF (w' := [.inr (0, [.ref (b + 1), .ref (b + 2), .ref (b + 3), .null, .null, .null, .null, .null, .int (nI 0), .int (nI 0), .int (nI 0), .int (nI 0), .int (nI 0), .int (nI 0), .int (nI 0), .int (nI 0), .int (nI 0), .int (nI 0), .int (nI 0)]), .inl (0, 6, .inl (tr 6 (fun _ => nI 0))), .inl (0, 6, .inl (tr 6 (fun _ => nI 0))), .inl (0, 6, .inl (tr 6 (fun _ => nI 0)))]) 2 0 (Nat.zero_add b).symm rfl dX0_init_25 fFX0_18 rfl (Nat.le_of_ble_eq_true rfl) (fun _ => rfl) (fun _ => rfl) rfl ?_
  refine ea_aload_n 0 dX0_init_28 rfl rfl ?_
  refine ea_bipush (nI 48) dX0_init_29 rfl ?_
  refine ea_nwI (w' := [.inr (0, [.ref (b + 1), .ref (b + 2), .ref (b + 3), .null, .null, .null, .null, .null, .int (nI 0), .int (nI 0), .int (nI 0), .int (nI 0), .int (nI 0), .int (nI 0), .int (nI 0), .int (nI 0), .int (nI 0), .int (nI 0), .int (nI 0)]), .inl (0, 6, .inl (tr 6 (fun _ => nI 0))), .inl (0, 6, .inl (tr 6 (fun _ => nI 0))), .inl (0, 6, .inl (tr 6 (fun _ => nI 0))), .inl (0, 48, .inl (tr 48 (fun _ => nI 0)))]) (b + 4) rfl (by omega) dX0_init_31 rfl ⟨(Nat.le_of_ble_eq_true rfl), (Nat.le_of_ble_eq_true rfl)⟩ rfl ?_
  refine ea_putF (w' := [.inr (0, [.ref (b + 1), .ref (b + 2), .ref (b + 3), .ref (b + 4), .null, .null, .null, .null, .int (nI 0), .int (nI 0), .int (nI 0), .int (nI 0), .int (nI 0), .int (nI 0), .int (nI 0), .int (nI 0), .int (nI 0), .int (nI 0), .int (nI 0)]), .inl (0, 6, .inl (tr 6 (fun _ => nI 0))), .inl (0, 6, .inl (tr 6 (fun _ => nI 0))), .inl (0, 6, .inl (tr 6 (fun _ => nI 0))), .inl (0, 48, .inl (tr 48 (fun _ => nI 0)))]) 3 0 (Nat.zero_add b).symm rfl dX0_init_33 fFX0_21 rfl (Nat.le_of_ble_eq_true rfl) (fun _ => rfl) (fun _ => rfl) rfl ?_
  refine ea_aload_n 0 dX0_init_36 rfl rfl ?_
  refine ea_bipush (nI 8) dX0_init_37 rfl ?_
  refine ea_nwI (w' := [.inr (0, [.ref (b + 1), .ref (b + 2), .ref (b + 3), .ref (b + 4), .null, .null, .null, .null, .int (nI 0), .int (nI 0), .int (nI 0), .int (nI 0), .int (nI 0), .int (nI 0), .int (nI 0), .int (nI 0), .int (nI 0), .int (nI 0), .int (nI 0)]), .inl (0, 6, .inl (tr 6 (fun _ => nI 0))), .inl (0, 6, .inl (tr 6 (fun _ => nI 0))), .inl (0, 6, .inl (tr 6 (fun _ => nI 0))), .inl (0, 48, .inl (tr 48 (fun _ => nI 0))), .inl (0, 8, .inl (tr 8 (fun _ => nI 0)))]) (b + 5) rfl (by omega) dX0_init_39 rfl ⟨(Nat.le_of_ble_eq_true rfl), (Nat.le_of_ble_eq_true rfl)⟩ rfl ?_
  refine ea_putF (w' := [.inr (0, [.ref (b + 1), .ref (b + 2), .ref (b + 3), .ref (b + 4), .ref (b + 5), .null, .null, .null, .int (nI 0), .int (nI 0), .int (nI 0), .int (nI 0), .int (nI 0), .int (nI 0), .int (nI 0), .int (nI 0), .int (nI 0), .int (nI 0), .int (nI 0)]), .inl (0, 6, .inl (tr 6 (fun _ => nI 0))), .inl (0, 6, .inl (tr 6 (fun _ => nI 0))), .inl (0, 6, .inl (tr 6 (fun _ => nI 0))), .inl (0, 48, .inl (tr 48 (fun _ => nI 0))), .inl (0, 8, .inl (tr 8 (fun _ => nI 0)))]) 4 0 (Nat.zero_add b).symm rfl dX0_init_41 fFX0_24 rfl (Nat.le_of_ble_eq_true rfl) (fun _ => rfl) (fun _ => rfl) rfl ?_
  refine ea_aload_n 0 dX0_init_44 rfl rfl ?_
  refine ea_bipush (nI 8) dX0_init_45 rfl ?_
  refine ea_nwI (w' := [.inr (0, [.ref (b + 1), .ref (b + 2), .ref (b + 3), .ref (b + 4), .ref (b + 5), .null, .null, .null, .int (nI 0), .int (nI 0), .int (nI 0), .int (nI 0), .int (nI 0), .int (nI 0), .int (nI 0), .int (nI 0), .int (nI 0), .int (nI 0), .int (nI 0)]), .inl (0, 6, .inl (tr 6 (fun _ => nI 0))), .inl (0, 6, .inl (tr 6 (fun _ => nI 0))), .inl (0, 6, .inl (tr 6 (fun _ => nI 0))), .inl (0, 48, .inl (tr 48 (fun _ => nI 0))), .inl (0, 8, .inl (tr 8 (fun _ => nI 0))), .inl (0, 8, .inl (tr 8 (fun _ => nI 0)))]) (b + 6) rfl (by omega) dX0_init_47 rfl ⟨(Nat.le_of_ble_eq_true rfl), (Nat.le_of_ble_eq_true rfl)⟩ rfl ?_
  refine ea_putF (w' := [.inr (0, [.ref (b + 1), .ref (b + 2), .ref (b + 3), .ref (b + 4), .ref (b + 5), .ref (b + 6), .null, .null, .int (nI 0), .int (nI 0), .int (nI 0), .int (nI 0), .int (nI 0), .int (nI 0), .int (nI 0), .int (nI 0), .int (nI 0), .int (nI 0), .int (nI 0)]), .inl (0, 6, .inl (tr 6 (fun _ => nI 0))), .inl (0, 6, .inl (tr 6 (fun _ => nI 0))), .inl (0, 6, .inl (tr 6 (fun _ => nI 0))), .inl (0, 48, .inl (tr 48 (fun _ => nI 0))), .inl (0, 8, .inl (tr 8 (fun _ => nI 0))), .inl (0, 8, .inl (tr 8 (fun _ => nI 0)))]) 5 0 (Nat.zero_add b).symm rfl dX0_init_49 fFX0_27 rfl (Nat.le_of_ble_eq_true rfl) (fun _ => rfl) (fun _ => rfl) rfl ?_
  refine ea_aload_n 0 dX0_init_52 rfl rfl ?_
  refine ea_bipush (nI 8) dX0_init_53 rfl ?_
  refine ea_nwI (w' := [.inr (0, [.ref (b + 1), .ref (b + 2), .ref (b + 3), .ref (b + 4), .ref (b + 5), .ref (b + 6), .null, .null, .int (nI 0), .int (nI 0), .int (nI 0), .int (nI 0), .int (nI 0), .int (nI 0), .int (nI 0), .int (nI 0), .int (nI 0), .int (nI 0), .int (nI 0)]), .inl (0, 6, .inl (tr 6 (fun _ => nI 0))), .inl (0, 6, .inl (tr 6 (fun _ => nI 0))), .inl (0, 6, .inl (tr 6 (fun _ => nI 0))), .inl (0, 48, .inl (tr 48 (fun _ => nI 0))), .inl (0, 8, .inl (tr 8 (fun _ => nI 0))), .inl (0, 8, .inl (tr 8 (fun _ => nI 0))), .inl (0, 8, .inl (tr 8 (fun _ => nI 0)))]) (b + 7) rfl (by omega) dX0_init_55 rfl ⟨(Nat.le_of_ble_eq_true rfl), (Nat.le_of_ble_eq_true rfl)⟩ rfl ?_
  refine ea_putF (w' := [.inr (0, [.ref (b + 1), .ref (b + 2), .ref (b + 3), .ref (b + 4), .ref (b + 5), .ref (b + 6), .ref (b + 7), .null, .int (nI 0), .int (nI 0), .int (nI 0), .int (nI 0), .int (nI 0), .int (nI 0), .int (nI 0), .int (nI 0), .int (nI 0), .int (nI 0), .int (nI 0)]), .inl (0, 6, .inl (tr 6 (fun _ => nI 0))), .inl (0, 6, .inl (tr 6 (fun _ => nI 0))), .inl (0, 6, .inl (tr 6 (fun _ => nI 0))), .inl (0, 48, .inl (tr 48 (fun _ => nI 0))), .inl (0, 8, .inl (tr 8 (fun _ => nI 0))), .inl (0, 8, .inl (tr 8 (fun _ => nI 0))), .inl (0, 8, .inl (tr 8 (fun _ => nI 0)))]) 6 0 (Nat.zero_add b).symm rfl dX0_init_57 fFX0_30 rfl (Nat.le_of_ble_eq_true rfl) (fun _ => rfl) (fun _ => rfl) rfl ?_
  refine ea_aload_n 0 dX0_init_60 rfl rfl ?_
  refine ea_bipush (nI 8) dX0_init_61 rfl ?_
  refine ea_nwZ (w' := [.inr (0, [.ref (b + 1), .ref (b + 2), .ref (b + 3), .ref (b + 4), .ref (b + 5), .ref (b + 6), .ref (b + 7), .null, .int (nI 0), .int (nI 0), .int (nI 0), .int (nI 0), .int (nI 0), .int (nI 0), .int (nI 0), .int (nI 0), .int (nI 0), .int (nI 0), .int (nI 0)]), .inl (0, 6, .inl (tr 6 (fun _ => nI 0))), .inl (0, 6, .inl (tr 6 (fun _ => nI 0))), .inl (0, 6, .inl (tr 6 (fun _ => nI 0))), .inl (0, 48, .inl (tr 48 (fun _ => nI 0))), .inl (0, 8, .inl (tr 8 (fun _ => nI 0))), .inl (0, 8, .inl (tr 8 (fun _ => nI 0))), .inl (0, 8, .inl (tr 8 (fun _ => nI 0))), .inl (1, 8, .inl (tr 8 (fun _ => nI 0)))]) (b + 8) rfl (by omega) dX0_init_63 rfl ⟨(Nat.le_of_ble_eq_true rfl), (Nat.le_of_ble_eq_true rfl)⟩ rfl ?_
  refine ea_putF (w' := [.inr (0, [.ref (b + 1), .ref (b + 2), .ref (b + 3), .ref (b + 4), .ref (b + 5), .ref (b + 6), .ref (b + 7), .ref (b + 8), .int (nI 0), .int (nI 0), .int (nI 0), .int (nI 0), .int (nI 0), .int (nI 0), .int (nI 0), .int (nI 0), .int (nI 0), .int (nI 0), .int (nI 0)]), .inl (0, 6, .inl (tr 6 (fun _ => nI 0))), .inl (0, 6, .inl (tr 6 (fun _ => nI 0))), .inl (0, 6, .inl (tr 6 (fun _ => nI 0))), .inl (0, 48, .inl (tr 48 (fun _ => nI 0))), .inl (0, 8, .inl (tr 8 (fun _ => nI 0))), .inl (0, 8, .inl (tr 8 (fun _ => nI 0))), .inl (0, 8, .inl (tr 8 (fun _ => nI 0))), .inl (1, 8, .inl (tr 8 (fun _ => nI 0)))]) 7 0 (Nat.zero_add b).symm rfl dX0_init_65 fFX0_33 rfl (Nat.le_of_ble_eq_true rfl) (fun _ => rfl) (fun _ => rfl) rfl ?_
  refine ea_aload_n 0 dX0_init_68 rfl rfl ?_
  refine ea_bipush (nI 10) dX0_init_69 rfl ?_
  refine ea_putfield (w' := [.inr (0, [.ref (b + 1), .ref (b + 2), .ref (b + 3), .ref (b + 4), .ref (b + 5), .ref (b + 6), .ref (b + 7), .ref (b + 8), .int (nI 10), .int (nI 0), .int (nI 0), .int (nI 0), .int (nI 0), .int (nI 0), .int (nI 0), .int (nI 0), .int (nI 0), .int (nI 0), .int (nI 0)]), .inl (0, 6, .inl (tr 6 (fun _ => nI 0))), .inl (0, 6, .inl (tr 6 (fun _ => nI 0))), .inl (0, 6, .inl (tr 6 (fun _ => nI 0))), .inl (0, 48, .inl (tr 48 (fun _ => nI 0))), .inl (0, 8, .inl (tr 8 (fun _ => nI 0))), .inl (0, 8, .inl (tr 8 (fun _ => nI 0))), .inl (0, 8, .inl (tr 8 (fun _ => nI 0))), .inl (1, 8, .inl (tr 8 (fun _ => nI 0)))]) 8 0 (Nat.zero_add b).symm dX0_init_71 fpX0_37 rfl (Nat.le_of_ble_eq_true rfl) (fun _ => rfl) (fun _ => rfl) rfl ?_
  refine ea_aload_n 0 dX0_init_74 rfl rfl ?_
  refine ea_bipush (nI 6) dX0_init_75 rfl ?_
  refine ea_putfield (w' := [.inr (0, [.ref (b + 1), .ref (b + 2), .ref (b + 3), .ref (b + 4), .ref (b + 5), .ref (b + 6), .ref (b + 7), .ref (b + 8), .int (nI 10), .int (nI 6), .int (nI 0), .int (nI 0), .int (nI 0), .int (nI 0), .int (nI 0), .int (nI 0), .int (nI 0), .int (nI 0), .int (nI 0)]), .inl (0, 6, .inl (tr 6 (fun _ => nI 0))), .inl (0, 6, .inl (tr 6 (fun _ => nI 0))), .inl (0, 6, .inl (tr 6 (fun _ => nI 0))), .inl (0, 48, .inl (tr 48 (fun _ => nI 0))), .inl (0, 8, .inl (tr 8 (fun _ => nI 0))), .inl (0, 8, .inl (tr 8 (fun _ => nI 0))), .inl (0, 8, .inl (tr 8 (fun _ => nI 0))), .inl (1, 8, .inl (tr 8 (fun _ => nI 0)))]) 9 0 (Nat.zero_add b).symm dX0_init_77 fpX0_41 rfl (Nat.le_of_ble_eq_true rfl) (fun _ => rfl) (fun _ => rfl) rfl ?_
  refine ea_aload_n 0 dX0_init_80 rfl rfl ?_
  refine ea_iconst (nI 5) dX0_init_81 rfl ?_
  refine ea_putfield (w' := [.inr (0, [.ref (b + 1), .ref (b + 2), .ref (b + 3), .ref (b + 4), .ref (b + 5), .ref (b + 6), .ref (b + 7), .ref (b + 8), .int (nI 10), .int (nI 6), .int (nI 5), .int (nI 0), .int (nI 0), .int (nI 0), .int (nI 0), .int (nI 0), .int (nI 0), .int (nI 0), .int (nI 0)]), .inl (0, 6, .inl (tr 6 (fun _ => nI 0))), .inl (0, 6, .inl (tr 6 (fun _ => nI 0))), .inl (0, 6, .inl (tr 6 (fun _ => nI 0))), .inl (0, 48, .inl (tr 48 (fun _ => nI 0))), .inl (0, 8, .inl (tr 8 (fun _ => nI 0))), .inl (0, 8, .inl (tr 8 (fun _ => nI 0))), .inl (0, 8, .inl (tr 8 (fun _ => nI 0))), .inl (1, 8, .inl (tr 8 (fun _ => nI 0)))]) 10 0 (Nat.zero_add b).symm dX0_init_82 fpX0_44 rfl (Nat.le_of_ble_eq_true rfl) (fun _ => rfl) (fun _ => rfl) rfl ?_
  refine ea_aload_n 0 dX0_init_85 rfl rfl ?_
  refine ea_iconst (nI 0) dX0_init_86 rfl ?_
  refine ea_putfield (w' := [.inr (0, [.ref (b + 1), .ref (b + 2), .ref (b + 3), .ref (b + 4), .ref (b + 5), .ref (b + 6), .ref (b + 7), .ref (b + 8), .int (nI 10), .int (nI 6), .int (nI 5), .int (nI 0), .int (nI 0), .int (nI 0), .int (nI 0), .int (nI 0), .int (nI 0), .int (nI 0), .int (nI 0)]), .inl (0, 6, .inl (tr 6 (fun _ => nI 0))), .inl (0, 6, .inl (tr 6 (fun _ => nI 0))), .inl (0, 6, .inl (tr 6 (fun _ => nI 0))), .inl (0, 48, .inl (tr 48 (fun _ => nI 0))), .inl (0, 8, .inl (tr 8 (fun _ => nI 0))), .inl (0, 8, .inl (tr 8 (fun _ => nI 0))), .inl (0, 8, .inl (tr 8 (fun _ => nI 0))), .inl (1, 8, .inl (tr 8 (fun _ => nI 0)))]) 11 0 (Nat.zero_add b).symm dX0_init_87 fpX0_47 rfl (Nat.le_of_ble_eq_true rfl) (fun _ => rfl) (fun _ => rfl) rfl ?_
  refine ea_aload_n 0 dX0_init_90 rfl rfl ?_
  refine ea_getfield 0 0 (Nat.zero_add b).symm dX0_init_91 foX0_9 rfl rfl ?_
  refine ea_bipush (nI 100) dX0_init_94 rfl ?_
  refine ea_fill (w' := [.inr (0, [.ref (b + 1), .ref (b + 2), .ref (b + 3), .ref (b + 4), .ref (b + 5), .ref (b + 6), .ref (b + 7), .ref (b + 8), .int (nI 10), .int (nI 6), .int (nI 5), .int (nI 0), .int (nI 0), .int (nI 0), .int (nI 0), .int (nI 0), .int (nI 0), .int (nI 0), .int (nI 0)]), .inl (0, 6, .inl (tr 6 (fun _ => nI 100))), .inl (0, 6, .inl (tr 6 (fun _ => nI 0))), .inl (0, 6, .inl (tr 6 (fun _ => nI 0))), .inl (0, 48, .inl (tr 48 (fun _ => nI 0))), .inl (0, 8, .inl (tr 8 (fun _ => nI 0))), .inl (0, 8, .inl (tr 8 (fun _ => nI 0))), .inl (0, 8, .inl (tr 8 (fun _ => nI 0))), .inl (1, 8, .inl (tr 8 (fun _ => nI 0)))]) 1 (Nat.add_comm b 1) dX0_init_96 g94 ⟨(Nat.le_of_ble_eq_true rfl), (Nat.le_of_ble_eq_true rfl)⟩ ⟨(Nat.le_of_ble_eq_true rfl), (Nat.le_of_ble_eq_true rfl)⟩ rfl rfl rfl ?_
  refine ea_aload_n 0 dX0_init_99 rfl rfl ?_
  refine ea_getfield 1 0 (Nat.zero_add b).symm dX0_init_100 foX0_15 rfl rfl ?_
  refine ea_bipush (nI 20) dX0_init_103 rfl ?_
  refine ea_fill (w' := [.inr (0, [.ref (b + 1), .ref (b + 2), .ref (b + 3), .ref (b + 4), .ref (b + 5), .ref (b + 6), .ref (b + 7), .ref (b + 8), .int (nI 10), .int (nI 6), .int (nI 5), .int (nI 0), .int (nI 0), .int (nI 0), .int (nI 0), .int (nI 0), .int (nI 0), .int (nI 0), .int (nI 0)]), .inl (0, 6, .inl (tr 6 (fun _ => nI 100))), .inl (0, 6, .inl (tr 6 (fun _ => nI 20))), .inl (0, 6, .inl (tr 6 (fun _ => nI 0))), .inl (0, 48, .inl (tr 48 (fun _ => nI 0))), .inl (0, 8, .inl (tr 8 (fun _ => nI 0))), .inl (0, 8, .inl (tr 8 (fun _ => nI 0))), .inl (0, 8, .inl (tr 8 (fun _ => nI 0))), .inl (1, 8, .inl (tr 8 (fun _ => nI 0)))]) 2 (Nat.add_comm b 2) dX0_init_105 g94 ⟨(Nat.le_of_ble_eq_true rfl), (Nat.le_of_ble_eq_true rfl)⟩ ⟨(Nat.le_of_ble_eq_true rfl), (Nat.le_of_ble_eq_true rfl)⟩ rfl rfl rfl ?_
  refine ea_w (w' := ledC b σ0 []) ?_ (ea_exit0 (Nat.le_of_ble_eq_true rfl) (Nat.le_of_ble_eq_true rfl))
  show ledA b σ0 (fun _ => nI 100) (fun _ => nI 20) (fun _ => nI 0) (fun _ => nI 0) (fun _ => nI 0) (fun _ => nI 0) (fun _ => nI 0) (fun _ => nI 0) [] = ledC b σ0 []
  exact ledA_ext (fun _ _ => rfl) (by decide +kernel) (by decide +kernel) (by decide +kernel) (by decide +kernel) (by decide +kernel) (by decide +kernel) (by decide +kernel) (by decide +kernel)
