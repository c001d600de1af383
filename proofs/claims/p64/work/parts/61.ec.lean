/-! ===== constructors: Arrays.fill, the five <init> ===== -/
def noR : Value → Bool
  | .ref _ => false
  | _ => true
theorem noR_of {fs : List Value} (h : fs.all noR = true) : ∀ v ∈ fs, ∀ r, v ≠ .ref r := fun v hv r e => by
  have := List.all_eq_true.mp h v hv
  rw [e] at this
  cases this
section EC
variable {M : MT} {n0 sh : Nat} {X : XT} {k q pc : Nat} {L : LV} {st : List Value} {w : PW}
theorem ea_nwI {n : Nat} {w' : PW} (r : Nat) (hr : sh + w.length = r) (hr8 : r < 998) (d : decode (mC M) pc = .ok (.newarray .int, 2)) (hn : Nat.blt n 1000 = true) (hR : k + 1 ≤ (mR M).cells ∧ q + n ≤ (mR M).slots) (hw' : w ++ [.inl (0, n, .inl (tr n (fun _ => nI 0)))] = w') (kk : EvA M n0 sh X (k + 1) (q + n) (pc + 2) L (.ref r :: st) w') : EvA M n0 sh X k q pc L (.int (nI n) :: st) w := by
  subst hr
  exact ea_newI d g48 (Nat.le_of_ble_eq_true hn) hR hr8 hw' kk
theorem ea_nwZ {n : Nat} {w' : PW} (r : Nat) (hr : sh + w.length = r) (hr8 : r < 998) (d : decode (mC M) pc = .ok (.newarray .boolean, 2)) (hn : Nat.blt n 1000 = true) (hR : k + 1 ≤ (mR M).cells ∧ q + n ≤ (mR M).slots) (hw' : w ++ [.inl (1, n, .inl (tr n (fun _ => nI 0)))] = w') (kk : EvA M n0 sh X (k + 1) (q + n) (pc + 2) L (.ref r :: st) w') : EvA M n0 sh X k q pc L (.int (nI n) :: st) w := by
  subst hr
  exact ea_newZ d g181 (Nat.le_of_ble_eq_true hn) hR hr8 hw' kk
theorem ea_nwQ {idx n : Nat} {w' : PW} (r : Nat) (hr : sh + w.length = r) (hr8 : r < 998) (d : decode (mC M) pc = .ok (.anewarray idx, 3)) (h1 : Cond.classLink (mY M).cls idx RX0 ∈ Gw) (hn : Nat.blt n 1000 = true) (hR : k + 1 ≤ (mR M).cells ∧ q + n ≤ (mR M).slots) (hw' : w ++ [.inl (3, n, .inr (.inr (.inr (.inr (fun _ => none)))))] = w') (kk : EvA M n0 sh X (k + 1) (q + n) (pc + 3) L (.ref r :: st) w') : EvA M n0 sh X k q pc L (.int (nI n) :: st) w := by
  subst hr
  exact ea_newQ d h1 (Nat.le_of_ble_eq_true hn) hR hr8 hw' kk
theorem ea_nw {idx ci : Nat} {C : String} {T : u_T} {N : Nat} {ty : Nat → FieldType} (fs : List Value) {w' : PW} (r : Nat) (hr : sh + w.length = r) (hr8 : r < 998) (d : decode (mC M) pc = .ok (.new idx, 3)) (hc : CF ci C T N ty) (h1 : Cond.classLink (mY M).cls idx C ∈ Gw) (h2 : Cond.instantiable C N ∈ Gw) (h3 : Cond.initialized C ∈ Gw) (hfs : ∀ j, j < N → defaultValue (ty j) = vp_V fs j) (hfe : fs.all noR = true) (hR : k + 1 ≤ (mR M).cells ∧ q + N ≤ (mR M).slots) (hw' : w ++ [.inr (ci, fs)] = w') (kk : EvA M n0 sh X (k + 1) (q + N) (pc + 3) L (.ref r :: st) w') : EvA M n0 sh X k q pc L st w := by
  subst hr
  exact ea_new fs d hc h1 h2 h3 hfs (noR_of hfe) hR hr8 hw' kk
end EC
/-! Arrays.fill -/
abbrev mJ7_fill : MT := (yJ7_fill_53178, none, cJ7_fill_53178, 4, { frames := 0, cells := 0, slots := 0, locals := 0 }, [], 0, none)
theorem ev_alI {M : MT} {po : PO} {px : PX} {k pc : Nat} {L : LV} {st : List Value} {w : PW} {a n : Nat} {f : Nat → Int32} (v : Int32) (d : decode (mC M) pc = .ok (.arraylength, 1)) (hw : w[a]? = some (.inl (0, n, .inl f))) (hv : Int32.ofNat n = v) (kk : Ev M po px k (pc + 1) L (.int v :: st) w) : Ev M po px k pc L (.ref a :: st) w := by
  intro p l e s m args below meth c dC dI dA as A Q H locs ls hX hE hD hl
  obtain ⟨hx, hb, hml, hown, hts, hst, hlk, htb, hK, hA, hG, hsc⟩ := id hX
  obtain ⟨hP, hDD, hS⟩ := id hD
  obtain ⟨j, hj, -⟩ := emW_at as dA hw rfl
  exact va_alen hx hb hK hP j 0 hj rfl hv d (kk _ _ _ _ _ _ _ _ _ _ _ _ _ _ _ _ _ _ hX hE hD hl)
abbrev fiL (i : Nat) (v : Int32) : LV := [(2, .int (nI i)), (3, .int (nI 6)), (0, .ref 0), (1, .int v)]
theorem fi_step {po : PO} {px : PX} (v : Int32) (F : Nat → Int32) (i : Nat) (hi : i < 6) (hlt : ¬ nI 6 ≤ nI i) (hin : nI i + Int32.ofInt 1 = nI (i + 1)) (kk : Ev mJ7_fill po px 0 5 (fiL (i + 1) v) [] [.inl (0, 6, .inl (tr 6 (upd F i v)))]) : Ev mJ7_fill po px 0 5 (fiL i v) [] [.inl (0, 6, .inl (tr 6 F))] := by
  refine ev_iload_n 2 dJ7_fill_53178_5 rfl rfl ?_
  refine ev_iload_n 3 dJ7_fill_53178_6 rfl rfl ?_
  refine ev_icmp_ge 20 dJ7_fill_53178_7 (by decide) (fun h => absurd h hlt) (fun _ => ?_)
  refine ev_aload_n 0 dJ7_fill_53178_10 rfl rfl ?_
  refine ev_iload_n 2 dJ7_fill_53178_11 rfl rfl ?_
  refine ev_iload_n 1 dJ7_fill_53178_12 rfl rfl ?_
  refine ev_ist i dJ7_fill_53178_13 rfl rfl hi rfl rfl ?_
  refine ev_iinc (nI (i + 1)) dJ7_fill_53178_14 rfl hin (Nat.le_of_ble_eq_true rfl) rfl ?_
  exact ev_goto 5 dJ7_fill_53178_17 (by decide) kk
theorem P_repl {D : va_G} {cl : List vw_C} {A : Nat → Prop} {p : Nat} {ws : va_W} {a : Nat} {e0 e : va_E} {H H1 : Heap} (h : va_P D cl ws H) (hD : va_D A ws) (hp : ws[p]? = some (a, e0)) (he : va_at D cl (a, e) H1) (oq : ∀ q : Nat, q < H.size → q ≠ a → H1[q]? = H[q]?) : va_P D cl (ws.set p (a, e)) H1 := by
  intro k x hk
  by_cases hpk : p = k
  · subst hpk
    rw [List.getElem?_set_self (List.getElem?_eq_some_iff.mp hp).1] at hk
    cases hk
    exact he
  · rw [List.getElem?_set_ne hpk] at hk
    exact (h k x hk).kept (oq x.1 (h k x hk).lt (fun e1 => hpk (hD.1 k p x _ hk hp e1).symm))
theorem fFX0_9 : FPF RX0 9 0 0 (.array .int) := ⟨_, _, _, _, cf0, by decide, g97, rfl, rfl, by decide +kernel⟩
theorem fFX0_15 : FPF RX0 15 0 1 (.array .int) := ⟨_, _, _, _, cf0, by decide, g100, rfl, rfl, by decide +kernel⟩
theorem fFX0_18 : FPF RX0 18 0 2 (.array .int) := ⟨_, _, _, _, cf0, by decide, g103, rfl, rfl, by decide +kernel⟩
theorem fFX0_21 : FPF RX0 21 0 3 (.array .int) := ⟨_, _, _, _, cf0, by decide, g105, rfl, rfl, by decide +kernel⟩
theorem fFX0_24 : FPF RX0 24 0 4 (.array .int) := ⟨_, _, _, _, cf0, by decide, g108, rfl, rfl, by decide +kernel⟩
theorem fFX0_27 : FPF RX0 27 0 5 (.array .int) := ⟨_, _, _, _, cf0, by decide, g111, rfl, rfl, by decide +kernel⟩
theorem fFX0_30 : FPF RX0 30 0 6 (.array .int) := ⟨_, _, _, _, cf0, by decide, g114, rfl, rfl, by decide +kernel⟩
theorem fFX0_33 : FPF RX0 33 0 7 (.array .boolean) := ⟨_, _, _, _, cf0, by decide, g116, rfl, rfl, by decide +kernel⟩
theorem fFX1_9 : FPF RX1 9 1 0 (.array .int) := ⟨_, _, _, _, cf1, by decide, g30, rfl, rfl, by decide +kernel⟩
theorem fFX2_9 : FPF RX2 9 2 0 (.array .int) := ⟨_, _, _, _, cf2, by decide, g55, rfl, rfl, by decide +kernel⟩
theorem fFX2_15 : FPF RX2 15 2 1 (.array .int) := ⟨_, _, _, _, cf2, by decide, g57, rfl, rfl, by decide +kernel⟩
theorem fFX3_10 : FPF RX3 10 3 0 (.object "PledgeHouse$OrderText") := ⟨_, _, _, _, cf3, by decide, g182, rfl, rfl, by decide +kernel⟩
theorem fFX3_19 : FPF RX3 19 3 1 (.object "PledgeHouse$Sale") := ⟨_, _, _, _, cf3, by decide, g183, rfl, rfl, by decide +kernel⟩
theorem fFX3_23 : FPF RX3 23 3 2 (.array .int) := ⟨_, _, _, _, cf3, by decide, g184, rfl, rfl, by decide +kernel⟩
theorem fFX3_29 : FPF RX3 29 3 3 (.array (.object "PledgeHouse$Ledger")) := ⟨_, _, _, _, cf3, by decide, g185, rfl, rfl, by decide +kernel⟩
theorem fFX3_33 : FPF RX3 33 3 4 (.array .boolean) := ⟨_, _, _, _, cf3, by decide, g186, rfl, rfl, by decide +kernel⟩
theorem fFX3_37 : FPF RX3 37 3 5 (.array (.object "PledgeHouse$Ledger")) := ⟨_, _, _, _, cf3, by decide, g187, rfl, rfl, by decide +kernel⟩
abbrev iX0 : MT := (yX0_init, none, cX0_init, 1, { frames := 1, cells := 8, slots := 98, locals := 40 }, [], 0, none)
theorem jX0_init : MFI iX0 := ⟨(by rw [hdW, if_pos rfl]; exact g92), g7, ⟨by decide, by decide⟩, by decide +kernel, by decide +kernel, rfl, g91, rfl, rfl⟩
abbrev iX1 : MT := (yX1_init, none, cX1_init, 1, { frames := 1, cells := 1, slots := 60, locals := 20 }, [], 0, none)
theorem jX1_init : MFI iX1 := ⟨(by rw [hdW, if_pos rfl]; exact g28), g5, ⟨by decide, by decide⟩, by decide +kernel, by decide +kernel, rfl, g27, rfl, rfl⟩
abbrev iX2 : MT := (yX2_init, none, cX2_init, 1, { frames := 1, cells := 2, slots := 12, locals := 20 }, [], 0, none)
theorem jX2_init : MFI iX2 := ⟨(by rw [hdW, if_pos rfl]; exact g53), g6, ⟨by decide, by decide⟩, by decide +kernel, by decide +kernel, rfl, g52, rfl, rfl⟩
abbrev iX3 : MT := (yX3_init, none, cX3_init, 2, { frames := 2, cells := 99, slots := 1276, locals := 80 }, [], 0, none)
theorem jX3_init : MFI iX3 := ⟨(by rw [hdW, if_pos rfl]; exact g20), g4, ⟨by decide, by decide⟩, by decide +kernel, by decide +kernel, rfl, g19, rfl, rfl⟩
/-- a state at the start -/
def σ0 : Nat → Int32 := fun i => if i < 6 then nI 100 else if i < 12 then nI 20 else if i = 98 then nI 10 else if i = 99 then nI 6 else if i = 100 then nI 5 else nI 0
theorem rw_1 {n ci : Nat} (fs : List Value) (h : ∀ v ∈ fs, ∀ r, v ≠ .ref r) : RfW n [.inr (ci, fs)] := fun x hx => by
  rw [List.mem_singleton.mp hx]
  exact ⟨fun c' fs' he v hv r hr => by cases he; exact absurd hr (h v hv r), fun t m f he => (by cases he)⟩
theorem aX1_init (b : Nat) (hb : b + 2 ≤ 998) : CtA iX1 b [.inr (1, [.null, .int (nI 0), .int (nI 0), .int (nI 0), .int (nI 0), .int (nI 0), .int (nI 0), .int (nI 0)])] [.inr (1, [.ref (b + 1), .int (nI 0), .int (nI 0), .int (nI 0), .int (nI 0), .int (nI 0), .int (nI 0), .int (nI 0)]), .inl (0, 60, .inl (tr 60 (fun _ => nI 0)))] := by
  refine cta_of 12 jX1_init (by decide) ⟨Nat.le_refl _, by show b + 1 ≤ 998; omega, rw_1 _ (noR_of rfl), fun x hx => by rw [List.mem_singleton.mp hx]; exact RfV_ref (Nat.lt_succ_self b), fun _ h => absurd h List.not_mem_nil⟩ dX1_init_12 ?_
  refine ea_aload_n 0 dX1_init_0 rfl rfl ?_
  refine ea_objInit dX1_init_1 g29 g22 g23 (Nat.le_of_ble_eq_true rfl) (Nat.le_of_ble_eq_true rfl) rfl ?_
  refine ea_aload_n 0 dX1_init_4 rfl rfl ?_
  refine ea_bipush (nI 60) dX1_init_5 rfl ?_
  refine ea_nwI (w' := [.inr (1, [.null, .int (nI 0), .int (nI 0), .int (nI 0), .int (nI 0), .int (nI 0), .int (nI 0), .int (nI 0)]), .inl (0, 60, .inl (tr 60 (fun _ => nI 0)))]) (b + 1) rfl (by omega) dX1_init_7 rfl ⟨(Nat.le_of_ble_eq_true rfl), (Nat.le_of_ble_eq_true rfl)⟩ rfl ?_
  refine ea_putF (w' := [.inr (1, [.ref (b + 1), .int (nI 0), .int (nI 0), .int (nI 0), .int (nI 0), .int (nI 0), .int (nI 0), .int (nI 0)]), .inl (0, 60, .inl (tr 60 (fun _ => nI 0)))]) 0 0 (Nat.zero_add b).symm rfl dX1_init_9 fFX1_9 rfl (Nat.le_of_ble_eq_true rfl) (fun _ => rfl) (fun _ => rfl) rfl ?_
  exact ea_exit0 (Nat.le_of_ble_eq_true rfl) (Nat.le_of_ble_eq_true rfl)
theorem aX2_init (b : Nat) (hb : b + 3 ≤ 998) : CtA iX2 b [.inr (2, [.null, .null, .int (nI 0), .int (nI 0), .int (nI 0), .int (nI 0), .int (nI 0), .int (nI 0)])] [.inr (2, [.ref (b + 1), .ref (b + 2), .int (nI 0), .int (nI 0), .int (nI 0), .int (nI 0), .int (nI 0), .int (nI 0)]), .inl (0, 6, .inl (tr 6 (fun _ => nI 0))), .inl (0, 6, .inl (tr 6 (fun _ => nI 0)))] := by
  refine cta_of 20 jX2_init (by decide) ⟨Nat.le_refl _, by show b + 1 ≤ 998; omega, rw_1 _ (noR_of rfl), fun x hx => by rw [List.mem_singleton.mp hx]; exact RfV_ref (Nat.lt_succ_self b), fun _ h => absurd h List.not_mem_nil⟩ dX2_init_20 ?_
  refine ea_aload_n 0 dX2_init_0 rfl rfl ?_
  refine ea_objInit dX2_init_1 g54 g22 g23 (Nat.le_of_ble_eq_true rfl) (Nat.le_of_ble_eq_true rfl) rfl ?_
  refine ea_aload_n 0 dX2_init_4 rfl rfl ?_
  refine ea_bipush (nI 6) dX2_init_5 rfl ?_
  refine ea_nwI (w' := [.inr (2, [.null, .null, .int (nI 0), .int (nI 0), .int (nI 0), .int (nI 0), .int (nI 0), .int (nI 0)]), .inl (0, 6, .inl (tr 6 (fun _ => nI 0)))]) (b + 1) rfl (by omega) dX2_init_7 rfl ⟨(Nat.le_of_ble_eq_true rfl), (Nat.le_of_ble_eq_true rfl)⟩ rfl ?_
  refine ea_putF (w' := [.inr (2, [.ref (b + 1), .null, .int (nI 0), .int (nI 0), .int (nI 0), .int (nI 0), .int (nI 0), .int (nI 0)]), .inl (0, 6, .inl (tr 6 (fun _ => nI 0)))]) 0 0 (Nat.zero_add b).symm rfl dX2_init_9 fFX2_9 rfl (Nat.le_of_ble_eq_true rfl) (fun _ => rfl) (fun _ => rfl) rfl ?_
  refine ea_aload_n 0 dX2_init_12 rfl rfl ?_
  refine ea_bipush (nI 6) dX2_init_13 rfl ?_
  refine ea_nwI (w' := [.inr (2, [.ref (b + 1), .null, .int (nI 0), .int (nI 0), .int (nI 0), .int (nI 0), .int (nI 0), .int (nI 0)]), .inl (0, 6, .inl (tr 6 (fun _ => nI 0))), .inl (0, 6, .inl (tr 6 (fun _ => nI 0)))]) (b + 2) rfl (by omega) dX2_init_15 rfl ⟨(Nat.le_of_ble_eq_true rfl), (Nat.le_of_ble_eq_true rfl)⟩ rfl ?_
  refine ea_putF (w' := [.inr (2, [.ref (b + 1), .ref (b + 2), .int (nI 0), .int (nI 0), .int (nI 0), .int (nI 0), .int (nI 0), .int (nI 0)]), .inl (0, 6, .inl (tr 6 (fun _ => nI 0))), .inl (0, 6, .inl (tr 6 (fun _ => nI 0)))]) 1 0 (Nat.zero_add b).symm rfl dX2_init_17 fFX2_15 rfl (Nat.le_of_ble_eq_true rfl) (fun _ => rfl) (fun _ => rfl) rfl ?_
  exact ea_exit0 (Nat.le_of_ble_eq_true rfl) (Nat.le_of_ble_eq_true rfl)
