/-! ===== fields, arrays, throws, calls ===== -/
def CF (ci : Nat) (C : String) (T : u_T) (N : Nat) (ty : Nat → FieldType) : Prop := vwC8[ci]? = some (C, T, N) ∧ (∀ w ∈ u_ws C T N, w ∈ Gw) ∧ (∀ k, k < N → parseFieldDescriptor (T k).2.2.1 = some (ty k)) ∧ ∀ a, a < N → ∀ b, b < N → a ≠ b → (T a).2.1 ≠ (T b).2.1
theorem cf0 : CF 0 RX0 TX0 19 tyX0 := ⟨rfl, inGX0, tyX0_ok, nmX0⟩
theorem cf1 : CF 1 RX1 TX1 8 tyX1 := ⟨rfl, inGX1, tyX1_ok, nmX1⟩
theorem cf2 : CF 2 RX2 TX2 8 tyX2 := ⟨rfl, inGX2, tyX2_ok, nmX2⟩
theorem cf3 : CF 3 RX3 TX3 9 tyX3 := ⟨rfl, inGX3, tyX3_ok, nmX3⟩
/-- entry idx of own's pool names field kf of class ci -/
def FO (own : String) (idx ci kf : Nat) : Prop := ∃ (C : String) (T : u_T) (N : Nat) (ty : Nat → FieldType), CF ci C T N ty ∧ kf < N ∧ Cond.fieldLink own idx (T kf).1 (T kf).2.1 (T kf).2.2.1 ∈ Gw
/-- .. which isn't final, and is of this type -/
def FP9 (own : String) (idx ci kf : Nat) (t : FieldType) : Prop := ∃ (C : String) (T : u_T) (N : Nat) (ty : Nat → FieldType), CF ci C T N ty ∧ kf < N ∧ Cond.fieldLink own idx (T kf).1 (T kf).2.1 (T kf).2.2.1 ∈ Gw ∧ (T kf).2.2.2 = false ∧ parseFieldDescriptor (T kf).2.2.1 = some t
theorem P_congr {D : va_G} {cl : List vw_C} {ws : va_W} {H : Heap} {k a : Nat} {c : ClassId} {x y : vp_A} (h : va_P D cl (ws.set k (a, .inl (c, x))) H) (e : vp_cell c x = vp_cell c y) : va_P D cl (ws.set k (a, .inl (c, y))) H := by
  intro j q hj
  by_cases hl : k < ws.length
  · by_cases hjk : k = j
    · subst hjk
      rw [List.getElem?_set_self hl] at hj
      cases hj
      have h1 := h k (a, .inl (c, x)) (by rw [List.getElem?_set_self hl])
      show H[a]? = some (vp_cell c y)
      rw [← e]
      exact h1
    · rw [List.getElem?_set_ne hjk] at hj
      exact h j q (by rw [List.getElem?_set_ne hjk]; exact hj)
  · rw [List.set_eq_of_length_le (by omega)] at hj h
    exact h j q hj
theorem cell_congr {cA : ClassId} (n : Nat) {f g : Nat → Int32} (h : ∀ j, j < n → f j = g j) : arrV cA n (fun j => .int (f j)) = arrV cA n (fun j => .int (g j)) := by
  have e : (Array.ofFn (n := n) fun i => Value.int (f i)) = (Array.ofFn (n := n) fun i => Value.int (g i)) := by
    congr 1
    funext i
    rw [h i.1 i.2]
  simp only [arrV]
  first
    | exact congrArg _ e
    | rw [e]
    | (congr 1; apply Array.ext <;> simp_all)
/-- the words of a method's own code -/
def hdW (M : MT) : Cond := if mH M = [] then Cond.code (mY M) (mC M) (mN M) (mT M) else Cond.codeWith (mY M) (mC M) (mN M) (mT M) (mH M)
def QCt (po : PO) (dC : Nat → ClassId) (dI : Nat → Nat → Nat) (dA : Nat → ClassId) (as : Nat → Nat) (w : PW) (sz : Nat) : Array Value → State → Outcome → State → Prop := fun _ st oc t =>
  (∃ (v : Option Value) (u : PW), oc = .returned (v.map (em as)) ∧ po v u ∧ va_P (dC, dI) vwC8 (emW as dA u) t.heap ∧ va_D (va_A (emW as dA w) sz) (emW as dA u)) ∧ va_F (va_A (emW as dA w) sz) st t
def XCt (px : PX) (dC : Nat → ClassId) (dI : Nat → Nat → Nat) (dA : Nat → ClassId) (as : Nat → Nat) (w : PW) (sz : Nat) : String → State → State → Prop := fun E st t =>
  (∃ u : PW, px E u ∧ va_P (dC, dI) vwC8 (emW as dA u) t.heap ∧ va_D (va_A (emW as dA w) sz) (emW as dA u)) ∧ va_F (va_A (emW as dA w) sz) st t
def PCt (dC : Nat → ClassId) (dI : Nat → Nat → Nat) (dA : Nat → ClassId) (as : Nat → Nat) (w : PW) (sz : Nat) : State → Prop := fun U => U.heap.size = sz ∧ va_P (dC, dI) vwC8 (emW as dA w) U.heap ∧ va_K (dC, dI) vwC8 (tyT dA) U ∧ va_D (fun _ => True) (emW as dA w) ∧ GX as (va_A (emW as dA w) sz) U U.heap
/-- THE CONTRACT: called with these arguments in this world, M ends as po, px say -/
def Ct (M : MT) (args : List Value) (w : PW) (po : PO) (px : PX) : Prop := ∀ (l : Launch), l.stackTraces = false → ∀ (dC : Nat → ClassId) (dI : Nat → Nat → Nat) (dA : Nat → ClassId) (as : Nat → Nat) (sz : Nat),
  vx_Met l (mY M) (hdW M :: Gw) (mR M) (va_Pc (args.map (em as)) (PCt dC dI dA as w sz)) (QCt po dC dI dA as w sz) (XCt px dC dI dA as w sz) (mK M) (6 * mK M) (va_A (emW as dA w) sz)
/-- what the tables say of a method -/
def MF (M : MT) (n : Nat) : Prop := hdW M ∈ Gw ∧ Cond.initialized (mY M).cls ∈ Gw ∧ ((mY M).cls ≠ "java/lang/invoke/MethodHandle" ∧ (mY M).cls ≠ "java/lang/invoke/VarHandle") ∧ (parseMethodDescriptor (mY M).desc).map (fun d => d.parameters.length) = some n ∧ (mR M).cells = mK M ∧ (mR M).slots = 6 * mK M ∧ plainName (mY M).cls = true ∧ mS M = none
def MI (M : MT) : Prop := Cond.instanceMethod (mY M) ∈ Gw ∧ Cond.selects (mY M).cls (mY M) (mY M) ∈ Gw
def MS9 (M : MT) : Prop := Cond.static (mY M) ∈ Gw
theorem emL_args (as : Nat → Nat) : ∀ (n : Nat) (vs : List Value), emL as (lv_args n vs) = lv_args n (vs.map (em as))
  | _, [] => rfl
  | n, v :: vs => by
    simp only [lv_args, List.map_cons, em_cat]
    rw [← emL_args as _ vs]
    rfl
theorem sl_len (as : Nat → Nat) (vs : List Value) : (lg_sl (vs.map (em as))).length = (lg_sl vs).length := by
  induction vs with
  | nil => rfl
  | cons v vs ih =>
    simp only [lg_sl, List.map_cons, List.flatMap_cons, List.length_append] at ih ⊢
    rw [ih]
    cases v <;> rfl
def rtOK : Option FieldType → Option Value → Prop
  | none, none => True
  | some ty, some (.int x) => narrow ty (.int x) = .int x
  | some ty, some (.long _) => ty = .long
  | some ty, some (.double _) => ty = .double
  | some ty, some (.ref a) => ∃ C, ty = .object C
  | _, _ => False
/-- an exception of class E has left a call at pc -/
def EvX (M : MT) (po : PO) (px : PX) (k : Nat) (pc : Nat) (L : LV) (E : String) (w : PW) : Prop :=
  ∀ (p : Program) (l : Launch) (e : Env) (s : State) (m : MethodId) (args : Array Value) (below : List Frame) (meth : Method) (c : Code) (dC : Nat → ClassId) (dI : Nat → Nat → Nat) (dA : Nat → ClassId) (as : Nat → Nat) (A : Nat → Prop) (Q : State → Prop) (H : Heap) (locs : List Loc) (ls : Array Slot),
    Sx M p l s m args meth c dC dI dA as A → En M po px p l e s m args below meth c dC dI dA as A Q → Dy M s dC dI dA as A H locs w → lv_has ls (mN M) (emL as L) →
    ∀ (st : List Value) (ce : Cell) (q : Addr), H[q]? = some ce → ce.vm = .none → s.vm.findClass E = some ce.cls → vx_W p l e (mR M) s m args below meth c H locs k (6 * k) Q (F0 m pc ls st) q
section EV2
variable {M : MT} {po : PO} {px : PX} {k pc : Nat} {L : LV} {st : List Value} {w : PW}
theorem ev_lcmp {x y : Int64} (d : decode (mC M) pc = .ok (.lcmp, 1)) (kk : Ev M po px k (pc + 1) L (.int (lg_cmp x y) :: st) w) : Ev M po px k pc L (.long y :: .long x :: st) w := by
  intro p l e s m args below meth c dC dI dA as A Q H locs ls hX hE hD hl
  obtain ⟨hx, hb, hml, hown, hts, hst, hlk, htb, hK, hA, hG, hsc⟩ := id hX
  obtain ⟨hP, hDD, hS⟩ := id hD
  exact W.lcmp hx hb d (kk _ _ _ _ _ _ _ _ _ _ _ _ _ _ _ _ _ _ hX hE hD hl)
theorem ev_getfield {idx a ci : Nat} {fs : List Value} {v : Value} (kf : Nat) (d : decode (mC M) pc = .ok (.getfield idx, 3)) (hf : FO (mY M).cls idx ci kf) (hw : w[a]? = some (.inr (ci, fs))) (hv : fs[kf]? = some v) (kk : Ev M po px k (pc + 3) L (v :: st) w) : Ev M po px k pc L (.ref a :: st) w := by
  intro p l e s m args below meth c dC dI dA as A Q H locs ls hX hE hD hl
  obtain ⟨hx, hb, hml, hown, hts, hst, hlk, htb, hK, hA, hG, hsc⟩ := id hX
  obtain ⟨hP, hDD, hS⟩ := id hD
  obtain ⟨C, T, N, ty, ⟨c1, c2, c3, c4⟩, hkN, hlw⟩ := hf
  obtain ⟨j, hj, -⟩ := emW_at as dA hw (isH_of c1)
  exact va_get hx hb hts c2 hown hK hP j hj c1 kf hkN (hts _ hlw) (fun _ h => h) (by rw [List.getElem?_map, hv]; rfl) d (kk _ _ _ _ _ _ _ _ _ _ _ _ _ _ _ _ _ _ hX hE hD hl)
theorem ev_putfield {idx a ci : Nat} {fs : List Value} {v : Value} (kf : Nat) {t : FieldType} {w' : PW} (d : decode (mC M) pc = .ok (.putfield idx, 3)) (hf : FP9 (mY M).cls idx ci kf t) (hw : w[a]? = some (.inr (ci, fs))) (hkl : kf < fs.length) (hn : ∀ as, narrow t (em as v) = em as v) (hfi : ∀ as, fits t (em as v) = true) (hw' : w.set a (.inr (ci, fs.set kf v)) = w') (kk : Ev M po px k (pc + 3) L st w') : Ev M po px k pc L (v :: .ref a :: st) w := by
  intro p l e s m args below meth c dC dI dA as A Q H locs ls hX hE hD hl
  obtain ⟨hx, hb, hml, hown, hts, hst, hlk, htb, hK, hA, hG, hsc⟩ := id hX
  obtain ⟨hP, hDD, hS⟩ := id hD
  subst hw'
  obtain ⟨C, T, N, ty, ⟨c1, c2, c3, c4⟩, hkN, hlw, hfin, hty⟩ := hf
  have e0 : (as a, (Sum.inr (ci, (fs.map (em as)).set kf (em as v)) : va_E)) = (as a, emE as dA (.inr (ci, fs.set kf v))) := by simp [emE, List.map_set]
  obtain ⟨j, hj, hjs⟩ := emW_at as dA hw (isH_of c1)
  refine va_put hx hb hts c2 ty c3 c4 hown hK hP hDD hS j hj c1 kf hkN (hts _ hlw) (fun _ h => h) hfin hty (hn as) (hfi as) (by simpa using hkl) d (fun H1 locs1 q1 q2 q3 => ?_)
  rw [e0, hjs _ (isH_of c1)] at q1 q2
  exact (kk _ _ _ _ _ _ _ _ _ _ _ _ _ _ _ _ _ _ hX hE ⟨q1, q2, q3⟩ hl)
theorem ev_iaload {a n : Nat} {i : Int32} {f : Nat → Int32} (d : decode (mC M) pc = .ok (.iaload, 1)) (hw : w[a]? = some (.inl (0, n, .inl f))) (hin : vp_in i n) (kk : Ev M po px k (pc + 1) L (.int (f i.toNatClampNeg) :: st) w) : Ev M po px k pc L (.int i :: .ref a :: st) w := by
  intro p l e s m args below meth c dC dI dA as A Q H locs ls hX hE hD hl
  obtain ⟨hx, hb, hml, hown, hts, hst, hlk, htb, hK, hA, hG, hsc⟩ := id hX
  obtain ⟨hP, hDD, hS⟩ := id hD
  obtain ⟨j, hj, -⟩ := emW_at as dA hw rfl
  exact va_iald hx hb hK hP j 0 hj rfl hin d (kk _ _ _ _ _ _ _ _ _ _ _ _ _ _ _ _ _ _ hX hE hD hl)
theorem ev_baload {a n : Nat} {i : Int32} {f : Nat → Int32} (d : decode (mC M) pc = .ok (.baload, 1)) (hw : w[a]? = some (.inl (1, n, .inl f))) (hin : vp_in i n) (kk : Ev M po px k (pc + 1) L (.int (f i.toNatClampNeg) :: st) w) : Ev M po px k pc L (.int i :: .ref a :: st) w := by
  intro p l e s m args below meth c dC dI dA as A Q H locs ls hX hE hD hl
  obtain ⟨hx, hb, hml, hown, hts, hst, hlk, htb, hK, hA, hG, hsc⟩ := id hX
  obtain ⟨hP, hDD, hS⟩ := id hD
  obtain ⟨j, hj, -⟩ := emW_at as dA hw rfl
  exact va_zald hx hb hK hP j 1 hj rfl hin d (kk _ _ _ _ _ _ _ _ _ _ _ _ _ _ _ _ _ _ hX hE hD hl)
theorem ev_aaload {a n r : Nat} {i : Int32} {f : Nat → Option Nat} (d : decode (mC M) pc = .ok (.aaload, 1)) (hw : w[a]? = some (.inl (3, n, .inr (.inr (.inr (.inr f)))))) (hin : vp_in i n) (hr : f i.toNatClampNeg = some r) (kk : Ev M po px k (pc + 1) L (.ref r :: st) w) : Ev M po px k pc L (.int i :: .ref a :: st) w := by
  intro p l e s m args below meth c dC dI dA as A Q H locs ls hX hE hD hl
  obtain ⟨hx, hb, hml, hown, hts, hst, hlk, htb, hK, hA, hG, hsc⟩ := id hX
  obtain ⟨hP, hDD, hS⟩ := id hD
  obtain ⟨j, hj, -⟩ := emW_at as dA hw rfl
  refine va_aldq hx hb hK hP j 3 hj rfl hin d ?_
  simp only [hr, Option.map, va_rf]
  exact (kk _ _ _ _ _ _ _ _ _ _ _ _ _ _ _ _ _ _ hX hE hD hl)
theorem ev_iastore {a n : Nat} {i : Int32} {x : Int32} {f : Nat → Int32} {w' : PW} (d : decode (mC M) pc = .ok (.iastore, 1)) (hw : w[a]? = some (.inl (0, n, .inl f))) (hin : vp_in i n) (hw' : w.set a (.inl (0, n, .inl (upd f i.toNatClampNeg x))) = w') (kk : Ev M po px k (pc + 1) L st w') : Ev M po px k pc L (.int x :: .int i :: .ref a :: st) w := by
  intro p l e s m args below meth c dC dI dA as A Q H locs ls hX hE hD hl
  obtain ⟨hx, hb, hml, hown, hts, hst, hlk, htb, hK, hA, hG, hsc⟩ := id hX
  obtain ⟨hP, hDD, hS⟩ := id hD
  subst hw'
  obtain ⟨j, hj, hjs⟩ := emW_at as dA hw rfl
  refine va_iast hx hb hK hP hDD hS j 0 hj rfl hin d (fun H1 locs1 q1 q2 q3 => ?_)
  have e0 := hjs (.inl (0, n, .inl (upd f i.toNatClampNeg x))) rfl
  exact (kk _ _ _ _ _ _ _ _ _ _ _ _ _ _ _ _ _ _ hX hE ⟨e0 ▸ q1, e0 ▸ q2, q3⟩ hl)
theorem ev_bastore {a n : Nat} {i : Int32} {x : Int32} {f : Nat → Int32} {w' : PW} (d : decode (mC M) pc = .ok (.bastore, 1)) (hw : w[a]? = some (.inl (1, n, .inl f))) (hin : vp_in i n) (hx1 : vp_nar .boolean x = x) (hw' : w.set a (.inl (1, n, .inl (upd f i.toNatClampNeg x))) = w') (kk : Ev M po px k (pc + 1) L st w') : Ev M po px k pc L (.int x :: .int i :: .ref a :: st) w := by
  intro p l e s m args below meth c dC dI dA as A Q H locs ls hX hE hD hl
  obtain ⟨hx, hb, hml, hown, hts, hst, hlk, htb, hK, hA, hG, hsc⟩ := id hX
  obtain ⟨hP, hDD, hS⟩ := id hD
  subst hw'
  obtain ⟨j, hj, hjs⟩ := emW_at as dA hw rfl
  refine va_zast hx hb hK hP hDD hS j 1 hj rfl hin d (fun H1 locs1 q1 q2 q3 => ?_)
  rw [hx1] at q1 q2
  have e0 := hjs (.inl (1, n, .inl (upd f i.toNatClampNeg x))) rfl
  exact (kk _ _ _ _ _ _ _ _ _ _ _ _ _ _ _ _ _ _ hX hE ⟨e0 ▸ q1, e0 ▸ q2, q3⟩ hl)
theorem ev_aastore {a n r ci : Nat} {i : Int32} {f : Nat → Option Nat} {fs : List Value} {w' : PW} (d : decode (mC M) pc = .ok (.aastore, 1)) (hw : w[a]? = some (.inl (3, n, .inr (.inr (.inr (.inr f)))))) (hv : w[r]? = some (.inr (0, fs))) (hin : vp_in i n) (hw' : w.set a (.inl (3, n, .inr (.inr (.inr (.inr (va_up f i.toNatClampNeg (some r))))))) = w') (kk : Ev M po px k (pc + 1) L st w') : Ev M po px k pc L (.ref r :: .int i :: .ref a :: st) w := by
  intro p l e s m args below meth c dC dI dA as A Q H locs ls hX hE hD hl
  obtain ⟨hx, hb, hml, hown, hts, hst, hlk, htb, hK, hA, hG, hsc⟩ := id hX
  obtain ⟨hP, hDD, hS⟩ := id hD
  subst hw'
  obtain ⟨j, hj, hjs⟩ := emW_at as dA hw rfl
  obtain ⟨jr, hjr, -⟩ := emW_at as dA hv rfl
  refine va_astq (r := (RX0, TX0, 19)) hx hb hK hP hDD hS j 3 jr 0 hj rfl hjr rfl hin d (fun H1 locs1 q1 q2 q3 => ?_)
  have e0 := hjs (.inl (3, n, .inr (.inr (.inr (.inr (va_up f i.toNatClampNeg (some r))))))) rfl
  have e1 : (fun k => (va_up f i.toNatClampNeg (some r) k).map as) = va_up (fun k => (f k).map as) i.toNatClampNeg (some (as r)) := by
    funext j
    simp only [va_up]
    split <;> rfl
  simp only [emE, emA, e1] at e0
  exact (kk _ _ _ _ _ _ _ _ _ _ _ _ _ _ _ _ _ _ hX hE ⟨e0 ▸ q1, e0 ▸ q2, q3⟩ hl)
theorem ev_copyi {idx a b n : Nat} {nn : Int32} {f g : Nat → Int32} {w' : PW} (d : decode (mC M) pc = .ok (.invokestatic idx, 3)) (hlw : Cond.methodLink (mY M).cls idx arraycopyName ∈ Gw) (h4 : Cond.native arraycopyName ∈ Gw ∧ Cond.static arraycopyName ∈ Gw ∧ Cond.initialized "java/lang/System" ∈ Gw) (hb0 : w[b]? = some (.inl (0, n, .inl f))) (ha0 : w[a]? = some (.inl (0, n, .inl g))) (hn0 : ¬ nn < 0) (hN : nn.toNatClampNeg = n) (hR : 1 ≤ (mR M).frames ∧ (st.map fun v => v.category).sum + (nativeFrameWords "java/lang/System" "arraycopy" 5 + 11) ≤ (mR M).locals) (hw' : w.set a (.inl (0, n, .inl f)) = w') (kk : Ev M po px k (pc + 3) L st w') : Ev M po px k pc L (.int nn :: .int 0 :: .ref a :: .int 0 :: .ref b :: st) w := by
  intro p l e s m args below meth c dC dI dA as A Q H locs ls hX hE hD hl
  obtain ⟨hx, hb, hml, hown, hts, hst, hlk, htb, hK, hA, hG, hsc⟩ := id hX
  obtain ⟨hP, hDD, hS⟩ := id hD
  subst hw'
  have z0 : (0 : Int32).toNatClampNeg = 0 := rfl
  have hc : ((st.map (em as)).map fun v => v.category) = st.map fun v => v.category := by simp [em_cat]
  obtain ⟨jb, hjb, -⟩ := emW_at as dA hb0 rfl
  obtain ⟨ja, hja, hjs⟩ := emW_at as dA ha0 rfl
  refine va_copyi (ty := .int) hx hb (hml.trans hl.1.symm) hown (hts _ hlw) (hts _ h4.1) (hts _ h4.2.1) (hts _ h4.2.2) hK hP hDD hS jb ja 0 0 hjb hja rfl rfl rfl (sp := 0) (dp := 0) (n := nn) (by decide) (by decide) hn0 (by rw [z0, hN]; omega) (by rw [z0, hN]; omega) (fun _ _ => rfl) hR.1 (by rw [hc]; exact hR.2) d (fun H1 locs1 q1 q2 q3 => ?_)
  have e0 := hjs (.inl (0, n, .inl f)) rfl
  have e1 : vp_cell (dA 0) (n, .inl (va_cpy f g (0 : Int32).toNatClampNeg (0 : Int32).toNatClampNeg nn.toNatClampNeg)) = vp_cell (dA 0) (n, .inl f) := by
    rw [vp_cell_i, vp_cell_i, z0, hN]
    refine cell_congr n (fun j hj => ?_)
    simp [va_cpy, hj]
  exact (kk _ _ _ _ _ _ _ _ _ _ _ _ _ _ _ _ _ _ hX hE ⟨e0 ▸ P_congr q1 e1, e0 ▸ hDD.set hja, q3⟩ hl)
theorem ev_copyb {idx a b n : Nat} {nn : Int32} {f g : Nat → Int32} {w' : PW} (d : decode (mC M) pc = .ok (.invokestatic idx, 3)) (hlw : Cond.methodLink (mY M).cls idx arraycopyName ∈ Gw) (h4 : Cond.native arraycopyName ∈ Gw ∧ Cond.static arraycopyName ∈ Gw ∧ Cond.initialized "java/lang/System" ∈ Gw) (hb0 : w[b]? = some (.inl (1, n, .inl f))) (ha0 : w[a]? = some (.inl (1, n, .inl g))) (hn0 : ¬ nn < 0) (hN : nn.toNatClampNeg = n) (hfit : ∀ i, i < n → fits .boolean (.int (f i)) = true) (hR : 1 ≤ (mR M).frames ∧ (st.map fun v => v.category).sum + (nativeFrameWords "java/lang/System" "arraycopy" 5 + 11) ≤ (mR M).locals) (hw' : w.set a (.inl (1, n, .inl f)) = w') (kk : Ev M po px k (pc + 3) L st w') : Ev M po px k pc L (.int nn :: .int 0 :: .ref a :: .int 0 :: .ref b :: st) w := by
  intro p l e s m args below meth c dC dI dA as A Q H locs ls hX hE hD hl
  obtain ⟨hx, hb, hml, hown, hts, hst, hlk, htb, hK, hA, hG, hsc⟩ := id hX
  obtain ⟨hP, hDD, hS⟩ := id hD
  subst hw'
  have z0 : (0 : Int32).toNatClampNeg = 0 := rfl
  have hc : ((st.map (em as)).map fun v => v.category) = st.map fun v => v.category := by simp [em_cat]
  obtain ⟨jb, hjb, -⟩ := emW_at as dA hb0 rfl
  obtain ⟨ja, hja, hjs⟩ := emW_at as dA ha0 rfl
  refine va_copyi (ty := .boolean) hx hb (hml.trans hl.1.symm) hown (hts _ hlw) (hts _ h4.1) (hts _ h4.2.1) (hts _ h4.2.2) hK hP hDD hS jb ja 1 1 hjb hja rfl rfl rfl (sp := 0) (dp := 0) (n := nn) (by decide) (by decide) hn0 (by rw [z0, hN]; omega) (by rw [z0, hN]; omega) (fun i hi => by rw [hN] at hi; simpa using hfit i hi) hR.1 (by rw [hc]; exact hR.2) d (fun H1 locs1 q1 q2 q3 => ?_)
  have e0 := hjs (.inl (1, n, .inl f)) rfl
  have e1 : vp_cell (dA 1) (n, .inl (va_cpy f g (0 : Int32).toNatClampNeg (0 : Int32).toNatClampNeg nn.toNatClampNeg)) = vp_cell (dA 1) (n, .inl f) := by
    rw [vp_cell_i, vp_cell_i, z0, hN]
    refine cell_congr n (fun j hj => ?_)
    simp [va_cpy, hj]
  exact (kk _ _ _ _ _ _ _ _ _ _ _ _ _ _ _ _ _ _ hX hE ⟨e0 ▸ P_congr q1 e1, e0 ▸ hDD.set hja, q3⟩ hl)
theorem ev_slen {n : Nat} {xs : Nat → Int32} (d : decode (mC M) pc = .ok (.arraylength, 1)) (hs : mS M = some (n, xs)) (kk : Ev M po px k (pc + 1) L (.int (Int32.ofNat n) :: st) w) : Ev M po px k pc L (.ref 999 :: st) w := by
  intro p l e s m args below meth c dC dI dA as A Q H locs ls hX hE hD hl
  obtain ⟨hx, hb, hml, hown, hts, hst, hlk, htb, hK, hA, hG, hsc⟩ := id hX
  obtain ⟨hP, hDD, hS⟩ := id hD
  rw [hs] at hsc
  exact va_slen hx hb hsc.1 hsc.2.1 hsc.2.2 hS d (kk _ _ _ _ _ _ _ _ _ _ _ _ _ _ _ _ _ _ hX hE hD hl)
theorem ev_sld {n : Nat} {xs : Nat → Int32} {i : Int32} (d : decode (mC M) pc = .ok (.iaload, 1)) (hs : mS M = some (n, xs)) (hin : vp_in i n) (kk : Ev M po px k (pc + 1) L (.int (xs i.toNatClampNeg) :: st) w) : Ev M po px k pc L (.int i :: .ref 999 :: st) w := by
  intro p l e s m args below meth c dC dI dA as A Q H locs ls hX hE hD hl
  obtain ⟨hx, hb, hml, hown, hts, hst, hlk, htb, hK, hA, hG, hsc⟩ := id hX
  obtain ⟨hP, hDD, hS⟩ := id hD
  rw [hs] at hsc
  exact va_sld hx hb hsc.1 hsc.2.1 hsc.2.2 hS hin d (kk _ _ _ _ _ _ _ _ _ _ _ _ _ _ _ _ _ _ hX hE hD hl)
theorem ev_ldc {idx : Nat} (v : Int32) (d : decode (mC M) pc = .ok (.ldc idx, 2)) (hlw : Cond.constant (mY M).cls idx v ∈ Gw) (kk : Ev M po px k (pc + 2) L (.int v :: st) w) : Ev M po px k pc L st w := by
  intro p l e s m args below meth c dC dI dA as A Q H locs ls hX hE hD hl
  obtain ⟨hx, hb, hml, hown, hts, hst, hlk, htb, hK, hA, hG, hsc⟩ := id hX
  obtain ⟨hP, hDD, hS⟩ := id hD
  exact lv_ldc hx hb hown (hts _ hlw) d (kk _ _ _ _ _ _ _ _ _ _ _ _ _ _ _ _ _ _ hX hE hD hl)
theorem ev_ldc2 {idx : Nat} (v : Int64) (d : decode (mC M) pc = .ok (.ldc2_w idx, 3)) (hlw : Cond.constantLong (mY M).cls idx v ∈ Gw) (kk : Ev M po px k (pc + 3) L (.long v :: st) w) : Ev M po px k pc L st w := by
  intro p l e s m args below meth c dC dI dA as A Q H locs ls hX hE hD hl
  obtain ⟨hx, hb, hml, hown, hts, hst, hlk, htb, hK, hA, hG, hsc⟩ := id hX
  obtain ⟨hP, hDD, hS⟩ := id hD
  exact lv_ldc2 hx hb hown (hts _ hlw) d (kk _ _ _ _ _ _ _ _ _ _ _ _ _ _ _ _ _ _ hX hE hD hl)
theorem ev_ldc2d {idx : Nat} (v : UInt64) (d : decode (mC M) pc = .ok (.ldc2_w idx, 3)) (hlw : Cond.constantDouble (mY M).cls idx v ∈ Gw) (kk : Ev M po px k (pc + 3) L (.double v :: st) w) : Ev M po px k pc L st w := by
  intro p l e s m args below meth c dC dI dA as A Q H locs ls hX hE hD hl
  obtain ⟨hx, hb, hml, hown, hts, hst, hlk, htb, hK, hA, hG, hsc⟩ := id hX
  obtain ⟨hP, hDD, hS⟩ := id hD
  exact lv_ldc2d hx hb hown (hts _ hlw) d (kk _ _ _ _ _ _ _ _ _ _ _ _ _ _ _ _ _ _ hX hE hD hl)
end EV2
section CT
set_option maxHeartbeats 1000000 in
/-- a contract, out of a walk from the entry -/
theorem ct_of {M : MT} {args : List Value} {w : PW} {po : PO} {px : PX} (n : Nat) (hF : MF M n) (hh : mH M = []) (hl : (lg_sl args).length ≤ mN M) (hrt : ∀ v u, po v u → rtOK (mT M) v) (h : Ev M po px 0 0 (lv_args 0 args) [] w) : Ct M args w po px := by
  obtain ⟨f1, f2, f3, f4, f5, f6, f7, f8⟩ := hF
  intro l hst dC dI dA as sz
  have hW : hdW M = Cond.code (mY M) (mC M) (mN M) (mT M) := by unfold hdW; rw [if_pos hh]
  rw [hW]
  refine vx_ofW (cc := mC M) (maxL := mN M) (ret := mT M) f7 rfl ?_
  intro p e s m args' below meth c s₁ B hml hnt hv
  obtain ⟨rfl, hsz, hP, hK, hD0, hG⟩ := hv
  subst hsz
  have hts : ∀ w ∈ Gw, w.before _ s = true := fun w hw => atoms_spec (ws := Cond.code (mY M) (mC M) (mN M) (mT M) :: Gw) B.pre w (List.mem_cons_of_mem _ hw)
  have htab : c.exceptionTable.toList = tableOf (mH M) := by
    rw [hh]
    exact List.eq_nil_iff_forall_not_mem.mpr (fun x hx => hnt x hx)
  have hent := lv_entry (args.map (em as)) (n := mN M) (by rw [sl_len]; exact hl)
  rw [lg_entry_eq]
  generalize (lg_sl (args.map (em as)) ++ List.replicate (mN M - (lg_sl (args.map (em as))).length) Slot.unset).toArray = ls at hent ⊢
  rw [← emL_args] at hent
  refine h p l e s m _ below meth c dC dI dA as (va_A (emW as dA w) s.heap.size) _ s.heap [] ls ⟨B.exec, B.bytes, hml, findClass_of_methodNamed B.named, hts, hst, B.notSynchronized, htab, hK, fun q h => Or.inr h, hG, by rw [f8]; trivial⟩ ⟨?_, ?_⟩ ⟨hP, hD0.self, va_S.rf⟩ hent
  · intro H locs ls pc v u hpo hD hsz d
    have hok := hrt v u hpo
    have hq : ∀ t : State, t.heap = H → s.WarmedH t.vm → QCt po dC dI dA as w s.heap.size (args.map (em as)).toArray s (.returned (v.map (em as))) t := fun t ht _ => ⟨⟨v, u, rfl, hpo, by rw [ht]; exact hD.1, hD.2.1⟩, hD.2.2.F ht⟩
    have hf := hD.2.2.2.2
    have hlk := B.notSynchronized
    refine vx_ret ?_
    have hr := B.returns
    cases v with
    | none =>
      cases hT : mT M with
      | none => exact W.vret B.exec B.bytes (by rw [hr, hT]) hq hf d hlk
      | some ty => rw [hT] at hok; exact hok.elim
    | some v =>
      cases hT : mT M with
      | none => rw [hT] at hok; cases v <;> exact hok.elim
      | some ty =>
        rw [hT] at hok
        cases v with
        | int x => exact W.zret B.exec B.bytes (by rw [hr, hT]) hok hq hf d hlk
        | long x => exact W.lret B.exec B.bytes (by rw [hr, hT, show ty = .long from hok]) hq hf d hlk
        | double x => exact W.dret B.exec B.bytes (by rw [hr, hT, show ty = .double from hok]) hq hf d hlk
        | ref a =>
          obtain ⟨C, hC⟩ := hok
          exact W.aret (v := .ref (as a)) (rt := .object C) B.exec B.bytes (by rw [hr, hT, hC]) (Or.inl ⟨C, rfl⟩) (Or.inr ⟨_, rfl⟩) hq hf d hlk
        | float x => exact hok.elim
        | null => exact hok.elim
        | retAddr x => exact hok.elim
  · intro H locs ls pc st E ce q u hpx hD hout h1 h2 h3
    exact vx_out (by rw [htab]; exact hout) B.notSynchronized h1 h2 h3 (fun t ht _ => ⟨⟨u, hpx, by rw [ht]; exact hD.1, hD.2.1⟩, hD.2.2.F ht⟩) hD.2.2.2.2 (Nat.le_refl _) (Nat.le_refl _)
theorem gin_hd {M' : MT} (h : hdW M' ∈ Gw) : GoodIn Gw (hdW M' :: Gw) := fun w hw => by
  rcases List.mem_cons.mp hw with rfl | hw
  · exact ⟨h, good_of_word (Gw_good _ h)⟩
  · exact ⟨hw, good_of_word (Gw_good _ hw)⟩
theorem pct_blind (dC : Nat → ClassId) (dI : Nat → Nat → Nat) (dA : Nat → ClassId) (as : Nat → Nat) (w : PW) (sz : Nat) (av : List Value) : FrameBlind (va_Pc av (PCt dC dI dA as w sz)) := fun a U g mk h => by
  obtain ⟨h1, h2, h3, h4, h5, h6⟩ := h
  exact ⟨h1, h2, h3, va_K.moved (u := U) (U := U.calling g mk a) (Vm.Alike.refl U.vm) h4, h5, GX.warm (s := U) (U := U.calling g mk a) (State.WarmedH.refl U) h6⟩
theorem fA_of {as dA : Nat → Nat} {w : PW} {s : State} {A : Nat → Prop} {H : Heap} {locs : List Loc} (hD : va_D A (emW as dA w)) (hS : va_S A s.heap H locs) (hA : ∀ q, s.heap.size ≤ q → A q) : ∀ q, va_A (emW as dA w) H.size q → A q := by
  intro q h
  rcases h with ⟨k, e, h⟩ | h
  · exact hD.2 k (q, e) h
  · exact hA q (Nat.le_trans hS.1 h)
theorem pct_at {M : MT} {p : Program} {l : Launch} {s U : State} {m : MethodId} {args : Array Value} {meth : Method} {c : Code} {dC : Nat → ClassId} {dI : Nat → Nat → Nat} {dA : Nat → ClassId} {as : Nat → Nat} {A : Nat → Prop} {H : Heap} {locs : List Loc} {w : PW} (hX : Sx M p l s m args meth c dC dI dA as A) (hD : Dy M s dC dI dA as A H locs w) (hU : U.heap = H) (hW : s.WarmedH U.vm) : PCt dC dI dA as w H.size U := by
  obtain ⟨hx, hb, hml, hown, hts, hst, hlk, htb, hK, hA, hG, hsc⟩ := hX
  obtain ⟨hP, hDD, hS⟩ := hD
  subst hU
  exact ⟨rfl, hP, va_K.moved hW.alike hK, hDD.weaken (fun _ _ _ _ => trivial), ((hG.kept (fun a h1 h2 => hS.2.1 a h1 h2)).narrow (fA_of hDD hS hA)).warm hW⟩
/-- the run of a call -/
def Rn (M M' : MT) (k pc : Nat) (L : LV) (stk st : List Value) (w : PW) (po' : PO) (px' : PX) : Prop :=
  ∀ (p : Program) (l : Launch) (e : Env) (s : State) (m : MethodId) (args : Array Value) (below : List Frame) (meth : Method) (c : Code) (dC : Nat → ClassId) (dI : Nat → Nat → Nat) (dA : Nat → ClassId) (as : Nat → Nat) (A : Nat → Prop) (H : Heap) (locs : List Loc) (ls : Array Slot),
    Sx M p l s m args meth c dC dI dA as A → Dy M s dC dI dA as A H locs w → lv_has ls (mN M) (emL as L) →
    ∃ a, vx_Run p l e (mR M) s m args below meth c H locs k (6 * k) (mK M') (6 * mK M') (F0 m pc ls (stk.map (em as))) (st.map (em as)) (QCt po' dC dI dA as w H.size a) (XCt px' dC dI dA as w H.size) (va_A (emW as dA w) H.size)
variable {M M' : MT} {po po' : PO} {px px' : PX} {k pc : Nat} {L : LV} {stk st : List Value} {w : PW}
theorem ev_run (hr : Rn M M' k pc L stk st w po' px') (kk : ∀ v u, po' v u → Ev M po px (k + mK M') (pc + 3) L (v.toList ++ st) u) (kx : ∀ E u, px' E u → EvX M po px (k + mK M') pc L E u) : Ev M po px k pc L stk w := by
  intro p l e s m args below meth c dC dI dA as A Q H locs ls hX hE hD hl
  obtain ⟨a, hr⟩ := hr p l e s m args below meth c dC dI dA as A H locs ls hX hD hl
  obtain ⟨hx, hb, hml, hown, hts, hst, hlk, htb, hK, hA, hG, hsc⟩ := id hX
  obtain ⟨hP, hDD, hS⟩ := id hD
  have fA := fA_of hDD hS hA
  have e6 : 6 * k + 6 * mK M' = 6 * (k + mK M') := by omega
  intro T hT X
  rcases hr T hT X with ⟨v, st₀, t, T', Ls, h0, X', hL, e1, e2, ⟨⟨v0, u, hv, hpo, hP1, hD1⟩, hF⟩, stp⟩ | ⟨q, st₀, t, T', Ls, E, ce, h0, X', hL, e1, e2, ⟨⟨u, hpx, hP1, hD1⟩, hF⟩, hce, hcv, hcl, stp⟩
  · cases hv
    rw [e6] at X'
    obtain ⟨k1, k2, k3⟩ := vx_keep h0 e1 hS (fun q _ h => fA q h) fA hL hF
    obtain ⟨t2, a1, b1⟩ := kk v0 u hpo p l e s m args below meth c dC dI dA as A Q T'.heap (locs ++ Ls) ls hX hE ⟨by rw [e1]; exact hP1, hD1.weaken (fun _ _ _ h => fA _ h), k3⟩ hl T' rfl X'
    refine ⟨t2, stp t2 ?_, b1⟩
    cases v0 <;> exact a1
  · rw [e6] at X'
    obtain ⟨k1, k2, k3⟩ := vx_keep h0 e1 hS (fun q _ h => fA q h) fA hL hF
    obtain ⟨t2, a1, b1⟩ := kx E u hpx p l e s m args below meth c dC dI dA as A Q T'.heap (locs ++ Ls) ls hX hE ⟨by rw [e1]; exact hP1, hD1.weaken (fun _ _ _ h => fA _ h), k3⟩ hl (st.map (em as)) ce q (by rw [e1]; exact hce) hcv hcl T' rfl X'
    exact ⟨t2, stp.trans a1, b1⟩
/-- there is room for a call -/
def RF (M M' : MT) (k : Nat) : Prop := (mR M').frames + 1 ≤ (mR M).frames ∧ 8 + (mN M' + 11) + (mR M').locals ≤ (mR M).locals ∧ k + mK M' ≤ (mR M).cells ∧ 6 * (k + mK M') ≤ (mR M).slots
theorem cat_map (as : Nat → Nat) (st : List Value) : ((st.map (em as)).map fun v => v.category) = st.map fun v => v.category := by simp [em_cat]
theorem rn_V {n idx b ci : Nat} {As fs : List Value} (hc : Ct M' (.ref b :: As) w po' px') (hF : MF M' n) (hI : MI M') (hh : mH M' = []) (hlw : Cond.methodLink (mY M).cls idx (mY M') ∈ Gw) (hR : RF M M' k) (hn : As.length = n) (hw : w[b]? = some (.inr (ci, fs))) (hci : (vwC8[ci]?).map (fun q => q.1) = some (mY M').cls) (hs : (st.map fun v => v.category).sum ≤ 8) (d : decode (mC M) pc = .ok (.invokevirtual idx, 3)) : Rn M M' k pc L (As.reverse ++ .ref b :: st) st w po' px' := by
  intro p l e s m args below meth c dC dI dA as A H locs ls hX hD hl
  obtain ⟨hx, hb, hml, hown, hts, hst, hlk, htb, hK, hA, hG, hsc⟩ := id hX
  obtain ⟨hP, hDD, hS⟩ := id hD
  obtain ⟨f1, f2, f3, f4, f5, f6, f7, f8⟩ := hF
  obtain ⟨r1, r2, r3, r4⟩ := hR
  have hW : hdW M' = Cond.code (mY M') (mC M') (mN M') (mT M') := by unfold hdW; rw [if_pos hh]
  obtain ⟨q, hq, hq1⟩ : ∃ q, vwC8[ci]? = some q ∧ q.1 = (mY M').cls := by
    cases hq : vwC8[ci]? with
    | none => rw [hq] at hci; cases hci
    | some q => rw [hq] at hci; exact ⟨q, rfl, Option.some.inj hci⟩
  obtain ⟨j, hj, -⟩ := emW_at as dA hw (isH_of hq)
  have hrec := va_recv hK hP hq hj
  rw [hq1] at hrec
  refine ⟨_, vx_runV (C := (mY M').cls) (b := as b) (As := As.map (em as)) (n := n) ⟨hx, hb, hml, hown, hts⟩ (hc l hst dC dI dA as H.size) ⟨callB_of n hts (gin_hd f1) (by rw [hW]) f5 f6 (hts _ f2) (hts _ hlw) ⟨f3.1, f3.2, f4⟩ ⟨r1, r2⟩, hts _ hI.1, hts _ hI.2⟩ ⟨pct_blind _ _ _ _ _ _ _, hrec, fun U hU hWm => ⟨rfl, pct_at hX hD hU hWm⟩⟩ rfl (by simpa using hn) hl.1 (by simp [em]) (lv_room (by rw [cat_map]; exact hs)) d ⟨r3, by omega⟩⟩
theorem rn_S {n idx : Nat} {As : List Value} (hc : Ct M' As w po' px') (hF : MF M' n) (hI : MS9 M') (hh : mH M' = []) (hlw : Cond.methodLink (mY M).cls idx (mY M') ∈ Gw) (hR : RF M M' k) (hn : As.length = n) (hs : (st.map fun v => v.category).sum ≤ 8) (d : decode (mC M) pc = .ok (.invokestatic idx, 3)) : Rn M M' k pc L (As.reverse ++ st) st w po' px' := by
  intro p l e s m args below meth c dC dI dA as A H locs ls hX hD hl
  obtain ⟨hx, hb, hml, hown, hts, hst, hlk, htb, hK, hA, hG, hsc⟩ := id hX
  obtain ⟨f1, f2, f3, f4, f5, f6, f7, f8⟩ := hF
  obtain ⟨r1, r2, r3, r4⟩ := hR
  have hW : hdW M' = Cond.code (mY M') (mC M') (mN M') (mT M') := by unfold hdW; rw [if_pos hh]
  exact ⟨_, vx_runS (As := As.map (em as)) (n := n) ⟨hx, hb, hml, hown, hts⟩ (hc l hst dC dI dA as H.size) ⟨callB_of n hts (gin_hd f1) (by rw [hW]) f5 f6 (hts _ f2) (hts _ hlw) ⟨f3.1, f3.2, f4⟩ ⟨r1, r2⟩, hts _ hI⟩ ⟨pct_blind _ _ _ _ _ _ _, fun U hU hWm => ⟨rfl, pct_at hX hD hU hWm⟩⟩ rfl (by simpa using hn) hl.1 (by simp [em]) (lv_room (by rw [cat_map]; exact hs)) d ⟨r3, by omega⟩⟩
/-- a static method of a nest mate -/
theorem rn_N {n idx : Nat} {host : String} {As : List Value} (hc : Ct M' As w po' px') (hF : MF M' n) (hI : MS9 M') (hh : mH M' = []) (hnw : ∀ as A U H, GX as A U H → va_Nw (.methodLinkNest (mY M).cls idx (mY M') host) U) (hR : RF M M' k) (hn : As.length = n) (hs : (st.map fun v => v.category).sum ≤ 8) (d : decode (mC M) pc = .ok (.invokestatic idx, 3)) : Rn M M' k pc L (As.reverse ++ st) st w po' px' := by
  intro p l e s m args below meth c dC dI dA as A H locs ls hX hD hl
  obtain ⟨hx, hb, hml, hown, hts, hst, hlk, htb, hK, hA, hG, hsc⟩ := id hX
  obtain ⟨f1, f2, f3, f4, f5, f6, f7, f8⟩ := hF
  obtain ⟨r1, r2, r3, r4⟩ := hR
  have hW : hdW M' = Cond.code (mY M') (mC M') (mN M') (mT M') := by unfold hdW; rw [if_pos hh]
  exact ⟨_, vx_runSN (As := As.map (em as)) (n := n) (host := host) ⟨hx, hb, hml, hown, hts⟩ (hc l hst dC dI dA as H.size) ⟨va_cnB n hts (gin_hd f1) (by rw [hW]) f5 f6 (hnw _ _ _ _ hG) (hts _ f2) ⟨f3.1, f3.2, f4⟩ ⟨r1, r2⟩, hts _ hI, trivial⟩ ⟨pct_blind _ _ _ _ _ _ _, fun U hU hWm => ⟨rfl, pct_at hX hD hU hWm⟩⟩ rfl (by simpa using hn) hl.1 (by simp [em]) (lv_room (by rw [cat_map]; exact hs)) d ⟨r3, by omega⟩⟩
end CT
/-- what a call needs of its method, in one word -/
def MKV (M' : MT) (n : Nat) : Prop := MF M' n ∧ MI M' ∧ mH M' = []
def MKS (M' : MT) (n : Nat) : Prop := MF M' n ∧ MS9 M' ∧ mH M' = []
def rfB (M M' : MT) (k : Nat) : Bool := Nat.ble ((mR M').frames + 1) (mR M).frames && (Nat.ble (8 + (mN M' + 11) + (mR M').locals) (mR M).locals && (Nat.ble (k + mK M') (mR M).cells && Nat.ble (6 * (k + mK M')) (mR M).slots))
theorem rf_of {M M' : MT} {k : Nat} (h : rfB M M' k = true) : RF M M' k := by
  simp only [rfB, Bool.and_eq_true, Nat.ble_eq] at h
  exact h
def stB (st : List Value) : Bool := Nat.ble (st.map fun v => v.category).sum 8
/-- one answer, one world; no throw -/
abbrev d1 (r : Option Value) (u : PW) : PO := fun v u' => v = r ∧ u' = u
abbrev nx : PX := fun _ _ => False
section CALLS
variable {M M' : MT} {po : PO} {px : PX} {k pc : Nat} {L : LV} {st : List Value} {w u : PW} {idx b ci : Nat} {fs : List Value}
theorem ev_cV0 {r : Value} (hc : Ct M' [.ref b] w (d1 (some r) u) nx) (hM : MKV M' 0) (hz : mK M' = 0) (hlw : Cond.methodLink (mY M).cls idx (mY M') ∈ Gw) (hR : rfB M M' k = true) (hw : w[b]? = some (.inr (ci, fs))) (hci : (vwC8[ci]?).map (fun q => q.1) = some (mY M').cls) (hs : stB st = true) (d : decode (mC M) pc = .ok (.invokevirtual idx, 3)) (kk : Ev M po px k (pc + 3) L (r :: st) u) : Ev M po px k pc L (.ref b :: st) w := by
  refine ev_run (rn_V (As := []) hc hM.1 hM.2.1 hM.2.2 hlw (rf_of hR) rfl hw hci (Nat.le_of_ble_eq_true hs) d) (fun v u' h => ?_) (fun _ _ h => h.elim)
  obtain ⟨rfl, rfl⟩ := h
  rw [hz]
  exact kk
theorem ev_cV0v (hc : Ct M' [.ref b] w (d1 (none) u) nx) (hM : MKV M' 0) (hz : mK M' = 0) (hlw : Cond.methodLink (mY M).cls idx (mY M') ∈ Gw) (hR : rfB M M' k = true) (hw : w[b]? = some (.inr (ci, fs))) (hci : (vwC8[ci]?).map (fun q => q.1) = some (mY M').cls) (hs : stB st = true) (d : decode (mC M) pc = .ok (.invokevirtual idx, 3)) (kk : Ev M po px k (pc + 3) L (st) u) : Ev M po px k pc L (.ref b :: st) w := by
  refine ev_run (rn_V (As := []) hc hM.1 hM.2.1 hM.2.2 hlw (rf_of hR) rfl hw hci (Nat.le_of_ble_eq_true hs) d) (fun v u' h => ?_) (fun _ _ h => h.elim)
  obtain ⟨rfl, rfl⟩ := h
  rw [hz]
  exact kk
theorem ev_cS0 {r : Value} (hc : Ct M' [] w (d1 (some r) u) nx) (hM : MKS M' 0) (hz : mK M' = 0) (hlw : Cond.methodLink (mY M).cls idx (mY M') ∈ Gw) (hR : rfB M M' k = true) (hs : stB st = true) (d : decode (mC M) pc = .ok (.invokestatic idx, 3)) (kk : Ev M po px k (pc + 3) L (r :: st) u) : Ev M po px k pc L (st) w := by
  refine ev_run (rn_S (As := []) hc hM.1 hM.2.1 hM.2.2 hlw (rf_of hR) rfl (Nat.le_of_ble_eq_true hs) d) (fun v u' h => ?_) (fun _ _ h => h.elim)
  obtain ⟨rfl, rfl⟩ := h
  rw [hz]
  exact kk
theorem ev_cN0 {host : String} {r : Value} (hc : Ct M' [] w (d1 (some r) u) nx) (hM : MKS M' 0) (hz : mK M' = 0) (hnw : ∀ as A U H, GX as A U H → va_Nw (.methodLinkNest (mY M).cls idx (mY M') host) U) (hR : rfB M M' k = true) (hs : stB st = true) (d : decode (mC M) pc = .ok (.invokestatic idx, 3)) (kk : Ev M po px k (pc + 3) L (r :: st) u) : Ev M po px k pc L (st) w := by
  refine ev_run (rn_N (As := []) hc hM.1 hM.2.1 hM.2.2 hnw (rf_of hR) rfl (Nat.le_of_ble_eq_true hs) d) (fun v u' h => ?_) (fun _ _ h => h.elim)
  obtain ⟨rfl, rfl⟩ := h
  rw [hz]
  exact kk
theorem ev_cV1 {x1 : Value} {r : Value} (hc : Ct M' [.ref b, x1] w (d1 (some r) u) nx) (hM : MKV M' 1) (hz : mK M' = 0) (hlw : Cond.methodLink (mY M).cls idx (mY M') ∈ Gw) (hR : rfB M M' k = true) (hw : w[b]? = some (.inr (ci, fs))) (hci : (vwC8[ci]?).map (fun q => q.1) = some (mY M').cls) (hs : stB st = true) (d : decode (mC M) pc = .ok (.invokevirtual idx, 3)) (kk : Ev M po px k (pc + 3) L (r :: st) u) : Ev M po px k pc L (x1 :: .ref b :: st) w := by
  refine ev_run (rn_V (As := [x1]) hc hM.1 hM.2.1 hM.2.2 hlw (rf_of hR) rfl hw hci (Nat.le_of_ble_eq_true hs) d) (fun v u' h => ?_) (fun _ _ h => h.elim)
  obtain ⟨rfl, rfl⟩ := h
  rw [hz]
  exact kk
theorem ev_cV1v {x1 : Value} (hc : Ct M' [.ref b, x1] w (d1 (none) u) nx) (hM : MKV M' 1) (hz : mK M' = 0) (hlw : Cond.methodLink (mY M).cls idx (mY M') ∈ Gw) (hR : rfB M M' k = true) (hw : w[b]? = some (.inr (ci, fs))) (hci : (vwC8[ci]?).map (fun q => q.1) = some (mY M').cls) (hs : stB st = true) (d : decode (mC M) pc = .ok (.invokevirtual idx, 3)) (kk : Ev M po px k (pc + 3) L (st) u) : Ev M po px k pc L (x1 :: .ref b :: st) w := by
  refine ev_run (rn_V (As := [x1]) hc hM.1 hM.2.1 hM.2.2 hlw (rf_of hR) rfl hw hci (Nat.le_of_ble_eq_true hs) d) (fun v u' h => ?_) (fun _ _ h => h.elim)
  obtain ⟨rfl, rfl⟩ := h
  rw [hz]
  exact kk
theorem ev_cS1 {x1 : Value} {r : Value} (hc : Ct M' [x1] w (d1 (some r) u) nx) (hM : MKS M' 1) (hz : mK M' = 0) (hlw : Cond.methodLink (mY M).cls idx (mY M') ∈ Gw) (hR : rfB M M' k = true) (hs : stB st = true) (d : decode (mC M) pc = .ok (.invokestatic idx, 3)) (kk : Ev M po px k (pc + 3) L (r :: st) u) : Ev M po px k pc L (x1 :: st) w := by
  refine ev_run (rn_S (As := [x1]) hc hM.1 hM.2.1 hM.2.2 hlw (rf_of hR) rfl (Nat.le_of_ble_eq_true hs) d) (fun v u' h => ?_) (fun _ _ h => h.elim)
  obtain ⟨rfl, rfl⟩ := h
  rw [hz]
  exact kk
theorem ev_cN1 {host : String} {x1 : Value} {r : Value} (hc : Ct M' [x1] w (d1 (some r) u) nx) (hM : MKS M' 1) (hz : mK M' = 0) (hnw : ∀ as A U H, GX as A U H → va_Nw (.methodLinkNest (mY M).cls idx (mY M') host) U) (hR : rfB M M' k = true) (hs : stB st = true) (d : decode (mC M) pc = .ok (.invokestatic idx, 3)) (kk : Ev M po px k (pc + 3) L (r :: st) u) : Ev M po px k pc L (x1 :: st) w := by
  refine ev_run (rn_N (As := [x1]) hc hM.1 hM.2.1 hM.2.2 hnw (rf_of hR) rfl (Nat.le_of_ble_eq_true hs) d) (fun v u' h => ?_) (fun _ _ h => h.elim)
  obtain ⟨rfl, rfl⟩ := h
  rw [hz]
  exact kk
theorem ev_cV2 {x1 x2 : Value} {r : Value} (hc : Ct M' [.ref b, x1, x2] w (d1 (some r) u) nx) (hM : MKV M' 2) (hz : mK M' = 0) (hlw : Cond.methodLink (mY M).cls idx (mY M') ∈ Gw) (hR : rfB M M' k = true) (hw : w[b]? = some (.inr (ci, fs))) (hci : (vwC8[ci]?).map (fun q => q.1) = some (mY M').cls) (hs : stB st = true) (d : decode (mC M) pc = .ok (.invokevirtual idx, 3)) (kk : Ev M po px k (pc + 3) L (r :: st) u) : Ev M po px k pc L (x2 :: x1 :: .ref b :: st) w := by
  refine ev_run (rn_V (As := [x1, x2]) hc hM.1 hM.2.1 hM.2.2 hlw (rf_of hR) rfl hw hci (Nat.le_of_ble_eq_true hs) d) (fun v u' h => ?_) (fun _ _ h => h.elim)
  obtain ⟨rfl, rfl⟩ := h
  rw [hz]
  exact kk
theorem ev_cV2v {x1 x2 : Value} (hc : Ct M' [.ref b, x1, x2] w (d1 (none) u) nx) (hM : MKV M' 2) (hz : mK M' = 0) (hlw : Cond.methodLink (mY M).cls idx (mY M') ∈ Gw) (hR : rfB M M' k = true) (hw : w[b]? = some (.inr (ci, fs))) (hci : (vwC8[ci]?).map (fun q => q.1) = some (mY M').cls) (hs : stB st = true) (d : decode (mC M) pc = .ok (.invokevirtual idx, 3)) (kk : Ev M po px k (pc + 3) L (st) u) : Ev M po px k pc L (x2 :: x1 :: .ref b :: st) w := by
  refine ev_run (rn_V (As := [x1, x2]) hc hM.1 hM.2.1 hM.2.2 hlw (rf_of hR) rfl hw hci (Nat.le_of_ble_eq_true hs) d) (fun v u' h => ?_) (fun _ _ h => h.elim)
  obtain ⟨rfl, rfl⟩ := h
  rw [hz]
  exact kk
theorem ev_cS2 {x1 x2 : Value} {r : Value} (hc : Ct M' [x1, x2] w (d1 (some r) u) nx) (hM : MKS M' 2) (hz : mK M' = 0) (hlw : Cond.methodLink (mY M).cls idx (mY M') ∈ Gw) (hR : rfB M M' k = true) (hs : stB st = true) (d : decode (mC M) pc = .ok (.invokestatic idx, 3)) (kk : Ev M po px k (pc + 3) L (r :: st) u) : Ev M po px k pc L (x2 :: x1 :: st) w := by
  refine ev_run (rn_S (As := [x1, x2]) hc hM.1 hM.2.1 hM.2.2 hlw (rf_of hR) rfl (Nat.le_of_ble_eq_true hs) d) (fun v u' h => ?_) (fun _ _ h => h.elim)
  obtain ⟨rfl, rfl⟩ := h
  rw [hz]
  exact kk
theorem ev_cN2 {host : String} {x1 x2 : Value} {r : Value} (hc : Ct M' [x1, x2] w (d1 (some r) u) nx) (hM : MKS M' 2) (hz : mK M' = 0) (hnw : ∀ as A U H, GX as A U H → va_Nw (.methodLinkNest (mY M).cls idx (mY M') host) U) (hR : rfB M M' k = true) (hs : stB st = true) (d : decode (mC M) pc = .ok (.invokestatic idx, 3)) (kk : Ev M po px k (pc + 3) L (r :: st) u) : Ev M po px k pc L (x2 :: x1 :: st) w := by
  refine ev_run (rn_N (As := [x1, x2]) hc hM.1 hM.2.1 hM.2.2 hnw (rf_of hR) rfl (Nat.le_of_ble_eq_true hs) d) (fun v u' h => ?_) (fun _ _ h => h.elim)
  obtain ⟨rfl, rfl⟩ := h
  rw [hz]
  exact kk
theorem ev_cV3 {x1 x2 x3 : Value} {r : Value} (hc : Ct M' [.ref b, x1, x2, x3] w (d1 (some r) u) nx) (hM : MKV M' 3) (hz : mK M' = 0) (hlw : Cond.methodLink (mY M).cls idx (mY M') ∈ Gw) (hR : rfB M M' k = true) (hw : w[b]? = some (.inr (ci, fs))) (hci : (vwC8[ci]?).map (fun q => q.1) = some (mY M').cls) (hs : stB st = true) (d : decode (mC M) pc = .ok (.invokevirtual idx, 3)) (kk : Ev M po px k (pc + 3) L (r :: st) u) : Ev M po px k pc L (x3 :: x2 :: x1 :: .ref b :: st) w := by
  refine ev_run (rn_V (As := [x1, x2, x3]) hc hM.1 hM.2.1 hM.2.2 hlw (rf_of hR) rfl hw hci (Nat.le_of_ble_eq_true hs) d) (fun v u' h => ?_) (fun _ _ h => h.elim)
  obtain ⟨rfl, rfl⟩ := h
  rw [hz]
  exact kk
theorem ev_cV3v {x1 x2 x3 : Value} (hc : Ct M' [.ref b, x1, x2, x3] w (d1 (none) u) nx) (hM : MKV M' 3) (hz : mK M' = 0) (hlw : Cond.methodLink (mY M).cls idx (mY M') ∈ Gw) (hR : rfB M M' k = true) (hw : w[b]? = some (.inr (ci, fs))) (hci : (vwC8[ci]?).map (fun q => q.1) = some (mY M').cls) (hs : stB st = true) (d : decode (mC M) pc = .ok (.invokevirtual idx, 3)) (kk : Ev M po px k (pc + 3) L (st) u) : Ev M po px k pc L (x3 :: x2 :: x1 :: .ref b :: st) w := by
  refine ev_run (rn_V (As := [x1, x2, x3]) hc hM.1 hM.2.1 hM.2.2 hlw (rf_of hR) rfl hw hci (Nat.le_of_ble_eq_true hs) d) (fun v u' h => ?_) (fun _ _ h => h.elim)
  obtain ⟨rfl, rfl⟩ := h
  rw [hz]
  exact kk
theorem ev_cS3 {x1 x2 x3 : Value} {r : Value} (hc : Ct M' [x1, x2, x3] w (d1 (some r) u) nx) (hM : MKS M' 3) (hz : mK M' = 0) (hlw : Cond.methodLink (mY M).cls idx (mY M') ∈ Gw) (hR : rfB M M' k = true) (hs : stB st = true) (d : decode (mC M) pc = .ok (.invokestatic idx, 3)) (kk : Ev M po px k (pc + 3) L (r :: st) u) : Ev M po px k pc L (x3 :: x2 :: x1 :: st) w := by
  refine ev_run (rn_S (As := [x1, x2, x3]) hc hM.1 hM.2.1 hM.2.2 hlw (rf_of hR) rfl (Nat.le_of_ble_eq_true hs) d) (fun v u' h => ?_) (fun _ _ h => h.elim)
  obtain ⟨rfl, rfl⟩ := h
  rw [hz]
  exact kk
theorem ev_cN3 {host : String} {x1 x2 x3 : Value} {r : Value} (hc : Ct M' [x1, x2, x3] w (d1 (some r) u) nx) (hM : MKS M' 3) (hz : mK M' = 0) (hnw : ∀ as A U H, GX as A U H → va_Nw (.methodLinkNest (mY M).cls idx (mY M') host) U) (hR : rfB M M' k = true) (hs : stB st = true) (d : decode (mC M) pc = .ok (.invokestatic idx, 3)) (kk : Ev M po px k (pc + 3) L (r :: st) u) : Ev M po px k pc L (x3 :: x2 :: x1 :: st) w := by
  refine ev_run (rn_N (As := [x1, x2, x3]) hc hM.1 hM.2.1 hM.2.2 hnw (rf_of hR) rfl (Nat.le_of_ble_eq_true hs) d) (fun v u' h => ?_) (fun _ _ h => h.elim)
  obtain ⟨rfl, rfl⟩ := h
  rw [hz]
  exact kk
theorem ev_cV4 {x1 x2 x3 x4 : Value} {r : Value} (hc : Ct M' [.ref b, x1, x2, x3, x4] w (d1 (some r) u) nx) (hM : MKV M' 4) (hz : mK M' = 0) (hlw : Cond.methodLink (mY M).cls idx (mY M') ∈ Gw) (hR : rfB M M' k = true) (hw : w[b]? = some (.inr (ci, fs))) (hci : (vwC8[ci]?).map (fun q => q.1) = some (mY M').cls) (hs : stB st = true) (d : decode (mC M) pc = .ok (.invokevirtual idx, 3)) (kk : Ev M po px k (pc + 3) L (r :: st) u) : Ev M po px k pc L (x4 :: x3 :: x2 :: x1 :: .ref b :: st) w := by
  refine ev_run (rn_V (As := [x1, x2, x3, x4]) hc hM.1 hM.2.1 hM.2.2 hlw (rf_of hR) rfl hw hci (Nat.le_of_ble_eq_true hs) d) (fun v u' h => ?_) (fun _ _ h => h.elim)
  obtain ⟨rfl, rfl⟩ := h
  rw [hz]
  exact kk
theorem ev_cV4v {x1 x2 x3 x4 : Value} (hc : Ct M' [.ref b, x1, x2, x3, x4] w (d1 (none) u) nx) (hM : MKV M' 4) (hz : mK M' = 0) (hlw : Cond.methodLink (mY M).cls idx (mY M') ∈ Gw) (hR : rfB M M' k = true) (hw : w[b]? = some (.inr (ci, fs))) (hci : (vwC8[ci]?).map (fun q => q.1) = some (mY M').cls) (hs : stB st = true) (d : decode (mC M) pc = .ok (.invokevirtual idx, 3)) (kk : Ev M po px k (pc + 3) L (st) u) : Ev M po px k pc L (x4 :: x3 :: x2 :: x1 :: .ref b :: st) w := by
  refine ev_run (rn_V (As := [x1, x2, x3, x4]) hc hM.1 hM.2.1 hM.2.2 hlw (rf_of hR) rfl hw hci (Nat.le_of_ble_eq_true hs) d) (fun v u' h => ?_) (fun _ _ h => h.elim)
  obtain ⟨rfl, rfl⟩ := h
  rw [hz]
  exact kk
theorem ev_cS4 {x1 x2 x3 x4 : Value} {r : Value} (hc : Ct M' [x1, x2, x3, x4] w (d1 (some r) u) nx) (hM : MKS M' 4) (hz : mK M' = 0) (hlw : Cond.methodLink (mY M).cls idx (mY M') ∈ Gw) (hR : rfB M M' k = true) (hs : stB st = true) (d : decode (mC M) pc = .ok (.invokestatic idx, 3)) (kk : Ev M po px k (pc + 3) L (r :: st) u) : Ev M po px k pc L (x4 :: x3 :: x2 :: x1 :: st) w := by
  refine ev_run (rn_S (As := [x1, x2, x3, x4]) hc hM.1 hM.2.1 hM.2.2 hlw (rf_of hR) rfl (Nat.le_of_ble_eq_true hs) d) (fun v u' h => ?_) (fun _ _ h => h.elim)
  obtain ⟨rfl, rfl⟩ := h
  rw [hz]
  exact kk
theorem ev_cN4 {host : String} {x1 x2 x3 x4 : Value} {r : Value} (hc : Ct M' [x1, x2, x3, x4] w (d1 (some r) u) nx) (hM : MKS M' 4) (hz : mK M' = 0) (hnw : ∀ as A U H, GX as A U H → va_Nw (.methodLinkNest (mY M).cls idx (mY M') host) U) (hR : rfB M M' k = true) (hs : stB st = true) (d : decode (mC M) pc = .ok (.invokestatic idx, 3)) (kk : Ev M po px k (pc + 3) L (r :: st) u) : Ev M po px k pc L (x4 :: x3 :: x2 :: x1 :: st) w := by
  refine ev_run (rn_N (As := [x1, x2, x3, x4]) hc hM.1 hM.2.1 hM.2.2 hnw (rf_of hR) rfl (Nat.le_of_ble_eq_true hs) d) (fun v u' h => ?_) (fun _ _ h => h.elim)
  obtain ⟨rfl, rfl⟩ := h
  rw [hz]
  exact kk
end CALLS
