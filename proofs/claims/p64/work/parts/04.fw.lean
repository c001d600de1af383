/-! ===== THE WALK, SAID PURELY: places instead of addresses, a world that is a list of cells, Ev: 'from here on the method ends as po, px say' ===== -/
abbrev PW : Type := List va_E
abbrev LV : Type := List (Nat × Value)
abbrev PO : Type := Option Value → PW → Prop
abbrev PX : Type := String → PW → Prop
/-- a method: name, answer, code, locals, room, table, cells (exceptions) at most, script -/
abbrev MT : Type := MethodName × Option FieldType × ByteArray × Nat × Room × List (Nat × Nat × Nat × Nat) × Nat × Option (Nat × (Nat → Int32))
abbrev mY (M : MT) : MethodName := M.1
abbrev mT (M : MT) : Option FieldType := M.2.1
abbrev mC (M : MT) : ByteArray := M.2.2.1
abbrev mN (M : MT) : Nat := M.2.2.2.1
abbrev mR (M : MT) : Room := M.2.2.2.2.1
abbrev mH (M : MT) : List (Nat × Nat × Nat × Nat) := M.2.2.2.2.2.1
abbrev mK (M : MT) : Nat := M.2.2.2.2.2.2.1
abbrev mS (M : MT) : Option (Nat × (Nat → Int32)) := M.2.2.2.2.2.2.2
def em (as : Nat → Nat) : Value → Value
  | .ref k => .ref (as k)
  | .int x => .int x
  | .long x => .long x
  | .float x => .float x
  | .double x => .double x
  | .null => .null
  | .retAddr n => .retAddr n
theorem em_cat (as : Nat → Nat) (v : Value) : (em as v).category = v.category := by cases v <;> rfl
def emA (as : Nat → Nat) : vp_A → vp_A
  | (n, .inr (.inr (.inr (.inr f)))) => (n, .inr (.inr (.inr (.inr (fun k => (f k).map as)))))
  | (n, .inl f) => (n, .inl f)
  | (n, .inr (.inl f)) => (n, .inr (.inl f))
  | (n, .inr (.inr (.inl f))) => (n, .inr (.inr (.inl f)))
  | (n, .inr (.inr (.inr (.inl f)))) => (n, .inr (.inr (.inr (.inl f))))
def emE (as dA : Nat → Nat) : va_E → va_E
  | .inl (t, a) => .inl (dA t, emA as a)
  | .inr (c, fs) => .inr (c, fs.map (em as))
/-- a hole: a place of the world that holds nothing -/
def isH : va_E → Bool
  | .inr (c, _) => Nat.beq c 999
  | .inl _ => false
def emF (as dA : Nat → Nat) : Nat → PW → va_W
  | _, [] => []
  | n, e :: w => match isH e with
    | true => emF as dA (n + 1) w
    | false => (as n, emE as dA e) :: emF as dA (n + 1) w
def emW (as dA : Nat → Nat) (w : PW) : va_W := emF as dA 0 w
theorem emF_f (as dA : Nat → Nat) (n : Nat) {e : va_E} (w : PW) (h : isH e = false) : emF as dA n (e :: w) = (as n, emE as dA e) :: emF as dA (n + 1) w := by
  rw [emF, h]
theorem emF_t (as dA : Nat → Nat) (n : Nat) {e : va_E} (w : PW) (h : isH e = true) : emF as dA n (e :: w) = emF as dA (n + 1) w := by
  rw [emF, h]
theorem emF_at (as dA : Nat → Nat) {e : va_E} (he : isH e = false) : ∀ (w : PW) (n k : Nat), w[k]? = some e → ∃ j, (emF as dA n w)[j]? = some (as (n + k), emE as dA e) ∧ ∀ e', isH e' = false → (emF as dA n w).set j (as (n + k), emE as dA e') = emF as dA n (w.set k e')
  | [], n, k, h => by simp at h
  | a :: w, n, 0, h => by
    have ha : a = e := by simpa using h
    subst ha
    refine ⟨0, by rw [emF_f as dA n w he]; rfl, fun e' he' => ?_⟩
    rw [emF_f as dA n w he, List.set_cons_zero, List.set_cons_zero, emF_f as dA n w he']
    rfl
  | a :: w, n, k + 1, h => by
    obtain ⟨j, h1, h2⟩ := emF_at as dA he w (n + 1) k (by simpa using h)
    have e1 : n + 1 + k = n + (k + 1) := by omega
    rw [e1] at h1 h2
    cases ha : isH a with
    | false =>
      refine ⟨j + 1, by rw [emF_f as dA n w ha, List.getElem?_cons_succ]; exact h1, fun e' he' => ?_⟩
      rw [emF_f as dA n w ha, List.set_cons_succ, List.set_cons_succ, emF_f as dA n _ ha, h2 e' he']
    | true =>
      refine ⟨j, by rw [emF_t as dA n w ha]; exact h1, fun e' he' => ?_⟩
      rw [emF_t as dA n w ha, List.set_cons_succ, emF_t as dA n _ ha, h2 e' he']
theorem emW_at (as dA : Nat → Nat) {w : PW} {k : Nat} {e : va_E} (h : w[k]? = some e) (he : isH e = false) : ∃ j, (emW as dA w)[j]? = some (as k, emE as dA e) ∧ ∀ e', isH e' = false → (emW as dA w).set j (as k, emE as dA e') = emW as dA (w.set k e') := by
  obtain ⟨j, h1, h2⟩ := emF_at as dA he w 0 k h
  rw [Nat.zero_add] at h1 h2
  exact ⟨j, h1, h2⟩
/-- the index in the heap's list of a place -/
def nH : PW → Nat → Nat
  | [], k => k
  | _ :: _, 0 => 0
  | a :: w, k + 1 => match isH a with
    | true => nH w k
    | false => nH w k + 1
/-- what lies in the heap's list, by its place -/
theorem emF_inv (as dA : Nat → Nat) : ∀ (w : PW) (n j : Nat) (x : Nat × va_E), (emF as dA n w)[j]? = some x → ∃ k e, w[k]? = some e ∧ isH e = false ∧ x = (as (n + k), emE as dA e) ∧ j = nH w k
  | [], n, j, x, h => by simp [emF] at h
  | a :: w, n, j, x, h => by
    cases ha : isH a with
    | false =>
      rw [emF_f as dA n w ha] at h
      match j, h with
      | 0, h => exact ⟨0, a, rfl, ha, by simpa using h.symm, by rw [nH]⟩
      | j + 1, h =>
        obtain ⟨k, e, h1, h2, h3, h4⟩ := emF_inv as dA w (n + 1) j x (by simpa using h)
        exact ⟨k + 1, e, by simpa using h1, h2, by rw [h3, show n + 1 + k = n + (k + 1) by omega], by rw [nH, ha, h4]⟩
    | true =>
      rw [emF_t as dA n w ha] at h
      obtain ⟨k, e, h1, h2, h3, h4⟩ := emF_inv as dA w (n + 1) j x h
      exact ⟨k + 1, e, by simpa using h1, h2, by rw [h3, show n + 1 + k = n + (k + 1) by omega], by rw [nH, ha, h4]⟩
theorem emW_inv {as dA : Nat → Nat} {w : PW} {j : Nat} {x : Nat × va_E} (h : (emW as dA w)[j]? = some x) : ∃ k e, w[k]? = some e ∧ isH e = false ∧ x = (as k, emE as dA e) ∧ j = nH w k := by
  obtain ⟨k, e, h1, h2, h3, h4⟩ := emF_inv as dA w 0 j x h
  exact ⟨k, e, h1, h2, by rw [h3, Nat.zero_add], h4⟩
def emL (as : Nat → Nat) (L : LV) : LV := L.map (fun q => (q.1, em as q.2))
/-- the locals behind a store -/
def ls1 (L : LV) (i : Nat) (v : Value) : LV := (i, v) :: L.filter (fun q => !(q.1 == i) && !(q.1 + 1 == i && q.2.category == 2))
def ls2 (L : LV) (i : Nat) (v : Value) : LV := (i, v) :: L.filter (fun q => !(q.1 == i) && (!(q.1 == i + 1) && !(q.1 + 1 == i && q.2.category == 2)))
theorem emL_ls1 (as : Nat → Nat) (L : LV) (i : Nat) (v : Value) : emL as (ls1 L i v) = (i, em as v) :: (emL as L).filter (fun q => !(q.1 == i) && !(q.1 + 1 == i && q.2.category == 2)) := by
  simp only [emL, ls1, List.map_cons, List.filter_map]
  congr 2
  apply List.filter_congr
  intro q _
  simp [em_cat]
theorem emL_ls2 (as : Nat → Nat) (L : LV) (i : Nat) (v : Value) : emL as (ls2 L i v) = (i, em as v) :: (emL as L).filter (fun q => !(q.1 == i) && (!(q.1 == i + 1) && !(q.1 + 1 == i && q.2.category == 2))) := by
  simp only [emL, ls2, List.map_cons, List.filter_map]
  congr 2
  apply List.filter_congr
  intro q _
  simp [em_cat]
theorem lk_mem {L : LV} {i : Nat} {v : Value} (h : L.lookup i = some v) : (i, v) ∈ L := by
  induction L with
  | nil => simp [List.lookup] at h
  | cons q L ih =>
    obtain ⟨j, x⟩ := q
    simp only [List.lookup] at h
    split at h
    · next hb =>
      have : i = j := by simpa using hb
      subst this
      cases h
      exact List.mem_cons_self
    · exact List.mem_cons_of_mem _ (ih h)
theorem lk_at {as : Nat → Nat} {ls : Array Slot} {n : Nat} {L : LV} (h : lv_has ls n (emL as L)) {i : Nat} {v : Value} (hk : L.lookup i = some v) : ls[i]? = some (.val (em as v)) :=
  h.2.2 (i, em as v) (List.mem_map.mpr ⟨(i, v), lk_mem hk, rfl⟩)
def vwC8 : List vw_C := [(RX0, TX0, 19), (RX1, TX1, 8), (RX2, TX2, 8), (RX3, TX3, 9)]
theorem isH_of {ci : Nat} {fs : List Value} {q : vw_C} (h : vwC8[ci]? = some q) : isH (.inr (ci, fs)) = false := by
  have h4 : ci < 4 := (List.getElem?_eq_some_iff.mp h).1
  show Nat.beq ci 999 = false
  cases hb : Nat.beq ci 999 with
  | false => rfl
  | true => have := Nat.eq_of_beq_eq_true hb; omega
def tyT (dA : Nat → ClassId) : List (ClassId × FieldType) := [(dA 0, .int), (dA 1, .boolean), (dA 2, .int), (dA 3, .object RX0)]
/-- what holds of a start beside its words: nest mates -/
def GX (as : Nat → Nat) (A : Nat → Prop) (U : State) (H : Heap) : Prop :=
  (va_Nw (.methodLinkNest RX0 83 yX3_at "PledgeHouse") U ∧ va_Nw (.methodLinkNest RX0 91 yX3_fallen "PledgeHouse") U ∧ va_Nw (.methodLinkNest RX2 63 yX3_at "PledgeHouse") U ∧ va_Nw (.methodLinkNest RX3 18 yX2_init "PledgeHouse") U ∧ va_Nw (.methodLinkNest RX3 9 yX1_init "PledgeHouse") U) ∧ (as 0 = as 0 ∧ (A 0 ↔ A 0) ∧ H.size = H.size)
theorem GX.warm {as : Nat → Nat} {A : Nat → Prop} {s U : State} {H : Heap} (hW : s.WarmedH U.vm) (h : GX as A s H) : GX as A U H := by
  obtain ⟨⟨a1, a2, a3, a4, a5⟩, b⟩ := h
  exact ⟨⟨va_Nw.warmM hW a1, va_Nw.warmM hW a2, va_Nw.warmM hW a3, va_Nw.warmM hW a4, va_Nw.warmM hW a5⟩, rfl, Iff.rfl, rfl⟩
theorem GX.kept {as : Nat → Nat} {A : Nat → Prop} {U : State} {H H1 : Heap} (h : GX as A U H) (hq : ∀ a : Nat, a < H.size → ¬ A a → H1[a]? = H[a]?) : GX as A U H1 := ⟨h.1, rfl, Iff.rfl, rfl⟩
theorem GX.narrow {as : Nat → Nat} {A B : Nat → Prop} {U : State} {H : Heap} (h : GX as A U H) (hAB : ∀ q, B q → A q) : GX as B U H := ⟨h.1, rfl, Iff.rfl, rfl⟩
def scO (o : Option (Nat × (Nat → Int32))) (as : Nat → Nat) (A : Nat → Prop) (s : State) : Prop := match o with
  | none => True
  | some (n, xs) => va_X (as 999) n xs s s.heap ∧ as 999 < s.heap.size ∧ ¬ A (as 999)
/-- what stays as it is while a method runs -/
def Sx (M : MT) (p : Program) (l : Launch) (s : State) (m : MethodId) (args : Array Value) (meth : Method) (c : Code) (dC : Nat → ClassId) (dI : Nat → Nat → Nat) (dA : Nat → ClassId) (as : Nat → Nat) (A : Nat → Prop) : Prop :=
  p.tables.exec = Jvm.exec ∧ c.code = mC M ∧ c.maxLocals = mN M ∧ s.vm.findClass (mY M).cls = some m.cls ∧ (∀ w ∈ Gw, w.before args s = true) ∧ l.stackTraces = false ∧ meth.locks = false ∧ c.exceptionTable.toList = tableOf (mH M) ∧ va_K (dC, dI) vwC8 (tyT dA) s ∧ (∀ q, s.heap.size ≤ q → A q) ∧ GX as A s s.heap ∧ scO (mS M) as A s
/-- what holds at a point: the world, the frame -/
def Dy (M : MT) (s : State) (dC : Nat → ClassId) (dI : Nat → Nat → Nat) (dA : Nat → ClassId) (as : Nat → Nat) (A : Nat → Prop) (H : Heap) (locs : List Loc) (w : PW) : Prop :=
  va_P (dC, dI) vwC8 (emW as dA w) H ∧ va_D A (emW as dA w) ∧ va_S A s.heap H locs
def rtI : Option Value → Instr
  | some (.int _) => .ireturn
  | some (.long _) => .lreturn
  | some (.float _) => .freturn
  | some (.double _) => .dreturn
  | none => .return_
  | _ => .areturn
def En (M : MT) (po : PO) (px : PX) (p : Program) (l : Launch) (e : Env) (s : State) (m : MethodId) (args : Array Value) (below : List Frame) (meth : Method) (c : Code) (dC : Nat → ClassId) (dI : Nat → Nat → Nat) (dA : Nat → ClassId) (as : Nat → Nat) (A : Nat → Prop) (Q : State → Prop) : Prop :=
  (∀ (H : Heap) (locs : List Loc) (ls : Array Slot) (pc : Nat) (v : Option Value) (w : PW), po v w → Dy M s dC dI dA as A H locs w → ls.size = mN M → decode (mC M) pc = .ok (rtI v, 1) → W p l e (mR M) s m args below meth c H locs (mK M) (6 * mK M) Q (F0 m pc ls ((v.map (em as)).toList))) ∧
  (∀ (H : Heap) (locs : List Loc) (ls : Array Slot) (pc : Nat) (st : List Value) (E : String) (ce : Cell) (q : Addr) (w : PW), px E w → Dy M s dC dI dA as A H locs w → (∀ x ∈ tableOf (mH M), covers x pc = false) → H[q]? = some ce → ce.vm = .none → s.vm.findClass E = some ce.cls → vx_W p l e (mR M) s m args below meth c H locs (mK M) (6 * mK M) Q (F0 m pc ls st) q)
/-- FROM HERE the method ends: po says how it returns, px how it throws -/
def Ev (M : MT) (po : PO) (px : PX) (k : Nat) (pc : Nat) (L : LV) (st : List Value) (w : PW) : Prop :=
  ∀ (p : Program) (l : Launch) (e : Env) (s : State) (m : MethodId) (args : Array Value) (below : List Frame) (meth : Method) (c : Code) (dC : Nat → ClassId) (dI : Nat → Nat → Nat) (dA : Nat → ClassId) (as : Nat → Nat) (A : Nat → Prop) (Q : State → Prop) (H : Heap) (locs : List Loc) (ls : Array Slot),
    Sx M p l s m args meth c dC dI dA as A → En M po px p l e s m args below meth c dC dI dA as A Q → Dy M s dC dI dA as A H locs w → lv_has ls (mN M) (emL as L) →
    W p l e (mR M) s m args below meth c H locs k (6 * k) Q (F0 m pc ls (st.map (em as)))
section EV
variable {M : MT} {po : PO} {px : PX} {k pc : Nat} {L : LV} {st : List Value} {w : PW}
theorem ev_iconst {n : Int} (v : Int32) (d : decode (mC M) pc = .ok (.iconst n, 1)) (hv : Int32.ofInt n = v) (kk : Ev M po px k (pc + 1) L (.int v :: st) w) : Ev M po px k pc L (st) w := by
  intro p l e s m args below meth c dC dI dA as A Q H locs ls hX hE hD hl
  obtain ⟨hx, hb, hml, hown, hts, hst, hlk, htb, hK, hA, hG, hsc⟩ := id hX
  obtain ⟨hP, hDD, hS⟩ := id hD
  exact lv_iconst hx hb d hv (kk _ _ _ _ _ _ _ _ _ _ _ _ _ _ _ _ _ _ hX hE hD hl)
theorem ev_bipush {n : Int} (v : Int32) (d : decode (mC M) pc = .ok (.bipush n, 2)) (hv : (Int8.ofInt n).toInt32 = v) (kk : Ev M po px k (pc + 2) L (.int v :: st) w) : Ev M po px k pc L (st) w := by
  intro p l e s m args below meth c dC dI dA as A Q H locs ls hX hE hD hl
  obtain ⟨hx, hb, hml, hown, hts, hst, hlk, htb, hK, hA, hG, hsc⟩ := id hX
  obtain ⟨hP, hDD, hS⟩ := id hD
  exact lv_bipush hx hb d hv (kk _ _ _ _ _ _ _ _ _ _ _ _ _ _ _ _ _ _ hX hE hD hl)
theorem ev_sipush {n : Int} (v : Int32) (d : decode (mC M) pc = .ok (.sipush n, 3)) (hv : (Int16.ofInt n).toInt32 = v) (kk : Ev M po px k (pc + 3) L (.int v :: st) w) : Ev M po px k pc L (st) w := by
  intro p l e s m args below meth c dC dI dA as A Q H locs ls hX hE hD hl
  obtain ⟨hx, hb, hml, hown, hts, hst, hlk, htb, hK, hA, hG, hsc⟩ := id hX
  obtain ⟨hP, hDD, hS⟩ := id hD
  exact lv_sipush hx hb d hv (kk _ _ _ _ _ _ _ _ _ _ _ _ _ _ _ _ _ _ hX hE hD hl)
theorem ev_lconst {n : Fin 2} (v : Int64) (d : decode (mC M) pc = .ok (.lconst n, 1)) (hv : Int64.ofNat (n : Nat) = v) (kk : Ev M po px k (pc + 1) L (.long v :: st) w) : Ev M po px k pc L (st) w := by
  intro p l e s m args below meth c dC dI dA as A Q H locs ls hX hE hD hl
  obtain ⟨hx, hb, hml, hown, hts, hst, hlk, htb, hK, hA, hG, hsc⟩ := id hX
  obtain ⟨hP, hDD, hS⟩ := id hD
  exact lv_lconst hx hb d hv (kk _ _ _ _ _ _ _ _ _ _ _ _ _ _ _ _ _ _ hX hE hD hl)
theorem ev_dconst0  (d : decode (mC M) pc = .ok (.dconst 0, 1))  (kk : Ev M po px k (pc + 1) L (.double FP.dconst0 :: st) w) : Ev M po px k pc L (st) w := by
  intro p l e s m args below meth c dC dI dA as A Q H locs ls hX hE hD hl
  obtain ⟨hx, hb, hml, hown, hts, hst, hlk, htb, hK, hA, hG, hsc⟩ := id hX
  obtain ⟨hP, hDD, hS⟩ := id hD
  exact lv_dconst0 hx hb d  (kk _ _ _ _ _ _ _ _ _ _ _ _ _ _ _ _ _ _ hX hE hD hl)
theorem ev_dconst1  (d : decode (mC M) pc = .ok (.dconst 1, 1))  (kk : Ev M po px k (pc + 1) L (.double FP.dconst1 :: st) w) : Ev M po px k pc L (st) w := by
  intro p l e s m args below meth c dC dI dA as A Q H locs ls hX hE hD hl
  obtain ⟨hx, hb, hml, hown, hts, hst, hlk, htb, hK, hA, hG, hsc⟩ := id hX
  obtain ⟨hP, hDD, hS⟩ := id hD
  exact lv_dconst1 hx hb d  (kk _ _ _ _ _ _ _ _ _ _ _ _ _ _ _ _ _ _ hX hE hD hl)
theorem ev_iload_n {q : Fin 4} (i : Nat) {x : Int32} (d : decode (mC M) pc = .ok (.iload_n q, 1)) (hi : (q : Nat) = i) (h : L.lookup i = some (.int x)) (kk : Ev M po px k (pc + 1) L (.int x :: st) w) : Ev M po px k pc L (st) w := by
  intro p l e s m args below meth c dC dI dA as A Q H locs ls hX hE hD hl
  obtain ⟨hx, hb, hml, hown, hts, hst, hlk, htb, hK, hA, hG, hsc⟩ := id hX
  obtain ⟨hP, hDD, hS⟩ := id hD
  exact lv_iload_n hx hb d hi (lk_at hl h) (kk _ _ _ _ _ _ _ _ _ _ _ _ _ _ _ _ _ _ hX hE hD hl)
theorem ev_iload {i : Nat} {x : Int32} (d : decode (mC M) pc = .ok (.iload i, 2)) (h : L.lookup i = some (.int x)) (kk : Ev M po px k (pc + 2) L (.int x :: st) w) : Ev M po px k pc L (st) w := by
  intro p l e s m args below meth c dC dI dA as A Q H locs ls hX hE hD hl
  obtain ⟨hx, hb, hml, hown, hts, hst, hlk, htb, hK, hA, hG, hsc⟩ := id hX
  obtain ⟨hP, hDD, hS⟩ := id hD
  exact lv_iload hx hb d (lk_at hl h) (kk _ _ _ _ _ _ _ _ _ _ _ _ _ _ _ _ _ _ hX hE hD hl)
theorem ev_lload_n {q : Fin 4} (i : Nat) {x : Int64} (d : decode (mC M) pc = .ok (.lload_n q, 1)) (hi : (q : Nat) = i) (h : L.lookup i = some (.long x)) (kk : Ev M po px k (pc + 1) L (.long x :: st) w) : Ev M po px k pc L (st) w := by
  intro p l e s m args below meth c dC dI dA as A Q H locs ls hX hE hD hl
  obtain ⟨hx, hb, hml, hown, hts, hst, hlk, htb, hK, hA, hG, hsc⟩ := id hX
  obtain ⟨hP, hDD, hS⟩ := id hD
  exact lv_lload_n hx hb d hi (lk_at hl h) (kk _ _ _ _ _ _ _ _ _ _ _ _ _ _ _ _ _ _ hX hE hD hl)
theorem ev_lload {i : Nat} {x : Int64} (d : decode (mC M) pc = .ok (.lload i, 2)) (h : L.lookup i = some (.long x)) (kk : Ev M po px k (pc + 2) L (.long x :: st) w) : Ev M po px k pc L (st) w := by
  intro p l e s m args below meth c dC dI dA as A Q H locs ls hX hE hD hl
  obtain ⟨hx, hb, hml, hown, hts, hst, hlk, htb, hK, hA, hG, hsc⟩ := id hX
  obtain ⟨hP, hDD, hS⟩ := id hD
  exact lv_lload hx hb d (lk_at hl h) (kk _ _ _ _ _ _ _ _ _ _ _ _ _ _ _ _ _ _ hX hE hD hl)
theorem ev_dload_n {q : Fin 4} (i : Nat) {x : UInt64} (d : decode (mC M) pc = .ok (.dload_n q, 1)) (hi : (q : Nat) = i) (h : L.lookup i = some (.double x)) (kk : Ev M po px k (pc + 1) L (.double x :: st) w) : Ev M po px k pc L (st) w := by
  intro p l e s m args below meth c dC dI dA as A Q H locs ls hX hE hD hl
  obtain ⟨hx, hb, hml, hown, hts, hst, hlk, htb, hK, hA, hG, hsc⟩ := id hX
  obtain ⟨hP, hDD, hS⟩ := id hD
  exact lv_dload_n hx hb d hi (lk_at hl h) (kk _ _ _ _ _ _ _ _ _ _ _ _ _ _ _ _ _ _ hX hE hD hl)
theorem ev_dload {i : Nat} {x : UInt64} (d : decode (mC M) pc = .ok (.dload i, 2)) (h : L.lookup i = some (.double x)) (kk : Ev M po px k (pc + 2) L (.double x :: st) w) : Ev M po px k pc L (st) w := by
  intro p l e s m args below meth c dC dI dA as A Q H locs ls hX hE hD hl
  obtain ⟨hx, hb, hml, hown, hts, hst, hlk, htb, hK, hA, hG, hsc⟩ := id hX
  obtain ⟨hP, hDD, hS⟩ := id hD
  exact lv_dload hx hb d (lk_at hl h) (kk _ _ _ _ _ _ _ _ _ _ _ _ _ _ _ _ _ _ hX hE hD hl)
theorem ev_aload_n {q : Fin 4} (i : Nat) {x : Nat} (d : decode (mC M) pc = .ok (.aload_n q, 1)) (hi : (q : Nat) = i) (h : L.lookup i = some (.ref x)) (kk : Ev M po px k (pc + 1) L (.ref x :: st) w) : Ev M po px k pc L (st) w := by
  intro p l e s m args below meth c dC dI dA as A Q H locs ls hX hE hD hl
  obtain ⟨hx, hb, hml, hown, hts, hst, hlk, htb, hK, hA, hG, hsc⟩ := id hX
  obtain ⟨hP, hDD, hS⟩ := id hD
  exact lv_aload_n hx hb d hi (lk_at hl h) (kk _ _ _ _ _ _ _ _ _ _ _ _ _ _ _ _ _ _ hX hE hD hl)
theorem ev_aload {i : Nat} {x : Nat} (d : decode (mC M) pc = .ok (.aload i, 2)) (h : L.lookup i = some (.ref x)) (kk : Ev M po px k (pc + 2) L (.ref x :: st) w) : Ev M po px k pc L (st) w := by
  intro p l e s m args below meth c dC dI dA as A Q H locs ls hX hE hD hl
  obtain ⟨hx, hb, hml, hown, hts, hst, hlk, htb, hK, hA, hG, hsc⟩ := id hX
  obtain ⟨hP, hDD, hS⟩ := id hD
  exact lv_aload hx hb d (lk_at hl h) (kk _ _ _ _ _ _ _ _ _ _ _ _ _ _ _ _ _ _ hX hE hD hl)
theorem ev_istore_n {q : Fin 4} (i : Nat) {x : Int32} {L' : LV} (d : decode (mC M) pc = .ok (.istore_n q, 1)) (hi : (q : Nat) = i) (hn : i < mN M) (hL : ls1 L i (.int x) = L') (kk : Ev M po px k (pc + 1) L' st w) : Ev M po px k pc L (.int x :: st) w := by
  intro p l e s m args below meth c dC dI dA as A Q H locs ls hX hE hD hl
  obtain ⟨hx, hb, hml, hown, hts, hst, hlk, htb, hK, hA, hG, hsc⟩ := id hX
  obtain ⟨hP, hDD, hS⟩ := id hD
  subst hL
  exact lv_istore_n hx hb d hi hl hn (emL_ls1 as L i (.int x)).symm (fun ls hl => (kk _ _ _ _ _ _ _ _ _ _ _ _ _ _ _ _ _ _ hX hE hD hl))
theorem ev_istore {i : Nat} {x : Int32} {L' : LV} (d : decode (mC M) pc = .ok (.istore i, 2)) (hn : i < mN M) (hL : ls1 L i (.int x) = L') (kk : Ev M po px k (pc + 2) L' st w) : Ev M po px k pc L (.int x :: st) w := by
  intro p l e s m args below meth c dC dI dA as A Q H locs ls hX hE hD hl
  obtain ⟨hx, hb, hml, hown, hts, hst, hlk, htb, hK, hA, hG, hsc⟩ := id hX
  obtain ⟨hP, hDD, hS⟩ := id hD
  subst hL
  exact lv_istore hx hb d hl hn (emL_ls1 as L i (.int x)).symm (fun ls hl => (kk _ _ _ _ _ _ _ _ _ _ _ _ _ _ _ _ _ _ hX hE hD hl))
theorem ev_astore_n {q : Fin 4} (i : Nat) {x : Nat} {L' : LV} (d : decode (mC M) pc = .ok (.astore_n q, 1)) (hi : (q : Nat) = i) (hn : i < mN M) (hL : ls1 L i (.ref x) = L') (kk : Ev M po px k (pc + 1) L' st w) : Ev M po px k pc L (.ref x :: st) w := by
  intro p l e s m args below meth c dC dI dA as A Q H locs ls hX hE hD hl
  obtain ⟨hx, hb, hml, hown, hts, hst, hlk, htb, hK, hA, hG, hsc⟩ := id hX
  obtain ⟨hP, hDD, hS⟩ := id hD
  subst hL
  exact lv_astore_n hx hb d hi hl hn (emL_ls1 as L i (.ref x)).symm (fun ls hl => (kk _ _ _ _ _ _ _ _ _ _ _ _ _ _ _ _ _ _ hX hE hD hl))
theorem ev_astore {i : Nat} {x : Nat} {L' : LV} (d : decode (mC M) pc = .ok (.astore i, 2)) (hn : i < mN M) (hL : ls1 L i (.ref x) = L') (kk : Ev M po px k (pc + 2) L' st w) : Ev M po px k pc L (.ref x :: st) w := by
  intro p l e s m args below meth c dC dI dA as A Q H locs ls hX hE hD hl
  obtain ⟨hx, hb, hml, hown, hts, hst, hlk, htb, hK, hA, hG, hsc⟩ := id hX
  obtain ⟨hP, hDD, hS⟩ := id hD
  subst hL
  exact lv_astore hx hb d hl hn (emL_ls1 as L i (.ref x)).symm (fun ls hl => (kk _ _ _ _ _ _ _ _ _ _ _ _ _ _ _ _ _ _ hX hE hD hl))
theorem ev_lstore_n {q : Fin 4} (i : Nat) {x : Int64} {L' : LV} (d : decode (mC M) pc = .ok (.lstore_n q, 1)) (hi : (q : Nat) = i) (hn : i + 1 < mN M) (hL : ls2 L i (.long x) = L') (kk : Ev M po px k (pc + 1) L' st w) : Ev M po px k pc L (.long x :: st) w := by
  intro p l e s m args below meth c dC dI dA as A Q H locs ls hX hE hD hl
  obtain ⟨hx, hb, hml, hown, hts, hst, hlk, htb, hK, hA, hG, hsc⟩ := id hX
  obtain ⟨hP, hDD, hS⟩ := id hD
  subst hL
  exact lv_lstore_n hx hb d hi hl hn (emL_ls2 as L i (.long x)).symm (fun ls hl => (kk _ _ _ _ _ _ _ _ _ _ _ _ _ _ _ _ _ _ hX hE hD hl))
theorem ev_lstore {i : Nat} {x : Int64} {L' : LV} (d : decode (mC M) pc = .ok (.lstore i, 2)) (hn : i + 1 < mN M) (hL : ls2 L i (.long x) = L') (kk : Ev M po px k (pc + 2) L' st w) : Ev M po px k pc L (.long x :: st) w := by
  intro p l e s m args below meth c dC dI dA as A Q H locs ls hX hE hD hl
  obtain ⟨hx, hb, hml, hown, hts, hst, hlk, htb, hK, hA, hG, hsc⟩ := id hX
  obtain ⟨hP, hDD, hS⟩ := id hD
  subst hL
  exact lv_lstore hx hb d hl hn (emL_ls2 as L i (.long x)).symm (fun ls hl => (kk _ _ _ _ _ _ _ _ _ _ _ _ _ _ _ _ _ _ hX hE hD hl))
theorem ev_dstore_n {q : Fin 4} (i : Nat) {x : UInt64} {L' : LV} (d : decode (mC M) pc = .ok (.dstore_n q, 1)) (hi : (q : Nat) = i) (hn : i + 1 < mN M) (hL : ls2 L i (.double x) = L') (kk : Ev M po px k (pc + 1) L' st w) : Ev M po px k pc L (.double x :: st) w := by
  intro p l e s m args below meth c dC dI dA as A Q H locs ls hX hE hD hl
  obtain ⟨hx, hb, hml, hown, hts, hst, hlk, htb, hK, hA, hG, hsc⟩ := id hX
  obtain ⟨hP, hDD, hS⟩ := id hD
  subst hL
  exact lv_dstore_n hx hb d hi hl hn (emL_ls2 as L i (.double x)).symm (fun ls hl => (kk _ _ _ _ _ _ _ _ _ _ _ _ _ _ _ _ _ _ hX hE hD hl))
theorem ev_dstore {i : Nat} {x : UInt64} {L' : LV} (d : decode (mC M) pc = .ok (.dstore i, 2)) (hn : i + 1 < mN M) (hL : ls2 L i (.double x) = L') (kk : Ev M po px k (pc + 2) L' st w) : Ev M po px k pc L (.double x :: st) w := by
  intro p l e s m args below meth c dC dI dA as A Q H locs ls hX hE hD hl
  obtain ⟨hx, hb, hml, hown, hts, hst, hlk, htb, hK, hA, hG, hsc⟩ := id hX
  obtain ⟨hP, hDD, hS⟩ := id hD
  subst hL
  exact lv_dstore hx hb d hl hn (emL_ls2 as L i (.double x)).symm (fun ls hl => (kk _ _ _ _ _ _ _ _ _ _ _ _ _ _ _ _ _ _ hX hE hD hl))
theorem ev_iinc {i : Nat} {n : Int} {x : Int32} (v : Int32) {L' : LV} (d : decode (mC M) pc = .ok (.iinc i n, 3)) (h : L.lookup i = some (.int x)) (hv : x + Int32.ofInt n = v) (hn : i < mN M) (hL : ls1 L i (.int v) = L') (kk : Ev M po px k (pc + 3) L' st w) : Ev M po px k pc L st w := by
  intro p l e s m args below meth c dC dI dA as A Q H locs ls hX hE hD hl
  obtain ⟨hx, hb, hml, hown, hts, hst, hlk, htb, hK, hA, hG, hsc⟩ := id hX
  obtain ⟨hP, hDD, hS⟩ := id hD
  subst hL
  obtain ⟨j, hj⟩ := List.getElem?_of_mem (List.mem_map.mpr ⟨(i, Value.int x), lk_mem h, rfl⟩ : (i, Value.int x) ∈ emL as L)
  exact lv_iinc hx hb d hl hj hv hn (emL_ls1 as L i (.int v)).symm (fun ls hl => (kk _ _ _ _ _ _ _ _ _ _ _ _ _ _ _ _ _ _ hX hE hD hl))
theorem ev_iadd {x y : Int32} (d : decode (mC M) pc = .ok (.iadd, 1))  (kk : Ev M po px k (pc + 1) L (.int (x + y) :: st) w) : Ev M po px k pc L (.int y :: .int x :: st) w := by
  intro p l e s m args below meth c dC dI dA as A Q H locs ls hX hE hD hl
  obtain ⟨hx, hb, hml, hown, hts, hst, hlk, htb, hK, hA, hG, hsc⟩ := id hX
  obtain ⟨hP, hDD, hS⟩ := id hD
  exact lv_iadd hx hb d  (kk _ _ _ _ _ _ _ _ _ _ _ _ _ _ _ _ _ _ hX hE hD hl)
theorem ev_isub {x y : Int32} (d : decode (mC M) pc = .ok (.isub, 1))  (kk : Ev M po px k (pc + 1) L (.int (x - y) :: st) w) : Ev M po px k pc L (.int y :: .int x :: st) w := by
  intro p l e s m args below meth c dC dI dA as A Q H locs ls hX hE hD hl
  obtain ⟨hx, hb, hml, hown, hts, hst, hlk, htb, hK, hA, hG, hsc⟩ := id hX
  obtain ⟨hP, hDD, hS⟩ := id hD
  exact lv_isub hx hb d  (kk _ _ _ _ _ _ _ _ _ _ _ _ _ _ _ _ _ _ hX hE hD hl)
theorem ev_imul {x y : Int32} (d : decode (mC M) pc = .ok (.imul, 1))  (kk : Ev M po px k (pc + 1) L (.int (x * y) :: st) w) : Ev M po px k pc L (.int y :: .int x :: st) w := by
  intro p l e s m args below meth c dC dI dA as A Q H locs ls hX hE hD hl
  obtain ⟨hx, hb, hml, hown, hts, hst, hlk, htb, hK, hA, hG, hsc⟩ := id hX
  obtain ⟨hP, hDD, hS⟩ := id hD
  exact lv_imul hx hb d  (kk _ _ _ _ _ _ _ _ _ _ _ _ _ _ _ _ _ _ hX hE hD hl)
theorem ev_iand {x y : Int32} (d : decode (mC M) pc = .ok (.iand, 1))  (kk : Ev M po px k (pc + 1) L (.int (x &&& y) :: st) w) : Ev M po px k pc L (.int y :: .int x :: st) w := by
  intro p l e s m args below meth c dC dI dA as A Q H locs ls hX hE hD hl
  obtain ⟨hx, hb, hml, hown, hts, hst, hlk, htb, hK, hA, hG, hsc⟩ := id hX
  obtain ⟨hP, hDD, hS⟩ := id hD
  exact lv_iand hx hb d  (kk _ _ _ _ _ _ _ _ _ _ _ _ _ _ _ _ _ _ hX hE hD hl)
theorem ev_ior {x y : Int32} (d : decode (mC M) pc = .ok (.ior, 1))  (kk : Ev M po px k (pc + 1) L (.int (x ||| y) :: st) w) : Ev M po px k pc L (.int y :: .int x :: st) w := by
  intro p l e s m args below meth c dC dI dA as A Q H locs ls hX hE hD hl
  obtain ⟨hx, hb, hml, hown, hts, hst, hlk, htb, hK, hA, hG, hsc⟩ := id hX
  obtain ⟨hP, hDD, hS⟩ := id hD
  exact lv_ior hx hb d  (kk _ _ _ _ _ _ _ _ _ _ _ _ _ _ _ _ _ _ hX hE hD hl)
theorem ev_ladd {x y : Int64} (d : decode (mC M) pc = .ok (.ladd, 1))  (kk : Ev M po px k (pc + 1) L (.long (x + y) :: st) w) : Ev M po px k pc L (.long y :: .long x :: st) w := by
  intro p l e s m args below meth c dC dI dA as A Q H locs ls hX hE hD hl
  obtain ⟨hx, hb, hml, hown, hts, hst, hlk, htb, hK, hA, hG, hsc⟩ := id hX
  obtain ⟨hP, hDD, hS⟩ := id hD
  exact lv_ladd hx hb d  (kk _ _ _ _ _ _ _ _ _ _ _ _ _ _ _ _ _ _ hX hE hD hl)
theorem ev_lsub {x y : Int64} (d : decode (mC M) pc = .ok (.lsub, 1))  (kk : Ev M po px k (pc + 1) L (.long (x - y) :: st) w) : Ev M po px k pc L (.long y :: .long x :: st) w := by
  intro p l e s m args below meth c dC dI dA as A Q H locs ls hX hE hD hl
  obtain ⟨hx, hb, hml, hown, hts, hst, hlk, htb, hK, hA, hG, hsc⟩ := id hX
  obtain ⟨hP, hDD, hS⟩ := id hD
  exact lv_lsub hx hb d  (kk _ _ _ _ _ _ _ _ _ _ _ _ _ _ _ _ _ _ hX hE hD hl)
theorem ev_lmul {x y : Int64} (d : decode (mC M) pc = .ok (.lmul, 1))  (kk : Ev M po px k (pc + 1) L (.long (x * y) :: st) w) : Ev M po px k pc L (.long y :: .long x :: st) w := by
  intro p l e s m args below meth c dC dI dA as A Q H locs ls hX hE hD hl
  obtain ⟨hx, hb, hml, hown, hts, hst, hlk, htb, hK, hA, hG, hsc⟩ := id hX
  obtain ⟨hP, hDD, hS⟩ := id hD
  exact lv_lmul hx hb d  (kk _ _ _ _ _ _ _ _ _ _ _ _ _ _ _ _ _ _ hX hE hD hl)
theorem ev_ishl {x y : Int32} (d : decode (mC M) pc = .ok (.ishl, 1))  (kk : Ev M po px k (pc + 1) L (.int (x <<< (y &&& 31)) :: st) w) : Ev M po px k pc L (.int y :: .int x :: st) w := by
  intro p l e s m args below meth c dC dI dA as A Q H locs ls hX hE hD hl
  obtain ⟨hx, hb, hml, hown, hts, hst, hlk, htb, hK, hA, hG, hsc⟩ := id hX
  obtain ⟨hP, hDD, hS⟩ := id hD
  exact lv_ishl hx hb d  (kk _ _ _ _ _ _ _ _ _ _ _ _ _ _ _ _ _ _ hX hE hD hl)
theorem ev_ishr {x y : Int32} (d : decode (mC M) pc = .ok (.ishr, 1))  (kk : Ev M po px k (pc + 1) L (.int (x >>> (y &&& 31)) :: st) w) : Ev M po px k pc L (.int y :: .int x :: st) w := by
  intro p l e s m args below meth c dC dI dA as A Q H locs ls hX hE hD hl
  obtain ⟨hx, hb, hml, hown, hts, hst, hlk, htb, hK, hA, hG, hsc⟩ := id hX
  obtain ⟨hP, hDD, hS⟩ := id hD
  exact lv_ishr hx hb d  (kk _ _ _ _ _ _ _ _ _ _ _ _ _ _ _ _ _ _ hX hE hD hl)
theorem ev_idiv {x y : Int32} (d : decode (mC M) pc = .ok (.idiv, 1)) (hne : ¬ y = 0) (kk : Ev M po px k (pc + 1) L (.int (x / y) :: st) w) : Ev M po px k pc L (.int y :: .int x :: st) w := by
  intro p l e s m args below meth c dC dI dA as A Q H locs ls hX hE hD hl
  obtain ⟨hx, hb, hml, hown, hts, hst, hlk, htb, hK, hA, hG, hsc⟩ := id hX
  obtain ⟨hP, hDD, hS⟩ := id hD
  exact lv_idiv hx hb d hne (kk _ _ _ _ _ _ _ _ _ _ _ _ _ _ _ _ _ _ hX hE hD hl)
theorem ev_irem {x y : Int32} (d : decode (mC M) pc = .ok (.irem, 1)) (hne : ¬ y = 0) (kk : Ev M po px k (pc + 1) L (.int (x - x / y * y) :: st) w) : Ev M po px k pc L (.int y :: .int x :: st) w := by
  intro p l e s m args below meth c dC dI dA as A Q H locs ls hX hE hD hl
  obtain ⟨hx, hb, hml, hown, hts, hst, hlk, htb, hK, hA, hG, hsc⟩ := id hX
  obtain ⟨hP, hDD, hS⟩ := id hD
  exact lv_irem hx hb d hne (kk _ _ _ _ _ _ _ _ _ _ _ _ _ _ _ _ _ _ hX hE hD hl)
theorem ev_ldiv {x y : Int64} (d : decode (mC M) pc = .ok (.ldiv, 1)) (hne : ¬ y = 0) (kk : Ev M po px k (pc + 1) L (.long (x / y) :: st) w) : Ev M po px k pc L (.long y :: .long x :: st) w := by
  intro p l e s m args below meth c dC dI dA as A Q H locs ls hX hE hD hl
  obtain ⟨hx, hb, hml, hown, hts, hst, hlk, htb, hK, hA, hG, hsc⟩ := id hX
  obtain ⟨hP, hDD, hS⟩ := id hD
  exact lv_ldiv hx hb d hne (kk _ _ _ _ _ _ _ _ _ _ _ _ _ _ _ _ _ _ hX hE hD hl)
theorem ev_ineg {x : Int32} (d : decode (mC M) pc = .ok (.ineg, 1))  (kk : Ev M po px k (pc + 1) L (.int (-x) :: st) w) : Ev M po px k pc L (.int x :: st) w := by
  intro p l e s m args below meth c dC dI dA as A Q H locs ls hX hE hD hl
  obtain ⟨hx, hb, hml, hown, hts, hst, hlk, htb, hK, hA, hG, hsc⟩ := id hX
  obtain ⟨hP, hDD, hS⟩ := id hD
  exact lv_ineg hx hb d  (kk _ _ _ _ _ _ _ _ _ _ _ _ _ _ _ _ _ _ hX hE hD hl)
theorem ev_i2l {x : Int32} (d : decode (mC M) pc = .ok (.i2l, 1))  (kk : Ev M po px k (pc + 1) L (.long x.toInt64 :: st) w) : Ev M po px k pc L (.int x :: st) w := by
  intro p l e s m args below meth c dC dI dA as A Q H locs ls hX hE hD hl
  obtain ⟨hx, hb, hml, hown, hts, hst, hlk, htb, hK, hA, hG, hsc⟩ := id hX
  obtain ⟨hP, hDD, hS⟩ := id hD
  exact lv_i2l hx hb d rfl (kk _ _ _ _ _ _ _ _ _ _ _ _ _ _ _ _ _ _ hX hE hD hl)
theorem ev_l2i {x : Int64} (d : decode (mC M) pc = .ok (.l2i, 1))  (kk : Ev M po px k (pc + 1) L (.int x.toInt32 :: st) w) : Ev M po px k pc L (.long x :: st) w := by
  intro p l e s m args below meth c dC dI dA as A Q H locs ls hX hE hD hl
  obtain ⟨hx, hb, hml, hown, hts, hst, hlk, htb, hK, hA, hG, hsc⟩ := id hX
  obtain ⟨hP, hDD, hS⟩ := id hD
  exact lv_l2i hx hb d rfl (kk _ _ _ _ _ _ _ _ _ _ _ _ _ _ _ _ _ _ hX hE hD hl)
theorem ev_i2c {x : Int32} (d : decode (mC M) pc = .ok (.i2c, 1))  (kk : Ev M po px k (pc + 1) L (.int (x.toUInt32 % 65536).toInt32 :: st) w) : Ev M po px k pc L (.int x :: st) w := by
  intro p l e s m args below meth c dC dI dA as A Q H locs ls hX hE hD hl
  obtain ⟨hx, hb, hml, hown, hts, hst, hlk, htb, hK, hA, hG, hsc⟩ := id hX
  obtain ⟨hP, hDD, hS⟩ := id hD
  exact lv_i2c hx hb d rfl (kk _ _ _ _ _ _ _ _ _ _ _ _ _ _ _ _ _ _ hX hE hD hl)
theorem ev_lshl {x : Int64} {y : Int32} (d : decode (mC M) pc = .ok (.lshl, 1))  (kk : Ev M po px k (pc + 1) L (.long (x <<< (y.toInt64 &&& 63)) :: st) w) : Ev M po px k pc L (.int y :: .long x :: st) w := by
  intro p l e s m args below meth c dC dI dA as A Q H locs ls hX hE hD hl
  obtain ⟨hx, hb, hml, hown, hts, hst, hlk, htb, hK, hA, hG, hsc⟩ := id hX
  obtain ⟨hP, hDD, hS⟩ := id hD
  exact lv_lshl hx hb d rfl (kk _ _ _ _ _ _ _ _ _ _ _ _ _ _ _ _ _ _ hX hE hD hl)
theorem ev_i2d {x : Int32} (d : decode (mC M) pc = .ok (.i2d, 1))  (kk : Ev M po px k (pc + 1) L (.double (FP.i2d x) :: st) w) : Ev M po px k pc L (.int x :: st) w := by
  intro p l e s m args below meth c dC dI dA as A Q H locs ls hX hE hD hl
  obtain ⟨hx, hb, hml, hown, hts, hst, hlk, htb, hK, hA, hG, hsc⟩ := id hX
  obtain ⟨hP, hDD, hS⟩ := id hD
  exact lv_i2d hx hb d  (kk _ _ _ _ _ _ _ _ _ _ _ _ _ _ _ _ _ _ hX hE hD hl)
theorem ev_l2d {x : Int64} (d : decode (mC M) pc = .ok (.l2d, 1))  (kk : Ev M po px k (pc + 1) L (.double (FP.l2d x) :: st) w) : Ev M po px k pc L (.long x :: st) w := by
  intro p l e s m args below meth c dC dI dA as A Q H locs ls hX hE hD hl
  obtain ⟨hx, hb, hml, hown, hts, hst, hlk, htb, hK, hA, hG, hsc⟩ := id hX
  obtain ⟨hP, hDD, hS⟩ := id hD
  exact lv_l2d hx hb d  (kk _ _ _ _ _ _ _ _ _ _ _ _ _ _ _ _ _ _ hX hE hD hl)
theorem ev_d2l {x : UInt64} (d : decode (mC M) pc = .ok (.d2l, 1))  (kk : Ev M po px k (pc + 1) L (.long (FP.d2l x) :: st) w) : Ev M po px k pc L (.double x :: st) w := by
  intro p l e s m args below meth c dC dI dA as A Q H locs ls hX hE hD hl
  obtain ⟨hx, hb, hml, hown, hts, hst, hlk, htb, hK, hA, hG, hsc⟩ := id hX
  obtain ⟨hP, hDD, hS⟩ := id hD
  exact lv_d2l hx hb d  (kk _ _ _ _ _ _ _ _ _ _ _ _ _ _ _ _ _ _ hX hE hD hl)
theorem ev_ddiv {x y : UInt64} (d : decode (mC M) pc = .ok (.ddiv, 1)) (hne : vf_n64 (FP.ddiv x y)) (kk : Ev M po px k (pc + 1) L (.double (FP.ddiv x y) :: st) w) : Ev M po px k pc L (.double y :: .double x :: st) w := by
  intro p l e s m args below meth c dC dI dA as A Q H locs ls hX hE hD hl
  obtain ⟨hx, hb, hml, hown, hts, hst, hlk, htb, hK, hA, hG, hsc⟩ := id hX
  obtain ⟨hP, hDD, hS⟩ := id hD
  exact lv_ddiv hx hb d hne (kk _ _ _ _ _ _ _ _ _ _ _ _ _ _ _ _ _ _ hX hE hD hl)
theorem ev_dmul {x y : UInt64} (d : decode (mC M) pc = .ok (.dmul, 1)) (hne : vf_n64 (FP.dmul x y)) (kk : Ev M po px k (pc + 1) L (.double (FP.dmul x y) :: st) w) : Ev M po px k pc L (.double y :: .double x :: st) w := by
  intro p l e s m args below meth c dC dI dA as A Q H locs ls hX hE hD hl
  obtain ⟨hx, hb, hml, hown, hts, hst, hlk, htb, hK, hA, hG, hsc⟩ := id hX
  obtain ⟨hP, hDD, hS⟩ := id hD
  exact lv_dmul hx hb d hne (kk _ _ _ _ _ _ _ _ _ _ _ _ _ _ _ _ _ _ hX hE hD hl)
theorem ev_dsub {x y : UInt64} (d : decode (mC M) pc = .ok (.dsub, 1)) (hne : vf_n64 (FP.dsub x y)) (kk : Ev M po px k (pc + 1) L (.double (FP.dsub x y) :: st) w) : Ev M po px k pc L (.double y :: .double x :: st) w := by
  intro p l e s m args below meth c dC dI dA as A Q H locs ls hX hE hD hl
  obtain ⟨hx, hb, hml, hown, hts, hst, hlk, htb, hK, hA, hG, hsc⟩ := id hX
  obtain ⟨hP, hDD, hS⟩ := id hD
  exact lv_dsub hx hb d hne (kk _ _ _ _ _ _ _ _ _ _ _ _ _ _ _ _ _ _ hX hE hD hl)
theorem ev_dcmp {x y : UInt64} {op : CmpOp} (d : decode (mC M) pc = .ok (.dcmp op, 1))  (kk : Ev M po px k (pc + 1) L (.int (Op.cmpValue (FP.dcmp x y) op) :: st) w) : Ev M po px k pc L (.double y :: .double x :: st) w := by
  intro p l e s m args below meth c dC dI dA as A Q H locs ls hX hE hD hl
  obtain ⟨hx, hb, hml, hown, hts, hst, hlk, htb, hK, hA, hG, hsc⟩ := id hX
  obtain ⟨hP, hDD, hS⟩ := id hD
  exact lv_dcmp hx hb d  (kk _ _ _ _ _ _ _ _ _ _ _ _ _ _ _ _ _ _ hX hE hD hl)
theorem ev_pop {v : Value} (d : decode (mC M) pc = .ok (.pop, 1)) (hv : v.category = 1) (kk : Ev M po px k (pc + 1) L (st) w) : Ev M po px k pc L (v :: st) w := by
  intro p l e s m args below meth c dC dI dA as A Q H locs ls hX hE hD hl
  obtain ⟨hx, hb, hml, hown, hts, hst, hlk, htb, hK, hA, hG, hsc⟩ := id hX
  obtain ⟨hP, hDD, hS⟩ := id hD
  exact lv_pop hx hb d ((em_cat as v).trans hv) (kk _ _ _ _ _ _ _ _ _ _ _ _ _ _ _ _ _ _ hX hE hD hl)
theorem ev_dup {v : Value} (d : decode (mC M) pc = .ok (.dup, 1)) (hv : v.category = 1) (kk : Ev M po px k (pc + 1) L (v :: v :: st) w) : Ev M po px k pc L (v :: st) w := by
  intro p l e s m args below meth c dC dI dA as A Q H locs ls hX hE hD hl
  obtain ⟨hx, hb, hml, hown, hts, hst, hlk, htb, hK, hA, hG, hsc⟩ := id hX
  obtain ⟨hP, hDD, hS⟩ := id hD
  exact lv_dup hx hb d ((em_cat as v).trans hv) (kk _ _ _ _ _ _ _ _ _ _ _ _ _ _ _ _ _ _ hX hE hD hl)
theorem ev_dup2 {v u : Value} (d : decode (mC M) pc = .ok (.dup2, 1)) (hv : v.category = 1) (hu : u.category = 1) (kk : Ev M po px k (pc + 1) L (v :: u :: v :: u :: st) w) : Ev M po px k pc L (v :: u :: st) w := by
  intro p l e s m args below meth c dC dI dA as A Q H locs ls hX hE hD hl
  obtain ⟨hx, hb, hml, hown, hts, hst, hlk, htb, hK, hA, hG, hsc⟩ := id hX
  obtain ⟨hP, hDD, hS⟩ := id hD
  exact lv_dup2_11 hx hb d ((em_cat as v).trans hv) ((em_cat as u).trans hu) (kk _ _ _ _ _ _ _ _ _ _ _ _ _ _ _ _ _ _ hX hE hD hl)
theorem ev_if_eq {x : Int32} {off : Int} (tgt : Nat) (d : decode (mC M) pc = .ok (.ifCond .eq off, 3)) (ht : (pc : Int) + off = (tgt : Int)) (kt : x = 0 → Ev M po px k tgt L st w) (kf : ¬ (x = 0) → Ev M po px k (pc + 3) L st w) : Ev M po px k pc L (.int x :: st) w := by
  intro p l e s m args below meth c dC dI dA as A Q H locs ls hX hE hD hl
  obtain ⟨hx, hb, hml, hown, hts, hst, hlk, htb, hK, hA, hG, hsc⟩ := id hX
  obtain ⟨hP, hDD, hS⟩ := id hD
  exact lv_if_eq hx hb d ht (fun h => (kt h _ _ _ _ _ _ _ _ _ _ _ _ _ _ _ _ _ _ hX hE hD hl)) (fun h => (kf h _ _ _ _ _ _ _ _ _ _ _ _ _ _ _ _ _ _ hX hE hD hl))
theorem ev_icmp_eq {x y : Int32} {off : Int} (tgt : Nat) (d : decode (mC M) pc = .ok (.if_icmp .eq off, 3)) (ht : (pc : Int) + off = (tgt : Int)) (kt : x = y → Ev M po px k tgt L st w) (kf : ¬ (x = y) → Ev M po px k (pc + 3) L st w) : Ev M po px k pc L (.int y :: .int x :: st) w := by
  intro p l e s m args below meth c dC dI dA as A Q H locs ls hX hE hD hl
  obtain ⟨hx, hb, hml, hown, hts, hst, hlk, htb, hK, hA, hG, hsc⟩ := id hX
  obtain ⟨hP, hDD, hS⟩ := id hD
  exact lv_icmp_eq hx hb d ht (fun h => (kt h _ _ _ _ _ _ _ _ _ _ _ _ _ _ _ _ _ _ hX hE hD hl)) (fun h => (kf h _ _ _ _ _ _ _ _ _ _ _ _ _ _ _ _ _ _ hX hE hD hl))
theorem ev_if_ne {x : Int32} {off : Int} (tgt : Nat) (d : decode (mC M) pc = .ok (.ifCond .ne off, 3)) (ht : (pc : Int) + off = (tgt : Int)) (kt : ¬ x = 0 → Ev M po px k tgt L st w) (kf : x = 0 → Ev M po px k (pc + 3) L st w) : Ev M po px k pc L (.int x :: st) w := by
  intro p l e s m args below meth c dC dI dA as A Q H locs ls hX hE hD hl
  obtain ⟨hx, hb, hml, hown, hts, hst, hlk, htb, hK, hA, hG, hsc⟩ := id hX
  obtain ⟨hP, hDD, hS⟩ := id hD
  exact lv_if_ne hx hb d ht (fun h => (kt h _ _ _ _ _ _ _ _ _ _ _ _ _ _ _ _ _ _ hX hE hD hl)) (fun h => (kf h _ _ _ _ _ _ _ _ _ _ _ _ _ _ _ _ _ _ hX hE hD hl))
theorem ev_icmp_ne {x y : Int32} {off : Int} (tgt : Nat) (d : decode (mC M) pc = .ok (.if_icmp .ne off, 3)) (ht : (pc : Int) + off = (tgt : Int)) (kt : ¬ x = y → Ev M po px k tgt L st w) (kf : x = y → Ev M po px k (pc + 3) L st w) : Ev M po px k pc L (.int y :: .int x :: st) w := by
  intro p l e s m args below meth c dC dI dA as A Q H locs ls hX hE hD hl
  obtain ⟨hx, hb, hml, hown, hts, hst, hlk, htb, hK, hA, hG, hsc⟩ := id hX
  obtain ⟨hP, hDD, hS⟩ := id hD
  exact lv_icmp_ne hx hb d ht (fun h => (kt h _ _ _ _ _ _ _ _ _ _ _ _ _ _ _ _ _ _ hX hE hD hl)) (fun h => (kf h _ _ _ _ _ _ _ _ _ _ _ _ _ _ _ _ _ _ hX hE hD hl))
theorem ev_if_lt {x : Int32} {off : Int} (tgt : Nat) (d : decode (mC M) pc = .ok (.ifCond .lt off, 3)) (ht : (pc : Int) + off = (tgt : Int)) (kt : x < 0 → Ev M po px k tgt L st w) (kf : ¬ (x < 0) → Ev M po px k (pc + 3) L st w) : Ev M po px k pc L (.int x :: st) w := by
  intro p l e s m args below meth c dC dI dA as A Q H locs ls hX hE hD hl
  obtain ⟨hx, hb, hml, hown, hts, hst, hlk, htb, hK, hA, hG, hsc⟩ := id hX
  obtain ⟨hP, hDD, hS⟩ := id hD
  exact lv_if_lt hx hb d ht (fun h => (kt h _ _ _ _ _ _ _ _ _ _ _ _ _ _ _ _ _ _ hX hE hD hl)) (fun h => (kf h _ _ _ _ _ _ _ _ _ _ _ _ _ _ _ _ _ _ hX hE hD hl))
theorem ev_icmp_lt {x y : Int32} {off : Int} (tgt : Nat) (d : decode (mC M) pc = .ok (.if_icmp .lt off, 3)) (ht : (pc : Int) + off = (tgt : Int)) (kt : x < y → Ev M po px k tgt L st w) (kf : ¬ (x < y) → Ev M po px k (pc + 3) L st w) : Ev M po px k pc L (.int y :: .int x :: st) w := by
  intro p l e s m args below meth c dC dI dA as A Q H locs ls hX hE hD hl
  obtain ⟨hx, hb, hml, hown, hts, hst, hlk, htb, hK, hA, hG, hsc⟩ := id hX
  obtain ⟨hP, hDD, hS⟩ := id hD
  exact lv_icmp_lt hx hb d ht (fun h => (kt h _ _ _ _ _ _ _ _ _ _ _ _ _ _ _ _ _ _ hX hE hD hl)) (fun h => (kf h _ _ _ _ _ _ _ _ _ _ _ _ _ _ _ _ _ _ hX hE hD hl))
theorem ev_if_ge {x : Int32} {off : Int} (tgt : Nat) (d : decode (mC M) pc = .ok (.ifCond .ge off, 3)) (ht : (pc : Int) + off = (tgt : Int)) (kt : 0 ≤ x → Ev M po px k tgt L st w) (kf : ¬ (0 ≤ x) → Ev M po px k (pc + 3) L st w) : Ev M po px k pc L (.int x :: st) w := by
  intro p l e s m args below meth c dC dI dA as A Q H locs ls hX hE hD hl
  obtain ⟨hx, hb, hml, hown, hts, hst, hlk, htb, hK, hA, hG, hsc⟩ := id hX
  obtain ⟨hP, hDD, hS⟩ := id hD
  exact lv_if_ge hx hb d ht (fun h => (kt h _ _ _ _ _ _ _ _ _ _ _ _ _ _ _ _ _ _ hX hE hD hl)) (fun h => (kf h _ _ _ _ _ _ _ _ _ _ _ _ _ _ _ _ _ _ hX hE hD hl))
theorem ev_icmp_ge {x y : Int32} {off : Int} (tgt : Nat) (d : decode (mC M) pc = .ok (.if_icmp .ge off, 3)) (ht : (pc : Int) + off = (tgt : Int)) (kt : y ≤ x → Ev M po px k tgt L st w) (kf : ¬ (y ≤ x) → Ev M po px k (pc + 3) L st w) : Ev M po px k pc L (.int y :: .int x :: st) w := by
  intro p l e s m args below meth c dC dI dA as A Q H locs ls hX hE hD hl
  obtain ⟨hx, hb, hml, hown, hts, hst, hlk, htb, hK, hA, hG, hsc⟩ := id hX
  obtain ⟨hP, hDD, hS⟩ := id hD
  exact lv_icmp_ge hx hb d ht (fun h => (kt h _ _ _ _ _ _ _ _ _ _ _ _ _ _ _ _ _ _ hX hE hD hl)) (fun h => (kf h _ _ _ _ _ _ _ _ _ _ _ _ _ _ _ _ _ _ hX hE hD hl))
theorem ev_if_gt {x : Int32} {off : Int} (tgt : Nat) (d : decode (mC M) pc = .ok (.ifCond .gt off, 3)) (ht : (pc : Int) + off = (tgt : Int)) (kt : 0 < x → Ev M po px k tgt L st w) (kf : ¬ (0 < x) → Ev M po px k (pc + 3) L st w) : Ev M po px k pc L (.int x :: st) w := by
  intro p l e s m args below meth c dC dI dA as A Q H locs ls hX hE hD hl
  obtain ⟨hx, hb, hml, hown, hts, hst, hlk, htb, hK, hA, hG, hsc⟩ := id hX
  obtain ⟨hP, hDD, hS⟩ := id hD
  exact lv_if_gt hx hb d ht (fun h => (kt h _ _ _ _ _ _ _ _ _ _ _ _ _ _ _ _ _ _ hX hE hD hl)) (fun h => (kf h _ _ _ _ _ _ _ _ _ _ _ _ _ _ _ _ _ _ hX hE hD hl))
theorem ev_icmp_gt {x y : Int32} {off : Int} (tgt : Nat) (d : decode (mC M) pc = .ok (.if_icmp .gt off, 3)) (ht : (pc : Int) + off = (tgt : Int)) (kt : y < x → Ev M po px k tgt L st w) (kf : ¬ (y < x) → Ev M po px k (pc + 3) L st w) : Ev M po px k pc L (.int y :: .int x :: st) w := by
  intro p l e s m args below meth c dC dI dA as A Q H locs ls hX hE hD hl
  obtain ⟨hx, hb, hml, hown, hts, hst, hlk, htb, hK, hA, hG, hsc⟩ := id hX
  obtain ⟨hP, hDD, hS⟩ := id hD
  exact lv_icmp_gt hx hb d ht (fun h => (kt h _ _ _ _ _ _ _ _ _ _ _ _ _ _ _ _ _ _ hX hE hD hl)) (fun h => (kf h _ _ _ _ _ _ _ _ _ _ _ _ _ _ _ _ _ _ hX hE hD hl))
theorem ev_if_le {x : Int32} {off : Int} (tgt : Nat) (d : decode (mC M) pc = .ok (.ifCond .le off, 3)) (ht : (pc : Int) + off = (tgt : Int)) (kt : x ≤ 0 → Ev M po px k tgt L st w) (kf : ¬ (x ≤ 0) → Ev M po px k (pc + 3) L st w) : Ev M po px k pc L (.int x :: st) w := by
  intro p l e s m args below meth c dC dI dA as A Q H locs ls hX hE hD hl
  obtain ⟨hx, hb, hml, hown, hts, hst, hlk, htb, hK, hA, hG, hsc⟩ := id hX
  obtain ⟨hP, hDD, hS⟩ := id hD
  exact lv_if_le hx hb d ht (fun h => (kt h _ _ _ _ _ _ _ _ _ _ _ _ _ _ _ _ _ _ hX hE hD hl)) (fun h => (kf h _ _ _ _ _ _ _ _ _ _ _ _ _ _ _ _ _ _ hX hE hD hl))
theorem ev_icmp_le {x y : Int32} {off : Int} (tgt : Nat) (d : decode (mC M) pc = .ok (.if_icmp .le off, 3)) (ht : (pc : Int) + off = (tgt : Int)) (kt : x ≤ y → Ev M po px k tgt L st w) (kf : ¬ (x ≤ y) → Ev M po px k (pc + 3) L st w) : Ev M po px k pc L (.int y :: .int x :: st) w := by
  intro p l e s m args below meth c dC dI dA as A Q H locs ls hX hE hD hl
  obtain ⟨hx, hb, hml, hown, hts, hst, hlk, htb, hK, hA, hG, hsc⟩ := id hX
  obtain ⟨hP, hDD, hS⟩ := id hD
  exact lv_icmp_le hx hb d ht (fun h => (kt h _ _ _ _ _ _ _ _ _ _ _ _ _ _ _ _ _ _ hX hE hD hl)) (fun h => (kf h _ _ _ _ _ _ _ _ _ _ _ _ _ _ _ _ _ _ hX hE hD hl))
theorem ev_goto {off : Int} (tgt : Nat) (d : decode (mC M) pc = .ok (.goto off, 3)) (ht : (pc : Int) + off = (tgt : Int)) (kk : Ev M po px k tgt L st w) : Ev M po px k pc L st w := by
  intro p l e s m args below meth c dC dI dA as A Q H locs ls hX hE hD hl
  obtain ⟨hx, hb, hml, hown, hts, hst, hlk, htb, hK, hA, hG, hsc⟩ := id hX
  obtain ⟨hP, hDD, hS⟩ := id hD
  exact lv_goto hx hb d ht (kk _ _ _ _ _ _ _ _ _ _ _ _ _ _ _ _ _ _ hX hE hD hl)
theorem ev_lookup {dflt : Int} {ps : Array (Int × Int)} {len : Nat} {x : Int32} {off : Int} (tgt : Nat) (d : decode (mC M) pc = .ok (.lookupswitch dflt ps, len)) (hp : (ps.toList.zip (ps.toList.drop 1)).all (fun (a, next) => a.1 < next.1) = true) (ho : Op.lookupswitch.offset ps.toList dflt x.toInt = off) (ht : (pc : Int) + off = (tgt : Int)) (kk : Ev M po px k tgt L st w) : Ev M po px k pc L (.int x :: st) w := by
  intro p l e s m args below meth c dC dI dA as A Q H locs ls hX hE hD hl
  obtain ⟨hx, hb, hml, hown, hts, hst, hlk, htb, hK, hA, hG, hsc⟩ := id hX
  obtain ⟨hP, hDD, hS⟩ := id hD
  exact lv_lookup hx hb d hp ho ht (kk _ _ _ _ _ _ _ _ _ _ _ _ _ _ _ _ _ _ hX hE hD hl)
theorem ev_tableOut {dflt lo hi : Int} {offs : Array Int} {len : Nat} {x : Int32} (tgt : Nat) (d : decode (mC M) pc = .ok (.tableswitch dflt lo hi offs, len)) (h : x.toInt < lo ∨ hi < x.toInt) (ht : (pc : Int) + dflt = (tgt : Int)) (kk : Ev M po px k tgt L st w) : Ev M po px k pc L (.int x :: st) w := by
  intro p l e s m args below meth c dC dI dA as A Q H locs ls hX hE hD hl
  obtain ⟨hx, hb, hml, hown, hts, hst, hlk, htb, hK, hA, hG, hsc⟩ := id hX
  obtain ⟨hP, hDD, hS⟩ := id hD
  exact lv_tableOut hx hb d h ht (kk _ _ _ _ _ _ _ _ _ _ _ _ _ _ _ _ _ _ hX hE hD hl)
theorem ev_tableIn {dflt lo hi : Int} {offs : Array Int} {len : Nat} {x : Int32} {off : Int} (tgt : Nat) (d : decode (mC M) pc = .ok (.tableswitch dflt lo hi offs, len)) (h1 : ¬ x.toInt < lo) (h2 : ¬ hi < x.toInt) (ho : offs[(x.toInt - lo).toNat]? = some off) (ht : (pc : Int) + off = (tgt : Int)) (kk : Ev M po px k tgt L st w) : Ev M po px k pc L (.int x :: st) w := by
  intro p l e s m args below meth c dC dI dA as A Q H locs ls hX hE hD hl
  obtain ⟨hx, hb, hml, hown, hts, hst, hlk, htb, hK, hA, hG, hsc⟩ := id hX
  obtain ⟨hP, hDD, hS⟩ := id hD
  exact lv_tableIn hx hb d h1 h2 ho ht (kk _ _ _ _ _ _ _ _ _ _ _ _ _ _ _ _ _ _ hX hE hD hl)
theorem ev_sub {L' : LV} (ks : List Nat) (h : lv_pick L ks = L') (kk : Ev M po px k pc L' st w) : Ev M po px k pc L st w := by
  intro p l e s m args below meth c dC dI dA as A Q H locs ls hX hE hD hl
  obtain ⟨hx, hb, hml, hown, hts, hst, hlk, htb, hK, hA, hG, hsc⟩ := id hX
  obtain ⟨hP, hDD, hS⟩ := id hD
  have hl : lv_has ls (mN M) (emL as L') := by
    refine ⟨hl.1, hl.2.1, fun q hq => hl.2.2 q ?_⟩
    subst h
    obtain ⟨q0, h0, rfl⟩ := List.mem_map.mp hq
    obtain ⟨j, -, hj⟩ := List.mem_filterMap.mp h0
    exact List.mem_map.mpr ⟨q0, List.mem_of_getElem? hj, rfl⟩
  exact (kk _ _ _ _ _ _ _ _ _ _ _ _ _ _ _ _ _ _ hX hE hD hl)
theorem ev_ireturn {x : Int32} (d : decode (mC M) pc = .ok (.ireturn, 1)) (hk : k ≤ mK M) (h : po (some (.int x)) w) : Ev M po px k pc L ([.int x]) w := by
  intro p l e s m args below meth c dC dI dA as A Q H locs ls hX hE hD hl
  obtain ⟨hx, hb, hml, hown, hts, hst, hlk, htb, hK, hA, hG, hsc⟩ := id hX
  obtain ⟨hP, hDD, hS⟩ := id hD
  exact W.widen hk (Nat.mul_le_mul (Nat.le_refl 6) hk) (hE.1 _ _ _ _ _ _ h hD hl.1 d)
theorem ev_lreturn {x : Int64} (d : decode (mC M) pc = .ok (.lreturn, 1)) (hk : k ≤ mK M) (h : po (some (.long x)) w) : Ev M po px k pc L ([.long x]) w := by
  intro p l e s m args below meth c dC dI dA as A Q H locs ls hX hE hD hl
  obtain ⟨hx, hb, hml, hown, hts, hst, hlk, htb, hK, hA, hG, hsc⟩ := id hX
  obtain ⟨hP, hDD, hS⟩ := id hD
  exact W.widen hk (Nat.mul_le_mul (Nat.le_refl 6) hk) (hE.1 _ _ _ _ _ _ h hD hl.1 d)
theorem ev_dreturn {x : UInt64} (d : decode (mC M) pc = .ok (.dreturn, 1)) (hk : k ≤ mK M) (h : po (some (.double x)) w) : Ev M po px k pc L ([.double x]) w := by
  intro p l e s m args below meth c dC dI dA as A Q H locs ls hX hE hD hl
  obtain ⟨hx, hb, hml, hown, hts, hst, hlk, htb, hK, hA, hG, hsc⟩ := id hX
  obtain ⟨hP, hDD, hS⟩ := id hD
  exact W.widen hk (Nat.mul_le_mul (Nat.le_refl 6) hk) (hE.1 _ _ _ _ _ _ h hD hl.1 d)
theorem ev_areturn {x : Nat} (d : decode (mC M) pc = .ok (.areturn, 1)) (hk : k ≤ mK M) (h : po (some (.ref x)) w) : Ev M po px k pc L ([.ref x]) w := by
  intro p l e s m args below meth c dC dI dA as A Q H locs ls hX hE hD hl
  obtain ⟨hx, hb, hml, hown, hts, hst, hlk, htb, hK, hA, hG, hsc⟩ := id hX
  obtain ⟨hP, hDD, hS⟩ := id hD
  exact W.widen hk (Nat.mul_le_mul (Nat.le_refl 6) hk) (hE.1 _ _ _ _ _ _ h hD hl.1 d)
theorem ev_return  (d : decode (mC M) pc = .ok (.return_, 1)) (hk : k ≤ mK M) (h : po (none) w) : Ev M po px k pc L ([]) w := by
  intro p l e s m args below meth c dC dI dA as A Q H locs ls hX hE hD hl
  obtain ⟨hx, hb, hml, hown, hts, hst, hlk, htb, hK, hA, hG, hsc⟩ := id hX
  obtain ⟨hP, hDD, hS⟩ := id hD
  exact W.widen hk (Nat.mul_le_mul (Nat.le_refl 6) hk) (hE.1 _ _ _ _ _ _ h hD hl.1 d)
end EV
