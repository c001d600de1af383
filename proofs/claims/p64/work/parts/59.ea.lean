/-! ===== walks that make objects: the world's places begin at sh, a new object takes the next one ===== -/
def emWs (as dA : Nat → Nat) (sh : Nat) (w : PW) : va_W := w.mapIdx (fun k e => (as (k + sh), emE as dA e))
theorem emWs_at (as dA : Nat → Nat) (sh : Nat) (w : PW) (k : Nat) : (emWs as dA sh w)[k]? = (w[k]?).map (fun e => (as (k + sh), emE as dA e)) := by
  simp only [emWs, List.getElem?_mapIdx]
theorem emWs_get {as dA : Nat → Nat} {sh : Nat} {w : PW} {k : Nat} {e : va_E} (h : w[k]? = some e) : (emWs as dA sh w)[k]? = some (as (k + sh), emE as dA e) := by
  rw [emWs_at, h]; rfl
theorem emWs_inv {as dA : Nat → Nat} {sh : Nat} {w : PW} {k : Nat} {x : Nat × va_E} (h : (emWs as dA sh w)[k]? = some x) : ∃ e, w[k]? = some e ∧ x = (as (k + sh), emE as dA e) := by
  rw [emWs_at] at h
  cases hk : w[k]? with
  | none => rw [hk] at h; cases h
  | some e => rw [hk] at h; cases h; exact ⟨e, rfl, rfl⟩
theorem emWs_set (as dA : Nat → Nat) (sh : Nat) (w : PW) (k : Nat) (e : va_E) : (emWs as dA sh w).set k (as (k + sh), emE as dA e) = emWs as dA sh (w.set k e) := by
  apply List.ext_getElem?
  intro j
  rw [emWs_at, List.getElem?_set, List.getElem?_set, emWs_at]
  by_cases hj : k = j
  · subst hj
    rw [if_pos rfl, if_pos rfl]
    have : (emWs as dA sh w).length = w.length := by simp [emWs]
    rw [this]
    by_cases hl : k < w.length
    · rw [if_pos hl, if_pos hl]; rfl
    · rw [if_neg hl, if_neg hl]; rfl
  · rw [if_neg hj, if_neg hj]
theorem emWs_app (as dA : Nat → Nat) (sh : Nat) (w u : PW) : emWs as dA sh (w ++ u) = emWs as dA sh w ++ emWs as dA (sh + w.length) u := by
  apply List.ext_getElem?
  intro j
  have hlen : (emWs as dA sh w).length = w.length := by simp [emWs]
  by_cases hj : j < w.length
  · rw [emWs_at, List.getElem?_append_left hj, List.getElem?_append_left (by omega), emWs_at]
  · rw [emWs_at, List.getElem?_append_right (by omega), List.getElem?_append_right (by omega), emWs_at, hlen]
    have : j + sh = j - w.length + (sh + w.length) := by omega
    rw [this]
/-- references that are known: below n, or from 998 on -/
def RfV (n : Nat) (v : Value) : Prop := ∀ r, v = .ref r → r < n ∨ 998 ≤ r
def RfE (n : Nat) (e : va_E) : Prop := (∀ c fs, e = .inr (c, fs) → ∀ v ∈ fs, RfV n v) ∧ (∀ t m f, e = .inl (t, m, .inr (.inr (.inr (.inr f)))) → ∀ k r, f k = some r → r < n ∨ 998 ≤ r)
def RfW (n : Nat) (w : PW) : Prop := ∀ e ∈ w, RfE n e
def RfL (n : Nat) (L : LV) : Prop := ∀ x ∈ L, RfV n x.2
def RfS (n : Nat) (st : List Value) : Prop := ∀ v ∈ st, RfV n v
theorem RfV.up {n n' : Nat} {v : Value} (h : RfV n v) (hn : n ≤ n') : RfV n' v := fun r hr => (h r hr).imp (fun q => Nat.lt_of_lt_of_le q hn) id
theorem RfE.up {n n' : Nat} {e : va_E} (h : RfE n e) (hn : n ≤ n') : RfE n' e := ⟨fun c fs he v hv => (h.1 c fs he v hv).up hn, fun t m f he k r hf => (h.2 t m f he k r hf).imp (fun q => Nat.lt_of_lt_of_le q hn) id⟩
theorem RfV_int (n : Nat) (x : Int32) : RfV n (.int x) := fun r h => by cases h
theorem RfV_ref {n r : Nat} (h : r < n) : RfV n (.ref r) := fun r' h' => by cases h'; exact Or.inl h
/-- one choice of addresses says what another says, of the places below n and from 998 on -/
def Ag (n : Nat) (as as1 : Nat → Nat) : Prop := ∀ j, (j < n ∨ 998 ≤ j) → as1 j = as j
theorem Ag.rf (n : Nat) (as : Nat → Nat) : Ag n as as := fun _ _ => rfl
theorem Ag.tr {n m : Nat} {as a1 a2 : Nat → Nat} (h1 : Ag n as a1) (h2 : Ag m a1 a2) (hn : n ≤ m) : Ag n as a2 := fun j hj => (h2 j (hj.imp (fun q => Nat.lt_of_lt_of_le q hn) id)).trans (h1 j hj)
theorem em_ag {n : Nat} {as as1 : Nat → Nat} {v : Value} (h : Ag n as as1) (hv : RfV n v) : em as1 v = em as v := by
  cases v with
  | ref r => show Value.ref (as1 r) = Value.ref (as r); rw [h r (hv r rfl)]
  | _ => rfl
theorem emE_ag {n : Nat} {as as1 dA : Nat → Nat} {e : va_E} (h : Ag n as as1) (he : RfE n e) : emE as1 dA e = emE as dA e := by
  rcases e with ⟨t, m, f | f | f | f | f⟩ | ⟨c, fs⟩
  · rfl
  · rfl
  · rfl
  · rfl
  · have hf : (fun k => (f k).map as1) = (fun k => (f k).map as) := by
      funext k
      cases hk : f k with
      | none => rfl
      | some r => show some (as1 r) = some (as r); rw [h r (he.2 t m f rfl k r hk)]
    show (Sum.inl (dA t, (m, Sum.inr (Sum.inr (Sum.inr (Sum.inr (fun k => (f k).map as1)))))) : va_E) = Sum.inl (dA t, (m, Sum.inr (Sum.inr (Sum.inr (Sum.inr (fun k => (f k).map as))))))
    rw [hf]
  · show (Sum.inr (c, fs.map (em as1)) : va_E) = Sum.inr (c, fs.map (em as))
    rw [List.map_congr_left (fun v hv => em_ag h (he.1 c fs rfl v hv))]
theorem emWs_ag {as as1 dA : Nat → Nat} {sh n : Nat} {w : PW} (h : Ag n as as1) (hn : sh + w.length ≤ n) (hw : RfW n w) : emWs as1 dA sh w = emWs as dA sh w := by
  apply List.ext_getElem?
  intro k
  rw [emWs_at, emWs_at]
  cases hk : w[k]? with
  | none => rfl
  | some e =>
    have hl := (List.getElem?_eq_some_iff.mp hk).1
    show some (as1 (k + sh), emE as1 dA e) = some (as (k + sh), emE as dA e)
    rw [h (k + sh) (Or.inl (by omega)), emE_ag h (hw e (List.mem_of_getElem? hk))]
theorem emL_ag {as as1 : Nat → Nat} {n : Nat} {L : LV} (h : Ag n as as1) (hL : RfL n L) : emL as1 L = emL as L := by
  unfold emL
  exact List.map_congr_left (fun x hx => by rw [em_ag h (hL x hx)])
theorem emS_ag {as as1 : Nat → Nat} {n : Nat} {st : List Value} (h : Ag n as as1) (hS : RfS n st) : st.map (em as1) = st.map (em as) := List.map_congr_left (fun x hx => em_ag h (hS x hx))
theorem GX_ag {as as1 : Nat → Nat} {A : Nat → Prop} {U : State} {H : Heap} (h : ∀ j, 998 ≤ j → as1 j = as j) (hG : GX as A U H) : GX as1 A U H := ⟨hG.1, rfl, Iff.rfl, rfl⟩
/-- what stays as it is while a method runs that makes objects -/
def SxA (M : MT) (p : Program) (l : Launch) (s : State) (m : MethodId) (args : Array Value) (meth : Method) (c : Code) (dC : Nat → ClassId) (dI : Nat → Nat → Nat) (dA : Nat → ClassId) (as : Nat → Nat) (A : Nat → Prop) : Prop :=
  p.tables.exec = Jvm.exec ∧ c.code = mC M ∧ c.maxLocals = mN M ∧ s.vm.findClass (mY M).cls = some m.cls ∧ (∀ w ∈ Gw, w.before args s = true) ∧ l.stackTraces = false ∧ meth.name = (mY M).name ∧ va_AO RX0 s ∧ va_K (dC, dI) vwC8 (tyT dA) s ∧ (∀ q, s.heap.size ≤ q → A q) ∧ GX as A s s.heap
theorem SxA.ag {M : MT} {p : Program} {l : Launch} {s : State} {m : MethodId} {args : Array Value} {meth : Method} {c : Code} {dC : Nat → ClassId} {dI : Nat → Nat → Nat} {dA : Nat → ClassId} {as as1 : Nat → Nat} {A : Nat → Prop} (h : ∀ j, 998 ≤ j → as1 j = as j) (hX : SxA M p l s m args meth c dC dI dA as A) : SxA M p l s m args meth c dC dI dA as1 A := by
  obtain ⟨a1, a2, a3, a4, a5, a6, a7, a8, a9, a10, a11⟩ := hX
  exact ⟨a1, a2, a3, a4, a5, a6, a7, a8, a9, a10, GX_ag h a11⟩
def DyA (s : State) (dC : Nat → ClassId) (dI : Nat → Nat → Nat) (dA : Nat → ClassId) (as : Nat → Nat) (A : Nat → Prop) (H : Heap) (locs : List Loc) (sh : Nat) (w : PW) : Prop :=
  va_P (dC, dI) vwC8 (emWs as dA sh w) H ∧ va_D A (emWs as dA sh w) ∧ va_S A s.heap H locs
/-- where the walk ends: program counter, locals, stack, world, cells, slots -/
abbrev XT : Type := Nat × LV × List Value × PW × Nat × Nat
def InvA (n0 sh : Nat) (w : PW) (L : LV) (st : List Value) : Prop := n0 ≤ sh + w.length ∧ sh + w.length ≤ 998 ∧ RfW (sh + w.length) w ∧ RfL (sh + w.length) L ∧ RfS (sh + w.length) st
def EnX (M : MT) (n0 sh : Nat) (X : XT) (p : Program) (l : Launch) (e : Env) (s : State) (m : MethodId) (args : Array Value) (below : List Frame) (meth : Method) (c : Code) (dC : Nat → ClassId) (dI : Nat → Nat → Nat) (dA : Nat → ClassId) (as : Nat → Nat) (A : Nat → Prop) (Q : State → Prop) : Prop :=
  ∀ (as1 : Nat → Nat), Ag n0 as as1 → InvA n0 sh X.2.2.2.1 X.2.1 X.2.2.1 → ∀ (H : Heap) (locs : List Loc) (ls : Array Slot), DyA s dC dI dA as1 A H locs sh X.2.2.2.1 → lv_has ls (mN M) (emL as1 X.2.1) → W p l e (mR M) s m args below meth c H locs X.2.2.2.2.1 X.2.2.2.2.2 Q (F0 m X.1 ls (X.2.2.1.map (em as1)))
def EvA (M : MT) (n0 sh : Nat) (X : XT) (k q pc : Nat) (L : LV) (st : List Value) (w : PW) : Prop :=
  InvA n0 sh w L st → ∀ (p : Program) (l : Launch) (e : Env) (s : State) (m : MethodId) (args : Array Value) (below : List Frame) (meth : Method) (c : Code) (dC : Nat → ClassId) (dI : Nat → Nat → Nat) (dA : Nat → ClassId) (as : Nat → Nat) (A : Nat → Prop) (Q : State → Prop) (H : Heap) (locs : List Loc) (ls : Array Slot),
    SxA M p l s m args meth c dC dI dA as A → EnX M n0 sh X p l e s m args below meth c dC dI dA as A Q → DyA s dC dI dA as A H locs sh w → lv_has ls (mN M) (emL as L) →
    W p l e (mR M) s m args below meth c H locs k q Q (F0 m pc ls (st.map (em as)))
section INVA
variable {n0 sh : Nat} {w : PW} {L : LV} {st : List Value}
theorem InvA.push {v : Value} (h : InvA n0 sh w L st) (hv : RfV (sh + w.length) v) : InvA n0 sh w L (v :: st) := ⟨h.1, h.2.1, h.2.2.1, h.2.2.2.1, fun u hu => by
  rcases List.mem_cons.mp hu with rfl | hu
  · exact hv
  · exact h.2.2.2.2 u hu⟩
theorem InvA.pop {v : Value} (h : InvA n0 sh w L (v :: st)) : InvA n0 sh w L st := ⟨h.1, h.2.1, h.2.2.1, h.2.2.2.1, fun u hu => h.2.2.2.2 u (List.mem_cons_of_mem _ hu)⟩
theorem InvA.top {v : Value} (h : InvA n0 sh w L (v :: st)) : RfV (sh + w.length) v := h.2.2.2.2 v List.mem_cons_self
theorem InvA.st1 {v : Value} {i : Nat} (h : InvA n0 sh w L st) (hv : RfV (sh + w.length) v) : InvA n0 sh w (ls1 L i v) st := ⟨h.1, h.2.1, h.2.2.1, fun x hx => by
  rcases List.mem_cons.mp hx with rfl | hx
  · exact hv
  · exact h.2.2.2.1 x (List.mem_filter.mp hx).1, h.2.2.2.2⟩
theorem InvA.cell {k : Nat} {e : va_E} (h : InvA n0 sh w L st) (he : RfE (sh + w.length) e) : InvA n0 sh (w.set k e) L st := by
  have hl : (w.set k e).length = w.length := List.length_set ..
  refine ⟨by rw [hl]; exact h.1, by rw [hl]; exact h.2.1, ?_, by rw [hl]; exact h.2.2.2.1, by rw [hl]; exact h.2.2.2.2⟩
  rw [hl]
  intro x hx
  rcases List.mem_or_eq_of_mem_set hx with hx | rfl
  · exact h.2.2.1 x hx
  · exact he
theorem InvA.loc {i : Nat} {v : Value} (h : InvA n0 sh w L st) (hi : L.lookup i = some v) : RfV (sh + w.length) v := h.2.2.2.1 _ (lk_mem hi)
/-- one more cell, its place on the stack -/
theorem InvA.new {e : va_E} (h : InvA n0 sh w L st) (hlen : sh + w.length < 998) (he : RfE (sh + w.length) e) : InvA n0 sh (w ++ [e]) L (.ref (sh + w.length) :: st) := by
  have hl : sh + (w ++ [e]).length = sh + w.length + 1 := by rw [List.length_append]; rfl
  refine ⟨by rw [hl]; exact Nat.le_succ_of_le h.1, by rw [hl]; omega, ?_, ?_, ?_⟩
  · rw [hl]
    intro x hx
    rcases List.mem_append.mp hx with hx | hx
    · exact (h.2.2.1 x hx).up (by omega)
    · rw [List.mem_singleton.mp hx]; exact he.up (by omega)
  · rw [hl]; exact fun x hx => (h.2.2.2.1 x hx).up (by omega)
  · rw [hl]
    intro x hx
    rcases List.mem_cons.mp hx with rfl | hx
    · exact RfV_ref (by omega)
    · exact (h.2.2.2.2 x hx).up (by omega)
end INVA
section EA
variable {M : MT} {n0 sh : Nat} {X : XT} {k q pc : Nat} {L : LV} {st : List Value} {w : PW}
theorem ea_exit {k' q' : Nat} (hk : k ≤ k') (hq : q ≤ q') : EvA M n0 sh (pc, L, st, w, k', q') k q pc L st w := by
  intro hI p l e s m args below meth c dC dI dA as A Q H locs ls hX hE hD hl
  exact W.widen hk hq (hE as (Ag.rf _ _) hI H locs ls hD hl)
theorem ea_exit0 {k' q' : Nat} (hk : k ≤ k') (hq : q ≤ q') : EvA M n0 sh (pc, [], st, w, k', q') k q pc L st w := by
  intro hI p l e s m args below meth c dC dI dA as A Q H locs ls hX hE hD hl
  exact W.widen hk hq (hE as (Ag.rf _ _) ⟨hI.1, hI.2.1, hI.2.2.1, fun x hx => absurd hx List.not_mem_nil, hI.2.2.2.2⟩ H locs ls hD ⟨hl.1, hl.2.1, fun x hx => absurd hx List.not_mem_nil⟩)
theorem ea_w {w' : PW} (h : w = w') (kk : EvA M n0 sh X k q pc L st w') : EvA M n0 sh X k q pc L st w := by rw [h]; exact kk
theorem ea_iconst {n : Int} (v : Int32) (d : decode (mC M) pc = .ok (.iconst n, 1)) (hv : Int32.ofInt n = v) (kk : EvA M n0 sh X k q (pc + 1) L (.int v :: st) w) : EvA M n0 sh X k q pc L st w := by
  intro hI p l e s m args below meth c dC dI dA as A Q H locs ls hX hE hD hl
  obtain ⟨hx, hb, hml, hown, hts, hst, hnm, hO, hK, hA, hG⟩ := id hX
  exact lv_iconst hx hb d hv (kk (hI.push (RfV_int _ _)) _ _ _ _ _ _ _ _ _ _ _ _ _ _ _ _ _ _ hX hE hD hl)
theorem ea_bipush {n : Int} (v : Int32) (d : decode (mC M) pc = .ok (.bipush n, 2)) (hv : (Int8.ofInt n).toInt32 = v) (kk : EvA M n0 sh X k q (pc + 2) L (.int v :: st) w) : EvA M n0 sh X k q pc L st w := by
  intro hI p l e s m args below meth c dC dI dA as A Q H locs ls hX hE hD hl
  obtain ⟨hx, hb, hml, hown, hts, hst, hnm, hO, hK, hA, hG⟩ := id hX
  exact lv_bipush hx hb d hv (kk (hI.push (RfV_int _ _)) _ _ _ _ _ _ _ _ _ _ _ _ _ _ _ _ _ _ hX hE hD hl)
theorem ea_sipush {n : Int} (v : Int32) (d : decode (mC M) pc = .ok (.sipush n, 3)) (hv : (Int16.ofInt n).toInt32 = v) (kk : EvA M n0 sh X k q (pc + 3) L (.int v :: st) w) : EvA M n0 sh X k q pc L st w := by
  intro hI p l e s m args below meth c dC dI dA as A Q H locs ls hX hE hD hl
  obtain ⟨hx, hb, hml, hown, hts, hst, hnm, hO, hK, hA, hG⟩ := id hX
  exact lv_sipush hx hb d hv (kk (hI.push (RfV_int _ _)) _ _ _ _ _ _ _ _ _ _ _ _ _ _ _ _ _ _ hX hE hD hl)
theorem ea_aload_n {a : Fin 4} (i : Nat) {x : Nat} (d : decode (mC M) pc = .ok (.aload_n a, 1)) (hi : (a : Nat) = i) (h : L.lookup i = some (.ref x)) (kk : EvA M n0 sh X k q (pc + 1) L (.ref x :: st) w) : EvA M n0 sh X k q pc L st w := by
  intro hI p l e s m args below meth c dC dI dA as A Q H locs ls hX hE hD hl
  obtain ⟨hx, hb, hml, hown, hts, hst, hnm, hO, hK, hA, hG⟩ := id hX
  exact lv_aload_n hx hb d hi (lk_at hl h) (kk (hI.push (hI.loc h)) _ _ _ _ _ _ _ _ _ _ _ _ _ _ _ _ _ _ hX hE hD hl)
theorem ea_iload_n {a : Fin 4} (i : Nat) {x : Int32} (d : decode (mC M) pc = .ok (.iload_n a, 1)) (hi : (a : Nat) = i) (h : L.lookup i = some (.int x)) (kk : EvA M n0 sh X k q (pc + 1) L (.int x :: st) w) : EvA M n0 sh X k q pc L st w := by
  intro hI p l e s m args below meth c dC dI dA as A Q H locs ls hX hE hD hl
  obtain ⟨hx, hb, hml, hown, hts, hst, hnm, hO, hK, hA, hG⟩ := id hX
  exact lv_iload_n hx hb d hi (lk_at hl h) (kk (hI.push (RfV_int _ _)) _ _ _ _ _ _ _ _ _ _ _ _ _ _ _ _ _ _ hX hE hD hl)
theorem ea_dup {v : Value} (d : decode (mC M) pc = .ok (.dup, 1)) (hv : v.category = 1) (kk : EvA M n0 sh X k q (pc + 1) L (v :: v :: st) w) : EvA M n0 sh X k q pc L (v :: st) w := by
  intro hI p l e s m args below meth c dC dI dA as A Q H locs ls hX hE hD hl
  obtain ⟨hx, hb, hml, hown, hts, hst, hnm, hO, hK, hA, hG⟩ := id hX
  exact lv_dup hx hb d ((em_cat as v).trans hv) (kk (hI.push hI.top) _ _ _ _ _ _ _ _ _ _ _ _ _ _ _ _ _ _ hX hE hD hl)
theorem ea_istore_n {a : Fin 4} (i : Nat) {x : Int32} {L' : LV} (d : decode (mC M) pc = .ok (.istore_n a, 1)) (hi : (a : Nat) = i) (hn : i < mN M) (hL : ls1 L i (.int x) = L') (kk : EvA M n0 sh X k q (pc + 1) L' st w) : EvA M n0 sh X k q pc L (.int x :: st) w := by
  intro hI p l e s m args below meth c dC dI dA as A Q H locs ls hX hE hD hl
  obtain ⟨hx, hb, hml, hown, hts, hst, hnm, hO, hK, hA, hG⟩ := id hX
  subst hL
  exact lv_istore_n hx hb d hi hl hn (emL_ls1 as L i (.int x)).symm (fun ls hl => (kk (hI.pop.st1 (RfV_int _ _)) _ _ _ _ _ _ _ _ _ _ _ _ _ _ _ _ _ _ hX hE hD hl))
theorem ea_istore {i : Nat} {x : Int32} {L' : LV} (d : decode (mC M) pc = .ok (.istore i, 2)) (hn : i < mN M) (hL : ls1 L i (.int x) = L') (kk : EvA M n0 sh X k q (pc + 2) L' st w) : EvA M n0 sh X k q pc L (.int x :: st) w := by
  intro hI p l e s m args below meth c dC dI dA as A Q H locs ls hX hE hD hl
  obtain ⟨hx, hb, hml, hown, hts, hst, hnm, hO, hK, hA, hG⟩ := id hX
  subst hL
  exact lv_istore hx hb d hl hn (emL_ls1 as L i (.int x)).symm (fun ls hl => (kk (hI.pop.st1 (RfV_int _ _)) _ _ _ _ _ _ _ _ _ _ _ _ _ _ _ _ _ _ hX hE hD hl))
theorem ea_astore_n {a : Fin 4} (i : Nat) {x : Nat} {L' : LV} (d : decode (mC M) pc = .ok (.astore_n a, 1)) (hi : (a : Nat) = i) (hn : i < mN M) (hL : ls1 L i (.ref x) = L') (kk : EvA M n0 sh X k q (pc + 1) L' st w) : EvA M n0 sh X k q pc L (.ref x :: st) w := by
  intro hI p l e s m args below meth c dC dI dA as A Q H locs ls hX hE hD hl
  obtain ⟨hx, hb, hml, hown, hts, hst, hnm, hO, hK, hA, hG⟩ := id hX
  subst hL
  exact lv_astore_n hx hb d hi hl hn (emL_ls1 as L i (.ref x)).symm (fun ls hl => (kk (hI.pop.st1 hI.top) _ _ _ _ _ _ _ _ _ _ _ _ _ _ _ _ _ _ hX hE hD hl))
theorem ea_iinc {i : Nat} {n : Int} {x : Int32} (v : Int32) {L' : LV} (d : decode (mC M) pc = .ok (.iinc i n, 3)) (h : L.lookup i = some (.int x)) (hv : x + Int32.ofInt n = v) (hn : i < mN M) (hL : ls1 L i (.int v) = L') (kk : EvA M n0 sh X k q (pc + 3) L' st w) : EvA M n0 sh X k q pc L st w := by
  intro hI p l e s m args below meth c dC dI dA as A Q H locs ls hX hE hD hl
  obtain ⟨hx, hb, hml, hown, hts, hst, hnm, hO, hK, hA, hG⟩ := id hX
  subst hL
  obtain ⟨j, hj⟩ := List.getElem?_of_mem (List.mem_map.mpr ⟨(i, Value.int x), lk_mem h, rfl⟩ : (i, Value.int x) ∈ emL as L)
  exact lv_iinc hx hb d hl hj hv hn (emL_ls1 as L i (.int v)).symm (fun ls hl => (kk (hI.st1 (RfV_int _ _)) _ _ _ _ _ _ _ _ _ _ _ _ _ _ _ _ _ _ hX hE hD hl))
theorem ea_goto {off : Int} (tgt : Nat) (d : decode (mC M) pc = .ok (.goto off, 3)) (ht : (pc : Int) + off = (tgt : Int)) (kk : EvA M n0 sh X k q tgt L st w) : EvA M n0 sh X k q pc L st w := by
  intro hI p l e s m args below meth c dC dI dA as A Q H locs ls hX hE hD hl
  obtain ⟨hx, hb, hml, hown, hts, hst, hnm, hO, hK, hA, hG⟩ := id hX
  exact lv_goto hx hb d ht (kk hI _ _ _ _ _ _ _ _ _ _ _ _ _ _ _ _ _ _ hX hE hD hl)
theorem ea_ge_t {x y : Int32} {off : Int} (tgt : Nat) (d : decode (mC M) pc = .ok (.if_icmp .ge off, 3)) (ht : (pc : Int) + off = (tgt : Int)) (h : y ≤ x) (kk : EvA M n0 sh X k q tgt L st w) : EvA M n0 sh X k q pc L (.int y :: .int x :: st) w := by
  intro hI p l e s m args below meth c dC dI dA as A Q H locs ls hX hE hD hl
  obtain ⟨hx, hb, hml, hown, hts, hst, hnm, hO, hK, hA, hG⟩ := id hX
  exact lv_icmp_ge hx hb d ht (fun _ => (kk hI.pop.pop _ _ _ _ _ _ _ _ _ _ _ _ _ _ _ _ _ _ hX hE hD hl)) (fun z => absurd h z)
theorem ea_ge_f {x y : Int32} {off : Int} (tgt : Nat) (d : decode (mC M) pc = .ok (.if_icmp .ge off, 3)) (ht : (pc : Int) + off = (tgt : Int)) (h : ¬ y ≤ x) (kk : EvA M n0 sh X k q (pc + 3) L st w) : EvA M n0 sh X k q pc L (.int y :: .int x :: st) w := by
  intro hI p l e s m args below meth c dC dI dA as A Q H locs ls hX hE hD hl
  obtain ⟨hx, hb, hml, hown, hts, hst, hnm, hO, hK, hA, hG⟩ := id hX
  exact lv_icmp_ge hx hb d ht (fun z => absurd z h) (fun _ => (kk hI.pop.pop _ _ _ _ _ _ _ _ _ _ _ _ _ _ _ _ _ _ hX hE hD hl))
theorem ea_iadd {x y : Int32} (d : decode (mC M) pc = .ok (.iadd, 1)) (kk : EvA M n0 sh X k q (pc + 1) L (.int (x + y) :: st) w) : EvA M n0 sh X k q pc L (.int y :: .int x :: st) w := by
  intro hI p l e s m args below meth c dC dI dA as A Q H locs ls hX hE hD hl
  obtain ⟨hx, hb, hml, hown, hts, hst, hnm, hO, hK, hA, hG⟩ := id hX
  exact lv_iadd hx hb d (kk (hI.pop.pop.push (RfV_int _ _)) _ _ _ _ _ _ _ _ _ _ _ _ _ _ _ _ _ _ hX hE hD hl)
theorem ea_getfield {idx a ci : Nat} {fs : List Value} {v : Value} (kf a0 : Nat) (ha : a = a0 + sh) (d : decode (mC M) pc = .ok (.getfield idx, 3)) (hf : FO (mY M).cls idx ci kf) (hw : w[a0]? = some (.inr (ci, fs))) (hv : fs[kf]? = some v) (kk : EvA M n0 sh X k q (pc + 3) L (v :: st) w) : EvA M n0 sh X k q pc L (.ref a :: st) w := by
  intro hI p l e s m args below meth c dC dI dA as A Q H locs ls hX hE hD hl
  obtain ⟨hx, hb, hml, hown, hts, hst, hnm, hO, hK, hA, hG⟩ := id hX
  obtain ⟨hP, hDD, hS⟩ := id hD
  subst ha
  obtain ⟨C, T, N, ty, ⟨c1, c2, c3, c4⟩, hkN, hlw⟩ := hf
  exact va_get hx hb hts c2 hown hK hP a0 (emWs_get hw) c1 kf hkN (hts _ hlw) (fun _ h => h) (by rw [List.getElem?_map, hv]; rfl) d (kk (hI.pop.push ((hI.2.2.1 _ (List.mem_of_getElem? hw)).1 ci fs rfl v (List.mem_of_getElem? hv))) _ _ _ _ _ _ _ _ _ _ _ _ _ _ _ _ _ _ hX hE hD hl)
theorem RfE_set {n ci kf : Nat} {fs : List Value} {v : Value} (h : RfE n (.inr (ci, fs))) (hv : RfV n v) : RfE n (.inr (ci, fs.set kf v)) := by
  refine ⟨fun c fs' he u hu => ?_, fun t m f he => (by cases he)⟩
  cases he
  rcases List.mem_or_eq_of_mem_set hu with hu | rfl
  · exact h.1 ci fs rfl u hu
  · exact hv
theorem ea_putfield {idx a ci : Nat} {fs : List Value} {v : Value} (kf a0 : Nat) {t : FieldType} {w' : PW} (ha : a = a0 + sh) (d : decode (mC M) pc = .ok (.putfield idx, 3)) (hf : FP9 (mY M).cls idx ci kf t) (hw : w[a0]? = some (.inr (ci, fs))) (hkl : kf < fs.length) (hn : ∀ as, narrow t (em as v) = em as v) (hfi : ∀ as, fits t (em as v) = true) (hw' : w.set a0 (.inr (ci, fs.set kf v)) = w') (kk : EvA M n0 sh X k q (pc + 3) L st w') : EvA M n0 sh X k q pc L (v :: .ref a :: st) w := by
  intro hI p l e s m args below meth c dC dI dA as A Q H locs ls hX hE hD hl
  obtain ⟨hx, hb, hml, hown, hts, hst, hnm, hO, hK, hA, hG⟩ := id hX
  obtain ⟨hP, hDD, hS⟩ := id hD
  subst ha; subst hw'
  obtain ⟨C, T, N, ty, ⟨c1, c2, c3, c4⟩, hkN, hlw, hfin, hty⟩ := hf
  have e0 : (as (a0 + sh), (Sum.inr (ci, (fs.map (em as)).set kf (em as v)) : va_E)) = (as (a0 + sh), emE as dA (.inr (ci, fs.set kf v))) := by simp [emE, List.map_set]
  refine va_put hx hb hts c2 ty c3 c4 hown hK hP hDD hS a0 (emWs_get hw) c1 kf hkN (hts _ hlw) (fun _ h => h) hfin hty (hn as) (hfi as) (by simpa using hkl) d (fun H1 locs1 q1 q2 q3 => ?_)
  rw [e0, emWs_set] at q1 q2
  exact (kk (hI.pop.pop.cell (RfE_set (hI.2.2.1 _ (List.mem_of_getElem? hw)) hI.top)) _ _ _ _ _ _ _ _ _ _ _ _ _ _ _ _ _ _ hX hE ⟨q1, q2, q3⟩ hl)
/-- a final field, in its class's constructor -/
def FPF (own : String) (idx ci kf : Nat) (t : FieldType) : Prop := ∃ (C : String) (T : u_T) (N : Nat) (ty : Nat → FieldType), CF ci C T N ty ∧ kf < N ∧ Cond.fieldLink own idx (T kf).1 (T kf).2.1 (T kf).2.2.1 ∈ Gw ∧ (T kf).2.2.2 = true ∧ (T kf).1 = own ∧ parseFieldDescriptor (T kf).2.2.1 = some t
theorem ea_putF {idx a ci : Nat} {fs : List Value} {v : Value} (kf a0 : Nat) {t : FieldType} {w' : PW} (ha : a = a0 + sh) (hin : (mY M).name = "<init>") (d : decode (mC M) pc = .ok (.putfield idx, 3)) (hf : FPF (mY M).cls idx ci kf t) (hw : w[a0]? = some (.inr (ci, fs))) (hkl : kf < fs.length) (hn : ∀ as, narrow t (em as v) = em as v) (hfi : ∀ as, fits t (em as v) = true) (hw' : w.set a0 (.inr (ci, fs.set kf v)) = w') (kk : EvA M n0 sh X k q (pc + 3) L st w') : EvA M n0 sh X k q pc L (v :: .ref a :: st) w := by
  intro hI p l e s m args below meth c dC dI dA as A Q H locs ls hX hE hD hl
  obtain ⟨hx, hb, hml, hown, hts, hst, hnm, hO, hK, hA, hG⟩ := id hX
  obtain ⟨hP, hDD, hS⟩ := id hD
  subst ha; subst hw'
  obtain ⟨C, T, N, ty, ⟨c1, c2, c3, c4⟩, hkN, hlw, hfin, hdc, hty⟩ := hf
  have e0 : (as (a0 + sh), (Sum.inr (ci, (fs.map (em as)).set kf (em as v)) : va_E)) = (as (a0 + sh), emE as dA (.inr (ci, fs.set kf v))) := by simp [emE, List.map_set]
  refine va_putF hx hb hts c2 ty c3 c4 hown hK hP hDD hS a0 (emWs_get hw) c1 kf hkN (hts _ hlw) (fun _ h => h) hfin (hnm.trans hin) hdc hty (hn as) (hfi as) (by simpa using hkl) d (fun H1 locs1 q1 q2 q3 => ?_)
  rw [e0, emWs_set] at q1 q2
  exact (kk (hI.pop.pop.cell (RfE_set (hI.2.2.1 _ (List.mem_of_getElem? hw)) hI.top)) _ _ _ _ _ _ _ _ _ _ _ _ _ _ _ _ _ _ hX hE ⟨q1, q2, q3⟩ hl)
theorem ea_objInit {idx a : Nat} (d : decode (mC M) pc = .ok (.invokespecial idx, 3)) (h1 : Cond.methodLink (mY M).cls idx Lib.objectInit ∈ Gw) (h2 : Cond.instanceMethod Lib.objectInit ∈ Gw) (h3 : Cond.code Lib.objectInit ⟨#[0xb1]⟩ 1 none ∈ Gw) (hf : 1 ≤ (mR M).frames) (hlo : 20 ≤ (mR M).locals) (hs : stB st = true) (kk : EvA M n0 sh X k q (pc + 3) L st w) : EvA M n0 sh X k q pc L (.ref a :: st) w := by
  intro hI p l e s m args below meth c dC dI dA as A Q H locs ls hX hE hD hl
  obtain ⟨hx, hb, hml, hown, hts, hst, hnm, hO, hK, hA, hG⟩ := id hX
  refine W.objInit hx hb hown (hts _ h1) (hts _ h2) (hts _ h3) rfl (hl.1.trans hml.symm) rfl d hf ?_ ?_
  · exact Nat.le_trans (Nat.add_le_add_right (lv_room (by rw [cat_map]; exact Nat.le_of_ble_eq_true hs)) 12) hlo
  · exact kk hI.pop _ _ _ _ _ _ _ _ _ _ _ _ _ _ _ _ _ _ hX hE hD hl
/-- one more cell -/
theorem ea_alloc {k' q' pc' qq : Nat} {e0 : va_E} {p : Program} {l : Launch} {e : Env} {s : State} {m : MethodId} {args : Array Value} {below : List Frame} {meth : Method} {c : Code} {dC : Nat → ClassId} {dI : Nat → Nat → Nat} {dA : Nat → ClassId} {as : Nat → Nat} {A : Nat → Prop} {Q : State → Prop} {H1 : Heap} {locs : List Loc} {ls : Array Slot} (hI : InvA n0 sh w L st) (hlen : sh + w.length < 998) (he : RfE (sh + w.length) e0) (hX : SxA M p l s m args meth c dC dI dA as A) (hE : EnX M n0 sh X p l e s m args below meth c dC dI dA as A Q) (hl : lv_has ls (mN M) (emL as L))
    (hP1 : va_P (dC, dI) vwC8 (emWs as dA sh w ++ [(qq, emE as dA e0)]) H1) (hD1 : va_D A (emWs as dA sh w ++ [(qq, emE as dA e0)])) (hS1 : va_S A s.heap H1 locs) (kk : EvA M n0 sh X k' q' pc' L (.ref (sh + w.length) :: st) (w ++ [e0])) : W p l e (mR M) s m args below meth c H1 locs k' q' Q (F0 m pc' ls (.ref qq :: st.map (em as))) := by
  have ha : Ag (sh + w.length) as (fun j => if j = sh + w.length then qq else as j) := fun j hj => if_neg (by omega)
  generalize hf : (fun j => if j = sh + w.length then qq else as j) = as1 at ha
  have hq : as1 (sh + w.length) = qq := by rw [← hf]; exact if_pos rfl
  have ew : emWs as1 dA sh (w ++ [e0]) = emWs as dA sh w ++ [(qq, emE as dA e0)] := by
    rw [emWs_app, emWs_ag ha (Nat.le_refl _) hI.2.2.1]
    show _ ++ [(as1 (0 + (sh + w.length)), emE as1 dA e0)] = _
    rw [Nat.zero_add, hq, emE_ag ha he]
  have r := kk (hI.new hlen he) p l e s m args below meth c dC dI dA as1 A Q H1 locs ls (hX.ag (fun j hj => ha j (Or.inr hj))) (fun as2 h2 => hE as2 (fun j hj => (h2 j hj).trans (ha j (hj.imp (fun z => Nat.lt_of_lt_of_le z hI.1) id)))) ⟨by rw [ew]; exact hP1, by rw [ew]; exact hD1, hS1⟩ (by rw [emL_ag ha hI.2.2.2.1]; exact hl)
  have es : (Value.ref (sh + w.length) :: st).map (em as1) = .ref qq :: st.map (em as) := by
    show Value.ref (as1 (sh + w.length)) :: st.map (em as1) = _
    rw [hq, emS_ag ha hI.2.2.2.2]
  rw [es] at r
  exact r
theorem ea_new {idx ci : Nat} {C : String} {T : u_T} {N : Nat} {ty : Nat → FieldType} (fs : List Value) {w' : PW} (d : decode (mC M) pc = .ok (.new idx, 3)) (hc : CF ci C T N ty) (h1 : Cond.classLink (mY M).cls idx C ∈ Gw) (h2 : Cond.instantiable C N ∈ Gw) (h3 : Cond.initialized C ∈ Gw) (hfs : ∀ j, j < N → defaultValue (ty j) = vp_V fs j) (hfe : ∀ v ∈ fs, ∀ r, v ≠ .ref r) (hR : k + 1 ≤ (mR M).cells ∧ q + N ≤ (mR M).slots) (hlen : sh + w.length < 998) (hw' : w ++ [.inr (ci, fs)] = w') (kk : EvA M n0 sh X (k + 1) (q + N) (pc + 3) L (.ref (sh + w.length) :: st) w') : EvA M n0 sh X k q pc L st w := by
  intro hI p l e s m args below meth c dC dI dA as A Q H locs ls hX hE hD hl
  obtain ⟨hx, hb, hml, hown, hts, hst, hnm, hO, hK, hA, hG⟩ := id hX
  obtain ⟨hP, hDD, hS⟩ := id hD
  obtain ⟨c1, c2, c3, c4⟩ := hc
  subst hw'
  have ef : emE as dA (.inr (ci, fs)) = .inr (ci, fs) := by
    show (Sum.inr (ci, fs.map (em as)) : va_E) = _
    have : fs.map (em as) = fs := by
      rw [List.map_congr_left (g := id) (fun v hv => ?_)]
      · exact List.map_id fs
      · cases v with
        | ref r => exact absurd rfl (hfe _ hv r)
        | _ => rfl
    rw [this]
  refine va_new hx hb hts c2 ty c3 hown (hts _ h1) (hts _ h2) (hts _ h3) hK hP hDD hS hA c1 hfs hR.1 hR.2 d (fun qq H1 p1 d1 s1 => ?_)
  exact ea_alloc (e0 := .inr (ci, fs)) hI hlen ⟨fun c' fs' he v hv r hr => by cases he; exact absurd hr (hfe v hv r), fun t m f he => (by cases he)⟩ hX hE hl (by rw [ef]; exact p1) (by rw [ef]; exact d1) s1 kk
theorem ea_newI {n : Nat} {w' : PW} (d : decode (mC M) pc = .ok (.newarray .int, 2)) (h1 : Cond.arrayClass .int ∈ Gw) (hn : n < 1000) (hR : k + 1 ≤ (mR M).cells ∧ q + n ≤ (mR M).slots) (hlen : sh + w.length < 998) (hw' : w ++ [.inl (0, n, .inl (tr n (fun _ => nI 0)))] = w') (kk : EvA M n0 sh X (k + 1) (q + n) (pc + 2) L (.ref (sh + w.length) :: st) w') : EvA M n0 sh X k q pc L (.int (nI n) :: st) w := by
  intro hI p l e s m args below meth c dC dI dA as A Q H locs ls hX hE hD hl
  obtain ⟨hx, hb, hml, hown, hts, hst, hnm, hO, hK, hA, hG⟩ := id hX
  obtain ⟨hP, hDD, hS⟩ := id hD
  subst hw'
  refine va_newa (atype := .int) (ty := .int) hx hb (hts _ h1) rfl hK hP hDD hS hA (N' := n) (a0 := (n, .inl (tr n (fun _ => nI 0)))) (fun cA => ?_) (nI_pos (by omega)) (nI_clamp (by omega)) (by show n * 4 ≤ _; omega) hR.1 hR.2 d (fun qq cA H1 k1 p1 d1 s1 => ?_)
  · rw [vp_cell_i]
    exact cell_congr (g := fun _ => 0) n (fun j hj => tr_at hj)
  · have ec : cA = dA 0 := Option.some.inj ((va_nm_int (k1.2 4 (cA, .int) rfl).2).symm.trans (va_nm_int (hK.2 0 (dA 0, .int) rfl).2))
    subst ec
    exact ea_alloc (e0 := .inl (0, n, .inl (tr n (fun _ => nI 0)))) hI.pop hlen ⟨fun c' fs' he => (by cases he), fun t m f he => (by cases he)⟩ hX hE hl p1 d1 s1 kk
theorem ea_newZ {n : Nat} {w' : PW} (d : decode (mC M) pc = .ok (.newarray .boolean, 2)) (h1 : Cond.arrayClass .boolean ∈ Gw) (hn : n < 1000) (hR : k + 1 ≤ (mR M).cells ∧ q + n ≤ (mR M).slots) (hlen : sh + w.length < 998) (hw' : w ++ [.inl (1, n, .inl (tr n (fun _ => nI 0)))] = w') (kk : EvA M n0 sh X (k + 1) (q + n) (pc + 2) L (.ref (sh + w.length) :: st) w') : EvA M n0 sh X k q pc L (.int (nI n) :: st) w := by
  intro hI p l e s m args below meth c dC dI dA as A Q H locs ls hX hE hD hl
  obtain ⟨hx, hb, hml, hown, hts, hst, hnm, hO, hK, hA, hG⟩ := id hX
  obtain ⟨hP, hDD, hS⟩ := id hD
  subst hw'
  refine va_newa (atype := .boolean) (ty := .boolean) hx hb (hts _ h1) rfl hK hP hDD hS hA (N' := n) (a0 := (n, .inl (tr n (fun _ => nI 0)))) (fun cA => ?_) (nI_pos (by omega)) (nI_clamp (by omega)) (by show n * 1 ≤ _; omega) hR.1 hR.2 d (fun qq cA H1 k1 p1 d1 s1 => ?_)
  · rw [vp_cell_i]
    exact cell_congr (g := fun _ => 0) n (fun j hj => tr_at hj)
  · have ec : cA = dA 1 := Option.some.inj ((va_nm_boolean (k1.2 4 (cA, .boolean) rfl).2).symm.trans (va_nm_boolean (hK.2 1 (dA 1, .boolean) rfl).2))
    subst ec
    exact ea_alloc (e0 := .inl (1, n, .inl (tr n (fun _ => nI 0)))) hI.pop hlen ⟨fun c' fs' he => (by cases he), fun t m f he => (by cases he)⟩ hX hE hl p1 d1 s1 kk
theorem ea_newQ {idx n : Nat} {w' : PW} (d : decode (mC M) pc = .ok (.anewarray idx, 3)) (h1 : Cond.classLink (mY M).cls idx RX0 ∈ Gw) (hn : n < 1000) (hR : k + 1 ≤ (mR M).cells ∧ q + n ≤ (mR M).slots) (hlen : sh + w.length < 998) (hw' : w ++ [.inl (3, n, .inr (.inr (.inr (.inr (fun _ => none)))))] = w') (kk : EvA M n0 sh X (k + 1) (q + n) (pc + 3) L (.ref (sh + w.length) :: st) w') : EvA M n0 sh X k q pc L (.int (nI n) :: st) w := by
  intro hI p l e s m args below meth c dC dI dA as A Q H locs ls hX hE hD hl
  obtain ⟨hx, hb, hml, hown, hts, hst, hnm, hO, hK, hA, hG⟩ := id hX
  obtain ⟨hP, hDD, hS⟩ := id hD
  subst hw'
  refine va_newq hx hb hown (hts _ h1) hO hK hP hDD hS hA (N' := n) (nI_pos (by omega)) (nI_clamp (by omega)) (by omega) hR.1 hR.2 d (fun qq cA H1 k1 p1 d1 s1 => ?_)
  have ec : cA = dA 3 := by
    obtain ⟨_, _, -, -, -, f1⟩ := (k1.2 4 (cA, .object RX0) rfl).2
    obtain ⟨_, _, -, -, -, f2⟩ := (hK.2 3 (dA 3, .object RX0) rfl).2
    exact Option.some.inj (f1.symm.trans f2)
  subst ec
  exact ea_alloc (e0 := .inl (3, n, .inr (.inr (.inr (.inr (fun _ => none)))))) hI.pop hlen ⟨fun c' fs' he => (by cases he), fun t m f he k r hf => by cases he; cases hf⟩ hX hE hl p1 d1 s1 kk
theorem ea_iast {a n : Nat} {i x : Int32} {F : Nat → Int32} {w' : PW} (j a0 : Nat) (ha : a = a0 + sh) (d : decode (mC M) pc = .ok (.iastore, 1)) (hw : w[a0]? = some (.inl (0, n, .inl (tr n F)))) (hi : i = nI j) (hj : j < n) (hn : n < 1000) (hw' : w.set a0 (.inl (0, n, .inl (tr n (upd F j x)))) = w') (kk : EvA M n0 sh X k q (pc + 1) L st w') : EvA M n0 sh X k q pc L (.int x :: .int i :: .ref a :: st) w := by
  intro hI p l e s m args below meth c dC dI dA as A Q H locs ls hX hE hD hl
  obtain ⟨hx, hb, hml, hown, hts, hst, hnm, hO, hK, hA, hG⟩ := id hX
  obtain ⟨hP, hDD, hS⟩ := id hD
  subst ha; subst hw'; subst hi
  refine va_iast hx hb hK hP hDD hS a0 0 (emWs_get hw) rfl (vpi hj (by omega)) d (fun H1 locs1 q1 q2 q3 => ?_)
  have e0 := emWs_set as dA sh w a0 (.inl (0, n, .inl (tr n (upd F j x))))
  rw [cl_nI hj (by omega), tr_upd hj] at q1 q2
  exact (kk (hI.pop.pop.pop.cell ⟨fun c' fs' he => (by cases he), fun t m f he => (by cases he)⟩) _ _ _ _ _ _ _ _ _ _ _ _ _ _ _ _ _ _ hX hE ⟨e0 ▸ q1, e0 ▸ q2, q3⟩ hl)
theorem ea_aast {a n r ci : Nat} {i : Int32} {f : Nat → Option Nat} {fs : List Value} {w' : PW} (j a0 r0 : Nat) (ha : a = a0 + sh) (hr : r = r0 + sh) (d : decode (mC M) pc = .ok (.aastore, 1)) (hw : w[a0]? = some (.inl (3, n, .inr (.inr (.inr (.inr f)))))) (hv : w[r0]? = some (.inr (0, fs))) (hi : i = nI j) (hj : j < n) (hn : n < 1000) (hw' : w.set a0 (.inl (3, n, .inr (.inr (.inr (.inr (va_up f j (some r))))))) = w') (kk : EvA M n0 sh X k q (pc + 1) L st w') : EvA M n0 sh X k q pc L (.ref r :: .int i :: .ref a :: st) w := by
  intro hI p l e s m args below meth c dC dI dA as A Q H locs ls hX hE hD hl
  obtain ⟨hx, hb, hml, hown, hts, hst, hnm, hO, hK, hA, hG⟩ := id hX
  obtain ⟨hP, hDD, hS⟩ := id hD
  subst ha; subst hr; subst hw'; subst hi
  refine va_astq (r := (RX0, TX0, 19)) hx hb hK hP hDD hS a0 3 r0 0 (emWs_get hw) rfl (emWs_get hv) rfl (vpi hj (by omega)) d (fun H1 locs1 q1 q2 q3 => ?_)
  have e0 := emWs_set as dA sh w a0 (.inl (3, n, .inr (.inr (.inr (.inr (va_up f j (some (r0 + sh))))))))
  have e1 : (fun k => (va_up f j (some (r0 + sh)) k).map as) = va_up (fun k => (f k).map as) j (some (as (r0 + sh))) := by
    funext t
    simp only [va_up]
    split <;> rfl
  simp only [emE, emA, e1] at e0
  rw [cl_nI hj (by omega)] at q1 q2
  refine (kk (hI.pop.pop.pop.cell ⟨fun c' fs' he => (by cases he), fun t m f' he k r hf => ?_⟩) _ _ _ _ _ _ _ _ _ _ _ _ _ _ _ _ _ _ hX hE ⟨e0 ▸ q1, e0 ▸ q2, q3⟩ hl)
  cases he
  simp only [va_up] at hf
  split at hf
  · cases hf; exact hI.top _ rfl
  · exact (hI.2.2.1 _ (List.mem_of_getElem? hw)).2 _ _ _ rfl k r hf
end EA
