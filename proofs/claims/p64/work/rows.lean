section
-- ===== PART A: goes FIRST, ahead of the names: the tables' words, and 'selects' of the private methods out of them =====
/-- a private method of a class that the tables say can be made, by its rows of tables_1 -/
def lw_okq (q : MethodName × Nat) : Prop := (q.1.cls ≠ "java/lang/invoke/MethodHandle" ∧ q.1.cls ≠ "java/lang/invoke/VarHandle") ∧ Cond.instantiable q.1.cls q.2 ∈ tables_1 ∧ Cond.privateMethod q.1 ∈ tables_1 ∧ Cond.instanceMethod q.1 ∈ tables_1
theorem lw_p0 : lw_okq (⟨"java/lang/Throwable", "fillInStackTrace", "(I)Ljava/lang/Throwable;"⟩, 6) := ⟨⟨by decide +kernel, by decide +kernel⟩, List.mem_of_getElem? (i := 267) (by decide +kernel), List.mem_of_getElem? (i := 265) (by decide +kernel), List.mem_of_getElem? (i := 266) (by decide +kernel)⟩
theorem lw_p1 : lw_okq (⟨"PledgeHouse", "save", "()V"⟩, 9) := ⟨⟨by decide +kernel, by decide +kernel⟩, List.mem_of_getElem? (i := 14) (by decide +kernel), List.mem_of_getElem? (i := 310) (by decide +kernel), List.mem_of_getElem? (i := 311) (by decide +kernel)⟩
theorem lw_p2 : lw_okq (⟨"PledgeHouse", "saveBefore", "()V"⟩, 9) := ⟨⟨by decide +kernel, by decide +kernel⟩, List.mem_of_getElem? (i := 14) (by decide +kernel), List.mem_of_getElem? (i := 321) (by decide +kernel), List.mem_of_getElem? (i := 322) (by decide +kernel)⟩
def lw_privs_1 : List (MethodName × Nat) := [(⟨"java/lang/Throwable", "fillInStackTrace", "(I)Ljava/lang/Throwable;"⟩, 6), (⟨"PledgeHouse", "save", "()V"⟩, 9), (⟨"PledgeHouse", "saveBefore", "()V"⟩, 9)]
theorem lw_r1 : ∀ q ∈ lw_privs_1, lw_okq q := List.forall_mem_cons.mpr ⟨lw_p0, List.forall_mem_cons.mpr ⟨lw_p1, List.forall_mem_cons.mpr ⟨lw_p2, fun _ h => absurd h List.not_mem_nil⟩⟩⟩
def lw_privs : List (MethodName × Nat) := lw_privs_1
def lw_tbl : List Cond := k2_sels lw_privs ++ tables_1
theorem lw_privs_ok : ∀ q ∈ lw_privs, lw_okq q := lw_r1
/-- the streams that the claim lets the run draw from -/
abbrev lw_cs : List Choice := [Jvm.Choice.named "NaN.bits"]
theorem lw_bits : nanBits ∈ lw_cs := by first | decide | exact List.mem_cons_self | simp [lw_cs, nanBits]
/-! ===== BEGIN words of one list among another's, by their places ===== -/
theorem goodIn_r {big : List Cond} (ws : List Cond) (ps : List Nat) (hp : ws = ps.filterMap (fun i => big[i]?)) (h : ws.all goodWord = true) : GoodIn big ws := by
  intro w hw
  have h1 := List.all_eq_true.mp h w hw
  rw [hp] at hw
  obtain ⟨i, -, hi⟩ := List.mem_filterMap.mp hw
  have hm : w ∈ big := by first | exact List.mem_of_getElem? hi | exact List.getElem?_mem hi
  exact ⟨hm, good_of_word h1⟩
theorem goodIn_app {big a b : List Cond} (ha : GoodIn big a) (hb : GoodIn big b) : GoodIn big (a ++ b) := fun w h => (List.mem_append.mp h).elim (ha w) (hb w)
theorem goodIn_ca {big a b : List Cond} {c : Cond} (ha : GoodIn big (c :: a)) (hb : GoodIn big b) : GoodIn big (c :: (a ++ b)) := fun w h => (List.mem_cons.mp h).elim (fun e => ha w (List.mem_cons.mpr (Or.inl e))) (fun h => (List.mem_append.mp h).elim (fun h => ha w (List.mem_cons.mpr (Or.inr h))) (hb w))
theorem goodIn_sub {big ws : List Cond} (hm : ∀ w ∈ ws, w ∈ big) (h : ws.all goodWord = true) : GoodIn big ws := fun w hw => ⟨hm w hw, good_of_word (List.all_eq_true.mp h w hw)⟩
/-! ===== END ===== -/

/-! ===== BEGIN exceptions that leave a method, and their catching by the caller (launches without stack traces) ===== -/
section VXA
/-! The laws vx_back, vx_callV, vx_callS, vx_callSW, vx_throw0, vx_throwS follow proofs of the library, with one case more: JvmDerived/Free/Laws.lean (Back.of_free), Shelf42/LK1.lean (callV, callS), Shelf/KitTraced.lean (throwNew0V, throwNewS). -/
/-- where a method has thrown q: the class by its name, the cell, what was written, the world -/
def vx_T (XC : String → State → State → Prop) (st : State) (q : Addr) (t : State) (mc ms : Nat) (free : Addr → Prop) : Prop :=
  ∃ (E : String) (ce : Cell) (L : List Loc), XC E st t ∧ t.heap[q]? = some ce ∧ ce.vm = .none ∧ st.vm.findClass E = some ce.cls ∧ st.WarmedH t.vm ∧ st.sameButNew ({ t with vm := st.vm } : State) L mc ms ∧ ∀ z ∈ L, free z.base
def vx_Q (Qc : Array Value → State → Outcome → State → Prop) (XC : String → State → State → Prop) (mc ms : Nat) (free : Addr → Prop) : Array Value → State → Outcome → State → Prop := fun a st o t =>
  (Qc a st o t ∧ ∃ L, FrameEnd st o t L mc ms ∧ ∀ q ∈ L, free q.base) ∨ ∃ q, o = .threw q ∧ vx_T XC st q t mc ms free
/-- a callee that returns or throws -/
def vx_Met (l : Launch) (y : MethodName) (ws : List Cond) (rm : Room) (Pc : Array Value → State → Prop) (Qc : Array Value → State → Outcome → State → Prop) (XC : String → State → State → Prop) (mc ms : Nat) (free : Addr → Prop) : Prop :=
  MetFree l y (headSpec ws rm) Pc (fun _ _ _ _ _ => True) (vx_Q Qc XC mc ms free)
def vx_Post (XC : String → State → State → Prop) (mc ms : Nat) (free : Addr → Prop) : Pt → Array Value → Addr → Pt → Prop := fun A a q B =>
  ∃ (g : JFrame) (mk : MethodId) (t : State) (L : List Loc) (E : String) (ce : Cell), B.U.heap = t.heap ∧ B.U.vm = t.vm ∧ XC E (A.U.calling g mk a) t ∧ t.heap[q]? = some ce ∧ ce.vm = .none ∧ A.U.vm.findClass E = some ce.cls ∧ B.locs = A.locs ++ L ∧ (∀ z ∈ L, free z.base) ∧ B.cells = A.cells + mc ∧ B.slots = A.slots + ms
def vx_Back (l : Launch) (R : Room) (p : Program) (e : Env) (below : List Frame) (s : State) (sargs : Array Value) (y : MethodName) (len W9 : Nat)
    (Pre : Pt → Array Value → Prop) (Post : Pt → Array Value → Option Value → Pt → Prop) (PostX : Pt → Array Value → Addr → Pt → Prop) : Prop :=
  ∀ (m : MethodId) (meth : Method) (c : Code) (A : Pt) (g : JFrame) (ig : Instr) (mk : MethodId) (a : Array Value),
    Stand p l e R s m sargs below meth c A.U A.locs A.cells A.slots → g.method = m → g.locals.size = c.maxLocals → decode c.code g.pc = .ok (ig, len) →
    2 * g.monitorRoom + (g.stack.map fun v => v.category).sum ≤ W9 → A.U.methodNamed? y = some mk → Pre A a →
    (∃ (v : Option Value) (B : Pt), Stand p l e R s m sargs below meth c B.U B.locs B.cells B.slots ∧ Post A a v B ∧
      Steps p.tables e below (doInvoke e (A.U.setTop g) [] mk a).1 (B.U.setTop { g with pc := g.pc + len, stack := v.toList ++ g.stack })) ∨
    (∃ (q : Addr) (B : Pt), Stand p l e R s m sargs below meth c B.U B.locs B.cells B.slots ∧ PostX A a q B ∧
      Steps p.tables e below (doInvoke e (A.U.setTop g) [] mk a).1 ((B.U.setTop g).pushFrame (.throwing q)))
section Payer
variable {l : Launch} {R : Room} {p : Program} {e : Env} {below : List Frame} {s : State} {sargs : Array Value} {y : MethodName} {len W9 : Nat}
theorem vx_back {ws : List Cond} {rm : Room} {Pc : Array Value → State → Prop} {Qc : Array Value → State → Outcome → State → Prop} {XC : String → State → State → Prop} {mc ms : Nat} {free : Addr → Prop} {bytes : ByteArray} {maxL : Nat} {ret : Option FieldType}
    (hM : vx_Met l y ws rm Pc Qc XC mc ms free) (hblind : FrameBlind Pc) (hrc : rm.cells = mc) (hrs : rm.slots = ms)
    (hframes : rm.frames + 1 ≤ R.frames) (hlocals : W9 + (maxL + 11) + rm.locals ≤ R.locals)
    (hws : ∀ w ∈ ws, ∀ a' U, s.WarmedH U.vm → w.before a' U = true) (hcode : Cond.code y bytes maxL ret ∈ ws) (hinit : ∀ a' U, s.WarmedH U.vm → (Cond.initialized y.cls).before a' U = true) :
    vx_Back l R p e below s sargs y len W9 (PreOf R mc ms Pc) (PostOf Qc mc ms free) (vx_Post XC mc ms free) := by
  intro m meth c A g ig mk a X hg hsize hdg hW hn hp
  have h1 : (headSpec ws rm).pre.before a A.U = true := atoms_intro fun w hw => hws w hw _ _ X.warmed
  have h2 : (Cond.code y bytes maxL ret).before a A.U = true := hws _ hcode _ _ X.warmed
  have h3 : (Cond.initialized y.cls).before a A.U = true := hinit _ _ X.warmed
  have h4 : A.cells + (headSpec ws rm).room.cells ≤ R.cells := by rw [show (headSpec ws rm).room.cells = mc from hrc]; exact hp.1
  have h5 : A.slots + (headSpec ws rm).room.slots ≤ R.slots := by rw [show (headSpec ws rm).room.slots = ms from hrs]; exact hp.2.1
  have hPc : Pc a (A.U.calling g mk a) := hblind _ _ _ _ hp.2.2
  obtain ⟨U, Ls, c0, s0⟩ := A
  dsimp only [Pt.U, Pt.locs, Pt.cells, Pt.slots] at h1 h2 h3 h4 h5 X hn hPc ⊢
  obtain ⟨methY, cY, hmY, hcY, -, hlY, -, -, -, -⟩ := Cond.code_spec hn h2
  obtain ⟨kY, hkY, -⟩ := className_of_methodNamed hn
  have hinitY : kY.init = .initialized := Cond.initialized_spec (findClass_of_methodNamed hn) hkY h3
  have h : At U g.method c below := by rw [hg]; exact X.here
  have hlocals9 : W9 + (maxL + 11) + (headSpec ws rm).room.locals ≤ R.locals := hlocals
  have happ : (headSpec ws rm).appliesLoose y e.platform (U.calling g mk a) = true :=
    Spec.appliesLoose_calling (g := g) h hdg hn hkY hinitY
      (X.room_calling (g := g) (R' := (headSpec ws rm).room) hsize hmY hcY hframes (by rw [hlY]; omega) h4 h5) h1
  obtain ⟨mid, hmid⟩ := h.above
  have hfr : (U.setTop g).frames = (.java g :: mid) ++ below := by rw [State.frames_setTop' g h.top, hmid]; rfl
  obtain ⟨o, s₂, hsteps, -, hend, hq⟩ := Steps.callFree hM p X.admits X.cas X.clock (acts := []) hfr happ hPc trivial
  have hq' : vx_Q Qc XC mc ms free a (U.calling g mk a) o s₂ := hq
  rw [State.frames_setTop' g h.top] at hend
  obtain ⟨g₀, hg0⟩ := Option.isSome_iff_exists.mp h.top
  obtain ⟨r, hr⟩ := State.topJava?_eq_some.mp hg0
  have hr' : (({ U with heap := s₂.heap, slotsUsed := s₂.slotsUsed } : State).setVm s₂.vm).frames = .java g₀ :: r := hr
  rcases hq' with ⟨hqc, L, hfe, hL⟩ | ⟨q, rfl, E, ce, L, hx, hce, hcv, hcl, hW₂, hsm, hL⟩
  · obtain ⟨⟨v, rfl⟩, hW₂, e2, q2, q3, q4, q5, q6⟩ := id hfe
    have e3 : s₂ = ({ (U.calling g mk a).setFrames s₂.frames with heap := s₂.heap, slotsUsed := s₂.slotsUsed } : State).setVm s₂.vm := by
      have : s₂ = ({ s₂ with vm := (U.calling g mk a).vm } : State).setVm s₂.vm := rfl
      rw [e2] at this
      exact this
    obtain ⟨c₂, i₂, len₂, hc₂, hd₂, hf₂⟩ := hend
    have hW' : U.WarmedH s₂.vm := hW₂
    have hcc : c₂ = c := by
      have h1 : s₂.code? g.method = U.code? g.method := by
        rw [State.code?_eq, State.code?_eq, hW'.alike.method?]
      exact Option.some.inj (hc₂.symm.trans (h1.trans h.code))
    subst hcc
    have hlen : len₂ = len := by rw [hdg] at hd₂; cases hd₂; rfl
    subst hlen
    have hs₂ : s₂ = (({ U with heap := s₂.heap, slotsUsed := s₂.slotsUsed } : State).setVm s₂.vm).setTop { g with pc := g.pc + len₂, stack := v.toList ++ g.stack } := by
      refine e3.trans ?_
      rw [hf₂, State.calling_eq h.top, State.setFrames_setFrames, State.setTop_of_frames _ hr', hr]
      rfl
    have hsame : U.sameButNew ({ U with heap := s₂.heap, slotsUsed := s₂.slotsUsed } : State) L mc ms := by
      refine ⟨?_, q2, q3, q4, q5, q6⟩
      obtain ⟨t, ht, -⟩ := State.frames_cons hr
      show ({ U with heap := s₂.heap, slotsUsed := s₂.slotsUsed } : State) = { U.setFrames U.frames with heap := s₂.heap, slotsUsed := s₂.slotsUsed }
      rw [State.setFrames_self ht]
    subst hg
    refine Or.inl ⟨v, ⟨(({ U with heap := s₂.heap, slotsUsed := s₂.slotsUsed } : State).setVm s₂.vm), Ls ++ L, c0 + mc, s0 + ms⟩,
      ⟨X.admits, X.cas, X.clock, X.frames, X.room, X.hears, X.method, X.code, (X.here.setHeapUsed s₂.heap s₂.slotsUsed).setVm hW'.alike, X.tail, State.WarmedH.trans X.warmed hW', X.limits, X.bytes, X.same.trans (hsame.setVm s.vm)⟩,
      ⟨g, mk, s₂, L, rfl, rfl, hqc, rfl, hL, rfl, rfl⟩, ?_⟩
    show Steps p.tables e below _ ((({ U with heap := s₂.heap, slotsUsed := s₂.slotsUsed } : State).setVm s₂.vm).setTop { g with pc := g.pc + len₂, stack := v.toList ++ g.stack })
    rw [← hs₂]
    exact hsteps
  · obtain ⟨e2, q2, q3, q4, q5, q6⟩ := id hsm
    have e3 : s₂ = ({ (U.calling g mk a).setFrames s₂.frames with heap := s₂.heap, slotsUsed := s₂.slotsUsed } : State).setVm s₂.vm := by
      have : s₂ = ({ s₂ with vm := (U.calling g mk a).vm } : State).setVm s₂.vm := rfl
      rw [e2] at this
      exact this
    have hf₂ : s₂.frames = .throwing q :: .java g :: U.frames.tail := hend
    have hW' : U.WarmedH s₂.vm := hW₂
    have hs₂ : s₂ = ((({ U with heap := s₂.heap, slotsUsed := s₂.slotsUsed } : State).setVm s₂.vm).setTop g).pushFrame (.throwing q) := by
      refine e3.trans ?_
      rw [hf₂, State.calling_eq h.top, State.setFrames_setFrames, State.pushFrame, State.frames_setTop _ hr', State.setTop_of_frames _ hr', State.setFrames_setFrames, hr]
      rfl
    have hsame : U.sameButNew ({ U with heap := s₂.heap, slotsUsed := s₂.slotsUsed } : State) L mc ms := by
      refine ⟨?_, q2, q3, q4, q5, q6⟩
      obtain ⟨t, ht, -⟩ := State.frames_cons hr
      show ({ U with heap := s₂.heap, slotsUsed := s₂.slotsUsed } : State) = { U.setFrames U.frames with heap := s₂.heap, slotsUsed := s₂.slotsUsed }
      rw [State.setFrames_self ht]
    subst hg
    refine Or.inr ⟨q, ⟨(({ U with heap := s₂.heap, slotsUsed := s₂.slotsUsed } : State).setVm s₂.vm), Ls ++ L, c0 + mc, s0 + ms⟩,
      ⟨X.admits, X.cas, X.clock, X.frames, X.room, X.hears, X.method, X.code, (X.here.setHeapUsed s₂.heap s₂.slotsUsed).setVm hW'.alike, X.tail, State.WarmedH.trans X.warmed hW', X.limits, X.bytes, X.same.trans (hsame.setVm s.vm)⟩,
      ⟨g, mk, s₂, L, E, ce, rfl, rfl, hx, hce, hcv, hcl, rfl, hL, rfl, rfl⟩, ?_⟩
    show Steps p.tables e below _ (((({ U with heap := s₂.heap, slotsUsed := s₂.slotsUsed } : State).setVm s₂.vm).setTop g).pushFrame (.throwing q))
    rw [← hs₂]
    exact hsteps
end Payer
section Calls
variable {p : Program} {l : Launch} {e : Env} {R : Room} {s : State} {m : MethodId} {args : Array Value} {below : List Frame} {meth : Method} {c : Code} {T : State} {locs : List Loc} {cells slots : Nat}
theorem vx_callV (X : Stand p l e R s m args below meth c T locs cells slots) (hexec : p.tables.exec = Jvm.exec) {own C : String} {index : Nat} {y : MethodName} {bytes : ByteArray} {maxL : Nat} {ret : Option FieldType}
    (hown : s.vm.findClass own = some m.cls) (hlink : (Cond.methodLink own index y).before args s = true) (hinst : (Cond.instanceMethod y).before args s = true) (hsel : (Cond.selects C y y).before args s = true)
    (hcode : (Cond.code y bytes maxL ret).before args s = true) (hy : y.cls ≠ "java/lang/invoke/MethodHandle" ∧ y.cls ≠ "java/lang/invoke/VarHandle")
    {W9 : Nat} {Pre : Pt → Array Value → Prop} {Post : Pt → Array Value → Option Value → Pt → Prop} {PostX : Pt → Array Value → Addr → Pt → Prop} (hK : vx_Back l R p e below s args y 3 W9 Pre Post PostX)
    {b : Addr} {cellB : Cell} (hcell : T.heap[b]? = some cellB) (hobj : cellB.vm.isStatics = false) (hcls : s.vm.findClass C = some cellB.cls)
    {g : JFrame} (hg : g.method = m) (hsize : g.locals.size = c.maxLocals) {argsL rest : List Value} (hlen : ∀ sig, parseMethodDescriptor y.desc = some sig → argsL.length = sig.parameters.length)
    (hstack : g.stack = argsL.reverse ++ .ref b :: rest) (hW : 2 * g.monitorRoom + (rest.map fun v => v.category).sum ≤ W9) (hdg : decode c.code g.pc = .ok (.invokevirtual index, 3))
    (hpre : ∀ vm₁, s.WarmedH vm₁ → Pre ⟨T.setVm vm₁, locs, cells, slots⟩ (Value.ref b :: argsL).toArray) :
    (∃ (v : Option Value) (vm₁ : Vm) (B : Pt), s.WarmedH vm₁ ∧ Stand p l e R s m args below meth c B.U B.locs B.cells B.slots ∧ Post ⟨T.setVm vm₁, locs, cells, slots⟩ (Value.ref b :: argsL).toArray v B ∧
      ∀ target, Steps p.tables e below (B.U.setTop { g with pc := g.pc + 3, stack := v.toList ++ rest }) target → Steps p.tables e below (T.setTop g) target) ∨
    (∃ (q : Addr) (vm₁ : Vm) (B : Pt), s.WarmedH vm₁ ∧ Stand p l e R s m args below meth c B.U B.locs B.cells B.slots ∧ PostX ⟨T.setVm vm₁, locs, cells, slots⟩ (Value.ref b :: argsL).toArray q B ∧
      Steps p.tables e below (T.setTop g) ((B.U.setTop { g with stack := rest }).pushFrame (.throwing q))) := by
  obtain ⟨mk, methM, hnamed, hmethM, hstM, habM⟩ := Cond.instanceMethod_spec hinst
  obtain ⟨methM', cM, hmethM', -, -, -, -, -, -, hsigM⟩ := Cond.code_spec hnamed hcode
  cases hmethM.symm.trans hmethM'
  obtain ⟨c2, r2, m2, q1, q2, q3, q4, kP, hkP, hkPi⟩ := Cond.selects_spec hsel
  cases hcls.symm.trans q1
  cases (State.methodFound?_of_named hnamed hy).symm.trans q2
  cases hnamed.symm.trans q3
  have hselP : selectMethod e.platform s.vm cellB.cls mk = .method mk := by rw [Launch.admits_selectMethod X.admits]; exact q4
  obtain ⟨vm₁, X₁, hstep₁⟩ := X.invokevirtual hexec hown hlink hnamed hmethM hstM hkP hkPi hy (a := b) (cell := cellB) hcell
    (fun z h => by rw [h] at hobj; cases hobj) hselP hmethM habM hkP hkPi (g := g) hg (argsL := argsL) (rest := rest) (hlen _ hsigM) hstack hdg
  rcases hK m meth c ⟨T.setVm vm₁, locs, cells, slots⟩ { g with stack := rest } (.invokevirtual index) mk (Value.ref b :: argsL).toArray X₁ hg hsize hdg hW (X₁.named hnamed) (hpre vm₁ X₁.warmed) with ⟨v, B, X', hpost, hsteps⟩ | ⟨q, B, X', hpost, hsteps⟩
  · exact Or.inl ⟨v, vm₁, B, X₁.warmed, X', hpost, fun target h => hstep₁ _ fun acts => by rw [doInvoke_state]; exact hsteps.trans h⟩
  · exact Or.inr ⟨q, vm₁, B, X₁.warmed, X', hpost, hstep₁ _ fun acts => by rw [doInvoke_state]; exact hsteps⟩
theorem vx_callS (X : Stand p l e R s m args below meth c T locs cells slots) (hexec : p.tables.exec = Jvm.exec) {own : String} {index : Nat} {y : MethodName} {bytes : ByteArray} {maxL : Nat} {ret : Option FieldType}
    (hown : s.vm.findClass own = some m.cls) (hlink : (Cond.methodLink own index y).before args s = true) (hstat : (Cond.static y).before args s = true) (hinit : (Cond.initialized y.cls).before args s = true)
    (hcode : (Cond.code y bytes maxL ret).before args s = true) (hy : y.cls ≠ "java/lang/invoke/MethodHandle" ∧ y.cls ≠ "java/lang/invoke/VarHandle")
    {W9 : Nat} {Pre : Pt → Array Value → Prop} {Post : Pt → Array Value → Option Value → Pt → Prop} {PostX : Pt → Array Value → Addr → Pt → Prop} (hK : vx_Back l R p e below s args y 3 W9 Pre Post PostX)
    {g : JFrame} (hg : g.method = m) (hsize : g.locals.size = c.maxLocals) {argsL rest : List Value} (hlen : ∀ sig, parseMethodDescriptor y.desc = some sig → argsL.length = sig.parameters.length)
    (hstack : g.stack = argsL.reverse ++ rest) (hW : 2 * g.monitorRoom + (rest.map fun v => v.category).sum ≤ W9) (hdg : decode c.code g.pc = .ok (.invokestatic index, 3))
    (hpre : ∀ vm₁, s.WarmedH vm₁ → Pre ⟨T.setVm vm₁, locs, cells, slots⟩ argsL.toArray) :
    (∃ (v : Option Value) (vm₁ : Vm) (B : Pt), s.WarmedH vm₁ ∧ Stand p l e R s m args below meth c B.U B.locs B.cells B.slots ∧ Post ⟨T.setVm vm₁, locs, cells, slots⟩ argsL.toArray v B ∧
      ∀ target, Steps p.tables e below (B.U.setTop { g with pc := g.pc + 3, stack := v.toList ++ rest }) target → Steps p.tables e below (T.setTop g) target) ∨
    (∃ (q : Addr) (vm₁ : Vm) (B : Pt), s.WarmedH vm₁ ∧ Stand p l e R s m args below meth c B.U B.locs B.cells B.slots ∧ PostX ⟨T.setVm vm₁, locs, cells, slots⟩ argsL.toArray q B ∧
      Steps p.tables e below (T.setTop g) ((B.U.setTop { g with stack := rest }).pushFrame (.throwing q))) := by
  obtain ⟨mk, hnamed⟩ := Cond.code_named hcode
  obtain ⟨methM, cM, hmethM, -, -, -, -, -, -, hsigM⟩ := Cond.code_spec hnamed hcode
  have hstatic : methM.isStatic = true := Cond.static_spec hnamed hmethM hstat
  obtain ⟨kP, hkP, -⟩ := className_of_methodNamed hnamed
  have hinitP : kP.init = .initialized := Cond.initialized_spec (findClass_of_methodNamed hnamed) hkP hinit
  obtain ⟨vm₁, X₁, hstep₁⟩ := X.invokestatic hexec hown hlink hnamed hmethM hstatic hkP hinitP hy (g := g) hg (argsL := argsL) (rest := rest) (hlen _ hsigM) hstack hdg
  rcases hK m meth c ⟨T.setVm vm₁, locs, cells, slots⟩ { g with stack := rest } (.invokestatic index) mk argsL.toArray X₁ hg hsize hdg hW (X₁.named hnamed) (hpre vm₁ X₁.warmed) with ⟨v, B, X', hpost, hsteps⟩ | ⟨q, B, X', hpost, hsteps⟩
  · exact Or.inl ⟨v, vm₁, B, X₁.warmed, X', hpost, fun target h => hstep₁ _ fun acts => by rw [doInvoke_state]; exact hsteps.trans h⟩
  · exact Or.inr ⟨q, vm₁, B, X₁.warmed, X', hpost, hstep₁ _ fun acts => by rw [doInvoke_state]; exact hsteps⟩
end Calls
theorem vx_cls {s : State} {T : State} {vm₁ : Vm} {E : String} {k : ClassId} (hW : s.WarmedH vm₁) (h : (T.setVm vm₁).vm.findClass E = some k) : s.vm.findClass E = some k := by
  have h1 : vm₁.findClass E = some k := h
  rw [hW.alike.findClass] at h1
  exact h1
/-- the method's frame g, with q thrown over it -/
def vx_W (p : Program) (l : Launch) (e : Env) (R : Room) (s : State) (m : MethodId) (args : Array Value) (below : List Frame) (meth : Method) (c : Code) (H : Heap) (locs : List Loc) (cells slots : Nat) (Q : State → Prop) (g : JFrame) (q : Addr) : Prop :=
  ∀ T : State, T.heap = H → Stand p l e R s m args below meth c T locs cells slots → ∃ t, Steps p.tables e below ((T.setTop g).pushFrame (.throwing q)) t ∧ Q t
def vx_Run (p : Program) (l : Launch) (e : Env) (R : Room) (s : State) (m : MethodId) (args : Array Value) (below : List Frame) (meth : Method) (c : Code) (H : Heap) (locs : List Loc) (cells slots mc ms : Nat) (g : JFrame) (rest : List Value) (Qa : State → Outcome → State → Prop) (XC : String → State → State → Prop) (free : Addr → Prop) : Prop :=
  ∀ T : State, T.heap = H → Stand p l e R s m args below meth c T locs cells slots →
    (∃ (v : Option Value) (st₀ t T' : State) (L : List Loc), st₀.heap = H ∧ Stand p l e R s m args below meth c T' (locs ++ L) (cells + mc) (slots + ms) ∧ (∀ q ∈ L, free q.base) ∧ T'.heap = t.heap ∧ T'.vm = t.vm ∧ Qa st₀ (.returned v) t ∧
      Goes p e below T g T' { g with pc := g.pc + 3, stack := v.toList ++ rest }) ∨
    (∃ (q : Addr) (st₀ t T' : State) (L : List Loc) (E : String) (ce : Cell), st₀.heap = H ∧ Stand p l e R s m args below meth c T' (locs ++ L) (cells + mc) (slots + ms) ∧ (∀ z ∈ L, free z.base) ∧ T'.heap = t.heap ∧ T'.vm = t.vm ∧ XC E st₀ t ∧ t.heap[q]? = some ce ∧ ce.vm = .none ∧ s.vm.findClass E = some ce.cls ∧
      Steps p.tables e below (T.setTop g) ((T'.setTop { g with stack := rest }).pushFrame (.throwing q)))
def vx_X {S : Type} (px : S → Prop) (B : String → S → State → Prop) (A : Nat → Prop) : String → State → State → Prop := fun E st t => ∃ u : S, px u ∧ B E u t ∧ va_F A st t
section Runs
variable {p : Program} {l : Launch} {e : Env} {R : Room} {s : State} {m : MethodId} {args : Array Value} {below : List Frame} {meth : Method} {c : Code} {H : Heap} {locs : List Loc} {cells slots : Nat}
variable {y : MethodName} {bytes cc : ByteArray} {maxL nL mc ms n index : Nat} {ret : Option FieldType} {ws : List Cond} {rm : Room} {Pc : Array Value → State → Prop} {Qc : Array Value → State → Outcome → State → Prop} {XC : String → State → State → Prop} {free : Addr → Prop} {Ts : List Cond} {own C : String} {b : Addr} {As rest : List Value} {g : JFrame}
theorem vx_callBack (cb : CallB R s args own index y bytes maxL ret ws rm mc ms n) (hM : vx_Met l y ws rm Pc Qc XC mc ms free) (hbl : FrameBlind Pc) : vx_Back l R p e below s args y 3 8 (PreOf R mc ms Pc) (PostOf Qc mc ms free) (vx_Post XC mc ms free) := by
  obtain ⟨hrc, hrs, hfr, hlo, hws, hcw, -, hini, -⟩ := cb
  exact vx_back (bytes := bytes) (maxL := maxL) (ret := ret) hM hbl hrc hrs hfr hlo hws hcw (fun a' U hW => word_at hW (Or.inl (by first | rfl | simp [Cond.onTables, Cond.keeps, Cond.steady])) hini)
theorem vx_runV (S : CallFix p m c cc nL s args Ts own) (hM : vx_Met l y ws rm Pc Qc XC mc ms free) (cw : CallW R s args own C index y bytes maxL ret ws rm mc ms n) (hp : PreV s H C b Pc As)
    (hg : g.method = m) (hn : As.length = n) (hsize : g.locals.size = nL) (hstack : g.stack = As.reverse ++ .ref b :: rest) (hW : 2 * g.monitorRoom + (rest.map fun v => v.category).sum ≤ 8) (hdg : decode cc g.pc = .ok (.invokevirtual index, 3)) (hf : cells + mc ≤ R.cells ∧ slots + ms ≤ R.slots) :
    vx_Run p l e R s m args below meth c H locs cells slots mc ms g rest (Qc (Value.ref b :: As).toArray) XC free := by
  have hK : vx_Back l R p e below s args y 3 8 (PreOf R mc ms Pc) (PostOf Qc mc ms free) (vx_Post XC mc ms free) := vx_callBack cw.1 hM hp.1
  obtain ⟨⟨-, -, -, -, -, -, hcode, -, hy, hlen, hl⟩, hin, hse⟩ := cw
  obtain ⟨hx, hb, hml, ho, -⟩ := S
  obtain ⟨-, ⟨cellB, hcB, hoB, hclB⟩, hPc⟩ := hp
  intro T hT X
  rcases vx_callV X hx (C := C) (bytes := bytes) (maxL := maxL) (ret := ret) ho hl hin hse hcode hy hK (by rw [hT]; exact hcB) hoB hclB hg (hsize.trans hml.symm) (argsL := As) (rest := rest) (fun sig h => hn.trans (hlen sig h)) hstack hW (by rw [hb]; exact hdg)
    (fun vm₁ hW₁ => ⟨hf.1, hf.2, hPc (T.setVm vm₁) hT hW₁⟩) with ⟨v, vm₁, ⟨U', l2, c2, s2⟩, hW₁, X', ⟨g', mk, t, L, e1, e2, hq, h1, hL, h2, h3⟩, st⟩ | ⟨q, vm₁, ⟨U', l2, c2, s2⟩, hW₁, X', ⟨g', mk, t, L, E, ce, e1, e2, hq, hce, hcv, hcl, h1, hL, h2, h3⟩, st⟩
  · dsimp only [Pt.U, Pt.locs, Pt.cells, Pt.slots] at X' e1 e2 h1 h2 h3 st
    subst h1; subst h2; subst h3
    exact Or.inl ⟨v, (T.setVm vm₁).calling g' mk (Value.ref b :: As).toArray, t, U', L, hT, X', hL, e1, e2, hq, st⟩
  · dsimp only [Pt.U, Pt.locs, Pt.cells, Pt.slots] at X' e1 e2 h1 h2 h3 st hcl
    subst h1; subst h2; subst h3
    exact Or.inr ⟨q, (T.setVm vm₁).calling g' mk (Value.ref b :: As).toArray, t, U', L, E, ce, hT, X', hL, e1, e2, hq, hce, hcv, vx_cls hW₁ hcl, st⟩
theorem vx_runS (S : CallFix p m c cc nL s args Ts own) (hM : vx_Met l y ws rm Pc Qc XC mc ms free) (cw : CallB R s args own index y bytes maxL ret ws rm mc ms n ∧ (Cond.static y).before args s = true) (hp : PreS s H Pc As)
    (hg : g.method = m) (hn : As.length = n) (hsize : g.locals.size = nL) (hstack : g.stack = As.reverse ++ rest) (hW : 2 * g.monitorRoom + (rest.map fun v => v.category).sum ≤ 8) (hdg : decode cc g.pc = .ok (.invokestatic index, 3)) (hf : cells + mc ≤ R.cells ∧ slots + ms ≤ R.slots) :
    vx_Run p l e R s m args below meth c H locs cells slots mc ms g rest (Qc As.toArray) XC free := by
  have hK : vx_Back l R p e below s args y 3 8 (PreOf R mc ms Pc) (PostOf Qc mc ms free) (vx_Post XC mc ms free) := vx_callBack cw.1 hM hp.1
  obtain ⟨⟨-, -, -, -, -, -, hcode, hini, hy, hlen, hl⟩, hstt⟩ := cw
  obtain ⟨hx, hb, hml, ho, -⟩ := S
  intro T hT X
  rcases vx_callS X hx (bytes := bytes) (maxL := maxL) (ret := ret) ho hl hstt hini hcode hy hK hg (hsize.trans hml.symm) (argsL := As) (rest := rest) (fun sig h => hn.trans (hlen sig h)) hstack hW (by rw [hb]; exact hdg)
    (fun vm₁ hW₁ => ⟨hf.1, hf.2, hp.2 (T.setVm vm₁) hT hW₁⟩) with ⟨v, vm₁, ⟨U', l2, c2, s2⟩, hW₁, X', ⟨g', mk, t, L, e1, e2, hq, h1, hL, h2, h3⟩, st⟩ | ⟨q, vm₁, ⟨U', l2, c2, s2⟩, hW₁, X', ⟨g', mk, t, L, E, ce, e1, e2, hq, hce, hcv, hcl, h1, hL, h2, h3⟩, st⟩
  · dsimp only [Pt.U, Pt.locs, Pt.cells, Pt.slots] at X' e1 e2 h1 h2 h3 st
    subst h1; subst h2; subst h3
    exact Or.inl ⟨v, (T.setVm vm₁).calling g' mk As.toArray, t, U', L, hT, X', hL, e1, e2, hq, st⟩
  · dsimp only [Pt.U, Pt.locs, Pt.cells, Pt.slots] at X' e1 e2 h1 h2 h3 st hcl
    subst h1; subst h2; subst h3
    exact Or.inr ⟨q, (T.setVm vm₁).calling g' mk As.toArray, t, U', L, E, ce, hT, X', hL, e1, e2, hq, hce, hcv, vx_cls hW₁ hcl, st⟩
end Runs
section Rows
variable {p : Program} {l : Launch} {e : Env} {R : Room} {s : State} {m : MethodId} {args : Array Value} {below : List Frame} {meth : Method} {c : Code} {H : Heap} {locs : List Loc} {cells slots : Nat} {Q : State → Prop}
variable {mc ms : Nat} {free : Addr → Prop} {A0 A1 : Nat → Prop} {H0 : Heap} {a : Array Value} {pc : Nat} {ls : Array Slot} {st0 rest : List Value}
theorem vx_keep {st₀ t T' : State} {L : List Loc} (h0 : st₀.heap = H) (e1 : T'.heap = t.heap) (hS : va_S A0 H0 H locs) (hA : ∀ q, q < H.size → A1 q → A0 q) (hf : ∀ q, free q → A0 q) (hL : ∀ q ∈ L, free q.base) (hF : va_F A1 st₀ t) :
    H.size ≤ T'.heap.size ∧ (∀ q : Nat, q < H.size → ¬ A1 q → T'.heap[q]? = H[q]?) ∧ va_S A0 H0 T'.heap (locs ++ L) := by
  obtain ⟨hz, hk⟩ := hF
  rw [h0] at hz hk
  exact ⟨by rw [e1]; exact hz, fun q h1 h2 => by rw [e1]; exact hk q h1 h2,
    ⟨Nat.le_trans hS.1 (by rw [e1]; exact hz), fun q h1 h2 => by rw [e1, hk q (Nat.lt_of_lt_of_le h1 hS.1) (fun z => h2 (hA q (Nat.lt_of_lt_of_le h1 hS.1) z))]; exact hS.2.1 q h1 h2, fun q hq => by
      rcases List.mem_append.mp hq with h | h
      · exact hS.2.2 q h
      · exact hf _ (hL q h)⟩⟩
theorem vx_calli {S SX : Type} {post : Int32 → S → Prop} {px : SX → Prop} {B : S → State → Prop} {BX : String → SX → State → Prop} {AX : Nat → Prop} (hr : vx_Run p l e R s m args below meth c H locs cells slots mc ms (F0 m pc ls st0) rest (va_Qi post B A1 a) (vx_X px BX AX) free) (hS : va_S A0 H0 H locs) (hA : ∀ q, q < H.size → A1 q → A0 q) (hf : ∀ q, free q → A0 q) (hAX : ∀ q, q < H.size → AX q → A0 q)
    (kx : ∀ (E : String) (ce : Cell) (q9 : Addr) (u : SX) (t : State) (H1 : Heap) (locs1 : List Loc), t.heap = H1 → s.vm.Alike t.vm → px u → BX E u t → H.size ≤ H1.size → (∀ q : Nat, q < H.size → ¬ AX q → H1[q]? = H[q]?) → va_S A0 H0 H1 locs1 → H1[q9]? = some ce → ce.vm = .none → s.vm.findClass E = some ce.cls → vx_W p l e R s m args below meth c H1 locs1 (cells + mc) (slots + ms) Q (F0 m pc ls rest) q9)
    (kk : ∀ (r : Int32) (u : S) (t : State) (H1 : Heap) (locs1 : List Loc), t.heap = H1 → s.vm.Alike t.vm → post r u → B u t → H.size ≤ H1.size → (∀ q : Nat, q < H.size → ¬ A1 q → H1[q]? = H[q]?) → va_S A0 H0 H1 locs1 → W p l e R s m args below meth c H1 locs1 (cells + mc) (slots + ms) Q (F0 m (pc + 3) ls (.int r :: rest))) : W p l e R s m args below meth c H locs cells slots Q (F0 m pc ls st0) := by
  intro T hT X
  rcases hr T hT X with ⟨v, st₀, t, T', L, h0, X', hL, e1, e2, ⟨⟨r, u, hv, hp, hb⟩, hF⟩, st⟩ | ⟨q, st₀, t, T', L, E, ce, h0, X', hL, e1, e2, ⟨u, hp, hb, hF⟩, hce, hcv, hcl, st⟩
  · cases hv
    obtain ⟨k1, k2, k3⟩ := vx_keep h0 e1 hS hA hf hL hF
    obtain ⟨t2, a1, b1⟩ := kk r u t T'.heap (locs ++ L) e1.symm (by rw [← e2]; exact X'.warmed.alike) hp hb k1 k2 k3 T' rfl X'
    exact ⟨t2, st t2 a1, b1⟩
  · obtain ⟨k1, k2, k3⟩ := vx_keep h0 e1 hS hAX hf hL hF
    obtain ⟨t2, a1, b1⟩ := kx E ce q u t T'.heap (locs ++ L) e1.symm (by rw [← e2]; exact X'.warmed.alike) hp hb k1 k2 k3 (by rw [e1]; exact hce) hcv hcl T' rfl X'
    exact ⟨t2, st.trans a1, b1⟩
theorem vx_calll {S SX : Type} {post : Int64 → S → Prop} {px : SX → Prop} {B : S → State → Prop} {BX : String → SX → State → Prop} {AX : Nat → Prop} (hr : vx_Run p l e R s m args below meth c H locs cells slots mc ms (F0 m pc ls st0) rest (va_Ql post B A1 a) (vx_X px BX AX) free) (hS : va_S A0 H0 H locs) (hA : ∀ q, q < H.size → A1 q → A0 q) (hf : ∀ q, free q → A0 q) (hAX : ∀ q, q < H.size → AX q → A0 q)
    (kx : ∀ (E : String) (ce : Cell) (q9 : Addr) (u : SX) (t : State) (H1 : Heap) (locs1 : List Loc), t.heap = H1 → s.vm.Alike t.vm → px u → BX E u t → H.size ≤ H1.size → (∀ q : Nat, q < H.size → ¬ AX q → H1[q]? = H[q]?) → va_S A0 H0 H1 locs1 → H1[q9]? = some ce → ce.vm = .none → s.vm.findClass E = some ce.cls → vx_W p l e R s m args below meth c H1 locs1 (cells + mc) (slots + ms) Q (F0 m pc ls rest) q9)
    (kk : ∀ (r : Int64) (u : S) (t : State) (H1 : Heap) (locs1 : List Loc), t.heap = H1 → s.vm.Alike t.vm → post r u → B u t → H.size ≤ H1.size → (∀ q : Nat, q < H.size → ¬ A1 q → H1[q]? = H[q]?) → va_S A0 H0 H1 locs1 → W p l e R s m args below meth c H1 locs1 (cells + mc) (slots + ms) Q (F0 m (pc + 3) ls (.long r :: rest))) : W p l e R s m args below meth c H locs cells slots Q (F0 m pc ls st0) := by
  intro T hT X
  rcases hr T hT X with ⟨v, st₀, t, T', L, h0, X', hL, e1, e2, ⟨⟨r, u, hv, hp, hb⟩, hF⟩, st⟩ | ⟨q, st₀, t, T', L, E, ce, h0, X', hL, e1, e2, ⟨u, hp, hb, hF⟩, hce, hcv, hcl, st⟩
  · cases hv
    obtain ⟨k1, k2, k3⟩ := vx_keep h0 e1 hS hA hf hL hF
    obtain ⟨t2, a1, b1⟩ := kk r u t T'.heap (locs ++ L) e1.symm (by rw [← e2]; exact X'.warmed.alike) hp hb k1 k2 k3 T' rfl X'
    exact ⟨t2, st t2 a1, b1⟩
  · obtain ⟨k1, k2, k3⟩ := vx_keep h0 e1 hS hAX hf hL hF
    obtain ⟨t2, a1, b1⟩ := kx E ce q u t T'.heap (locs ++ L) e1.symm (by rw [← e2]; exact X'.warmed.alike) hp hb k1 k2 k3 (by rw [e1]; exact hce) hcv hcl T' rfl X'
    exact ⟨t2, st.trans a1, b1⟩
theorem vx_callf {S SX : Type} {post : UInt32 → S → Prop} {px : SX → Prop} {B : S → State → Prop} {BX : String → SX → State → Prop} {AX : Nat → Prop} (hr : vx_Run p l e R s m args below meth c H locs cells slots mc ms (F0 m pc ls st0) rest (va_Qf post B A1 a) (vx_X px BX AX) free) (hS : va_S A0 H0 H locs) (hA : ∀ q, q < H.size → A1 q → A0 q) (hf : ∀ q, free q → A0 q) (hAX : ∀ q, q < H.size → AX q → A0 q)
    (kx : ∀ (E : String) (ce : Cell) (q9 : Addr) (u : SX) (t : State) (H1 : Heap) (locs1 : List Loc), t.heap = H1 → s.vm.Alike t.vm → px u → BX E u t → H.size ≤ H1.size → (∀ q : Nat, q < H.size → ¬ AX q → H1[q]? = H[q]?) → va_S A0 H0 H1 locs1 → H1[q9]? = some ce → ce.vm = .none → s.vm.findClass E = some ce.cls → vx_W p l e R s m args below meth c H1 locs1 (cells + mc) (slots + ms) Q (F0 m pc ls rest) q9)
    (kk : ∀ (r : UInt32) (u : S) (t : State) (H1 : Heap) (locs1 : List Loc), t.heap = H1 → s.vm.Alike t.vm → post r u → B u t → H.size ≤ H1.size → (∀ q : Nat, q < H.size → ¬ A1 q → H1[q]? = H[q]?) → va_S A0 H0 H1 locs1 → W p l e R s m args below meth c H1 locs1 (cells + mc) (slots + ms) Q (F0 m (pc + 3) ls (.float r :: rest))) : W p l e R s m args below meth c H locs cells slots Q (F0 m pc ls st0) := by
  intro T hT X
  rcases hr T hT X with ⟨v, st₀, t, T', L, h0, X', hL, e1, e2, ⟨⟨r, u, hv, hp, hb⟩, hF⟩, st⟩ | ⟨q, st₀, t, T', L, E, ce, h0, X', hL, e1, e2, ⟨u, hp, hb, hF⟩, hce, hcv, hcl, st⟩
  · cases hv
    obtain ⟨k1, k2, k3⟩ := vx_keep h0 e1 hS hA hf hL hF
    obtain ⟨t2, a1, b1⟩ := kk r u t T'.heap (locs ++ L) e1.symm (by rw [← e2]; exact X'.warmed.alike) hp hb k1 k2 k3 T' rfl X'
    exact ⟨t2, st t2 a1, b1⟩
  · obtain ⟨k1, k2, k3⟩ := vx_keep h0 e1 hS hAX hf hL hF
    obtain ⟨t2, a1, b1⟩ := kx E ce q u t T'.heap (locs ++ L) e1.symm (by rw [← e2]; exact X'.warmed.alike) hp hb k1 k2 k3 (by rw [e1]; exact hce) hcv hcl T' rfl X'
    exact ⟨t2, st.trans a1, b1⟩
theorem vx_calld {S SX : Type} {post : UInt64 → S → Prop} {px : SX → Prop} {B : S → State → Prop} {BX : String → SX → State → Prop} {AX : Nat → Prop} (hr : vx_Run p l e R s m args below meth c H locs cells slots mc ms (F0 m pc ls st0) rest (va_Qd post B A1 a) (vx_X px BX AX) free) (hS : va_S A0 H0 H locs) (hA : ∀ q, q < H.size → A1 q → A0 q) (hf : ∀ q, free q → A0 q) (hAX : ∀ q, q < H.size → AX q → A0 q)
    (kx : ∀ (E : String) (ce : Cell) (q9 : Addr) (u : SX) (t : State) (H1 : Heap) (locs1 : List Loc), t.heap = H1 → s.vm.Alike t.vm → px u → BX E u t → H.size ≤ H1.size → (∀ q : Nat, q < H.size → ¬ AX q → H1[q]? = H[q]?) → va_S A0 H0 H1 locs1 → H1[q9]? = some ce → ce.vm = .none → s.vm.findClass E = some ce.cls → vx_W p l e R s m args below meth c H1 locs1 (cells + mc) (slots + ms) Q (F0 m pc ls rest) q9)
    (kk : ∀ (r : UInt64) (u : S) (t : State) (H1 : Heap) (locs1 : List Loc), t.heap = H1 → s.vm.Alike t.vm → post r u → B u t → H.size ≤ H1.size → (∀ q : Nat, q < H.size → ¬ A1 q → H1[q]? = H[q]?) → va_S A0 H0 H1 locs1 → W p l e R s m args below meth c H1 locs1 (cells + mc) (slots + ms) Q (F0 m (pc + 3) ls (.double r :: rest))) : W p l e R s m args below meth c H locs cells slots Q (F0 m pc ls st0) := by
  intro T hT X
  rcases hr T hT X with ⟨v, st₀, t, T', L, h0, X', hL, e1, e2, ⟨⟨r, u, hv, hp, hb⟩, hF⟩, st⟩ | ⟨q, st₀, t, T', L, E, ce, h0, X', hL, e1, e2, ⟨u, hp, hb, hF⟩, hce, hcv, hcl, st⟩
  · cases hv
    obtain ⟨k1, k2, k3⟩ := vx_keep h0 e1 hS hA hf hL hF
    obtain ⟨t2, a1, b1⟩ := kk r u t T'.heap (locs ++ L) e1.symm (by rw [← e2]; exact X'.warmed.alike) hp hb k1 k2 k3 T' rfl X'
    exact ⟨t2, st t2 a1, b1⟩
  · obtain ⟨k1, k2, k3⟩ := vx_keep h0 e1 hS hAX hf hL hF
    obtain ⟨t2, a1, b1⟩ := kx E ce q u t T'.heap (locs ++ L) e1.symm (by rw [← e2]; exact X'.warmed.alike) hp hb k1 k2 k3 (by rw [e1]; exact hce) hcv hcl T' rfl X'
    exact ⟨t2, st.trans a1, b1⟩
theorem vx_callv {S SX : Type} {post : S → Prop} {px : SX → Prop} {B : S → State → Prop} {BX : String → SX → State → Prop} {AX : Nat → Prop} (hr : vx_Run p l e R s m args below meth c H locs cells slots mc ms (F0 m pc ls st0) rest (va_Qv post B A1 a) (vx_X px BX AX) free) (hS : va_S A0 H0 H locs) (hA : ∀ q, q < H.size → A1 q → A0 q) (hf : ∀ q, free q → A0 q) (hAX : ∀ q, q < H.size → AX q → A0 q)
    (kx : ∀ (E : String) (ce : Cell) (q9 : Addr) (u : SX) (t : State) (H1 : Heap) (locs1 : List Loc), t.heap = H1 → s.vm.Alike t.vm → px u → BX E u t → H.size ≤ H1.size → (∀ q : Nat, q < H.size → ¬ AX q → H1[q]? = H[q]?) → va_S A0 H0 H1 locs1 → H1[q9]? = some ce → ce.vm = .none → s.vm.findClass E = some ce.cls → vx_W p l e R s m args below meth c H1 locs1 (cells + mc) (slots + ms) Q (F0 m pc ls rest) q9)
    (kk : ∀ (u : S) (t : State) (H1 : Heap) (locs1 : List Loc), t.heap = H1 → s.vm.Alike t.vm → post u → B u t → H.size ≤ H1.size → (∀ q : Nat, q < H.size → ¬ A1 q → H1[q]? = H[q]?) → va_S A0 H0 H1 locs1 → W p l e R s m args below meth c H1 locs1 (cells + mc) (slots + ms) Q (F0 m (pc + 3) ls (rest))) : W p l e R s m args below meth c H locs cells slots Q (F0 m pc ls st0) := by
  intro T hT X
  rcases hr T hT X with ⟨v, st₀, t, T', L, h0, X', hL, e1, e2, ⟨⟨u, hv, hp, hb⟩, hF⟩, st⟩ | ⟨q, st₀, t, T', L, E, ce, h0, X', hL, e1, e2, ⟨u, hp, hb, hF⟩, hce, hcv, hcl, st⟩
  · cases hv
    obtain ⟨k1, k2, k3⟩ := vx_keep h0 e1 hS hA hf hL hF
    obtain ⟨t2, a1, b1⟩ := kk u t T'.heap (locs ++ L) e1.symm (by rw [← e2]; exact X'.warmed.alike) hp hb k1 k2 k3 T' rfl X'
    exact ⟨t2, st t2 a1, b1⟩
  · obtain ⟨k1, k2, k3⟩ := vx_keep h0 e1 hS hAX hf hL hF
    obtain ⟨t2, a1, b1⟩ := kx E ce q u t T'.heap (locs ++ L) e1.symm (by rw [← e2]; exact X'.warmed.alike) hp hb k1 k2 k3 (by rw [e1]; exact hce) hcv hcl T' rfl X'
    exact ⟨t2, st.trans a1, b1⟩
/-- caught by the row x of this method's table; the rows ahead don't take it -/
theorem vx_catch {own name : String} {E : String} {ce : Cell} {q : Addr} (hown : s.vm.findClass own = some m.cls) (pre : List ExceptionTableEntry) (x : ExceptionTableEntry) (suf : List ExceptionTableEntry) (hsplit : c.exceptionTable.toList = pre ++ x :: suf)
    (hpass : ∀ z ∈ pre, covers z pc = false ∨ (z.catchType ≠ 0 ∧ ∃ nm : String, (Cond.classLink own z.catchType nm).before args s = true ∧ va_Nc E nm s)) (hx : covers x pc = true) (h0 : x.catchType ≠ 0)
    (hlink : (Cond.classLink own x.catchType name).before args s = true) (hcast : (Cond.castable E name).before args s = true) (hcell : H[q]? = some ce) (hv : ce.vm = .none) (hcl : s.vm.findClass E = some ce.cls)
    (kk : W p l e R s m args below meth c H locs cells slots Q (F0 m x.handlerPc ls [.ref q])) : vx_W p l e R s m args below meth c H locs cells slots Q (F0 m pc ls rest) q := by
  intro T hT X
  have hpl : e.platform.magicAccessors = ({} : Platform).magicAccessors := by rw [X.admits.platform]
  obtain ⟨c3, c4, hc3, hc4, hasg⟩ := Cond.castable_spec hcast
  cases Option.some.inj (hc3.symm.trans hcl)
  obtain ⟨c5, hc5, hcl5⟩ := Cond.classLink_spec hown hlink e.platform hpl
  cases Option.some.inj (hc4.symm.trans hc5)
  obtain ⟨vm', X', st⟩ := X.thenCaughtThrough q (g := F0 m pc ls rest) rfl (Steps.refl _) (by rw [hT]; exact hcell) (by rw [hv]; rfl) (by obtain ⟨k9, h9, -⟩ := Vm.findClass_spec hcl; exact ⟨k9, h9⟩) pre x suf hsplit
    (fun z hz => by
      rcases hpass z hz with h | ⟨hz0, nm, hl1, hn1⟩
      · exact Or.inl h
      · obtain ⟨c6, hc6, hcl6⟩ := Cond.classLink_spec hown hl1 e.platform hpl
        obtain ⟨a8, b8, h1, h2, h3⟩ := hn1
        cases Option.some.inj (h1.symm.trans hcl)
        cases Option.some.inj (h2.symm.trans hc6)
        exact Or.inr ⟨hz0, _, hcl6, h3⟩) hx (Or.inr ⟨h0, c4, hcl5, hasg⟩)
  obtain ⟨t, a1, b1⟩ := kk (T.setVm vm') hT X'
  exact ⟨t, st.trans a1, b1⟩
end Rows
section Ends
variable {p : Program} {l : Launch} {e : Env} {R : Room} {s : State} {m : MethodId} {args : Array Value} {below : List Frame} {meth : Method} {c : Code} {H : Heap} {locs : List Loc} {cells slots : Nat} {Q : State → Prop}
variable {mc ms : Nat} {free : Addr → Prop} {A0 A1 : Nat → Prop} {H0 : Heap} {a : Array Value} {ls : Array Slot} {st0 rest : List Value}
variable {Qc : Array Value → State → Outcome → State → Prop} {XC : String → State → State → Prop}
/-- what a body that may throw owes at its end -/
def vx_MQ (below : List Frame) (Qc : Array Value → State → Outcome → State → Prop) (XC : String → State → State → Prop) (a : Array Value) (s : State) (mc ms : Nat) (free : Addr → Prop) : State → Prop := fun t =>
  ∃ o, t.status = .running ∧ Ended t below o ∧ vx_Q Qc XC mc ms free a s o t
theorem vx_ret {g : JFrame} {mc ms : Nat} (k : W p l e R s m args below meth c H locs cells slots (MQ below Qc args s mc ms free) g) : W p l e R s m args below meth c H locs cells slots (vx_MQ below Qc XC args s mc ms free) g := by
  intro T hT X
  obtain ⟨t, a1, o, b1, b2, b3, b4⟩ := k T hT X
  exact ⟨t, a1, o, b1, b2, Or.inl ⟨b3, b4⟩⟩
/-- not caught here: it goes on to the caller -/
theorem vx_widen {g : JFrame} {q : Addr} {k n : Nat} (h1 : cells ≤ k) (h2 : slots ≤ n) (kk : vx_W p l e R s m args below meth c H locs k n Q g q) : vx_W p l e R s m args below meth c H locs cells slots Q g q := fun T hT X => kk T hT (stand_widen X h1 h2)
theorem vx_out {pc : Nat} {E : String} {ce : Cell} {q : Addr} {mc ms : Nat} (hout : ∀ x ∈ c.exceptionTable.toList, covers x pc = false) (hlocks : meth.locks = false) (hcell : H[q]? = some ce) (hv : ce.vm = .none) (hcl : s.vm.findClass E = some ce.cls)
    (hx : ∀ t : State, t.heap = H → s.vm.Alike t.vm → XC E s t) (hf : ∀ z ∈ locs, free z.base) (hc : cells ≤ mc) (hs : slots ≤ ms) :
    vx_W p l e R s m args below meth c H locs cells slots (vx_MQ below Qc XC args s mc ms free) (F0 m pc ls rest) q := by
  intro T hT X
  obtain ⟨st1, hrun, hend, hW, hsm⟩ := X.leaveThrown q (g := F0 m pc ls rest) rfl rfl rfl hout hlocks
  have hcell9 : (T.setFrames (.throwing q :: below)).heap[q]? = some ce := by
    show T.heap[q]? = some ce
    rw [hT]; exact hcell
  exact ⟨_, st1, .threw q, hrun, hend, Or.inr ⟨q, rfl, E, ce, locs, hx _ hT hW.alike, hcell9, hv, hcl, hW, hsm.mono hc hs, hf⟩⟩
theorem vx_frame {U : State} {k n : Nat} (h : s.sameButNew ({ U with vm := s.vm } : State) locs k n) : s.heap.size ≤ U.heap.size ∧ ∀ q : Nat, q < s.heap.size → (∀ z ∈ locs, z.base ≠ q) → U.heap[q]? = s.heap[q]? := by
  obtain ⟨-, h2, -, -, -, h6⟩ := h
  refine ⟨h2, fun q hq hz => ?_⟩
  obtain ⟨c9, e1, e2, e3, e4⟩ := h6 q _ (Array.getElem?_eq_getElem hq)
  have hs : c9.slots = (s.heap[q]).slots := Array.ext_getElem? fun i => e4 i fun hm => hz _ hm rfl
  have h9 : c9 = s.heap[q] := by
    rw [hs] at e2
    exact e2
  have e5 : U.heap[q]? = some c9 := e1
  rw [e5, h9, Array.getElem?_eq_getElem hq]
/-- the words of a throw but the four that speak of the heap -/
def vx_no (w : Cond) : Bool := decide (w ≠ .isRef (.static Bundle.tN "UNASSIGNED_STACK" Bundle.steD)) && decide (w ≠ .isRef (.static Bundle.tN "SUPPRESSED_SENTINEL" Bundle.listD)) && decide (w ≠ .laysStatic Bundle.tN "UNASSIGNED_STACK" Bundle.steD) && decide (w ≠ .laysStatic Bundle.tN "SUPPRESSED_SENTINEL" Bundle.listD)
def vx_at0 (own : String) (ic : Nat) (X : String) (names : List String) : List Cond := (Bundle.ownAtoms0 own ic X names).filter vx_no
def vx_atS (own : String) (ic : Nat) (X : String) (names : List String) : List Cond := (Bundle.ownAtoms own ic X names).filter vx_no
/-- a word that the tables alone decide, or a good one -/
def vx_ot (w : Cond) : Bool := w.onTables || goodWord w
theorem vx_ot_at {args a' : Array Value} {s U : State} {w : Cond} (hW : s.WarmedH U.vm) (hvm : s.vm = U.vm) (hg : vx_ot w = true) (h : w.before args s = true) : w.before a' U = true := by
  simp only [vx_ot, Bool.or_eq_true] at hg
  rcases hg with hg | hg
  · exact va_tabs hg hvm h
  · exact word_at hW (good_of_word hg) h
/-- a list's words: the good ones out of the method's own list, the others by premises of their own -/
theorem vx_hat {args : Array Value} {s : State} {L B : List Cond} (h1 : ∀ w ∈ L.filter goodWord, w.before args s = true) (h2 : ∀ w ∈ L.filter (fun w => !goodWord w), w ∈ B) (h3 : ∀ w ∈ B, w.before args s = true) : ∀ w ∈ L, w.before args s = true := by
  intro w hw
  by_cases g : goodWord w = true
  · exact h1 w (List.mem_filter.mpr ⟨hw, g⟩)
  · refine h3 w (h2 w (List.mem_filter.mpr ⟨hw, ?_⟩))
    show (!goodWord w) = true
    cases hgw : goodWord w
    · rfl
    · exact absurd hgw g
theorem vx_c {args : Array Value} {s : State} {w : Cond} {B : List Cond} (h : w.before args s = true) (t : ∀ w ∈ B, w.before args s = true) : ∀ w' ∈ w :: B, w'.before args s = true := fun w' h' => (List.mem_cons.mp h').elim (fun e => by rw [e]; exact h) (t w')
theorem vx_n {args : Array Value} {s : State} : ∀ w ∈ ([] : List Cond), w.before args s = true := fun _ h => nomatch h
theorem vx_own {args : Array Value} {s : State} {L : List Cond} (h1 : ∀ w ∈ L.filter vx_no, w.before args s = true)
    (hU : (Cond.isRef (.static Bundle.tN "UNASSIGNED_STACK" Bundle.steD)).before args s = true) (hN : (Cond.isRef (.static Bundle.tN "SUPPRESSED_SENTINEL" Bundle.listD)).before args s = true)
    (lU : (Cond.laysStatic Bundle.tN "UNASSIGNED_STACK" Bundle.steD).before args s = true) (lN : (Cond.laysStatic Bundle.tN "SUPPRESSED_SENTINEL" Bundle.listD).before args s = true) : ∀ w ∈ L, w.before args s = true := by
  intro w hw
  by_cases e1 : w = .isRef (.static Bundle.tN "UNASSIGNED_STACK" Bundle.steD)
  · rw [e1]; exact hU
  · by_cases e2 : w = .isRef (.static Bundle.tN "SUPPRESSED_SENTINEL" Bundle.listD)
    · rw [e2]; exact hN
    · by_cases e3 : w = .laysStatic Bundle.tN "UNASSIGNED_STACK" Bundle.steD
      · rw [e3]; exact lU
      · by_cases e4 : w = .laysStatic Bundle.tN "SUPPRESSED_SENTINEL" Bundle.listD
        · rw [e4]; exact lN
        · exact h1 w (List.mem_filter.mpr ⟨hw, by unfold vx_no; rw [decide_eq_true e1, decide_eq_true e2, decide_eq_true e3, decide_eq_true e4]; rfl⟩)
/-- where a static field lies, its class's statics cell in H -/
def vx_L (C n d : String) (A : Nat → Prop) (U : State) (H : Heap) : Prop := ∃ (c : ClassId) (k : Class) (i : Nat) (f : Field) (a : Nat) (cell : Cell), U.vm.findClass C = some c ∧ U.fieldFound? C n d = some (c, k, i, f) ∧ f.isStatic = true ∧ k.statics = some a ∧ H[a]? = some cell ∧ cell.vm.isStatics = true ∧ cell.cls = c ∧ f.slot < cell.slots.size ∧ k.staticTypes[f.slot]? = some f.type ∧ ¬ A a
theorem vx_L.moved {C n d : String} {A : Nat → Prop} {u U : State} {H : Heap} (hvm : u.vm.Alike U.vm) (h : vx_L C n d A u H) : vx_L C n d A U H := by
  obtain ⟨c, k, i, f, a, cell, h1, h2, h3, h4, h5, h6, h7, h8, h9, h10⟩ := h
  obtain ⟨k', hi', he⟩ := State.fieldFound?_setVm hvm h2
  exact ⟨c, k', i, f, a, cell, by rw [hvm.findClass]; exact h1, hi', h3, by rw [he]; exact h4, h5, h6, h7, h8, by rw [he]; exact h9, h10⟩
theorem vx_L.kept {C n d : String} {A : Nat → Prop} {U : State} {H H1 : Heap} (h : vx_L C n d A U H) (hq : ∀ a : Nat, a < H.size → ¬ A a → H1[a]? = H[a]?) : vx_L C n d A U H1 := by
  obtain ⟨c, k, i, f, a, cell, h1, h2, h3, h4, h5, h6, h7, h8, h9, h10⟩ := h
  exact ⟨c, k, i, f, a, cell, h1, h2, h3, h4, by rw [hq a (Array.getElem?_eq_some_iff.mp h5).1 h10]; exact h5, h6, h7, h8, h9, h10⟩
theorem vx_L.narrow {C n d : String} {A B : Nat → Prop} {U : State} {H : Heap} (h : vx_L C n d A U H) (hAB : ∀ q, B q → A q) : vx_L C n d B U H := by
  obtain ⟨c, k, i, f, a, cell, h1, h2, h3, h4, h5, h6, h7, h8, h9, h10⟩ := h
  exact ⟨c, k, i, f, a, cell, h1, h2, h3, h4, h5, h6, h7, h8, h9, fun z => h10 (hAB _ z)⟩
theorem vx_L.word {C n d : String} {A : Nat → Prop} {s : State} {args : Array Value} (h : vx_L C n d A s s.heap) : (Cond.laysStatic C n d).before args s = true := by
  obtain ⟨c, k, i, f, a, cell, h1, h2, h3, h4, h5, h6, h7, h8, h9, -⟩ := h
  show (Cond.laysStatic C n d).holds args s none s [] = true
  exact Cond.laysStatic_of h1 h2 h3 h4 h5 h6 h7 h8 h9
/-- .. and what it holds: null or some reference -/
def vx_Zq (C n d : String) (A : Nat → Prop) (U : State) (H : Heap) : Prop := va_Zq C n d A U H ∧ vx_L C n d A U H
theorem vx_Zq.moved {C n d : String} {A : Nat → Prop} {u U : State} {H : Heap} (hvm : u.vm.Alike U.vm) (h : vx_Zq C n d A u H) : vx_Zq C n d A U H := ⟨va_Zq.moved hvm h.1, vx_L.moved hvm h.2⟩
theorem vx_Zq.kept {C n d : String} {A : Nat → Prop} {U : State} {H H1 : Heap} (h : vx_Zq C n d A U H) (hq : ∀ a : Nat, a < H.size → ¬ A a → H1[a]? = H[a]?) : vx_Zq C n d A U H1 := ⟨va_Zq.kept h.1 hq, vx_L.kept h.2 hq⟩
theorem vx_Zq.narrow {C n d : String} {A B : Nat → Prop} {U : State} {H : Heap} (h : vx_Zq C n d A U H) (hAB : ∀ q, B q → A q) : vx_Zq C n d B U H := ⟨va_Zq.narrow h.1 hAB, vx_L.narrow h.2 hAB⟩
theorem vx_Zqof {args : Array Value} {s : State} {C n d : String} {A : Nat → Prop} (hl : (Cond.laysStatic C n d).before args s = true) (hini : (Cond.initialized C).before args s = true) (h : (Cond.isRef (.static C n d)).before args s = true) (hA : ∀ a : Nat, a < s.heap.size → ¬ A a) : vx_Zq C n d A s s.heap := by
  refine ⟨va_Zqof hl hini h hA, ?_⟩
  obtain ⟨c, k, i, f, a, cell, h1, h2, h3, h4, h5, h6, h7, h8, h9⟩ := Cond.laysStatic_spec hl
  exact ⟨c, k, i, f, a, cell, h1, h2, h3, h4, h5, h6, h7, h8, h9, hA a (Array.getElem?_eq_some_iff.mp h5).1⟩
theorem vx_isRef {C n d : String} {v : Value} {A : Nat → Prop} {s : State} {args : Array Value} (h : va_Z C n d v A s s.heap) (hv : v.isRef = true) : (Cond.isRef (.static C n d)).before args s = true := by
  obtain ⟨cf, kf, fi, f, a, cell, h1, h2, h3, h4, h5, h6, h7, -⟩ := h
  have he : (Term.static C n d).eval args s none [] s = some v := by
    simp [Term.eval, State.fieldNamed?, h1, h2, h4, h5, h6, h7]
  simp only [Cond.before, Cond.holds, Cond.value, he]
  cases v <;> simp_all [Value.isRef]
theorem vx_isRefq {C n d : String} {A : Nat → Prop} {s : State} {args : Array Value} (h : va_Zq C n d A s s.heap) : (Cond.isRef (.static C n d)).before args s = true := by
  rcases h with h | ⟨t, h⟩
  · exact vx_isRef h rfl
  · exact vx_isRef h rfl
/-- the same frame, seen from here: as if the method were called anew in this heap -/
theorem vx_rebase {T : State} (X : Stand p l e R s m args below meth c T locs cells slots) {R' : Room} (hf : R'.frames ≤ R.frames) (hl : R'.locals ≤ R.locals) (hc : cells + R'.cells ≤ R.cells) (hs : slots + R'.slots ≤ R.slots) :
    Stand p l e R' ((T.setVm s.vm).setFrames (.invoking m args :: below)) m args below meth c T [] 0 0 := by
  have htop : (T.setVm s.vm).topJava?.isSome := X.here.top
  have hF : ((T.setVm s.vm).setFrames (.invoking m args :: below)).frames = .invoking m args :: below := State.frames_setFrames _ (State.cur_lt_of_top htop)
  obtain ⟨g₀, hg0⟩ := Option.isSome_iff_exists.mp htop
  obtain ⟨r, hr⟩ := State.topJava?_eq_some.mp hg0
  have hl9 : e.platform.stackLimits (T.setVm s.vm).me = e.platform.stackLimits s.me := X.limits
  have hb9 : (T.setVm s.vm).me.stackBytes = s.me.stackBytes := X.bytes
  refine ⟨X.admits, X.cas, X.clock, hF, ?_, X.hears, X.method, X.code, X.here, X.tail, X.warmed, ?_, ?_, ?_⟩
  · have h := X.room
    have hU : ((T.setVm s.vm).setFrames (.invoking m args :: below)).localsInUse = s.localsInUse := by
      rw [State.localsInUse_invoking hF (meth := meth) (c := c) X.method X.code, State.localsInUse_invoking X.frames X.method X.code]
    simp only [State.hasRoom, Bool.and_eq_true, decide_eq_true_eq] at h ⊢
    obtain ⟨⟨⟨⟨h1, h2, h3, h4, h5, h6⟩, h7⟩, h8⟩, h9⟩ := h
    rw [X.frames, List.length_cons] at h2 h3
    have q1 := X.heapSize
    have q2 := X.used
    simp only [hF, hU, List.length_cons, State.stackLimits_setFrames, State.stackBytes_setFrames, hl9, hb9]
    refine ⟨⟨⟨⟨by omega, by omega, by omega, by omega, by omega, h6⟩, ?_⟩, ?_⟩, X.book⟩
    · show T.heap.size + R'.cells ≤ e.platform.maxCells
      omega
    · show T.slotsUsed + R'.slots ≤ e.platform.maxSlots
      omega
  · rw [State.stackLimits_setFrames]; rfl
  · rw [State.stackBytes_setFrames]; rfl
  · refine ⟨?_, Nat.le_refl _, Nat.le_refl _, ?_, ?_, fun a c9 h9 => ⟨c9, h9, rfl, rfl, fun _ _ => rfl⟩⟩
    · obtain ⟨t, ht, -⟩ := State.frames_cons hr
      show T.setVm s.vm = { ((T.setVm s.vm).setFrames (.invoking m args :: below)).setFrames (T.setVm s.vm).frames with heap := T.heap, slotsUsed := T.slotsUsed }
      rw [State.setFrames_setFrames, State.setFrames_self ht]
      rfl
    · show T.slotsUsed = T.slotsUsed + ((T.heap.toList.drop T.heap.size).map (·.slots.size)).sum
      rw [List.drop_eq_nil_of_le (Nat.le_of_eq Array.length_toList)]
      rfl
    · show ((T.heap.toList.drop T.heap.size).map (·.slots.size)).sum ≤ 0
      rw [List.drop_eq_nil_of_le (Nat.le_of_eq Array.length_toList)]
      exact Nat.le_refl _
/-- 'throw new E()': new; dup; invokespecial; athrow -/
theorem vx_throw0 {cc : ByteArray} {pc : Nat} (hexec : p.tables.exec = Jvm.exec) (hb : c.code = cc) (hl : l.stackTraces = false) {own cls : String} {names : List String} {ik ic mc ms : Nat} {A : Nat → Prop}
    (hown : s.vm.findClass own = some m.cls) (hcls : Bundle.fit cls = true) (hnames : ∀ n ∈ names, Bundle.fit n = true)
    (hk : (Cond.classLink own ik cls).before args s = true) (hini : (Cond.initialized cls).before args s = true) (hat : ∀ w ∈ vx_at0 own ic cls names, w.before args s = true)
    (hgood : ∀ w ∈ Cond.classLink own ik cls :: Cond.initialized cls :: vx_at0 own ic cls names, vx_ot w = true)
    (hU : vx_Zq Bundle.tN "UNASSIGNED_STACK" Bundle.steD A s s.heap) (hN : vx_Zq Bundle.tN "SUPPRESSED_SENTINEL" Bundle.listD A s s.heap) (hS : va_S A s.heap H locs) (hsize : ls.size = c.maxLocals)
    (d0 : decode cc pc = .ok (.new ik, 3)) (d3 : decode cc (pc + 3) = .ok (.dup, 1)) (d4 : decode cc (pc + 4) = .ok (.invokespecial ic, 3)) (d7 : decode cc (pc + 7) = .ok (.athrow, 1))
    (hout : ∀ x ∈ c.exceptionTable.toList, covers x (pc + 7) = false)
    (hRframes : names.length + 3 < R.frames) (hRlocals : (rest.map fun v => v.category).sum + (13 * (names.length + 1) + 42) ≤ R.locals) (hRcells : cells + 1 ≤ R.cells) (hRslots : slots + 6 ≤ R.slots) (hlocks : meth.locks = false)
    (hx : ∀ t : State, s.vm.Alike t.vm → H.size ≤ t.heap.size → (∀ q : Nat, q < H.size → t.heap[q]? = H[q]?) → XC cls s t)
    (hf : ∀ z ∈ locs, free z.base) (hc : cells + 1 ≤ mc) (hs : slots + 6 ≤ ms) :
    W p l e R s m args below meth c H locs cells slots (vx_MQ below Qc XC args s mc ms free) (F0 m pc ls rest) := by
  intro T hT X
  have htr : e.platform.stackTraces = false := (show e.platform.stackTraces = l.stackTraces by rw [X.admits.platform]).trans hl
  have Y := vx_rebase X (R' := { frames := R.frames, locals := R.locals, cells := 1, slots := 6 }) (Nat.le_refl _) (Nat.le_refl _) hRcells hRslots
  obtain ⟨s', hA⟩ : ∃ z, z = (T.setVm s.vm).setFrames (.invoking m args :: below) := ⟨_, rfl⟩
  rw [← hA] at Y
  have hvm : s'.vm = s.vm := by rw [hA]; rfl
  have hhp : s'.heap = H := by rw [hA]; exact hT
  have hW0 : s.WarmedH s'.vm := by rw [hvm]; exact State.WarmedH.refl s
  have hat' : ∀ w ∈ vx_at0 own ic cls names, w.before args s' = true := fun w hw => vx_ot_at hW0 hvm.symm (hgood w (List.mem_cons_of_mem _ (List.mem_cons_of_mem _ hw))) (hat w hw)
  have hk' : (Cond.classLink own ik cls).before args s' = true := vx_ot_at hW0 hvm.symm (hgood _ List.mem_cons_self) hk
  have hini' : (Cond.initialized cls).before args s' = true := vx_ot_at hW0 hvm.symm (hgood _ (List.mem_cons_of_mem _ List.mem_cons_self)) hini
  have hU' : vx_Zq Bundle.tN "UNASSIGNED_STACK" Bundle.steD A s' s'.heap := by rw [hhp]; exact vx_Zq.moved hW0.alike (hU.kept hS.2.1)
  have hN' : vx_Zq Bundle.tN "SUPPRESSED_SENTINEL" Bundle.listD A s' s'.heap := by rw [hhp]; exact vx_Zq.moved hW0.alike (hN.kept hS.2.1)
  have h : ∀ w ∈ Bundle.ownAtoms0 own ic cls names, w.before args s' = true := vx_own hat' (vx_isRefq hU'.1) (vx_isRefq hN'.1) hU'.2.word hN'.2.word
  have hown' : s'.vm.findClass own = some m.cls := by rw [hvm]; exact hown
  have hins : (Cond.instantiable cls 6).before args s' = true := h _ (by simp [Bundle.ownAtoms0])
  obtain ⟨vm₁, cX, kX, hfX, hkX, -, -, X₁, st1⟩ := Y.newCold hexec (own := own) (C := cls) (index := ik) (n := 6) hown' hk' hins hini'
    (g := F0 m pc ls rest) rfl (by rw [hb]; exact d0) (Nat.le_refl _) (Nat.le_refl _)
  generalize hT1 : (T.setVm vm₁).pushCell { cls := cX, slots := kX.instanceTypes.map defaultValue, vm := .none } = T1 at X₁ st1
  have hcat : (Value.ref T.heap.size).category = 1 := rfl
  have hcellA : T1.heap[T.heap.size]? = some (freshCell cX kX) := by rw [← hT1]; exact State.heap_pushCell_size _ _
  have d3' : decode c.code (pc + 3) = .ok (.dup, 1) := by rw [hb]; exact d3
  obtain ⟨U, hsteps, hrun, hend, hW, hsame, ce, hce, hO⟩ := X₁.ctorThrow0 hexec htr (own := own) (cls := cls) (names := names) (ic := ic) hown' hcls hnames h (fun x hx => nomatch hx) hfX hkX hcellA (by rw [hhp, hT]; exact Nat.le_refl _)
    (g := { method := m, pc := pc + 4, locals := ls, stack := .ref T.heap.size :: .ref T.heap.size :: rest, locked := none }) rfl hsize rfl rfl (rest := rest) rfl
    (by rw [hb]; exact d4) (by rw [hb]; exact d7) hout hRframes (by simp only [List.map_cons, List.sum_cons, hcat]; omega) hlocks
  obtain ⟨f1, f2⟩ := vx_frame hsame
  rw [hhp] at f1 f2
  have hWs : s.WarmedH U.vm := State.WarmedH.trans hW0 hW
  have hcl : s.vm.findClass cls = some ce.cls := by
    have h9 := hO.cls
    rw [hvm] at h9
    exact h9
  have hall : s.sameButNew ({ U with vm := s.vm } : State) locs mc ms := by
    subst hA
    obtain ⟨e1, e2⟩ := hsame
    rw [State.setFrames_setFrames] at e1
    have h2 : (T.setVm s.vm).sameButNew ({ U with vm := s.vm } : State) [] (0 + 1) (0 + 6) := ⟨e1, e2⟩
    have h3 := X.same.trans h2
    rw [List.append_nil] at h3
    exact h3.mono hc hs
  refine ⟨U, ?_, .threw T.heap.size, hrun, hend, Or.inr ⟨T.heap.size, rfl, cls, ce, locs, hx U hWs.alike f1 (fun q hq => f2 q hq (fun z hz => nomatch hz)), hce, hO.vm, hcl, hWs, hall, hf⟩⟩
  refine st1 _ ?_
  show Steps p.tables e below (T1.setTop { method := m, pc := pc + 3, locals := ls, stack := .ref T.heap.size :: rest, locked := none }) _
  jvm_step X₁.here [X₁.here.top, hexec, d3', Value.category]
  exact hsteps
/-- 'throw new E("text")': new; dup; ldc; invokespecial; athrow -/
theorem vx_throwS {cc : ByteArray} {pc : Nat} (hexec : p.tables.exec = Jvm.exec) (hb : c.code = cc) (hl : l.stackTraces = false) {own cls text : String} {names : List String} {ik is ic mc ms sa : Nat} {A : Nat → Prop}
    (hown : s.vm.findClass own = some m.cls) (hcls : Bundle.fit cls = true) (hnames : ∀ n ∈ names, Bundle.fit n = true)
    (hk : (Cond.classLink own ik cls).before args s = true) (hini : (Cond.initialized cls).before args s = true) (hstr : vk_R own is text sa s) (hat : ∀ w ∈ vx_atS own ic cls names, w.before args s = true)
    (hgood : ∀ w ∈ Cond.classLink own ik cls :: Cond.initialized cls :: vx_atS own ic cls names, vx_ot w = true)
    (hU : vx_Zq Bundle.tN "UNASSIGNED_STACK" Bundle.steD A s s.heap) (hN : vx_Zq Bundle.tN "SUPPRESSED_SENTINEL" Bundle.listD A s s.heap) (hS : va_S A s.heap H locs) (hsize : ls.size = c.maxLocals)
    (d0 : decode cc pc = .ok (.new ik, 3)) (d3 : decode cc (pc + 3) = .ok (.dup, 1)) (d4 : decode cc (pc + 4) = .ok (.ldc is, 2)) (d6 : decode cc (pc + 6) = .ok (.invokespecial ic, 3)) (d9 : decode cc (pc + 9) = .ok (.athrow, 1))
    (hout : ∀ x ∈ c.exceptionTable.toList, covers x (pc + 9) = false)
    (hRframes : names.length + 3 < R.frames) (hRlocals : (rest.map fun v => v.category).sum + (13 * (names.length + 1) + 43) ≤ R.locals) (hRcells : cells + 1 ≤ R.cells) (hRslots : slots + 6 ≤ R.slots) (hlocks : meth.locks = false)
    (hx : ∀ t : State, s.vm.Alike t.vm → H.size ≤ t.heap.size → (∀ q : Nat, q < H.size → t.heap[q]? = H[q]?) → XC cls s t)
    (hf : ∀ z ∈ locs, free z.base) (hc : cells + 1 ≤ mc) (hs : slots + 6 ≤ ms) :
    W p l e R s m args below meth c H locs cells slots (vx_MQ below Qc XC args s mc ms free) (F0 m pc ls rest) := by
  intro T hT X
  have htr : e.platform.stackTraces = false := (show e.platform.stackTraces = l.stackTraces by rw [X.admits.platform]).trans hl
  have Y := vx_rebase X (R' := { frames := R.frames, locals := R.locals, cells := 1, slots := 6 }) (Nat.le_refl _) (Nat.le_refl _) hRcells hRslots
  obtain ⟨s', hA⟩ : ∃ z, z = (T.setVm s.vm).setFrames (.invoking m args :: below) := ⟨_, rfl⟩
  rw [← hA] at Y
  have hvm : s'.vm = s.vm := by rw [hA]; rfl
  have hhp : s'.heap = H := by rw [hA]; exact hT
  have hW0 : s.WarmedH s'.vm := by rw [hvm]; exact State.WarmedH.refl s
  have hat' : ∀ w ∈ vx_atS own ic cls names, w.before args s' = true := fun w hw => vx_ot_at hW0 hvm.symm (hgood w (List.mem_cons_of_mem _ (List.mem_cons_of_mem _ hw))) (hat w hw)
  have hk' : (Cond.classLink own ik cls).before args s' = true := vx_ot_at hW0 hvm.symm (hgood _ List.mem_cons_self) hk
  have hini' : (Cond.initialized cls).before args s' = true := vx_ot_at hW0 hvm.symm (hgood _ (List.mem_cons_of_mem _ List.mem_cons_self)) hini
  have hU' : vx_Zq Bundle.tN "UNASSIGNED_STACK" Bundle.steD A s' s'.heap := by rw [hhp]; exact vx_Zq.moved hW0.alike (hU.kept hS.2.1)
  have hN' : vx_Zq Bundle.tN "SUPPRESSED_SENTINEL" Bundle.listD A s' s'.heap := by rw [hhp]; exact vx_Zq.moved hW0.alike (hN.kept hS.2.1)
  have h : ∀ w ∈ Bundle.ownAtoms own ic cls names, w.before args s' = true := vx_own hat' (vx_isRefq hU'.1) (vx_isRefq hN'.1) hU'.2.word hN'.2.word
  have hown' : s'.vm.findClass own = some m.cls := by rw [hvm]; exact hown
  have hins : (Cond.instantiable cls 6).before args s' = true := h _ (by simp [Bundle.ownAtoms])
  obtain ⟨vm₁, cX, kX, hfX, hkX, -, -, X₁, st1⟩ := Y.newCold hexec (own := own) (C := cls) (index := ik) (n := 6) hown' hk' hins hini'
    (g := F0 m pc ls rest) rfl (by rw [hb]; exact d0) (Nat.le_refl _) (Nat.le_refl _)
  generalize hT1 : (T.setVm vm₁).pushCell { cls := cX, slots := kX.instanceTypes.map defaultValue, vm := .none } = T1 at X₁ st1
  have hcat : (Value.ref T.heap.size).category = 1 := rfl
  have hcellA : T1.heap[T.heap.size]? = some (freshCell cX kX) := by rw [← hT1]; exact State.heap_pushCell_size _ _
  have d3' : decode c.code (pc + 3) = .ok (.dup, 1) := by rw [hb]; exact d3
  have d4' : decode c.code (pc + 4) = .ok (.ldc is, 2) := by rw [hb]; exact d4
  have hstr' : vk_R own is text sa s' := vk_R.warm hW0 hstr
  obtain ⟨U, hsteps, hrun, hend, hW, hsame, ce, hce, hO⟩ := X₁.ctorThrowS hexec htr (own := own) (cls := cls) (names := names) (ic := ic) hown' hcls hnames h (fun x hx => nomatch hx) hfX hkX hcellA (by rw [hhp, hT]; exact Nat.le_refl _) (msg := .ref sa) rfl
    (g := { method := m, pc := pc + 6, locals := ls, stack := .ref sa :: .ref T.heap.size :: .ref T.heap.size :: rest, locked := none }) rfl hsize rfl rfl (rest := rest) rfl
    (by rw [hb]; exact d6) (by rw [hb]; exact d9) hout hRframes (by simp only [List.map_cons, List.sum_cons, hcat]; omega) hlocks
  obtain ⟨f1, f2⟩ := vx_frame hsame
  rw [hhp] at f1 f2
  have hWs : s.WarmedH U.vm := State.WarmedH.trans hW0 hW
  have hcl : s.vm.findClass cls = some ce.cls := by
    have h9 := hO.cls
    rw [hvm] at h9
    exact h9
  have hall : s.sameButNew ({ U with vm := s.vm } : State) locs mc ms := by
    subst hA
    obtain ⟨e1, e2⟩ := hsame
    rw [State.setFrames_setFrames] at e1
    have h2 : (T.setVm s.vm).sameButNew ({ U with vm := s.vm } : State) [] (0 + 1) (0 + 6) := ⟨e1, e2⟩
    have h3 := X.same.trans h2
    rw [List.append_nil] at h3
    exact h3.mono hc hs
  refine ⟨U, ?_, .threw T.heap.size, hrun, hend, Or.inr ⟨T.heap.size, rfl, cls, ce, locs, hx U hWs.alike f1 (fun q hq => f2 q hq (fun z hz => nomatch hz)), hce, hO.vm, hcl, hWs, hall, hf⟩⟩
  refine st1 _ ?_
  show Steps p.tables e below (T1.setTop { method := m, pc := pc + 3, locals := ls, stack := .ref T.heap.size :: rest, locked := none }) _
  jvm_step X₁.here [X₁.here.top, hexec, d3', Value.category]
  exact X₁.ldcString hexec (own := own) (text := text) (index := is) (a := sa) hown' hstr'.1 hstr'.2
    (g := { method := m, pc := pc + 4, locals := ls, stack := .ref T.heap.size :: .ref T.heap.size :: rest, locked := none }) rfl d4' _ hsteps
/-- 'throw new E("text")', the text by a wide index -/
theorem vx_throwSW {cc : ByteArray} {pc : Nat} (hexec : p.tables.exec = Jvm.exec) (hb : c.code = cc) (hl : l.stackTraces = false) {own cls text : String} {names : List String} {ik is ic mc ms sa : Nat} {A : Nat → Prop}
    (hown : s.vm.findClass own = some m.cls) (hcls : Bundle.fit cls = true) (hnames : ∀ n ∈ names, Bundle.fit n = true)
    (hk : (Cond.classLink own ik cls).before args s = true) (hini : (Cond.initialized cls).before args s = true) (hstr : vk_R own is text sa s) (hat : ∀ w ∈ vx_atS own ic cls names, w.before args s = true)
    (hgood : ∀ w ∈ Cond.classLink own ik cls :: Cond.initialized cls :: vx_atS own ic cls names, vx_ot w = true)
    (hU : vx_Zq Bundle.tN "UNASSIGNED_STACK" Bundle.steD A s s.heap) (hN : vx_Zq Bundle.tN "SUPPRESSED_SENTINEL" Bundle.listD A s s.heap) (hS : va_S A s.heap H locs) (hsize : ls.size = c.maxLocals)
    (d0 : decode cc pc = .ok (.new ik, 3)) (d3 : decode cc (pc + 3) = .ok (.dup, 1)) (d4 : decode cc (pc + 4) = .ok (.ldc_w is, 3)) (d7 : decode cc (pc + 7) = .ok (.invokespecial ic, 3)) (d10 : decode cc (pc + 10) = .ok (.athrow, 1))
    (hout : ∀ x ∈ c.exceptionTable.toList, covers x (pc + 10) = false)
    (hRframes : names.length + 3 < R.frames) (hRlocals : (rest.map fun v => v.category).sum + (13 * (names.length + 1) + 43) ≤ R.locals) (hRcells : cells + 1 ≤ R.cells) (hRslots : slots + 6 ≤ R.slots) (hlocks : meth.locks = false)
    (hx : ∀ t : State, s.vm.Alike t.vm → H.size ≤ t.heap.size → (∀ q : Nat, q < H.size → t.heap[q]? = H[q]?) → XC cls s t)
    (hf : ∀ z ∈ locs, free z.base) (hc : cells + 1 ≤ mc) (hs : slots + 6 ≤ ms) :
    W p l e R s m args below meth c H locs cells slots (vx_MQ below Qc XC args s mc ms free) (F0 m pc ls rest) := by
  intro T hT X
  have htr : e.platform.stackTraces = false := (show e.platform.stackTraces = l.stackTraces by rw [X.admits.platform]).trans hl
  have Y := vx_rebase X (R' := { frames := R.frames, locals := R.locals, cells := 1, slots := 6 }) (Nat.le_refl _) (Nat.le_refl _) hRcells hRslots
  obtain ⟨s', hA⟩ : ∃ z, z = (T.setVm s.vm).setFrames (.invoking m args :: below) := ⟨_, rfl⟩
  rw [← hA] at Y
  have hvm : s'.vm = s.vm := by rw [hA]; rfl
  have hhp : s'.heap = H := by rw [hA]; exact hT
  have hW0 : s.WarmedH s'.vm := by rw [hvm]; exact State.WarmedH.refl s
  have hat' : ∀ w ∈ vx_atS own ic cls names, w.before args s' = true := fun w hw => vx_ot_at hW0 hvm.symm (hgood w (List.mem_cons_of_mem _ (List.mem_cons_of_mem _ hw))) (hat w hw)
  have hk' : (Cond.classLink own ik cls).before args s' = true := vx_ot_at hW0 hvm.symm (hgood _ List.mem_cons_self) hk
  have hini' : (Cond.initialized cls).before args s' = true := vx_ot_at hW0 hvm.symm (hgood _ (List.mem_cons_of_mem _ List.mem_cons_self)) hini
  have hU' : vx_Zq Bundle.tN "UNASSIGNED_STACK" Bundle.steD A s' s'.heap := by rw [hhp]; exact vx_Zq.moved hW0.alike (hU.kept hS.2.1)
  have hN' : vx_Zq Bundle.tN "SUPPRESSED_SENTINEL" Bundle.listD A s' s'.heap := by rw [hhp]; exact vx_Zq.moved hW0.alike (hN.kept hS.2.1)
  have h : ∀ w ∈ Bundle.ownAtoms own ic cls names, w.before args s' = true := vx_own hat' (vx_isRefq hU'.1) (vx_isRefq hN'.1) hU'.2.word hN'.2.word
  have hown' : s'.vm.findClass own = some m.cls := by rw [hvm]; exact hown
  have hins : (Cond.instantiable cls 6).before args s' = true := h _ (by simp [Bundle.ownAtoms])
  obtain ⟨vm₁, cX, kX, hfX, hkX, -, -, X₁, st1⟩ := Y.newCold hexec (own := own) (C := cls) (index := ik) (n := 6) hown' hk' hins hini'
    (g := F0 m pc ls rest) rfl (by rw [hb]; exact d0) (Nat.le_refl _) (Nat.le_refl _)
  generalize hT1 : (T.setVm vm₁).pushCell { cls := cX, slots := kX.instanceTypes.map defaultValue, vm := .none } = T1 at X₁ st1
  have hcat : (Value.ref T.heap.size).category = 1 := rfl
  have hcellA : T1.heap[T.heap.size]? = some (freshCell cX kX) := by rw [← hT1]; exact State.heap_pushCell_size _ _
  have d3' : decode c.code (pc + 3) = .ok (.dup, 1) := by rw [hb]; exact d3
  have d4' : decode c.code (pc + 4) = .ok (.ldc_w is, 3) := by rw [hb]; exact d4
  have hstr' : vk_R own is text sa s' := vk_R.warm hW0 hstr
  obtain ⟨U, hsteps, hrun, hend, hW, hsame, ce, hce, hO⟩ := X₁.ctorThrowS hexec htr (own := own) (cls := cls) (names := names) (ic := ic) hown' hcls hnames h (fun x hx => nomatch hx) hfX hkX hcellA (by rw [hhp, hT]; exact Nat.le_refl _) (msg := .ref sa) rfl
    (g := { method := m, pc := pc + 7, locals := ls, stack := .ref sa :: .ref T.heap.size :: .ref T.heap.size :: rest, locked := none }) rfl hsize rfl rfl (rest := rest) rfl
    (by rw [hb]; exact d7) (by rw [hb]; exact d10) hout hRframes (by simp only [List.map_cons, List.sum_cons, hcat]; omega) hlocks
  obtain ⟨f1, f2⟩ := vx_frame hsame
  rw [hhp] at f1 f2
  have hWs : s.WarmedH U.vm := State.WarmedH.trans hW0 hW
  have hcl : s.vm.findClass cls = some ce.cls := by
    have h9 := hO.cls
    rw [hvm] at h9
    exact h9
  have hall : s.sameButNew ({ U with vm := s.vm } : State) locs mc ms := by
    subst hA
    obtain ⟨e1, e2⟩ := hsame
    rw [State.setFrames_setFrames] at e1
    have h2 : (T.setVm s.vm).sameButNew ({ U with vm := s.vm } : State) [] (0 + 1) (0 + 6) := ⟨e1, e2⟩
    have h3 := X.same.trans h2
    rw [List.append_nil] at h3
    exact h3.mono hc hs
  refine ⟨U, ?_, .threw T.heap.size, hrun, hend, Or.inr ⟨T.heap.size, rfl, cls, ce, locs, hx U hWs.alike f1 (fun q hq => f2 q hq (fun z hz => nomatch hz)), hce, hO.vm, hcl, hWs, hall, hf⟩⟩
  refine st1 _ ?_
  show Steps p.tables e below (T1.setTop { method := m, pc := pc + 3, locals := ls, stack := .ref T.heap.size :: rest, locked := none }) _
  jvm_step X₁.here [X₁.here.top, hexec, d3', Value.category]
  exact X₁.ldcStringW hexec (own := own) (text := text) (index := is) (a := sa) hown' hstr'.1 hstr'.2
    (g := { method := m, pc := pc + 4, locals := ls, stack := .ref T.heap.size :: .ref T.heap.size :: rest, locked := none }) rfl d4' _ hsteps
end Ends
section Bodies
variable {l : Launch}
theorem vx_ofW {y : MethodName} {ws ws' : List Cond} {rm : Room} {Pc : Array Value → State → Prop} {Qc : Array Value → State → Outcome → State → Prop} {XC : String → State → State → Prop} {mc ms : Nat} {free : Addr → Prop} {cc : ByteArray} {maxL : Nat} {ret : Option FieldType}
    (hy : plainName y.cls = true) (hw : ws = Cond.code y cc maxL ret :: ws')
    (body : ∀ p e s m args below meth c s₁, BodyLoose p l y (headSpec ws rm) cc maxL ret e s m args below meth c s₁ → c.maxLocals = maxL → (∀ x ∈ c.exceptionTable.toList, False) → Pc args s →
      W p l e (headSpec ws rm).room s m args below meth c s.heap [] 0 0 (vx_MQ below Qc XC args s mc ms free) (entryFrame m args maxL)) : vx_Met l y ws rm Pc Qc XC mc ms free := by
  refine MetFree.of_bodyS (code := cc) (maxLocals := maxL) (ret := ret) hy ?_ ?_
  · intro args s m h hn
    obtain ⟨meth, c, h1, h2, h3, h4, h5, h6, -, -⟩ := Cond.code_spec hn (atoms_spec (ws := ws) h _ (by rw [hw]; exact List.mem_cons_self))
    exact ⟨meth, c, h1, h2, h3, h4, h5, h6⟩
  · intro p e s m args below meth c s₁ B hml hP _
    have hh0 : s₁.heap = s.heap := by rw [B.state]; rfl
    have ht : ∀ x ∈ c.exceptionTable.toList, False := by
      obtain ⟨meth9, c9, h1, h2, -, -, -, -, h7, -⟩ := Cond.code_spec B.named (atoms_spec (ws := ws) B.pre _ (by rw [hw]; exact List.mem_cons_self))
      cases Option.some.inj (h1.symm.trans B.method)
      cases Option.some.inj (h2.symm.trans (Stand.of_body B).code)
      intro x hx
      rw [Array.isEmpty_iff.mp h7] at hx
      cases hx
    obtain ⟨t, a1, o, b1, b2, b3⟩ := body p e s m args below meth c s₁ B hml ht hP s₁ hh0 (Stand.of_body B)
    exact ⟨t, o, a1, b1, b2, b3⟩
/-- the table of a body with handlers -/
theorem vx_table {p : Program} {x y : MethodName} {S : Spec} {cc bytes : ByteArray} {maxL maxL' : Nat} {ret ret' : Option FieldType} {e : Env} {s s₁ : State} {m : MethodId} {args : Array Value} {below : List Frame} {meth : Method} {c : Code} {hh : List (Nat × Nat × Nat × Nat)}
    (B : BodyLoose p l y S cc maxL ret e s m args below meth c s₁) (h : (Cond.codeWith y bytes maxL' ret' hh).before args s = true) : c.exceptionTable.toList = tableOf hh := by
  obtain ⟨m9, meth9, c9, hn9, h1, h2, -, -, h6, -⟩ := Cond.codeWith_spec h
  cases Option.some.inj (hn9.symm.trans B.named)
  cases Option.some.inj (h1.symm.trans B.method)
  cases Option.some.inj (h2.symm.trans (Stand.of_body B).code)
  rw [← h6, table_eq]
end Bodies
end VXA
/-! ===== END ===== -/
/-! ===== BEGIN a static call of a method with an exception table ===== -/
section VXS
variable {p : Program} {l : Launch} {e : Env} {R : Room} {s : State} {m : MethodId} {args : Array Value} {below : List Frame} {meth : Method} {c : Code} {T : State} {H : Heap} {locs : List Loc} {cells slots : Nat}
abbrev vx_CSW (R : Room) (s : State) (args : Array Value) (own : String) (index : Nat) (y : MethodName) (bytes : ByteArray) (maxL : Nat) (ret : Option FieldType) (hh : List (Nat × Nat × Nat × Nat)) (ws : List Cond) (rm : Room) (mc ms n : Nat) : Prop :=
  (rm.cells = mc ∧ rm.slots = ms ∧ rm.frames + 1 ≤ R.frames ∧ 8 + (maxL + 11) + rm.locals ≤ R.locals ∧ (∀ w ∈ ws, ∀ (a' : Array Value) (U : State), s.WarmedH U.vm → w.before a' U = true) ∧ Cond.codeWith y bytes maxL ret hh ∈ ws) ∧
  (Cond.codeWith y bytes maxL ret hh).before args s = true ∧ (Cond.initialized y.cls).before args s = true ∧ (y.cls ≠ "java/lang/invoke/MethodHandle" ∧ y.cls ≠ "java/lang/invoke/VarHandle") ∧
  (∀ sig, parseMethodDescriptor y.desc = some sig → n = sig.parameters.length) ∧ (Cond.methodLink own index y).before args s = true ∧ (Cond.static y).before args s = true
theorem vx_cwSW {own : String} {index maxL mc ms : Nat} {y : MethodName} {bytes : ByteArray} {ret : Option FieldType} {hh : List (Nat × Nat × Nat × Nat)} {Ts ws ws' : List Cond} {rm : Room} (n : Nat) (ht : ∀ w ∈ Ts, w.before args s = true) (hT : GoodIn Ts (va_wsS own index y ws)) (hw : ws = Cond.codeWith y bytes maxL ret hh :: ws') (hrc : rm.cells = mc) (hrs : rm.slots = ms)
    (hd : y.cls ≠ "java/lang/invoke/MethodHandle" ∧ y.cls ≠ "java/lang/invoke/VarHandle" ∧ (parseMethodDescriptor y.desc).map (fun d => d.parameters.length) = some n) (hR : rm.frames + 1 ≤ R.frames ∧ 8 + (maxL + 11) + rm.locals ≤ R.locals) :
    vx_CSW R s args own index y bytes maxL ret hh ws rm mc ms n := by
  have ok : ∀ w ∈ va_wsS own index y ws, w.before args s = true := fun w h => ht w (hT w h).1
  have hG : GoodIn Ts ws := fun w h => hT w (by unfold va_wsS; exact List.mem_append_right _ h)
  have hc : Cond.codeWith y bytes maxL ret hh ∈ ws := by rw [hw]; exact List.mem_cons_self
  refine ⟨⟨hrc, hrs, hR.1, hR.2, pay_in ht hG, hc⟩, ht _ (hG _ hc).1, ok _ (by simp [va_wsS]), ⟨hd.1, hd.2.1⟩, fun sig h => ?_, ok _ (by simp [va_wsS]), ok _ (by simp [va_wsS])⟩
  have h2 := hd.2.2
  rw [h] at h2
  exact (Option.some.inj h2).symm
theorem vx_callSW (X : Stand p l e R s m args below meth c T locs cells slots) (hexec : p.tables.exec = Jvm.exec) {own : String} {index : Nat} {y : MethodName} {bytes : ByteArray} {maxL : Nat} {ret : Option FieldType} {hh : List (Nat × Nat × Nat × Nat)}
    (hown : s.vm.findClass own = some m.cls) (hlink : (Cond.methodLink own index y).before args s = true) (hstat : (Cond.static y).before args s = true) (hinit : (Cond.initialized y.cls).before args s = true)
    (hcode : (Cond.codeWith y bytes maxL ret hh).before args s = true) (hy : y.cls ≠ "java/lang/invoke/MethodHandle" ∧ y.cls ≠ "java/lang/invoke/VarHandle")
    {W9 : Nat} {Pre : Pt → Array Value → Prop} {Post : Pt → Array Value → Option Value → Pt → Prop} (hK : Back l R p e below s args y 3 W9 Pre Post)
    {g : JFrame} (hg : g.method = m) (hsize : g.locals.size = c.maxLocals) {argsL rest : List Value} (hlen : ∀ sig, parseMethodDescriptor y.desc = some sig → argsL.length = sig.parameters.length)
    (hstack : g.stack = argsL.reverse ++ rest) (hW : 2 * g.monitorRoom + (rest.map fun v => v.category).sum ≤ W9) (hdg : decode c.code g.pc = .ok (.invokestatic index, 3))
    (hpre : ∀ vm₁, s.WarmedH vm₁ → Pre ⟨T.setVm vm₁, locs, cells, slots⟩ argsL.toArray) :
    ∃ (v : Option Value) (vm₁ : Vm) (B : Pt), s.WarmedH vm₁ ∧ Stand p l e R s m args below meth c B.U B.locs B.cells B.slots ∧ Post ⟨T.setVm vm₁, locs, cells, slots⟩ argsL.toArray v B ∧
      ∀ target, Steps p.tables e below (B.U.setTop { g with pc := g.pc + 3, stack := v.toList ++ rest }) target → Steps p.tables e below (T.setTop g) target := by
  obtain ⟨mk, methM, cM, hnamed, hmethM, -, -, -, -, -, -, hsigM⟩ := Cond.codeWith_spec hcode
  have hstatic : methM.isStatic = true := Cond.static_spec hnamed hmethM hstat
  obtain ⟨kP, hkP, -⟩ := className_of_methodNamed hnamed
  have hinitP : kP.init = .initialized := Cond.initialized_spec (findClass_of_methodNamed hnamed) hkP hinit
  obtain ⟨vm₁, X₁, hstep₁⟩ := X.invokestatic hexec hown hlink hnamed hmethM hstatic hkP hinitP hy (g := g) hg (argsL := argsL) (rest := rest) (hlen _ hsigM) hstack hdg
  obtain ⟨v, B, X', hpost, hsteps⟩ := hK m meth c ⟨T.setVm vm₁, locs, cells, slots⟩ { g with stack := rest } (.invokestatic index) mk argsL.toArray X₁ hg hsize hdg hW (X₁.named hnamed) (hpre vm₁ X₁.warmed)
  exact ⟨v, vm₁, B, X₁.warmed, X', hpost, fun target h => hstep₁ _ fun acts => by rw [doInvoke_state]; exact hsteps.trans h⟩
theorem vx_runSW {y : MethodName} {bytes cc : ByteArray} {maxL nL mc ms n index : Nat} {ret : Option FieldType} {hh : List (Nat × Nat × Nat × Nat)} {ws : List Cond} {rm : Room} {Pc : Array Value → State → Prop} {Qc : Array Value → State → Outcome → State → Prop} {free : Addr → Prop} {Ts : List Cond} {own : String} {As rest : List Value} {g : JFrame}
    (S : CallFix p m c cc nL s args Ts own) (hM : Met l y ws rm Pc Qc mc ms free) (cw : vx_CSW R s args own index y bytes maxL ret hh ws rm mc ms n) (hp : PreS s H Pc As)
    (hg : g.method = m) (hn : As.length = n) (hsize : g.locals.size = nL) (hstack : g.stack = As.reverse ++ rest) (hW : 2 * g.monitorRoom + (rest.map fun v => v.category).sum ≤ 8) (hdg : decode cc g.pc = .ok (.invokestatic index, 3)) (hf : cells + mc ≤ R.cells ∧ slots + ms ≤ R.slots) :
    va_Run p l e R s m args below meth c H locs cells slots mc ms g rest (Qc As.toArray) (free) := by
  obtain ⟨⟨hrc, hrs, hfr, hlo, hws, hcw⟩, hcode, hini, hy, hlen, hl, hstt⟩ := cw
  have hK : Back l R p e below s args y 3 8 (PreOf R mc ms Pc) (PostOf Qc mc ms free) := va_backW (hh := hh) (bytes := bytes) (maxL := maxL) (ret := ret) hM hp.1 hrc hrs hfr hlo hws hcw (fun a' U hW => word_at hW (Or.inl (by first | rfl | simp [Cond.onTables, Cond.keeps, Cond.steady])) hini)
  obtain ⟨hx, hb, hml, ho, -⟩ := S
  intro T hT X
  obtain ⟨v, vm₁, ⟨U', l2, c2, s2⟩, hW₁, X', ⟨g', mk, t, L, e1, e2, hq, h1, hL, h2, h3⟩, st⟩ := vx_callSW X hx (hh := hh) (bytes := bytes) (maxL := maxL) (ret := ret) ho hl hstt hini hcode hy hK hg (hsize.trans hml.symm) (argsL := As) (rest := rest) (fun sig h => hn.trans (hlen sig h)) hstack hW (by rw [hb]; exact hdg)
    (fun vm₁ hW₁ => ⟨hf.1, hf.2, hp.2 (T.setVm vm₁) hT hW₁⟩)
  dsimp only [Pt.U, Pt.locs, Pt.cells, Pt.slots] at X' e1 e2 h1 h2 h3 st
  subst h1; subst h2; subst h3
  exact ⟨v, (T.setVm vm₁).calling g' mk As.toArray, t, U', L, hT, X', hL, e1, e2, hq, st⟩
/-- not caught here, past rows that name other classes: it goes on to the caller -/
theorem vx_outP {p : Program} {l : Launch} {e : Env} {R : Room} {s : State} {m : MethodId} {args : Array Value} {below : List Frame} {meth : Method} {c : Code} {H : Heap} {locs : List Loc} {cells slots : Nat} {free : Addr → Prop} {ls : Array Slot} {rest : List Value} {Qc : Array Value → State → Outcome → State → Prop} {XC : String → State → State → Prop}
    {pc : Nat} {own E : String} {ce : Cell} {q : Addr} {mc ms : Nat} (hown : s.vm.findClass own = some m.cls) (hlocks : meth.locks = false)
    (hpass : ∀ z ∈ c.exceptionTable.toList, covers z pc = false ∨ (z.catchType ≠ 0 ∧ ∃ nm : String, (Cond.classLink own z.catchType nm).before args s = true ∧ va_Nc E nm s)) (hcell : H[q]? = some ce) (hv : ce.vm = .none) (hcl : s.vm.findClass E = some ce.cls)
    (hx : ∀ t : State, t.heap = H → s.vm.Alike t.vm → XC E s t) (hf : ∀ z ∈ locs, free z.base) (hc : cells ≤ mc) (hs : slots ≤ ms) :
    vx_W p l e R s m args below meth c H locs cells slots (vx_MQ below Qc XC args s mc ms free) (F0 m pc ls rest) q := by
  intro T hT X
  have hpl : e.platform.magicAccessors = ({} : Platform).magicAccessors := by rw [X.admits.platform]
  obtain ⟨vm', hW', X', st⟩ := X.outThrough hlocks q (g := F0 m pc ls rest) rfl rfl rfl (cell := ce) (by rw [hT]; exact hcell) (by rw [hv]; rfl)
    (by obtain ⟨k9, h9, -⟩ := Vm.findClass_spec hcl; exact ⟨k9, h9⟩) (fun z hz => by
      rcases hpass z hz with h | ⟨hz0, nm, hl1, hn1⟩
      · exact Or.inl h
      · obtain ⟨c6, hc6, hcl6⟩ := Cond.classLink_spec hown hl1 e.platform hpl
        obtain ⟨a8, b8, h1, h2, h3⟩ := hn1
        cases Option.some.inj (h1.symm.trans hcl)
        cases Option.some.inj (h2.symm.trans hc6)
        exact Or.inr ⟨hz0, _, hcl6, h3⟩)
  obtain ⟨g₀, hfr⟩ := X'.frames_eq
  have hcell9 : ((T.setVm vm').setFrames (.throwing q :: below)).heap[q]? = some ce := by
    show T.heap[q]? = some ce
    rw [hT]; exact hcell
  have hend : Ended ((T.setVm vm').setFrames (.throwing q :: below)) below (.threw q) := State.frames_setFrames _ (State.cur_lt_of_frames hfr)
  refine ⟨(T.setVm vm').setFrames (.throwing q :: below), ?_, .threw q, X'.here.running, hend, Or.inr ⟨q, rfl, E, ce, locs, hx _ hT (X'.ends _).1.alike, hcell9, hv, hcl, (X'.ends _).1, (X'.ends _).2.mono hc hs, hf⟩⟩
  rw [X.pushThrowing_eq]
  exact st
/-- a thing of a world lies in the heap -/
theorem vx_lt {D : va_G} {cl : List vw_C} {ws : va_W} {H1 : Heap} (h : va_P D cl ws H1) {k : Nat} {q : Nat × va_E} (hk : ws[k]? = some q) : q.1 < H1.size := (h k q hk).lt
end VXS
/-! ===== END ===== -/
/-! ===== BEGIN methods with a table of their own: called by a name, returning or throwing ===== -/
section VXH
/-! vx_backW, vx_callVX, vx_callSX, vx_callVW, vx_runVW, vx_runVX, vx_runSX, vx_ofWH follow the same proofs as their sisters above (Free/Laws.lean, Shelf42/LK1.lean); vx_outP calls Shelf42/NT130.lean (outThrough). -/
section
variable {l : Launch} {R : Room} {p : Program} {e : Env} {below : List Frame} {s : State} {sargs : Array Value} {y : MethodName} {len W9 : Nat}
theorem vx_backW {ws : List Cond} {rm : Room} {Pc : Array Value → State → Prop} {Qc : Array Value → State → Outcome → State → Prop} {XC : String → State → State → Prop} {mc ms : Nat} {free : Addr → Prop} {bytes : ByteArray} {maxL : Nat} {ret : Option FieldType} {hh : List (Nat × Nat × Nat × Nat)}
    (hM : vx_Met l y ws rm Pc Qc XC mc ms free) (hblind : FrameBlind Pc) (hrc : rm.cells = mc) (hrs : rm.slots = ms)
    (hframes : rm.frames + 1 ≤ R.frames) (hlocals : W9 + (maxL + 11) + rm.locals ≤ R.locals)
    (hws : ∀ w ∈ ws, ∀ a' U, s.WarmedH U.vm → w.before a' U = true) (hcode : Cond.codeWith y bytes maxL ret hh ∈ ws) (hinit : ∀ a' U, s.WarmedH U.vm → (Cond.initialized y.cls).before a' U = true) :
    vx_Back l R p e below s sargs y len W9 (PreOf R mc ms Pc) (PostOf Qc mc ms free) (vx_Post XC mc ms free) := by
  intro m meth c A g ig mk a X hg hsize hdg hW hn hp
  have h1 : (headSpec ws rm).pre.before a A.U = true := atoms_intro fun w hw => hws w hw _ _ X.warmed
  have h2 : (Cond.codeWith y bytes maxL ret hh).before a A.U = true := hws _ hcode _ _ X.warmed
  have h3 : (Cond.initialized y.cls).before a A.U = true := hinit _ _ X.warmed
  have h4 : A.cells + (headSpec ws rm).room.cells ≤ R.cells := by rw [show (headSpec ws rm).room.cells = mc from hrc]; exact hp.1
  have h5 : A.slots + (headSpec ws rm).room.slots ≤ R.slots := by rw [show (headSpec ws rm).room.slots = ms from hrs]; exact hp.2.1
  have hPc : Pc a (A.U.calling g mk a) := hblind _ _ _ _ hp.2.2
  obtain ⟨U, Ls, c0, s0⟩ := A
  dsimp only [Pt.U, Pt.locs, Pt.cells, Pt.slots] at h1 h2 h3 h4 h5 X hn hPc ⊢
  obtain ⟨m9, methY, cY, hn9, hmY, hcY, -, hlY, -⟩ := Cond.codeWith_spec h2
  cases Option.some.inj (hn9.symm.trans hn)
  obtain ⟨kY, hkY, -⟩ := className_of_methodNamed hn
  have hinitY : kY.init = .initialized := Cond.initialized_spec (findClass_of_methodNamed hn) hkY h3
  have h : At U g.method c below := by rw [hg]; exact X.here
  have hlocals9 : W9 + (maxL + 11) + (headSpec ws rm).room.locals ≤ R.locals := hlocals
  have happ : (headSpec ws rm).appliesLoose y e.platform (U.calling g mk a) = true :=
    Spec.appliesLoose_calling (g := g) h hdg hn hkY hinitY
      (X.room_calling (g := g) (R' := (headSpec ws rm).room) hsize hmY hcY hframes (by rw [hlY]; omega) h4 h5) h1
  obtain ⟨mid, hmid⟩ := h.above
  have hfr : (U.setTop g).frames = (.java g :: mid) ++ below := by rw [State.frames_setTop' g h.top, hmid]; rfl
  obtain ⟨o, s₂, hsteps, -, hend, hq⟩ := Steps.callFree hM p X.admits X.cas X.clock (acts := []) hfr happ hPc trivial
  have hq' : vx_Q Qc XC mc ms free a (U.calling g mk a) o s₂ := hq
  rw [State.frames_setTop' g h.top] at hend
  obtain ⟨g₀, hg0⟩ := Option.isSome_iff_exists.mp h.top
  obtain ⟨r, hr⟩ := State.topJava?_eq_some.mp hg0
  have hr' : (({ U with heap := s₂.heap, slotsUsed := s₂.slotsUsed } : State).setVm s₂.vm).frames = .java g₀ :: r := hr
  rcases hq' with ⟨hqc, L, hfe, hL⟩ | ⟨q, rfl, E, ce, L, hx, hce, hcv, hcl, hW₂, hsm, hL⟩
  · obtain ⟨⟨v, rfl⟩, hW₂, e2, q2, q3, q4, q5, q6⟩ := id hfe
    have e3 : s₂ = ({ (U.calling g mk a).setFrames s₂.frames with heap := s₂.heap, slotsUsed := s₂.slotsUsed } : State).setVm s₂.vm := by
      have : s₂ = ({ s₂ with vm := (U.calling g mk a).vm } : State).setVm s₂.vm := rfl
      rw [e2] at this
      exact this
    obtain ⟨c₂, i₂, len₂, hc₂, hd₂, hf₂⟩ := hend
    have hW' : U.WarmedH s₂.vm := hW₂
    have hcc : c₂ = c := by
      have h1 : s₂.code? g.method = U.code? g.method := by
        rw [State.code?_eq, State.code?_eq, hW'.alike.method?]
      exact Option.some.inj (hc₂.symm.trans (h1.trans h.code))
    subst hcc
    have hlen : len₂ = len := by rw [hdg] at hd₂; cases hd₂; rfl
    subst hlen
    have hs₂ : s₂ = (({ U with heap := s₂.heap, slotsUsed := s₂.slotsUsed } : State).setVm s₂.vm).setTop { g with pc := g.pc + len₂, stack := v.toList ++ g.stack } := by
      refine e3.trans ?_
      rw [hf₂, State.calling_eq h.top, State.setFrames_setFrames, State.setTop_of_frames _ hr', hr]
      rfl
    have hsame : U.sameButNew ({ U with heap := s₂.heap, slotsUsed := s₂.slotsUsed } : State) L mc ms := by
      refine ⟨?_, q2, q3, q4, q5, q6⟩
      obtain ⟨t, ht, -⟩ := State.frames_cons hr
      show ({ U with heap := s₂.heap, slotsUsed := s₂.slotsUsed } : State) = { U.setFrames U.frames with heap := s₂.heap, slotsUsed := s₂.slotsUsed }
      rw [State.setFrames_self ht]
    subst hg
    refine Or.inl ⟨v, ⟨(({ U with heap := s₂.heap, slotsUsed := s₂.slotsUsed } : State).setVm s₂.vm), Ls ++ L, c0 + mc, s0 + ms⟩,
      ⟨X.admits, X.cas, X.clock, X.frames, X.room, X.hears, X.method, X.code, (X.here.setHeapUsed s₂.heap s₂.slotsUsed).setVm hW'.alike, X.tail, State.WarmedH.trans X.warmed hW', X.limits, X.bytes, X.same.trans (hsame.setVm s.vm)⟩,
      ⟨g, mk, s₂, L, rfl, rfl, hqc, rfl, hL, rfl, rfl⟩, ?_⟩
    show Steps p.tables e below _ ((({ U with heap := s₂.heap, slotsUsed := s₂.slotsUsed } : State).setVm s₂.vm).setTop { g with pc := g.pc + len₂, stack := v.toList ++ g.stack })
    rw [← hs₂]
    exact hsteps
  · obtain ⟨e2, q2, q3, q4, q5, q6⟩ := id hsm
    have e3 : s₂ = ({ (U.calling g mk a).setFrames s₂.frames with heap := s₂.heap, slotsUsed := s₂.slotsUsed } : State).setVm s₂.vm := by
      have : s₂ = ({ s₂ with vm := (U.calling g mk a).vm } : State).setVm s₂.vm := rfl
      rw [e2] at this
      exact this
    have hf₂ : s₂.frames = .throwing q :: .java g :: U.frames.tail := hend
    have hW' : U.WarmedH s₂.vm := hW₂
    have hs₂ : s₂ = ((({ U with heap := s₂.heap, slotsUsed := s₂.slotsUsed } : State).setVm s₂.vm).setTop g).pushFrame (.throwing q) := by
      refine e3.trans ?_
      rw [hf₂, State.calling_eq h.top, State.setFrames_setFrames, State.pushFrame, State.frames_setTop _ hr', State.setTop_of_frames _ hr', State.setFrames_setFrames, hr]
      rfl
    have hsame : U.sameButNew ({ U with heap := s₂.heap, slotsUsed := s₂.slotsUsed } : State) L mc ms := by
      refine ⟨?_, q2, q3, q4, q5, q6⟩
      obtain ⟨t, ht, -⟩ := State.frames_cons hr
      show ({ U with heap := s₂.heap, slotsUsed := s₂.slotsUsed } : State) = { U.setFrames U.frames with heap := s₂.heap, slotsUsed := s₂.slotsUsed }
      rw [State.setFrames_self ht]
    subst hg
    refine Or.inr ⟨q, ⟨(({ U with heap := s₂.heap, slotsUsed := s₂.slotsUsed } : State).setVm s₂.vm), Ls ++ L, c0 + mc, s0 + ms⟩,
      ⟨X.admits, X.cas, X.clock, X.frames, X.room, X.hears, X.method, X.code, (X.here.setHeapUsed s₂.heap s₂.slotsUsed).setVm hW'.alike, X.tail, State.WarmedH.trans X.warmed hW', X.limits, X.bytes, X.same.trans (hsame.setVm s.vm)⟩,
      ⟨g, mk, s₂, L, E, ce, rfl, rfl, hx, hce, hcv, hcl, rfl, hL, rfl, rfl⟩, ?_⟩
    show Steps p.tables e below _ (((({ U with heap := s₂.heap, slotsUsed := s₂.slotsUsed } : State).setVm s₂.vm).setTop g).pushFrame (.throwing q))
    rw [← hs₂]
    exact hsteps
end
variable {p : Program} {l : Launch} {e : Env} {R : Room} {s : State} {m : MethodId} {args : Array Value} {below : List Frame} {meth : Method} {c : Code} {T : State} {H : Heap} {locs : List Loc} {cells slots : Nat}
theorem vx_callVX (X : Stand p l e R s m args below meth c T locs cells slots) (hexec : p.tables.exec = Jvm.exec) {own C : String} {index : Nat} {y : MethodName} {bytes : ByteArray} {maxL : Nat} {ret : Option FieldType} {hh : List (Nat × Nat × Nat × Nat)}
    (hown : s.vm.findClass own = some m.cls) (hlink : (Cond.methodLink own index y).before args s = true) (hinst : (Cond.instanceMethod y).before args s = true) (hsel : (Cond.selects C y y).before args s = true)
    (hcode : (Cond.codeWith y bytes maxL ret hh).before args s = true) (hy : y.cls ≠ "java/lang/invoke/MethodHandle" ∧ y.cls ≠ "java/lang/invoke/VarHandle")
    {W9 : Nat} {Pre : Pt → Array Value → Prop} {Post : Pt → Array Value → Option Value → Pt → Prop} {PostX : Pt → Array Value → Addr → Pt → Prop} (hK : vx_Back l R p e below s args y 3 W9 Pre Post PostX)
    {b : Addr} {cellB : Cell} (hcell : T.heap[b]? = some cellB) (hobj : cellB.vm.isStatics = false) (hcls : s.vm.findClass C = some cellB.cls)
    {g : JFrame} (hg : g.method = m) (hsize : g.locals.size = c.maxLocals) {argsL rest : List Value} (hlen : ∀ sig, parseMethodDescriptor y.desc = some sig → argsL.length = sig.parameters.length)
    (hstack : g.stack = argsL.reverse ++ .ref b :: rest) (hW : 2 * g.monitorRoom + (rest.map fun v => v.category).sum ≤ W9) (hdg : decode c.code g.pc = .ok (.invokevirtual index, 3))
    (hpre : ∀ vm₁, s.WarmedH vm₁ → Pre ⟨T.setVm vm₁, locs, cells, slots⟩ (Value.ref b :: argsL).toArray) :
    (∃ (v : Option Value) (vm₁ : Vm) (B : Pt), s.WarmedH vm₁ ∧ Stand p l e R s m args below meth c B.U B.locs B.cells B.slots ∧ Post ⟨T.setVm vm₁, locs, cells, slots⟩ (Value.ref b :: argsL).toArray v B ∧
      ∀ target, Steps p.tables e below (B.U.setTop { g with pc := g.pc + 3, stack := v.toList ++ rest }) target → Steps p.tables e below (T.setTop g) target) ∨
    (∃ (q : Addr) (vm₁ : Vm) (B : Pt), s.WarmedH vm₁ ∧ Stand p l e R s m args below meth c B.U B.locs B.cells B.slots ∧ PostX ⟨T.setVm vm₁, locs, cells, slots⟩ (Value.ref b :: argsL).toArray q B ∧
      Steps p.tables e below (T.setTop g) ((B.U.setTop { g with stack := rest }).pushFrame (.throwing q))) := by
  obtain ⟨mk, methM, hnamed, hmethM, hstM, habM⟩ := Cond.instanceMethod_spec hinst
  obtain ⟨m8, methM', cM, hn8, hmethM', -, -, -, -, -, -, hsigM⟩ := Cond.codeWith_spec hcode
  cases Option.some.inj (hn8.symm.trans hnamed)
  cases hmethM.symm.trans hmethM'
  obtain ⟨c2, r2, m2, q1, q2, q3, q4, kP, hkP, hkPi⟩ := Cond.selects_spec hsel
  cases hcls.symm.trans q1
  cases (State.methodFound?_of_named hnamed hy).symm.trans q2
  cases hnamed.symm.trans q3
  have hselP : selectMethod e.platform s.vm cellB.cls mk = .method mk := by rw [Launch.admits_selectMethod X.admits]; exact q4
  obtain ⟨vm₁, X₁, hstep₁⟩ := X.invokevirtual hexec hown hlink hnamed hmethM hstM hkP hkPi hy (a := b) (cell := cellB) hcell
    (fun z h => by rw [h] at hobj; cases hobj) hselP hmethM habM hkP hkPi (g := g) hg (argsL := argsL) (rest := rest) (hlen _ hsigM) hstack hdg
  rcases hK m meth c ⟨T.setVm vm₁, locs, cells, slots⟩ { g with stack := rest } (.invokevirtual index) mk (Value.ref b :: argsL).toArray X₁ hg hsize hdg hW (X₁.named hnamed) (hpre vm₁ X₁.warmed) with ⟨v, B, X', hpost, hsteps⟩ | ⟨q, B, X', hpost, hsteps⟩
  · exact Or.inl ⟨v, vm₁, B, X₁.warmed, X', hpost, fun target h => hstep₁ _ fun acts => by rw [doInvoke_state]; exact hsteps.trans h⟩
  · exact Or.inr ⟨q, vm₁, B, X₁.warmed, X', hpost, hstep₁ _ fun acts => by rw [doInvoke_state]; exact hsteps⟩
theorem vx_callSX (X : Stand p l e R s m args below meth c T locs cells slots) (hexec : p.tables.exec = Jvm.exec) {own : String} {index : Nat} {y : MethodName} {bytes : ByteArray} {maxL : Nat} {ret : Option FieldType} {hh : List (Nat × Nat × Nat × Nat)}
    (hown : s.vm.findClass own = some m.cls) (hlink : (Cond.methodLink own index y).before args s = true) (hstat : (Cond.static y).before args s = true) (hinit : (Cond.initialized y.cls).before args s = true)
    (hcode : (Cond.codeWith y bytes maxL ret hh).before args s = true) (hy : y.cls ≠ "java/lang/invoke/MethodHandle" ∧ y.cls ≠ "java/lang/invoke/VarHandle")
    {W9 : Nat} {Pre : Pt → Array Value → Prop} {Post : Pt → Array Value → Option Value → Pt → Prop} {PostX : Pt → Array Value → Addr → Pt → Prop} (hK : vx_Back l R p e below s args y 3 W9 Pre Post PostX)
    {g : JFrame} (hg : g.method = m) (hsize : g.locals.size = c.maxLocals) {argsL rest : List Value} (hlen : ∀ sig, parseMethodDescriptor y.desc = some sig → argsL.length = sig.parameters.length)
    (hstack : g.stack = argsL.reverse ++ rest) (hW : 2 * g.monitorRoom + (rest.map fun v => v.category).sum ≤ W9) (hdg : decode c.code g.pc = .ok (.invokestatic index, 3))
    (hpre : ∀ vm₁, s.WarmedH vm₁ → Pre ⟨T.setVm vm₁, locs, cells, slots⟩ argsL.toArray) :
    (∃ (v : Option Value) (vm₁ : Vm) (B : Pt), s.WarmedH vm₁ ∧ Stand p l e R s m args below meth c B.U B.locs B.cells B.slots ∧ Post ⟨T.setVm vm₁, locs, cells, slots⟩ argsL.toArray v B ∧
      ∀ target, Steps p.tables e below (B.U.setTop { g with pc := g.pc + 3, stack := v.toList ++ rest }) target → Steps p.tables e below (T.setTop g) target) ∨
    (∃ (q : Addr) (vm₁ : Vm) (B : Pt), s.WarmedH vm₁ ∧ Stand p l e R s m args below meth c B.U B.locs B.cells B.slots ∧ PostX ⟨T.setVm vm₁, locs, cells, slots⟩ argsL.toArray q B ∧
      Steps p.tables e below (T.setTop g) ((B.U.setTop { g with stack := rest }).pushFrame (.throwing q))) := by
  obtain ⟨mk, methM, cM, hnamed, hmethM, -, -, -, -, -, -, hsigM⟩ := Cond.codeWith_spec hcode
  have hstatic : methM.isStatic = true := Cond.static_spec hnamed hmethM hstat
  obtain ⟨kP, hkP, -⟩ := className_of_methodNamed hnamed
  have hinitP : kP.init = .initialized := Cond.initialized_spec (findClass_of_methodNamed hnamed) hkP hinit
  obtain ⟨vm₁, X₁, hstep₁⟩ := X.invokestatic hexec hown hlink hnamed hmethM hstatic hkP hinitP hy (g := g) hg (argsL := argsL) (rest := rest) (hlen _ hsigM) hstack hdg
  rcases hK m meth c ⟨T.setVm vm₁, locs, cells, slots⟩ { g with stack := rest } (.invokestatic index) mk argsL.toArray X₁ hg hsize hdg hW (X₁.named hnamed) (hpre vm₁ X₁.warmed) with ⟨v, B, X', hpost, hsteps⟩ | ⟨q, B, X', hpost, hsteps⟩
  · exact Or.inl ⟨v, vm₁, B, X₁.warmed, X', hpost, fun target h => hstep₁ _ fun acts => by rw [doInvoke_state]; exact hsteps.trans h⟩
  · exact Or.inr ⟨q, vm₁, B, X₁.warmed, X', hpost, hstep₁ _ fun acts => by rw [doInvoke_state]; exact hsteps⟩
theorem vx_callVW (X : Stand p l e R s m args below meth c T locs cells slots) (hexec : p.tables.exec = Jvm.exec) {own C : String} {index : Nat} {y : MethodName} {bytes : ByteArray} {maxL : Nat} {ret : Option FieldType} {hh : List (Nat × Nat × Nat × Nat)}
    (hown : s.vm.findClass own = some m.cls) (hlink : (Cond.methodLink own index y).before args s = true) (hinst : (Cond.instanceMethod y).before args s = true) (hsel : (Cond.selects C y y).before args s = true)
    (hcode : (Cond.codeWith y bytes maxL ret hh).before args s = true) (hy : y.cls ≠ "java/lang/invoke/MethodHandle" ∧ y.cls ≠ "java/lang/invoke/VarHandle")
    {W9 : Nat} {Pre : Pt → Array Value → Prop} {Post : Pt → Array Value → Option Value → Pt → Prop} (hK : Back l R p e below s args y 3 W9 Pre Post)
    {b : Addr} {cellB : Cell} (hcell : T.heap[b]? = some cellB) (hobj : cellB.vm.isStatics = false) (hcls : s.vm.findClass C = some cellB.cls)
    {g : JFrame} (hg : g.method = m) (hsize : g.locals.size = c.maxLocals) {argsL rest : List Value} (hlen : ∀ sig, parseMethodDescriptor y.desc = some sig → argsL.length = sig.parameters.length)
    (hstack : g.stack = argsL.reverse ++ .ref b :: rest) (hW : 2 * g.monitorRoom + (rest.map fun v => v.category).sum ≤ W9) (hdg : decode c.code g.pc = .ok (.invokevirtual index, 3))
    (hpre : ∀ vm₁, s.WarmedH vm₁ → Pre ⟨T.setVm vm₁, locs, cells, slots⟩ (Value.ref b :: argsL).toArray) :
    ∃ (v : Option Value) (vm₁ : Vm) (B : Pt), s.WarmedH vm₁ ∧ Stand p l e R s m args below meth c B.U B.locs B.cells B.slots ∧ Post ⟨T.setVm vm₁, locs, cells, slots⟩ (Value.ref b :: argsL).toArray v B ∧
      ∀ target, Steps p.tables e below (B.U.setTop { g with pc := g.pc + 3, stack := v.toList ++ rest }) target → Steps p.tables e below (T.setTop g) target := by
  obtain ⟨mk, methM, hnamed, hmethM, hstM, habM⟩ := Cond.instanceMethod_spec hinst
  obtain ⟨m8, methM', cM, hn8, hmethM', -, -, -, -, -, -, hsigM⟩ := Cond.codeWith_spec hcode
  cases Option.some.inj (hn8.symm.trans hnamed)
  cases hmethM.symm.trans hmethM'
  obtain ⟨c2, r2, m2, q1, q2, q3, q4, kP, hkP, hkPi⟩ := Cond.selects_spec hsel
  cases hcls.symm.trans q1
  cases (State.methodFound?_of_named hnamed hy).symm.trans q2
  cases hnamed.symm.trans q3
  have hselP : selectMethod e.platform s.vm cellB.cls mk = .method mk := by rw [Launch.admits_selectMethod X.admits]; exact q4
  obtain ⟨vm₁, X₁, hstep₁⟩ := X.invokevirtual hexec hown hlink hnamed hmethM hstM hkP hkPi hy (a := b) (cell := cellB) hcell
    (fun z h => by rw [h] at hobj; cases hobj) hselP hmethM habM hkP hkPi (g := g) hg (argsL := argsL) (rest := rest) (hlen _ hsigM) hstack hdg
  obtain ⟨v, B, X', hpost, hsteps⟩ := hK m meth c ⟨T.setVm vm₁, locs, cells, slots⟩ { g with stack := rest } (.invokevirtual index) mk (Value.ref b :: argsL).toArray X₁ hg hsize hdg hW (X₁.named hnamed) (hpre vm₁ X₁.warmed)
  exact ⟨v, vm₁, B, X₁.warmed, X', hpost, fun target h => hstep₁ _ fun acts => by rw [doInvoke_state]; exact hsteps.trans h⟩
abbrev vx_CVW (R : Room) (s : State) (args : Array Value) (own C : String) (index : Nat) (y : MethodName) (bytes : ByteArray) (maxL : Nat) (ret : Option FieldType) (hh : List (Nat × Nat × Nat × Nat)) (ws : List Cond) (rm : Room) (mc ms n : Nat) : Prop :=
  (rm.cells = mc ∧ rm.slots = ms ∧ rm.frames + 1 ≤ R.frames ∧ 8 + (maxL + 11) + rm.locals ≤ R.locals ∧ (∀ w ∈ ws, ∀ (a' : Array Value) (U : State), s.WarmedH U.vm → w.before a' U = true) ∧ Cond.codeWith y bytes maxL ret hh ∈ ws) ∧
  (Cond.codeWith y bytes maxL ret hh).before args s = true ∧ (Cond.initialized y.cls).before args s = true ∧ (y.cls ≠ "java/lang/invoke/MethodHandle" ∧ y.cls ≠ "java/lang/invoke/VarHandle") ∧
  (∀ sig, parseMethodDescriptor y.desc = some sig → n = sig.parameters.length) ∧ (Cond.methodLink own index y).before args s = true ∧ (Cond.instanceMethod y).before args s = true ∧ (Cond.selects C y y).before args s = true
theorem vx_cwVW {own C : String} {index maxL mc ms : Nat} {y : MethodName} {bytes : ByteArray} {ret : Option FieldType} {hh : List (Nat × Nat × Nat × Nat)} {Ts ws ws' : List Cond} {rm : Room} (n : Nat) (ht : ∀ w ∈ Ts, w.before args s = true) (hT : GoodIn Ts (wsV own index C y ws)) (hw : ws = Cond.codeWith y bytes maxL ret hh :: ws') (hrc : rm.cells = mc) (hrs : rm.slots = ms)
    (hd : y.cls = C ∧ y.cls ≠ "java/lang/invoke/MethodHandle" ∧ y.cls ≠ "java/lang/invoke/VarHandle" ∧ (parseMethodDescriptor y.desc).map (fun d => d.parameters.length) = some n) (hR : rm.frames + 1 ≤ R.frames ∧ 8 + (maxL + 11) + rm.locals ≤ R.locals) :
    vx_CVW R s args own C index y bytes maxL ret hh ws rm mc ms n := by
  obtain ⟨hC, hd⟩ := hd
  subst hC
  have ok : ∀ w ∈ wsV own index y.cls y ws, w.before args s = true := fun w h => ht w (hT w h).1
  have hG : GoodIn Ts ws := fun w h => hT w (by unfold wsV; exact List.mem_append_right _ h)
  have hc : Cond.codeWith y bytes maxL ret hh ∈ ws := by rw [hw]; exact List.mem_cons_self
  refine ⟨⟨hrc, hrs, hR.1, hR.2, pay_in ht hG, hc⟩, ht _ (hG _ hc).1, ok _ (by simp [wsV]), ⟨hd.1, hd.2.1⟩, fun sig h => ?_, ok _ (by simp [wsV]), ok _ (by simp [wsV]), ok _ (by simp [wsV])⟩
  have h2 := hd.2.2
  rw [h] at h2
  exact (Option.some.inj h2).symm
theorem vx_runVW {y : MethodName} {bytes cc : ByteArray} {maxL nL mc ms n index : Nat} {ret : Option FieldType} {hh : List (Nat × Nat × Nat × Nat)} {ws : List Cond} {rm : Room} {Pc : Array Value → State → Prop} {Qc : Array Value → State → Outcome → State → Prop} {free : Addr → Prop} {Ts : List Cond} {own C : String} {b : Addr} {As rest : List Value} {g : JFrame}
    (S : CallFix p m c cc nL s args Ts own) (hM : Met l y ws rm Pc Qc mc ms free) (cw : vx_CVW R s args own C index y bytes maxL ret hh ws rm mc ms n) (hp : PreV s H C b Pc As)
    (hg : g.method = m) (hn : As.length = n) (hsize : g.locals.size = nL) (hstack : g.stack = As.reverse ++ .ref b :: rest) (hW : 2 * g.monitorRoom + (rest.map fun v => v.category).sum ≤ 8) (hdg : decode cc g.pc = .ok (.invokevirtual index, 3)) (hf : cells + mc ≤ R.cells ∧ slots + ms ≤ R.slots) :
    va_Run p l e R s m args below meth c H locs cells slots mc ms g rest (Qc (Value.ref b :: As).toArray) free := by
  obtain ⟨⟨hrc, hrs, hfr, hlo, hws, hcw⟩, hcode, hini, hy, hlen, hl, hin, hse⟩ := cw
  have hK : Back l R p e below s args y 3 8 (PreOf R mc ms Pc) (PostOf Qc mc ms free) := va_backW (hh := hh) (bytes := bytes) (maxL := maxL) (ret := ret) hM hp.1 hrc hrs hfr hlo hws hcw (fun a' U hW => word_at hW (Or.inl (by first | rfl | simp [Cond.onTables, Cond.keeps, Cond.steady])) hini)
  obtain ⟨hx, hb, hml, ho, -⟩ := S
  obtain ⟨-, ⟨cellB, hcB, hoB, hclB⟩, hPc⟩ := hp
  intro T hT X
  obtain ⟨v, vm₁, ⟨U', l2, c2, s2⟩, hW₁, X', ⟨g', mk, t, L, e1, e2, hq, h1, hL, h2, h3⟩, st⟩ := vx_callVW X hx (C := C) (hh := hh) (bytes := bytes) (maxL := maxL) (ret := ret) ho hl hin hse hcode hy hK (by rw [hT]; exact hcB) hoB hclB hg (hsize.trans hml.symm) (argsL := As) (rest := rest) (fun sig h => hn.trans (hlen sig h)) hstack hW (by rw [hb]; exact hdg)
    (fun vm₁ hW₁ => ⟨hf.1, hf.2, hPc (T.setVm vm₁) hT hW₁⟩)
  dsimp only [Pt.U, Pt.locs, Pt.cells, Pt.slots] at X' e1 e2 h1 h2 h3 st
  subst h1; subst h2; subst h3
  exact ⟨v, (T.setVm vm₁).calling g' mk (Value.ref b :: As).toArray, t, U', L, hT, X', hL, e1, e2, hq, st⟩
section
variable {y : MethodName} {bytes cc : ByteArray} {maxL nL mc ms n index : Nat} {ret : Option FieldType} {ws : List Cond} {rm : Room} {Pc : Array Value → State → Prop} {Qc : Array Value → State → Outcome → State → Prop} {XC : String → State → State → Prop} {free : Addr → Prop} {Ts : List Cond} {own C : String} {b : Addr} {As rest : List Value} {g : JFrame}
theorem vx_runVX {hh : List (Nat × Nat × Nat × Nat)} (S : CallFix p m c cc nL s args Ts own) (hM : vx_Met l y ws rm Pc Qc XC mc ms free) (cw : vx_CVW R s args own C index y bytes maxL ret hh ws rm mc ms n) (hp : PreV s H C b Pc As)
    (hg : g.method = m) (hn : As.length = n) (hsize : g.locals.size = nL) (hstack : g.stack = As.reverse ++ .ref b :: rest) (hW : 2 * g.monitorRoom + (rest.map fun v => v.category).sum ≤ 8) (hdg : decode cc g.pc = .ok (.invokevirtual index, 3)) (hf : cells + mc ≤ R.cells ∧ slots + ms ≤ R.slots) :
    vx_Run p l e R s m args below meth c H locs cells slots mc ms g rest (Qc (Value.ref b :: As).toArray) XC free := by
  obtain ⟨⟨hrc, hrs, hfr, hlo, hws, hcw⟩, hcode, hini, hy, hlen, hl, hin, hse⟩ := cw
  have hK : vx_Back l R p e below s args y 3 8 (PreOf R mc ms Pc) (PostOf Qc mc ms free) (vx_Post XC mc ms free) := vx_backW (hh := hh) (bytes := bytes) (maxL := maxL) (ret := ret) hM hp.1 hrc hrs hfr hlo hws hcw (fun a' U hW => word_at hW (Or.inl (by first | rfl | simp [Cond.onTables, Cond.keeps, Cond.steady])) hini)
  obtain ⟨hx, hb, hml, ho, -⟩ := S
  obtain ⟨-, ⟨cellB, hcB, hoB, hclB⟩, hPc⟩ := hp
  intro T hT X
  rcases vx_callVX X hx (C := C) (hh := hh) (bytes := bytes) (maxL := maxL) (ret := ret) ho hl hin hse hcode hy hK (by rw [hT]; exact hcB) hoB hclB hg (hsize.trans hml.symm) (argsL := As) (rest := rest) (fun sig h => hn.trans (hlen sig h)) hstack hW (by rw [hb]; exact hdg)
    (fun vm₁ hW₁ => ⟨hf.1, hf.2, hPc (T.setVm vm₁) hT hW₁⟩) with ⟨v, vm₁, ⟨U', l2, c2, s2⟩, hW₁, X', ⟨g', mk, t, L, e1, e2, hq, h1, hL, h2, h3⟩, st⟩ | ⟨q, vm₁, ⟨U', l2, c2, s2⟩, hW₁, X', ⟨g', mk, t, L, E, ce, e1, e2, hq, hce, hcv, hcl, h1, hL, h2, h3⟩, st⟩
  · dsimp only [Pt.U, Pt.locs, Pt.cells, Pt.slots] at X' e1 e2 h1 h2 h3 st
    subst h1; subst h2; subst h3
    exact Or.inl ⟨v, (T.setVm vm₁).calling g' mk (Value.ref b :: As).toArray, t, U', L, hT, X', hL, e1, e2, hq, st⟩
  · dsimp only [Pt.U, Pt.locs, Pt.cells, Pt.slots] at X' e1 e2 h1 h2 h3 st hcl
    subst h1; subst h2; subst h3
    exact Or.inr ⟨q, (T.setVm vm₁).calling g' mk (Value.ref b :: As).toArray, t, U', L, E, ce, hT, X', hL, e1, e2, hq, hce, hcv, vx_cls hW₁ hcl, st⟩
theorem vx_runSX {hh : List (Nat × Nat × Nat × Nat)} (S : CallFix p m c cc nL s args Ts own) (hM : vx_Met l y ws rm Pc Qc XC mc ms free) (cw : vx_CSW R s args own index y bytes maxL ret hh ws rm mc ms n) (hp : PreS s H Pc As)
    (hg : g.method = m) (hn : As.length = n) (hsize : g.locals.size = nL) (hstack : g.stack = As.reverse ++ rest) (hW : 2 * g.monitorRoom + (rest.map fun v => v.category).sum ≤ 8) (hdg : decode cc g.pc = .ok (.invokestatic index, 3)) (hf : cells + mc ≤ R.cells ∧ slots + ms ≤ R.slots) :
    vx_Run p l e R s m args below meth c H locs cells slots mc ms g rest (Qc As.toArray) XC free := by
  obtain ⟨⟨hrc, hrs, hfr, hlo, hws, hcw⟩, hcode, hini, hy, hlen, hl, hstt⟩ := cw
  have hK : vx_Back l R p e below s args y 3 8 (PreOf R mc ms Pc) (PostOf Qc mc ms free) (vx_Post XC mc ms free) := vx_backW (hh := hh) (bytes := bytes) (maxL := maxL) (ret := ret) hM hp.1 hrc hrs hfr hlo hws hcw (fun a' U hW => word_at hW (Or.inl (by first | rfl | simp [Cond.onTables, Cond.keeps, Cond.steady])) hini)
  obtain ⟨hx, hb, hml, ho, -⟩ := S
  intro T hT X
  rcases vx_callSX X hx (hh := hh) (bytes := bytes) (maxL := maxL) (ret := ret) ho hl hstt hini hcode hy hK hg (hsize.trans hml.symm) (argsL := As) (rest := rest) (fun sig h => hn.trans (hlen sig h)) hstack hW (by rw [hb]; exact hdg)
    (fun vm₁ hW₁ => ⟨hf.1, hf.2, hp.2 (T.setVm vm₁) hT hW₁⟩) with ⟨v, vm₁, ⟨U', l2, c2, s2⟩, hW₁, X', ⟨g', mk, t, L, e1, e2, hq, h1, hL, h2, h3⟩, st⟩ | ⟨q, vm₁, ⟨U', l2, c2, s2⟩, hW₁, X', ⟨g', mk, t, L, E, ce, e1, e2, hq, hce, hcv, hcl, h1, hL, h2, h3⟩, st⟩
  · dsimp only [Pt.U, Pt.locs, Pt.cells, Pt.slots] at X' e1 e2 h1 h2 h3 st
    subst h1; subst h2; subst h3
    exact Or.inl ⟨v, (T.setVm vm₁).calling g' mk As.toArray, t, U', L, hT, X', hL, e1, e2, hq, st⟩
  · dsimp only [Pt.U, Pt.locs, Pt.cells, Pt.slots] at X' e1 e2 h1 h2 h3 st hcl
    subst h1; subst h2; subst h3
    exact Or.inr ⟨q, (T.setVm vm₁).calling g' mk As.toArray, t, U', L, E, ce, hT, X', hL, e1, e2, hq, hce, hcv, vx_cls hW₁ hcl, st⟩
end
end VXH
theorem vx_ofWH {l : Launch} {y : MethodName} {ws ws' : List Cond} {rm : Room} {Pc : Array Value → State → Prop} {Qc : Array Value → State → Outcome → State → Prop} {XC : String → State → State → Prop} {mc ms : Nat} {free : Addr → Prop} {cc : ByteArray} {maxL : Nat} {ret : Option FieldType} {hh : List (Nat × Nat × Nat × Nat)}
    (hy : plainName y.cls = true) (hw : ws = Cond.codeWith y cc maxL ret hh :: ws')
    (body : ∀ p e s m args below meth c s₁, BodyLoose p l y (headSpec ws rm) cc maxL ret e s m args below meth c s₁ → c.maxLocals = maxL → Pc args s →
      W p l e (headSpec ws rm).room s m args below meth c s.heap [] 0 0 (vx_MQ below Qc XC args s mc ms free) (entryFrame m args maxL)) : vx_Met l y ws rm Pc Qc XC mc ms free := by
  refine MetFree.of_bodyS (code := cc) (maxLocals := maxL) (ret := ret) hy ?_ ?_
  · intro args s m h hn
    obtain ⟨m9, meth, c, hn9, h1, h2, h3, h4, -, h5, h6, -⟩ := Cond.codeWith_spec (atoms_spec (ws := ws) h _ (by rw [hw]; exact List.mem_cons_self))
    cases hn.symm.trans hn9
    exact ⟨meth, c, h1, h2, h3, h4, h5, h6⟩
  · intro p e s m args below meth c s₁ B hml hP _
    have hh0 : s₁.heap = s.heap := by rw [B.state]; rfl
    obtain ⟨t, a1, o, b1, b2, b3⟩ := body p e s m args below meth c s₁ B hml hP s₁ hh0 (Stand.of_body B)
    exact ⟨t, o, a1, b1, b2, b3⟩
/-! ===== END ===== -/
end
section
def RX0 : String := "PledgeHouse$Ledger"
def TX0 : u_T := fun k => match k with
  | 0 => ("PledgeHouse$Ledger", "prices", "[I", true)
  | 1 => ("PledgeHouse$Ledger", "cuts", "[I", true)
  | 2 => ("PledgeHouse$Ledger", "soldPieces", "[I", true)
  | 3 => ("PledgeHouse$Ledger", "pieces", "[I", true)
  | 4 => ("PledgeHouse$Ledger", "coins", "[I", true)
  | 5 => ("PledgeHouse$Ledger", "debts", "[I", true)
  | 6 => ("PledgeHouse$Ledger", "callHours", "[I", true)
  | 7 => ("PledgeHouse$Ledger", "barred", "[Z", true)
  | 8 => ("PledgeHouse$Ledger", "interestRate", "I", false)
  | 9 => ("PledgeHouse$Ledger", "graceHours", "I", false)
  | 10 => ("PledgeHouse$Ledger", "slipPercent", "I", false)
  | 11 => ("PledgeHouse$Ledger", "salesOrder", "I", false)
  | 12 => ("PledgeHouse$Ledger", "passedHours", "I", false)
  | 13 => ("PledgeHouse$Ledger", "lentCoins", "I", false)
  | 14 => ("PledgeHouse$Ledger", "interestCoins", "I", false)
  | 15 => ("PledgeHouse$Ledger", "repaidCoins", "I", false)
  | 16 => ("PledgeHouse$Ledger", "lostCoins", "I", false)
  | 17 => ("PledgeHouse$Ledger", "callCount", "I", false)
  | _ => ("PledgeHouse$Ledger", "soldOutCount", "I", false)
def tyX0 : Nat → FieldType := fun k => match k with
  | 0 => .array .int
  | 1 => .array .int
  | 2 => .array .int
  | 3 => .array .int
  | 4 => .array .int
  | 5 => .array .int
  | 6 => .array .int
  | 7 => .array .boolean
  | 8 => .int
  | 9 => .int
  | 10 => .int
  | 11 => .int
  | 12 => .int
  | 13 => .int
  | 14 => .int
  | 15 => .int
  | 16 => .int
  | 17 => .int
  | _ => .int
abbrev wsX00 : List Cond := u_ws RX0 TX0 19
theorem nmX0 : ∀ a, a < 19 → ∀ b, b < 19 → a ≠ b → (TX0 a).2.1 ≠ (TX0 b).2.1 := by decide +kernel
theorem tyX0_ok : ∀ k, k < 19 → parseFieldDescriptor (TX0 k).2.2.1 = some (tyX0 k) := by decide +kernel
abbrev cX0_init : ByteArray := prog_2_method_1_code
def yX0_init : MethodName := ⟨RX0, "<init>", "()V"⟩
abbrev cX0_copyFrom : ByteArray := prog_2_method_2_code
def yX0_copyFrom : MethodName := ⟨RX0, "copyFrom", "(LPledgeHouse$Ledger;)V"⟩
abbrev cX0_worth : ByteArray := prog_2_method_3_code
def yX0_worth : MethodName := ⟨RX0, "worth", "(I)I"⟩
abbrev cX0_cover : ByteArray := prog_2_method_4_code
def yX0_cover : MethodName := ⟨RX0, "cover", "(I)I"⟩
abbrev cX0_coverAfterFall : ByteArray := prog_2_method_5_code
def yX0_coverAfterFall : MethodName := ⟨RX0, "coverAfterFall", "(III)I"⟩
abbrev cX0_staysCovered : ByteArray := prog_2_method_6_code
def yX0_staysCovered : MethodName := ⟨RX0, "staysCovered", "(III)Z"⟩
abbrev cX0_openRoom : ByteArray := prog_2_method_7_code
def yX0_openRoom : MethodName := ⟨RX0, "openRoom", "(I)I"⟩
abbrev cX0_interestOn : ByteArray := prog_2_method_8_code
def yX0_interestOn : MethodName := ⟨RX0, "interestOn", "(I)I"⟩
abbrev cX0_piecesOfAll : ByteArray := prog_2_method_9_code
def yX0_piecesOfAll : MethodName := ⟨RX0, "piecesOfAll", "(I)I"⟩
abbrev cX0_debtsOfAll : ByteArray := prog_2_method_10_code
def yX0_debtsOfAll : MethodName := ⟨RX0, "debtsOfAll", "()I"⟩
abbrev cX0_coverOfAll : ByteArray := prog_2_method_11_code
def yX0_coverOfAll : MethodName := ⟨RX0, "coverOfAll", "()I"⟩
abbrev cX0_countCalled : ByteArray := prog_2_method_12_code
def yX0_countCalled : MethodName := ⟨RX0, "countCalled", "()I"⟩
abbrev cX0_countUncoveredAfterFall : ByteArray := prog_2_method_13_code
def yX0_countUncoveredAfterFall : MethodName := ⟨RX0, "countUncoveredAfterFall", "(I)I"⟩
abbrev cX0_callingFallByTrying : ByteArray := prog_2_method_14_code
def yX0_callingFallByTrying : MethodName := ⟨RX0, "callingFallByTrying", "(I)I"⟩
abbrev cX0_callingFallByHalving : ByteArray := prog_2_method_15_code
def yX0_callingFallByHalving : MethodName := ⟨RX0, "callingFallByHalving", "(I)I"⟩
abbrev cX0_hoursUntilCall : ByteArray := prog_2_method_16_code
def yX0_hoursUntilCall : MethodName := ⟨RX0, "hoursUntilCall", "(I)I"⟩
abbrev cX0_isRiskier : ByteArray := prog_2_method_17_code
def yX0_isRiskier : MethodName := ⟨RX0, "isRiskier", "(II)Z"⟩
abbrev cX0_riskPlace : ByteArray := prog_2_method_18_code
def yX0_riskPlace : MethodName := ⟨RX0, "riskPlace", "(I)I"⟩
abbrev cX0_sortByRisk : ByteArray := prog_2_method_19_code
def yX0_sortByRisk : MethodName := ⟨RX0, "sortByRisk", "([I)V"⟩
abbrev cX0_takeRiskiest : ByteArray := prog_2_method_20_code
def yX0_takeRiskiest : MethodName := ⟨RX0, "takeRiskiest", "(I)I"⟩
abbrev cX0_riskiestBut : ByteArray := prog_2_method_21_code
def yX0_riskiestBut : MethodName := ⟨RX0, "riskiestBut", "(I)I"⟩
abbrev cX0_lookAtClients : ByteArray := prog_2_method_22_code
def yX0_lookAtClients : MethodName := ⟨RX0, "lookAtClients", "()I"⟩
abbrev cX0_putPrice : ByteArray := prog_2_method_23_code
def yX0_putPrice : MethodName := ⟨RX0, "putPrice", "(II)I"⟩
abbrev cX0_putCut : ByteArray := prog_2_method_24_code
def yX0_putCut : MethodName := ⟨RX0, "putCut", "(II)I"⟩
abbrev cX0_dropPrices : ByteArray := prog_2_method_25_code
def yX0_dropPrices : MethodName := ⟨RX0, "dropPrices", "(I)I"⟩
abbrev cX0_addPieces : ByteArray := prog_2_method_26_code
def yX0_addPieces : MethodName := ⟨RX0, "addPieces", "(III)Z"⟩
abbrev cX0_takePieces : ByteArray := prog_2_method_27_code
def yX0_takePieces : MethodName := ⟨RX0, "takePieces", "(III)Z"⟩
abbrev cX0_addCoins : ByteArray := prog_2_method_28_code
def yX0_addCoins : MethodName := ⟨RX0, "addCoins", "(II)Z"⟩
abbrev cX0_addDebt : ByteArray := prog_2_method_30_code
def yX0_addDebt : MethodName := ⟨RX0, "addDebt", "(II)Z"⟩
abbrev cX0_takeDebt : ByteArray := prog_2_method_31_code
def yX0_takeDebt : MethodName := ⟨RX0, "takeDebt", "(II)I"⟩
abbrev cX0_passHours : ByteArray := prog_2_method_33_code
def yX0_passHours : MethodName := ⟨RX0, "passHours", "(ILPledgeHouse$Sale;)I"⟩
abbrev cX0_calledAsBits : ByteArray := prog_2_method_34_code
def yX0_calledAsBits : MethodName := ⟨RX0, "calledAsBits", "()I"⟩
abbrev cX0_addInterest : ByteArray := prog_2_method_35_code
def yX0_addInterest : MethodName := ⟨RX0, "addInterest", "()V"⟩
abbrev cX0_countDown : ByteArray := prog_2_method_36_code
def yX0_countDown : MethodName := ⟨RX0, "countDown", "(ILPledgeHouse$Sale;)V"⟩
abbrev cX0_enterSale : ByteArray := prog_2_method_37_code
def yX0_enterSale : MethodName := ⟨RX0, "enterSale", "(LPledgeHouse$Sale;I)V"⟩
def RX1 : String := "PledgeHouse$OrderText"
def TX1 : u_T := fun k => match k with
  | 0 => ("PledgeHouse$OrderText", "codes", "[I", true)
  | 1 => ("PledgeHouse$OrderText", "length", "I", false)
  | 2 => ("PledgeHouse$OrderText", "letter", "I", false)
  | 3 => ("PledgeHouse$OrderText", "step", "I", false)
  | 4 => ("PledgeHouse$OrderText", "client", "I", false)
  | 5 => ("PledgeHouse$OrderText", "kind", "I", false)
  | 6 => ("PledgeHouse$OrderText", "number", "I", false)
  | _ => ("PledgeHouse$OrderText", "digits", "I", false)
def tyX1 : Nat → FieldType := fun k => match k with
  | 0 => .array .int
  | 1 => .int
  | 2 => .int
  | 3 => .int
  | 4 => .int
  | 5 => .int
  | 6 => .int
  | _ => .int
abbrev wsX10 : List Cond := u_ws RX1 TX1 8
theorem nmX1 : ∀ a, a < 8 → ∀ b, b < 8 → a ≠ b → (TX1 a).2.1 ≠ (TX1 b).2.1 := by decide +kernel
theorem tyX1_ok : ∀ k, k < 8 → parseFieldDescriptor (TX1 k).2.2.1 = some (tyX1 k) := by decide +kernel
abbrev cX1_init : ByteArray := prog_3_method_1_code
def yX1_init : MethodName := ⟨RX1, "<init>", "()V"⟩
def RX2 : String := "PledgeHouse$Sale"
def TX2 : u_T := fun k => match k with
  | 0 => ("PledgeHouse$Sale", "piecesLeft", "[I", true)
  | 1 => ("PledgeHouse$Sale", "keys", "[I", true)
  | 2 => ("PledgeHouse$Sale", "coinsLeft", "I", false)
  | 3 => ("PledgeHouse$Sale", "debtLeft", "I", false)
  | 4 => ("PledgeHouse$Sale", "coverLeft", "I", false)
  | 5 => ("PledgeHouse$Sale", "piecesSold", "I", false)
  | 6 => ("PledgeHouse$Sale", "coinsPaid", "I", false)
  | _ => ("PledgeHouse$Sale", "coinsLost", "I", false)
def tyX2 : Nat → FieldType := fun k => match k with
  | 0 => .array .int
  | 1 => .array .int
  | 2 => .int
  | 3 => .int
  | 4 => .int
  | 5 => .int
  | 6 => .int
  | _ => .int
abbrev wsX20 : List Cond := u_ws RX2 TX2 8
theorem nmX2 : ∀ a, a < 8 → ∀ b, b < 8 → a ≠ b → (TX2 a).2.1 ≠ (TX2 b).2.1 := by decide +kernel
theorem tyX2_ok : ∀ k, k < 8 → parseFieldDescriptor (TX2 k).2.2.1 = some (tyX2 k) := by decide +kernel
abbrev cX2_init : ByteArray := prog_4_method_1_code
def yX2_init : MethodName := ⟨RX2, "<init>", "()V"⟩
abbrev cX2_reckon : ByteArray := prog_4_method_2_code
def yX2_reckon : MethodName := ⟨RX2, "reckon", "(LPledgeHouse$Ledger;I)V"⟩
abbrev cX2_layOutPieces : ByteArray := prog_4_method_3_code
def yX2_layOutPieces : MethodName := ⟨RX2, "layOutPieces", "(LPledgeHouse$Ledger;I)I"⟩
abbrev cX2_keyOf : ByteArray := prog_4_method_4_code
def yX2_keyOf : MethodName := ⟨RX2, "keyOf", "(LPledgeHouse$Ledger;I)I"⟩
abbrev cX2_coverOfOne : ByteArray := prog_4_method_5_code
def yX2_coverOfOne : MethodName := ⟨RX2, "coverOfOne", "(LPledgeHouse$Ledger;I)I"⟩
abbrev cX2_isCovered : ByteArray := prog_4_method_6_code
def yX2_isCovered : MethodName := ⟨RX2, "isCovered", "()Z"⟩
abbrev cX2_payFromCoins : ByteArray := prog_4_method_7_code
def yX2_payFromCoins : MethodName := ⟨RX2, "payFromCoins", "()V"⟩
abbrev cX2_sellOne : ByteArray := prog_4_method_8_code
def yX2_sellOne : MethodName := ⟨RX2, "sellOne", "(LPledgeHouse$Ledger;)V"⟩
abbrev cX2_firstKind : ByteArray := prog_4_method_9_code
def yX2_firstKind : MethodName := ⟨RX2, "firstKind", "()I"⟩
abbrev cX2_payWith : ByteArray := prog_4_method_10_code
def yX2_payWith : MethodName := ⟨RX2, "payWith", "(I)V"⟩
def RX3 : String := "PledgeHouse"
def TX3 : u_T := fun k => match k with
  | 0 => ("PledgeHouse", "text", "LPledgeHouse$OrderText;", true)
  | 1 => ("PledgeHouse", "sale", "LPledgeHouse$Sale;", true)
  | 2 => ("PledgeHouse", "riskRow", "[I", true)
  | 3 => ("PledgeHouse", "slots", "[LPledgeHouse$Ledger;", true)
  | 4 => ("PledgeHouse", "slotFilled", "[Z", true)
  | 5 => ("PledgeHouse", "saved", "[LPledgeHouse$Ledger;", true)
  | 6 => ("PledgeHouse", "savedCount", "I", false)
  | 7 => ("PledgeHouse", "now", "LPledgeHouse$Ledger;", false)
  | _ => ("PledgeHouse", "before", "LPledgeHouse$Ledger;", false)
def tyX3 : Nat → FieldType := fun k => match k with
  | 0 => .object "PledgeHouse$OrderText"
  | 1 => .object "PledgeHouse$Sale"
  | 2 => .array .int
  | 3 => .array (.object "PledgeHouse$Ledger")
  | 4 => .array .boolean
  | 5 => .array (.object "PledgeHouse$Ledger")
  | 6 => .int
  | 7 => .object "PledgeHouse$Ledger"
  | _ => .object "PledgeHouse$Ledger"
abbrev wsX30 : List Cond := u_ws RX3 TX3 9
theorem nmX3 : ∀ a, a < 9 → ∀ b, b < 9 → a ≠ b → (TX3 a).2.1 ≠ (TX3 b).2.1 := by decide +kernel
theorem tyX3_ok : ∀ k, k < 9 → parseFieldDescriptor (TX3 k).2.2.1 = some (tyX3 k) := by decide +kernel
abbrev cX3_init : ByteArray := prog_1_method_1_code
def yX3_init : MethodName := ⟨RX3, "<init>", "()V"⟩
abbrev cX3_setPrice : ByteArray := prog_1_method_2_code
def yX3_setPrice : MethodName := ⟨RX3, "setPrice", "(II)I"⟩
abbrev cX3_setCut : ByteArray := prog_1_method_3_code
def yX3_setCut : MethodName := ⟨RX3, "setCut", "(II)I"⟩
abbrev cX3_fall : ByteArray := prog_1_method_4_code
def yX3_fall : MethodName := ⟨RX3, "fall", "(I)I"⟩
abbrev cX3_pledge : ByteArray := prog_1_method_5_code
def yX3_pledge : MethodName := ⟨RX3, "pledge", "(III)I"⟩
abbrev cX3_release : ByteArray := prog_1_method_6_code
def yX3_release : MethodName := ⟨RX3, "release", "(III)I"⟩
abbrev cX3_deposit : ByteArray := prog_1_method_7_code
def yX3_deposit : MethodName := ⟨RX3, "deposit", "(II)I"⟩
abbrev cX3_lend : ByteArray := prog_1_method_9_code
def yX3_lend : MethodName := ⟨RX3, "lend", "(II)I"⟩
abbrev cX3_payBack : ByteArray := prog_1_method_10_code
def yX3_payBack : MethodName := ⟨RX3, "payBack", "(II)I"⟩
abbrev cX3_pass : ByteArray := prog_1_method_12_code
def yX3_pass : MethodName := ⟨RX3, "pass", "(I)I"⟩
abbrev cX3_changeRate : ByteArray := prog_1_method_13_code
def yX3_changeRate : MethodName := ⟨RX3, "changeRate", "(I)I"⟩
abbrev cX3_changeGrace : ByteArray := prog_1_method_14_code
def yX3_changeGrace : MethodName := ⟨RX3, "changeGrace", "(I)I"⟩
abbrev cX3_changeSlip : ByteArray := prog_1_method_15_code
def yX3_changeSlip : MethodName := ⟨RX3, "changeSlip", "(I)I"⟩
abbrev cX3_turnOrder : ByteArray := prog_1_method_16_code
def yX3_turnOrder : MethodName := ⟨RX3, "turnOrder", "()I"⟩
abbrev cX3_priceOf : ByteArray := prog_1_method_25_code
def yX3_priceOf : MethodName := ⟨RX3, "priceOf", "(I)I"⟩
abbrev cX3_cutOf : ByteArray := prog_1_method_26_code
def yX3_cutOf : MethodName := ⟨RX3, "cutOf", "(I)I"⟩
abbrev cX3_pledgedOf : ByteArray := prog_1_method_27_code
def yX3_pledgedOf : MethodName := ⟨RX3, "pledgedOf", "(I)I"⟩
abbrev cX3_soldOf : ByteArray := prog_1_method_28_code
def yX3_soldOf : MethodName := ⟨RX3, "soldOf", "(I)I"⟩
abbrev cX3_piecesOf : ByteArray := prog_1_method_29_code
def yX3_piecesOf : MethodName := ⟨RX3, "piecesOf", "(II)I"⟩
abbrev cX3_coinsOf : ByteArray := prog_1_method_30_code
def yX3_coinsOf : MethodName := ⟨RX3, "coinsOf", "(I)I"⟩
abbrev cX3_debtOf : ByteArray := prog_1_method_31_code
def yX3_debtOf : MethodName := ⟨RX3, "debtOf", "(I)I"⟩
abbrev cX3_worthOf : ByteArray := prog_1_method_32_code
def yX3_worthOf : MethodName := ⟨RX3, "worthOf", "(I)I"⟩
abbrev cX3_coverOf : ByteArray := prog_1_method_33_code
def yX3_coverOf : MethodName := ⟨RX3, "coverOf", "(I)I"⟩
abbrev cX3_roomOf : ByteArray := prog_1_method_34_code
def yX3_roomOf : MethodName := ⟨RX3, "roomOf", "(I)I"⟩
abbrev cX3_isCalled : ByteArray := prog_1_method_35_code
def yX3_isCalled : MethodName := ⟨RX3, "isCalled", "(I)Z"⟩
abbrev cX3_hoursLeft : ByteArray := prog_1_method_36_code
def yX3_hoursLeft : MethodName := ⟨RX3, "hoursLeft", "(I)I"⟩
abbrev cX3_isBarred : ByteArray := prog_1_method_37_code
def yX3_isBarred : MethodName := ⟨RX3, "isBarred", "(I)Z"⟩
abbrev cX3_rankOf : ByteArray := prog_1_method_38_code
def yX3_rankOf : MethodName := ⟨RX3, "rankOf", "(I)I"⟩
abbrev cX3_riskyBySorting : ByteArray := prog_1_method_39_code
def yX3_riskyBySorting : MethodName := ⟨RX3, "riskyBySorting", "(I)I"⟩
abbrev cX3_riskyByTaking : ByteArray := prog_1_method_40_code
def yX3_riskyByTaking : MethodName := ⟨RX3, "riskyByTaking", "(I)I"⟩
abbrev cX3_calledNow : ByteArray := prog_1_method_41_code
def yX3_calledNow : MethodName := ⟨RX3, "calledNow", "()I"⟩
abbrev cX3_order : ByteArray := prog_1_method_45_code
def yX3_order : MethodName := ⟨RX3, "order", "()I"⟩
abbrev cX3_fallToCallByTrying : ByteArray := prog_1_method_46_code
def yX3_fallToCallByTrying : MethodName := ⟨RX3, "fallToCallByTrying", "(I)I"⟩
abbrev cX3_fallToCallByHalving : ByteArray := prog_1_method_47_code
def yX3_fallToCallByHalving : MethodName := ⟨RX3, "fallToCallByHalving", "(I)I"⟩
abbrev cX3_hoursToCall : ByteArray := prog_1_method_48_code
def yX3_hoursToCall : MethodName := ⟨RX3, "hoursToCall", "(I)I"⟩
abbrev cX3_wouldSell : ByteArray := prog_1_method_49_code
def yX3_wouldSell : MethodName := ⟨RX3, "wouldSell", "(I)I"⟩
abbrev cX3_wouldLose : ByteArray := prog_1_method_50_code
def yX3_wouldLose : MethodName := ⟨RX3, "wouldLose", "(I)I"⟩
abbrev cX3_calledIfFallen : ByteArray := prog_1_method_51_code
def yX3_calledIfFallen : MethodName := ⟨RX3, "calledIfFallen", "(I)I"⟩
abbrev cX3_hours : ByteArray := prog_1_method_52_code
def yX3_hours : MethodName := ⟨RX3, "hours", "()I"⟩
abbrev cX3_debtsByClients : ByteArray := prog_1_method_53_code
def yX3_debtsByClients : MethodName := ⟨RX3, "debtsByClients", "()I"⟩
abbrev cX3_debtsByAccount : ByteArray := prog_1_method_54_code
def yX3_debtsByAccount : MethodName := ⟨RX3, "debtsByAccount", "()I"⟩
abbrev cX3_lent : ByteArray := prog_1_method_55_code
def yX3_lent : MethodName := ⟨RX3, "lent", "()I"⟩
abbrev cX3_interest : ByteArray := prog_1_method_56_code
def yX3_interest : MethodName := ⟨RX3, "interest", "()I"⟩
abbrev cX3_repaid : ByteArray := prog_1_method_57_code
def yX3_repaid : MethodName := ⟨RX3, "repaid", "()I"⟩
abbrev cX3_lost : ByteArray := prog_1_method_58_code
def yX3_lost : MethodName := ⟨RX3, "lost", "()I"⟩
abbrev cX3_calls : ByteArray := prog_1_method_59_code
def yX3_calls : MethodName := ⟨RX3, "calls", "()I"⟩
abbrev cX3_soldOut : ByteArray := prog_1_method_60_code
def yX3_soldOut : MethodName := ⟨RX3, "soldOut", "()I"⟩
abbrev cX3_usedShare : ByteArray := prog_1_method_61_code
def yX3_usedShare : MethodName := ⟨RX3, "usedShare", "()D"⟩
abbrev cX3_save : ByteArray := prog_1_method_72_code
def yX3_save : MethodName := ⟨RX3, "save", "()V"⟩
abbrev cX3_saveBefore : ByteArray := prog_1_method_73_code
def yX3_saveBefore : MethodName := ⟨RX3, "saveBefore", "()V"⟩
abbrev cX3_at : ByteArray := prog_1_method_74_code
def yX3_at : MethodName := ⟨RX3, "at", "(II)I"⟩
abbrev cX3_fallen : ByteArray := prog_1_method_75_code
def yX3_fallen : MethodName := ⟨RX3, "fallen", "(III)I"⟩
abbrev cX3_needKind : ByteArray := prog_1_method_76_code
def yX3_needKind : MethodName := ⟨RX3, "needKind", "(I)V"⟩
abbrev cX3_needClient : ByteArray := prog_1_method_77_code
def yX3_needClient : MethodName := ⟨RX3, "needClient", "(I)V"⟩
abbrev cX3_needPlace : ByteArray := prog_1_method_78_code
def yX3_needPlace : MethodName := ⟨RX3, "needPlace", "(I)V"⟩
abbrev cX3_needRange : ByteArray := prog_1_method_79_code
def yX3_needRange : MethodName := ⟨RX3, "needRange", "(III)V"⟩
abbrev cX3_need : ByteArray := prog_1_method_80_code
def yX3_need : MethodName := ⟨RX3, "need", "(Z)V"⟩
def RX4 : String := "PledgeHouseModel"
def TX4 : u_T := fun k => match k with
  | _ => ("", "", "", false)
def tyX4 : Nat → FieldType := fun k => match k with
  | _ => .int
abbrev wsX40 : List Cond := u_ws RX4 TX4 0
theorem nmX4 : ∀ a, a < 0 → ∀ b, b < 0 → a ≠ b → (TX4 a).2.1 ≠ (TX4 b).2.1 := by decide +kernel
theorem tyX4_ok : ∀ k, k < 0 → parseFieldDescriptor (TX4 k).2.2.1 = some (tyX4 k) := by decide +kernel
def RJx145de : String := "java/io/Serializable"
def TJx145de : u_T := fun k => match k with
  | _ => ("", "", "", false)
def tyJx145de : Nat → FieldType := fun k => match k with
  | _ => .int
abbrev wsJx145de0 : List Cond := u_ws RJx145de TJx145de 0
theorem nmJx145de : ∀ a, a < 0 → ∀ b, b < 0 → a ≠ b → (TJx145de a).2.1 ≠ (TJx145de b).2.1 := by decide +kernel
theorem tyJx145de_ok : ∀ k, k < 0 → parseFieldDescriptor (TJx145de k).2.2.1 = some (tyJx145de k) := by decide +kernel
def RJ10 : String := "java/lang/System"
def TJ10 : u_T := fun k => match k with
  | _ => ("", "", "", false)
def tyJ10 : Nat → FieldType := fun k => match k with
  | _ => .int
abbrev wsJ100 : List Cond := u_ws RJ10 TJ10 0
theorem nmJ10 : ∀ a, a < 0 → ∀ b, b < 0 → a ≠ b → (TJ10 a).2.1 ≠ (TJ10 b).2.1 := by decide +kernel
theorem tyJ10_ok : ∀ k, k < 0 → parseFieldDescriptor (TJ10 k).2.2.1 = some (tyJ10 k) := by decide +kernel
def RJ7 : String := "java/util/Arrays"
def TJ7 : u_T := fun k => match k with
  | _ => ("", "", "", false)
def tyJ7 : Nat → FieldType := fun k => match k with
  | _ => .int
abbrev wsJ70 : List Cond := u_ws RJ7 TJ7 0
theorem nmJ7 : ∀ a, a < 0 → ∀ b, b < 0 → a ≠ b → (TJ7 a).2.1 ≠ (TJ7 b).2.1 := by decide +kernel
theorem tyJ7_ok : ∀ k, k < 0 → parseFieldDescriptor (TJ7 k).2.2.1 = some (tyJ7 k) := by decide +kernel
abbrev cJ7_fill_53178 : ByteArray := prog_14_method_103_code
def yJ7_fill_53178 : MethodName := ⟨RJ7, "fill", "([II)V"⟩
def RL : String := "PledgeHouseLaw"
abbrev cL_cell : ByteArray := method_2_code
def yL_cell : MethodName := ⟨RL, "cell", "([II)I"⟩
abbrev cL_low : ByteArray := method_3_code
def yL_low : MethodName := ⟨RL, "low", "(II)I"⟩
abbrev cL_much : ByteArray := method_4_code
def yL_much : MethodName := ⟨RL, "much", "(I)I"⟩
abbrev cL_does : ByteArray := method_5_code
def yL_does : MethodName := ⟨RL, "does", "(LPledgeHouse;II)Z"⟩
abbrev cL_isLent : ByteArray := method_6_code
def yL_isLent : MethodName := ⟨RL, "isLent", "(LPledgeHouse;II)Z"⟩
abbrev cL_isPassed : ByteArray := method_7_code
def yL_isPassed : MethodName := ⟨RL, "isPassed", "(LPledgeHouse;I)Z"⟩
abbrev cL_isClientSo : ByteArray := method_8_code
def yL_isClientSo : MethodName := ⟨RL, "isClientSo", "(LPledgeHouse;I)Z"⟩
abbrev cL_ifFallen : ByteArray := method_9_code
def yL_ifFallen : MethodName := ⟨RL, "ifFallen", "(LPledgeHouse;II)I"⟩
abbrev cL_isRiskSo : ByteArray := method_10_code
def yL_isRiskSo : MethodName := ⟨RL, "isRiskSo", "(LPledgeHouse;)Z"⟩
abbrev cL_areAccountsSo : ByteArray := method_11_code
def yL_areAccountsSo : MethodName := ⟨RL, "areAccountsSo", "(LPledgeHouse;)Z"⟩
abbrev cL_law : ByteArray := code
def yL_law : MethodName := ⟨RL, "law", "([I)Z"⟩
abbrev vwCl : List vw_C := [(RX0, TX0, 19), (RX1, TX1, 8), (RX2, TX2, 8), (RX3, TX3, 9)]
end
section
def Gw : List Cond := lw_tbl.filter goodWord
theorem Gw_in : ∀ w ∈ Gw, w ∈ lw_tbl := fun w h => (List.mem_filter.mp h).1
theorem Gw_good : ∀ w ∈ Gw, goodWord w = true := fun w h => (List.mem_filter.mp h).2
theorem Gw_of {w : Cond} (i : Nat) (h : lw_tbl[i]? = some w) (g : goodWord w = true) : w ∈ Gw := List.mem_filter.mpr ⟨List.mem_of_getElem? h, g⟩
theorem g0 : Cond.selects "java/lang/Throwable" ⟨"java/lang/Throwable", "fillInStackTrace", "(I)Ljava/lang/Throwable;"⟩ ⟨"java/lang/Throwable", "fillInStackTrace", "(I)Ljava/lang/Throwable;"⟩ ∈ Gw := Gw_of 0 (by decide +kernel) (by decide +kernel)
theorem g1 : Cond.selects "PledgeHouse" yX3_save yX3_save ∈ Gw := Gw_of 1 (by decide +kernel) (by decide +kernel)
theorem g2 : Cond.selects "PledgeHouse" yX3_saveBefore yX3_saveBefore ∈ Gw := Gw_of 2 (by decide +kernel) (by decide +kernel)
theorem g3 : Cond.initialized "PledgeHouseLaw" ∈ Gw := Gw_of 3 (by decide +kernel) (by decide +kernel)
theorem g4 : Cond.initialized "PledgeHouse" ∈ Gw := Gw_of 4 (by decide +kernel) (by decide +kernel)
theorem g5 : Cond.initialized "PledgeHouse$OrderText" ∈ Gw := Gw_of 5 (by decide +kernel) (by decide +kernel)
theorem g6 : Cond.initialized "PledgeHouse$Sale" ∈ Gw := Gw_of 6 (by decide +kernel) (by decide +kernel)
theorem g7 : Cond.initialized "PledgeHouse$Ledger" ∈ Gw := Gw_of 7 (by decide +kernel) (by decide +kernel)
theorem g8 : Cond.initialized "java/util/Arrays" ∈ Gw := Gw_of 8 (by decide +kernel) (by decide +kernel)
theorem g9 : Cond.initialized "java/lang/Throwable" ∈ Gw := Gw_of 9 (by decide +kernel) (by decide +kernel)
theorem g10 : Cond.initialized "java/lang/Exception" ∈ Gw := Gw_of 10 (by decide +kernel) (by decide +kernel)
theorem g11 : Cond.initialized "java/lang/RuntimeException" ∈ Gw := Gw_of 11 (by decide +kernel) (by decide +kernel)
theorem g12 : Cond.initialized "java/lang/IndexOutOfBoundsException" ∈ Gw := Gw_of 12 (by decide +kernel) (by decide +kernel)
theorem g13 : Cond.initialized "java/lang/IllegalArgumentException" ∈ Gw := Gw_of 13 (by decide +kernel) (by decide +kernel)
theorem g14 : Cond.initialized "java/lang/System" ∈ Gw := Gw_of 14 (by decide +kernel) (by decide +kernel)
theorem g15 : Cond.initialized "java/lang/IllegalStateException" ∈ Gw := Gw_of 15 (by decide +kernel) (by decide +kernel)
theorem g16 : Cond.classLink "PledgeHouseLaw" 15 "PledgeHouse" ∈ Gw := Gw_of 16 (by decide +kernel) (by decide +kernel)
theorem g17 : Cond.instantiable "PledgeHouse" 9 ∈ Gw := Gw_of 17 (by decide +kernel) (by decide +kernel)
theorem g18 : Cond.methodLink "PledgeHouseLaw" 178 yX3_init ∈ Gw := Gw_of 18 (by decide +kernel) (by decide +kernel)
theorem g19 : Cond.instanceMethod yX3_init ∈ Gw := Gw_of 19 (by decide +kernel) (by decide +kernel)
theorem g20 : Cond.code yX3_init prog_1_method_1_code 2 (Option.none : Option Jvm.ClassFile.FieldType) ∈ Gw := Gw_of 20 (by decide +kernel) (by decide +kernel)
theorem g21 : Cond.methodLink "PledgeHouse" 1 ⟨"java/lang/Object", "<init>", "()V"⟩ ∈ Gw := Gw_of 21 (by decide +kernel) (by decide +kernel)
theorem g22 : Cond.instanceMethod ⟨"java/lang/Object", "<init>", "()V"⟩ ∈ Gw := Gw_of 22 (by decide +kernel) (by decide +kernel)
theorem g23 : Cond.code ⟨"java/lang/Object", "<init>", "()V"⟩ object_method_1_code 1 (Option.none : Option Jvm.ClassFile.FieldType) ∈ Gw := Gw_of 23 (by decide +kernel) (by decide +kernel)
theorem g24 : Cond.classLink "PledgeHouse" 7 "PledgeHouse$OrderText" ∈ Gw := Gw_of 24 (by decide +kernel) (by decide +kernel)
theorem g25 : Cond.instantiable "PledgeHouse$OrderText" 8 ∈ Gw := Gw_of 25 (by decide +kernel) (by decide +kernel)
theorem g27 : Cond.instanceMethod yX1_init ∈ Gw := Gw_of 27 (by decide +kernel) (by decide +kernel)
theorem g28 : Cond.code yX1_init prog_3_method_1_code 1 (Option.none : Option Jvm.ClassFile.FieldType) ∈ Gw := Gw_of 28 (by decide +kernel) (by decide +kernel)
theorem g29 : Cond.methodLink "PledgeHouse$OrderText" 3 ⟨"java/lang/Object", "<init>", "()V"⟩ ∈ Gw := Gw_of 29 (by decide +kernel) (by decide +kernel)
theorem g30 : Cond.fieldLink "PledgeHouse$OrderText" 9 "PledgeHouse$OrderText" "codes" "[I" ∈ Gw := Gw_of 30 (by decide +kernel) (by decide +kernel)
theorem g48 : Cond.arrayClass Jvm.ClassFile.FieldType.int ∈ Gw := Gw_of 48 (by decide +kernel) (by decide +kernel)
theorem g49 : Cond.classLink "PledgeHouse" 16 "PledgeHouse$Sale" ∈ Gw := Gw_of 49 (by decide +kernel) (by decide +kernel)
theorem g50 : Cond.instantiable "PledgeHouse$Sale" 8 ∈ Gw := Gw_of 50 (by decide +kernel) (by decide +kernel)
theorem g52 : Cond.instanceMethod yX2_init ∈ Gw := Gw_of 52 (by decide +kernel) (by decide +kernel)
theorem g53 : Cond.code yX2_init prog_4_method_1_code 1 (Option.none : Option Jvm.ClassFile.FieldType) ∈ Gw := Gw_of 53 (by decide +kernel) (by decide +kernel)
theorem g54 : Cond.methodLink "PledgeHouse$Sale" 3 ⟨"java/lang/Object", "<init>", "()V"⟩ ∈ Gw := Gw_of 54 (by decide +kernel) (by decide +kernel)
theorem g55 : Cond.fieldLink "PledgeHouse$Sale" 9 "PledgeHouse$Sale" "piecesLeft" "[I" ∈ Gw := Gw_of 55 (by decide +kernel) (by decide +kernel)
theorem g56 : Cond.fieldLink "PledgeHouse$Ledger" 141 "PledgeHouse$Sale" "piecesLeft" "[I" ∈ Gw := Gw_of 56 (by decide +kernel) (by decide +kernel)
theorem g57 : Cond.fieldLink "PledgeHouse$Sale" 15 "PledgeHouse$Sale" "keys" "[I" ∈ Gw := Gw_of 57 (by decide +kernel) (by decide +kernel)
theorem g58 : Cond.fieldLink "PledgeHouse$Sale" 23 "PledgeHouse$Sale" "coinsLeft" "I" ∈ Gw := Gw_of 58 (by decide +kernel) (by decide +kernel)
theorem g59 : Cond.fieldLink "PledgeHouse$Ledger" 144 "PledgeHouse$Sale" "coinsLeft" "I" ∈ Gw := Gw_of 59 (by decide +kernel) (by decide +kernel)
theorem g60 : Cond.fieldLink "PledgeHouse$Sale" 30 "PledgeHouse$Sale" "debtLeft" "I" ∈ Gw := Gw_of 60 (by decide +kernel) (by decide +kernel)
theorem g61 : Cond.fieldLink "PledgeHouse$Ledger" 147 "PledgeHouse$Sale" "debtLeft" "I" ∈ Gw := Gw_of 61 (by decide +kernel) (by decide +kernel)
theorem g62 : Cond.fieldLink "PledgeHouse$Sale" 57 "PledgeHouse$Sale" "coverLeft" "I" ∈ Gw := Gw_of 62 (by decide +kernel) (by decide +kernel)
theorem g63 : Cond.fieldLink "PledgeHouse$Sale" 33 "PledgeHouse$Sale" "piecesSold" "I" ∈ Gw := Gw_of 63 (by decide +kernel) (by decide +kernel)
theorem g64 : Cond.fieldLink "PledgeHouse" 228 "PledgeHouse$Sale" "piecesSold" "I" ∈ Gw := Gw_of 64 (by decide +kernel) (by decide +kernel)
theorem g65 : Cond.fieldLink "PledgeHouse$Sale" 36 "PledgeHouse$Sale" "coinsPaid" "I" ∈ Gw := Gw_of 65 (by decide +kernel) (by decide +kernel)
theorem g66 : Cond.fieldLink "PledgeHouse$Ledger" 150 "PledgeHouse$Sale" "coinsPaid" "I" ∈ Gw := Gw_of 66 (by decide +kernel) (by decide +kernel)
theorem g67 : Cond.fieldLink "PledgeHouse$Sale" 39 "PledgeHouse$Sale" "coinsLost" "I" ∈ Gw := Gw_of 67 (by decide +kernel) (by decide +kernel)
theorem g68 : Cond.fieldLink "PledgeHouse$Ledger" 153 "PledgeHouse$Sale" "coinsLost" "I" ∈ Gw := Gw_of 68 (by decide +kernel) (by decide +kernel)
theorem g69 : Cond.fieldLink "PledgeHouse" 231 "PledgeHouse$Sale" "coinsLost" "I" ∈ Gw := Gw_of 69 (by decide +kernel) (by decide +kernel)
theorem g87 : Cond.classLink "PledgeHouse" 27 "PledgeHouse$Ledger" ∈ Gw := Gw_of 87 (by decide +kernel) (by decide +kernel)
theorem g89 : Cond.instantiable "PledgeHouse$Ledger" 19 ∈ Gw := Gw_of 89 (by decide +kernel) (by decide +kernel)
theorem g90 : Cond.methodLink "PledgeHouse" 40 yX0_init ∈ Gw := Gw_of 90 (by decide +kernel) (by decide +kernel)
theorem g91 : Cond.instanceMethod yX0_init ∈ Gw := Gw_of 91 (by decide +kernel) (by decide +kernel)
theorem g92 : Cond.code yX0_init prog_2_method_1_code 1 (Option.none : Option Jvm.ClassFile.FieldType) ∈ Gw := Gw_of 92 (by decide +kernel) (by decide +kernel)
theorem g93 : Cond.methodLink "PledgeHouse$Ledger" 3 ⟨"java/lang/Object", "<init>", "()V"⟩ ∈ Gw := Gw_of 93 (by decide +kernel) (by decide +kernel)
theorem g94 : Cond.methodLink "PledgeHouse$Ledger" 50 yJ7_fill_53178 ∈ Gw := Gw_of 94 (by decide +kernel) (by decide +kernel)
theorem g95 : Cond.static yJ7_fill_53178 ∈ Gw := Gw_of 95 (by decide +kernel) (by decide +kernel)
theorem g96 : Cond.code yJ7_fill_53178 prog_14_method_103_code 4 (Option.none : Option Jvm.ClassFile.FieldType) ∈ Gw := Gw_of 96 (by decide +kernel) (by decide +kernel)
theorem g97 : Cond.fieldLink "PledgeHouse$Ledger" 9 "PledgeHouse$Ledger" "prices" "[I" ∈ Gw := Gw_of 97 (by decide +kernel) (by decide +kernel)
theorem g98 : Cond.fieldLink "PledgeHouse$Sale" 79 "PledgeHouse$Ledger" "prices" "[I" ∈ Gw := Gw_of 98 (by decide +kernel) (by decide +kernel)
theorem g99 : Cond.fieldLink "PledgeHouse" 175 "PledgeHouse$Ledger" "prices" "[I" ∈ Gw := Gw_of 99 (by decide +kernel) (by decide +kernel)
theorem g100 : Cond.fieldLink "PledgeHouse$Ledger" 15 "PledgeHouse$Ledger" "cuts" "[I" ∈ Gw := Gw_of 100 (by decide +kernel) (by decide +kernel)
theorem g101 : Cond.fieldLink "PledgeHouse$Sale" 76 "PledgeHouse$Ledger" "cuts" "[I" ∈ Gw := Gw_of 101 (by decide +kernel) (by decide +kernel)
theorem g102 : Cond.fieldLink "PledgeHouse" 178 "PledgeHouse$Ledger" "cuts" "[I" ∈ Gw := Gw_of 102 (by decide +kernel) (by decide +kernel)
theorem g103 : Cond.fieldLink "PledgeHouse$Ledger" 18 "PledgeHouse$Ledger" "soldPieces" "[I" ∈ Gw := Gw_of 103 (by decide +kernel) (by decide +kernel)
theorem g104 : Cond.fieldLink "PledgeHouse" 184 "PledgeHouse$Ledger" "soldPieces" "[I" ∈ Gw := Gw_of 104 (by decide +kernel) (by decide +kernel)
theorem g105 : Cond.fieldLink "PledgeHouse$Ledger" 21 "PledgeHouse$Ledger" "pieces" "[I" ∈ Gw := Gw_of 105 (by decide +kernel) (by decide +kernel)
theorem g106 : Cond.fieldLink "PledgeHouse$Sale" 60 "PledgeHouse$Ledger" "pieces" "[I" ∈ Gw := Gw_of 106 (by decide +kernel) (by decide +kernel)
theorem g107 : Cond.fieldLink "PledgeHouse" 88 "PledgeHouse$Ledger" "pieces" "[I" ∈ Gw := Gw_of 107 (by decide +kernel) (by decide +kernel)
theorem g108 : Cond.fieldLink "PledgeHouse$Ledger" 24 "PledgeHouse$Ledger" "coins" "[I" ∈ Gw := Gw_of 108 (by decide +kernel) (by decide +kernel)
theorem g109 : Cond.fieldLink "PledgeHouse$Sale" 18 "PledgeHouse$Ledger" "coins" "[I" ∈ Gw := Gw_of 109 (by decide +kernel) (by decide +kernel)
theorem g110 : Cond.fieldLink "PledgeHouse" 101 "PledgeHouse$Ledger" "coins" "[I" ∈ Gw := Gw_of 110 (by decide +kernel) (by decide +kernel)
theorem g111 : Cond.fieldLink "PledgeHouse$Ledger" 27 "PledgeHouse$Ledger" "debts" "[I" ∈ Gw := Gw_of 111 (by decide +kernel) (by decide +kernel)
theorem g112 : Cond.fieldLink "PledgeHouse$Sale" 27 "PledgeHouse$Ledger" "debts" "[I" ∈ Gw := Gw_of 112 (by decide +kernel) (by decide +kernel)
theorem g113 : Cond.fieldLink "PledgeHouse" 110 "PledgeHouse$Ledger" "debts" "[I" ∈ Gw := Gw_of 113 (by decide +kernel) (by decide +kernel)
theorem g114 : Cond.fieldLink "PledgeHouse$Ledger" 30 "PledgeHouse$Ledger" "callHours" "[I" ∈ Gw := Gw_of 114 (by decide +kernel) (by decide +kernel)
theorem g115 : Cond.fieldLink "PledgeHouse" 196 "PledgeHouse$Ledger" "callHours" "[I" ∈ Gw := Gw_of 115 (by decide +kernel) (by decide +kernel)
theorem g116 : Cond.fieldLink "PledgeHouse$Ledger" 33 "PledgeHouse$Ledger" "barred" "[Z" ∈ Gw := Gw_of 116 (by decide +kernel) (by decide +kernel)
theorem g117 : Cond.fieldLink "PledgeHouse" 199 "PledgeHouse$Ledger" "barred" "[Z" ∈ Gw := Gw_of 117 (by decide +kernel) (by decide +kernel)
theorem g118 : Cond.fieldLink "PledgeHouse$Ledger" 37 "PledgeHouse$Ledger" "interestRate" "I" ∈ Gw := Gw_of 118 (by decide +kernel) (by decide +kernel)
theorem g119 : Cond.fieldLink "PledgeHouse" 124 "PledgeHouse$Ledger" "interestRate" "I" ∈ Gw := Gw_of 119 (by decide +kernel) (by decide +kernel)
theorem g120 : Cond.fieldLink "PledgeHouse$Ledger" 41 "PledgeHouse$Ledger" "graceHours" "I" ∈ Gw := Gw_of 120 (by decide +kernel) (by decide +kernel)
theorem g121 : Cond.fieldLink "PledgeHouse" 128 "PledgeHouse$Ledger" "graceHours" "I" ∈ Gw := Gw_of 121 (by decide +kernel) (by decide +kernel)
theorem g122 : Cond.fieldLink "PledgeHouse$Ledger" 44 "PledgeHouse$Ledger" "slipPercent" "I" ∈ Gw := Gw_of 122 (by decide +kernel) (by decide +kernel)
theorem g123 : Cond.fieldLink "PledgeHouse$Sale" 90 "PledgeHouse$Ledger" "slipPercent" "I" ∈ Gw := Gw_of 123 (by decide +kernel) (by decide +kernel)
theorem g124 : Cond.fieldLink "PledgeHouse" 131 "PledgeHouse$Ledger" "slipPercent" "I" ∈ Gw := Gw_of 124 (by decide +kernel) (by decide +kernel)
theorem g125 : Cond.fieldLink "PledgeHouse$Ledger" 47 "PledgeHouse$Ledger" "salesOrder" "I" ∈ Gw := Gw_of 125 (by decide +kernel) (by decide +kernel)
theorem g126 : Cond.fieldLink "PledgeHouse$Sale" 73 "PledgeHouse$Ledger" "salesOrder" "I" ∈ Gw := Gw_of 126 (by decide +kernel) (by decide +kernel)
theorem g127 : Cond.fieldLink "PledgeHouse" 134 "PledgeHouse$Ledger" "salesOrder" "I" ∈ Gw := Gw_of 127 (by decide +kernel) (by decide +kernel)
theorem g128 : Cond.fieldLink "PledgeHouse$Ledger" 62 "PledgeHouse$Ledger" "passedHours" "I" ∈ Gw := Gw_of 128 (by decide +kernel) (by decide +kernel)
theorem g129 : Cond.fieldLink "PledgeHouse" 237 "PledgeHouse$Ledger" "passedHours" "I" ∈ Gw := Gw_of 129 (by decide +kernel) (by decide +kernel)
theorem g130 : Cond.fieldLink "PledgeHouse$Ledger" 65 "PledgeHouse$Ledger" "lentCoins" "I" ∈ Gw := Gw_of 130 (by decide +kernel) (by decide +kernel)
theorem g131 : Cond.fieldLink "PledgeHouse" 243 "PledgeHouse$Ledger" "lentCoins" "I" ∈ Gw := Gw_of 131 (by decide +kernel) (by decide +kernel)
theorem g132 : Cond.fieldLink "PledgeHouse$Ledger" 68 "PledgeHouse$Ledger" "interestCoins" "I" ∈ Gw := Gw_of 132 (by decide +kernel) (by decide +kernel)
theorem g133 : Cond.fieldLink "PledgeHouse" 246 "PledgeHouse$Ledger" "interestCoins" "I" ∈ Gw := Gw_of 133 (by decide +kernel) (by decide +kernel)
theorem g134 : Cond.fieldLink "PledgeHouse$Ledger" 71 "PledgeHouse$Ledger" "repaidCoins" "I" ∈ Gw := Gw_of 134 (by decide +kernel) (by decide +kernel)
theorem g135 : Cond.fieldLink "PledgeHouse" 249 "PledgeHouse$Ledger" "repaidCoins" "I" ∈ Gw := Gw_of 135 (by decide +kernel) (by decide +kernel)
theorem g136 : Cond.fieldLink "PledgeHouse$Ledger" 74 "PledgeHouse$Ledger" "lostCoins" "I" ∈ Gw := Gw_of 136 (by decide +kernel) (by decide +kernel)
theorem g137 : Cond.fieldLink "PledgeHouse" 252 "PledgeHouse$Ledger" "lostCoins" "I" ∈ Gw := Gw_of 137 (by decide +kernel) (by decide +kernel)
theorem g138 : Cond.fieldLink "PledgeHouse$Ledger" 77 "PledgeHouse$Ledger" "callCount" "I" ∈ Gw := Gw_of 138 (by decide +kernel) (by decide +kernel)
theorem g139 : Cond.fieldLink "PledgeHouse" 255 "PledgeHouse$Ledger" "callCount" "I" ∈ Gw := Gw_of 139 (by decide +kernel) (by decide +kernel)
theorem g140 : Cond.fieldLink "PledgeHouse$Ledger" 80 "PledgeHouse$Ledger" "soldOutCount" "I" ∈ Gw := Gw_of 140 (by decide +kernel) (by decide +kernel)
theorem g141 : Cond.fieldLink "PledgeHouse" 258 "PledgeHouse$Ledger" "soldOutCount" "I" ∈ Gw := Gw_of 141 (by decide +kernel) (by decide +kernel)
theorem g181 : Cond.arrayClass Jvm.ClassFile.FieldType.boolean ∈ Gw := Gw_of 181 (by decide +kernel) (by decide +kernel)
theorem g182 : Cond.fieldLink "PledgeHouse" 10 "PledgeHouse" "text" "LPledgeHouse$OrderText;" ∈ Gw := Gw_of 182 (by decide +kernel) (by decide +kernel)
theorem g183 : Cond.fieldLink "PledgeHouse" 19 "PledgeHouse" "sale" "LPledgeHouse$Sale;" ∈ Gw := Gw_of 183 (by decide +kernel) (by decide +kernel)
theorem g184 : Cond.fieldLink "PledgeHouse" 23 "PledgeHouse" "riskRow" "[I" ∈ Gw := Gw_of 184 (by decide +kernel) (by decide +kernel)
theorem g185 : Cond.fieldLink "PledgeHouse" 29 "PledgeHouse" "slots" "[LPledgeHouse$Ledger;" ∈ Gw := Gw_of 185 (by decide +kernel) (by decide +kernel)
theorem g186 : Cond.fieldLink "PledgeHouse" 33 "PledgeHouse" "slotFilled" "[Z" ∈ Gw := Gw_of 186 (by decide +kernel) (by decide +kernel)
theorem g187 : Cond.fieldLink "PledgeHouse" 37 "PledgeHouse" "saved" "[LPledgeHouse$Ledger;" ∈ Gw := Gw_of 187 (by decide +kernel) (by decide +kernel)
theorem g188 : Cond.fieldLink "PledgeHouse" 172 "PledgeHouse" "savedCount" "I" ∈ Gw := Gw_of 188 (by decide +kernel) (by decide +kernel)
theorem g189 : Cond.fieldLink "PledgeHouse" 41 "PledgeHouse" "now" "LPledgeHouse$Ledger;" ∈ Gw := Gw_of 189 (by decide +kernel) (by decide +kernel)
theorem g190 : Cond.fieldLink "PledgeHouse" 45 "PledgeHouse" "before" "LPledgeHouse$Ledger;" ∈ Gw := Gw_of 190 (by decide +kernel) (by decide +kernel)
theorem g210 : Cond.methodLink "PledgeHouseLaw" 179 yL_cell ∈ Gw := Gw_of 210 (by decide +kernel) (by decide +kernel)
theorem g211 : Cond.static yL_cell ∈ Gw := Gw_of 211 (by decide +kernel) (by decide +kernel)
theorem g212 : Cond.code yL_cell method_2_code 2 (Option.some Jvm.ClassFile.FieldType.int) ∈ Gw := Gw_of 212 (by decide +kernel) (by decide +kernel)
theorem g213 : Cond.methodLink "PledgeHouseLaw" 8 yL_low ∈ Gw := Gw_of 213 (by decide +kernel) (by decide +kernel)
theorem g214 : Cond.static yL_low ∈ Gw := Gw_of 214 (by decide +kernel) (by decide +kernel)
theorem g215 : Cond.code yL_low method_3_code 2 (Option.some Jvm.ClassFile.FieldType.int) ∈ Gw := Gw_of 215 (by decide +kernel) (by decide +kernel)
theorem g216 : Cond.constant "PledgeHouseLaw" 7 (2147483647 : Int32) ∈ Gw := Gw_of 216 (by decide +kernel) (by decide +kernel)
theorem g217 : Cond.methodLink "PledgeHouseLaw" 183 yL_does ∈ Gw := Gw_of 217 (by decide +kernel) (by decide +kernel)
theorem g218 : Cond.static yL_does ∈ Gw := Gw_of 218 (by decide +kernel) (by decide +kernel)
theorem g219 : Cond.code yL_does method_5_code 16 (Option.some Jvm.ClassFile.FieldType.boolean) ∈ Gw := Gw_of 219 (by decide +kernel) (by decide +kernel)
theorem g220 : Cond.methodLink "PledgeHouseLaw" 14 yX3_calls ∈ Gw := Gw_of 220 (by decide +kernel) (by decide +kernel)
theorem g221 : Cond.instanceMethod yX3_calls ∈ Gw := Gw_of 221 (by decide +kernel) (by decide +kernel)
theorem g222 : Cond.selects "PledgeHouse" yX3_calls yX3_calls ∈ Gw := Gw_of 222 (by decide +kernel) (by decide +kernel)
theorem g223 : Cond.code yX3_calls prog_1_method_59_code 1 (Option.some Jvm.ClassFile.FieldType.int) ∈ Gw := Gw_of 223 (by decide +kernel) (by decide +kernel)
theorem g224 : Cond.methodLink "PledgeHouseLaw" 20 yX3_setPrice ∈ Gw := Gw_of 224 (by decide +kernel) (by decide +kernel)
theorem g225 : Cond.instanceMethod yX3_setPrice ∈ Gw := Gw_of 225 (by decide +kernel) (by decide +kernel)
theorem g226 : Cond.selects "PledgeHouse" yX3_setPrice yX3_setPrice ∈ Gw := Gw_of 226 (by decide +kernel) (by decide +kernel)
theorem g227 : Cond.code yX3_setPrice prog_1_method_2_code 3 (Option.some Jvm.ClassFile.FieldType.int) ∈ Gw := Gw_of 227 (by decide +kernel) (by decide +kernel)
theorem g228 : Cond.methodLink "PledgeHouse" 48 yX3_needKind ∈ Gw := Gw_of 228 (by decide +kernel) (by decide +kernel)
theorem g229 : Cond.static yX3_needKind ∈ Gw := Gw_of 229 (by decide +kernel) (by decide +kernel)
theorem g230 : Cond.code yX3_needKind prog_1_method_76_code 1 (Option.none : Option Jvm.ClassFile.FieldType) ∈ Gw := Gw_of 230 (by decide +kernel) (by decide +kernel)
theorem g231 : Cond.classLink "PledgeHouse" 322 "java/lang/IndexOutOfBoundsException" ∈ Gw := Gw_of 231 (by decide +kernel) (by decide +kernel)
theorem g232 : Cond.instantiable "java/lang/IndexOutOfBoundsException" 6 ∈ Gw := Gw_of 232 (by decide +kernel) (by decide +kernel)
theorem g240 : Cond.selects "java/lang/IndexOutOfBoundsException" ⟨"java/lang/Throwable", "fillInStackTrace", "(I)Ljava/lang/Throwable;"⟩ ⟨"java/lang/Throwable", "fillInStackTrace", "(I)Ljava/lang/Throwable;"⟩ ∈ Gw := Gw_of 240 (by decide +kernel) (by decide +kernel)
theorem g241 : Cond.selects "java/lang/IndexOutOfBoundsException" ⟨"java/lang/Throwable", "fillInStackTrace", "()Ljava/lang/Throwable;"⟩ ⟨"java/lang/Throwable", "fillInStackTrace", "()Ljava/lang/Throwable;"⟩ ∈ Gw := Gw_of 241 (by decide +kernel) (by decide +kernel)
theorem g252 : Cond.fieldLink "java/lang/Throwable" 198 "java/lang/Throwable" "backtrace" "Ljava/lang/Object;" ∈ Gw := Gw_of 252 (by decide +kernel) (by decide +kernel)
theorem g254 : Cond.instanceMethod ⟨"java/lang/Throwable", "<init>", "()V"⟩ ∈ Gw := Gw_of 254 (by decide +kernel) (by decide +kernel)
theorem g255 : Cond.code ⟨"java/lang/Throwable", "<init>", "()V"⟩ prog_13_method_1_code 1 (Option.none : Option Jvm.ClassFile.FieldType) ∈ Gw := Gw_of 255 (by decide +kernel) (by decide +kernel)
theorem g256 : Cond.methodLink "java/lang/Throwable" 1 ⟨"java/lang/Object", "<init>", "()V"⟩ ∈ Gw := Gw_of 256 (by decide +kernel) (by decide +kernel)
theorem g257 : Cond.fieldLink "java/lang/Throwable" 13 "java/lang/Throwable" "UNASSIGNED_STACK" "[Ljava/lang/StackTraceElement;" ∈ Gw := Gw_of 257 (by decide +kernel) (by decide +kernel)
theorem g259 : Cond.fieldLink "java/lang/Throwable" 20 "java/lang/Throwable" "SUPPRESSED_SENTINEL" "Ljava/util/List;" ∈ Gw := Gw_of 259 (by decide +kernel) (by decide +kernel)
end
section
theorem g261 : Cond.methodLink "java/lang/Throwable" 27 ⟨"java/lang/Throwable", "fillInStackTrace", "()Ljava/lang/Throwable;"⟩ ∈ Gw := Gw_of 261 (by decide +kernel) (by decide +kernel)
theorem g262 : Cond.instanceMethod ⟨"java/lang/Throwable", "fillInStackTrace", "()Ljava/lang/Throwable;"⟩ ∈ Gw := Gw_of 262 (by decide +kernel) (by decide +kernel)
theorem g264 : Cond.selects "java/lang/IllegalArgumentException" ⟨"java/lang/Throwable", "fillInStackTrace", "()Ljava/lang/Throwable;"⟩ ⟨"java/lang/Throwable", "fillInStackTrace", "()Ljava/lang/Throwable;"⟩ ∈ Gw := Gw_of 264 (by decide +kernel) (by decide +kernel)
theorem g265 : Cond.selects "java/lang/IllegalStateException" ⟨"java/lang/Throwable", "fillInStackTrace", "()Ljava/lang/Throwable;"⟩ ⟨"java/lang/Throwable", "fillInStackTrace", "()Ljava/lang/Throwable;"⟩ ∈ Gw := Gw_of 265 (by decide +kernel) (by decide +kernel)
theorem g267 : Cond.methodLink "java/lang/Throwable" 202 ⟨"java/lang/Throwable", "fillInStackTrace", "(I)Ljava/lang/Throwable;"⟩ ∈ Gw := Gw_of 267 (by decide +kernel) (by decide +kernel)
theorem g269 : Cond.instanceMethod ⟨"java/lang/Throwable", "fillInStackTrace", "(I)Ljava/lang/Throwable;"⟩ ∈ Gw := Gw_of 269 (by decide +kernel) (by decide +kernel)
theorem g270 : Cond.instantiable "java/lang/Throwable" 6 ∈ Gw := Gw_of 270 (by decide +kernel) (by decide +kernel)
theorem g271 : Cond.native ⟨"java/lang/Throwable", "fillInStackTrace", "(I)Ljava/lang/Throwable;"⟩ ∈ Gw := Gw_of 271 (by decide +kernel) (by decide +kernel)
theorem g272 : Cond.methodLink "PledgeHouse" 324 ⟨"java/lang/IndexOutOfBoundsException", "<init>", "()V"⟩ ∈ Gw := Gw_of 272 (by decide +kernel) (by decide +kernel)
theorem g273 : Cond.instanceMethod ⟨"java/lang/IndexOutOfBoundsException", "<init>", "()V"⟩ ∈ Gw := Gw_of 273 (by decide +kernel) (by decide +kernel)
theorem g274 : Cond.code ⟨"java/lang/IndexOutOfBoundsException", "<init>", "()V"⟩ prog_10_method_1_code 1 (Option.none : Option Jvm.ClassFile.FieldType) ∈ Gw := Gw_of 274 (by decide +kernel) (by decide +kernel)
theorem g275 : Cond.methodLink "java/lang/IndexOutOfBoundsException" 1 ⟨"java/lang/RuntimeException", "<init>", "()V"⟩ ∈ Gw := Gw_of 275 (by decide +kernel) (by decide +kernel)
theorem g276 : Cond.instanceMethod ⟨"java/lang/RuntimeException", "<init>", "()V"⟩ ∈ Gw := Gw_of 276 (by decide +kernel) (by decide +kernel)
theorem g277 : Cond.code ⟨"java/lang/RuntimeException", "<init>", "()V"⟩ prog_11_method_1_code 1 (Option.none : Option Jvm.ClassFile.FieldType) ∈ Gw := Gw_of 277 (by decide +kernel) (by decide +kernel)
theorem g278 : Cond.methodLink "java/lang/RuntimeException" 1 ⟨"java/lang/Exception", "<init>", "()V"⟩ ∈ Gw := Gw_of 278 (by decide +kernel) (by decide +kernel)
theorem g279 : Cond.instanceMethod ⟨"java/lang/Exception", "<init>", "()V"⟩ ∈ Gw := Gw_of 279 (by decide +kernel) (by decide +kernel)
theorem g280 : Cond.code ⟨"java/lang/Exception", "<init>", "()V"⟩ prog_7_method_1_code 1 (Option.none : Option Jvm.ClassFile.FieldType) ∈ Gw := Gw_of 280 (by decide +kernel) (by decide +kernel)
theorem g281 : Cond.methodLink "java/lang/Exception" 1 ⟨"java/lang/Throwable", "<init>", "()V"⟩ ∈ Gw := Gw_of 281 (by decide +kernel) (by decide +kernel)
theorem g282 : Cond.fieldLink "java/lang/Throwable" 198 "java/lang/Throwable" "backtrace" "Ljava/lang/Object;" ∈ Gw := Gw_of 282 (by decide +kernel) (by decide +kernel)
theorem g283 : Cond.fieldLink "java/lang/Throwable" 7 "java/lang/Throwable" "cause" "Ljava/lang/Throwable;" ∈ Gw := Gw_of 283 (by decide +kernel) (by decide +kernel)
theorem g284 : Cond.fieldLink "java/lang/Throwable" 17 "java/lang/Throwable" "stackTrace" "[Ljava/lang/StackTraceElement;" ∈ Gw := Gw_of 284 (by decide +kernel) (by decide +kernel)
theorem g285 : Cond.fieldLink "java/lang/Throwable" 24 "java/lang/Throwable" "suppressedExceptions" "Ljava/util/List;" ∈ Gw := Gw_of 285 (by decide +kernel) (by decide +kernel)
theorem g294 : Cond.methodLink "PledgeHouse" 52 yX3_needRange ∈ Gw := Gw_of 294 (by decide +kernel) (by decide +kernel)
theorem g295 : Cond.static yX3_needRange ∈ Gw := Gw_of 295 (by decide +kernel) (by decide +kernel)
theorem g296 : Cond.code yX3_needRange prog_1_method_79_code 3 (Option.none : Option Jvm.ClassFile.FieldType) ∈ Gw := Gw_of 296 (by decide +kernel) (by decide +kernel)
theorem g297 : Cond.classLink "PledgeHouse" 154 "java/lang/IllegalArgumentException" ∈ Gw := Gw_of 297 (by decide +kernel) (by decide +kernel)
theorem g298 : Cond.instantiable "java/lang/IllegalArgumentException" 6 ∈ Gw := Gw_of 298 (by decide +kernel) (by decide +kernel)
theorem g300 : Cond.selects "java/lang/IllegalArgumentException" ⟨"java/lang/Throwable", "fillInStackTrace", "(I)Ljava/lang/Throwable;"⟩ ⟨"java/lang/Throwable", "fillInStackTrace", "(I)Ljava/lang/Throwable;"⟩ ∈ Gw := Gw_of 300 (by decide +kernel) (by decide +kernel)
theorem g306 : Cond.methodLink "PledgeHouse" 156 ⟨"java/lang/IllegalArgumentException", "<init>", "()V"⟩ ∈ Gw := Gw_of 306 (by decide +kernel) (by decide +kernel)
theorem g307 : Cond.instanceMethod ⟨"java/lang/IllegalArgumentException", "<init>", "()V"⟩ ∈ Gw := Gw_of 307 (by decide +kernel) (by decide +kernel)
theorem g308 : Cond.code ⟨"java/lang/IllegalArgumentException", "<init>", "()V"⟩ prog_8_method_1_code 1 (Option.none : Option Jvm.ClassFile.FieldType) ∈ Gw := Gw_of 308 (by decide +kernel) (by decide +kernel)
theorem g309 : Cond.methodLink "java/lang/IllegalArgumentException" 1 ⟨"java/lang/RuntimeException", "<init>", "()V"⟩ ∈ Gw := Gw_of 309 (by decide +kernel) (by decide +kernel)
theorem g312 : Cond.methodLink "PledgeHouse" 56 yX3_save ∈ Gw := Gw_of 312 (by decide +kernel) (by decide +kernel)
theorem g314 : Cond.instanceMethod yX3_save ∈ Gw := Gw_of 314 (by decide +kernel) (by decide +kernel)
theorem g315 : Cond.code yX3_save prog_1_method_72_code 1 (Option.none : Option Jvm.ClassFile.FieldType) ∈ Gw := Gw_of 315 (by decide +kernel) (by decide +kernel)
theorem g316 : Cond.methodLink "PledgeHouse" 73 yX0_copyFrom ∈ Gw := Gw_of 316 (by decide +kernel) (by decide +kernel)
theorem g317 : Cond.instanceMethod yX0_copyFrom ∈ Gw := Gw_of 317 (by decide +kernel) (by decide +kernel)
theorem g318 : Cond.selects "PledgeHouse$Ledger" yX0_copyFrom yX0_copyFrom ∈ Gw := Gw_of 318 (by decide +kernel) (by decide +kernel)
theorem g319 : Cond.code yX0_copyFrom prog_2_method_2_code 2 (Option.none : Option Jvm.ClassFile.FieldType) ∈ Gw := Gw_of 319 (by decide +kernel) (by decide +kernel)
theorem g320 : Cond.methodLink "PledgeHouse$Ledger" 56 ⟨"java/lang/System", "arraycopy", "(Ljava/lang/Object;ILjava/lang/Object;II)V"⟩ ∈ Gw := Gw_of 320 (by decide +kernel) (by decide +kernel)
theorem g321 : Cond.static ⟨"java/lang/System", "arraycopy", "(Ljava/lang/Object;ILjava/lang/Object;II)V"⟩ ∈ Gw := Gw_of 321 (by decide +kernel) (by decide +kernel)
theorem g322 : Cond.native ⟨"java/lang/System", "arraycopy", "(Ljava/lang/Object;ILjava/lang/Object;II)V"⟩ ∈ Gw := Gw_of 322 (by decide +kernel) (by decide +kernel)
theorem g323 : Cond.methodLink "PledgeHouse" 85 yX3_saveBefore ∈ Gw := Gw_of 323 (by decide +kernel) (by decide +kernel)
theorem g325 : Cond.instanceMethod yX3_saveBefore ∈ Gw := Gw_of 325 (by decide +kernel) (by decide +kernel)
theorem g326 : Cond.code yX3_saveBefore prog_1_method_73_code 3 (Option.none : Option Jvm.ClassFile.FieldType) ∈ Gw := Gw_of 326 (by decide +kernel) (by decide +kernel)
theorem g327 : Cond.methodLink "PledgeHouse" 59 yX0_putPrice ∈ Gw := Gw_of 327 (by decide +kernel) (by decide +kernel)
theorem g328 : Cond.instanceMethod yX0_putPrice ∈ Gw := Gw_of 328 (by decide +kernel) (by decide +kernel)
theorem g329 : Cond.selects "PledgeHouse$Ledger" yX0_putPrice yX0_putPrice ∈ Gw := Gw_of 329 (by decide +kernel) (by decide +kernel)
theorem g330 : Cond.code yX0_putPrice prog_2_method_23_code 3 (Option.some Jvm.ClassFile.FieldType.int) ∈ Gw := Gw_of 330 (by decide +kernel) (by decide +kernel)
theorem g331 : Cond.methodLink "PledgeHouse$Ledger" 116 yX0_lookAtClients ∈ Gw := Gw_of 331 (by decide +kernel) (by decide +kernel)
theorem g332 : Cond.instanceMethod yX0_lookAtClients ∈ Gw := Gw_of 332 (by decide +kernel) (by decide +kernel)
theorem g333 : Cond.selects "PledgeHouse$Ledger" yX0_lookAtClients yX0_lookAtClients ∈ Gw := Gw_of 333 (by decide +kernel) (by decide +kernel)
theorem g334 : Cond.code yX0_lookAtClients prog_2_method_22_code 3 (Option.some Jvm.ClassFile.FieldType.int) ∈ Gw := Gw_of 334 (by decide +kernel) (by decide +kernel)
theorem g335 : Cond.methodLink "PledgeHouse$Ledger" 94 yX0_cover ∈ Gw := Gw_of 335 (by decide +kernel) (by decide +kernel)
theorem g336 : Cond.instanceMethod yX0_cover ∈ Gw := Gw_of 336 (by decide +kernel) (by decide +kernel)
theorem g337 : Cond.selects "PledgeHouse$Ledger" yX0_cover yX0_cover ∈ Gw := Gw_of 337 (by decide +kernel) (by decide +kernel)
theorem g338 : Cond.code yX0_cover prog_2_method_4_code 2 (Option.some Jvm.ClassFile.FieldType.int) ∈ Gw := Gw_of 338 (by decide +kernel) (by decide +kernel)
theorem g339 : Cond.methodLink "PledgeHouse$Ledger" 87 yX0_coverAfterFall ∈ Gw := Gw_of 339 (by decide +kernel) (by decide +kernel)
theorem g340 : Cond.instanceMethod yX0_coverAfterFall ∈ Gw := Gw_of 340 (by decide +kernel) (by decide +kernel)
theorem g341 : Cond.selects "PledgeHouse$Ledger" yX0_coverAfterFall yX0_coverAfterFall ∈ Gw := Gw_of 341 (by decide +kernel) (by decide +kernel)
theorem g342 : Cond.code yX0_coverAfterFall prog_2_method_5_code 6 (Option.some Jvm.ClassFile.FieldType.int) ∈ Gw := Gw_of 342 (by decide +kernel) (by decide +kernel)
theorem g344 : Cond.static yX3_at ∈ Gw := Gw_of 344 (by decide +kernel) (by decide +kernel)
theorem g345 : Cond.code yX3_at prog_1_method_74_code 2 (Option.some Jvm.ClassFile.FieldType.int) ∈ Gw := Gw_of 345 (by decide +kernel) (by decide +kernel)
theorem g347 : Cond.static yX3_fallen ∈ Gw := Gw_of 347 (by decide +kernel) (by decide +kernel)
theorem g348 : Cond.code yX3_fallen prog_1_method_75_code 4 (Option.some Jvm.ClassFile.FieldType.int) ∈ Gw := Gw_of 348 (by decide +kernel) (by decide +kernel)
theorem g349 : Cond.methodLink "PledgeHouseLaw" 23 yX3_priceOf ∈ Gw := Gw_of 349 (by decide +kernel) (by decide +kernel)
theorem g350 : Cond.instanceMethod yX3_priceOf ∈ Gw := Gw_of 350 (by decide +kernel) (by decide +kernel)
theorem g351 : Cond.selects "PledgeHouse" yX3_priceOf yX3_priceOf ∈ Gw := Gw_of 351 (by decide +kernel) (by decide +kernel)
theorem g352 : Cond.code yX3_priceOf prog_1_method_25_code 2 (Option.some Jvm.ClassFile.FieldType.int) ∈ Gw := Gw_of 352 (by decide +kernel) (by decide +kernel)
theorem g353 : Cond.methodLink "PledgeHouseLaw" 27 yX3_setCut ∈ Gw := Gw_of 353 (by decide +kernel) (by decide +kernel)
theorem g354 : Cond.instanceMethod yX3_setCut ∈ Gw := Gw_of 354 (by decide +kernel) (by decide +kernel)
theorem g355 : Cond.selects "PledgeHouse" yX3_setCut yX3_setCut ∈ Gw := Gw_of 355 (by decide +kernel) (by decide +kernel)
theorem g356 : Cond.code yX3_setCut prog_1_method_3_code 3 (Option.some Jvm.ClassFile.FieldType.int) ∈ Gw := Gw_of 356 (by decide +kernel) (by decide +kernel)
theorem g357 : Cond.methodLink "PledgeHouse" 63 yX0_putCut ∈ Gw := Gw_of 357 (by decide +kernel) (by decide +kernel)
theorem g358 : Cond.instanceMethod yX0_putCut ∈ Gw := Gw_of 358 (by decide +kernel) (by decide +kernel)
theorem g359 : Cond.selects "PledgeHouse$Ledger" yX0_putCut yX0_putCut ∈ Gw := Gw_of 359 (by decide +kernel) (by decide +kernel)
theorem g360 : Cond.code yX0_putCut prog_2_method_24_code 3 (Option.some Jvm.ClassFile.FieldType.int) ∈ Gw := Gw_of 360 (by decide +kernel) (by decide +kernel)
theorem g361 : Cond.methodLink "PledgeHouseLaw" 30 yX3_cutOf ∈ Gw := Gw_of 361 (by decide +kernel) (by decide +kernel)
theorem g362 : Cond.instanceMethod yX3_cutOf ∈ Gw := Gw_of 362 (by decide +kernel) (by decide +kernel)
theorem g363 : Cond.selects "PledgeHouse" yX3_cutOf yX3_cutOf ∈ Gw := Gw_of 363 (by decide +kernel) (by decide +kernel)
theorem g364 : Cond.code yX3_cutOf prog_1_method_26_code 2 (Option.some Jvm.ClassFile.FieldType.int) ∈ Gw := Gw_of 364 (by decide +kernel) (by decide +kernel)
theorem g365 : Cond.methodLink "PledgeHouseLaw" 33 yX3_calledIfFallen ∈ Gw := Gw_of 365 (by decide +kernel) (by decide +kernel)
theorem g366 : Cond.instanceMethod yX3_calledIfFallen ∈ Gw := Gw_of 366 (by decide +kernel) (by decide +kernel)
theorem g367 : Cond.selects "PledgeHouse" yX3_calledIfFallen yX3_calledIfFallen ∈ Gw := Gw_of 367 (by decide +kernel) (by decide +kernel)
theorem g368 : Cond.code yX3_calledIfFallen prog_1_method_51_code 2 (Option.some Jvm.ClassFile.FieldType.int) ∈ Gw := Gw_of 368 (by decide +kernel) (by decide +kernel)
theorem g369 : Cond.methodLink "PledgeHouse" 234 yX0_countUncoveredAfterFall ∈ Gw := Gw_of 369 (by decide +kernel) (by decide +kernel)
theorem g370 : Cond.instanceMethod yX0_countUncoveredAfterFall ∈ Gw := Gw_of 370 (by decide +kernel) (by decide +kernel)
theorem g371 : Cond.selects "PledgeHouse$Ledger" yX0_countUncoveredAfterFall yX0_countUncoveredAfterFall ∈ Gw := Gw_of 371 (by decide +kernel) (by decide +kernel)
theorem g372 : Cond.code yX0_countUncoveredAfterFall prog_2_method_13_code 4 (Option.some Jvm.ClassFile.FieldType.int) ∈ Gw := Gw_of 372 (by decide +kernel) (by decide +kernel)
theorem g373 : Cond.methodLink "PledgeHouse$Ledger" 102 yX0_staysCovered ∈ Gw := Gw_of 373 (by decide +kernel) (by decide +kernel)
theorem g374 : Cond.instanceMethod yX0_staysCovered ∈ Gw := Gw_of 374 (by decide +kernel) (by decide +kernel)
theorem g375 : Cond.selects "PledgeHouse$Ledger" yX0_staysCovered yX0_staysCovered ∈ Gw := Gw_of 375 (by decide +kernel) (by decide +kernel)
theorem g376 : Cond.code yX0_staysCovered prog_2_method_6_code 4 (Option.some Jvm.ClassFile.FieldType.boolean) ∈ Gw := Gw_of 376 (by decide +kernel) (by decide +kernel)
theorem g377 : Cond.methodLink "PledgeHouseLaw" 36 yX3_fall ∈ Gw := Gw_of 377 (by decide +kernel) (by decide +kernel)
theorem g378 : Cond.instanceMethod yX3_fall ∈ Gw := Gw_of 378 (by decide +kernel) (by decide +kernel)
theorem g379 : Cond.selects "PledgeHouse" yX3_fall yX3_fall ∈ Gw := Gw_of 379 (by decide +kernel) (by decide +kernel)
theorem g380 : Cond.code yX3_fall prog_1_method_4_code 2 (Option.some Jvm.ClassFile.FieldType.int) ∈ Gw := Gw_of 380 (by decide +kernel) (by decide +kernel)
theorem g381 : Cond.methodLink "PledgeHouse" 66 yX0_dropPrices ∈ Gw := Gw_of 381 (by decide +kernel) (by decide +kernel)
theorem g382 : Cond.instanceMethod yX0_dropPrices ∈ Gw := Gw_of 382 (by decide +kernel) (by decide +kernel)
theorem g383 : Cond.selects "PledgeHouse$Ledger" yX0_dropPrices yX0_dropPrices ∈ Gw := Gw_of 383 (by decide +kernel) (by decide +kernel)
theorem g384 : Cond.code yX0_dropPrices prog_2_method_25_code 3 (Option.some Jvm.ClassFile.FieldType.int) ∈ Gw := Gw_of 384 (by decide +kernel) (by decide +kernel)
theorem g385 : Cond.methodLink "PledgeHouseLaw" 39 yX3_calledNow ∈ Gw := Gw_of 385 (by decide +kernel) (by decide +kernel)
theorem g386 : Cond.instanceMethod yX3_calledNow ∈ Gw := Gw_of 386 (by decide +kernel) (by decide +kernel)
theorem g387 : Cond.selects "PledgeHouse" yX3_calledNow yX3_calledNow ∈ Gw := Gw_of 387 (by decide +kernel) (by decide +kernel)
theorem g388 : Cond.code yX3_calledNow prog_1_method_41_code 1 (Option.some Jvm.ClassFile.FieldType.int) ∈ Gw := Gw_of 388 (by decide +kernel) (by decide +kernel)
theorem g389 : Cond.methodLink "PledgeHouse" 169 yX0_countCalled ∈ Gw := Gw_of 389 (by decide +kernel) (by decide +kernel)
theorem g390 : Cond.instanceMethod yX0_countCalled ∈ Gw := Gw_of 390 (by decide +kernel) (by decide +kernel)
theorem g391 : Cond.selects "PledgeHouse$Ledger" yX0_countCalled yX0_countCalled ∈ Gw := Gw_of 391 (by decide +kernel) (by decide +kernel)
theorem g392 : Cond.code yX0_countCalled prog_2_method_12_code 3 (Option.some Jvm.ClassFile.FieldType.int) ∈ Gw := Gw_of 392 (by decide +kernel) (by decide +kernel)
theorem g393 : Cond.methodLink "PledgeHouseLaw" 42 yX3_piecesOf ∈ Gw := Gw_of 393 (by decide +kernel) (by decide +kernel)
theorem g394 : Cond.instanceMethod yX3_piecesOf ∈ Gw := Gw_of 394 (by decide +kernel) (by decide +kernel)
theorem g395 : Cond.selects "PledgeHouse" yX3_piecesOf yX3_piecesOf ∈ Gw := Gw_of 395 (by decide +kernel) (by decide +kernel)
theorem g396 : Cond.code yX3_piecesOf prog_1_method_29_code 3 (Option.some Jvm.ClassFile.FieldType.int) ∈ Gw := Gw_of 396 (by decide +kernel) (by decide +kernel)
theorem g397 : Cond.methodLink "PledgeHouse" 70 yX3_needClient ∈ Gw := Gw_of 397 (by decide +kernel) (by decide +kernel)
theorem g398 : Cond.static yX3_needClient ∈ Gw := Gw_of 398 (by decide +kernel) (by decide +kernel)
theorem g399 : Cond.code yX3_needClient prog_1_method_77_code 1 (Option.none : Option Jvm.ClassFile.FieldType) ∈ Gw := Gw_of 399 (by decide +kernel) (by decide +kernel)
theorem g400 : Cond.methodLink "PledgeHouse" 91 yX3_at ∈ Gw := Gw_of 400 (by decide +kernel) (by decide +kernel)
theorem g401 : Cond.methodLink "PledgeHouseLaw" 45 yX3_coverOf ∈ Gw := Gw_of 401 (by decide +kernel) (by decide +kernel)
theorem g402 : Cond.instanceMethod yX3_coverOf ∈ Gw := Gw_of 402 (by decide +kernel) (by decide +kernel)
theorem g403 : Cond.selects "PledgeHouse" yX3_coverOf yX3_coverOf ∈ Gw := Gw_of 403 (by decide +kernel) (by decide +kernel)
theorem g404 : Cond.code yX3_coverOf prog_1_method_33_code 2 (Option.some Jvm.ClassFile.FieldType.int) ∈ Gw := Gw_of 404 (by decide +kernel) (by decide +kernel)
theorem g405 : Cond.methodLink "PledgeHouse" 190 yX0_cover ∈ Gw := Gw_of 405 (by decide +kernel) (by decide +kernel)
theorem g406 : Cond.methodLink "PledgeHouseLaw" 48 yX3_pledge ∈ Gw := Gw_of 406 (by decide +kernel) (by decide +kernel)
theorem g407 : Cond.instanceMethod yX3_pledge ∈ Gw := Gw_of 407 (by decide +kernel) (by decide +kernel)
theorem g408 : Cond.selects "PledgeHouse" yX3_pledge yX3_pledge ∈ Gw := Gw_of 408 (by decide +kernel) (by decide +kernel)
theorem g409 : Cond.code yX3_pledge prog_1_method_5_code 4 (Option.some Jvm.ClassFile.FieldType.int) ∈ Gw := Gw_of 409 (by decide +kernel) (by decide +kernel)
theorem g410 : Cond.methodLink "PledgeHouse" 77 yX0_addPieces ∈ Gw := Gw_of 410 (by decide +kernel) (by decide +kernel)
theorem g411 : Cond.instanceMethod yX0_addPieces ∈ Gw := Gw_of 411 (by decide +kernel) (by decide +kernel)
theorem g412 : Cond.selects "PledgeHouse$Ledger" yX0_addPieces yX0_addPieces ∈ Gw := Gw_of 412 (by decide +kernel) (by decide +kernel)
theorem g413 : Cond.code yX0_addPieces prog_2_method_26_code 5 (Option.some Jvm.ClassFile.FieldType.boolean) ∈ Gw := Gw_of 413 (by decide +kernel) (by decide +kernel)
theorem g414 : Cond.methodLink "PledgeHouse" 81 yX3_need ∈ Gw := Gw_of 414 (by decide +kernel) (by decide +kernel)
theorem g415 : Cond.static yX3_need ∈ Gw := Gw_of 415 (by decide +kernel) (by decide +kernel)
theorem g416 : Cond.code yX3_need prog_1_method_80_code 1 (Option.none : Option Jvm.ClassFile.FieldType) ∈ Gw := Gw_of 416 (by decide +kernel) (by decide +kernel)
theorem g417 : Cond.classLink "PledgeHouse" 140 "java/lang/IllegalStateException" ∈ Gw := Gw_of 417 (by decide +kernel) (by decide +kernel)
theorem g418 : Cond.instantiable "java/lang/IllegalStateException" 6 ∈ Gw := Gw_of 418 (by decide +kernel) (by decide +kernel)
theorem g420 : Cond.selects "java/lang/IllegalStateException" ⟨"java/lang/Throwable", "fillInStackTrace", "(I)Ljava/lang/Throwable;"⟩ ⟨"java/lang/Throwable", "fillInStackTrace", "(I)Ljava/lang/Throwable;"⟩ ∈ Gw := Gw_of 420 (by decide +kernel) (by decide +kernel)
theorem g426 : Cond.methodLink "PledgeHouse" 142 ⟨"java/lang/IllegalStateException", "<init>", "()V"⟩ ∈ Gw := Gw_of 426 (by decide +kernel) (by decide +kernel)
theorem g427 : Cond.instanceMethod ⟨"java/lang/IllegalStateException", "<init>", "()V"⟩ ∈ Gw := Gw_of 427 (by decide +kernel) (by decide +kernel)
theorem g428 : Cond.code ⟨"java/lang/IllegalStateException", "<init>", "()V"⟩ prog_9_method_1_code 1 (Option.none : Option Jvm.ClassFile.FieldType) ∈ Gw := Gw_of 428 (by decide +kernel) (by decide +kernel)
theorem g429 : Cond.methodLink "java/lang/IllegalStateException" 1 ⟨"java/lang/RuntimeException", "<init>", "()V"⟩ ∈ Gw := Gw_of 429 (by decide +kernel) (by decide +kernel)
theorem g432 : Cond.methodLink "PledgeHouseLaw" 52 yX3_coinsOf ∈ Gw := Gw_of 432 (by decide +kernel) (by decide +kernel)
theorem g433 : Cond.instanceMethod yX3_coinsOf ∈ Gw := Gw_of 433 (by decide +kernel) (by decide +kernel)
theorem g434 : Cond.selects "PledgeHouse" yX3_coinsOf yX3_coinsOf ∈ Gw := Gw_of 434 (by decide +kernel) (by decide +kernel)
theorem g435 : Cond.code yX3_coinsOf prog_1_method_30_code 2 (Option.some Jvm.ClassFile.FieldType.int) ∈ Gw := Gw_of 435 (by decide +kernel) (by decide +kernel)
theorem g436 : Cond.methodLink "PledgeHouseLaw" 55 yL_much ∈ Gw := Gw_of 436 (by decide +kernel) (by decide +kernel)
theorem g437 : Cond.static yL_much ∈ Gw := Gw_of 437 (by decide +kernel) (by decide +kernel)
theorem g438 : Cond.code yL_much method_4_code 1 (Option.some Jvm.ClassFile.FieldType.int) ∈ Gw := Gw_of 438 (by decide +kernel) (by decide +kernel)
theorem g439 : Cond.constant "PledgeHouseLaw" 58 (99999 : Int32) ∈ Gw := Gw_of 439 (by decide +kernel) (by decide +kernel)
theorem g440 : Cond.methodLink "PledgeHouseLaw" 59 yX3_deposit ∈ Gw := Gw_of 440 (by decide +kernel) (by decide +kernel)
theorem g441 : Cond.instanceMethod yX3_deposit ∈ Gw := Gw_of 441 (by decide +kernel) (by decide +kernel)
end
section
theorem g442 : Cond.selects "PledgeHouse" yX3_deposit yX3_deposit ∈ Gw := Gw_of 442 (by decide +kernel) (by decide +kernel)
theorem g443 : Cond.code yX3_deposit prog_1_method_7_code 3 (Option.some Jvm.ClassFile.FieldType.int) ∈ Gw := Gw_of 443 (by decide +kernel) (by decide +kernel)
theorem g444 : Cond.methodLink "PledgeHouse" 97 yX0_addCoins ∈ Gw := Gw_of 444 (by decide +kernel) (by decide +kernel)
theorem g445 : Cond.instanceMethod yX0_addCoins ∈ Gw := Gw_of 445 (by decide +kernel) (by decide +kernel)
theorem g446 : Cond.selects "PledgeHouse$Ledger" yX0_addCoins yX0_addCoins ∈ Gw := Gw_of 446 (by decide +kernel) (by decide +kernel)
theorem g447 : Cond.code yX0_addCoins prog_2_method_28_code 3 (Option.some Jvm.ClassFile.FieldType.boolean) ∈ Gw := Gw_of 447 (by decide +kernel) (by decide +kernel)
theorem g448 : Cond.constant "PledgeHouse$Ledger" 120 (99999 : Int32) ∈ Gw := Gw_of 448 (by decide +kernel) (by decide +kernel)
theorem g449 : Cond.methodLink "PledgeHouseLaw" 62 yX3_debtOf ∈ Gw := Gw_of 449 (by decide +kernel) (by decide +kernel)
theorem g450 : Cond.instanceMethod yX3_debtOf ∈ Gw := Gw_of 450 (by decide +kernel) (by decide +kernel)
theorem g451 : Cond.selects "PledgeHouse" yX3_debtOf yX3_debtOf ∈ Gw := Gw_of 451 (by decide +kernel) (by decide +kernel)
theorem g452 : Cond.code yX3_debtOf prog_1_method_31_code 2 (Option.some Jvm.ClassFile.FieldType.int) ∈ Gw := Gw_of 452 (by decide +kernel) (by decide +kernel)
theorem g453 : Cond.methodLink "PledgeHouseLaw" 65 yX3_release ∈ Gw := Gw_of 453 (by decide +kernel) (by decide +kernel)
theorem g454 : Cond.instanceMethod yX3_release ∈ Gw := Gw_of 454 (by decide +kernel) (by decide +kernel)
theorem g455 : Cond.selects "PledgeHouse" yX3_release yX3_release ∈ Gw := Gw_of 455 (by decide +kernel) (by decide +kernel)
theorem g456 : Cond.code yX3_release prog_1_method_6_code 4 (Option.some Jvm.ClassFile.FieldType.int) ∈ Gw := Gw_of 456 (by decide +kernel) (by decide +kernel)
theorem g457 : Cond.methodLink "PledgeHouse" 94 yX0_takePieces ∈ Gw := Gw_of 457 (by decide +kernel) (by decide +kernel)
theorem g458 : Cond.instanceMethod yX0_takePieces ∈ Gw := Gw_of 458 (by decide +kernel) (by decide +kernel)
theorem g459 : Cond.selects "PledgeHouse$Ledger" yX0_takePieces yX0_takePieces ∈ Gw := Gw_of 459 (by decide +kernel) (by decide +kernel)
theorem g460 : Cond.code yX0_takePieces prog_2_method_27_code 5 (Option.some Jvm.ClassFile.FieldType.boolean) ∈ Gw := Gw_of 460 (by decide +kernel) (by decide +kernel)
theorem g461 : Cond.methodLink "PledgeHouseLaw" 68 yX3_isCalled ∈ Gw := Gw_of 461 (by decide +kernel) (by decide +kernel)
theorem g462 : Cond.instanceMethod yX3_isCalled ∈ Gw := Gw_of 462 (by decide +kernel) (by decide +kernel)
theorem g463 : Cond.selects "PledgeHouse" yX3_isCalled yX3_isCalled ∈ Gw := Gw_of 463 (by decide +kernel) (by decide +kernel)
theorem g464 : Cond.code yX3_isCalled prog_1_method_35_code 2 (Option.some Jvm.ClassFile.FieldType.boolean) ∈ Gw := Gw_of 464 (by decide +kernel) (by decide +kernel)
theorem g465 : Cond.methodLink "PledgeHouseLaw" 72 yL_isLent ∈ Gw := Gw_of 465 (by decide +kernel) (by decide +kernel)
theorem g466 : Cond.static yL_isLent ∈ Gw := Gw_of 466 (by decide +kernel) (by decide +kernel)
theorem g467 : Cond.code yL_isLent method_6_code 7 (Option.some Jvm.ClassFile.FieldType.boolean) ∈ Gw := Gw_of 467 (by decide +kernel) (by decide +kernel)
theorem g468 : Cond.methodLink "PledgeHouseLaw" 98 yX3_roomOf ∈ Gw := Gw_of 468 (by decide +kernel) (by decide +kernel)
theorem g469 : Cond.instanceMethod yX3_roomOf ∈ Gw := Gw_of 469 (by decide +kernel) (by decide +kernel)
theorem g470 : Cond.selects "PledgeHouse" yX3_roomOf yX3_roomOf ∈ Gw := Gw_of 470 (by decide +kernel) (by decide +kernel)
theorem g471 : Cond.code yX3_roomOf prog_1_method_34_code 2 (Option.some Jvm.ClassFile.FieldType.int) ∈ Gw := Gw_of 471 (by decide +kernel) (by decide +kernel)
theorem g472 : Cond.methodLink "PledgeHouse" 193 yX0_openRoom ∈ Gw := Gw_of 472 (by decide +kernel) (by decide +kernel)
theorem g473 : Cond.instanceMethod yX0_openRoom ∈ Gw := Gw_of 473 (by decide +kernel) (by decide +kernel)
theorem g474 : Cond.selects "PledgeHouse$Ledger" yX0_openRoom yX0_openRoom ∈ Gw := Gw_of 474 (by decide +kernel) (by decide +kernel)
theorem g475 : Cond.code yX0_openRoom prog_2_method_7_code 3 (Option.some Jvm.ClassFile.FieldType.int) ∈ Gw := Gw_of 475 (by decide +kernel) (by decide +kernel)
theorem g476 : Cond.methodLink "PledgeHouseLaw" 101 yX3_lent ∈ Gw := Gw_of 476 (by decide +kernel) (by decide +kernel)
theorem g477 : Cond.instanceMethod yX3_lent ∈ Gw := Gw_of 477 (by decide +kernel) (by decide +kernel)
theorem g478 : Cond.selects "PledgeHouse" yX3_lent yX3_lent ∈ Gw := Gw_of 478 (by decide +kernel) (by decide +kernel)
theorem g479 : Cond.code yX3_lent prog_1_method_55_code 1 (Option.some Jvm.ClassFile.FieldType.int) ∈ Gw := Gw_of 479 (by decide +kernel) (by decide +kernel)
theorem g480 : Cond.methodLink "PledgeHouseLaw" 104 yX3_lend ∈ Gw := Gw_of 480 (by decide +kernel) (by decide +kernel)
theorem g481 : Cond.instanceMethod yX3_lend ∈ Gw := Gw_of 481 (by decide +kernel) (by decide +kernel)
theorem g482 : Cond.selects "PledgeHouse" yX3_lend yX3_lend ∈ Gw := Gw_of 482 (by decide +kernel) (by decide +kernel)
theorem g483 : Cond.code yX3_lend prog_1_method_9_code 3 (Option.some Jvm.ClassFile.FieldType.int) ∈ Gw := Gw_of 483 (by decide +kernel) (by decide +kernel)
theorem g484 : Cond.methodLink "PledgeHouse" 107 yX0_addDebt ∈ Gw := Gw_of 484 (by decide +kernel) (by decide +kernel)
theorem g485 : Cond.instanceMethod yX0_addDebt ∈ Gw := Gw_of 485 (by decide +kernel) (by decide +kernel)
theorem g486 : Cond.selects "PledgeHouse$Ledger" yX0_addDebt yX0_addDebt ∈ Gw := Gw_of 486 (by decide +kernel) (by decide +kernel)
theorem g487 : Cond.code yX0_addDebt prog_2_method_30_code 3 (Option.some Jvm.ClassFile.FieldType.boolean) ∈ Gw := Gw_of 487 (by decide +kernel) (by decide +kernel)
theorem g488 : Cond.methodLink "PledgeHouseLaw" 76 yX3_payBack ∈ Gw := Gw_of 488 (by decide +kernel) (by decide +kernel)
theorem g489 : Cond.instanceMethod yX3_payBack ∈ Gw := Gw_of 489 (by decide +kernel) (by decide +kernel)
theorem g490 : Cond.selects "PledgeHouse" yX3_payBack yX3_payBack ∈ Gw := Gw_of 490 (by decide +kernel) (by decide +kernel)
theorem g491 : Cond.code yX3_payBack prog_1_method_10_code 4 (Option.some Jvm.ClassFile.FieldType.int) ∈ Gw := Gw_of 491 (by decide +kernel) (by decide +kernel)
theorem g492 : Cond.methodLink "PledgeHouse" 113 yX0_takeDebt ∈ Gw := Gw_of 492 (by decide +kernel) (by decide +kernel)
theorem g493 : Cond.instanceMethod yX0_takeDebt ∈ Gw := Gw_of 493 (by decide +kernel) (by decide +kernel)
theorem g494 : Cond.selects "PledgeHouse$Ledger" yX0_takeDebt yX0_takeDebt ∈ Gw := Gw_of 494 (by decide +kernel) (by decide +kernel)
theorem g495 : Cond.code yX0_takeDebt prog_2_method_31_code 4 (Option.some Jvm.ClassFile.FieldType.int) ∈ Gw := Gw_of 495 (by decide +kernel) (by decide +kernel)
theorem g496 : Cond.methodLink "PledgeHouseLaw" 79 yX3_changeRate ∈ Gw := Gw_of 496 (by decide +kernel) (by decide +kernel)
theorem g497 : Cond.instanceMethod yX3_changeRate ∈ Gw := Gw_of 497 (by decide +kernel) (by decide +kernel)
theorem g498 : Cond.selects "PledgeHouse" yX3_changeRate yX3_changeRate ∈ Gw := Gw_of 498 (by decide +kernel) (by decide +kernel)
theorem g499 : Cond.code yX3_changeRate prog_1_method_13_code 3 (Option.some Jvm.ClassFile.FieldType.int) ∈ Gw := Gw_of 499 (by decide +kernel) (by decide +kernel)
theorem g500 : Cond.methodLink "PledgeHouseLaw" 82 yX3_changeGrace ∈ Gw := Gw_of 500 (by decide +kernel) (by decide +kernel)
theorem g501 : Cond.instanceMethod yX3_changeGrace ∈ Gw := Gw_of 501 (by decide +kernel) (by decide +kernel)
theorem g502 : Cond.selects "PledgeHouse" yX3_changeGrace yX3_changeGrace ∈ Gw := Gw_of 502 (by decide +kernel) (by decide +kernel)
theorem g503 : Cond.code yX3_changeGrace prog_1_method_14_code 3 (Option.some Jvm.ClassFile.FieldType.int) ∈ Gw := Gw_of 503 (by decide +kernel) (by decide +kernel)
theorem g504 : Cond.methodLink "PledgeHouseLaw" 85 yX3_changeSlip ∈ Gw := Gw_of 504 (by decide +kernel) (by decide +kernel)
theorem g505 : Cond.instanceMethod yX3_changeSlip ∈ Gw := Gw_of 505 (by decide +kernel) (by decide +kernel)
theorem g506 : Cond.selects "PledgeHouse" yX3_changeSlip yX3_changeSlip ∈ Gw := Gw_of 506 (by decide +kernel) (by decide +kernel)
theorem g507 : Cond.code yX3_changeSlip prog_1_method_15_code 3 (Option.some Jvm.ClassFile.FieldType.int) ∈ Gw := Gw_of 507 (by decide +kernel) (by decide +kernel)
theorem g508 : Cond.methodLink "PledgeHouseLaw" 88 yX3_turnOrder ∈ Gw := Gw_of 508 (by decide +kernel) (by decide +kernel)
theorem g509 : Cond.instanceMethod yX3_turnOrder ∈ Gw := Gw_of 509 (by decide +kernel) (by decide +kernel)
theorem g510 : Cond.selects "PledgeHouse" yX3_turnOrder yX3_turnOrder ∈ Gw := Gw_of 510 (by decide +kernel) (by decide +kernel)
theorem g511 : Cond.code yX3_turnOrder prog_1_method_16_code 1 (Option.some Jvm.ClassFile.FieldType.int) ∈ Gw := Gw_of 511 (by decide +kernel) (by decide +kernel)
theorem g512 : Cond.methodLink "PledgeHouseLaw" 91 yX3_order ∈ Gw := Gw_of 512 (by decide +kernel) (by decide +kernel)
theorem g513 : Cond.instanceMethod yX3_order ∈ Gw := Gw_of 513 (by decide +kernel) (by decide +kernel)
theorem g514 : Cond.selects "PledgeHouse" yX3_order yX3_order ∈ Gw := Gw_of 514 (by decide +kernel) (by decide +kernel)
theorem g515 : Cond.code yX3_order prog_1_method_45_code 1 (Option.some Jvm.ClassFile.FieldType.int) ∈ Gw := Gw_of 515 (by decide +kernel) (by decide +kernel)
theorem g516 : Cond.methodLink "PledgeHouseLaw" 94 yL_isPassed ∈ Gw := Gw_of 516 (by decide +kernel) (by decide +kernel)
theorem g517 : Cond.static yL_isPassed ∈ Gw := Gw_of 517 (by decide +kernel) (by decide +kernel)
theorem g518 : Cond.code yL_isPassed method_7_code 6 (Option.some Jvm.ClassFile.FieldType.boolean) ∈ Gw := Gw_of 518 (by decide +kernel) (by decide +kernel)
theorem g519 : Cond.methodLink "PledgeHouseLaw" 107 yX3_soldOut ∈ Gw := Gw_of 519 (by decide +kernel) (by decide +kernel)
theorem g520 : Cond.instanceMethod yX3_soldOut ∈ Gw := Gw_of 520 (by decide +kernel) (by decide +kernel)
theorem g521 : Cond.selects "PledgeHouse" yX3_soldOut yX3_soldOut ∈ Gw := Gw_of 521 (by decide +kernel) (by decide +kernel)
theorem g522 : Cond.code yX3_soldOut prog_1_method_60_code 1 (Option.some Jvm.ClassFile.FieldType.int) ∈ Gw := Gw_of 522 (by decide +kernel) (by decide +kernel)
theorem g523 : Cond.methodLink "PledgeHouseLaw" 110 yX3_hours ∈ Gw := Gw_of 523 (by decide +kernel) (by decide +kernel)
theorem g524 : Cond.instanceMethod yX3_hours ∈ Gw := Gw_of 524 (by decide +kernel) (by decide +kernel)
theorem g525 : Cond.selects "PledgeHouse" yX3_hours yX3_hours ∈ Gw := Gw_of 525 (by decide +kernel) (by decide +kernel)
theorem g526 : Cond.code yX3_hours prog_1_method_52_code 1 (Option.some Jvm.ClassFile.FieldType.int) ∈ Gw := Gw_of 526 (by decide +kernel) (by decide +kernel)
theorem g527 : Cond.methodLink "PledgeHouseLaw" 113 yX3_debtsByClients ∈ Gw := Gw_of 527 (by decide +kernel) (by decide +kernel)
theorem g528 : Cond.instanceMethod yX3_debtsByClients ∈ Gw := Gw_of 528 (by decide +kernel) (by decide +kernel)
theorem g529 : Cond.selects "PledgeHouse" yX3_debtsByClients yX3_debtsByClients ∈ Gw := Gw_of 529 (by decide +kernel) (by decide +kernel)
theorem g530 : Cond.code yX3_debtsByClients prog_1_method_53_code 1 (Option.some Jvm.ClassFile.FieldType.int) ∈ Gw := Gw_of 530 (by decide +kernel) (by decide +kernel)
theorem g531 : Cond.methodLink "PledgeHouse" 240 yX0_debtsOfAll ∈ Gw := Gw_of 531 (by decide +kernel) (by decide +kernel)
theorem g532 : Cond.instanceMethod yX0_debtsOfAll ∈ Gw := Gw_of 532 (by decide +kernel) (by decide +kernel)
theorem g533 : Cond.selects "PledgeHouse$Ledger" yX0_debtsOfAll yX0_debtsOfAll ∈ Gw := Gw_of 533 (by decide +kernel) (by decide +kernel)
theorem g534 : Cond.code yX0_debtsOfAll prog_2_method_10_code 3 (Option.some Jvm.ClassFile.FieldType.int) ∈ Gw := Gw_of 534 (by decide +kernel) (by decide +kernel)
theorem g535 : Cond.methodLink "PledgeHouseLaw" 116 yX3_pass ∈ Gw := Gw_of 535 (by decide +kernel) (by decide +kernel)
theorem g536 : Cond.instanceMethod yX3_pass ∈ Gw := Gw_of 536 (by decide +kernel) (by decide +kernel)
theorem g537 : Cond.selects "PledgeHouse" yX3_pass yX3_pass ∈ Gw := Gw_of 537 (by decide +kernel) (by decide +kernel)
theorem g538 : Cond.code yX3_pass prog_1_method_12_code 2 (Option.some Jvm.ClassFile.FieldType.int) ∈ Gw := Gw_of 538 (by decide +kernel) (by decide +kernel)
theorem g539 : Cond.methodLink "PledgeHouse" 120 yX0_passHours ∈ Gw := Gw_of 539 (by decide +kernel) (by decide +kernel)
theorem g540 : Cond.instanceMethod yX0_passHours ∈ Gw := Gw_of 540 (by decide +kernel) (by decide +kernel)
theorem g541 : Cond.selects "PledgeHouse$Ledger" yX0_passHours yX0_passHours ∈ Gw := Gw_of 541 (by decide +kernel) (by decide +kernel)
theorem g542 : Cond.code yX0_passHours prog_2_method_33_code 6 (Option.some Jvm.ClassFile.FieldType.int) ∈ Gw := Gw_of 542 (by decide +kernel) (by decide +kernel)
theorem g543 : Cond.methodLink "PledgeHouse$Ledger" 121 yX0_calledAsBits ∈ Gw := Gw_of 543 (by decide +kernel) (by decide +kernel)
theorem g544 : Cond.instanceMethod yX0_calledAsBits ∈ Gw := Gw_of 544 (by decide +kernel) (by decide +kernel)
theorem g545 : Cond.selects "PledgeHouse$Ledger" yX0_calledAsBits yX0_calledAsBits ∈ Gw := Gw_of 545 (by decide +kernel) (by decide +kernel)
theorem g546 : Cond.code yX0_calledAsBits prog_2_method_34_code 3 (Option.some Jvm.ClassFile.FieldType.int) ∈ Gw := Gw_of 546 (by decide +kernel) (by decide +kernel)
theorem g547 : Cond.methodLink "PledgeHouse$Ledger" 124 yX0_addInterest ∈ Gw := Gw_of 547 (by decide +kernel) (by decide +kernel)
theorem g548 : Cond.instanceMethod yX0_addInterest ∈ Gw := Gw_of 548 (by decide +kernel) (by decide +kernel)
theorem g549 : Cond.selects "PledgeHouse$Ledger" yX0_addInterest yX0_addInterest ∈ Gw := Gw_of 549 (by decide +kernel) (by decide +kernel)
theorem g550 : Cond.code yX0_addInterest prog_2_method_35_code 3 (Option.none : Option Jvm.ClassFile.FieldType) ∈ Gw := Gw_of 550 (by decide +kernel) (by decide +kernel)
theorem g551 : Cond.methodLink "PledgeHouse$Ledger" 106 yX0_interestOn ∈ Gw := Gw_of 551 (by decide +kernel) (by decide +kernel)
theorem g552 : Cond.instanceMethod yX0_interestOn ∈ Gw := Gw_of 552 (by decide +kernel) (by decide +kernel)
theorem g553 : Cond.selects "PledgeHouse$Ledger" yX0_interestOn yX0_interestOn ∈ Gw := Gw_of 553 (by decide +kernel) (by decide +kernel)
theorem g554 : Cond.code yX0_interestOn prog_2_method_8_code 2 (Option.some Jvm.ClassFile.FieldType.int) ∈ Gw := Gw_of 554 (by decide +kernel) (by decide +kernel)
theorem g555 : Cond.constantLong "PledgeHouse$Ledger" 98 (9999 : Int64) ∈ Gw := Gw_of 555 (by decide +kernel) (by decide +kernel)
theorem g556 : Cond.constantLong "PledgeHouse$Ledger" 100 (10000 : Int64) ∈ Gw := Gw_of 556 (by decide +kernel) (by decide +kernel)
theorem g557 : Cond.methodLink "PledgeHouse$Ledger" 127 yX0_countDown ∈ Gw := Gw_of 557 (by decide +kernel) (by decide +kernel)
theorem g558 : Cond.instanceMethod yX0_countDown ∈ Gw := Gw_of 558 (by decide +kernel) (by decide +kernel)
theorem g559 : Cond.selects "PledgeHouse$Ledger" yX0_countDown yX0_countDown ∈ Gw := Gw_of 559 (by decide +kernel) (by decide +kernel)
theorem g560 : Cond.code yX0_countDown prog_2_method_36_code 5 (Option.none : Option Jvm.ClassFile.FieldType) ∈ Gw := Gw_of 560 (by decide +kernel) (by decide +kernel)
theorem g561 : Cond.methodLink "PledgeHouse$Ledger" 131 yX2_reckon ∈ Gw := Gw_of 561 (by decide +kernel) (by decide +kernel)
theorem g562 : Cond.instanceMethod yX2_reckon ∈ Gw := Gw_of 562 (by decide +kernel) (by decide +kernel)
theorem g563 : Cond.selects "PledgeHouse$Sale" yX2_reckon yX2_reckon ∈ Gw := Gw_of 563 (by decide +kernel) (by decide +kernel)
theorem g564 : Cond.code yX2_reckon prog_4_method_2_code 5 (Option.none : Option Jvm.ClassFile.FieldType) ∈ Gw := Gw_of 564 (by decide +kernel) (by decide +kernel)
theorem g565 : Cond.methodLink "PledgeHouse$Sale" 42 yX2_layOutPieces ∈ Gw := Gw_of 565 (by decide +kernel) (by decide +kernel)
theorem g566 : Cond.instanceMethod yX2_layOutPieces ∈ Gw := Gw_of 566 (by decide +kernel) (by decide +kernel)
theorem g567 : Cond.selects "PledgeHouse$Sale" yX2_layOutPieces yX2_layOutPieces ∈ Gw := Gw_of 567 (by decide +kernel) (by decide +kernel)
theorem g568 : Cond.code yX2_layOutPieces prog_4_method_3_code 5 (Option.some Jvm.ClassFile.FieldType.int) ∈ Gw := Gw_of 568 (by decide +kernel) (by decide +kernel)
theorem g570 : Cond.methodLink "PledgeHouse$Sale" 67 yX2_keyOf ∈ Gw := Gw_of 570 (by decide +kernel) (by decide +kernel)
theorem g571 : Cond.instanceMethod yX2_keyOf ∈ Gw := Gw_of 571 (by decide +kernel) (by decide +kernel)
theorem g572 : Cond.selects "PledgeHouse$Sale" yX2_keyOf yX2_keyOf ∈ Gw := Gw_of 572 (by decide +kernel) (by decide +kernel)
theorem g573 : Cond.code yX2_keyOf prog_4_method_4_code 3 (Option.some Jvm.ClassFile.FieldType.int) ∈ Gw := Gw_of 573 (by decide +kernel) (by decide +kernel)
theorem g574 : Cond.methodLink "PledgeHouse$Sale" 70 yX2_coverOfOne ∈ Gw := Gw_of 574 (by decide +kernel) (by decide +kernel)
theorem g575 : Cond.instanceMethod yX2_coverOfOne ∈ Gw := Gw_of 575 (by decide +kernel) (by decide +kernel)
theorem g576 : Cond.selects "PledgeHouse$Sale" yX2_coverOfOne yX2_coverOfOne ∈ Gw := Gw_of 576 (by decide +kernel) (by decide +kernel)
theorem g577 : Cond.code yX2_coverOfOne prog_4_method_5_code 3 (Option.some Jvm.ClassFile.FieldType.int) ∈ Gw := Gw_of 577 (by decide +kernel) (by decide +kernel)
theorem g578 : Cond.methodLink "PledgeHouse$Sale" 46 yX2_payFromCoins ∈ Gw := Gw_of 578 (by decide +kernel) (by decide +kernel)
theorem g579 : Cond.instanceMethod yX2_payFromCoins ∈ Gw := Gw_of 579 (by decide +kernel) (by decide +kernel)
theorem g580 : Cond.selects "PledgeHouse$Sale" yX2_payFromCoins yX2_payFromCoins ∈ Gw := Gw_of 580 (by decide +kernel) (by decide +kernel)
theorem g581 : Cond.code yX2_payFromCoins prog_4_method_7_code 2 (Option.none : Option Jvm.ClassFile.FieldType) ∈ Gw := Gw_of 581 (by decide +kernel) (by decide +kernel)
theorem g582 : Cond.methodLink "PledgeHouse$Sale" 82 yX2_payWith ∈ Gw := Gw_of 582 (by decide +kernel) (by decide +kernel)
theorem g583 : Cond.instanceMethod yX2_payWith ∈ Gw := Gw_of 583 (by decide +kernel) (by decide +kernel)
theorem g584 : Cond.selects "PledgeHouse$Sale" yX2_payWith yX2_payWith ∈ Gw := Gw_of 584 (by decide +kernel) (by decide +kernel)
theorem g585 : Cond.code yX2_payWith prog_4_method_10_code 3 (Option.none : Option Jvm.ClassFile.FieldType) ∈ Gw := Gw_of 585 (by decide +kernel) (by decide +kernel)
theorem g586 : Cond.methodLink "PledgeHouse$Sale" 49 yX2_isCovered ∈ Gw := Gw_of 586 (by decide +kernel) (by decide +kernel)
theorem g587 : Cond.instanceMethod yX2_isCovered ∈ Gw := Gw_of 587 (by decide +kernel) (by decide +kernel)
theorem g588 : Cond.selects "PledgeHouse$Sale" yX2_isCovered yX2_isCovered ∈ Gw := Gw_of 588 (by decide +kernel) (by decide +kernel)
theorem g589 : Cond.code yX2_isCovered prog_4_method_6_code 1 (Option.some Jvm.ClassFile.FieldType.boolean) ∈ Gw := Gw_of 589 (by decide +kernel) (by decide +kernel)
theorem g590 : Cond.methodLink "PledgeHouse$Sale" 53 yX2_sellOne ∈ Gw := Gw_of 590 (by decide +kernel) (by decide +kernel)
theorem g591 : Cond.instanceMethod yX2_sellOne ∈ Gw := Gw_of 591 (by decide +kernel) (by decide +kernel)
theorem g592 : Cond.selects "PledgeHouse$Sale" yX2_sellOne yX2_sellOne ∈ Gw := Gw_of 592 (by decide +kernel) (by decide +kernel)
end
section
theorem g593 : Cond.code yX2_sellOne prog_4_method_8_code 3 (Option.none : Option Jvm.ClassFile.FieldType) ∈ Gw := Gw_of 593 (by decide +kernel) (by decide +kernel)
theorem g594 : Cond.methodLink "PledgeHouse$Sale" 86 yX2_firstKind ∈ Gw := Gw_of 594 (by decide +kernel) (by decide +kernel)
theorem g595 : Cond.instanceMethod yX2_firstKind ∈ Gw := Gw_of 595 (by decide +kernel) (by decide +kernel)
theorem g596 : Cond.selects "PledgeHouse$Sale" yX2_firstKind yX2_firstKind ∈ Gw := Gw_of 596 (by decide +kernel) (by decide +kernel)
theorem g597 : Cond.code yX2_firstKind prog_4_method_9_code 3 (Option.some Jvm.ClassFile.FieldType.int) ∈ Gw := Gw_of 597 (by decide +kernel) (by decide +kernel)
theorem g598 : Cond.methodLink "PledgeHouse$Ledger" 137 yX0_enterSale ∈ Gw := Gw_of 598 (by decide +kernel) (by decide +kernel)
theorem g599 : Cond.instanceMethod yX0_enterSale ∈ Gw := Gw_of 599 (by decide +kernel) (by decide +kernel)
theorem g600 : Cond.selects "PledgeHouse$Ledger" yX0_enterSale yX0_enterSale ∈ Gw := Gw_of 600 (by decide +kernel) (by decide +kernel)
theorem g601 : Cond.code yX0_enterSale prog_2_method_37_code 5 (Option.none : Option Jvm.ClassFile.FieldType) ∈ Gw := Gw_of 601 (by decide +kernel) (by decide +kernel)
theorem g602 : Cond.methodLink "PledgeHouseLaw" 119 yX3_debtsByAccount ∈ Gw := Gw_of 602 (by decide +kernel) (by decide +kernel)
theorem g603 : Cond.instanceMethod yX3_debtsByAccount ∈ Gw := Gw_of 603 (by decide +kernel) (by decide +kernel)
theorem g604 : Cond.selects "PledgeHouse" yX3_debtsByAccount yX3_debtsByAccount ∈ Gw := Gw_of 604 (by decide +kernel) (by decide +kernel)
theorem g605 : Cond.code yX3_debtsByAccount prog_1_method_54_code 1 (Option.some Jvm.ClassFile.FieldType.int) ∈ Gw := Gw_of 605 (by decide +kernel) (by decide +kernel)
theorem g606 : Cond.methodLink "PledgeHouseLaw" 186 yL_isClientSo ∈ Gw := Gw_of 606 (by decide +kernel) (by decide +kernel)
theorem g607 : Cond.static yL_isClientSo ∈ Gw := Gw_of 607 (by decide +kernel) (by decide +kernel)
theorem g608 : Cond.code yL_isClientSo method_8_code 12 (Option.some Jvm.ClassFile.FieldType.boolean) ∈ Gw := Gw_of 608 (by decide +kernel) (by decide +kernel)
theorem g609 : Cond.methodLink "PledgeHouseLaw" 122 yX3_worthOf ∈ Gw := Gw_of 609 (by decide +kernel) (by decide +kernel)
theorem g610 : Cond.instanceMethod yX3_worthOf ∈ Gw := Gw_of 610 (by decide +kernel) (by decide +kernel)
theorem g611 : Cond.selects "PledgeHouse" yX3_worthOf yX3_worthOf ∈ Gw := Gw_of 611 (by decide +kernel) (by decide +kernel)
theorem g612 : Cond.code yX3_worthOf prog_1_method_32_code 2 (Option.some Jvm.ClassFile.FieldType.int) ∈ Gw := Gw_of 612 (by decide +kernel) (by decide +kernel)
theorem g613 : Cond.methodLink "PledgeHouse" 187 yX0_worth ∈ Gw := Gw_of 613 (by decide +kernel) (by decide +kernel)
theorem g614 : Cond.instanceMethod yX0_worth ∈ Gw := Gw_of 614 (by decide +kernel) (by decide +kernel)
theorem g615 : Cond.selects "PledgeHouse$Ledger" yX0_worth yX0_worth ∈ Gw := Gw_of 615 (by decide +kernel) (by decide +kernel)
theorem g616 : Cond.code yX0_worth prog_2_method_3_code 4 (Option.some Jvm.ClassFile.FieldType.int) ∈ Gw := Gw_of 616 (by decide +kernel) (by decide +kernel)
theorem g617 : Cond.methodLink "PledgeHouseLaw" 125 yX3_isBarred ∈ Gw := Gw_of 617 (by decide +kernel) (by decide +kernel)
theorem g618 : Cond.instanceMethod yX3_isBarred ∈ Gw := Gw_of 618 (by decide +kernel) (by decide +kernel)
theorem g619 : Cond.selects "PledgeHouse" yX3_isBarred yX3_isBarred ∈ Gw := Gw_of 619 (by decide +kernel) (by decide +kernel)
theorem g620 : Cond.code yX3_isBarred prog_1_method_37_code 2 (Option.some Jvm.ClassFile.FieldType.boolean) ∈ Gw := Gw_of 620 (by decide +kernel) (by decide +kernel)
theorem g621 : Cond.methodLink "PledgeHouseLaw" 128 yX3_hoursLeft ∈ Gw := Gw_of 621 (by decide +kernel) (by decide +kernel)
theorem g622 : Cond.instanceMethod yX3_hoursLeft ∈ Gw := Gw_of 622 (by decide +kernel) (by decide +kernel)
theorem g623 : Cond.selects "PledgeHouse" yX3_hoursLeft yX3_hoursLeft ∈ Gw := Gw_of 623 (by decide +kernel) (by decide +kernel)
theorem g624 : Cond.code yX3_hoursLeft prog_1_method_36_code 2 (Option.some Jvm.ClassFile.FieldType.int) ∈ Gw := Gw_of 624 (by decide +kernel) (by decide +kernel)
theorem g625 : Cond.methodLink "PledgeHouseLaw" 131 yX3_fallToCallByTrying ∈ Gw := Gw_of 625 (by decide +kernel) (by decide +kernel)
theorem g626 : Cond.instanceMethod yX3_fallToCallByTrying ∈ Gw := Gw_of 626 (by decide +kernel) (by decide +kernel)
theorem g627 : Cond.selects "PledgeHouse" yX3_fallToCallByTrying yX3_fallToCallByTrying ∈ Gw := Gw_of 627 (by decide +kernel) (by decide +kernel)
theorem g628 : Cond.code yX3_fallToCallByTrying prog_1_method_46_code 3 (Option.some Jvm.ClassFile.FieldType.int) ∈ Gw := Gw_of 628 (by decide +kernel) (by decide +kernel)
theorem g629 : Cond.methodLink "PledgeHouse" 215 yX0_callingFallByTrying ∈ Gw := Gw_of 629 (by decide +kernel) (by decide +kernel)
theorem g630 : Cond.instanceMethod yX0_callingFallByTrying ∈ Gw := Gw_of 630 (by decide +kernel) (by decide +kernel)
theorem g631 : Cond.selects "PledgeHouse$Ledger" yX0_callingFallByTrying yX0_callingFallByTrying ∈ Gw := Gw_of 631 (by decide +kernel) (by decide +kernel)
theorem g632 : Cond.code yX0_callingFallByTrying prog_2_method_14_code 3 (Option.some Jvm.ClassFile.FieldType.int) ∈ Gw := Gw_of 632 (by decide +kernel) (by decide +kernel)
theorem g633 : Cond.methodLink "PledgeHouseLaw" 134 yX3_hoursToCall ∈ Gw := Gw_of 633 (by decide +kernel) (by decide +kernel)
theorem g634 : Cond.instanceMethod yX3_hoursToCall ∈ Gw := Gw_of 634 (by decide +kernel) (by decide +kernel)
theorem g635 : Cond.selects "PledgeHouse" yX3_hoursToCall yX3_hoursToCall ∈ Gw := Gw_of 635 (by decide +kernel) (by decide +kernel)
theorem g636 : Cond.code yX3_hoursToCall prog_1_method_48_code 3 (Option.some Jvm.ClassFile.FieldType.int) ∈ Gw := Gw_of 636 (by decide +kernel) (by decide +kernel)
theorem g637 : Cond.methodLink "PledgeHouse" 221 yX0_hoursUntilCall ∈ Gw := Gw_of 637 (by decide +kernel) (by decide +kernel)
theorem g638 : Cond.instanceMethod yX0_hoursUntilCall ∈ Gw := Gw_of 638 (by decide +kernel) (by decide +kernel)
theorem g639 : Cond.selects "PledgeHouse$Ledger" yX0_hoursUntilCall yX0_hoursUntilCall ∈ Gw := Gw_of 639 (by decide +kernel) (by decide +kernel)
theorem g640 : Cond.code yX0_hoursUntilCall prog_2_method_16_code 5 (Option.some Jvm.ClassFile.FieldType.int) ∈ Gw := Gw_of 640 (by decide +kernel) (by decide +kernel)
theorem g641 : Cond.methodLink "PledgeHouseLaw" 137 yX3_wouldSell ∈ Gw := Gw_of 641 (by decide +kernel) (by decide +kernel)
theorem g642 : Cond.instanceMethod yX3_wouldSell ∈ Gw := Gw_of 642 (by decide +kernel) (by decide +kernel)
theorem g643 : Cond.selects "PledgeHouse" yX3_wouldSell yX3_wouldSell ∈ Gw := Gw_of 643 (by decide +kernel) (by decide +kernel)
theorem g644 : Cond.code yX3_wouldSell prog_1_method_49_code 2 (Option.some Jvm.ClassFile.FieldType.int) ∈ Gw := Gw_of 644 (by decide +kernel) (by decide +kernel)
theorem g645 : Cond.methodLink "PledgeHouse" 224 yX2_reckon ∈ Gw := Gw_of 645 (by decide +kernel) (by decide +kernel)
theorem g646 : Cond.methodLink "PledgeHouseLaw" 140 yX3_wouldLose ∈ Gw := Gw_of 646 (by decide +kernel) (by decide +kernel)
theorem g647 : Cond.instanceMethod yX3_wouldLose ∈ Gw := Gw_of 647 (by decide +kernel) (by decide +kernel)
theorem g648 : Cond.selects "PledgeHouse" yX3_wouldLose yX3_wouldLose ∈ Gw := Gw_of 648 (by decide +kernel) (by decide +kernel)
theorem g649 : Cond.code yX3_wouldLose prog_1_method_50_code 2 (Option.some Jvm.ClassFile.FieldType.int) ∈ Gw := Gw_of 649 (by decide +kernel) (by decide +kernel)
theorem g650 : Cond.methodLink "PledgeHouseLaw" 143 yX3_fallToCallByHalving ∈ Gw := Gw_of 650 (by decide +kernel) (by decide +kernel)
theorem g651 : Cond.instanceMethod yX3_fallToCallByHalving ∈ Gw := Gw_of 651 (by decide +kernel) (by decide +kernel)
theorem g652 : Cond.selects "PledgeHouse" yX3_fallToCallByHalving yX3_fallToCallByHalving ∈ Gw := Gw_of 652 (by decide +kernel) (by decide +kernel)
theorem g653 : Cond.code yX3_fallToCallByHalving prog_1_method_47_code 3 (Option.some Jvm.ClassFile.FieldType.int) ∈ Gw := Gw_of 653 (by decide +kernel) (by decide +kernel)
theorem g654 : Cond.methodLink "PledgeHouse" 218 yX0_callingFallByHalving ∈ Gw := Gw_of 654 (by decide +kernel) (by decide +kernel)
theorem g655 : Cond.instanceMethod yX0_callingFallByHalving ∈ Gw := Gw_of 655 (by decide +kernel) (by decide +kernel)
theorem g656 : Cond.selects "PledgeHouse$Ledger" yX0_callingFallByHalving yX0_callingFallByHalving ∈ Gw := Gw_of 656 (by decide +kernel) (by decide +kernel)
theorem g657 : Cond.code yX0_callingFallByHalving prog_2_method_15_code 6 (Option.some Jvm.ClassFile.FieldType.int) ∈ Gw := Gw_of 657 (by decide +kernel) (by decide +kernel)
theorem g658 : Cond.methodLink "PledgeHouseLaw" 146 yL_ifFallen ∈ Gw := Gw_of 658 (by decide +kernel) (by decide +kernel)
theorem g659 : Cond.static yL_ifFallen ∈ Gw := Gw_of 659 (by decide +kernel) (by decide +kernel)
theorem g660 : Cond.code yL_ifFallen method_9_code 5 (Option.some Jvm.ClassFile.FieldType.int) ∈ Gw := Gw_of 660 (by decide +kernel) (by decide +kernel)
theorem g661 : Cond.methodLink "PledgeHouseLaw" 189 yL_isRiskSo ∈ Gw := Gw_of 661 (by decide +kernel) (by decide +kernel)
theorem g662 : Cond.static yL_isRiskSo ∈ Gw := Gw_of 662 (by decide +kernel) (by decide +kernel)
theorem g663 : Cond.code yL_isRiskSo method_10_code 8 (Option.some Jvm.ClassFile.FieldType.boolean) ∈ Gw := Gw_of 663 (by decide +kernel) (by decide +kernel)
theorem g664 : Cond.methodLink "PledgeHouseLaw" 150 yX3_riskyBySorting ∈ Gw := Gw_of 664 (by decide +kernel) (by decide +kernel)
theorem g665 : Cond.instanceMethod yX3_riskyBySorting ∈ Gw := Gw_of 665 (by decide +kernel) (by decide +kernel)
theorem g666 : Cond.selects "PledgeHouse" yX3_riskyBySorting yX3_riskyBySorting ∈ Gw := Gw_of 666 (by decide +kernel) (by decide +kernel)
theorem g667 : Cond.code yX3_riskyBySorting prog_1_method_39_code 2 (Option.some Jvm.ClassFile.FieldType.int) ∈ Gw := Gw_of 667 (by decide +kernel) (by decide +kernel)
theorem g668 : Cond.methodLink "PledgeHouse" 205 yX3_needPlace ∈ Gw := Gw_of 668 (by decide +kernel) (by decide +kernel)
theorem g669 : Cond.static yX3_needPlace ∈ Gw := Gw_of 669 (by decide +kernel) (by decide +kernel)
theorem g670 : Cond.code yX3_needPlace prog_1_method_78_code 1 (Option.none : Option Jvm.ClassFile.FieldType) ∈ Gw := Gw_of 670 (by decide +kernel) (by decide +kernel)
theorem g671 : Cond.methodLink "PledgeHouse" 208 yX0_sortByRisk ∈ Gw := Gw_of 671 (by decide +kernel) (by decide +kernel)
theorem g672 : Cond.instanceMethod yX0_sortByRisk ∈ Gw := Gw_of 672 (by decide +kernel) (by decide +kernel)
theorem g673 : Cond.selects "PledgeHouse$Ledger" yX0_sortByRisk yX0_sortByRisk ∈ Gw := Gw_of 673 (by decide +kernel) (by decide +kernel)
theorem g674 : Cond.code yX0_sortByRisk prog_2_method_19_code 4 (Option.none : Option Jvm.ClassFile.FieldType) ∈ Gw := Gw_of 674 (by decide +kernel) (by decide +kernel)
theorem g675 : Cond.methodLink "PledgeHouse$Ledger" 109 yX0_isRiskier ∈ Gw := Gw_of 675 (by decide +kernel) (by decide +kernel)
theorem g676 : Cond.instanceMethod yX0_isRiskier ∈ Gw := Gw_of 676 (by decide +kernel) (by decide +kernel)
theorem g677 : Cond.selects "PledgeHouse$Ledger" yX0_isRiskier yX0_isRiskier ∈ Gw := Gw_of 677 (by decide +kernel) (by decide +kernel)
theorem g678 : Cond.code yX0_isRiskier prog_2_method_17_code 9 (Option.some Jvm.ClassFile.FieldType.boolean) ∈ Gw := Gw_of 678 (by decide +kernel) (by decide +kernel)
theorem g679 : Cond.methodLink "PledgeHouseLaw" 153 yX3_riskyByTaking ∈ Gw := Gw_of 679 (by decide +kernel) (by decide +kernel)
theorem g680 : Cond.instanceMethod yX3_riskyByTaking ∈ Gw := Gw_of 680 (by decide +kernel) (by decide +kernel)
theorem g681 : Cond.selects "PledgeHouse" yX3_riskyByTaking yX3_riskyByTaking ∈ Gw := Gw_of 681 (by decide +kernel) (by decide +kernel)
theorem g682 : Cond.code yX3_riskyByTaking prog_1_method_40_code 2 (Option.some Jvm.ClassFile.FieldType.int) ∈ Gw := Gw_of 682 (by decide +kernel) (by decide +kernel)
theorem g683 : Cond.methodLink "PledgeHouse" 212 yX0_takeRiskiest ∈ Gw := Gw_of 683 (by decide +kernel) (by decide +kernel)
theorem g684 : Cond.instanceMethod yX0_takeRiskiest ∈ Gw := Gw_of 684 (by decide +kernel) (by decide +kernel)
theorem g685 : Cond.selects "PledgeHouse$Ledger" yX0_takeRiskiest yX0_takeRiskiest ∈ Gw := Gw_of 685 (by decide +kernel) (by decide +kernel)
theorem g686 : Cond.code yX0_takeRiskiest prog_2_method_20_code 5 (Option.some Jvm.ClassFile.FieldType.int) ∈ Gw := Gw_of 686 (by decide +kernel) (by decide +kernel)
theorem g687 : Cond.methodLink "PledgeHouse$Ledger" 113 yX0_riskiestBut ∈ Gw := Gw_of 687 (by decide +kernel) (by decide +kernel)
theorem g688 : Cond.instanceMethod yX0_riskiestBut ∈ Gw := Gw_of 688 (by decide +kernel) (by decide +kernel)
theorem g689 : Cond.selects "PledgeHouse$Ledger" yX0_riskiestBut yX0_riskiestBut ∈ Gw := Gw_of 689 (by decide +kernel) (by decide +kernel)
theorem g690 : Cond.code yX0_riskiestBut prog_2_method_21_code 5 (Option.some Jvm.ClassFile.FieldType.int) ∈ Gw := Gw_of 690 (by decide +kernel) (by decide +kernel)
theorem g691 : Cond.methodLink "PledgeHouseLaw" 156 yX3_rankOf ∈ Gw := Gw_of 691 (by decide +kernel) (by decide +kernel)
theorem g692 : Cond.instanceMethod yX3_rankOf ∈ Gw := Gw_of 692 (by decide +kernel) (by decide +kernel)
theorem g693 : Cond.selects "PledgeHouse" yX3_rankOf yX3_rankOf ∈ Gw := Gw_of 693 (by decide +kernel) (by decide +kernel)
theorem g694 : Cond.code yX3_rankOf prog_1_method_38_code 2 (Option.some Jvm.ClassFile.FieldType.int) ∈ Gw := Gw_of 694 (by decide +kernel) (by decide +kernel)
theorem g695 : Cond.methodLink "PledgeHouse" 202 yX0_riskPlace ∈ Gw := Gw_of 695 (by decide +kernel) (by decide +kernel)
theorem g696 : Cond.instanceMethod yX0_riskPlace ∈ Gw := Gw_of 696 (by decide +kernel) (by decide +kernel)
theorem g697 : Cond.selects "PledgeHouse$Ledger" yX0_riskPlace yX0_riskPlace ∈ Gw := Gw_of 697 (by decide +kernel) (by decide +kernel)
theorem g698 : Cond.code yX0_riskPlace prog_2_method_18_code 4 (Option.some Jvm.ClassFile.FieldType.int) ∈ Gw := Gw_of 698 (by decide +kernel) (by decide +kernel)
theorem g699 : Cond.methodLink "PledgeHouseLaw" 193 yL_areAccountsSo ∈ Gw := Gw_of 699 (by decide +kernel) (by decide +kernel)
theorem g700 : Cond.static yL_areAccountsSo ∈ Gw := Gw_of 700 (by decide +kernel) (by decide +kernel)
theorem g701 : Cond.code yL_areAccountsSo method_11_code 8 (Option.some Jvm.ClassFile.FieldType.boolean) ∈ Gw := Gw_of 701 (by decide +kernel) (by decide +kernel)
theorem g702 : Cond.methodLink "PledgeHouseLaw" 159 yX3_pledgedOf ∈ Gw := Gw_of 702 (by decide +kernel) (by decide +kernel)
theorem g703 : Cond.instanceMethod yX3_pledgedOf ∈ Gw := Gw_of 703 (by decide +kernel) (by decide +kernel)
theorem g704 : Cond.selects "PledgeHouse" yX3_pledgedOf yX3_pledgedOf ∈ Gw := Gw_of 704 (by decide +kernel) (by decide +kernel)
theorem g705 : Cond.code yX3_pledgedOf prog_1_method_27_code 2 (Option.some Jvm.ClassFile.FieldType.int) ∈ Gw := Gw_of 705 (by decide +kernel) (by decide +kernel)
theorem g706 : Cond.methodLink "PledgeHouse" 181 yX0_piecesOfAll ∈ Gw := Gw_of 706 (by decide +kernel) (by decide +kernel)
theorem g707 : Cond.instanceMethod yX0_piecesOfAll ∈ Gw := Gw_of 707 (by decide +kernel) (by decide +kernel)
theorem g708 : Cond.selects "PledgeHouse$Ledger" yX0_piecesOfAll yX0_piecesOfAll ∈ Gw := Gw_of 708 (by decide +kernel) (by decide +kernel)
theorem g709 : Cond.code yX0_piecesOfAll prog_2_method_9_code 4 (Option.some Jvm.ClassFile.FieldType.int) ∈ Gw := Gw_of 709 (by decide +kernel) (by decide +kernel)
theorem g710 : Cond.methodLink "PledgeHouseLaw" 162 yX3_soldOf ∈ Gw := Gw_of 710 (by decide +kernel) (by decide +kernel)
theorem g711 : Cond.instanceMethod yX3_soldOf ∈ Gw := Gw_of 711 (by decide +kernel) (by decide +kernel)
theorem g712 : Cond.selects "PledgeHouse" yX3_soldOf yX3_soldOf ∈ Gw := Gw_of 712 (by decide +kernel) (by decide +kernel)
theorem g713 : Cond.code yX3_soldOf prog_1_method_28_code 2 (Option.some Jvm.ClassFile.FieldType.int) ∈ Gw := Gw_of 713 (by decide +kernel) (by decide +kernel)
theorem g714 : Cond.methodLink "PledgeHouseLaw" 165 yX3_interest ∈ Gw := Gw_of 714 (by decide +kernel) (by decide +kernel)
theorem g715 : Cond.instanceMethod yX3_interest ∈ Gw := Gw_of 715 (by decide +kernel) (by decide +kernel)
theorem g716 : Cond.selects "PledgeHouse" yX3_interest yX3_interest ∈ Gw := Gw_of 716 (by decide +kernel) (by decide +kernel)
theorem g717 : Cond.code yX3_interest prog_1_method_56_code 1 (Option.some Jvm.ClassFile.FieldType.int) ∈ Gw := Gw_of 717 (by decide +kernel) (by decide +kernel)
theorem g718 : Cond.methodLink "PledgeHouseLaw" 168 yX3_repaid ∈ Gw := Gw_of 718 (by decide +kernel) (by decide +kernel)
theorem g719 : Cond.instanceMethod yX3_repaid ∈ Gw := Gw_of 719 (by decide +kernel) (by decide +kernel)
theorem g720 : Cond.selects "PledgeHouse" yX3_repaid yX3_repaid ∈ Gw := Gw_of 720 (by decide +kernel) (by decide +kernel)
theorem g721 : Cond.code yX3_repaid prog_1_method_57_code 1 (Option.some Jvm.ClassFile.FieldType.int) ∈ Gw := Gw_of 721 (by decide +kernel) (by decide +kernel)
theorem g722 : Cond.methodLink "PledgeHouseLaw" 171 yX3_lost ∈ Gw := Gw_of 722 (by decide +kernel) (by decide +kernel)
theorem g723 : Cond.instanceMethod yX3_lost ∈ Gw := Gw_of 723 (by decide +kernel) (by decide +kernel)
theorem g724 : Cond.selects "PledgeHouse" yX3_lost yX3_lost ∈ Gw := Gw_of 724 (by decide +kernel) (by decide +kernel)
theorem g725 : Cond.code yX3_lost prog_1_method_58_code 1 (Option.some Jvm.ClassFile.FieldType.int) ∈ Gw := Gw_of 725 (by decide +kernel) (by decide +kernel)
theorem g726 : Cond.methodLink "PledgeHouseLaw" 174 yX3_usedShare ∈ Gw := Gw_of 726 (by decide +kernel) (by decide +kernel)
theorem g727 : Cond.instanceMethod yX3_usedShare ∈ Gw := Gw_of 727 (by decide +kernel) (by decide +kernel)
theorem g728 : Cond.selects "PledgeHouse" yX3_usedShare yX3_usedShare ∈ Gw := Gw_of 728 (by decide +kernel) (by decide +kernel)
theorem g729 : Cond.code yX3_usedShare prog_1_method_61_code 2 (Option.some Jvm.ClassFile.FieldType.double) ∈ Gw := Gw_of 729 (by decide +kernel) (by decide +kernel)
theorem g730 : Cond.methodLink "PledgeHouse" 261 yX0_coverOfAll ∈ Gw := Gw_of 730 (by decide +kernel) (by decide +kernel)
theorem g731 : Cond.instanceMethod yX0_coverOfAll ∈ Gw := Gw_of 731 (by decide +kernel) (by decide +kernel)
theorem g732 : Cond.selects "PledgeHouse$Ledger" yX0_coverOfAll yX0_coverOfAll ∈ Gw := Gw_of 732 (by decide +kernel) (by decide +kernel)
theorem g733 : Cond.code yX0_coverOfAll prog_2_method_11_code 3 (Option.some Jvm.ClassFile.FieldType.int) ∈ Gw := Gw_of 733 (by decide +kernel) (by decide +kernel)
theorem inGX0 : ∀ w ∈ wsX00, w ∈ Gw := fun w h => List.mem_filter.mpr ((by decide +kernel : ∀ w ∈ wsX00, w ∈ lw_tbl ∧ goodWord w = true) w h)
theorem inGX1 : ∀ w ∈ wsX10, w ∈ Gw := fun w h => List.mem_filter.mpr ((by decide +kernel : ∀ w ∈ wsX10, w ∈ lw_tbl ∧ goodWord w = true) w h)
theorem inGX2 : ∀ w ∈ wsX20, w ∈ Gw := fun w h => List.mem_filter.mpr ((by decide +kernel : ∀ w ∈ wsX20, w ∈ lw_tbl ∧ goodWord w = true) w h)
theorem inGX3 : ∀ w ∈ wsX30, w ∈ Gw := fun w h => List.mem_filter.mpr ((by decide +kernel : ∀ w ∈ wsX30, w ∈ lw_tbl ∧ goodWord w = true) w h)
end
section
theorem dJ7_fill_53178_0 : decode cJ7_fill_53178 0 = .ok (.iconst 0, 1) := by decide +kernel
theorem dJ7_fill_53178_1 : decode cJ7_fill_53178 1 = .ok (.istore_n 2, 1) := by decide +kernel
theorem dJ7_fill_53178_2 : decode cJ7_fill_53178 2 = .ok (.aload_n 0, 1) := by decide +kernel
theorem dJ7_fill_53178_3 : decode cJ7_fill_53178 3 = .ok (.arraylength, 1) := by decide +kernel
theorem dJ7_fill_53178_4 : decode cJ7_fill_53178 4 = .ok (.istore_n 3, 1) := by decide +kernel
theorem dJ7_fill_53178_5 : decode cJ7_fill_53178 5 = .ok (.iload_n 2, 1) := by decide +kernel
theorem dJ7_fill_53178_6 : decode cJ7_fill_53178 6 = .ok (.iload_n 3, 1) := by decide +kernel
theorem dJ7_fill_53178_7 : decode cJ7_fill_53178 7 = .ok (.if_icmp .ge 13, 3) := by decide +kernel
theorem dJ7_fill_53178_10 : decode cJ7_fill_53178 10 = .ok (.aload_n 0, 1) := by decide +kernel
theorem dJ7_fill_53178_11 : decode cJ7_fill_53178 11 = .ok (.iload_n 2, 1) := by decide +kernel
theorem dJ7_fill_53178_12 : decode cJ7_fill_53178 12 = .ok (.iload_n 1, 1) := by decide +kernel
theorem dJ7_fill_53178_13 : decode cJ7_fill_53178 13 = .ok (.iastore, 1) := by decide +kernel
theorem dJ7_fill_53178_14 : decode cJ7_fill_53178 14 = .ok (.iinc 2 1, 3) := by decide +kernel
theorem dJ7_fill_53178_17 : decode cJ7_fill_53178 17 = .ok (.goto (-12), 3) := by decide +kernel
theorem dJ7_fill_53178_20 : decode cJ7_fill_53178 20 = .ok (.return_, 1) := by decide +kernel
theorem dX0_init_0 : decode cX0_init 0 = .ok (.aload_n 0, 1) := by decide +kernel
theorem dX0_init_1 : decode cX0_init 1 = .ok (.invokespecial 3, 3) := by decide +kernel
theorem dX0_init_4 : decode cX0_init 4 = .ok (.aload_n 0, 1) := by decide +kernel
theorem dX0_init_5 : decode cX0_init 5 = .ok (.bipush 6, 2) := by decide +kernel
theorem dX0_init_7 : decode cX0_init 7 = .ok (.newarray .int, 2) := by decide +kernel
theorem dX0_init_9 : decode cX0_init 9 = .ok (.putfield 9, 3) := by decide +kernel
theorem dX0_init_12 : decode cX0_init 12 = .ok (.aload_n 0, 1) := by decide +kernel
theorem dX0_init_13 : decode cX0_init 13 = .ok (.bipush 6, 2) := by decide +kernel
theorem dX0_init_15 : decode cX0_init 15 = .ok (.newarray .int, 2) := by decide +kernel
theorem dX0_init_17 : decode cX0_init 17 = .ok (.putfield 15, 3) := by decide +kernel
theorem dX0_init_20 : decode cX0_init 20 = .ok (.aload_n 0, 1) := by decide +kernel
theorem dX0_init_21 : decode cX0_init 21 = .ok (.bipush 6, 2) := by decide +kernel
theorem dX0_init_23 : decode cX0_init 23 = .ok (.newarray .int, 2) := by decide +kernel
theorem dX0_init_25 : decode cX0_init 25 = .ok (.putfield 18, 3) := by decide +kernel
theorem dX0_init_28 : decode cX0_init 28 = .ok (.aload_n 0, 1) := by decide +kernel
theorem dX0_init_29 : decode cX0_init 29 = .ok (.bipush 48, 2) := by decide +kernel
theorem dX0_init_31 : decode cX0_init 31 = .ok (.newarray .int, 2) := by decide +kernel
theorem dX0_init_33 : decode cX0_init 33 = .ok (.putfield 21, 3) := by decide +kernel
theorem dX0_init_36 : decode cX0_init 36 = .ok (.aload_n 0, 1) := by decide +kernel
theorem dX0_init_37 : decode cX0_init 37 = .ok (.bipush 8, 2) := by decide +kernel
theorem dX0_init_39 : decode cX0_init 39 = .ok (.newarray .int, 2) := by decide +kernel
theorem dX0_init_41 : decode cX0_init 41 = .ok (.putfield 24, 3) := by decide +kernel
theorem dX0_init_44 : decode cX0_init 44 = .ok (.aload_n 0, 1) := by decide +kernel
theorem dX0_init_45 : decode cX0_init 45 = .ok (.bipush 8, 2) := by decide +kernel
theorem dX0_init_47 : decode cX0_init 47 = .ok (.newarray .int, 2) := by decide +kernel
theorem dX0_init_49 : decode cX0_init 49 = .ok (.putfield 27, 3) := by decide +kernel
theorem dX0_init_52 : decode cX0_init 52 = .ok (.aload_n 0, 1) := by decide +kernel
theorem dX0_init_53 : decode cX0_init 53 = .ok (.bipush 8, 2) := by decide +kernel
theorem dX0_init_55 : decode cX0_init 55 = .ok (.newarray .int, 2) := by decide +kernel
theorem dX0_init_57 : decode cX0_init 57 = .ok (.putfield 30, 3) := by decide +kernel
theorem dX0_init_60 : decode cX0_init 60 = .ok (.aload_n 0, 1) := by decide +kernel
theorem dX0_init_61 : decode cX0_init 61 = .ok (.bipush 8, 2) := by decide +kernel
theorem dX0_init_63 : decode cX0_init 63 = .ok (.newarray .boolean, 2) := by decide +kernel
theorem dX0_init_65 : decode cX0_init 65 = .ok (.putfield 33, 3) := by decide +kernel
theorem dX0_init_68 : decode cX0_init 68 = .ok (.aload_n 0, 1) := by decide +kernel
theorem dX0_init_69 : decode cX0_init 69 = .ok (.bipush 10, 2) := by decide +kernel
theorem dX0_init_71 : decode cX0_init 71 = .ok (.putfield 37, 3) := by decide +kernel
theorem dX0_init_74 : decode cX0_init 74 = .ok (.aload_n 0, 1) := by decide +kernel
theorem dX0_init_75 : decode cX0_init 75 = .ok (.bipush 6, 2) := by decide +kernel
theorem dX0_init_77 : decode cX0_init 77 = .ok (.putfield 41, 3) := by decide +kernel
theorem dX0_init_80 : decode cX0_init 80 = .ok (.aload_n 0, 1) := by decide +kernel
theorem dX0_init_81 : decode cX0_init 81 = .ok (.iconst 5, 1) := by decide +kernel
theorem dX0_init_82 : decode cX0_init 82 = .ok (.putfield 44, 3) := by decide +kernel
theorem dX0_init_85 : decode cX0_init 85 = .ok (.aload_n 0, 1) := by decide +kernel
theorem dX0_init_86 : decode cX0_init 86 = .ok (.iconst 0, 1) := by decide +kernel
theorem dX0_init_87 : decode cX0_init 87 = .ok (.putfield 47, 3) := by decide +kernel
theorem dX0_init_90 : decode cX0_init 90 = .ok (.aload_n 0, 1) := by decide +kernel
theorem dX0_init_91 : decode cX0_init 91 = .ok (.getfield 9, 3) := by decide +kernel
theorem dX0_init_94 : decode cX0_init 94 = .ok (.bipush 100, 2) := by decide +kernel
theorem dX0_init_96 : decode cX0_init 96 = .ok (.invokestatic 50, 3) := by decide +kernel
theorem dX0_init_99 : decode cX0_init 99 = .ok (.aload_n 0, 1) := by decide +kernel
theorem dX0_init_100 : decode cX0_init 100 = .ok (.getfield 15, 3) := by decide +kernel
theorem dX0_init_103 : decode cX0_init 103 = .ok (.bipush 20, 2) := by decide +kernel
theorem dX0_init_105 : decode cX0_init 105 = .ok (.invokestatic 50, 3) := by decide +kernel
theorem dX0_init_108 : decode cX0_init 108 = .ok (.return_, 1) := by decide +kernel
theorem dX0_copyFrom_0 : decode cX0_copyFrom 0 = .ok (.aload_n 1, 1) := by decide +kernel
theorem dX0_copyFrom_1 : decode cX0_copyFrom 1 = .ok (.getfield 9, 3) := by decide +kernel
theorem dX0_copyFrom_4 : decode cX0_copyFrom 4 = .ok (.iconst 0, 1) := by decide +kernel
theorem dX0_copyFrom_5 : decode cX0_copyFrom 5 = .ok (.aload_n 0, 1) := by decide +kernel
theorem dX0_copyFrom_6 : decode cX0_copyFrom 6 = .ok (.getfield 9, 3) := by decide +kernel
theorem dX0_copyFrom_9 : decode cX0_copyFrom 9 = .ok (.iconst 0, 1) := by decide +kernel
theorem dX0_copyFrom_10 : decode cX0_copyFrom 10 = .ok (.bipush 6, 2) := by decide +kernel
theorem dX0_copyFrom_12 : decode cX0_copyFrom 12 = .ok (.invokestatic 56, 3) := by decide +kernel
theorem dX0_copyFrom_15 : decode cX0_copyFrom 15 = .ok (.aload_n 1, 1) := by decide +kernel
theorem dX0_copyFrom_16 : decode cX0_copyFrom 16 = .ok (.getfield 15, 3) := by decide +kernel
theorem dX0_copyFrom_19 : decode cX0_copyFrom 19 = .ok (.iconst 0, 1) := by decide +kernel
theorem dX0_copyFrom_20 : decode cX0_copyFrom 20 = .ok (.aload_n 0, 1) := by decide +kernel
theorem dX0_copyFrom_21 : decode cX0_copyFrom 21 = .ok (.getfield 15, 3) := by decide +kernel
theorem dX0_copyFrom_24 : decode cX0_copyFrom 24 = .ok (.iconst 0, 1) := by decide +kernel
theorem dX0_copyFrom_25 : decode cX0_copyFrom 25 = .ok (.bipush 6, 2) := by decide +kernel
theorem dX0_copyFrom_27 : decode cX0_copyFrom 27 = .ok (.invokestatic 56, 3) := by decide +kernel
theorem dX0_copyFrom_30 : decode cX0_copyFrom 30 = .ok (.aload_n 1, 1) := by decide +kernel
theorem dX0_copyFrom_31 : decode cX0_copyFrom 31 = .ok (.getfield 18, 3) := by decide +kernel
theorem dX0_copyFrom_34 : decode cX0_copyFrom 34 = .ok (.iconst 0, 1) := by decide +kernel
theorem dX0_copyFrom_35 : decode cX0_copyFrom 35 = .ok (.aload_n 0, 1) := by decide +kernel
theorem dX0_copyFrom_36 : decode cX0_copyFrom 36 = .ok (.getfield 18, 3) := by decide +kernel
theorem dX0_copyFrom_39 : decode cX0_copyFrom 39 = .ok (.iconst 0, 1) := by decide +kernel
theorem dX0_copyFrom_40 : decode cX0_copyFrom 40 = .ok (.bipush 6, 2) := by decide +kernel
theorem dX0_copyFrom_42 : decode cX0_copyFrom 42 = .ok (.invokestatic 56, 3) := by decide +kernel
theorem dX0_copyFrom_45 : decode cX0_copyFrom 45 = .ok (.aload_n 1, 1) := by decide +kernel
theorem dX0_copyFrom_46 : decode cX0_copyFrom 46 = .ok (.getfield 21, 3) := by decide +kernel
theorem dX0_copyFrom_49 : decode cX0_copyFrom 49 = .ok (.iconst 0, 1) := by decide +kernel
theorem dX0_copyFrom_50 : decode cX0_copyFrom 50 = .ok (.aload_n 0, 1) := by decide +kernel
theorem dX0_copyFrom_51 : decode cX0_copyFrom 51 = .ok (.getfield 21, 3) := by decide +kernel
theorem dX0_copyFrom_54 : decode cX0_copyFrom 54 = .ok (.iconst 0, 1) := by decide +kernel
theorem dX0_copyFrom_55 : decode cX0_copyFrom 55 = .ok (.bipush 48, 2) := by decide +kernel
theorem dX0_copyFrom_57 : decode cX0_copyFrom 57 = .ok (.invokestatic 56, 3) := by decide +kernel
theorem dX0_copyFrom_60 : decode cX0_copyFrom 60 = .ok (.aload_n 1, 1) := by decide +kernel
theorem dX0_copyFrom_61 : decode cX0_copyFrom 61 = .ok (.getfield 24, 3) := by decide +kernel
theorem dX0_copyFrom_64 : decode cX0_copyFrom 64 = .ok (.iconst 0, 1) := by decide +kernel
theorem dX0_copyFrom_65 : decode cX0_copyFrom 65 = .ok (.aload_n 0, 1) := by decide +kernel
theorem dX0_copyFrom_66 : decode cX0_copyFrom 66 = .ok (.getfield 24, 3) := by decide +kernel
theorem dX0_copyFrom_69 : decode cX0_copyFrom 69 = .ok (.iconst 0, 1) := by decide +kernel
theorem dX0_copyFrom_70 : decode cX0_copyFrom 70 = .ok (.bipush 8, 2) := by decide +kernel
theorem dX0_copyFrom_72 : decode cX0_copyFrom 72 = .ok (.invokestatic 56, 3) := by decide +kernel
theorem dX0_copyFrom_75 : decode cX0_copyFrom 75 = .ok (.aload_n 1, 1) := by decide +kernel
theorem dX0_copyFrom_76 : decode cX0_copyFrom 76 = .ok (.getfield 27, 3) := by decide +kernel
theorem dX0_copyFrom_79 : decode cX0_copyFrom 79 = .ok (.iconst 0, 1) := by decide +kernel
theorem dX0_copyFrom_80 : decode cX0_copyFrom 80 = .ok (.aload_n 0, 1) := by decide +kernel
theorem dX0_copyFrom_81 : decode cX0_copyFrom 81 = .ok (.getfield 27, 3) := by decide +kernel
theorem dX0_copyFrom_84 : decode cX0_copyFrom 84 = .ok (.iconst 0, 1) := by decide +kernel
theorem dX0_copyFrom_85 : decode cX0_copyFrom 85 = .ok (.bipush 8, 2) := by decide +kernel
theorem dX0_copyFrom_87 : decode cX0_copyFrom 87 = .ok (.invokestatic 56, 3) := by decide +kernel
theorem dX0_copyFrom_90 : decode cX0_copyFrom 90 = .ok (.aload_n 1, 1) := by decide +kernel
theorem dX0_copyFrom_91 : decode cX0_copyFrom 91 = .ok (.getfield 30, 3) := by decide +kernel
theorem dX0_copyFrom_94 : decode cX0_copyFrom 94 = .ok (.iconst 0, 1) := by decide +kernel
theorem dX0_copyFrom_95 : decode cX0_copyFrom 95 = .ok (.aload_n 0, 1) := by decide +kernel
theorem dX0_copyFrom_96 : decode cX0_copyFrom 96 = .ok (.getfield 30, 3) := by decide +kernel
theorem dX0_copyFrom_99 : decode cX0_copyFrom 99 = .ok (.iconst 0, 1) := by decide +kernel
theorem dX0_copyFrom_100 : decode cX0_copyFrom 100 = .ok (.bipush 8, 2) := by decide +kernel
theorem dX0_copyFrom_102 : decode cX0_copyFrom 102 = .ok (.invokestatic 56, 3) := by decide +kernel
theorem dX0_copyFrom_105 : decode cX0_copyFrom 105 = .ok (.aload_n 1, 1) := by decide +kernel
theorem dX0_copyFrom_106 : decode cX0_copyFrom 106 = .ok (.getfield 33, 3) := by decide +kernel
theorem dX0_copyFrom_109 : decode cX0_copyFrom 109 = .ok (.iconst 0, 1) := by decide +kernel
theorem dX0_copyFrom_110 : decode cX0_copyFrom 110 = .ok (.aload_n 0, 1) := by decide +kernel
theorem dX0_copyFrom_111 : decode cX0_copyFrom 111 = .ok (.getfield 33, 3) := by decide +kernel
theorem dX0_copyFrom_114 : decode cX0_copyFrom 114 = .ok (.iconst 0, 1) := by decide +kernel
theorem dX0_copyFrom_115 : decode cX0_copyFrom 115 = .ok (.bipush 8, 2) := by decide +kernel
theorem dX0_copyFrom_117 : decode cX0_copyFrom 117 = .ok (.invokestatic 56, 3) := by decide +kernel
theorem dX0_copyFrom_120 : decode cX0_copyFrom 120 = .ok (.aload_n 0, 1) := by decide +kernel
theorem dX0_copyFrom_121 : decode cX0_copyFrom 121 = .ok (.aload_n 1, 1) := by decide +kernel
theorem dX0_copyFrom_122 : decode cX0_copyFrom 122 = .ok (.getfield 37, 3) := by decide +kernel
theorem dX0_copyFrom_125 : decode cX0_copyFrom 125 = .ok (.putfield 37, 3) := by decide +kernel
theorem dX0_copyFrom_128 : decode cX0_copyFrom 128 = .ok (.aload_n 0, 1) := by decide +kernel
theorem dX0_copyFrom_129 : decode cX0_copyFrom 129 = .ok (.aload_n 1, 1) := by decide +kernel
theorem dX0_copyFrom_130 : decode cX0_copyFrom 130 = .ok (.getfield 41, 3) := by decide +kernel
theorem dX0_copyFrom_133 : decode cX0_copyFrom 133 = .ok (.putfield 41, 3) := by decide +kernel
theorem dX0_copyFrom_136 : decode cX0_copyFrom 136 = .ok (.aload_n 0, 1) := by decide +kernel
theorem dX0_copyFrom_137 : decode cX0_copyFrom 137 = .ok (.aload_n 1, 1) := by decide +kernel
theorem dX0_copyFrom_138 : decode cX0_copyFrom 138 = .ok (.getfield 44, 3) := by decide +kernel
theorem dX0_copyFrom_141 : decode cX0_copyFrom 141 = .ok (.putfield 44, 3) := by decide +kernel
theorem dX0_copyFrom_144 : decode cX0_copyFrom 144 = .ok (.aload_n 0, 1) := by decide +kernel
theorem dX0_copyFrom_145 : decode cX0_copyFrom 145 = .ok (.aload_n 1, 1) := by decide +kernel
theorem dX0_copyFrom_146 : decode cX0_copyFrom 146 = .ok (.getfield 47, 3) := by decide +kernel
theorem dX0_copyFrom_149 : decode cX0_copyFrom 149 = .ok (.putfield 47, 3) := by decide +kernel
theorem dX0_copyFrom_152 : decode cX0_copyFrom 152 = .ok (.aload_n 0, 1) := by decide +kernel
theorem dX0_copyFrom_153 : decode cX0_copyFrom 153 = .ok (.aload_n 1, 1) := by decide +kernel
theorem dX0_copyFrom_154 : decode cX0_copyFrom 154 = .ok (.getfield 62, 3) := by decide +kernel
theorem dX0_copyFrom_157 : decode cX0_copyFrom 157 = .ok (.putfield 62, 3) := by decide +kernel
theorem dX0_copyFrom_160 : decode cX0_copyFrom 160 = .ok (.aload_n 0, 1) := by decide +kernel
theorem dX0_copyFrom_161 : decode cX0_copyFrom 161 = .ok (.aload_n 1, 1) := by decide +kernel
theorem dX0_copyFrom_162 : decode cX0_copyFrom 162 = .ok (.getfield 65, 3) := by decide +kernel
theorem dX0_copyFrom_165 : decode cX0_copyFrom 165 = .ok (.putfield 65, 3) := by decide +kernel
theorem dX0_copyFrom_168 : decode cX0_copyFrom 168 = .ok (.aload_n 0, 1) := by decide +kernel
theorem dX0_copyFrom_169 : decode cX0_copyFrom 169 = .ok (.aload_n 1, 1) := by decide +kernel
theorem dX0_copyFrom_170 : decode cX0_copyFrom 170 = .ok (.getfield 68, 3) := by decide +kernel
theorem dX0_copyFrom_173 : decode cX0_copyFrom 173 = .ok (.putfield 68, 3) := by decide +kernel
theorem dX0_copyFrom_176 : decode cX0_copyFrom 176 = .ok (.aload_n 0, 1) := by decide +kernel
theorem dX0_copyFrom_177 : decode cX0_copyFrom 177 = .ok (.aload_n 1, 1) := by decide +kernel
theorem dX0_copyFrom_178 : decode cX0_copyFrom 178 = .ok (.getfield 71, 3) := by decide +kernel
theorem dX0_copyFrom_181 : decode cX0_copyFrom 181 = .ok (.putfield 71, 3) := by decide +kernel
theorem dX0_copyFrom_184 : decode cX0_copyFrom 184 = .ok (.aload_n 0, 1) := by decide +kernel
theorem dX0_copyFrom_185 : decode cX0_copyFrom 185 = .ok (.aload_n 1, 1) := by decide +kernel
theorem dX0_copyFrom_186 : decode cX0_copyFrom 186 = .ok (.getfield 74, 3) := by decide +kernel
theorem dX0_copyFrom_189 : decode cX0_copyFrom 189 = .ok (.putfield 74, 3) := by decide +kernel
theorem dX0_copyFrom_192 : decode cX0_copyFrom 192 = .ok (.aload_n 0, 1) := by decide +kernel
theorem dX0_copyFrom_193 : decode cX0_copyFrom 193 = .ok (.aload_n 1, 1) := by decide +kernel
theorem dX0_copyFrom_194 : decode cX0_copyFrom 194 = .ok (.getfield 77, 3) := by decide +kernel
theorem dX0_copyFrom_197 : decode cX0_copyFrom 197 = .ok (.putfield 77, 3) := by decide +kernel
theorem dX0_copyFrom_200 : decode cX0_copyFrom 200 = .ok (.aload_n 0, 1) := by decide +kernel
theorem dX0_copyFrom_201 : decode cX0_copyFrom 201 = .ok (.aload_n 1, 1) := by decide +kernel
theorem dX0_copyFrom_202 : decode cX0_copyFrom 202 = .ok (.getfield 80, 3) := by decide +kernel
theorem dX0_copyFrom_205 : decode cX0_copyFrom 205 = .ok (.putfield 80, 3) := by decide +kernel
theorem dX0_copyFrom_208 : decode cX0_copyFrom 208 = .ok (.return_, 1) := by decide +kernel
theorem dX0_worth_0 : decode cX0_worth 0 = .ok (.aload_n 0, 1) := by decide +kernel
theorem dX0_worth_1 : decode cX0_worth 1 = .ok (.getfield 24, 3) := by decide +kernel
theorem dX0_worth_4 : decode cX0_worth 4 = .ok (.iload_n 1, 1) := by decide +kernel
theorem dX0_worth_5 : decode cX0_worth 5 = .ok (.iaload, 1) := by decide +kernel
theorem dX0_worth_6 : decode cX0_worth 6 = .ok (.istore_n 2, 1) := by decide +kernel
theorem dX0_worth_7 : decode cX0_worth 7 = .ok (.iconst 0, 1) := by decide +kernel
theorem dX0_worth_8 : decode cX0_worth 8 = .ok (.istore_n 3, 1) := by decide +kernel
theorem dX0_worth_9 : decode cX0_worth 9 = .ok (.iload_n 3, 1) := by decide +kernel
theorem dX0_worth_10 : decode cX0_worth 10 = .ok (.bipush 6, 2) := by decide +kernel
theorem dX0_worth_12 : decode cX0_worth 12 = .ok (.if_icmp .ge 29, 3) := by decide +kernel
theorem dX0_worth_15 : decode cX0_worth 15 = .ok (.iload_n 2, 1) := by decide +kernel
theorem dX0_worth_16 : decode cX0_worth 16 = .ok (.aload_n 0, 1) := by decide +kernel
theorem dX0_worth_17 : decode cX0_worth 17 = .ok (.getfield 21, 3) := by decide +kernel
theorem dX0_worth_20 : decode cX0_worth 20 = .ok (.iload_n 1, 1) := by decide +kernel
theorem dX0_worth_21 : decode cX0_worth 21 = .ok (.iload_n 3, 1) := by decide +kernel
theorem dX0_worth_22 : decode cX0_worth 22 = .ok (.invokestatic 83, 3) := by decide +kernel
theorem dX0_worth_25 : decode cX0_worth 25 = .ok (.iaload, 1) := by decide +kernel
theorem dX0_worth_26 : decode cX0_worth 26 = .ok (.aload_n 0, 1) := by decide +kernel
theorem dX0_worth_27 : decode cX0_worth 27 = .ok (.getfield 9, 3) := by decide +kernel
theorem dX0_worth_30 : decode cX0_worth 30 = .ok (.iload_n 3, 1) := by decide +kernel
theorem dX0_worth_31 : decode cX0_worth 31 = .ok (.iaload, 1) := by decide +kernel
theorem dX0_worth_32 : decode cX0_worth 32 = .ok (.imul, 1) := by decide +kernel
theorem dX0_worth_33 : decode cX0_worth 33 = .ok (.iadd, 1) := by decide +kernel
theorem dX0_worth_34 : decode cX0_worth 34 = .ok (.istore_n 2, 1) := by decide +kernel
theorem dX0_worth_35 : decode cX0_worth 35 = .ok (.iinc 3 1, 3) := by decide +kernel
theorem dX0_worth_38 : decode cX0_worth 38 = .ok (.goto (-29), 3) := by decide +kernel
theorem dX0_worth_41 : decode cX0_worth 41 = .ok (.iload_n 2, 1) := by decide +kernel
theorem dX0_worth_42 : decode cX0_worth 42 = .ok (.ireturn, 1) := by decide +kernel
theorem dX0_cover_0 : decode cX0_cover 0 = .ok (.aload_n 0, 1) := by decide +kernel
theorem dX0_cover_1 : decode cX0_cover 1 = .ok (.iload_n 1, 1) := by decide +kernel
theorem dX0_cover_2 : decode cX0_cover 2 = .ok (.iconst 0, 1) := by decide +kernel
theorem dX0_cover_3 : decode cX0_cover 3 = .ok (.iconst 1, 1) := by decide +kernel
theorem dX0_cover_4 : decode cX0_cover 4 = .ok (.invokevirtual 87, 3) := by decide +kernel
theorem dX0_cover_7 : decode cX0_cover 7 = .ok (.ireturn, 1) := by decide +kernel
theorem dX0_coverAfterFall_0 : decode cX0_coverAfterFall 0 = .ok (.iconst 0, 1) := by decide +kernel
theorem dX0_coverAfterFall_1 : decode cX0_coverAfterFall 1 = .ok (.istore 4, 2) := by decide +kernel
theorem dX0_coverAfterFall_3 : decode cX0_coverAfterFall 3 = .ok (.iconst 0, 1) := by decide +kernel
theorem dX0_coverAfterFall_4 : decode cX0_coverAfterFall 4 = .ok (.istore 5, 2) := by decide +kernel
theorem dX0_coverAfterFall_6 : decode cX0_coverAfterFall 6 = .ok (.iload 5, 2) := by decide +kernel
theorem dX0_coverAfterFall_8 : decode cX0_coverAfterFall 8 = .ok (.bipush 6, 2) := by decide +kernel
theorem dX0_coverAfterFall_10 : decode cX0_coverAfterFall 10 = .ok (.if_icmp .ge 49, 3) := by decide +kernel
theorem dX0_coverAfterFall_13 : decode cX0_coverAfterFall 13 = .ok (.iload 4, 2) := by decide +kernel
theorem dX0_coverAfterFall_15 : decode cX0_coverAfterFall 15 = .ok (.aload_n 0, 1) := by decide +kernel
theorem dX0_coverAfterFall_16 : decode cX0_coverAfterFall 16 = .ok (.getfield 21, 3) := by decide +kernel
theorem dX0_coverAfterFall_19 : decode cX0_coverAfterFall 19 = .ok (.iload_n 1, 1) := by decide +kernel
theorem dX0_coverAfterFall_20 : decode cX0_coverAfterFall 20 = .ok (.iload 5, 2) := by decide +kernel
theorem dX0_coverAfterFall_22 : decode cX0_coverAfterFall 22 = .ok (.invokestatic 83, 3) := by decide +kernel
theorem dX0_coverAfterFall_25 : decode cX0_coverAfterFall 25 = .ok (.iaload, 1) := by decide +kernel
theorem dX0_coverAfterFall_26 : decode cX0_coverAfterFall 26 = .ok (.aload_n 0, 1) := by decide +kernel
theorem dX0_coverAfterFall_27 : decode cX0_coverAfterFall 27 = .ok (.getfield 9, 3) := by decide +kernel
theorem dX0_coverAfterFall_30 : decode cX0_coverAfterFall 30 = .ok (.iload 5, 2) := by decide +kernel
theorem dX0_coverAfterFall_32 : decode cX0_coverAfterFall 32 = .ok (.iaload, 1) := by decide +kernel
theorem dX0_coverAfterFall_33 : decode cX0_coverAfterFall 33 = .ok (.iload_n 2, 1) := by decide +kernel
theorem dX0_coverAfterFall_34 : decode cX0_coverAfterFall 34 = .ok (.iload_n 3, 1) := by decide +kernel
theorem dX0_coverAfterFall_35 : decode cX0_coverAfterFall 35 = .ok (.invokestatic 91, 3) := by decide +kernel
theorem dX0_coverAfterFall_38 : decode cX0_coverAfterFall 38 = .ok (.imul, 1) := by decide +kernel
theorem dX0_coverAfterFall_39 : decode cX0_coverAfterFall 39 = .ok (.bipush 100, 2) := by decide +kernel
theorem dX0_coverAfterFall_41 : decode cX0_coverAfterFall 41 = .ok (.aload_n 0, 1) := by decide +kernel
theorem dX0_coverAfterFall_42 : decode cX0_coverAfterFall 42 = .ok (.getfield 15, 3) := by decide +kernel
theorem dX0_coverAfterFall_45 : decode cX0_coverAfterFall 45 = .ok (.iload 5, 2) := by decide +kernel
theorem dX0_coverAfterFall_47 : decode cX0_coverAfterFall 47 = .ok (.iaload, 1) := by decide +kernel
theorem dX0_coverAfterFall_48 : decode cX0_coverAfterFall 48 = .ok (.isub, 1) := by decide +kernel
theorem dX0_coverAfterFall_49 : decode cX0_coverAfterFall 49 = .ok (.imul, 1) := by decide +kernel
theorem dX0_coverAfterFall_50 : decode cX0_coverAfterFall 50 = .ok (.iadd, 1) := by decide +kernel
theorem dX0_coverAfterFall_51 : decode cX0_coverAfterFall 51 = .ok (.istore 4, 2) := by decide +kernel
theorem dX0_coverAfterFall_53 : decode cX0_coverAfterFall 53 = .ok (.iinc 5 1, 3) := by decide +kernel
theorem dX0_coverAfterFall_56 : decode cX0_coverAfterFall 56 = .ok (.goto (-50), 3) := by decide +kernel
theorem dX0_coverAfterFall_59 : decode cX0_coverAfterFall 59 = .ok (.aload_n 0, 1) := by decide +kernel
theorem dX0_coverAfterFall_60 : decode cX0_coverAfterFall 60 = .ok (.getfield 24, 3) := by decide +kernel
theorem dX0_coverAfterFall_63 : decode cX0_coverAfterFall 63 = .ok (.iload_n 1, 1) := by decide +kernel
theorem dX0_coverAfterFall_64 : decode cX0_coverAfterFall 64 = .ok (.iaload, 1) := by decide +kernel
theorem dX0_coverAfterFall_65 : decode cX0_coverAfterFall 65 = .ok (.iload 4, 2) := by decide +kernel
theorem dX0_coverAfterFall_67 : decode cX0_coverAfterFall 67 = .ok (.bipush 100, 2) := by decide +kernel
theorem dX0_coverAfterFall_69 : decode cX0_coverAfterFall 69 = .ok (.idiv, 1) := by decide +kernel
theorem dX0_coverAfterFall_70 : decode cX0_coverAfterFall 70 = .ok (.iadd, 1) := by decide +kernel
theorem dX0_coverAfterFall_71 : decode cX0_coverAfterFall 71 = .ok (.ireturn, 1) := by decide +kernel
theorem dX0_staysCovered_0 : decode cX0_staysCovered 0 = .ok (.aload_n 0, 1) := by decide +kernel
theorem dX0_staysCovered_1 : decode cX0_staysCovered 1 = .ok (.getfield 27, 3) := by decide +kernel
theorem dX0_staysCovered_4 : decode cX0_staysCovered 4 = .ok (.iload_n 1, 1) := by decide +kernel
theorem dX0_staysCovered_5 : decode cX0_staysCovered 5 = .ok (.iaload, 1) := by decide +kernel
theorem dX0_staysCovered_6 : decode cX0_staysCovered 6 = .ok (.aload_n 0, 1) := by decide +kernel
theorem dX0_staysCovered_7 : decode cX0_staysCovered 7 = .ok (.iload_n 1, 1) := by decide +kernel
theorem dX0_staysCovered_8 : decode cX0_staysCovered 8 = .ok (.iload_n 2, 1) := by decide +kernel
theorem dX0_staysCovered_9 : decode cX0_staysCovered 9 = .ok (.iload_n 3, 1) := by decide +kernel
theorem dX0_staysCovered_10 : decode cX0_staysCovered 10 = .ok (.invokevirtual 87, 3) := by decide +kernel
theorem dX0_staysCovered_13 : decode cX0_staysCovered 13 = .ok (.if_icmp .gt 7, 3) := by decide +kernel
theorem dX0_staysCovered_16 : decode cX0_staysCovered 16 = .ok (.iconst 1, 1) := by decide +kernel
theorem dX0_staysCovered_17 : decode cX0_staysCovered 17 = .ok (.goto 4, 3) := by decide +kernel
theorem dX0_staysCovered_20 : decode cX0_staysCovered 20 = .ok (.iconst 0, 1) := by decide +kernel
theorem dX0_staysCovered_21 : decode cX0_staysCovered 21 = .ok (.ireturn, 1) := by decide +kernel
theorem dX0_openRoom_0 : decode cX0_openRoom 0 = .ok (.aload_n 0, 1) := by decide +kernel
theorem dX0_openRoom_1 : decode cX0_openRoom 1 = .ok (.iload_n 1, 1) := by decide +kernel
theorem dX0_openRoom_2 : decode cX0_openRoom 2 = .ok (.invokevirtual 94, 3) := by decide +kernel
theorem dX0_openRoom_5 : decode cX0_openRoom 5 = .ok (.aload_n 0, 1) := by decide +kernel
theorem dX0_openRoom_6 : decode cX0_openRoom 6 = .ok (.getfield 27, 3) := by decide +kernel
theorem dX0_openRoom_9 : decode cX0_openRoom 9 = .ok (.iload_n 1, 1) := by decide +kernel
theorem dX0_openRoom_10 : decode cX0_openRoom 10 = .ok (.iaload, 1) := by decide +kernel
theorem dX0_openRoom_11 : decode cX0_openRoom 11 = .ok (.isub, 1) := by decide +kernel
theorem dX0_openRoom_12 : decode cX0_openRoom 12 = .ok (.istore_n 2, 1) := by decide +kernel
theorem dX0_openRoom_13 : decode cX0_openRoom 13 = .ok (.aload_n 0, 1) := by decide +kernel
theorem dX0_openRoom_14 : decode cX0_openRoom 14 = .ok (.getfield 33, 3) := by decide +kernel
theorem dX0_openRoom_17 : decode cX0_openRoom 17 = .ok (.iload_n 1, 1) := by decide +kernel
theorem dX0_openRoom_18 : decode cX0_openRoom 18 = .ok (.baload, 1) := by decide +kernel
theorem dX0_openRoom_19 : decode cX0_openRoom 19 = .ok (.ifCond .ne 7, 3) := by decide +kernel
theorem dX0_openRoom_22 : decode cX0_openRoom 22 = .ok (.iload_n 2, 1) := by decide +kernel
theorem dX0_openRoom_23 : decode cX0_openRoom 23 = .ok (.ifCond .ge 7, 3) := by decide +kernel
theorem dX0_openRoom_26 : decode cX0_openRoom 26 = .ok (.iconst 0, 1) := by decide +kernel
theorem dX0_openRoom_27 : decode cX0_openRoom 27 = .ok (.goto 4, 3) := by decide +kernel
theorem dX0_openRoom_30 : decode cX0_openRoom 30 = .ok (.iload_n 2, 1) := by decide +kernel
theorem dX0_openRoom_31 : decode cX0_openRoom 31 = .ok (.ireturn, 1) := by decide +kernel
theorem dX0_interestOn_0 : decode cX0_interestOn 0 = .ok (.iload_n 1, 1) := by decide +kernel
theorem dX0_interestOn_1 : decode cX0_interestOn 1 = .ok (.i2l, 1) := by decide +kernel
theorem dX0_interestOn_2 : decode cX0_interestOn 2 = .ok (.aload_n 0, 1) := by decide +kernel
theorem dX0_interestOn_3 : decode cX0_interestOn 3 = .ok (.getfield 37, 3) := by decide +kernel
theorem dX0_interestOn_6 : decode cX0_interestOn 6 = .ok (.i2l, 1) := by decide +kernel
theorem dX0_interestOn_7 : decode cX0_interestOn 7 = .ok (.lmul, 1) := by decide +kernel
theorem dX0_interestOn_8 : decode cX0_interestOn 8 = .ok (.ldc2_w 98, 3) := by decide +kernel
theorem dX0_interestOn_11 : decode cX0_interestOn 11 = .ok (.ladd, 1) := by decide +kernel
theorem dX0_interestOn_12 : decode cX0_interestOn 12 = .ok (.ldc2_w 100, 3) := by decide +kernel
theorem dX0_interestOn_15 : decode cX0_interestOn 15 = .ok (.ldiv, 1) := by decide +kernel
theorem dX0_interestOn_16 : decode cX0_interestOn 16 = .ok (.l2i, 1) := by decide +kernel
theorem dX0_interestOn_17 : decode cX0_interestOn 17 = .ok (.ireturn, 1) := by decide +kernel
theorem dX0_piecesOfAll_0 : decode cX0_piecesOfAll 0 = .ok (.iconst 0, 1) := by decide +kernel
theorem dX0_piecesOfAll_1 : decode cX0_piecesOfAll 1 = .ok (.istore_n 2, 1) := by decide +kernel
theorem dX0_piecesOfAll_2 : decode cX0_piecesOfAll 2 = .ok (.iconst 0, 1) := by decide +kernel
theorem dX0_piecesOfAll_3 : decode cX0_piecesOfAll 3 = .ok (.istore_n 3, 1) := by decide +kernel
theorem dX0_piecesOfAll_4 : decode cX0_piecesOfAll 4 = .ok (.iload_n 3, 1) := by decide +kernel
theorem dX0_piecesOfAll_5 : decode cX0_piecesOfAll 5 = .ok (.bipush 8, 2) := by decide +kernel
theorem dX0_piecesOfAll_7 : decode cX0_piecesOfAll 7 = .ok (.if_icmp .ge 22, 3) := by decide +kernel
theorem dX0_piecesOfAll_10 : decode cX0_piecesOfAll 10 = .ok (.iload_n 2, 1) := by decide +kernel
theorem dX0_piecesOfAll_11 : decode cX0_piecesOfAll 11 = .ok (.aload_n 0, 1) := by decide +kernel
theorem dX0_piecesOfAll_12 : decode cX0_piecesOfAll 12 = .ok (.getfield 21, 3) := by decide +kernel
theorem dX0_piecesOfAll_15 : decode cX0_piecesOfAll 15 = .ok (.iload_n 3, 1) := by decide +kernel
theorem dX0_piecesOfAll_16 : decode cX0_piecesOfAll 16 = .ok (.iload_n 1, 1) := by decide +kernel
theorem dX0_piecesOfAll_17 : decode cX0_piecesOfAll 17 = .ok (.invokestatic 83, 3) := by decide +kernel
theorem dX0_piecesOfAll_20 : decode cX0_piecesOfAll 20 = .ok (.iaload, 1) := by decide +kernel
theorem dX0_piecesOfAll_21 : decode cX0_piecesOfAll 21 = .ok (.iadd, 1) := by decide +kernel
theorem dX0_piecesOfAll_22 : decode cX0_piecesOfAll 22 = .ok (.istore_n 2, 1) := by decide +kernel
theorem dX0_piecesOfAll_23 : decode cX0_piecesOfAll 23 = .ok (.iinc 3 1, 3) := by decide +kernel
theorem dX0_piecesOfAll_26 : decode cX0_piecesOfAll 26 = .ok (.goto (-22), 3) := by decide +kernel
theorem dX0_piecesOfAll_29 : decode cX0_piecesOfAll 29 = .ok (.iload_n 2, 1) := by decide +kernel
theorem dX0_piecesOfAll_30 : decode cX0_piecesOfAll 30 = .ok (.ireturn, 1) := by decide +kernel
theorem dX0_debtsOfAll_0 : decode cX0_debtsOfAll 0 = .ok (.iconst 0, 1) := by decide +kernel
theorem dX0_debtsOfAll_1 : decode cX0_debtsOfAll 1 = .ok (.istore_n 1, 1) := by decide +kernel
theorem dX0_debtsOfAll_2 : decode cX0_debtsOfAll 2 = .ok (.iconst 0, 1) := by decide +kernel
theorem dX0_debtsOfAll_3 : decode cX0_debtsOfAll 3 = .ok (.istore_n 2, 1) := by decide +kernel
theorem dX0_debtsOfAll_4 : decode cX0_debtsOfAll 4 = .ok (.iload_n 2, 1) := by decide +kernel
theorem dX0_debtsOfAll_5 : decode cX0_debtsOfAll 5 = .ok (.bipush 8, 2) := by decide +kernel
theorem dX0_debtsOfAll_7 : decode cX0_debtsOfAll 7 = .ok (.if_icmp .ge 18, 3) := by decide +kernel
theorem dX0_debtsOfAll_10 : decode cX0_debtsOfAll 10 = .ok (.iload_n 1, 1) := by decide +kernel
theorem dX0_debtsOfAll_11 : decode cX0_debtsOfAll 11 = .ok (.aload_n 0, 1) := by decide +kernel
theorem dX0_debtsOfAll_12 : decode cX0_debtsOfAll 12 = .ok (.getfield 27, 3) := by decide +kernel
theorem dX0_debtsOfAll_15 : decode cX0_debtsOfAll 15 = .ok (.iload_n 2, 1) := by decide +kernel
theorem dX0_debtsOfAll_16 : decode cX0_debtsOfAll 16 = .ok (.iaload, 1) := by decide +kernel
theorem dX0_debtsOfAll_17 : decode cX0_debtsOfAll 17 = .ok (.iadd, 1) := by decide +kernel
theorem dX0_debtsOfAll_18 : decode cX0_debtsOfAll 18 = .ok (.istore_n 1, 1) := by decide +kernel
theorem dX0_debtsOfAll_19 : decode cX0_debtsOfAll 19 = .ok (.iinc 2 1, 3) := by decide +kernel
theorem dX0_debtsOfAll_22 : decode cX0_debtsOfAll 22 = .ok (.goto (-18), 3) := by decide +kernel
theorem dX0_debtsOfAll_25 : decode cX0_debtsOfAll 25 = .ok (.iload_n 1, 1) := by decide +kernel
theorem dX0_debtsOfAll_26 : decode cX0_debtsOfAll 26 = .ok (.ireturn, 1) := by decide +kernel
theorem dX0_coverOfAll_0 : decode cX0_coverOfAll 0 = .ok (.iconst 0, 1) := by decide +kernel
theorem dX0_coverOfAll_1 : decode cX0_coverOfAll 1 = .ok (.istore_n 1, 1) := by decide +kernel
theorem dX0_coverOfAll_2 : decode cX0_coverOfAll 2 = .ok (.iconst 0, 1) := by decide +kernel
theorem dX0_coverOfAll_3 : decode cX0_coverOfAll 3 = .ok (.istore_n 2, 1) := by decide +kernel
theorem dX0_coverOfAll_4 : decode cX0_coverOfAll 4 = .ok (.iload_n 2, 1) := by decide +kernel
theorem dX0_coverOfAll_5 : decode cX0_coverOfAll 5 = .ok (.bipush 8, 2) := by decide +kernel
theorem dX0_coverOfAll_7 : decode cX0_coverOfAll 7 = .ok (.if_icmp .ge 17, 3) := by decide +kernel
theorem dX0_coverOfAll_10 : decode cX0_coverOfAll 10 = .ok (.iload_n 1, 1) := by decide +kernel
theorem dX0_coverOfAll_11 : decode cX0_coverOfAll 11 = .ok (.aload_n 0, 1) := by decide +kernel
theorem dX0_coverOfAll_12 : decode cX0_coverOfAll 12 = .ok (.iload_n 2, 1) := by decide +kernel
theorem dX0_coverOfAll_13 : decode cX0_coverOfAll 13 = .ok (.invokevirtual 94, 3) := by decide +kernel
theorem dX0_coverOfAll_16 : decode cX0_coverOfAll 16 = .ok (.iadd, 1) := by decide +kernel
theorem dX0_coverOfAll_17 : decode cX0_coverOfAll 17 = .ok (.istore_n 1, 1) := by decide +kernel
theorem dX0_coverOfAll_18 : decode cX0_coverOfAll 18 = .ok (.iinc 2 1, 3) := by decide +kernel
theorem dX0_coverOfAll_21 : decode cX0_coverOfAll 21 = .ok (.goto (-17), 3) := by decide +kernel
theorem dX0_coverOfAll_24 : decode cX0_coverOfAll 24 = .ok (.iload_n 1, 1) := by decide +kernel
theorem dX0_coverOfAll_25 : decode cX0_coverOfAll 25 = .ok (.ireturn, 1) := by decide +kernel
theorem dX0_countCalled_0 : decode cX0_countCalled 0 = .ok (.iconst 0, 1) := by decide +kernel
theorem dX0_countCalled_1 : decode cX0_countCalled 1 = .ok (.istore_n 1, 1) := by decide +kernel
theorem dX0_countCalled_2 : decode cX0_countCalled 2 = .ok (.iconst 0, 1) := by decide +kernel
theorem dX0_countCalled_3 : decode cX0_countCalled 3 = .ok (.istore_n 2, 1) := by decide +kernel
theorem dX0_countCalled_4 : decode cX0_countCalled 4 = .ok (.iload_n 2, 1) := by decide +kernel
theorem dX0_countCalled_5 : decode cX0_countCalled 5 = .ok (.bipush 8, 2) := by decide +kernel
theorem dX0_countCalled_7 : decode cX0_countCalled 7 = .ok (.if_icmp .ge 26, 3) := by decide +kernel
theorem dX0_countCalled_10 : decode cX0_countCalled 10 = .ok (.iload_n 1, 1) := by decide +kernel
theorem dX0_countCalled_11 : decode cX0_countCalled 11 = .ok (.aload_n 0, 1) := by decide +kernel
theorem dX0_countCalled_12 : decode cX0_countCalled 12 = .ok (.getfield 30, 3) := by decide +kernel
theorem dX0_countCalled_15 : decode cX0_countCalled 15 = .ok (.iload_n 2, 1) := by decide +kernel
theorem dX0_countCalled_16 : decode cX0_countCalled 16 = .ok (.iaload, 1) := by decide +kernel
theorem dX0_countCalled_17 : decode cX0_countCalled 17 = .ok (.ifCond .le 7, 3) := by decide +kernel
theorem dX0_countCalled_20 : decode cX0_countCalled 20 = .ok (.iconst 1, 1) := by decide +kernel
theorem dX0_countCalled_21 : decode cX0_countCalled 21 = .ok (.goto 4, 3) := by decide +kernel
theorem dX0_countCalled_24 : decode cX0_countCalled 24 = .ok (.iconst 0, 1) := by decide +kernel
theorem dX0_countCalled_25 : decode cX0_countCalled 25 = .ok (.iadd, 1) := by decide +kernel
theorem dX0_countCalled_26 : decode cX0_countCalled 26 = .ok (.istore_n 1, 1) := by decide +kernel
theorem dX0_countCalled_27 : decode cX0_countCalled 27 = .ok (.iinc 2 1, 3) := by decide +kernel
theorem dX0_countCalled_30 : decode cX0_countCalled 30 = .ok (.goto (-26), 3) := by decide +kernel
theorem dX0_countCalled_33 : decode cX0_countCalled 33 = .ok (.iload_n 1, 1) := by decide +kernel
theorem dX0_countCalled_34 : decode cX0_countCalled 34 = .ok (.ireturn, 1) := by decide +kernel
theorem dX0_countUncoveredAfterFall_0 : decode cX0_countUncoveredAfterFall 0 = .ok (.iconst 0, 1) := by decide +kernel
theorem dX0_countUncoveredAfterFall_1 : decode cX0_countUncoveredAfterFall 1 = .ok (.istore_n 2, 1) := by decide +kernel
theorem dX0_countUncoveredAfterFall_2 : decode cX0_countUncoveredAfterFall 2 = .ok (.iconst 0, 1) := by decide +kernel
theorem dX0_countUncoveredAfterFall_3 : decode cX0_countUncoveredAfterFall 3 = .ok (.istore_n 3, 1) := by decide +kernel
theorem dX0_countUncoveredAfterFall_4 : decode cX0_countUncoveredAfterFall 4 = .ok (.iload_n 3, 1) := by decide +kernel
theorem dX0_countUncoveredAfterFall_5 : decode cX0_countUncoveredAfterFall 5 = .ok (.bipush 8, 2) := by decide +kernel
theorem dX0_countUncoveredAfterFall_7 : decode cX0_countUncoveredAfterFall 7 = .ok (.if_icmp .ge 27, 3) := by decide +kernel
theorem dX0_countUncoveredAfterFall_10 : decode cX0_countUncoveredAfterFall 10 = .ok (.iload_n 2, 1) := by decide +kernel
theorem dX0_countUncoveredAfterFall_11 : decode cX0_countUncoveredAfterFall 11 = .ok (.aload_n 0, 1) := by decide +kernel
theorem dX0_countUncoveredAfterFall_12 : decode cX0_countUncoveredAfterFall 12 = .ok (.iload_n 3, 1) := by decide +kernel
theorem dX0_countUncoveredAfterFall_13 : decode cX0_countUncoveredAfterFall 13 = .ok (.iload_n 1, 1) := by decide +kernel
theorem dX0_countUncoveredAfterFall_14 : decode cX0_countUncoveredAfterFall 14 = .ok (.iconst 1, 1) := by decide +kernel
theorem dX0_countUncoveredAfterFall_15 : decode cX0_countUncoveredAfterFall 15 = .ok (.invokevirtual 102, 3) := by decide +kernel
theorem dX0_countUncoveredAfterFall_18 : decode cX0_countUncoveredAfterFall 18 = .ok (.ifCond .eq 7, 3) := by decide +kernel
theorem dX0_countUncoveredAfterFall_21 : decode cX0_countUncoveredAfterFall 21 = .ok (.iconst 0, 1) := by decide +kernel
theorem dX0_countUncoveredAfterFall_22 : decode cX0_countUncoveredAfterFall 22 = .ok (.goto 4, 3) := by decide +kernel
theorem dX0_countUncoveredAfterFall_25 : decode cX0_countUncoveredAfterFall 25 = .ok (.iconst 1, 1) := by decide +kernel
theorem dX0_countUncoveredAfterFall_26 : decode cX0_countUncoveredAfterFall 26 = .ok (.iadd, 1) := by decide +kernel
theorem dX0_countUncoveredAfterFall_27 : decode cX0_countUncoveredAfterFall 27 = .ok (.istore_n 2, 1) := by decide +kernel
theorem dX0_countUncoveredAfterFall_28 : decode cX0_countUncoveredAfterFall 28 = .ok (.iinc 3 1, 3) := by decide +kernel
theorem dX0_countUncoveredAfterFall_31 : decode cX0_countUncoveredAfterFall 31 = .ok (.goto (-27), 3) := by decide +kernel
theorem dX0_countUncoveredAfterFall_34 : decode cX0_countUncoveredAfterFall 34 = .ok (.iload_n 2, 1) := by decide +kernel
theorem dX0_countUncoveredAfterFall_35 : decode cX0_countUncoveredAfterFall 35 = .ok (.ireturn, 1) := by decide +kernel
theorem dX0_callingFallByTrying_0 : decode cX0_callingFallByTrying 0 = .ok (.aload_n 0, 1) := by decide +kernel
theorem dX0_callingFallByTrying_1 : decode cX0_callingFallByTrying 1 = .ok (.getfield 30, 3) := by decide +kernel
theorem dX0_callingFallByTrying_4 : decode cX0_callingFallByTrying 4 = .ok (.iload_n 1, 1) := by decide +kernel
theorem dX0_callingFallByTrying_5 : decode cX0_callingFallByTrying 5 = .ok (.iaload, 1) := by decide +kernel
theorem dX0_callingFallByTrying_6 : decode cX0_callingFallByTrying 6 = .ok (.ifCond .le 5, 3) := by decide +kernel
theorem dX0_callingFallByTrying_9 : decode cX0_callingFallByTrying 9 = .ok (.iconst 0, 1) := by decide +kernel
theorem dX0_callingFallByTrying_10 : decode cX0_callingFallByTrying 10 = .ok (.ireturn, 1) := by decide +kernel
theorem dX0_callingFallByTrying_11 : decode cX0_callingFallByTrying 11 = .ok (.iconst 1, 1) := by decide +kernel
theorem dX0_callingFallByTrying_12 : decode cX0_callingFallByTrying 12 = .ok (.istore_n 2, 1) := by decide +kernel
theorem dX0_callingFallByTrying_13 : decode cX0_callingFallByTrying 13 = .ok (.iload_n 2, 1) := by decide +kernel
theorem dX0_callingFallByTrying_14 : decode cX0_callingFallByTrying 14 = .ok (.bipush 100, 2) := by decide +kernel
theorem dX0_callingFallByTrying_16 : decode cX0_callingFallByTrying 16 = .ok (.if_icmp .gt 21, 3) := by decide +kernel
theorem dX0_callingFallByTrying_19 : decode cX0_callingFallByTrying 19 = .ok (.aload_n 0, 1) := by decide +kernel
theorem dX0_callingFallByTrying_20 : decode cX0_callingFallByTrying 20 = .ok (.iload_n 1, 1) := by decide +kernel
theorem dX0_callingFallByTrying_21 : decode cX0_callingFallByTrying 21 = .ok (.iload_n 2, 1) := by decide +kernel
theorem dX0_callingFallByTrying_22 : decode cX0_callingFallByTrying 22 = .ok (.iconst 0, 1) := by decide +kernel
theorem dX0_callingFallByTrying_23 : decode cX0_callingFallByTrying 23 = .ok (.invokevirtual 102, 3) := by decide +kernel
theorem dX0_callingFallByTrying_26 : decode cX0_callingFallByTrying 26 = .ok (.ifCond .ne 5, 3) := by decide +kernel
theorem dX0_callingFallByTrying_29 : decode cX0_callingFallByTrying 29 = .ok (.iload_n 2, 1) := by decide +kernel
theorem dX0_callingFallByTrying_30 : decode cX0_callingFallByTrying 30 = .ok (.ireturn, 1) := by decide +kernel
theorem dX0_callingFallByTrying_31 : decode cX0_callingFallByTrying 31 = .ok (.iinc 2 1, 3) := by decide +kernel
theorem dX0_callingFallByTrying_34 : decode cX0_callingFallByTrying 34 = .ok (.goto (-21), 3) := by decide +kernel
theorem dX0_callingFallByTrying_37 : decode cX0_callingFallByTrying 37 = .ok (.iconst (-1), 1) := by decide +kernel
theorem dX0_callingFallByTrying_38 : decode cX0_callingFallByTrying 38 = .ok (.ireturn, 1) := by decide +kernel
theorem dX0_callingFallByHalving_0 : decode cX0_callingFallByHalving 0 = .ok (.aload_n 0, 1) := by decide +kernel
theorem dX0_callingFallByHalving_1 : decode cX0_callingFallByHalving 1 = .ok (.getfield 30, 3) := by decide +kernel
theorem dX0_callingFallByHalving_4 : decode cX0_callingFallByHalving 4 = .ok (.iload_n 1, 1) := by decide +kernel
theorem dX0_callingFallByHalving_5 : decode cX0_callingFallByHalving 5 = .ok (.iaload, 1) := by decide +kernel
theorem dX0_callingFallByHalving_6 : decode cX0_callingFallByHalving 6 = .ok (.ifCond .le 5, 3) := by decide +kernel
theorem dX0_callingFallByHalving_9 : decode cX0_callingFallByHalving 9 = .ok (.iconst 0, 1) := by decide +kernel
theorem dX0_callingFallByHalving_10 : decode cX0_callingFallByHalving 10 = .ok (.ireturn, 1) := by decide +kernel
theorem dX0_callingFallByHalving_11 : decode cX0_callingFallByHalving 11 = .ok (.aload_n 0, 1) := by decide +kernel
theorem dX0_callingFallByHalving_12 : decode cX0_callingFallByHalving 12 = .ok (.iload_n 1, 1) := by decide +kernel
theorem dX0_callingFallByHalving_13 : decode cX0_callingFallByHalving 13 = .ok (.bipush 100, 2) := by decide +kernel
theorem dX0_callingFallByHalving_15 : decode cX0_callingFallByHalving 15 = .ok (.iconst 0, 1) := by decide +kernel
theorem dX0_callingFallByHalving_16 : decode cX0_callingFallByHalving 16 = .ok (.invokevirtual 102, 3) := by decide +kernel
theorem dX0_callingFallByHalving_19 : decode cX0_callingFallByHalving 19 = .ok (.ifCond .eq 5, 3) := by decide +kernel
theorem dX0_callingFallByHalving_22 : decode cX0_callingFallByHalving 22 = .ok (.iconst (-1), 1) := by decide +kernel
theorem dX0_callingFallByHalving_23 : decode cX0_callingFallByHalving 23 = .ok (.ireturn, 1) := by decide +kernel
theorem dX0_callingFallByHalving_24 : decode cX0_callingFallByHalving 24 = .ok (.iconst 0, 1) := by decide +kernel
theorem dX0_callingFallByHalving_25 : decode cX0_callingFallByHalving 25 = .ok (.istore_n 2, 1) := by decide +kernel
theorem dX0_callingFallByHalving_26 : decode cX0_callingFallByHalving 26 = .ok (.bipush 100, 2) := by decide +kernel
theorem dX0_callingFallByHalving_28 : decode cX0_callingFallByHalving 28 = .ok (.istore_n 3, 1) := by decide +kernel
theorem dX0_callingFallByHalving_29 : decode cX0_callingFallByHalving 29 = .ok (.iconst 0, 1) := by decide +kernel
theorem dX0_callingFallByHalving_30 : decode cX0_callingFallByHalving 30 = .ok (.istore 4, 2) := by decide +kernel
theorem dX0_callingFallByHalving_32 : decode cX0_callingFallByHalving 32 = .ok (.iload 4, 2) := by decide +kernel
theorem dX0_callingFallByHalving_34 : decode cX0_callingFallByHalving 34 = .ok (.bipush 100, 2) := by decide +kernel
theorem dX0_callingFallByHalving_36 : decode cX0_callingFallByHalving 36 = .ok (.if_icmp .ge 43, 3) := by decide +kernel
theorem dX0_callingFallByHalving_39 : decode cX0_callingFallByHalving 39 = .ok (.iload_n 3, 1) := by decide +kernel
theorem dX0_callingFallByHalving_40 : decode cX0_callingFallByHalving 40 = .ok (.iload_n 2, 1) := by decide +kernel
theorem dX0_callingFallByHalving_41 : decode cX0_callingFallByHalving 41 = .ok (.isub, 1) := by decide +kernel
theorem dX0_callingFallByHalving_42 : decode cX0_callingFallByHalving 42 = .ok (.iconst 1, 1) := by decide +kernel
theorem dX0_callingFallByHalving_43 : decode cX0_callingFallByHalving 43 = .ok (.if_icmp .le 36, 3) := by decide +kernel
theorem dX0_callingFallByHalving_46 : decode cX0_callingFallByHalving 46 = .ok (.iload_n 2, 1) := by decide +kernel
theorem dX0_callingFallByHalving_47 : decode cX0_callingFallByHalving 47 = .ok (.iload_n 3, 1) := by decide +kernel
theorem dX0_callingFallByHalving_48 : decode cX0_callingFallByHalving 48 = .ok (.iadd, 1) := by decide +kernel
theorem dX0_callingFallByHalving_49 : decode cX0_callingFallByHalving 49 = .ok (.iconst 2, 1) := by decide +kernel
theorem dX0_callingFallByHalving_50 : decode cX0_callingFallByHalving 50 = .ok (.idiv, 1) := by decide +kernel
theorem dX0_callingFallByHalving_51 : decode cX0_callingFallByHalving 51 = .ok (.istore 5, 2) := by decide +kernel
theorem dX0_callingFallByHalving_53 : decode cX0_callingFallByHalving 53 = .ok (.aload_n 0, 1) := by decide +kernel
theorem dX0_callingFallByHalving_54 : decode cX0_callingFallByHalving 54 = .ok (.iload_n 1, 1) := by decide +kernel
theorem dX0_callingFallByHalving_55 : decode cX0_callingFallByHalving 55 = .ok (.iload 5, 2) := by decide +kernel
theorem dX0_callingFallByHalving_57 : decode cX0_callingFallByHalving 57 = .ok (.iconst 0, 1) := by decide +kernel
theorem dX0_callingFallByHalving_58 : decode cX0_callingFallByHalving 58 = .ok (.invokevirtual 102, 3) := by decide +kernel
theorem dX0_callingFallByHalving_61 : decode cX0_callingFallByHalving 61 = .ok (.ifCond .eq 9, 3) := by decide +kernel
theorem dX0_callingFallByHalving_64 : decode cX0_callingFallByHalving 64 = .ok (.iload 5, 2) := by decide +kernel
theorem dX0_callingFallByHalving_66 : decode cX0_callingFallByHalving 66 = .ok (.istore_n 2, 1) := by decide +kernel
theorem dX0_callingFallByHalving_67 : decode cX0_callingFallByHalving 67 = .ok (.goto 6, 3) := by decide +kernel
theorem dX0_callingFallByHalving_70 : decode cX0_callingFallByHalving 70 = .ok (.iload 5, 2) := by decide +kernel
theorem dX0_callingFallByHalving_72 : decode cX0_callingFallByHalving 72 = .ok (.istore_n 3, 1) := by decide +kernel
theorem dX0_callingFallByHalving_73 : decode cX0_callingFallByHalving 73 = .ok (.iinc 4 1, 3) := by decide +kernel
theorem dX0_callingFallByHalving_76 : decode cX0_callingFallByHalving 76 = .ok (.goto (-44), 3) := by decide +kernel
theorem dX0_callingFallByHalving_79 : decode cX0_callingFallByHalving 79 = .ok (.iload_n 3, 1) := by decide +kernel
theorem dX0_callingFallByHalving_80 : decode cX0_callingFallByHalving 80 = .ok (.ireturn, 1) := by decide +kernel
theorem dX0_hoursUntilCall_0 : decode cX0_hoursUntilCall 0 = .ok (.aload_n 0, 1) := by decide +kernel
theorem dX0_hoursUntilCall_1 : decode cX0_hoursUntilCall 1 = .ok (.getfield 30, 3) := by decide +kernel
theorem dX0_hoursUntilCall_4 : decode cX0_hoursUntilCall 4 = .ok (.iload_n 1, 1) := by decide +kernel
theorem dX0_hoursUntilCall_5 : decode cX0_hoursUntilCall 5 = .ok (.iaload, 1) := by decide +kernel
theorem dX0_hoursUntilCall_6 : decode cX0_hoursUntilCall 6 = .ok (.ifCond .le 5, 3) := by decide +kernel
theorem dX0_hoursUntilCall_9 : decode cX0_hoursUntilCall 9 = .ok (.iconst 0, 1) := by decide +kernel
theorem dX0_hoursUntilCall_10 : decode cX0_hoursUntilCall 10 = .ok (.ireturn, 1) := by decide +kernel
theorem dX0_hoursUntilCall_11 : decode cX0_hoursUntilCall 11 = .ok (.aload_n 0, 1) := by decide +kernel
theorem dX0_hoursUntilCall_12 : decode cX0_hoursUntilCall 12 = .ok (.iload_n 1, 1) := by decide +kernel
theorem dX0_hoursUntilCall_13 : decode cX0_hoursUntilCall 13 = .ok (.invokevirtual 94, 3) := by decide +kernel
theorem dX0_hoursUntilCall_16 : decode cX0_hoursUntilCall 16 = .ok (.istore_n 2, 1) := by decide +kernel
theorem dX0_hoursUntilCall_17 : decode cX0_hoursUntilCall 17 = .ok (.aload_n 0, 1) := by decide +kernel
theorem dX0_hoursUntilCall_18 : decode cX0_hoursUntilCall 18 = .ok (.getfield 27, 3) := by decide +kernel
theorem dX0_hoursUntilCall_21 : decode cX0_hoursUntilCall 21 = .ok (.iload_n 1, 1) := by decide +kernel
theorem dX0_hoursUntilCall_22 : decode cX0_hoursUntilCall 22 = .ok (.iaload, 1) := by decide +kernel
theorem dX0_hoursUntilCall_23 : decode cX0_hoursUntilCall 23 = .ok (.istore_n 3, 1) := by decide +kernel
theorem dX0_hoursUntilCall_24 : decode cX0_hoursUntilCall 24 = .ok (.iconst 1, 1) := by decide +kernel
theorem dX0_hoursUntilCall_25 : decode cX0_hoursUntilCall 25 = .ok (.istore 4, 2) := by decide +kernel
theorem dX0_hoursUntilCall_27 : decode cX0_hoursUntilCall 27 = .ok (.iload 4, 2) := by decide +kernel
theorem dX0_hoursUntilCall_29 : decode cX0_hoursUntilCall 29 = .ok (.sipush 999, 3) := by decide +kernel
theorem dX0_hoursUntilCall_32 : decode cX0_hoursUntilCall 32 = .ok (.if_icmp .gt 25, 3) := by decide +kernel
theorem dX0_hoursUntilCall_35 : decode cX0_hoursUntilCall 35 = .ok (.iload_n 3, 1) := by decide +kernel
theorem dX0_hoursUntilCall_36 : decode cX0_hoursUntilCall 36 = .ok (.aload_n 0, 1) := by decide +kernel
theorem dX0_hoursUntilCall_37 : decode cX0_hoursUntilCall 37 = .ok (.iload_n 3, 1) := by decide +kernel
theorem dX0_hoursUntilCall_38 : decode cX0_hoursUntilCall 38 = .ok (.invokevirtual 106, 3) := by decide +kernel
theorem dX0_hoursUntilCall_41 : decode cX0_hoursUntilCall 41 = .ok (.iadd, 1) := by decide +kernel
theorem dX0_hoursUntilCall_42 : decode cX0_hoursUntilCall 42 = .ok (.istore_n 3, 1) := by decide +kernel
theorem dX0_hoursUntilCall_43 : decode cX0_hoursUntilCall 43 = .ok (.iload_n 3, 1) := by decide +kernel
theorem dX0_hoursUntilCall_44 : decode cX0_hoursUntilCall 44 = .ok (.iload_n 2, 1) := by decide +kernel
theorem dX0_hoursUntilCall_45 : decode cX0_hoursUntilCall 45 = .ok (.if_icmp .le 6, 3) := by decide +kernel
theorem dX0_hoursUntilCall_48 : decode cX0_hoursUntilCall 48 = .ok (.iload 4, 2) := by decide +kernel
theorem dX0_hoursUntilCall_50 : decode cX0_hoursUntilCall 50 = .ok (.ireturn, 1) := by decide +kernel
theorem dX0_hoursUntilCall_51 : decode cX0_hoursUntilCall 51 = .ok (.iinc 4 1, 3) := by decide +kernel
theorem dX0_hoursUntilCall_54 : decode cX0_hoursUntilCall 54 = .ok (.goto (-27), 3) := by decide +kernel
theorem dX0_hoursUntilCall_57 : decode cX0_hoursUntilCall 57 = .ok (.iconst (-1), 1) := by decide +kernel
theorem dX0_hoursUntilCall_58 : decode cX0_hoursUntilCall 58 = .ok (.ireturn, 1) := by decide +kernel
theorem dX0_isRiskier_0 : decode cX0_isRiskier 0 = .ok (.aload_n 0, 1) := by decide +kernel
theorem dX0_isRiskier_1 : decode cX0_isRiskier 1 = .ok (.getfield 27, 3) := by decide +kernel
theorem dX0_isRiskier_4 : decode cX0_isRiskier 4 = .ok (.iload_n 1, 1) := by decide +kernel
theorem dX0_isRiskier_5 : decode cX0_isRiskier 5 = .ok (.iaload, 1) := by decide +kernel
theorem dX0_isRiskier_6 : decode cX0_isRiskier 6 = .ok (.istore_n 3, 1) := by decide +kernel
theorem dX0_isRiskier_7 : decode cX0_isRiskier 7 = .ok (.aload_n 0, 1) := by decide +kernel
theorem dX0_isRiskier_8 : decode cX0_isRiskier 8 = .ok (.getfield 27, 3) := by decide +kernel
theorem dX0_isRiskier_11 : decode cX0_isRiskier 11 = .ok (.iload_n 2, 1) := by decide +kernel
theorem dX0_isRiskier_12 : decode cX0_isRiskier 12 = .ok (.iaload, 1) := by decide +kernel
theorem dX0_isRiskier_13 : decode cX0_isRiskier 13 = .ok (.istore 4, 2) := by decide +kernel
theorem dX0_isRiskier_15 : decode cX0_isRiskier 15 = .ok (.iload_n 3, 1) := by decide +kernel
theorem dX0_isRiskier_16 : decode cX0_isRiskier 16 = .ok (.ifCond .eq 8, 3) := by decide +kernel
theorem dX0_isRiskier_19 : decode cX0_isRiskier 19 = .ok (.iload 4, 2) := by decide +kernel
theorem dX0_isRiskier_21 : decode cX0_isRiskier 21 = .ok (.ifCond .ne 32, 3) := by decide +kernel
theorem dX0_isRiskier_24 : decode cX0_isRiskier 24 = .ok (.iload_n 3, 1) := by decide +kernel
theorem dX0_isRiskier_25 : decode cX0_isRiskier 25 = .ok (.iload 4, 2) := by decide +kernel
theorem dX0_isRiskier_27 : decode cX0_isRiskier 27 = .ok (.if_icmp .eq 15, 3) := by decide +kernel
theorem dX0_isRiskier_30 : decode cX0_isRiskier 30 = .ok (.iload_n 3, 1) := by decide +kernel
theorem dX0_isRiskier_31 : decode cX0_isRiskier 31 = .ok (.ifCond .le 7, 3) := by decide +kernel
theorem dX0_isRiskier_34 : decode cX0_isRiskier 34 = .ok (.iconst 1, 1) := by decide +kernel
theorem dX0_isRiskier_35 : decode cX0_isRiskier 35 = .ok (.goto 17, 3) := by decide +kernel
theorem dX0_isRiskier_38 : decode cX0_isRiskier 38 = .ok (.iconst 0, 1) := by decide +kernel
theorem dX0_isRiskier_39 : decode cX0_isRiskier 39 = .ok (.goto 13, 3) := by decide +kernel
theorem dX0_isRiskier_42 : decode cX0_isRiskier 42 = .ok (.iload_n 1, 1) := by decide +kernel
theorem dX0_isRiskier_43 : decode cX0_isRiskier 43 = .ok (.iload_n 2, 1) := by decide +kernel
theorem dX0_isRiskier_44 : decode cX0_isRiskier 44 = .ok (.if_icmp .ge 7, 3) := by decide +kernel
theorem dX0_isRiskier_47 : decode cX0_isRiskier 47 = .ok (.iconst 1, 1) := by decide +kernel
theorem dX0_isRiskier_48 : decode cX0_isRiskier 48 = .ok (.goto 4, 3) := by decide +kernel
theorem dX0_isRiskier_51 : decode cX0_isRiskier 51 = .ok (.iconst 0, 1) := by decide +kernel
theorem dX0_isRiskier_52 : decode cX0_isRiskier 52 = .ok (.ireturn, 1) := by decide +kernel
theorem dX0_isRiskier_53 : decode cX0_isRiskier 53 = .ok (.aload_n 0, 1) := by decide +kernel
theorem dX0_isRiskier_54 : decode cX0_isRiskier 54 = .ok (.iload_n 1, 1) := by decide +kernel
theorem dX0_isRiskier_55 : decode cX0_isRiskier 55 = .ok (.invokevirtual 94, 3) := by decide +kernel
theorem dX0_isRiskier_58 : decode cX0_isRiskier 58 = .ok (.i2l, 1) := by decide +kernel
theorem dX0_isRiskier_59 : decode cX0_isRiskier 59 = .ok (.iload 4, 2) := by decide +kernel
theorem dX0_isRiskier_61 : decode cX0_isRiskier 61 = .ok (.i2l, 1) := by decide +kernel
theorem dX0_isRiskier_62 : decode cX0_isRiskier 62 = .ok (.lmul, 1) := by decide +kernel
theorem dX0_isRiskier_63 : decode cX0_isRiskier 63 = .ok (.lstore 5, 2) := by decide +kernel
theorem dX0_isRiskier_65 : decode cX0_isRiskier 65 = .ok (.aload_n 0, 1) := by decide +kernel
theorem dX0_isRiskier_66 : decode cX0_isRiskier 66 = .ok (.iload_n 2, 1) := by decide +kernel
theorem dX0_isRiskier_67 : decode cX0_isRiskier 67 = .ok (.invokevirtual 94, 3) := by decide +kernel
theorem dX0_isRiskier_70 : decode cX0_isRiskier 70 = .ok (.i2l, 1) := by decide +kernel
theorem dX0_isRiskier_71 : decode cX0_isRiskier 71 = .ok (.iload_n 3, 1) := by decide +kernel
theorem dX0_isRiskier_72 : decode cX0_isRiskier 72 = .ok (.i2l, 1) := by decide +kernel
theorem dX0_isRiskier_73 : decode cX0_isRiskier 73 = .ok (.lmul, 1) := by decide +kernel
theorem dX0_isRiskier_74 : decode cX0_isRiskier 74 = .ok (.lstore 7, 2) := by decide +kernel
theorem dX0_isRiskier_76 : decode cX0_isRiskier 76 = .ok (.lload 5, 2) := by decide +kernel
theorem dX0_isRiskier_78 : decode cX0_isRiskier 78 = .ok (.lload 7, 2) := by decide +kernel
theorem dX0_isRiskier_80 : decode cX0_isRiskier 80 = .ok (.lcmp, 1) := by decide +kernel
theorem dX0_isRiskier_81 : decode cX0_isRiskier 81 = .ok (.ifCond .eq 19, 3) := by decide +kernel
theorem dX0_isRiskier_84 : decode cX0_isRiskier 84 = .ok (.lload 5, 2) := by decide +kernel
theorem dX0_isRiskier_86 : decode cX0_isRiskier 86 = .ok (.lload 7, 2) := by decide +kernel
theorem dX0_isRiskier_88 : decode cX0_isRiskier 88 = .ok (.lcmp, 1) := by decide +kernel
theorem dX0_isRiskier_89 : decode cX0_isRiskier 89 = .ok (.ifCond .ge 7, 3) := by decide +kernel
theorem dX0_isRiskier_92 : decode cX0_isRiskier 92 = .ok (.iconst 1, 1) := by decide +kernel
theorem dX0_isRiskier_93 : decode cX0_isRiskier 93 = .ok (.goto 17, 3) := by decide +kernel
theorem dX0_isRiskier_96 : decode cX0_isRiskier 96 = .ok (.iconst 0, 1) := by decide +kernel
theorem dX0_isRiskier_97 : decode cX0_isRiskier 97 = .ok (.goto 13, 3) := by decide +kernel
theorem dX0_isRiskier_100 : decode cX0_isRiskier 100 = .ok (.iload_n 1, 1) := by decide +kernel
theorem dX0_isRiskier_101 : decode cX0_isRiskier 101 = .ok (.iload_n 2, 1) := by decide +kernel
theorem dX0_isRiskier_102 : decode cX0_isRiskier 102 = .ok (.if_icmp .ge 7, 3) := by decide +kernel
theorem dX0_isRiskier_105 : decode cX0_isRiskier 105 = .ok (.iconst 1, 1) := by decide +kernel
theorem dX0_isRiskier_106 : decode cX0_isRiskier 106 = .ok (.goto 4, 3) := by decide +kernel
theorem dX0_isRiskier_109 : decode cX0_isRiskier 109 = .ok (.iconst 0, 1) := by decide +kernel
theorem dX0_isRiskier_110 : decode cX0_isRiskier 110 = .ok (.ireturn, 1) := by decide +kernel
theorem dX0_riskPlace_0 : decode cX0_riskPlace 0 = .ok (.iconst 0, 1) := by decide +kernel
theorem dX0_riskPlace_1 : decode cX0_riskPlace 1 = .ok (.istore_n 2, 1) := by decide +kernel
theorem dX0_riskPlace_2 : decode cX0_riskPlace 2 = .ok (.iconst 0, 1) := by decide +kernel
theorem dX0_riskPlace_3 : decode cX0_riskPlace 3 = .ok (.istore_n 3, 1) := by decide +kernel
theorem dX0_riskPlace_4 : decode cX0_riskPlace 4 = .ok (.iload_n 3, 1) := by decide +kernel
theorem dX0_riskPlace_5 : decode cX0_riskPlace 5 = .ok (.bipush 8, 2) := by decide +kernel
theorem dX0_riskPlace_7 : decode cX0_riskPlace 7 = .ok (.if_icmp .ge 26, 3) := by decide +kernel
theorem dX0_riskPlace_10 : decode cX0_riskPlace 10 = .ok (.iload_n 3, 1) := by decide +kernel
theorem dX0_riskPlace_11 : decode cX0_riskPlace 11 = .ok (.iload_n 1, 1) := by decide +kernel
theorem dX0_riskPlace_12 : decode cX0_riskPlace 12 = .ok (.if_icmp .eq 15, 3) := by decide +kernel
theorem dX0_riskPlace_15 : decode cX0_riskPlace 15 = .ok (.aload_n 0, 1) := by decide +kernel
theorem dX0_riskPlace_16 : decode cX0_riskPlace 16 = .ok (.iload_n 3, 1) := by decide +kernel
theorem dX0_riskPlace_17 : decode cX0_riskPlace 17 = .ok (.iload_n 1, 1) := by decide +kernel
theorem dX0_riskPlace_18 : decode cX0_riskPlace 18 = .ok (.invokevirtual 109, 3) := by decide +kernel
theorem dX0_riskPlace_21 : decode cX0_riskPlace 21 = .ok (.ifCond .eq 6, 3) := by decide +kernel
theorem dX0_riskPlace_24 : decode cX0_riskPlace 24 = .ok (.iinc 2 1, 3) := by decide +kernel
theorem dX0_riskPlace_27 : decode cX0_riskPlace 27 = .ok (.iinc 3 1, 3) := by decide +kernel
theorem dX0_riskPlace_30 : decode cX0_riskPlace 30 = .ok (.goto (-26), 3) := by decide +kernel
theorem dX0_riskPlace_33 : decode cX0_riskPlace 33 = .ok (.iload_n 2, 1) := by decide +kernel
theorem dX0_riskPlace_34 : decode cX0_riskPlace 34 = .ok (.ireturn, 1) := by decide +kernel
theorem dX0_sortByRisk_0 : decode cX0_sortByRisk 0 = .ok (.iconst 0, 1) := by decide +kernel
theorem dX0_sortByRisk_1 : decode cX0_sortByRisk 1 = .ok (.istore_n 2, 1) := by decide +kernel
theorem dX0_sortByRisk_2 : decode cX0_sortByRisk 2 = .ok (.iload_n 2, 1) := by decide +kernel
theorem dX0_sortByRisk_3 : decode cX0_sortByRisk 3 = .ok (.bipush 8, 2) := by decide +kernel
theorem dX0_sortByRisk_5 : decode cX0_sortByRisk 5 = .ok (.if_icmp .ge 46, 3) := by decide +kernel
theorem dX0_sortByRisk_8 : decode cX0_sortByRisk 8 = .ok (.iload_n 2, 1) := by decide +kernel
theorem dX0_sortByRisk_9 : decode cX0_sortByRisk 9 = .ok (.istore_n 3, 1) := by decide +kernel
theorem dX0_sortByRisk_10 : decode cX0_sortByRisk 10 = .ok (.iload_n 3, 1) := by decide +kernel
theorem dX0_sortByRisk_11 : decode cX0_sortByRisk 11 = .ok (.ifCond .le 30, 3) := by decide +kernel
theorem dX0_sortByRisk_14 : decode cX0_sortByRisk 14 = .ok (.aload_n 0, 1) := by decide +kernel
theorem dX0_sortByRisk_15 : decode cX0_sortByRisk 15 = .ok (.iload_n 2, 1) := by decide +kernel
theorem dX0_sortByRisk_16 : decode cX0_sortByRisk 16 = .ok (.aload_n 1, 1) := by decide +kernel
theorem dX0_sortByRisk_17 : decode cX0_sortByRisk 17 = .ok (.iload_n 3, 1) := by decide +kernel
theorem dX0_sortByRisk_18 : decode cX0_sortByRisk 18 = .ok (.iconst 1, 1) := by decide +kernel
theorem dX0_sortByRisk_19 : decode cX0_sortByRisk 19 = .ok (.isub, 1) := by decide +kernel
theorem dX0_sortByRisk_20 : decode cX0_sortByRisk 20 = .ok (.iaload, 1) := by decide +kernel
theorem dX0_sortByRisk_21 : decode cX0_sortByRisk 21 = .ok (.invokevirtual 109, 3) := by decide +kernel
theorem dX0_sortByRisk_24 : decode cX0_sortByRisk 24 = .ok (.ifCond .eq 17, 3) := by decide +kernel
theorem dX0_sortByRisk_27 : decode cX0_sortByRisk 27 = .ok (.aload_n 1, 1) := by decide +kernel
theorem dX0_sortByRisk_28 : decode cX0_sortByRisk 28 = .ok (.iload_n 3, 1) := by decide +kernel
theorem dX0_sortByRisk_29 : decode cX0_sortByRisk 29 = .ok (.aload_n 1, 1) := by decide +kernel
theorem dX0_sortByRisk_30 : decode cX0_sortByRisk 30 = .ok (.iload_n 3, 1) := by decide +kernel
theorem dX0_sortByRisk_31 : decode cX0_sortByRisk 31 = .ok (.iconst 1, 1) := by decide +kernel
theorem dX0_sortByRisk_32 : decode cX0_sortByRisk 32 = .ok (.isub, 1) := by decide +kernel
theorem dX0_sortByRisk_33 : decode cX0_sortByRisk 33 = .ok (.iaload, 1) := by decide +kernel
theorem dX0_sortByRisk_34 : decode cX0_sortByRisk 34 = .ok (.iastore, 1) := by decide +kernel
theorem dX0_sortByRisk_35 : decode cX0_sortByRisk 35 = .ok (.iinc 3 (-1), 3) := by decide +kernel
theorem dX0_sortByRisk_38 : decode cX0_sortByRisk 38 = .ok (.goto (-28), 3) := by decide +kernel
theorem dX0_sortByRisk_41 : decode cX0_sortByRisk 41 = .ok (.aload_n 1, 1) := by decide +kernel
theorem dX0_sortByRisk_42 : decode cX0_sortByRisk 42 = .ok (.iload_n 3, 1) := by decide +kernel
theorem dX0_sortByRisk_43 : decode cX0_sortByRisk 43 = .ok (.iload_n 2, 1) := by decide +kernel
theorem dX0_sortByRisk_44 : decode cX0_sortByRisk 44 = .ok (.iastore, 1) := by decide +kernel
theorem dX0_sortByRisk_45 : decode cX0_sortByRisk 45 = .ok (.iinc 2 1, 3) := by decide +kernel
theorem dX0_sortByRisk_48 : decode cX0_sortByRisk 48 = .ok (.goto (-46), 3) := by decide +kernel
theorem dX0_sortByRisk_51 : decode cX0_sortByRisk 51 = .ok (.return_, 1) := by decide +kernel
theorem dX0_takeRiskiest_0 : decode cX0_takeRiskiest 0 = .ok (.iconst 0, 1) := by decide +kernel
theorem dX0_takeRiskiest_1 : decode cX0_takeRiskiest 1 = .ok (.istore_n 2, 1) := by decide +kernel
theorem dX0_takeRiskiest_2 : decode cX0_takeRiskiest 2 = .ok (.iconst 0, 1) := by decide +kernel
theorem dX0_takeRiskiest_3 : decode cX0_takeRiskiest 3 = .ok (.istore_n 3, 1) := by decide +kernel
theorem dX0_takeRiskiest_4 : decode cX0_takeRiskiest 4 = .ok (.iconst 0, 1) := by decide +kernel
theorem dX0_takeRiskiest_5 : decode cX0_takeRiskiest 5 = .ok (.istore 4, 2) := by decide +kernel
theorem dX0_takeRiskiest_7 : decode cX0_takeRiskiest 7 = .ok (.iload 4, 2) := by decide +kernel
theorem dX0_takeRiskiest_9 : decode cX0_takeRiskiest 9 = .ok (.iload_n 1, 1) := by decide +kernel
theorem dX0_takeRiskiest_10 : decode cX0_takeRiskiest 10 = .ok (.if_icmp .gt 21, 3) := by decide +kernel
theorem dX0_takeRiskiest_13 : decode cX0_takeRiskiest 13 = .ok (.aload_n 0, 1) := by decide +kernel
theorem dX0_takeRiskiest_14 : decode cX0_takeRiskiest 14 = .ok (.iload_n 2, 1) := by decide +kernel
theorem dX0_takeRiskiest_15 : decode cX0_takeRiskiest 15 = .ok (.invokevirtual 113, 3) := by decide +kernel
theorem dX0_takeRiskiest_18 : decode cX0_takeRiskiest 18 = .ok (.istore_n 3, 1) := by decide +kernel
theorem dX0_takeRiskiest_19 : decode cX0_takeRiskiest 19 = .ok (.iload_n 2, 1) := by decide +kernel
theorem dX0_takeRiskiest_20 : decode cX0_takeRiskiest 20 = .ok (.iconst 1, 1) := by decide +kernel
theorem dX0_takeRiskiest_21 : decode cX0_takeRiskiest 21 = .ok (.iload_n 3, 1) := by decide +kernel
theorem dX0_takeRiskiest_22 : decode cX0_takeRiskiest 22 = .ok (.ishl, 1) := by decide +kernel
theorem dX0_takeRiskiest_23 : decode cX0_takeRiskiest 23 = .ok (.ior, 1) := by decide +kernel
theorem dX0_takeRiskiest_24 : decode cX0_takeRiskiest 24 = .ok (.istore_n 2, 1) := by decide +kernel
theorem dX0_takeRiskiest_25 : decode cX0_takeRiskiest 25 = .ok (.iinc 4 1, 3) := by decide +kernel
theorem dX0_takeRiskiest_28 : decode cX0_takeRiskiest 28 = .ok (.goto (-21), 3) := by decide +kernel
theorem dX0_takeRiskiest_31 : decode cX0_takeRiskiest 31 = .ok (.iload_n 3, 1) := by decide +kernel
theorem dX0_takeRiskiest_32 : decode cX0_takeRiskiest 32 = .ok (.ireturn, 1) := by decide +kernel
theorem dX0_riskiestBut_0 : decode cX0_riskiestBut 0 = .ok (.iconst (-1), 1) := by decide +kernel
theorem dX0_riskiestBut_1 : decode cX0_riskiestBut 1 = .ok (.istore_n 2, 1) := by decide +kernel
theorem dX0_riskiestBut_2 : decode cX0_riskiestBut 2 = .ok (.iconst 0, 1) := by decide +kernel
theorem dX0_riskiestBut_3 : decode cX0_riskiestBut 3 = .ok (.istore_n 3, 1) := by decide +kernel
theorem dX0_riskiestBut_4 : decode cX0_riskiestBut 4 = .ok (.iload_n 3, 1) := by decide +kernel
theorem dX0_riskiestBut_5 : decode cX0_riskiestBut 5 = .ok (.bipush 8, 2) := by decide +kernel
theorem dX0_riskiestBut_7 : decode cX0_riskiestBut 7 = .ok (.if_icmp .ge 45, 3) := by decide +kernel
theorem dX0_riskiestBut_10 : decode cX0_riskiestBut 10 = .ok (.iload_n 1, 1) := by decide +kernel
theorem dX0_riskiestBut_11 : decode cX0_riskiestBut 11 = .ok (.iload_n 3, 1) := by decide +kernel
theorem dX0_riskiestBut_12 : decode cX0_riskiestBut 12 = .ok (.ishr, 1) := by decide +kernel
theorem dX0_riskiestBut_13 : decode cX0_riskiestBut 13 = .ok (.iconst 1, 1) := by decide +kernel
theorem dX0_riskiestBut_14 : decode cX0_riskiestBut 14 = .ok (.iand, 1) := by decide +kernel
theorem dX0_riskiestBut_15 : decode cX0_riskiestBut 15 = .ok (.ifCond .ne 7, 3) := by decide +kernel
theorem dX0_riskiestBut_18 : decode cX0_riskiestBut 18 = .ok (.iconst 1, 1) := by decide +kernel
theorem dX0_riskiestBut_19 : decode cX0_riskiestBut 19 = .ok (.goto 4, 3) := by decide +kernel
theorem dX0_riskiestBut_22 : decode cX0_riskiestBut 22 = .ok (.iconst 0, 1) := by decide +kernel
theorem dX0_riskiestBut_23 : decode cX0_riskiestBut 23 = .ok (.istore 4, 2) := by decide +kernel
theorem dX0_riskiestBut_25 : decode cX0_riskiestBut 25 = .ok (.iload 4, 2) := by decide +kernel
theorem dX0_riskiestBut_27 : decode cX0_riskiestBut 27 = .ok (.ifCond .eq 19, 3) := by decide +kernel
theorem dX0_riskiestBut_30 : decode cX0_riskiestBut 30 = .ok (.iload_n 2, 1) := by decide +kernel
theorem dX0_riskiestBut_31 : decode cX0_riskiestBut 31 = .ok (.iconst (-1), 1) := by decide +kernel
theorem dX0_riskiestBut_32 : decode cX0_riskiestBut 32 = .ok (.if_icmp .eq 12, 3) := by decide +kernel
theorem dX0_riskiestBut_35 : decode cX0_riskiestBut 35 = .ok (.aload_n 0, 1) := by decide +kernel
theorem dX0_riskiestBut_36 : decode cX0_riskiestBut 36 = .ok (.iload_n 3, 1) := by decide +kernel
theorem dX0_riskiestBut_37 : decode cX0_riskiestBut 37 = .ok (.iload_n 2, 1) := by decide +kernel
theorem dX0_riskiestBut_38 : decode cX0_riskiestBut 38 = .ok (.invokevirtual 109, 3) := by decide +kernel
theorem dX0_riskiestBut_41 : decode cX0_riskiestBut 41 = .ok (.ifCond .eq 5, 3) := by decide +kernel
theorem dX0_riskiestBut_44 : decode cX0_riskiestBut 44 = .ok (.iload_n 3, 1) := by decide +kernel
theorem dX0_riskiestBut_45 : decode cX0_riskiestBut 45 = .ok (.istore_n 2, 1) := by decide +kernel
theorem dX0_riskiestBut_46 : decode cX0_riskiestBut 46 = .ok (.iinc 3 1, 3) := by decide +kernel
theorem dX0_riskiestBut_49 : decode cX0_riskiestBut 49 = .ok (.goto (-45), 3) := by decide +kernel
theorem dX0_riskiestBut_52 : decode cX0_riskiestBut 52 = .ok (.iload_n 2, 1) := by decide +kernel
theorem dX0_riskiestBut_53 : decode cX0_riskiestBut 53 = .ok (.iconst (-1), 1) := by decide +kernel
theorem dX0_riskiestBut_54 : decode cX0_riskiestBut 54 = .ok (.if_icmp .ne 7, 3) := by decide +kernel
theorem dX0_riskiestBut_57 : decode cX0_riskiestBut 57 = .ok (.iconst 0, 1) := by decide +kernel
theorem dX0_riskiestBut_58 : decode cX0_riskiestBut 58 = .ok (.goto 4, 3) := by decide +kernel
theorem dX0_riskiestBut_61 : decode cX0_riskiestBut 61 = .ok (.iload_n 2, 1) := by decide +kernel
theorem dX0_riskiestBut_62 : decode cX0_riskiestBut 62 = .ok (.ireturn, 1) := by decide +kernel
theorem dX0_lookAtClients_0 : decode cX0_lookAtClients 0 = .ok (.iconst 0, 1) := by decide +kernel
theorem dX0_lookAtClients_1 : decode cX0_lookAtClients 1 = .ok (.istore_n 1, 1) := by decide +kernel
theorem dX0_lookAtClients_2 : decode cX0_lookAtClients 2 = .ok (.iconst 0, 1) := by decide +kernel
theorem dX0_lookAtClients_3 : decode cX0_lookAtClients 3 = .ok (.istore_n 2, 1) := by decide +kernel
theorem dX0_lookAtClients_4 : decode cX0_lookAtClients 4 = .ok (.iload_n 2, 1) := by decide +kernel
theorem dX0_lookAtClients_5 : decode cX0_lookAtClients 5 = .ok (.bipush 8, 2) := by decide +kernel
theorem dX0_lookAtClients_7 : decode cX0_lookAtClients 7 = .ok (.if_icmp .ge 55, 3) := by decide +kernel
theorem dX0_lookAtClients_10 : decode cX0_lookAtClients 10 = .ok (.aload_n 0, 1) := by decide +kernel
theorem dX0_lookAtClients_11 : decode cX0_lookAtClients 11 = .ok (.getfield 27, 3) := by decide +kernel
theorem dX0_lookAtClients_14 : decode cX0_lookAtClients 14 = .ok (.iload_n 2, 1) := by decide +kernel
theorem dX0_lookAtClients_15 : decode cX0_lookAtClients 15 = .ok (.iaload, 1) := by decide +kernel
theorem dX0_lookAtClients_16 : decode cX0_lookAtClients 16 = .ok (.aload_n 0, 1) := by decide +kernel
theorem dX0_lookAtClients_17 : decode cX0_lookAtClients 17 = .ok (.iload_n 2, 1) := by decide +kernel
theorem dX0_lookAtClients_18 : decode cX0_lookAtClients 18 = .ok (.invokevirtual 94, 3) := by decide +kernel
theorem dX0_lookAtClients_21 : decode cX0_lookAtClients 21 = .ok (.if_icmp .gt 13, 3) := by decide +kernel
theorem dX0_lookAtClients_24 : decode cX0_lookAtClients 24 = .ok (.aload_n 0, 1) := by decide +kernel
theorem dX0_lookAtClients_25 : decode cX0_lookAtClients 25 = .ok (.getfield 30, 3) := by decide +kernel
theorem dX0_lookAtClients_28 : decode cX0_lookAtClients 28 = .ok (.iload_n 2, 1) := by decide +kernel
theorem dX0_lookAtClients_29 : decode cX0_lookAtClients 29 = .ok (.iconst 0, 1) := by decide +kernel
theorem dX0_lookAtClients_30 : decode cX0_lookAtClients 30 = .ok (.iastore, 1) := by decide +kernel
theorem dX0_lookAtClients_31 : decode cX0_lookAtClients 31 = .ok (.goto 25, 3) := by decide +kernel
theorem dX0_lookAtClients_34 : decode cX0_lookAtClients 34 = .ok (.aload_n 0, 1) := by decide +kernel
theorem dX0_lookAtClients_35 : decode cX0_lookAtClients 35 = .ok (.getfield 30, 3) := by decide +kernel
theorem dX0_lookAtClients_38 : decode cX0_lookAtClients 38 = .ok (.iload_n 2, 1) := by decide +kernel
theorem dX0_lookAtClients_39 : decode cX0_lookAtClients 39 = .ok (.iaload, 1) := by decide +kernel
theorem dX0_lookAtClients_40 : decode cX0_lookAtClients 40 = .ok (.ifCond .ne 16, 3) := by decide +kernel
theorem dX0_lookAtClients_43 : decode cX0_lookAtClients 43 = .ok (.aload_n 0, 1) := by decide +kernel
theorem dX0_lookAtClients_44 : decode cX0_lookAtClients 44 = .ok (.getfield 30, 3) := by decide +kernel
theorem dX0_lookAtClients_47 : decode cX0_lookAtClients 47 = .ok (.iload_n 2, 1) := by decide +kernel
theorem dX0_lookAtClients_48 : decode cX0_lookAtClients 48 = .ok (.aload_n 0, 1) := by decide +kernel
theorem dX0_lookAtClients_49 : decode cX0_lookAtClients 49 = .ok (.getfield 41, 3) := by decide +kernel
theorem dX0_lookAtClients_52 : decode cX0_lookAtClients 52 = .ok (.iastore, 1) := by decide +kernel
theorem dX0_lookAtClients_53 : decode cX0_lookAtClients 53 = .ok (.iinc 1 1, 3) := by decide +kernel
theorem dX0_lookAtClients_56 : decode cX0_lookAtClients 56 = .ok (.iinc 2 1, 3) := by decide +kernel
theorem dX0_lookAtClients_59 : decode cX0_lookAtClients 59 = .ok (.goto (-55), 3) := by decide +kernel
theorem dX0_lookAtClients_62 : decode cX0_lookAtClients 62 = .ok (.aload_n 0, 1) := by decide +kernel
theorem dX0_lookAtClients_63 : decode cX0_lookAtClients 63 = .ok (.dup, 1) := by decide +kernel
theorem dX0_lookAtClients_64 : decode cX0_lookAtClients 64 = .ok (.getfield 77, 3) := by decide +kernel
theorem dX0_lookAtClients_67 : decode cX0_lookAtClients 67 = .ok (.iload_n 1, 1) := by decide +kernel
theorem dX0_lookAtClients_68 : decode cX0_lookAtClients 68 = .ok (.iadd, 1) := by decide +kernel
theorem dX0_lookAtClients_69 : decode cX0_lookAtClients 69 = .ok (.putfield 77, 3) := by decide +kernel
theorem dX0_lookAtClients_72 : decode cX0_lookAtClients 72 = .ok (.iload_n 1, 1) := by decide +kernel
theorem dX0_lookAtClients_73 : decode cX0_lookAtClients 73 = .ok (.ireturn, 1) := by decide +kernel
theorem dX0_putPrice_0 : decode cX0_putPrice 0 = .ok (.aload_n 0, 1) := by decide +kernel
theorem dX0_putPrice_1 : decode cX0_putPrice 1 = .ok (.getfield 9, 3) := by decide +kernel
theorem dX0_putPrice_4 : decode cX0_putPrice 4 = .ok (.iload_n 1, 1) := by decide +kernel
theorem dX0_putPrice_5 : decode cX0_putPrice 5 = .ok (.iload_n 2, 1) := by decide +kernel
theorem dX0_putPrice_6 : decode cX0_putPrice 6 = .ok (.iastore, 1) := by decide +kernel
theorem dX0_putPrice_7 : decode cX0_putPrice 7 = .ok (.aload_n 0, 1) := by decide +kernel
theorem dX0_putPrice_8 : decode cX0_putPrice 8 = .ok (.invokevirtual 116, 3) := by decide +kernel
theorem dX0_putPrice_11 : decode cX0_putPrice 11 = .ok (.ireturn, 1) := by decide +kernel
theorem dX0_putCut_0 : decode cX0_putCut 0 = .ok (.aload_n 0, 1) := by decide +kernel
theorem dX0_putCut_1 : decode cX0_putCut 1 = .ok (.getfield 15, 3) := by decide +kernel
theorem dX0_putCut_4 : decode cX0_putCut 4 = .ok (.iload_n 1, 1) := by decide +kernel
theorem dX0_putCut_5 : decode cX0_putCut 5 = .ok (.iload_n 2, 1) := by decide +kernel
theorem dX0_putCut_6 : decode cX0_putCut 6 = .ok (.iastore, 1) := by decide +kernel
theorem dX0_putCut_7 : decode cX0_putCut 7 = .ok (.aload_n 0, 1) := by decide +kernel
theorem dX0_putCut_8 : decode cX0_putCut 8 = .ok (.invokevirtual 116, 3) := by decide +kernel
theorem dX0_putCut_11 : decode cX0_putCut 11 = .ok (.ireturn, 1) := by decide +kernel
theorem dX0_dropPrices_0 : decode cX0_dropPrices 0 = .ok (.iconst 0, 1) := by decide +kernel
theorem dX0_dropPrices_1 : decode cX0_dropPrices 1 = .ok (.istore_n 2, 1) := by decide +kernel
theorem dX0_dropPrices_2 : decode cX0_dropPrices 2 = .ok (.iload_n 2, 1) := by decide +kernel
theorem dX0_dropPrices_3 : decode cX0_dropPrices 3 = .ok (.bipush 6, 2) := by decide +kernel
theorem dX0_dropPrices_5 : decode cX0_dropPrices 5 = .ok (.if_icmp .ge 26, 3) := by decide +kernel
theorem dX0_dropPrices_8 : decode cX0_dropPrices 8 = .ok (.aload_n 0, 1) := by decide +kernel
theorem dX0_dropPrices_9 : decode cX0_dropPrices 9 = .ok (.getfield 9, 3) := by decide +kernel
theorem dX0_dropPrices_12 : decode cX0_dropPrices 12 = .ok (.iload_n 2, 1) := by decide +kernel
theorem dX0_dropPrices_13 : decode cX0_dropPrices 13 = .ok (.aload_n 0, 1) := by decide +kernel
theorem dX0_dropPrices_14 : decode cX0_dropPrices 14 = .ok (.getfield 9, 3) := by decide +kernel
theorem dX0_dropPrices_17 : decode cX0_dropPrices 17 = .ok (.iload_n 2, 1) := by decide +kernel
theorem dX0_dropPrices_18 : decode cX0_dropPrices 18 = .ok (.iaload, 1) := by decide +kernel
theorem dX0_dropPrices_19 : decode cX0_dropPrices 19 = .ok (.iload_n 1, 1) := by decide +kernel
theorem dX0_dropPrices_20 : decode cX0_dropPrices 20 = .ok (.iconst 1, 1) := by decide +kernel
theorem dX0_dropPrices_21 : decode cX0_dropPrices 21 = .ok (.invokestatic 91, 3) := by decide +kernel
theorem dX0_dropPrices_24 : decode cX0_dropPrices 24 = .ok (.iastore, 1) := by decide +kernel
theorem dX0_dropPrices_25 : decode cX0_dropPrices 25 = .ok (.iinc 2 1, 3) := by decide +kernel
theorem dX0_dropPrices_28 : decode cX0_dropPrices 28 = .ok (.goto (-26), 3) := by decide +kernel
theorem dX0_dropPrices_31 : decode cX0_dropPrices 31 = .ok (.aload_n 0, 1) := by decide +kernel
theorem dX0_dropPrices_32 : decode cX0_dropPrices 32 = .ok (.invokevirtual 116, 3) := by decide +kernel
theorem dX0_dropPrices_35 : decode cX0_dropPrices 35 = .ok (.ireturn, 1) := by decide +kernel
theorem dX0_addPieces_0 : decode cX0_addPieces 0 = .ok (.iload_n 1, 1) := by decide +kernel
theorem dX0_addPieces_1 : decode cX0_addPieces 1 = .ok (.iload_n 2, 1) := by decide +kernel
theorem dX0_addPieces_2 : decode cX0_addPieces 2 = .ok (.invokestatic 83, 3) := by decide +kernel
theorem dX0_addPieces_5 : decode cX0_addPieces 5 = .ok (.istore 4, 2) := by decide +kernel
theorem dX0_addPieces_7 : decode cX0_addPieces 7 = .ok (.aload_n 0, 1) := by decide +kernel
theorem dX0_addPieces_8 : decode cX0_addPieces 8 = .ok (.getfield 21, 3) := by decide +kernel
theorem dX0_addPieces_11 : decode cX0_addPieces 11 = .ok (.iload 4, 2) := by decide +kernel
theorem dX0_addPieces_13 : decode cX0_addPieces 13 = .ok (.iaload, 1) := by decide +kernel
theorem dX0_addPieces_14 : decode cX0_addPieces 14 = .ok (.iload_n 3, 1) := by decide +kernel
theorem dX0_addPieces_15 : decode cX0_addPieces 15 = .ok (.iadd, 1) := by decide +kernel
theorem dX0_addPieces_16 : decode cX0_addPieces 16 = .ok (.bipush 99, 2) := by decide +kernel
theorem dX0_addPieces_18 : decode cX0_addPieces 18 = .ok (.if_icmp .le 5, 3) := by decide +kernel
theorem dX0_addPieces_21 : decode cX0_addPieces 21 = .ok (.iconst 0, 1) := by decide +kernel
theorem dX0_addPieces_22 : decode cX0_addPieces 22 = .ok (.ireturn, 1) := by decide +kernel
theorem dX0_addPieces_23 : decode cX0_addPieces 23 = .ok (.aload_n 0, 1) := by decide +kernel
theorem dX0_addPieces_24 : decode cX0_addPieces 24 = .ok (.getfield 21, 3) := by decide +kernel
theorem dX0_addPieces_27 : decode cX0_addPieces 27 = .ok (.iload 4, 2) := by decide +kernel
theorem dX0_addPieces_29 : decode cX0_addPieces 29 = .ok (.dup2, 1) := by decide +kernel
theorem dX0_addPieces_30 : decode cX0_addPieces 30 = .ok (.iaload, 1) := by decide +kernel
theorem dX0_addPieces_31 : decode cX0_addPieces 31 = .ok (.iload_n 3, 1) := by decide +kernel
theorem dX0_addPieces_32 : decode cX0_addPieces 32 = .ok (.iadd, 1) := by decide +kernel
theorem dX0_addPieces_33 : decode cX0_addPieces 33 = .ok (.iastore, 1) := by decide +kernel
theorem dX0_addPieces_34 : decode cX0_addPieces 34 = .ok (.aload_n 0, 1) := by decide +kernel
theorem dX0_addPieces_35 : decode cX0_addPieces 35 = .ok (.invokevirtual 116, 3) := by decide +kernel
theorem dX0_addPieces_38 : decode cX0_addPieces 38 = .ok (.pop, 1) := by decide +kernel
theorem dX0_addPieces_39 : decode cX0_addPieces 39 = .ok (.iconst 1, 1) := by decide +kernel
theorem dX0_addPieces_40 : decode cX0_addPieces 40 = .ok (.ireturn, 1) := by decide +kernel
theorem dX0_takePieces_0 : decode cX0_takePieces 0 = .ok (.iload_n 1, 1) := by decide +kernel
theorem dX0_takePieces_1 : decode cX0_takePieces 1 = .ok (.iload_n 2, 1) := by decide +kernel
theorem dX0_takePieces_2 : decode cX0_takePieces 2 = .ok (.invokestatic 83, 3) := by decide +kernel
theorem dX0_takePieces_5 : decode cX0_takePieces 5 = .ok (.istore 4, 2) := by decide +kernel
theorem dX0_takePieces_7 : decode cX0_takePieces 7 = .ok (.aload_n 0, 1) := by decide +kernel
theorem dX0_takePieces_8 : decode cX0_takePieces 8 = .ok (.getfield 21, 3) := by decide +kernel
theorem dX0_takePieces_11 : decode cX0_takePieces 11 = .ok (.iload 4, 2) := by decide +kernel
theorem dX0_takePieces_13 : decode cX0_takePieces 13 = .ok (.iaload, 1) := by decide +kernel
theorem dX0_takePieces_14 : decode cX0_takePieces 14 = .ok (.iload_n 3, 1) := by decide +kernel
theorem dX0_takePieces_15 : decode cX0_takePieces 15 = .ok (.if_icmp .ge 5, 3) := by decide +kernel
theorem dX0_takePieces_18 : decode cX0_takePieces 18 = .ok (.iconst 0, 1) := by decide +kernel
theorem dX0_takePieces_19 : decode cX0_takePieces 19 = .ok (.ireturn, 1) := by decide +kernel
theorem dX0_takePieces_20 : decode cX0_takePieces 20 = .ok (.aload_n 0, 1) := by decide +kernel
theorem dX0_takePieces_21 : decode cX0_takePieces 21 = .ok (.getfield 21, 3) := by decide +kernel
theorem dX0_takePieces_24 : decode cX0_takePieces 24 = .ok (.iload 4, 2) := by decide +kernel
theorem dX0_takePieces_26 : decode cX0_takePieces 26 = .ok (.dup2, 1) := by decide +kernel
theorem dX0_takePieces_27 : decode cX0_takePieces 27 = .ok (.iaload, 1) := by decide +kernel
theorem dX0_takePieces_28 : decode cX0_takePieces 28 = .ok (.iload_n 3, 1) := by decide +kernel
theorem dX0_takePieces_29 : decode cX0_takePieces 29 = .ok (.isub, 1) := by decide +kernel
theorem dX0_takePieces_30 : decode cX0_takePieces 30 = .ok (.iastore, 1) := by decide +kernel
theorem dX0_takePieces_31 : decode cX0_takePieces 31 = .ok (.aload_n 0, 1) := by decide +kernel
theorem dX0_takePieces_32 : decode cX0_takePieces 32 = .ok (.getfield 27, 3) := by decide +kernel
theorem dX0_takePieces_35 : decode cX0_takePieces 35 = .ok (.iload_n 1, 1) := by decide +kernel
theorem dX0_takePieces_36 : decode cX0_takePieces 36 = .ok (.iaload, 1) := by decide +kernel
theorem dX0_takePieces_37 : decode cX0_takePieces 37 = .ok (.aload_n 0, 1) := by decide +kernel
theorem dX0_takePieces_38 : decode cX0_takePieces 38 = .ok (.iload_n 1, 1) := by decide +kernel
theorem dX0_takePieces_39 : decode cX0_takePieces 39 = .ok (.invokevirtual 94, 3) := by decide +kernel
theorem dX0_takePieces_42 : decode cX0_takePieces 42 = .ok (.if_icmp .le 16, 3) := by decide +kernel
theorem dX0_takePieces_45 : decode cX0_takePieces 45 = .ok (.aload_n 0, 1) := by decide +kernel
theorem dX0_takePieces_46 : decode cX0_takePieces 46 = .ok (.getfield 21, 3) := by decide +kernel
theorem dX0_takePieces_49 : decode cX0_takePieces 49 = .ok (.iload 4, 2) := by decide +kernel
theorem dX0_takePieces_51 : decode cX0_takePieces 51 = .ok (.dup2, 1) := by decide +kernel
theorem dX0_takePieces_52 : decode cX0_takePieces 52 = .ok (.iaload, 1) := by decide +kernel
theorem dX0_takePieces_53 : decode cX0_takePieces 53 = .ok (.iload_n 3, 1) := by decide +kernel
theorem dX0_takePieces_54 : decode cX0_takePieces 54 = .ok (.iadd, 1) := by decide +kernel
theorem dX0_takePieces_55 : decode cX0_takePieces 55 = .ok (.iastore, 1) := by decide +kernel
theorem dX0_takePieces_56 : decode cX0_takePieces 56 = .ok (.iconst 0, 1) := by decide +kernel
theorem dX0_takePieces_57 : decode cX0_takePieces 57 = .ok (.ireturn, 1) := by decide +kernel
theorem dX0_takePieces_58 : decode cX0_takePieces 58 = .ok (.aload_n 0, 1) := by decide +kernel
theorem dX0_takePieces_59 : decode cX0_takePieces 59 = .ok (.invokevirtual 116, 3) := by decide +kernel
theorem dX0_takePieces_62 : decode cX0_takePieces 62 = .ok (.pop, 1) := by decide +kernel
theorem dX0_takePieces_63 : decode cX0_takePieces 63 = .ok (.iconst 1, 1) := by decide +kernel
theorem dX0_takePieces_64 : decode cX0_takePieces 64 = .ok (.ireturn, 1) := by decide +kernel
theorem dX0_addCoins_0 : decode cX0_addCoins 0 = .ok (.aload_n 0, 1) := by decide +kernel
theorem dX0_addCoins_1 : decode cX0_addCoins 1 = .ok (.getfield 24, 3) := by decide +kernel
theorem dX0_addCoins_4 : decode cX0_addCoins 4 = .ok (.iload_n 1, 1) := by decide +kernel
theorem dX0_addCoins_5 : decode cX0_addCoins 5 = .ok (.iaload, 1) := by decide +kernel
theorem dX0_addCoins_6 : decode cX0_addCoins 6 = .ok (.iload_n 2, 1) := by decide +kernel
theorem dX0_addCoins_7 : decode cX0_addCoins 7 = .ok (.iadd, 1) := by decide +kernel
theorem dX0_addCoins_8 : decode cX0_addCoins 8 = .ok (.ldc 120, 2) := by decide +kernel
theorem dX0_addCoins_10 : decode cX0_addCoins 10 = .ok (.if_icmp .le 5, 3) := by decide +kernel
theorem dX0_addCoins_13 : decode cX0_addCoins 13 = .ok (.iconst 0, 1) := by decide +kernel
theorem dX0_addCoins_14 : decode cX0_addCoins 14 = .ok (.ireturn, 1) := by decide +kernel
theorem dX0_addCoins_15 : decode cX0_addCoins 15 = .ok (.aload_n 0, 1) := by decide +kernel
theorem dX0_addCoins_16 : decode cX0_addCoins 16 = .ok (.getfield 24, 3) := by decide +kernel
theorem dX0_addCoins_19 : decode cX0_addCoins 19 = .ok (.iload_n 1, 1) := by decide +kernel
theorem dX0_addCoins_20 : decode cX0_addCoins 20 = .ok (.dup2, 1) := by decide +kernel
theorem dX0_addCoins_21 : decode cX0_addCoins 21 = .ok (.iaload, 1) := by decide +kernel
theorem dX0_addCoins_22 : decode cX0_addCoins 22 = .ok (.iload_n 2, 1) := by decide +kernel
theorem dX0_addCoins_23 : decode cX0_addCoins 23 = .ok (.iadd, 1) := by decide +kernel
theorem dX0_addCoins_24 : decode cX0_addCoins 24 = .ok (.iastore, 1) := by decide +kernel
theorem dX0_addCoins_25 : decode cX0_addCoins 25 = .ok (.aload_n 0, 1) := by decide +kernel
theorem dX0_addCoins_26 : decode cX0_addCoins 26 = .ok (.invokevirtual 116, 3) := by decide +kernel
theorem dX0_addCoins_29 : decode cX0_addCoins 29 = .ok (.pop, 1) := by decide +kernel
theorem dX0_addCoins_30 : decode cX0_addCoins 30 = .ok (.iconst 1, 1) := by decide +kernel
theorem dX0_addCoins_31 : decode cX0_addCoins 31 = .ok (.ireturn, 1) := by decide +kernel
theorem dX0_addDebt_0 : decode cX0_addDebt 0 = .ok (.aload_n 0, 1) := by decide +kernel
theorem dX0_addDebt_1 : decode cX0_addDebt 1 = .ok (.getfield 33, 3) := by decide +kernel
theorem dX0_addDebt_4 : decode cX0_addDebt 4 = .ok (.iload_n 1, 1) := by decide +kernel
theorem dX0_addDebt_5 : decode cX0_addDebt 5 = .ok (.baload, 1) := by decide +kernel
theorem dX0_addDebt_6 : decode cX0_addDebt 6 = .ok (.ifCond .ne 19, 3) := by decide +kernel
theorem dX0_addDebt_9 : decode cX0_addDebt 9 = .ok (.aload_n 0, 1) := by decide +kernel
theorem dX0_addDebt_10 : decode cX0_addDebt 10 = .ok (.getfield 27, 3) := by decide +kernel
theorem dX0_addDebt_13 : decode cX0_addDebt 13 = .ok (.iload_n 1, 1) := by decide +kernel
theorem dX0_addDebt_14 : decode cX0_addDebt 14 = .ok (.iaload, 1) := by decide +kernel
theorem dX0_addDebt_15 : decode cX0_addDebt 15 = .ok (.iload_n 2, 1) := by decide +kernel
theorem dX0_addDebt_16 : decode cX0_addDebt 16 = .ok (.iadd, 1) := by decide +kernel
theorem dX0_addDebt_17 : decode cX0_addDebt 17 = .ok (.aload_n 0, 1) := by decide +kernel
theorem dX0_addDebt_18 : decode cX0_addDebt 18 = .ok (.iload_n 1, 1) := by decide +kernel
theorem dX0_addDebt_19 : decode cX0_addDebt 19 = .ok (.invokevirtual 94, 3) := by decide +kernel
theorem dX0_addDebt_22 : decode cX0_addDebt 22 = .ok (.if_icmp .le 5, 3) := by decide +kernel
theorem dX0_addDebt_25 : decode cX0_addDebt 25 = .ok (.iconst 0, 1) := by decide +kernel
theorem dX0_addDebt_26 : decode cX0_addDebt 26 = .ok (.ireturn, 1) := by decide +kernel
theorem dX0_addDebt_27 : decode cX0_addDebt 27 = .ok (.aload_n 0, 1) := by decide +kernel
theorem dX0_addDebt_28 : decode cX0_addDebt 28 = .ok (.getfield 27, 3) := by decide +kernel
theorem dX0_addDebt_31 : decode cX0_addDebt 31 = .ok (.iload_n 1, 1) := by decide +kernel
theorem dX0_addDebt_32 : decode cX0_addDebt 32 = .ok (.dup2, 1) := by decide +kernel
theorem dX0_addDebt_33 : decode cX0_addDebt 33 = .ok (.iaload, 1) := by decide +kernel
theorem dX0_addDebt_34 : decode cX0_addDebt 34 = .ok (.iload_n 2, 1) := by decide +kernel
theorem dX0_addDebt_35 : decode cX0_addDebt 35 = .ok (.iadd, 1) := by decide +kernel
theorem dX0_addDebt_36 : decode cX0_addDebt 36 = .ok (.iastore, 1) := by decide +kernel
theorem dX0_addDebt_37 : decode cX0_addDebt 37 = .ok (.aload_n 0, 1) := by decide +kernel
theorem dX0_addDebt_38 : decode cX0_addDebt 38 = .ok (.dup, 1) := by decide +kernel
theorem dX0_addDebt_39 : decode cX0_addDebt 39 = .ok (.getfield 65, 3) := by decide +kernel
theorem dX0_addDebt_42 : decode cX0_addDebt 42 = .ok (.iload_n 2, 1) := by decide +kernel
theorem dX0_addDebt_43 : decode cX0_addDebt 43 = .ok (.iadd, 1) := by decide +kernel
theorem dX0_addDebt_44 : decode cX0_addDebt 44 = .ok (.putfield 65, 3) := by decide +kernel
theorem dX0_addDebt_47 : decode cX0_addDebt 47 = .ok (.aload_n 0, 1) := by decide +kernel
theorem dX0_addDebt_48 : decode cX0_addDebt 48 = .ok (.invokevirtual 116, 3) := by decide +kernel
theorem dX0_addDebt_51 : decode cX0_addDebt 51 = .ok (.pop, 1) := by decide +kernel
theorem dX0_addDebt_52 : decode cX0_addDebt 52 = .ok (.iconst 1, 1) := by decide +kernel
theorem dX0_addDebt_53 : decode cX0_addDebt 53 = .ok (.ireturn, 1) := by decide +kernel
theorem dX0_takeDebt_0 : decode cX0_takeDebt 0 = .ok (.aload_n 0, 1) := by decide +kernel
theorem dX0_takeDebt_1 : decode cX0_takeDebt 1 = .ok (.getfield 27, 3) := by decide +kernel
theorem dX0_takeDebt_4 : decode cX0_takeDebt 4 = .ok (.iload_n 1, 1) := by decide +kernel
theorem dX0_takeDebt_5 : decode cX0_takeDebt 5 = .ok (.iaload, 1) := by decide +kernel
theorem dX0_takeDebt_6 : decode cX0_takeDebt 6 = .ok (.ifCond .ne 5, 3) := by decide +kernel
theorem dX0_takeDebt_9 : decode cX0_takeDebt 9 = .ok (.iconst (-1), 1) := by decide +kernel
theorem dX0_takeDebt_10 : decode cX0_takeDebt 10 = .ok (.ireturn, 1) := by decide +kernel
theorem dX0_takeDebt_11 : decode cX0_takeDebt 11 = .ok (.iload_n 2, 1) := by decide +kernel
theorem dX0_takeDebt_12 : decode cX0_takeDebt 12 = .ok (.aload_n 0, 1) := by decide +kernel
theorem dX0_takeDebt_13 : decode cX0_takeDebt 13 = .ok (.getfield 27, 3) := by decide +kernel
theorem dX0_takeDebt_16 : decode cX0_takeDebt 16 = .ok (.iload_n 1, 1) := by decide +kernel
theorem dX0_takeDebt_17 : decode cX0_takeDebt 17 = .ok (.iaload, 1) := by decide +kernel
theorem dX0_takeDebt_18 : decode cX0_takeDebt 18 = .ok (.if_icmp .ge 7, 3) := by decide +kernel
theorem dX0_takeDebt_21 : decode cX0_takeDebt 21 = .ok (.iload_n 2, 1) := by decide +kernel
theorem dX0_takeDebt_22 : decode cX0_takeDebt 22 = .ok (.goto 9, 3) := by decide +kernel
theorem dX0_takeDebt_25 : decode cX0_takeDebt 25 = .ok (.aload_n 0, 1) := by decide +kernel
theorem dX0_takeDebt_26 : decode cX0_takeDebt 26 = .ok (.getfield 27, 3) := by decide +kernel
theorem dX0_takeDebt_29 : decode cX0_takeDebt 29 = .ok (.iload_n 1, 1) := by decide +kernel
theorem dX0_takeDebt_30 : decode cX0_takeDebt 30 = .ok (.iaload, 1) := by decide +kernel
theorem dX0_takeDebt_31 : decode cX0_takeDebt 31 = .ok (.istore_n 3, 1) := by decide +kernel
theorem dX0_takeDebt_32 : decode cX0_takeDebt 32 = .ok (.aload_n 0, 1) := by decide +kernel
theorem dX0_takeDebt_33 : decode cX0_takeDebt 33 = .ok (.getfield 27, 3) := by decide +kernel
theorem dX0_takeDebt_36 : decode cX0_takeDebt 36 = .ok (.iload_n 1, 1) := by decide +kernel
theorem dX0_takeDebt_37 : decode cX0_takeDebt 37 = .ok (.dup2, 1) := by decide +kernel
theorem dX0_takeDebt_38 : decode cX0_takeDebt 38 = .ok (.iaload, 1) := by decide +kernel
theorem dX0_takeDebt_39 : decode cX0_takeDebt 39 = .ok (.iload_n 3, 1) := by decide +kernel
theorem dX0_takeDebt_40 : decode cX0_takeDebt 40 = .ok (.isub, 1) := by decide +kernel
theorem dX0_takeDebt_41 : decode cX0_takeDebt 41 = .ok (.iastore, 1) := by decide +kernel
theorem dX0_takeDebt_42 : decode cX0_takeDebt 42 = .ok (.aload_n 0, 1) := by decide +kernel
theorem dX0_takeDebt_43 : decode cX0_takeDebt 43 = .ok (.dup, 1) := by decide +kernel
theorem dX0_takeDebt_44 : decode cX0_takeDebt 44 = .ok (.getfield 71, 3) := by decide +kernel
theorem dX0_takeDebt_47 : decode cX0_takeDebt 47 = .ok (.iload_n 3, 1) := by decide +kernel
theorem dX0_takeDebt_48 : decode cX0_takeDebt 48 = .ok (.iadd, 1) := by decide +kernel
theorem dX0_takeDebt_49 : decode cX0_takeDebt 49 = .ok (.putfield 71, 3) := by decide +kernel
theorem dX0_takeDebt_52 : decode cX0_takeDebt 52 = .ok (.aload_n 0, 1) := by decide +kernel
theorem dX0_takeDebt_53 : decode cX0_takeDebt 53 = .ok (.invokevirtual 116, 3) := by decide +kernel
theorem dX0_takeDebt_56 : decode cX0_takeDebt 56 = .ok (.pop, 1) := by decide +kernel
theorem dX0_takeDebt_57 : decode cX0_takeDebt 57 = .ok (.iload_n 3, 1) := by decide +kernel
theorem dX0_takeDebt_58 : decode cX0_takeDebt 58 = .ok (.ireturn, 1) := by decide +kernel
theorem dX0_passHours_0 : decode cX0_passHours 0 = .ok (.aload_n 0, 1) := by decide +kernel
theorem dX0_passHours_1 : decode cX0_passHours 1 = .ok (.getfield 80, 3) := by decide +kernel
theorem dX0_passHours_4 : decode cX0_passHours 4 = .ok (.istore_n 3, 1) := by decide +kernel
theorem dX0_passHours_5 : decode cX0_passHours 5 = .ok (.iconst 0, 1) := by decide +kernel
theorem dX0_passHours_6 : decode cX0_passHours 6 = .ok (.istore 4, 2) := by decide +kernel
theorem dX0_passHours_8 : decode cX0_passHours 8 = .ok (.iload 4, 2) := by decide +kernel
theorem dX0_passHours_10 : decode cX0_passHours 10 = .ok (.iload_n 1, 1) := by decide +kernel
theorem dX0_passHours_11 : decode cX0_passHours 11 = .ok (.if_icmp .ge 41, 3) := by decide +kernel
theorem dX0_passHours_14 : decode cX0_passHours 14 = .ok (.aload_n 0, 1) := by decide +kernel
theorem dX0_passHours_15 : decode cX0_passHours 15 = .ok (.invokevirtual 121, 3) := by decide +kernel
theorem dX0_passHours_18 : decode cX0_passHours 18 = .ok (.istore 5, 2) := by decide +kernel
theorem dX0_passHours_20 : decode cX0_passHours 20 = .ok (.aload_n 0, 1) := by decide +kernel
theorem dX0_passHours_21 : decode cX0_passHours 21 = .ok (.dup, 1) := by decide +kernel
theorem dX0_passHours_22 : decode cX0_passHours 22 = .ok (.getfield 62, 3) := by decide +kernel
theorem dX0_passHours_25 : decode cX0_passHours 25 = .ok (.iconst 1, 1) := by decide +kernel
theorem dX0_passHours_26 : decode cX0_passHours 26 = .ok (.iadd, 1) := by decide +kernel
theorem dX0_passHours_27 : decode cX0_passHours 27 = .ok (.putfield 62, 3) := by decide +kernel
theorem dX0_passHours_30 : decode cX0_passHours 30 = .ok (.aload_n 0, 1) := by decide +kernel
theorem dX0_passHours_31 : decode cX0_passHours 31 = .ok (.invokevirtual 124, 3) := by decide +kernel
theorem dX0_passHours_34 : decode cX0_passHours 34 = .ok (.aload_n 0, 1) := by decide +kernel
theorem dX0_passHours_35 : decode cX0_passHours 35 = .ok (.invokevirtual 116, 3) := by decide +kernel
theorem dX0_passHours_38 : decode cX0_passHours 38 = .ok (.pop, 1) := by decide +kernel
theorem dX0_passHours_39 : decode cX0_passHours 39 = .ok (.aload_n 0, 1) := by decide +kernel
theorem dX0_passHours_40 : decode cX0_passHours 40 = .ok (.iload 5, 2) := by decide +kernel
theorem dX0_passHours_42 : decode cX0_passHours 42 = .ok (.aload_n 2, 1) := by decide +kernel
theorem dX0_passHours_43 : decode cX0_passHours 43 = .ok (.invokevirtual 127, 3) := by decide +kernel
theorem dX0_passHours_46 : decode cX0_passHours 46 = .ok (.iinc 4 1, 3) := by decide +kernel
theorem dX0_passHours_49 : decode cX0_passHours 49 = .ok (.goto (-41), 3) := by decide +kernel
theorem dX0_passHours_52 : decode cX0_passHours 52 = .ok (.aload_n 0, 1) := by decide +kernel
theorem dX0_passHours_53 : decode cX0_passHours 53 = .ok (.invokevirtual 116, 3) := by decide +kernel
theorem dX0_passHours_56 : decode cX0_passHours 56 = .ok (.pop, 1) := by decide +kernel
theorem dX0_passHours_57 : decode cX0_passHours 57 = .ok (.aload_n 0, 1) := by decide +kernel
theorem dX0_passHours_58 : decode cX0_passHours 58 = .ok (.getfield 80, 3) := by decide +kernel
theorem dX0_passHours_61 : decode cX0_passHours 61 = .ok (.iload_n 3, 1) := by decide +kernel
theorem dX0_passHours_62 : decode cX0_passHours 62 = .ok (.isub, 1) := by decide +kernel
theorem dX0_passHours_63 : decode cX0_passHours 63 = .ok (.ireturn, 1) := by decide +kernel
theorem dX0_calledAsBits_0 : decode cX0_calledAsBits 0 = .ok (.iconst 0, 1) := by decide +kernel
theorem dX0_calledAsBits_1 : decode cX0_calledAsBits 1 = .ok (.istore_n 1, 1) := by decide +kernel
theorem dX0_calledAsBits_2 : decode cX0_calledAsBits 2 = .ok (.iconst 0, 1) := by decide +kernel
theorem dX0_calledAsBits_3 : decode cX0_calledAsBits 3 = .ok (.istore_n 2, 1) := by decide +kernel
theorem dX0_calledAsBits_4 : decode cX0_calledAsBits 4 = .ok (.iload_n 2, 1) := by decide +kernel
theorem dX0_calledAsBits_5 : decode cX0_calledAsBits 5 = .ok (.bipush 8, 2) := by decide +kernel
theorem dX0_calledAsBits_7 : decode cX0_calledAsBits 7 = .ok (.if_icmp .ge 28, 3) := by decide +kernel
theorem dX0_calledAsBits_10 : decode cX0_calledAsBits 10 = .ok (.iload_n 1, 1) := by decide +kernel
theorem dX0_calledAsBits_11 : decode cX0_calledAsBits 11 = .ok (.aload_n 0, 1) := by decide +kernel
theorem dX0_calledAsBits_12 : decode cX0_calledAsBits 12 = .ok (.getfield 30, 3) := by decide +kernel
theorem dX0_calledAsBits_15 : decode cX0_calledAsBits 15 = .ok (.iload_n 2, 1) := by decide +kernel
theorem dX0_calledAsBits_16 : decode cX0_calledAsBits 16 = .ok (.iaload, 1) := by decide +kernel
theorem dX0_calledAsBits_17 : decode cX0_calledAsBits 17 = .ok (.ifCond .le 9, 3) := by decide +kernel
theorem dX0_calledAsBits_20 : decode cX0_calledAsBits 20 = .ok (.iconst 1, 1) := by decide +kernel
theorem dX0_calledAsBits_21 : decode cX0_calledAsBits 21 = .ok (.iload_n 2, 1) := by decide +kernel
theorem dX0_calledAsBits_22 : decode cX0_calledAsBits 22 = .ok (.ishl, 1) := by decide +kernel
theorem dX0_calledAsBits_23 : decode cX0_calledAsBits 23 = .ok (.goto 4, 3) := by decide +kernel
theorem dX0_calledAsBits_26 : decode cX0_calledAsBits 26 = .ok (.iconst 0, 1) := by decide +kernel
theorem dX0_calledAsBits_27 : decode cX0_calledAsBits 27 = .ok (.ior, 1) := by decide +kernel
theorem dX0_calledAsBits_28 : decode cX0_calledAsBits 28 = .ok (.istore_n 1, 1) := by decide +kernel
theorem dX0_calledAsBits_29 : decode cX0_calledAsBits 29 = .ok (.iinc 2 1, 3) := by decide +kernel
theorem dX0_calledAsBits_32 : decode cX0_calledAsBits 32 = .ok (.goto (-28), 3) := by decide +kernel
theorem dX0_calledAsBits_35 : decode cX0_calledAsBits 35 = .ok (.iload_n 1, 1) := by decide +kernel
theorem dX0_calledAsBits_36 : decode cX0_calledAsBits 36 = .ok (.ireturn, 1) := by decide +kernel
theorem dX0_addInterest_0 : decode cX0_addInterest 0 = .ok (.iconst 0, 1) := by decide +kernel
theorem dX0_addInterest_1 : decode cX0_addInterest 1 = .ok (.istore_n 1, 1) := by decide +kernel
theorem dX0_addInterest_2 : decode cX0_addInterest 2 = .ok (.iload_n 1, 1) := by decide +kernel
theorem dX0_addInterest_3 : decode cX0_addInterest 3 = .ok (.bipush 8, 2) := by decide +kernel
theorem dX0_addInterest_5 : decode cX0_addInterest 5 = .ok (.if_icmp .ge 40, 3) := by decide +kernel
theorem dX0_addInterest_8 : decode cX0_addInterest 8 = .ok (.aload_n 0, 1) := by decide +kernel
theorem dX0_addInterest_9 : decode cX0_addInterest 9 = .ok (.aload_n 0, 1) := by decide +kernel
theorem dX0_addInterest_10 : decode cX0_addInterest 10 = .ok (.getfield 27, 3) := by decide +kernel
theorem dX0_addInterest_13 : decode cX0_addInterest 13 = .ok (.iload_n 1, 1) := by decide +kernel
theorem dX0_addInterest_14 : decode cX0_addInterest 14 = .ok (.iaload, 1) := by decide +kernel
theorem dX0_addInterest_15 : decode cX0_addInterest 15 = .ok (.invokevirtual 106, 3) := by decide +kernel
theorem dX0_addInterest_18 : decode cX0_addInterest 18 = .ok (.istore_n 2, 1) := by decide +kernel
theorem dX0_addInterest_19 : decode cX0_addInterest 19 = .ok (.aload_n 0, 1) := by decide +kernel
theorem dX0_addInterest_20 : decode cX0_addInterest 20 = .ok (.getfield 27, 3) := by decide +kernel
theorem dX0_addInterest_23 : decode cX0_addInterest 23 = .ok (.iload_n 1, 1) := by decide +kernel
theorem dX0_addInterest_24 : decode cX0_addInterest 24 = .ok (.dup2, 1) := by decide +kernel
theorem dX0_addInterest_25 : decode cX0_addInterest 25 = .ok (.iaload, 1) := by decide +kernel
theorem dX0_addInterest_26 : decode cX0_addInterest 26 = .ok (.iload_n 2, 1) := by decide +kernel
theorem dX0_addInterest_27 : decode cX0_addInterest 27 = .ok (.iadd, 1) := by decide +kernel
theorem dX0_addInterest_28 : decode cX0_addInterest 28 = .ok (.iastore, 1) := by decide +kernel
theorem dX0_addInterest_29 : decode cX0_addInterest 29 = .ok (.aload_n 0, 1) := by decide +kernel
theorem dX0_addInterest_30 : decode cX0_addInterest 30 = .ok (.dup, 1) := by decide +kernel
theorem dX0_addInterest_31 : decode cX0_addInterest 31 = .ok (.getfield 68, 3) := by decide +kernel
theorem dX0_addInterest_34 : decode cX0_addInterest 34 = .ok (.iload_n 2, 1) := by decide +kernel
theorem dX0_addInterest_35 : decode cX0_addInterest 35 = .ok (.iadd, 1) := by decide +kernel
theorem dX0_addInterest_36 : decode cX0_addInterest 36 = .ok (.putfield 68, 3) := by decide +kernel
theorem dX0_addInterest_39 : decode cX0_addInterest 39 = .ok (.iinc 1 1, 3) := by decide +kernel
theorem dX0_addInterest_42 : decode cX0_addInterest 42 = .ok (.goto (-40), 3) := by decide +kernel
theorem dX0_addInterest_45 : decode cX0_addInterest 45 = .ok (.return_, 1) := by decide +kernel
theorem dX0_countDown_0 : decode cX0_countDown 0 = .ok (.iconst 0, 1) := by decide +kernel
theorem dX0_countDown_1 : decode cX0_countDown 1 = .ok (.istore_n 3, 1) := by decide +kernel
theorem dX0_countDown_2 : decode cX0_countDown 2 = .ok (.iload_n 3, 1) := by decide +kernel
theorem dX0_countDown_3 : decode cX0_countDown 3 = .ok (.bipush 8, 2) := by decide +kernel
theorem dX0_countDown_5 : decode cX0_countDown 5 = .ok (.if_icmp .ge 69, 3) := by decide +kernel
theorem dX0_countDown_8 : decode cX0_countDown 8 = .ok (.iload_n 1, 1) := by decide +kernel
theorem dX0_countDown_9 : decode cX0_countDown 9 = .ok (.iload_n 3, 1) := by decide +kernel
theorem dX0_countDown_10 : decode cX0_countDown 10 = .ok (.ishr, 1) := by decide +kernel
theorem dX0_countDown_11 : decode cX0_countDown 11 = .ok (.iconst 1, 1) := by decide +kernel
theorem dX0_countDown_12 : decode cX0_countDown 12 = .ok (.iand, 1) := by decide +kernel
theorem dX0_countDown_13 : decode cX0_countDown 13 = .ok (.ifCond .eq 7, 3) := by decide +kernel
theorem dX0_countDown_16 : decode cX0_countDown 16 = .ok (.iconst 1, 1) := by decide +kernel
theorem dX0_countDown_17 : decode cX0_countDown 17 = .ok (.goto 4, 3) := by decide +kernel
theorem dX0_countDown_20 : decode cX0_countDown 20 = .ok (.iconst 0, 1) := by decide +kernel
theorem dX0_countDown_21 : decode cX0_countDown 21 = .ok (.istore 4, 2) := by decide +kernel
theorem dX0_countDown_23 : decode cX0_countDown 23 = .ok (.iload 4, 2) := by decide +kernel
theorem dX0_countDown_25 : decode cX0_countDown 25 = .ok (.ifCond .eq 43, 3) := by decide +kernel
theorem dX0_countDown_28 : decode cX0_countDown 28 = .ok (.aload_n 0, 1) := by decide +kernel
theorem dX0_countDown_29 : decode cX0_countDown 29 = .ok (.getfield 30, 3) := by decide +kernel
theorem dX0_countDown_32 : decode cX0_countDown 32 = .ok (.iload_n 3, 1) := by decide +kernel
theorem dX0_countDown_33 : decode cX0_countDown 33 = .ok (.iaload, 1) := by decide +kernel
theorem dX0_countDown_34 : decode cX0_countDown 34 = .ok (.ifCond .le 34, 3) := by decide +kernel
theorem dX0_countDown_37 : decode cX0_countDown 37 = .ok (.aload_n 0, 1) := by decide +kernel
theorem dX0_countDown_38 : decode cX0_countDown 38 = .ok (.getfield 30, 3) := by decide +kernel
theorem dX0_countDown_41 : decode cX0_countDown 41 = .ok (.iload_n 3, 1) := by decide +kernel
theorem dX0_countDown_42 : decode cX0_countDown 42 = .ok (.dup2, 1) := by decide +kernel
theorem dX0_countDown_43 : decode cX0_countDown 43 = .ok (.iaload, 1) := by decide +kernel
theorem dX0_countDown_44 : decode cX0_countDown 44 = .ok (.iconst 1, 1) := by decide +kernel
theorem dX0_countDown_45 : decode cX0_countDown 45 = .ok (.isub, 1) := by decide +kernel
theorem dX0_countDown_46 : decode cX0_countDown 46 = .ok (.iastore, 1) := by decide +kernel
theorem dX0_countDown_47 : decode cX0_countDown 47 = .ok (.aload_n 0, 1) := by decide +kernel
theorem dX0_countDown_48 : decode cX0_countDown 48 = .ok (.getfield 30, 3) := by decide +kernel
theorem dX0_countDown_51 : decode cX0_countDown 51 = .ok (.iload_n 3, 1) := by decide +kernel
theorem dX0_countDown_52 : decode cX0_countDown 52 = .ok (.iaload, 1) := by decide +kernel
theorem dX0_countDown_53 : decode cX0_countDown 53 = .ok (.ifCond .ne 15, 3) := by decide +kernel
theorem dX0_countDown_56 : decode cX0_countDown 56 = .ok (.aload_n 2, 1) := by decide +kernel
theorem dX0_countDown_57 : decode cX0_countDown 57 = .ok (.aload_n 0, 1) := by decide +kernel
theorem dX0_countDown_58 : decode cX0_countDown 58 = .ok (.iload_n 3, 1) := by decide +kernel
theorem dX0_countDown_59 : decode cX0_countDown 59 = .ok (.invokevirtual 131, 3) := by decide +kernel
theorem dX0_countDown_62 : decode cX0_countDown 62 = .ok (.aload_n 0, 1) := by decide +kernel
theorem dX0_countDown_63 : decode cX0_countDown 63 = .ok (.aload_n 2, 1) := by decide +kernel
theorem dX0_countDown_64 : decode cX0_countDown 64 = .ok (.iload_n 3, 1) := by decide +kernel
theorem dX0_countDown_65 : decode cX0_countDown 65 = .ok (.invokevirtual 137, 3) := by decide +kernel
theorem dX0_countDown_68 : decode cX0_countDown 68 = .ok (.iinc 3 1, 3) := by decide +kernel
theorem dX0_countDown_71 : decode cX0_countDown 71 = .ok (.goto (-69), 3) := by decide +kernel
theorem dX0_countDown_74 : decode cX0_countDown 74 = .ok (.return_, 1) := by decide +kernel
theorem dX0_enterSale_0 : decode cX0_enterSale 0 = .ok (.iconst 0, 1) := by decide +kernel
theorem dX0_enterSale_1 : decode cX0_enterSale 1 = .ok (.istore_n 3, 1) := by decide +kernel
theorem dX0_enterSale_2 : decode cX0_enterSale 2 = .ok (.iload_n 3, 1) := by decide +kernel
theorem dX0_enterSale_3 : decode cX0_enterSale 3 = .ok (.bipush 6, 2) := by decide +kernel
theorem dX0_enterSale_5 : decode cX0_enterSale 5 = .ok (.if_icmp .ge 52, 3) := by decide +kernel
theorem dX0_enterSale_8 : decode cX0_enterSale 8 = .ok (.iload_n 2, 1) := by decide +kernel
theorem dX0_enterSale_9 : decode cX0_enterSale 9 = .ok (.iload_n 3, 1) := by decide +kernel
theorem dX0_enterSale_10 : decode cX0_enterSale 10 = .ok (.invokestatic 83, 3) := by decide +kernel
theorem dX0_enterSale_13 : decode cX0_enterSale 13 = .ok (.istore 4, 2) := by decide +kernel
theorem dX0_enterSale_15 : decode cX0_enterSale 15 = .ok (.aload_n 0, 1) := by decide +kernel
theorem dX0_enterSale_16 : decode cX0_enterSale 16 = .ok (.getfield 18, 3) := by decide +kernel
theorem dX0_enterSale_19 : decode cX0_enterSale 19 = .ok (.iload_n 3, 1) := by decide +kernel
theorem dX0_enterSale_20 : decode cX0_enterSale 20 = .ok (.dup2, 1) := by decide +kernel
theorem dX0_enterSale_21 : decode cX0_enterSale 21 = .ok (.iaload, 1) := by decide +kernel
theorem dX0_enterSale_22 : decode cX0_enterSale 22 = .ok (.aload_n 0, 1) := by decide +kernel
theorem dX0_enterSale_23 : decode cX0_enterSale 23 = .ok (.getfield 21, 3) := by decide +kernel
theorem dX0_enterSale_26 : decode cX0_enterSale 26 = .ok (.iload 4, 2) := by decide +kernel
theorem dX0_enterSale_28 : decode cX0_enterSale 28 = .ok (.iaload, 1) := by decide +kernel
theorem dX0_enterSale_29 : decode cX0_enterSale 29 = .ok (.aload_n 1, 1) := by decide +kernel
theorem dX0_enterSale_30 : decode cX0_enterSale 30 = .ok (.getfield 141, 3) := by decide +kernel
theorem dX0_enterSale_33 : decode cX0_enterSale 33 = .ok (.iload_n 3, 1) := by decide +kernel
theorem dX0_enterSale_34 : decode cX0_enterSale 34 = .ok (.iaload, 1) := by decide +kernel
theorem dX0_enterSale_35 : decode cX0_enterSale 35 = .ok (.isub, 1) := by decide +kernel
theorem dX0_enterSale_36 : decode cX0_enterSale 36 = .ok (.iadd, 1) := by decide +kernel
theorem dX0_enterSale_37 : decode cX0_enterSale 37 = .ok (.iastore, 1) := by decide +kernel
theorem dX0_enterSale_38 : decode cX0_enterSale 38 = .ok (.aload_n 0, 1) := by decide +kernel
theorem dX0_enterSale_39 : decode cX0_enterSale 39 = .ok (.getfield 21, 3) := by decide +kernel
theorem dX0_enterSale_42 : decode cX0_enterSale 42 = .ok (.iload 4, 2) := by decide +kernel
theorem dX0_enterSale_44 : decode cX0_enterSale 44 = .ok (.aload_n 1, 1) := by decide +kernel
theorem dX0_enterSale_45 : decode cX0_enterSale 45 = .ok (.getfield 141, 3) := by decide +kernel
theorem dX0_enterSale_48 : decode cX0_enterSale 48 = .ok (.iload_n 3, 1) := by decide +kernel
theorem dX0_enterSale_49 : decode cX0_enterSale 49 = .ok (.iaload, 1) := by decide +kernel
theorem dX0_enterSale_50 : decode cX0_enterSale 50 = .ok (.iastore, 1) := by decide +kernel
theorem dX0_enterSale_51 : decode cX0_enterSale 51 = .ok (.iinc 3 1, 3) := by decide +kernel
theorem dX0_enterSale_54 : decode cX0_enterSale 54 = .ok (.goto (-52), 3) := by decide +kernel
theorem dX0_enterSale_57 : decode cX0_enterSale 57 = .ok (.aload_n 0, 1) := by decide +kernel
theorem dX0_enterSale_58 : decode cX0_enterSale 58 = .ok (.getfield 24, 3) := by decide +kernel
theorem dX0_enterSale_61 : decode cX0_enterSale 61 = .ok (.iload_n 2, 1) := by decide +kernel
theorem dX0_enterSale_62 : decode cX0_enterSale 62 = .ok (.aload_n 1, 1) := by decide +kernel
theorem dX0_enterSale_63 : decode cX0_enterSale 63 = .ok (.getfield 144, 3) := by decide +kernel
theorem dX0_enterSale_66 : decode cX0_enterSale 66 = .ok (.iastore, 1) := by decide +kernel
theorem dX0_enterSale_67 : decode cX0_enterSale 67 = .ok (.aload_n 0, 1) := by decide +kernel
theorem dX0_enterSale_68 : decode cX0_enterSale 68 = .ok (.getfield 27, 3) := by decide +kernel
theorem dX0_enterSale_71 : decode cX0_enterSale 71 = .ok (.iload_n 2, 1) := by decide +kernel
theorem dX0_enterSale_72 : decode cX0_enterSale 72 = .ok (.aload_n 1, 1) := by decide +kernel
theorem dX0_enterSale_73 : decode cX0_enterSale 73 = .ok (.getfield 147, 3) := by decide +kernel
theorem dX0_enterSale_76 : decode cX0_enterSale 76 = .ok (.iastore, 1) := by decide +kernel
theorem dX0_enterSale_77 : decode cX0_enterSale 77 = .ok (.aload_n 0, 1) := by decide +kernel
theorem dX0_enterSale_78 : decode cX0_enterSale 78 = .ok (.dup, 1) := by decide +kernel
theorem dX0_enterSale_79 : decode cX0_enterSale 79 = .ok (.getfield 71, 3) := by decide +kernel
theorem dX0_enterSale_82 : decode cX0_enterSale 82 = .ok (.aload_n 1, 1) := by decide +kernel
theorem dX0_enterSale_83 : decode cX0_enterSale 83 = .ok (.getfield 150, 3) := by decide +kernel
theorem dX0_enterSale_86 : decode cX0_enterSale 86 = .ok (.iadd, 1) := by decide +kernel
theorem dX0_enterSale_87 : decode cX0_enterSale 87 = .ok (.putfield 71, 3) := by decide +kernel
theorem dX0_enterSale_90 : decode cX0_enterSale 90 = .ok (.aload_n 0, 1) := by decide +kernel
theorem dX0_enterSale_91 : decode cX0_enterSale 91 = .ok (.dup, 1) := by decide +kernel
theorem dX0_enterSale_92 : decode cX0_enterSale 92 = .ok (.getfield 74, 3) := by decide +kernel
theorem dX0_enterSale_95 : decode cX0_enterSale 95 = .ok (.aload_n 1, 1) := by decide +kernel
theorem dX0_enterSale_96 : decode cX0_enterSale 96 = .ok (.getfield 153, 3) := by decide +kernel
theorem dX0_enterSale_99 : decode cX0_enterSale 99 = .ok (.iadd, 1) := by decide +kernel
theorem dX0_enterSale_100 : decode cX0_enterSale 100 = .ok (.putfield 74, 3) := by decide +kernel
theorem dX0_enterSale_103 : decode cX0_enterSale 103 = .ok (.aload_n 1, 1) := by decide +kernel
theorem dX0_enterSale_104 : decode cX0_enterSale 104 = .ok (.getfield 153, 3) := by decide +kernel
theorem dX0_enterSale_107 : decode cX0_enterSale 107 = .ok (.ifCond .le 10, 3) := by decide +kernel
theorem dX0_enterSale_110 : decode cX0_enterSale 110 = .ok (.aload_n 0, 1) := by decide +kernel
theorem dX0_enterSale_111 : decode cX0_enterSale 111 = .ok (.getfield 33, 3) := by decide +kernel
theorem dX0_enterSale_114 : decode cX0_enterSale 114 = .ok (.iload_n 2, 1) := by decide +kernel
theorem dX0_enterSale_115 : decode cX0_enterSale 115 = .ok (.iconst 1, 1) := by decide +kernel
theorem dX0_enterSale_116 : decode cX0_enterSale 116 = .ok (.bastore, 1) := by decide +kernel
theorem dX0_enterSale_117 : decode cX0_enterSale 117 = .ok (.aload_n 0, 1) := by decide +kernel
theorem dX0_enterSale_118 : decode cX0_enterSale 118 = .ok (.getfield 30, 3) := by decide +kernel
theorem dX0_enterSale_121 : decode cX0_enterSale 121 = .ok (.iload_n 2, 1) := by decide +kernel
theorem dX0_enterSale_122 : decode cX0_enterSale 122 = .ok (.iconst 0, 1) := by decide +kernel
theorem dX0_enterSale_123 : decode cX0_enterSale 123 = .ok (.iastore, 1) := by decide +kernel
theorem dX0_enterSale_124 : decode cX0_enterSale 124 = .ok (.aload_n 0, 1) := by decide +kernel
theorem dX0_enterSale_125 : decode cX0_enterSale 125 = .ok (.dup, 1) := by decide +kernel
theorem dX0_enterSale_126 : decode cX0_enterSale 126 = .ok (.getfield 80, 3) := by decide +kernel
theorem dX0_enterSale_129 : decode cX0_enterSale 129 = .ok (.iconst 1, 1) := by decide +kernel
theorem dX0_enterSale_130 : decode cX0_enterSale 130 = .ok (.iadd, 1) := by decide +kernel
theorem dX0_enterSale_131 : decode cX0_enterSale 131 = .ok (.putfield 80, 3) := by decide +kernel
theorem dX0_enterSale_134 : decode cX0_enterSale 134 = .ok (.return_, 1) := by decide +kernel
theorem dX1_init_0 : decode cX1_init 0 = .ok (.aload_n 0, 1) := by decide +kernel
theorem dX1_init_1 : decode cX1_init 1 = .ok (.invokespecial 3, 3) := by decide +kernel
theorem dX1_init_4 : decode cX1_init 4 = .ok (.aload_n 0, 1) := by decide +kernel
theorem dX1_init_5 : decode cX1_init 5 = .ok (.bipush 60, 2) := by decide +kernel
theorem dX1_init_7 : decode cX1_init 7 = .ok (.newarray .int, 2) := by decide +kernel
theorem dX1_init_9 : decode cX1_init 9 = .ok (.putfield 9, 3) := by decide +kernel
theorem dX1_init_12 : decode cX1_init 12 = .ok (.return_, 1) := by decide +kernel
theorem dX2_init_0 : decode cX2_init 0 = .ok (.aload_n 0, 1) := by decide +kernel
theorem dX2_init_1 : decode cX2_init 1 = .ok (.invokespecial 3, 3) := by decide +kernel
theorem dX2_init_4 : decode cX2_init 4 = .ok (.aload_n 0, 1) := by decide +kernel
theorem dX2_init_5 : decode cX2_init 5 = .ok (.bipush 6, 2) := by decide +kernel
theorem dX2_init_7 : decode cX2_init 7 = .ok (.newarray .int, 2) := by decide +kernel
theorem dX2_init_9 : decode cX2_init 9 = .ok (.putfield 9, 3) := by decide +kernel
theorem dX2_init_12 : decode cX2_init 12 = .ok (.aload_n 0, 1) := by decide +kernel
theorem dX2_init_13 : decode cX2_init 13 = .ok (.bipush 6, 2) := by decide +kernel
theorem dX2_init_15 : decode cX2_init 15 = .ok (.newarray .int, 2) := by decide +kernel
theorem dX2_init_17 : decode cX2_init 17 = .ok (.putfield 15, 3) := by decide +kernel
theorem dX2_init_20 : decode cX2_init 20 = .ok (.return_, 1) := by decide +kernel
theorem dX2_reckon_0 : decode cX2_reckon 0 = .ok (.aload_n 0, 1) := by decide +kernel
theorem dX2_reckon_1 : decode cX2_reckon 1 = .ok (.aload_n 1, 1) := by decide +kernel
theorem dX2_reckon_2 : decode cX2_reckon 2 = .ok (.getfield 18, 3) := by decide +kernel
theorem dX2_reckon_5 : decode cX2_reckon 5 = .ok (.iload_n 2, 1) := by decide +kernel
theorem dX2_reckon_6 : decode cX2_reckon 6 = .ok (.iaload, 1) := by decide +kernel
theorem dX2_reckon_7 : decode cX2_reckon 7 = .ok (.putfield 23, 3) := by decide +kernel
theorem dX2_reckon_10 : decode cX2_reckon 10 = .ok (.aload_n 0, 1) := by decide +kernel
theorem dX2_reckon_11 : decode cX2_reckon 11 = .ok (.aload_n 1, 1) := by decide +kernel
theorem dX2_reckon_12 : decode cX2_reckon 12 = .ok (.getfield 27, 3) := by decide +kernel
theorem dX2_reckon_15 : decode cX2_reckon 15 = .ok (.iload_n 2, 1) := by decide +kernel
theorem dX2_reckon_16 : decode cX2_reckon 16 = .ok (.iaload, 1) := by decide +kernel
theorem dX2_reckon_17 : decode cX2_reckon 17 = .ok (.putfield 30, 3) := by decide +kernel
theorem dX2_reckon_20 : decode cX2_reckon 20 = .ok (.aload_n 0, 1) := by decide +kernel
theorem dX2_reckon_21 : decode cX2_reckon 21 = .ok (.iconst 0, 1) := by decide +kernel
theorem dX2_reckon_22 : decode cX2_reckon 22 = .ok (.putfield 33, 3) := by decide +kernel
theorem dX2_reckon_25 : decode cX2_reckon 25 = .ok (.aload_n 0, 1) := by decide +kernel
theorem dX2_reckon_26 : decode cX2_reckon 26 = .ok (.iconst 0, 1) := by decide +kernel
theorem dX2_reckon_27 : decode cX2_reckon 27 = .ok (.putfield 36, 3) := by decide +kernel
theorem dX2_reckon_30 : decode cX2_reckon 30 = .ok (.aload_n 0, 1) := by decide +kernel
theorem dX2_reckon_31 : decode cX2_reckon 31 = .ok (.iconst 0, 1) := by decide +kernel
theorem dX2_reckon_32 : decode cX2_reckon 32 = .ok (.putfield 39, 3) := by decide +kernel
theorem dX2_reckon_35 : decode cX2_reckon 35 = .ok (.aload_n 0, 1) := by decide +kernel
theorem dX2_reckon_36 : decode cX2_reckon 36 = .ok (.aload_n 1, 1) := by decide +kernel
theorem dX2_reckon_37 : decode cX2_reckon 37 = .ok (.iload_n 2, 1) := by decide +kernel
theorem dX2_reckon_38 : decode cX2_reckon 38 = .ok (.invokevirtual 42, 3) := by decide +kernel
theorem dX2_reckon_41 : decode cX2_reckon 41 = .ok (.istore_n 3, 1) := by decide +kernel
theorem dX2_reckon_42 : decode cX2_reckon 42 = .ok (.aload_n 0, 1) := by decide +kernel
theorem dX2_reckon_43 : decode cX2_reckon 43 = .ok (.invokevirtual 46, 3) := by decide +kernel
theorem dX2_reckon_46 : decode cX2_reckon 46 = .ok (.iconst 0, 1) := by decide +kernel
theorem dX2_reckon_47 : decode cX2_reckon 47 = .ok (.istore 4, 2) := by decide +kernel
theorem dX2_reckon_49 : decode cX2_reckon 49 = .ok (.iload 4, 2) := by decide +kernel
theorem dX2_reckon_51 : decode cX2_reckon 51 = .ok (.iload_n 3, 1) := by decide +kernel
theorem dX2_reckon_52 : decode cX2_reckon 52 = .ok (.if_icmp .ge 21, 3) := by decide +kernel
theorem dX2_reckon_55 : decode cX2_reckon 55 = .ok (.aload_n 0, 1) := by decide +kernel
theorem dX2_reckon_56 : decode cX2_reckon 56 = .ok (.invokevirtual 49, 3) := by decide +kernel
theorem dX2_reckon_59 : decode cX2_reckon 59 = .ok (.ifCond .ne 14, 3) := by decide +kernel
theorem dX2_reckon_62 : decode cX2_reckon 62 = .ok (.aload_n 0, 1) := by decide +kernel
theorem dX2_reckon_63 : decode cX2_reckon 63 = .ok (.aload_n 1, 1) := by decide +kernel
theorem dX2_reckon_64 : decode cX2_reckon 64 = .ok (.invokevirtual 53, 3) := by decide +kernel
theorem dX2_reckon_67 : decode cX2_reckon 67 = .ok (.iinc 4 1, 3) := by decide +kernel
theorem dX2_reckon_70 : decode cX2_reckon 70 = .ok (.goto (-21), 3) := by decide +kernel
theorem dX2_reckon_73 : decode cX2_reckon 73 = .ok (.aload_n 0, 1) := by decide +kernel
theorem dX2_reckon_74 : decode cX2_reckon 74 = .ok (.invokevirtual 49, 3) := by decide +kernel
theorem dX2_reckon_77 : decode cX2_reckon 77 = .ok (.ifCond .ne 16, 3) := by decide +kernel
theorem dX2_reckon_80 : decode cX2_reckon 80 = .ok (.aload_n 0, 1) := by decide +kernel
theorem dX2_reckon_81 : decode cX2_reckon 81 = .ok (.aload_n 0, 1) := by decide +kernel
theorem dX2_reckon_82 : decode cX2_reckon 82 = .ok (.getfield 30, 3) := by decide +kernel
theorem dX2_reckon_85 : decode cX2_reckon 85 = .ok (.putfield 39, 3) := by decide +kernel
theorem dX2_reckon_88 : decode cX2_reckon 88 = .ok (.aload_n 0, 1) := by decide +kernel
theorem dX2_reckon_89 : decode cX2_reckon 89 = .ok (.iconst 0, 1) := by decide +kernel
theorem dX2_reckon_90 : decode cX2_reckon 90 = .ok (.putfield 30, 3) := by decide +kernel
theorem dX2_reckon_93 : decode cX2_reckon 93 = .ok (.return_, 1) := by decide +kernel
theorem dX2_layOutPieces_0 : decode cX2_layOutPieces 0 = .ok (.iconst 0, 1) := by decide +kernel
theorem dX2_layOutPieces_1 : decode cX2_layOutPieces 1 = .ok (.istore_n 3, 1) := by decide +kernel
theorem dX2_layOutPieces_2 : decode cX2_layOutPieces 2 = .ok (.aload_n 0, 1) := by decide +kernel
theorem dX2_layOutPieces_3 : decode cX2_layOutPieces 3 = .ok (.iconst 0, 1) := by decide +kernel
theorem dX2_layOutPieces_4 : decode cX2_layOutPieces 4 = .ok (.putfield 57, 3) := by decide +kernel
theorem dX2_layOutPieces_7 : decode cX2_layOutPieces 7 = .ok (.iconst 0, 1) := by decide +kernel
theorem dX2_layOutPieces_8 : decode cX2_layOutPieces 8 = .ok (.istore 4, 2) := by decide +kernel
theorem dX2_layOutPieces_10 : decode cX2_layOutPieces 10 = .ok (.iload 4, 2) := by decide +kernel
theorem dX2_layOutPieces_12 : decode cX2_layOutPieces 12 = .ok (.bipush 6, 2) := by decide +kernel
theorem dX2_layOutPieces_14 : decode cX2_layOutPieces 14 = .ok (.if_icmp .ge 75, 3) := by decide +kernel
theorem dX2_layOutPieces_17 : decode cX2_layOutPieces 17 = .ok (.aload_n 0, 1) := by decide +kernel
theorem dX2_layOutPieces_18 : decode cX2_layOutPieces 18 = .ok (.getfield 9, 3) := by decide +kernel
theorem dX2_layOutPieces_21 : decode cX2_layOutPieces 21 = .ok (.iload 4, 2) := by decide +kernel
theorem dX2_layOutPieces_23 : decode cX2_layOutPieces 23 = .ok (.aload_n 1, 1) := by decide +kernel
theorem dX2_layOutPieces_24 : decode cX2_layOutPieces 24 = .ok (.getfield 60, 3) := by decide +kernel
theorem dX2_layOutPieces_27 : decode cX2_layOutPieces 27 = .ok (.iload_n 2, 1) := by decide +kernel
theorem dX2_layOutPieces_28 : decode cX2_layOutPieces 28 = .ok (.iload 4, 2) := by decide +kernel
theorem dX2_layOutPieces_30 : decode cX2_layOutPieces 30 = .ok (.invokestatic 63, 3) := by decide +kernel
theorem dX2_layOutPieces_33 : decode cX2_layOutPieces 33 = .ok (.iaload, 1) := by decide +kernel
theorem dX2_layOutPieces_34 : decode cX2_layOutPieces 34 = .ok (.iastore, 1) := by decide +kernel
theorem dX2_layOutPieces_35 : decode cX2_layOutPieces 35 = .ok (.aload_n 0, 1) := by decide +kernel
theorem dX2_layOutPieces_36 : decode cX2_layOutPieces 36 = .ok (.getfield 15, 3) := by decide +kernel
theorem dX2_layOutPieces_39 : decode cX2_layOutPieces 39 = .ok (.iload 4, 2) := by decide +kernel
theorem dX2_layOutPieces_41 : decode cX2_layOutPieces 41 = .ok (.aload_n 0, 1) := by decide +kernel
theorem dX2_layOutPieces_42 : decode cX2_layOutPieces 42 = .ok (.aload_n 1, 1) := by decide +kernel
theorem dX2_layOutPieces_43 : decode cX2_layOutPieces 43 = .ok (.iload 4, 2) := by decide +kernel
theorem dX2_layOutPieces_45 : decode cX2_layOutPieces 45 = .ok (.invokevirtual 67, 3) := by decide +kernel
theorem dX2_layOutPieces_48 : decode cX2_layOutPieces 48 = .ok (.iastore, 1) := by decide +kernel
theorem dX2_layOutPieces_49 : decode cX2_layOutPieces 49 = .ok (.iload_n 3, 1) := by decide +kernel
theorem dX2_layOutPieces_50 : decode cX2_layOutPieces 50 = .ok (.aload_n 0, 1) := by decide +kernel
theorem dX2_layOutPieces_51 : decode cX2_layOutPieces 51 = .ok (.getfield 9, 3) := by decide +kernel
theorem dX2_layOutPieces_54 : decode cX2_layOutPieces 54 = .ok (.iload 4, 2) := by decide +kernel
theorem dX2_layOutPieces_56 : decode cX2_layOutPieces 56 = .ok (.iaload, 1) := by decide +kernel
theorem dX2_layOutPieces_57 : decode cX2_layOutPieces 57 = .ok (.iadd, 1) := by decide +kernel
theorem dX2_layOutPieces_58 : decode cX2_layOutPieces 58 = .ok (.istore_n 3, 1) := by decide +kernel
theorem dX2_layOutPieces_59 : decode cX2_layOutPieces 59 = .ok (.aload_n 0, 1) := by decide +kernel
theorem dX2_layOutPieces_60 : decode cX2_layOutPieces 60 = .ok (.dup, 1) := by decide +kernel
theorem dX2_layOutPieces_61 : decode cX2_layOutPieces 61 = .ok (.getfield 57, 3) := by decide +kernel
theorem dX2_layOutPieces_64 : decode cX2_layOutPieces 64 = .ok (.aload_n 0, 1) := by decide +kernel
theorem dX2_layOutPieces_65 : decode cX2_layOutPieces 65 = .ok (.getfield 9, 3) := by decide +kernel
theorem dX2_layOutPieces_68 : decode cX2_layOutPieces 68 = .ok (.iload 4, 2) := by decide +kernel
theorem dX2_layOutPieces_70 : decode cX2_layOutPieces 70 = .ok (.iaload, 1) := by decide +kernel
theorem dX2_layOutPieces_71 : decode cX2_layOutPieces 71 = .ok (.aload_n 0, 1) := by decide +kernel
theorem dX2_layOutPieces_72 : decode cX2_layOutPieces 72 = .ok (.aload_n 1, 1) := by decide +kernel
theorem dX2_layOutPieces_73 : decode cX2_layOutPieces 73 = .ok (.iload 4, 2) := by decide +kernel
theorem dX2_layOutPieces_75 : decode cX2_layOutPieces 75 = .ok (.invokevirtual 70, 3) := by decide +kernel
theorem dX2_layOutPieces_78 : decode cX2_layOutPieces 78 = .ok (.imul, 1) := by decide +kernel
theorem dX2_layOutPieces_79 : decode cX2_layOutPieces 79 = .ok (.iadd, 1) := by decide +kernel
theorem dX2_layOutPieces_80 : decode cX2_layOutPieces 80 = .ok (.putfield 57, 3) := by decide +kernel
theorem dX2_layOutPieces_83 : decode cX2_layOutPieces 83 = .ok (.iinc 4 1, 3) := by decide +kernel
theorem dX2_layOutPieces_86 : decode cX2_layOutPieces 86 = .ok (.goto (-76), 3) := by decide +kernel
theorem dX2_layOutPieces_89 : decode cX2_layOutPieces 89 = .ok (.iload_n 3, 1) := by decide +kernel
theorem dX2_layOutPieces_90 : decode cX2_layOutPieces 90 = .ok (.ireturn, 1) := by decide +kernel
theorem dX2_keyOf_0 : decode cX2_keyOf 0 = .ok (.aload_n 1, 1) := by decide +kernel
theorem dX2_keyOf_1 : decode cX2_keyOf 1 = .ok (.getfield 73, 3) := by decide +kernel
theorem dX2_keyOf_4 : decode cX2_keyOf 4 = .ok (.lookupswitch 43 #[(1, 28), (2, 36)], 28) := by decide +kernel
theorem dX2_keyOf_32 : decode cX2_keyOf 32 = .ok (.aload_n 1, 1) := by decide +kernel
theorem dX2_keyOf_33 : decode cX2_keyOf 33 = .ok (.getfield 76, 3) := by decide +kernel
theorem dX2_keyOf_36 : decode cX2_keyOf 36 = .ok (.iload_n 2, 1) := by decide +kernel
theorem dX2_keyOf_37 : decode cX2_keyOf 37 = .ok (.iaload, 1) := by decide +kernel
theorem dX2_keyOf_38 : decode cX2_keyOf 38 = .ok (.ineg, 1) := by decide +kernel
theorem dX2_keyOf_39 : decode cX2_keyOf 39 = .ok (.ireturn, 1) := by decide +kernel
theorem dX2_keyOf_40 : decode cX2_keyOf 40 = .ok (.aload_n 1, 1) := by decide +kernel
theorem dX2_keyOf_41 : decode cX2_keyOf 41 = .ok (.getfield 76, 3) := by decide +kernel
theorem dX2_keyOf_44 : decode cX2_keyOf 44 = .ok (.iload_n 2, 1) := by decide +kernel
theorem dX2_keyOf_45 : decode cX2_keyOf 45 = .ok (.iaload, 1) := by decide +kernel
theorem dX2_keyOf_46 : decode cX2_keyOf 46 = .ok (.ireturn, 1) := by decide +kernel
theorem dX2_keyOf_47 : decode cX2_keyOf 47 = .ok (.aload_n 1, 1) := by decide +kernel
theorem dX2_keyOf_48 : decode cX2_keyOf 48 = .ok (.getfield 79, 3) := by decide +kernel
theorem dX2_keyOf_51 : decode cX2_keyOf 51 = .ok (.iload_n 2, 1) := by decide +kernel
theorem dX2_keyOf_52 : decode cX2_keyOf 52 = .ok (.iaload, 1) := by decide +kernel
theorem dX2_keyOf_53 : decode cX2_keyOf 53 = .ok (.ireturn, 1) := by decide +kernel
theorem dX2_coverOfOne_0 : decode cX2_coverOfOne 0 = .ok (.aload_n 1, 1) := by decide +kernel
theorem dX2_coverOfOne_1 : decode cX2_coverOfOne 1 = .ok (.getfield 79, 3) := by decide +kernel
theorem dX2_coverOfOne_4 : decode cX2_coverOfOne 4 = .ok (.iload_n 2, 1) := by decide +kernel
theorem dX2_coverOfOne_5 : decode cX2_coverOfOne 5 = .ok (.iaload, 1) := by decide +kernel
theorem dX2_coverOfOne_6 : decode cX2_coverOfOne 6 = .ok (.bipush 100, 2) := by decide +kernel
theorem dX2_coverOfOne_8 : decode cX2_coverOfOne 8 = .ok (.aload_n 1, 1) := by decide +kernel
theorem dX2_coverOfOne_9 : decode cX2_coverOfOne 9 = .ok (.getfield 76, 3) := by decide +kernel
theorem dX2_coverOfOne_12 : decode cX2_coverOfOne 12 = .ok (.iload_n 2, 1) := by decide +kernel
theorem dX2_coverOfOne_13 : decode cX2_coverOfOne 13 = .ok (.iaload, 1) := by decide +kernel
theorem dX2_coverOfOne_14 : decode cX2_coverOfOne 14 = .ok (.isub, 1) := by decide +kernel
theorem dX2_coverOfOne_15 : decode cX2_coverOfOne 15 = .ok (.imul, 1) := by decide +kernel
theorem dX2_coverOfOne_16 : decode cX2_coverOfOne 16 = .ok (.ireturn, 1) := by decide +kernel
theorem dX2_isCovered_0 : decode cX2_isCovered 0 = .ok (.aload_n 0, 1) := by decide +kernel
theorem dX2_isCovered_1 : decode cX2_isCovered 1 = .ok (.getfield 30, 3) := by decide +kernel
theorem dX2_isCovered_4 : decode cX2_isCovered 4 = .ok (.aload_n 0, 1) := by decide +kernel
theorem dX2_isCovered_5 : decode cX2_isCovered 5 = .ok (.getfield 23, 3) := by decide +kernel
theorem dX2_isCovered_8 : decode cX2_isCovered 8 = .ok (.aload_n 0, 1) := by decide +kernel
theorem dX2_isCovered_9 : decode cX2_isCovered 9 = .ok (.getfield 57, 3) := by decide +kernel
theorem dX2_isCovered_12 : decode cX2_isCovered 12 = .ok (.bipush 100, 2) := by decide +kernel
theorem dX2_isCovered_14 : decode cX2_isCovered 14 = .ok (.idiv, 1) := by decide +kernel
theorem dX2_isCovered_15 : decode cX2_isCovered 15 = .ok (.iadd, 1) := by decide +kernel
theorem dX2_isCovered_16 : decode cX2_isCovered 16 = .ok (.if_icmp .gt 7, 3) := by decide +kernel
theorem dX2_isCovered_19 : decode cX2_isCovered 19 = .ok (.iconst 1, 1) := by decide +kernel
theorem dX2_isCovered_20 : decode cX2_isCovered 20 = .ok (.goto 4, 3) := by decide +kernel
theorem dX2_isCovered_23 : decode cX2_isCovered 23 = .ok (.iconst 0, 1) := by decide +kernel
theorem dX2_isCovered_24 : decode cX2_isCovered 24 = .ok (.ireturn, 1) := by decide +kernel
theorem dX2_payFromCoins_0 : decode cX2_payFromCoins 0 = .ok (.aload_n 0, 1) := by decide +kernel
theorem dX2_payFromCoins_1 : decode cX2_payFromCoins 1 = .ok (.getfield 23, 3) := by decide +kernel
theorem dX2_payFromCoins_4 : decode cX2_payFromCoins 4 = .ok (.istore_n 1, 1) := by decide +kernel
theorem dX2_payFromCoins_5 : decode cX2_payFromCoins 5 = .ok (.aload_n 0, 1) := by decide +kernel
theorem dX2_payFromCoins_6 : decode cX2_payFromCoins 6 = .ok (.iconst 0, 1) := by decide +kernel
theorem dX2_payFromCoins_7 : decode cX2_payFromCoins 7 = .ok (.putfield 23, 3) := by decide +kernel
theorem dX2_payFromCoins_10 : decode cX2_payFromCoins 10 = .ok (.aload_n 0, 1) := by decide +kernel
theorem dX2_payFromCoins_11 : decode cX2_payFromCoins 11 = .ok (.iload_n 1, 1) := by decide +kernel
theorem dX2_payFromCoins_12 : decode cX2_payFromCoins 12 = .ok (.invokevirtual 82, 3) := by decide +kernel
theorem dX2_payFromCoins_15 : decode cX2_payFromCoins 15 = .ok (.return_, 1) := by decide +kernel
theorem dX2_sellOne_0 : decode cX2_sellOne 0 = .ok (.aload_n 0, 1) := by decide +kernel
theorem dX2_sellOne_1 : decode cX2_sellOne 1 = .ok (.invokevirtual 86, 3) := by decide +kernel
theorem dX2_sellOne_4 : decode cX2_sellOne 4 = .ok (.istore_n 2, 1) := by decide +kernel
theorem dX2_sellOne_5 : decode cX2_sellOne 5 = .ok (.iload_n 2, 1) := by decide +kernel
theorem dX2_sellOne_6 : decode cX2_sellOne 6 = .ok (.iconst (-1), 1) := by decide +kernel
theorem dX2_sellOne_7 : decode cX2_sellOne 7 = .ok (.if_icmp .eq 59, 3) := by decide +kernel
theorem dX2_sellOne_10 : decode cX2_sellOne 10 = .ok (.aload_n 0, 1) := by decide +kernel
theorem dX2_sellOne_11 : decode cX2_sellOne 11 = .ok (.getfield 9, 3) := by decide +kernel
theorem dX2_sellOne_14 : decode cX2_sellOne 14 = .ok (.iload_n 2, 1) := by decide +kernel
theorem dX2_sellOne_15 : decode cX2_sellOne 15 = .ok (.dup2, 1) := by decide +kernel
theorem dX2_sellOne_16 : decode cX2_sellOne 16 = .ok (.iaload, 1) := by decide +kernel
theorem dX2_sellOne_17 : decode cX2_sellOne 17 = .ok (.iconst 1, 1) := by decide +kernel
theorem dX2_sellOne_18 : decode cX2_sellOne 18 = .ok (.isub, 1) := by decide +kernel
theorem dX2_sellOne_19 : decode cX2_sellOne 19 = .ok (.iastore, 1) := by decide +kernel
theorem dX2_sellOne_20 : decode cX2_sellOne 20 = .ok (.aload_n 0, 1) := by decide +kernel
theorem dX2_sellOne_21 : decode cX2_sellOne 21 = .ok (.dup, 1) := by decide +kernel
theorem dX2_sellOne_22 : decode cX2_sellOne 22 = .ok (.getfield 57, 3) := by decide +kernel
theorem dX2_sellOne_25 : decode cX2_sellOne 25 = .ok (.aload_n 0, 1) := by decide +kernel
theorem dX2_sellOne_26 : decode cX2_sellOne 26 = .ok (.aload_n 1, 1) := by decide +kernel
theorem dX2_sellOne_27 : decode cX2_sellOne 27 = .ok (.iload_n 2, 1) := by decide +kernel
theorem dX2_sellOne_28 : decode cX2_sellOne 28 = .ok (.invokevirtual 70, 3) := by decide +kernel
theorem dX2_sellOne_31 : decode cX2_sellOne 31 = .ok (.isub, 1) := by decide +kernel
theorem dX2_sellOne_32 : decode cX2_sellOne 32 = .ok (.putfield 57, 3) := by decide +kernel
theorem dX2_sellOne_35 : decode cX2_sellOne 35 = .ok (.aload_n 0, 1) := by decide +kernel
theorem dX2_sellOne_36 : decode cX2_sellOne 36 = .ok (.dup, 1) := by decide +kernel
theorem dX2_sellOne_37 : decode cX2_sellOne 37 = .ok (.getfield 33, 3) := by decide +kernel
theorem dX2_sellOne_40 : decode cX2_sellOne 40 = .ok (.iconst 1, 1) := by decide +kernel
theorem dX2_sellOne_41 : decode cX2_sellOne 41 = .ok (.iadd, 1) := by decide +kernel
theorem dX2_sellOne_42 : decode cX2_sellOne 42 = .ok (.putfield 33, 3) := by decide +kernel
theorem dX2_sellOne_45 : decode cX2_sellOne 45 = .ok (.aload_n 0, 1) := by decide +kernel
theorem dX2_sellOne_46 : decode cX2_sellOne 46 = .ok (.aload_n 1, 1) := by decide +kernel
theorem dX2_sellOne_47 : decode cX2_sellOne 47 = .ok (.getfield 79, 3) := by decide +kernel
theorem dX2_sellOne_50 : decode cX2_sellOne 50 = .ok (.iload_n 2, 1) := by decide +kernel
theorem dX2_sellOne_51 : decode cX2_sellOne 51 = .ok (.iaload, 1) := by decide +kernel
theorem dX2_sellOne_52 : decode cX2_sellOne 52 = .ok (.bipush 100, 2) := by decide +kernel
theorem dX2_sellOne_54 : decode cX2_sellOne 54 = .ok (.aload_n 1, 1) := by decide +kernel
theorem dX2_sellOne_55 : decode cX2_sellOne 55 = .ok (.getfield 90, 3) := by decide +kernel
theorem dX2_sellOne_58 : decode cX2_sellOne 58 = .ok (.isub, 1) := by decide +kernel
theorem dX2_sellOne_59 : decode cX2_sellOne 59 = .ok (.imul, 1) := by decide +kernel
theorem dX2_sellOne_60 : decode cX2_sellOne 60 = .ok (.bipush 100, 2) := by decide +kernel
theorem dX2_sellOne_62 : decode cX2_sellOne 62 = .ok (.idiv, 1) := by decide +kernel
theorem dX2_sellOne_63 : decode cX2_sellOne 63 = .ok (.invokevirtual 82, 3) := by decide +kernel
theorem dX2_sellOne_66 : decode cX2_sellOne 66 = .ok (.return_, 1) := by decide +kernel
theorem dX2_firstKind_0 : decode cX2_firstKind 0 = .ok (.iconst (-1), 1) := by decide +kernel
theorem dX2_firstKind_1 : decode cX2_firstKind 1 = .ok (.istore_n 1, 1) := by decide +kernel
theorem dX2_firstKind_2 : decode cX2_firstKind 2 = .ok (.iconst 0, 1) := by decide +kernel
theorem dX2_firstKind_3 : decode cX2_firstKind 3 = .ok (.istore_n 2, 1) := by decide +kernel
theorem dX2_firstKind_4 : decode cX2_firstKind 4 = .ok (.iload_n 2, 1) := by decide +kernel
theorem dX2_firstKind_5 : decode cX2_firstKind 5 = .ok (.bipush 6, 2) := by decide +kernel
theorem dX2_firstKind_7 : decode cX2_firstKind 7 = .ok (.if_icmp .ge 40, 3) := by decide +kernel
theorem dX2_firstKind_10 : decode cX2_firstKind 10 = .ok (.aload_n 0, 1) := by decide +kernel
theorem dX2_firstKind_11 : decode cX2_firstKind 11 = .ok (.getfield 9, 3) := by decide +kernel
theorem dX2_firstKind_14 : decode cX2_firstKind 14 = .ok (.iload_n 2, 1) := by decide +kernel
theorem dX2_firstKind_15 : decode cX2_firstKind 15 = .ok (.iaload, 1) := by decide +kernel
theorem dX2_firstKind_16 : decode cX2_firstKind 16 = .ok (.ifCond .le 25, 3) := by decide +kernel
theorem dX2_firstKind_19 : decode cX2_firstKind 19 = .ok (.iload_n 1, 1) := by decide +kernel
theorem dX2_firstKind_20 : decode cX2_firstKind 20 = .ok (.iconst (-1), 1) := by decide +kernel
theorem dX2_firstKind_21 : decode cX2_firstKind 21 = .ok (.if_icmp .eq 18, 3) := by decide +kernel
theorem dX2_firstKind_24 : decode cX2_firstKind 24 = .ok (.aload_n 0, 1) := by decide +kernel
theorem dX2_firstKind_25 : decode cX2_firstKind 25 = .ok (.getfield 15, 3) := by decide +kernel
theorem dX2_firstKind_28 : decode cX2_firstKind 28 = .ok (.iload_n 2, 1) := by decide +kernel
theorem dX2_firstKind_29 : decode cX2_firstKind 29 = .ok (.iaload, 1) := by decide +kernel
theorem dX2_firstKind_30 : decode cX2_firstKind 30 = .ok (.aload_n 0, 1) := by decide +kernel
theorem dX2_firstKind_31 : decode cX2_firstKind 31 = .ok (.getfield 15, 3) := by decide +kernel
theorem dX2_firstKind_34 : decode cX2_firstKind 34 = .ok (.iload_n 1, 1) := by decide +kernel
theorem dX2_firstKind_35 : decode cX2_firstKind 35 = .ok (.iaload, 1) := by decide +kernel
theorem dX2_firstKind_36 : decode cX2_firstKind 36 = .ok (.if_icmp .le 5, 3) := by decide +kernel
theorem dX2_firstKind_39 : decode cX2_firstKind 39 = .ok (.iload_n 2, 1) := by decide +kernel
theorem dX2_firstKind_40 : decode cX2_firstKind 40 = .ok (.istore_n 1, 1) := by decide +kernel
theorem dX2_firstKind_41 : decode cX2_firstKind 41 = .ok (.iinc 2 1, 3) := by decide +kernel
theorem dX2_firstKind_44 : decode cX2_firstKind 44 = .ok (.goto (-40), 3) := by decide +kernel
theorem dX2_firstKind_47 : decode cX2_firstKind 47 = .ok (.iload_n 1, 1) := by decide +kernel
theorem dX2_firstKind_48 : decode cX2_firstKind 48 = .ok (.ireturn, 1) := by decide +kernel
theorem dX2_payWith_0 : decode cX2_payWith 0 = .ok (.iload_n 1, 1) := by decide +kernel
theorem dX2_payWith_1 : decode cX2_payWith 1 = .ok (.aload_n 0, 1) := by decide +kernel
theorem dX2_payWith_2 : decode cX2_payWith 2 = .ok (.getfield 30, 3) := by decide +kernel
theorem dX2_payWith_5 : decode cX2_payWith 5 = .ok (.if_icmp .ge 7, 3) := by decide +kernel
theorem dX2_payWith_8 : decode cX2_payWith 8 = .ok (.iload_n 1, 1) := by decide +kernel
theorem dX2_payWith_9 : decode cX2_payWith 9 = .ok (.goto 7, 3) := by decide +kernel
theorem dX2_payWith_12 : decode cX2_payWith 12 = .ok (.aload_n 0, 1) := by decide +kernel
theorem dX2_payWith_13 : decode cX2_payWith 13 = .ok (.getfield 30, 3) := by decide +kernel
theorem dX2_payWith_16 : decode cX2_payWith 16 = .ok (.istore_n 2, 1) := by decide +kernel
theorem dX2_payWith_17 : decode cX2_payWith 17 = .ok (.aload_n 0, 1) := by decide +kernel
theorem dX2_payWith_18 : decode cX2_payWith 18 = .ok (.dup, 1) := by decide +kernel
theorem dX2_payWith_19 : decode cX2_payWith 19 = .ok (.getfield 30, 3) := by decide +kernel
theorem dX2_payWith_22 : decode cX2_payWith 22 = .ok (.iload_n 2, 1) := by decide +kernel
theorem dX2_payWith_23 : decode cX2_payWith 23 = .ok (.isub, 1) := by decide +kernel
theorem dX2_payWith_24 : decode cX2_payWith 24 = .ok (.putfield 30, 3) := by decide +kernel
theorem dX2_payWith_27 : decode cX2_payWith 27 = .ok (.aload_n 0, 1) := by decide +kernel
theorem dX2_payWith_28 : decode cX2_payWith 28 = .ok (.dup, 1) := by decide +kernel
theorem dX2_payWith_29 : decode cX2_payWith 29 = .ok (.getfield 36, 3) := by decide +kernel
theorem dX2_payWith_32 : decode cX2_payWith 32 = .ok (.iload_n 2, 1) := by decide +kernel
theorem dX2_payWith_33 : decode cX2_payWith 33 = .ok (.iadd, 1) := by decide +kernel
theorem dX2_payWith_34 : decode cX2_payWith 34 = .ok (.putfield 36, 3) := by decide +kernel
theorem dX2_payWith_37 : decode cX2_payWith 37 = .ok (.aload_n 0, 1) := by decide +kernel
theorem dX2_payWith_38 : decode cX2_payWith 38 = .ok (.dup, 1) := by decide +kernel
theorem dX2_payWith_39 : decode cX2_payWith 39 = .ok (.getfield 23, 3) := by decide +kernel
theorem dX2_payWith_42 : decode cX2_payWith 42 = .ok (.iload_n 1, 1) := by decide +kernel
theorem dX2_payWith_43 : decode cX2_payWith 43 = .ok (.iload_n 2, 1) := by decide +kernel
theorem dX2_payWith_44 : decode cX2_payWith 44 = .ok (.isub, 1) := by decide +kernel
theorem dX2_payWith_45 : decode cX2_payWith 45 = .ok (.iadd, 1) := by decide +kernel
theorem dX2_payWith_46 : decode cX2_payWith 46 = .ok (.putfield 23, 3) := by decide +kernel
theorem dX2_payWith_49 : decode cX2_payWith 49 = .ok (.return_, 1) := by decide +kernel
end
section
theorem dX3_init_0 : decode cX3_init 0 = .ok (.aload_n 0, 1) := by decide +kernel
theorem dX3_init_1 : decode cX3_init 1 = .ok (.invokespecial 1, 3) := by decide +kernel
theorem dX3_init_4 : decode cX3_init 4 = .ok (.aload_n 0, 1) := by decide +kernel
theorem dX3_init_5 : decode cX3_init 5 = .ok (.new 7, 3) := by decide +kernel
theorem dX3_init_8 : decode cX3_init 8 = .ok (.dup, 1) := by decide +kernel
theorem dX3_init_9 : decode cX3_init 9 = .ok (.invokespecial 9, 3) := by decide +kernel
theorem dX3_init_12 : decode cX3_init 12 = .ok (.putfield 10, 3) := by decide +kernel
theorem dX3_init_15 : decode cX3_init 15 = .ok (.aload_n 0, 1) := by decide +kernel
theorem dX3_init_16 : decode cX3_init 16 = .ok (.new 16, 3) := by decide +kernel
theorem dX3_init_19 : decode cX3_init 19 = .ok (.dup, 1) := by decide +kernel
theorem dX3_init_20 : decode cX3_init 20 = .ok (.invokespecial 18, 3) := by decide +kernel
theorem dX3_init_23 : decode cX3_init 23 = .ok (.putfield 19, 3) := by decide +kernel
theorem dX3_init_26 : decode cX3_init 26 = .ok (.aload_n 0, 1) := by decide +kernel
theorem dX3_init_27 : decode cX3_init 27 = .ok (.bipush 8, 2) := by decide +kernel
theorem dX3_init_29 : decode cX3_init 29 = .ok (.newarray .int, 2) := by decide +kernel
theorem dX3_init_31 : decode cX3_init 31 = .ok (.putfield 23, 3) := by decide +kernel
theorem dX3_init_34 : decode cX3_init 34 = .ok (.aload_n 0, 1) := by decide +kernel
theorem dX3_init_35 : decode cX3_init 35 = .ok (.iconst 2, 1) := by decide +kernel
theorem dX3_init_36 : decode cX3_init 36 = .ok (.anewarray 27, 3) := by decide +kernel
theorem dX3_init_39 : decode cX3_init 39 = .ok (.putfield 29, 3) := by decide +kernel
theorem dX3_init_42 : decode cX3_init 42 = .ok (.aload_n 0, 1) := by decide +kernel
theorem dX3_init_43 : decode cX3_init 43 = .ok (.iconst 2, 1) := by decide +kernel
theorem dX3_init_44 : decode cX3_init 44 = .ok (.newarray .boolean, 2) := by decide +kernel
theorem dX3_init_46 : decode cX3_init 46 = .ok (.putfield 33, 3) := by decide +kernel
theorem dX3_init_49 : decode cX3_init 49 = .ok (.aload_n 0, 1) := by decide +kernel
theorem dX3_init_50 : decode cX3_init 50 = .ok (.bipush 6, 2) := by decide +kernel
theorem dX3_init_52 : decode cX3_init 52 = .ok (.anewarray 27, 3) := by decide +kernel
theorem dX3_init_55 : decode cX3_init 55 = .ok (.putfield 37, 3) := by decide +kernel
theorem dX3_init_58 : decode cX3_init 58 = .ok (.aload_n 0, 1) := by decide +kernel
theorem dX3_init_59 : decode cX3_init 59 = .ok (.new 27, 3) := by decide +kernel
theorem dX3_init_62 : decode cX3_init 62 = .ok (.dup, 1) := by decide +kernel
theorem dX3_init_63 : decode cX3_init 63 = .ok (.invokespecial 40, 3) := by decide +kernel
theorem dX3_init_66 : decode cX3_init 66 = .ok (.putfield 41, 3) := by decide +kernel
theorem dX3_init_69 : decode cX3_init 69 = .ok (.aload_n 0, 1) := by decide +kernel
theorem dX3_init_70 : decode cX3_init 70 = .ok (.new 27, 3) := by decide +kernel
theorem dX3_init_73 : decode cX3_init 73 = .ok (.dup, 1) := by decide +kernel
theorem dX3_init_74 : decode cX3_init 74 = .ok (.invokespecial 40, 3) := by decide +kernel
theorem dX3_init_77 : decode cX3_init 77 = .ok (.putfield 45, 3) := by decide +kernel
theorem dX3_init_80 : decode cX3_init 80 = .ok (.iconst 0, 1) := by decide +kernel
theorem dX3_init_81 : decode cX3_init 81 = .ok (.istore_n 1, 1) := by decide +kernel
theorem dX3_init_82 : decode cX3_init 82 = .ok (.iload_n 1, 1) := by decide +kernel
theorem dX3_init_83 : decode cX3_init 83 = .ok (.iconst 2, 1) := by decide +kernel
theorem dX3_init_84 : decode cX3_init 84 = .ok (.if_icmp .ge 22, 3) := by decide +kernel
theorem dX3_init_87 : decode cX3_init 87 = .ok (.aload_n 0, 1) := by decide +kernel
theorem dX3_init_88 : decode cX3_init 88 = .ok (.getfield 29, 3) := by decide +kernel
theorem dX3_init_91 : decode cX3_init 91 = .ok (.iload_n 1, 1) := by decide +kernel
theorem dX3_init_92 : decode cX3_init 92 = .ok (.new 27, 3) := by decide +kernel
theorem dX3_init_95 : decode cX3_init 95 = .ok (.dup, 1) := by decide +kernel
theorem dX3_init_96 : decode cX3_init 96 = .ok (.invokespecial 40, 3) := by decide +kernel
theorem dX3_init_99 : decode cX3_init 99 = .ok (.aastore, 1) := by decide +kernel
theorem dX3_init_100 : decode cX3_init 100 = .ok (.iinc 1 1, 3) := by decide +kernel
theorem dX3_init_103 : decode cX3_init 103 = .ok (.goto (-21), 3) := by decide +kernel
theorem dX3_init_106 : decode cX3_init 106 = .ok (.iconst 0, 1) := by decide +kernel
theorem dX3_init_107 : decode cX3_init 107 = .ok (.istore_n 1, 1) := by decide +kernel
theorem dX3_init_108 : decode cX3_init 108 = .ok (.iload_n 1, 1) := by decide +kernel
theorem dX3_init_109 : decode cX3_init 109 = .ok (.bipush 6, 2) := by decide +kernel
theorem dX3_init_111 : decode cX3_init 111 = .ok (.if_icmp .ge 22, 3) := by decide +kernel
theorem dX3_init_114 : decode cX3_init 114 = .ok (.aload_n 0, 1) := by decide +kernel
theorem dX3_init_115 : decode cX3_init 115 = .ok (.getfield 37, 3) := by decide +kernel
theorem dX3_init_118 : decode cX3_init 118 = .ok (.iload_n 1, 1) := by decide +kernel
theorem dX3_init_119 : decode cX3_init 119 = .ok (.new 27, 3) := by decide +kernel
theorem dX3_init_122 : decode cX3_init 122 = .ok (.dup, 1) := by decide +kernel
theorem dX3_init_123 : decode cX3_init 123 = .ok (.invokespecial 40, 3) := by decide +kernel
theorem dX3_init_126 : decode cX3_init 126 = .ok (.aastore, 1) := by decide +kernel
theorem dX3_init_127 : decode cX3_init 127 = .ok (.iinc 1 1, 3) := by decide +kernel
theorem dX3_init_130 : decode cX3_init 130 = .ok (.goto (-22), 3) := by decide +kernel
theorem dX3_init_133 : decode cX3_init 133 = .ok (.return_, 1) := by decide +kernel
theorem dX3_setPrice_0 : decode cX3_setPrice 0 = .ok (.iload_n 1, 1) := by decide +kernel
theorem dX3_setPrice_1 : decode cX3_setPrice 1 = .ok (.invokestatic 48, 3) := by decide +kernel
theorem dX3_setPrice_4 : decode cX3_setPrice 4 = .ok (.iload_n 2, 1) := by decide +kernel
theorem dX3_setPrice_5 : decode cX3_setPrice 5 = .ok (.iconst 1, 1) := by decide +kernel
theorem dX3_setPrice_6 : decode cX3_setPrice 6 = .ok (.sipush 500, 3) := by decide +kernel
theorem dX3_setPrice_9 : decode cX3_setPrice 9 = .ok (.invokestatic 52, 3) := by decide +kernel
theorem dX3_setPrice_12 : decode cX3_setPrice 12 = .ok (.aload_n 0, 1) := by decide +kernel
theorem dX3_setPrice_13 : decode cX3_setPrice 13 = .ok (.invokevirtual 56, 3) := by decide +kernel
theorem dX3_setPrice_16 : decode cX3_setPrice 16 = .ok (.aload_n 0, 1) := by decide +kernel
theorem dX3_setPrice_17 : decode cX3_setPrice 17 = .ok (.getfield 41, 3) := by decide +kernel
theorem dX3_setPrice_20 : decode cX3_setPrice 20 = .ok (.iload_n 1, 1) := by decide +kernel
theorem dX3_setPrice_21 : decode cX3_setPrice 21 = .ok (.iload_n 2, 1) := by decide +kernel
theorem dX3_setPrice_22 : decode cX3_setPrice 22 = .ok (.invokevirtual 59, 3) := by decide +kernel
theorem dX3_setPrice_25 : decode cX3_setPrice 25 = .ok (.ireturn, 1) := by decide +kernel
theorem dX3_setCut_0 : decode cX3_setCut 0 = .ok (.iload_n 1, 1) := by decide +kernel
theorem dX3_setCut_1 : decode cX3_setCut 1 = .ok (.invokestatic 48, 3) := by decide +kernel
theorem dX3_setCut_4 : decode cX3_setCut 4 = .ok (.iload_n 2, 1) := by decide +kernel
theorem dX3_setCut_5 : decode cX3_setCut 5 = .ok (.iconst 0, 1) := by decide +kernel
theorem dX3_setCut_6 : decode cX3_setCut 6 = .ok (.bipush 90, 2) := by decide +kernel
theorem dX3_setCut_8 : decode cX3_setCut 8 = .ok (.invokestatic 52, 3) := by decide +kernel
theorem dX3_setCut_11 : decode cX3_setCut 11 = .ok (.aload_n 0, 1) := by decide +kernel
theorem dX3_setCut_12 : decode cX3_setCut 12 = .ok (.invokevirtual 56, 3) := by decide +kernel
theorem dX3_setCut_15 : decode cX3_setCut 15 = .ok (.aload_n 0, 1) := by decide +kernel
theorem dX3_setCut_16 : decode cX3_setCut 16 = .ok (.getfield 41, 3) := by decide +kernel
theorem dX3_setCut_19 : decode cX3_setCut 19 = .ok (.iload_n 1, 1) := by decide +kernel
theorem dX3_setCut_20 : decode cX3_setCut 20 = .ok (.iload_n 2, 1) := by decide +kernel
theorem dX3_setCut_21 : decode cX3_setCut 21 = .ok (.invokevirtual 63, 3) := by decide +kernel
theorem dX3_setCut_24 : decode cX3_setCut 24 = .ok (.ireturn, 1) := by decide +kernel
theorem dX3_fall_0 : decode cX3_fall 0 = .ok (.iload_n 1, 1) := by decide +kernel
theorem dX3_fall_1 : decode cX3_fall 1 = .ok (.iconst 1, 1) := by decide +kernel
theorem dX3_fall_2 : decode cX3_fall 2 = .ok (.bipush 90, 2) := by decide +kernel
theorem dX3_fall_4 : decode cX3_fall 4 = .ok (.invokestatic 52, 3) := by decide +kernel
theorem dX3_fall_7 : decode cX3_fall 7 = .ok (.aload_n 0, 1) := by decide +kernel
theorem dX3_fall_8 : decode cX3_fall 8 = .ok (.invokevirtual 56, 3) := by decide +kernel
theorem dX3_fall_11 : decode cX3_fall 11 = .ok (.aload_n 0, 1) := by decide +kernel
theorem dX3_fall_12 : decode cX3_fall 12 = .ok (.getfield 41, 3) := by decide +kernel
theorem dX3_fall_15 : decode cX3_fall 15 = .ok (.iload_n 1, 1) := by decide +kernel
theorem dX3_fall_16 : decode cX3_fall 16 = .ok (.invokevirtual 66, 3) := by decide +kernel
theorem dX3_fall_19 : decode cX3_fall 19 = .ok (.ireturn, 1) := by decide +kernel
theorem dX3_pledge_0 : decode cX3_pledge 0 = .ok (.iload_n 1, 1) := by decide +kernel
theorem dX3_pledge_1 : decode cX3_pledge 1 = .ok (.invokestatic 70, 3) := by decide +kernel
theorem dX3_pledge_4 : decode cX3_pledge 4 = .ok (.iload_n 2, 1) := by decide +kernel
theorem dX3_pledge_5 : decode cX3_pledge 5 = .ok (.invokestatic 48, 3) := by decide +kernel
theorem dX3_pledge_8 : decode cX3_pledge 8 = .ok (.iload_n 3, 1) := by decide +kernel
theorem dX3_pledge_9 : decode cX3_pledge 9 = .ok (.iconst 1, 1) := by decide +kernel
theorem dX3_pledge_10 : decode cX3_pledge 10 = .ok (.bipush 50, 2) := by decide +kernel
theorem dX3_pledge_12 : decode cX3_pledge 12 = .ok (.invokestatic 52, 3) := by decide +kernel
theorem dX3_pledge_15 : decode cX3_pledge 15 = .ok (.aload_n 0, 1) := by decide +kernel
theorem dX3_pledge_16 : decode cX3_pledge 16 = .ok (.getfield 45, 3) := by decide +kernel
theorem dX3_pledge_19 : decode cX3_pledge 19 = .ok (.aload_n 0, 1) := by decide +kernel
theorem dX3_pledge_20 : decode cX3_pledge 20 = .ok (.getfield 41, 3) := by decide +kernel
theorem dX3_pledge_23 : decode cX3_pledge 23 = .ok (.invokevirtual 73, 3) := by decide +kernel
theorem dX3_pledge_26 : decode cX3_pledge 26 = .ok (.aload_n 0, 1) := by decide +kernel
theorem dX3_pledge_27 : decode cX3_pledge 27 = .ok (.getfield 41, 3) := by decide +kernel
theorem dX3_pledge_30 : decode cX3_pledge 30 = .ok (.iload_n 1, 1) := by decide +kernel
theorem dX3_pledge_31 : decode cX3_pledge 31 = .ok (.iload_n 2, 1) := by decide +kernel
theorem dX3_pledge_32 : decode cX3_pledge 32 = .ok (.iload_n 3, 1) := by decide +kernel
theorem dX3_pledge_33 : decode cX3_pledge 33 = .ok (.invokevirtual 77, 3) := by decide +kernel
theorem dX3_pledge_36 : decode cX3_pledge 36 = .ok (.invokestatic 81, 3) := by decide +kernel
theorem dX3_pledge_39 : decode cX3_pledge 39 = .ok (.aload_n 0, 1) := by decide +kernel
theorem dX3_pledge_40 : decode cX3_pledge 40 = .ok (.invokevirtual 85, 3) := by decide +kernel
theorem dX3_pledge_43 : decode cX3_pledge 43 = .ok (.aload_n 0, 1) := by decide +kernel
theorem dX3_pledge_44 : decode cX3_pledge 44 = .ok (.getfield 41, 3) := by decide +kernel
theorem dX3_pledge_47 : decode cX3_pledge 47 = .ok (.getfield 88, 3) := by decide +kernel
theorem dX3_pledge_50 : decode cX3_pledge 50 = .ok (.iload_n 1, 1) := by decide +kernel
theorem dX3_pledge_51 : decode cX3_pledge 51 = .ok (.iload_n 2, 1) := by decide +kernel
theorem dX3_pledge_52 : decode cX3_pledge 52 = .ok (.invokestatic 91, 3) := by decide +kernel
theorem dX3_pledge_55 : decode cX3_pledge 55 = .ok (.iaload, 1) := by decide +kernel
theorem dX3_pledge_56 : decode cX3_pledge 56 = .ok (.ireturn, 1) := by decide +kernel
theorem dX3_release_0 : decode cX3_release 0 = .ok (.iload_n 1, 1) := by decide +kernel
theorem dX3_release_1 : decode cX3_release 1 = .ok (.invokestatic 70, 3) := by decide +kernel
theorem dX3_release_4 : decode cX3_release 4 = .ok (.iload_n 2, 1) := by decide +kernel
theorem dX3_release_5 : decode cX3_release 5 = .ok (.invokestatic 48, 3) := by decide +kernel
theorem dX3_release_8 : decode cX3_release 8 = .ok (.iload_n 3, 1) := by decide +kernel
theorem dX3_release_9 : decode cX3_release 9 = .ok (.iconst 1, 1) := by decide +kernel
theorem dX3_release_10 : decode cX3_release 10 = .ok (.bipush 50, 2) := by decide +kernel
theorem dX3_release_12 : decode cX3_release 12 = .ok (.invokestatic 52, 3) := by decide +kernel
theorem dX3_release_15 : decode cX3_release 15 = .ok (.aload_n 0, 1) := by decide +kernel
theorem dX3_release_16 : decode cX3_release 16 = .ok (.getfield 45, 3) := by decide +kernel
theorem dX3_release_19 : decode cX3_release 19 = .ok (.aload_n 0, 1) := by decide +kernel
theorem dX3_release_20 : decode cX3_release 20 = .ok (.getfield 41, 3) := by decide +kernel
theorem dX3_release_23 : decode cX3_release 23 = .ok (.invokevirtual 73, 3) := by decide +kernel
theorem dX3_release_26 : decode cX3_release 26 = .ok (.aload_n 0, 1) := by decide +kernel
theorem dX3_release_27 : decode cX3_release 27 = .ok (.getfield 41, 3) := by decide +kernel
theorem dX3_release_30 : decode cX3_release 30 = .ok (.iload_n 1, 1) := by decide +kernel
theorem dX3_release_31 : decode cX3_release 31 = .ok (.iload_n 2, 1) := by decide +kernel
theorem dX3_release_32 : decode cX3_release 32 = .ok (.iload_n 3, 1) := by decide +kernel
theorem dX3_release_33 : decode cX3_release 33 = .ok (.invokevirtual 94, 3) := by decide +kernel
theorem dX3_release_36 : decode cX3_release 36 = .ok (.invokestatic 81, 3) := by decide +kernel
theorem dX3_release_39 : decode cX3_release 39 = .ok (.aload_n 0, 1) := by decide +kernel
theorem dX3_release_40 : decode cX3_release 40 = .ok (.invokevirtual 85, 3) := by decide +kernel
theorem dX3_release_43 : decode cX3_release 43 = .ok (.aload_n 0, 1) := by decide +kernel
theorem dX3_release_44 : decode cX3_release 44 = .ok (.getfield 41, 3) := by decide +kernel
theorem dX3_release_47 : decode cX3_release 47 = .ok (.getfield 88, 3) := by decide +kernel
theorem dX3_release_50 : decode cX3_release 50 = .ok (.iload_n 1, 1) := by decide +kernel
theorem dX3_release_51 : decode cX3_release 51 = .ok (.iload_n 2, 1) := by decide +kernel
theorem dX3_release_52 : decode cX3_release 52 = .ok (.invokestatic 91, 3) := by decide +kernel
theorem dX3_release_55 : decode cX3_release 55 = .ok (.iaload, 1) := by decide +kernel
theorem dX3_release_56 : decode cX3_release 56 = .ok (.ireturn, 1) := by decide +kernel
theorem dX3_deposit_0 : decode cX3_deposit 0 = .ok (.iload_n 1, 1) := by decide +kernel
theorem dX3_deposit_1 : decode cX3_deposit 1 = .ok (.invokestatic 70, 3) := by decide +kernel
theorem dX3_deposit_4 : decode cX3_deposit 4 = .ok (.iload_n 2, 1) := by decide +kernel
theorem dX3_deposit_5 : decode cX3_deposit 5 = .ok (.iconst 1, 1) := by decide +kernel
theorem dX3_deposit_6 : decode cX3_deposit 6 = .ok (.sipush 9999, 3) := by decide +kernel
theorem dX3_deposit_9 : decode cX3_deposit 9 = .ok (.invokestatic 52, 3) := by decide +kernel
theorem dX3_deposit_12 : decode cX3_deposit 12 = .ok (.aload_n 0, 1) := by decide +kernel
theorem dX3_deposit_13 : decode cX3_deposit 13 = .ok (.getfield 45, 3) := by decide +kernel
theorem dX3_deposit_16 : decode cX3_deposit 16 = .ok (.aload_n 0, 1) := by decide +kernel
theorem dX3_deposit_17 : decode cX3_deposit 17 = .ok (.getfield 41, 3) := by decide +kernel
theorem dX3_deposit_20 : decode cX3_deposit 20 = .ok (.invokevirtual 73, 3) := by decide +kernel
theorem dX3_deposit_23 : decode cX3_deposit 23 = .ok (.aload_n 0, 1) := by decide +kernel
theorem dX3_deposit_24 : decode cX3_deposit 24 = .ok (.getfield 41, 3) := by decide +kernel
theorem dX3_deposit_27 : decode cX3_deposit 27 = .ok (.iload_n 1, 1) := by decide +kernel
theorem dX3_deposit_28 : decode cX3_deposit 28 = .ok (.iload_n 2, 1) := by decide +kernel
theorem dX3_deposit_29 : decode cX3_deposit 29 = .ok (.invokevirtual 97, 3) := by decide +kernel
theorem dX3_deposit_32 : decode cX3_deposit 32 = .ok (.invokestatic 81, 3) := by decide +kernel
theorem dX3_deposit_35 : decode cX3_deposit 35 = .ok (.aload_n 0, 1) := by decide +kernel
theorem dX3_deposit_36 : decode cX3_deposit 36 = .ok (.invokevirtual 85, 3) := by decide +kernel
theorem dX3_deposit_39 : decode cX3_deposit 39 = .ok (.aload_n 0, 1) := by decide +kernel
theorem dX3_deposit_40 : decode cX3_deposit 40 = .ok (.getfield 41, 3) := by decide +kernel
theorem dX3_deposit_43 : decode cX3_deposit 43 = .ok (.getfield 101, 3) := by decide +kernel
theorem dX3_deposit_46 : decode cX3_deposit 46 = .ok (.iload_n 1, 1) := by decide +kernel
theorem dX3_deposit_47 : decode cX3_deposit 47 = .ok (.iaload, 1) := by decide +kernel
theorem dX3_deposit_48 : decode cX3_deposit 48 = .ok (.ireturn, 1) := by decide +kernel
theorem dX3_lend_0 : decode cX3_lend 0 = .ok (.iload_n 1, 1) := by decide +kernel
theorem dX3_lend_1 : decode cX3_lend 1 = .ok (.invokestatic 70, 3) := by decide +kernel
theorem dX3_lend_4 : decode cX3_lend 4 = .ok (.iload_n 2, 1) := by decide +kernel
theorem dX3_lend_5 : decode cX3_lend 5 = .ok (.iconst 1, 1) := by decide +kernel
theorem dX3_lend_6 : decode cX3_lend 6 = .ok (.sipush 9999, 3) := by decide +kernel
theorem dX3_lend_9 : decode cX3_lend 9 = .ok (.invokestatic 52, 3) := by decide +kernel
theorem dX3_lend_12 : decode cX3_lend 12 = .ok (.aload_n 0, 1) := by decide +kernel
theorem dX3_lend_13 : decode cX3_lend 13 = .ok (.getfield 45, 3) := by decide +kernel
theorem dX3_lend_16 : decode cX3_lend 16 = .ok (.aload_n 0, 1) := by decide +kernel
theorem dX3_lend_17 : decode cX3_lend 17 = .ok (.getfield 41, 3) := by decide +kernel
theorem dX3_lend_20 : decode cX3_lend 20 = .ok (.invokevirtual 73, 3) := by decide +kernel
theorem dX3_lend_23 : decode cX3_lend 23 = .ok (.aload_n 0, 1) := by decide +kernel
theorem dX3_lend_24 : decode cX3_lend 24 = .ok (.getfield 41, 3) := by decide +kernel
theorem dX3_lend_27 : decode cX3_lend 27 = .ok (.iload_n 1, 1) := by decide +kernel
theorem dX3_lend_28 : decode cX3_lend 28 = .ok (.iload_n 2, 1) := by decide +kernel
theorem dX3_lend_29 : decode cX3_lend 29 = .ok (.invokevirtual 107, 3) := by decide +kernel
theorem dX3_lend_32 : decode cX3_lend 32 = .ok (.invokestatic 81, 3) := by decide +kernel
theorem dX3_lend_35 : decode cX3_lend 35 = .ok (.aload_n 0, 1) := by decide +kernel
theorem dX3_lend_36 : decode cX3_lend 36 = .ok (.invokevirtual 85, 3) := by decide +kernel
theorem dX3_lend_39 : decode cX3_lend 39 = .ok (.aload_n 0, 1) := by decide +kernel
theorem dX3_lend_40 : decode cX3_lend 40 = .ok (.getfield 41, 3) := by decide +kernel
theorem dX3_lend_43 : decode cX3_lend 43 = .ok (.getfield 110, 3) := by decide +kernel
theorem dX3_lend_46 : decode cX3_lend 46 = .ok (.iload_n 1, 1) := by decide +kernel
theorem dX3_lend_47 : decode cX3_lend 47 = .ok (.iaload, 1) := by decide +kernel
theorem dX3_lend_48 : decode cX3_lend 48 = .ok (.ireturn, 1) := by decide +kernel
theorem dX3_payBack_0 : decode cX3_payBack 0 = .ok (.iload_n 1, 1) := by decide +kernel
theorem dX3_payBack_1 : decode cX3_payBack 1 = .ok (.invokestatic 70, 3) := by decide +kernel
theorem dX3_payBack_4 : decode cX3_payBack 4 = .ok (.iload_n 2, 1) := by decide +kernel
theorem dX3_payBack_5 : decode cX3_payBack 5 = .ok (.iconst 1, 1) := by decide +kernel
theorem dX3_payBack_6 : decode cX3_payBack 6 = .ok (.sipush 9999, 3) := by decide +kernel
theorem dX3_payBack_9 : decode cX3_payBack 9 = .ok (.invokestatic 52, 3) := by decide +kernel
theorem dX3_payBack_12 : decode cX3_payBack 12 = .ok (.aload_n 0, 1) := by decide +kernel
theorem dX3_payBack_13 : decode cX3_payBack 13 = .ok (.getfield 45, 3) := by decide +kernel
theorem dX3_payBack_16 : decode cX3_payBack 16 = .ok (.aload_n 0, 1) := by decide +kernel
theorem dX3_payBack_17 : decode cX3_payBack 17 = .ok (.getfield 41, 3) := by decide +kernel
theorem dX3_payBack_20 : decode cX3_payBack 20 = .ok (.invokevirtual 73, 3) := by decide +kernel
theorem dX3_payBack_23 : decode cX3_payBack 23 = .ok (.aload_n 0, 1) := by decide +kernel
theorem dX3_payBack_24 : decode cX3_payBack 24 = .ok (.getfield 41, 3) := by decide +kernel
theorem dX3_payBack_27 : decode cX3_payBack 27 = .ok (.iload_n 1, 1) := by decide +kernel
theorem dX3_payBack_28 : decode cX3_payBack 28 = .ok (.iload_n 2, 1) := by decide +kernel
theorem dX3_payBack_29 : decode cX3_payBack 29 = .ok (.invokevirtual 113, 3) := by decide +kernel
theorem dX3_payBack_32 : decode cX3_payBack 32 = .ok (.istore_n 3, 1) := by decide +kernel
theorem dX3_payBack_33 : decode cX3_payBack 33 = .ok (.iload_n 3, 1) := by decide +kernel
theorem dX3_payBack_34 : decode cX3_payBack 34 = .ok (.iconst (-1), 1) := by decide +kernel
theorem dX3_payBack_35 : decode cX3_payBack 35 = .ok (.if_icmp .eq 7, 3) := by decide +kernel
theorem dX3_payBack_38 : decode cX3_payBack 38 = .ok (.iconst 1, 1) := by decide +kernel
theorem dX3_payBack_39 : decode cX3_payBack 39 = .ok (.goto 4, 3) := by decide +kernel
theorem dX3_payBack_42 : decode cX3_payBack 42 = .ok (.iconst 0, 1) := by decide +kernel
theorem dX3_payBack_43 : decode cX3_payBack 43 = .ok (.invokestatic 81, 3) := by decide +kernel
theorem dX3_payBack_46 : decode cX3_payBack 46 = .ok (.aload_n 0, 1) := by decide +kernel
theorem dX3_payBack_47 : decode cX3_payBack 47 = .ok (.invokevirtual 85, 3) := by decide +kernel
theorem dX3_payBack_50 : decode cX3_payBack 50 = .ok (.iload_n 3, 1) := by decide +kernel
theorem dX3_payBack_51 : decode cX3_payBack 51 = .ok (.ireturn, 1) := by decide +kernel
theorem dX3_pass_0 : decode cX3_pass 0 = .ok (.iload_n 1, 1) := by decide +kernel
theorem dX3_pass_1 : decode cX3_pass 1 = .ok (.iconst 1, 1) := by decide +kernel
theorem dX3_pass_2 : decode cX3_pass 2 = .ok (.bipush 100, 2) := by decide +kernel
theorem dX3_pass_4 : decode cX3_pass 4 = .ok (.invokestatic 52, 3) := by decide +kernel
theorem dX3_pass_7 : decode cX3_pass 7 = .ok (.aload_n 0, 1) := by decide +kernel
theorem dX3_pass_8 : decode cX3_pass 8 = .ok (.invokevirtual 56, 3) := by decide +kernel
theorem dX3_pass_11 : decode cX3_pass 11 = .ok (.aload_n 0, 1) := by decide +kernel
theorem dX3_pass_12 : decode cX3_pass 12 = .ok (.getfield 41, 3) := by decide +kernel
theorem dX3_pass_15 : decode cX3_pass 15 = .ok (.iload_n 1, 1) := by decide +kernel
theorem dX3_pass_16 : decode cX3_pass 16 = .ok (.aload_n 0, 1) := by decide +kernel
theorem dX3_pass_17 : decode cX3_pass 17 = .ok (.getfield 19, 3) := by decide +kernel
theorem dX3_pass_20 : decode cX3_pass 20 = .ok (.invokevirtual 120, 3) := by decide +kernel
theorem dX3_pass_23 : decode cX3_pass 23 = .ok (.ireturn, 1) := by decide +kernel
theorem dX3_changeRate_0 : decode cX3_changeRate 0 = .ok (.iload_n 1, 1) := by decide +kernel
theorem dX3_changeRate_1 : decode cX3_changeRate 1 = .ok (.iconst 0, 1) := by decide +kernel
theorem dX3_changeRate_2 : decode cX3_changeRate 2 = .ok (.bipush 100, 2) := by decide +kernel
theorem dX3_changeRate_4 : decode cX3_changeRate 4 = .ok (.invokestatic 52, 3) := by decide +kernel
theorem dX3_changeRate_7 : decode cX3_changeRate 7 = .ok (.aload_n 0, 1) := by decide +kernel
theorem dX3_changeRate_8 : decode cX3_changeRate 8 = .ok (.invokevirtual 56, 3) := by decide +kernel
theorem dX3_changeRate_11 : decode cX3_changeRate 11 = .ok (.aload_n 0, 1) := by decide +kernel
theorem dX3_changeRate_12 : decode cX3_changeRate 12 = .ok (.getfield 41, 3) := by decide +kernel
theorem dX3_changeRate_15 : decode cX3_changeRate 15 = .ok (.getfield 124, 3) := by decide +kernel
theorem dX3_changeRate_18 : decode cX3_changeRate 18 = .ok (.istore_n 2, 1) := by decide +kernel
theorem dX3_changeRate_19 : decode cX3_changeRate 19 = .ok (.aload_n 0, 1) := by decide +kernel
theorem dX3_changeRate_20 : decode cX3_changeRate 20 = .ok (.getfield 41, 3) := by decide +kernel
theorem dX3_changeRate_23 : decode cX3_changeRate 23 = .ok (.iload_n 1, 1) := by decide +kernel
theorem dX3_changeRate_24 : decode cX3_changeRate 24 = .ok (.putfield 124, 3) := by decide +kernel
theorem dX3_changeRate_27 : decode cX3_changeRate 27 = .ok (.iload_n 2, 1) := by decide +kernel
theorem dX3_changeRate_28 : decode cX3_changeRate 28 = .ok (.ireturn, 1) := by decide +kernel
theorem dX3_changeGrace_0 : decode cX3_changeGrace 0 = .ok (.iload_n 1, 1) := by decide +kernel
theorem dX3_changeGrace_1 : decode cX3_changeGrace 1 = .ok (.iconst 1, 1) := by decide +kernel
theorem dX3_changeGrace_2 : decode cX3_changeGrace 2 = .ok (.bipush 24, 2) := by decide +kernel
theorem dX3_changeGrace_4 : decode cX3_changeGrace 4 = .ok (.invokestatic 52, 3) := by decide +kernel
theorem dX3_changeGrace_7 : decode cX3_changeGrace 7 = .ok (.aload_n 0, 1) := by decide +kernel
theorem dX3_changeGrace_8 : decode cX3_changeGrace 8 = .ok (.invokevirtual 56, 3) := by decide +kernel
theorem dX3_changeGrace_11 : decode cX3_changeGrace 11 = .ok (.aload_n 0, 1) := by decide +kernel
theorem dX3_changeGrace_12 : decode cX3_changeGrace 12 = .ok (.getfield 41, 3) := by decide +kernel
theorem dX3_changeGrace_15 : decode cX3_changeGrace 15 = .ok (.getfield 128, 3) := by decide +kernel
theorem dX3_changeGrace_18 : decode cX3_changeGrace 18 = .ok (.istore_n 2, 1) := by decide +kernel
theorem dX3_changeGrace_19 : decode cX3_changeGrace 19 = .ok (.aload_n 0, 1) := by decide +kernel
theorem dX3_changeGrace_20 : decode cX3_changeGrace 20 = .ok (.getfield 41, 3) := by decide +kernel
theorem dX3_changeGrace_23 : decode cX3_changeGrace 23 = .ok (.iload_n 1, 1) := by decide +kernel
theorem dX3_changeGrace_24 : decode cX3_changeGrace 24 = .ok (.putfield 128, 3) := by decide +kernel
theorem dX3_changeGrace_27 : decode cX3_changeGrace 27 = .ok (.iload_n 2, 1) := by decide +kernel
theorem dX3_changeGrace_28 : decode cX3_changeGrace 28 = .ok (.ireturn, 1) := by decide +kernel
theorem dX3_changeSlip_0 : decode cX3_changeSlip 0 = .ok (.iload_n 1, 1) := by decide +kernel
theorem dX3_changeSlip_1 : decode cX3_changeSlip 1 = .ok (.iconst 0, 1) := by decide +kernel
theorem dX3_changeSlip_2 : decode cX3_changeSlip 2 = .ok (.bipush 50, 2) := by decide +kernel
theorem dX3_changeSlip_4 : decode cX3_changeSlip 4 = .ok (.invokestatic 52, 3) := by decide +kernel
theorem dX3_changeSlip_7 : decode cX3_changeSlip 7 = .ok (.aload_n 0, 1) := by decide +kernel
theorem dX3_changeSlip_8 : decode cX3_changeSlip 8 = .ok (.invokevirtual 56, 3) := by decide +kernel
theorem dX3_changeSlip_11 : decode cX3_changeSlip 11 = .ok (.aload_n 0, 1) := by decide +kernel
theorem dX3_changeSlip_12 : decode cX3_changeSlip 12 = .ok (.getfield 41, 3) := by decide +kernel
theorem dX3_changeSlip_15 : decode cX3_changeSlip 15 = .ok (.getfield 131, 3) := by decide +kernel
theorem dX3_changeSlip_18 : decode cX3_changeSlip 18 = .ok (.istore_n 2, 1) := by decide +kernel
theorem dX3_changeSlip_19 : decode cX3_changeSlip 19 = .ok (.aload_n 0, 1) := by decide +kernel
theorem dX3_changeSlip_20 : decode cX3_changeSlip 20 = .ok (.getfield 41, 3) := by decide +kernel
theorem dX3_changeSlip_23 : decode cX3_changeSlip 23 = .ok (.iload_n 1, 1) := by decide +kernel
theorem dX3_changeSlip_24 : decode cX3_changeSlip 24 = .ok (.putfield 131, 3) := by decide +kernel
theorem dX3_changeSlip_27 : decode cX3_changeSlip 27 = .ok (.iload_n 2, 1) := by decide +kernel
theorem dX3_changeSlip_28 : decode cX3_changeSlip 28 = .ok (.ireturn, 1) := by decide +kernel
theorem dX3_turnOrder_0 : decode cX3_turnOrder 0 = .ok (.aload_n 0, 1) := by decide +kernel
theorem dX3_turnOrder_1 : decode cX3_turnOrder 1 = .ok (.invokevirtual 56, 3) := by decide +kernel
theorem dX3_turnOrder_4 : decode cX3_turnOrder 4 = .ok (.aload_n 0, 1) := by decide +kernel
theorem dX3_turnOrder_5 : decode cX3_turnOrder 5 = .ok (.getfield 41, 3) := by decide +kernel
theorem dX3_turnOrder_8 : decode cX3_turnOrder 8 = .ok (.aload_n 0, 1) := by decide +kernel
theorem dX3_turnOrder_9 : decode cX3_turnOrder 9 = .ok (.getfield 41, 3) := by decide +kernel
theorem dX3_turnOrder_12 : decode cX3_turnOrder 12 = .ok (.getfield 134, 3) := by decide +kernel
theorem dX3_turnOrder_15 : decode cX3_turnOrder 15 = .ok (.iconst 1, 1) := by decide +kernel
theorem dX3_turnOrder_16 : decode cX3_turnOrder 16 = .ok (.iadd, 1) := by decide +kernel
theorem dX3_turnOrder_17 : decode cX3_turnOrder 17 = .ok (.iconst 3, 1) := by decide +kernel
theorem dX3_turnOrder_18 : decode cX3_turnOrder 18 = .ok (.irem, 1) := by decide +kernel
theorem dX3_turnOrder_19 : decode cX3_turnOrder 19 = .ok (.putfield 134, 3) := by decide +kernel
theorem dX3_turnOrder_22 : decode cX3_turnOrder 22 = .ok (.aload_n 0, 1) := by decide +kernel
theorem dX3_turnOrder_23 : decode cX3_turnOrder 23 = .ok (.getfield 41, 3) := by decide +kernel
theorem dX3_turnOrder_26 : decode cX3_turnOrder 26 = .ok (.getfield 134, 3) := by decide +kernel
theorem dX3_turnOrder_29 : decode cX3_turnOrder 29 = .ok (.ireturn, 1) := by decide +kernel
theorem dX3_priceOf_0 : decode cX3_priceOf 0 = .ok (.iload_n 1, 1) := by decide +kernel
theorem dX3_priceOf_1 : decode cX3_priceOf 1 = .ok (.invokestatic 48, 3) := by decide +kernel
theorem dX3_priceOf_4 : decode cX3_priceOf 4 = .ok (.aload_n 0, 1) := by decide +kernel
theorem dX3_priceOf_5 : decode cX3_priceOf 5 = .ok (.getfield 41, 3) := by decide +kernel
theorem dX3_priceOf_8 : decode cX3_priceOf 8 = .ok (.getfield 175, 3) := by decide +kernel
theorem dX3_priceOf_11 : decode cX3_priceOf 11 = .ok (.iload_n 1, 1) := by decide +kernel
theorem dX3_priceOf_12 : decode cX3_priceOf 12 = .ok (.iaload, 1) := by decide +kernel
theorem dX3_priceOf_13 : decode cX3_priceOf 13 = .ok (.ireturn, 1) := by decide +kernel
theorem dX3_cutOf_0 : decode cX3_cutOf 0 = .ok (.iload_n 1, 1) := by decide +kernel
theorem dX3_cutOf_1 : decode cX3_cutOf 1 = .ok (.invokestatic 48, 3) := by decide +kernel
theorem dX3_cutOf_4 : decode cX3_cutOf 4 = .ok (.aload_n 0, 1) := by decide +kernel
theorem dX3_cutOf_5 : decode cX3_cutOf 5 = .ok (.getfield 41, 3) := by decide +kernel
theorem dX3_cutOf_8 : decode cX3_cutOf 8 = .ok (.getfield 178, 3) := by decide +kernel
theorem dX3_cutOf_11 : decode cX3_cutOf 11 = .ok (.iload_n 1, 1) := by decide +kernel
theorem dX3_cutOf_12 : decode cX3_cutOf 12 = .ok (.iaload, 1) := by decide +kernel
theorem dX3_cutOf_13 : decode cX3_cutOf 13 = .ok (.ireturn, 1) := by decide +kernel
theorem dX3_pledgedOf_0 : decode cX3_pledgedOf 0 = .ok (.iload_n 1, 1) := by decide +kernel
theorem dX3_pledgedOf_1 : decode cX3_pledgedOf 1 = .ok (.invokestatic 48, 3) := by decide +kernel
theorem dX3_pledgedOf_4 : decode cX3_pledgedOf 4 = .ok (.aload_n 0, 1) := by decide +kernel
theorem dX3_pledgedOf_5 : decode cX3_pledgedOf 5 = .ok (.getfield 41, 3) := by decide +kernel
theorem dX3_pledgedOf_8 : decode cX3_pledgedOf 8 = .ok (.iload_n 1, 1) := by decide +kernel
theorem dX3_pledgedOf_9 : decode cX3_pledgedOf 9 = .ok (.invokevirtual 181, 3) := by decide +kernel
theorem dX3_pledgedOf_12 : decode cX3_pledgedOf 12 = .ok (.ireturn, 1) := by decide +kernel
theorem dX3_soldOf_0 : decode cX3_soldOf 0 = .ok (.iload_n 1, 1) := by decide +kernel
theorem dX3_soldOf_1 : decode cX3_soldOf 1 = .ok (.invokestatic 48, 3) := by decide +kernel
theorem dX3_soldOf_4 : decode cX3_soldOf 4 = .ok (.aload_n 0, 1) := by decide +kernel
theorem dX3_soldOf_5 : decode cX3_soldOf 5 = .ok (.getfield 41, 3) := by decide +kernel
theorem dX3_soldOf_8 : decode cX3_soldOf 8 = .ok (.getfield 184, 3) := by decide +kernel
theorem dX3_soldOf_11 : decode cX3_soldOf 11 = .ok (.iload_n 1, 1) := by decide +kernel
theorem dX3_soldOf_12 : decode cX3_soldOf 12 = .ok (.iaload, 1) := by decide +kernel
theorem dX3_soldOf_13 : decode cX3_soldOf 13 = .ok (.ireturn, 1) := by decide +kernel
theorem dX3_piecesOf_0 : decode cX3_piecesOf 0 = .ok (.iload_n 1, 1) := by decide +kernel
theorem dX3_piecesOf_1 : decode cX3_piecesOf 1 = .ok (.invokestatic 70, 3) := by decide +kernel
theorem dX3_piecesOf_4 : decode cX3_piecesOf 4 = .ok (.iload_n 2, 1) := by decide +kernel
theorem dX3_piecesOf_5 : decode cX3_piecesOf 5 = .ok (.invokestatic 48, 3) := by decide +kernel
theorem dX3_piecesOf_8 : decode cX3_piecesOf 8 = .ok (.aload_n 0, 1) := by decide +kernel
theorem dX3_piecesOf_9 : decode cX3_piecesOf 9 = .ok (.getfield 41, 3) := by decide +kernel
theorem dX3_piecesOf_12 : decode cX3_piecesOf 12 = .ok (.getfield 88, 3) := by decide +kernel
theorem dX3_piecesOf_15 : decode cX3_piecesOf 15 = .ok (.iload_n 1, 1) := by decide +kernel
theorem dX3_piecesOf_16 : decode cX3_piecesOf 16 = .ok (.iload_n 2, 1) := by decide +kernel
theorem dX3_piecesOf_17 : decode cX3_piecesOf 17 = .ok (.invokestatic 91, 3) := by decide +kernel
theorem dX3_piecesOf_20 : decode cX3_piecesOf 20 = .ok (.iaload, 1) := by decide +kernel
theorem dX3_piecesOf_21 : decode cX3_piecesOf 21 = .ok (.ireturn, 1) := by decide +kernel
theorem dX3_coinsOf_0 : decode cX3_coinsOf 0 = .ok (.iload_n 1, 1) := by decide +kernel
theorem dX3_coinsOf_1 : decode cX3_coinsOf 1 = .ok (.invokestatic 70, 3) := by decide +kernel
theorem dX3_coinsOf_4 : decode cX3_coinsOf 4 = .ok (.aload_n 0, 1) := by decide +kernel
theorem dX3_coinsOf_5 : decode cX3_coinsOf 5 = .ok (.getfield 41, 3) := by decide +kernel
theorem dX3_coinsOf_8 : decode cX3_coinsOf 8 = .ok (.getfield 101, 3) := by decide +kernel
theorem dX3_coinsOf_11 : decode cX3_coinsOf 11 = .ok (.iload_n 1, 1) := by decide +kernel
theorem dX3_coinsOf_12 : decode cX3_coinsOf 12 = .ok (.iaload, 1) := by decide +kernel
theorem dX3_coinsOf_13 : decode cX3_coinsOf 13 = .ok (.ireturn, 1) := by decide +kernel
theorem dX3_debtOf_0 : decode cX3_debtOf 0 = .ok (.iload_n 1, 1) := by decide +kernel
theorem dX3_debtOf_1 : decode cX3_debtOf 1 = .ok (.invokestatic 70, 3) := by decide +kernel
theorem dX3_debtOf_4 : decode cX3_debtOf 4 = .ok (.aload_n 0, 1) := by decide +kernel
theorem dX3_debtOf_5 : decode cX3_debtOf 5 = .ok (.getfield 41, 3) := by decide +kernel
theorem dX3_debtOf_8 : decode cX3_debtOf 8 = .ok (.getfield 110, 3) := by decide +kernel
theorem dX3_debtOf_11 : decode cX3_debtOf 11 = .ok (.iload_n 1, 1) := by decide +kernel
theorem dX3_debtOf_12 : decode cX3_debtOf 12 = .ok (.iaload, 1) := by decide +kernel
theorem dX3_debtOf_13 : decode cX3_debtOf 13 = .ok (.ireturn, 1) := by decide +kernel
theorem dX3_worthOf_0 : decode cX3_worthOf 0 = .ok (.iload_n 1, 1) := by decide +kernel
theorem dX3_worthOf_1 : decode cX3_worthOf 1 = .ok (.invokestatic 70, 3) := by decide +kernel
theorem dX3_worthOf_4 : decode cX3_worthOf 4 = .ok (.aload_n 0, 1) := by decide +kernel
theorem dX3_worthOf_5 : decode cX3_worthOf 5 = .ok (.getfield 41, 3) := by decide +kernel
theorem dX3_worthOf_8 : decode cX3_worthOf 8 = .ok (.iload_n 1, 1) := by decide +kernel
theorem dX3_worthOf_9 : decode cX3_worthOf 9 = .ok (.invokevirtual 187, 3) := by decide +kernel
theorem dX3_worthOf_12 : decode cX3_worthOf 12 = .ok (.ireturn, 1) := by decide +kernel
theorem dX3_coverOf_0 : decode cX3_coverOf 0 = .ok (.iload_n 1, 1) := by decide +kernel
theorem dX3_coverOf_1 : decode cX3_coverOf 1 = .ok (.invokestatic 70, 3) := by decide +kernel
theorem dX3_coverOf_4 : decode cX3_coverOf 4 = .ok (.aload_n 0, 1) := by decide +kernel
theorem dX3_coverOf_5 : decode cX3_coverOf 5 = .ok (.getfield 41, 3) := by decide +kernel
theorem dX3_coverOf_8 : decode cX3_coverOf 8 = .ok (.iload_n 1, 1) := by decide +kernel
theorem dX3_coverOf_9 : decode cX3_coverOf 9 = .ok (.invokevirtual 190, 3) := by decide +kernel
theorem dX3_coverOf_12 : decode cX3_coverOf 12 = .ok (.ireturn, 1) := by decide +kernel
theorem dX3_roomOf_0 : decode cX3_roomOf 0 = .ok (.iload_n 1, 1) := by decide +kernel
theorem dX3_roomOf_1 : decode cX3_roomOf 1 = .ok (.invokestatic 70, 3) := by decide +kernel
theorem dX3_roomOf_4 : decode cX3_roomOf 4 = .ok (.aload_n 0, 1) := by decide +kernel
theorem dX3_roomOf_5 : decode cX3_roomOf 5 = .ok (.getfield 41, 3) := by decide +kernel
theorem dX3_roomOf_8 : decode cX3_roomOf 8 = .ok (.iload_n 1, 1) := by decide +kernel
theorem dX3_roomOf_9 : decode cX3_roomOf 9 = .ok (.invokevirtual 193, 3) := by decide +kernel
theorem dX3_roomOf_12 : decode cX3_roomOf 12 = .ok (.ireturn, 1) := by decide +kernel
theorem dX3_isCalled_0 : decode cX3_isCalled 0 = .ok (.iload_n 1, 1) := by decide +kernel
theorem dX3_isCalled_1 : decode cX3_isCalled 1 = .ok (.invokestatic 70, 3) := by decide +kernel
theorem dX3_isCalled_4 : decode cX3_isCalled 4 = .ok (.aload_n 0, 1) := by decide +kernel
theorem dX3_isCalled_5 : decode cX3_isCalled 5 = .ok (.getfield 41, 3) := by decide +kernel
theorem dX3_isCalled_8 : decode cX3_isCalled 8 = .ok (.getfield 196, 3) := by decide +kernel
theorem dX3_isCalled_11 : decode cX3_isCalled 11 = .ok (.iload_n 1, 1) := by decide +kernel
theorem dX3_isCalled_12 : decode cX3_isCalled 12 = .ok (.iaload, 1) := by decide +kernel
theorem dX3_isCalled_13 : decode cX3_isCalled 13 = .ok (.ifCond .le 7, 3) := by decide +kernel
theorem dX3_isCalled_16 : decode cX3_isCalled 16 = .ok (.iconst 1, 1) := by decide +kernel
theorem dX3_isCalled_17 : decode cX3_isCalled 17 = .ok (.goto 4, 3) := by decide +kernel
theorem dX3_isCalled_20 : decode cX3_isCalled 20 = .ok (.iconst 0, 1) := by decide +kernel
theorem dX3_isCalled_21 : decode cX3_isCalled 21 = .ok (.ireturn, 1) := by decide +kernel
theorem dX3_hoursLeft_0 : decode cX3_hoursLeft 0 = .ok (.iload_n 1, 1) := by decide +kernel
theorem dX3_hoursLeft_1 : decode cX3_hoursLeft 1 = .ok (.invokestatic 70, 3) := by decide +kernel
theorem dX3_hoursLeft_4 : decode cX3_hoursLeft 4 = .ok (.aload_n 0, 1) := by decide +kernel
theorem dX3_hoursLeft_5 : decode cX3_hoursLeft 5 = .ok (.getfield 41, 3) := by decide +kernel
theorem dX3_hoursLeft_8 : decode cX3_hoursLeft 8 = .ok (.getfield 196, 3) := by decide +kernel
theorem dX3_hoursLeft_11 : decode cX3_hoursLeft 11 = .ok (.iload_n 1, 1) := by decide +kernel
theorem dX3_hoursLeft_12 : decode cX3_hoursLeft 12 = .ok (.iaload, 1) := by decide +kernel
theorem dX3_hoursLeft_13 : decode cX3_hoursLeft 13 = .ok (.ifCond .le 7, 3) := by decide +kernel
theorem dX3_hoursLeft_16 : decode cX3_hoursLeft 16 = .ok (.iconst 1, 1) := by decide +kernel
theorem dX3_hoursLeft_17 : decode cX3_hoursLeft 17 = .ok (.goto 4, 3) := by decide +kernel
theorem dX3_hoursLeft_20 : decode cX3_hoursLeft 20 = .ok (.iconst 0, 1) := by decide +kernel
theorem dX3_hoursLeft_21 : decode cX3_hoursLeft 21 = .ok (.invokestatic 81, 3) := by decide +kernel
theorem dX3_hoursLeft_24 : decode cX3_hoursLeft 24 = .ok (.aload_n 0, 1) := by decide +kernel
theorem dX3_hoursLeft_25 : decode cX3_hoursLeft 25 = .ok (.getfield 41, 3) := by decide +kernel
theorem dX3_hoursLeft_28 : decode cX3_hoursLeft 28 = .ok (.getfield 196, 3) := by decide +kernel
theorem dX3_hoursLeft_31 : decode cX3_hoursLeft 31 = .ok (.iload_n 1, 1) := by decide +kernel
theorem dX3_hoursLeft_32 : decode cX3_hoursLeft 32 = .ok (.iaload, 1) := by decide +kernel
theorem dX3_hoursLeft_33 : decode cX3_hoursLeft 33 = .ok (.ireturn, 1) := by decide +kernel
theorem dX3_isBarred_0 : decode cX3_isBarred 0 = .ok (.iload_n 1, 1) := by decide +kernel
theorem dX3_isBarred_1 : decode cX3_isBarred 1 = .ok (.invokestatic 70, 3) := by decide +kernel
theorem dX3_isBarred_4 : decode cX3_isBarred 4 = .ok (.aload_n 0, 1) := by decide +kernel
theorem dX3_isBarred_5 : decode cX3_isBarred 5 = .ok (.getfield 41, 3) := by decide +kernel
theorem dX3_isBarred_8 : decode cX3_isBarred 8 = .ok (.getfield 199, 3) := by decide +kernel
theorem dX3_isBarred_11 : decode cX3_isBarred 11 = .ok (.iload_n 1, 1) := by decide +kernel
theorem dX3_isBarred_12 : decode cX3_isBarred 12 = .ok (.baload, 1) := by decide +kernel
theorem dX3_isBarred_13 : decode cX3_isBarred 13 = .ok (.ireturn, 1) := by decide +kernel
theorem dX3_rankOf_0 : decode cX3_rankOf 0 = .ok (.iload_n 1, 1) := by decide +kernel
theorem dX3_rankOf_1 : decode cX3_rankOf 1 = .ok (.invokestatic 70, 3) := by decide +kernel
theorem dX3_rankOf_4 : decode cX3_rankOf 4 = .ok (.aload_n 0, 1) := by decide +kernel
theorem dX3_rankOf_5 : decode cX3_rankOf 5 = .ok (.getfield 41, 3) := by decide +kernel
theorem dX3_rankOf_8 : decode cX3_rankOf 8 = .ok (.iload_n 1, 1) := by decide +kernel
theorem dX3_rankOf_9 : decode cX3_rankOf 9 = .ok (.invokevirtual 202, 3) := by decide +kernel
theorem dX3_rankOf_12 : decode cX3_rankOf 12 = .ok (.ireturn, 1) := by decide +kernel
theorem dX3_riskyBySorting_0 : decode cX3_riskyBySorting 0 = .ok (.iload_n 1, 1) := by decide +kernel
theorem dX3_riskyBySorting_1 : decode cX3_riskyBySorting 1 = .ok (.invokestatic 205, 3) := by decide +kernel
theorem dX3_riskyBySorting_4 : decode cX3_riskyBySorting 4 = .ok (.aload_n 0, 1) := by decide +kernel
theorem dX3_riskyBySorting_5 : decode cX3_riskyBySorting 5 = .ok (.getfield 41, 3) := by decide +kernel
theorem dX3_riskyBySorting_8 : decode cX3_riskyBySorting 8 = .ok (.aload_n 0, 1) := by decide +kernel
theorem dX3_riskyBySorting_9 : decode cX3_riskyBySorting 9 = .ok (.getfield 23, 3) := by decide +kernel
theorem dX3_riskyBySorting_12 : decode cX3_riskyBySorting 12 = .ok (.invokevirtual 208, 3) := by decide +kernel
theorem dX3_riskyBySorting_15 : decode cX3_riskyBySorting 15 = .ok (.aload_n 0, 1) := by decide +kernel
theorem dX3_riskyBySorting_16 : decode cX3_riskyBySorting 16 = .ok (.getfield 23, 3) := by decide +kernel
theorem dX3_riskyBySorting_19 : decode cX3_riskyBySorting 19 = .ok (.iload_n 1, 1) := by decide +kernel
theorem dX3_riskyBySorting_20 : decode cX3_riskyBySorting 20 = .ok (.iaload, 1) := by decide +kernel
theorem dX3_riskyBySorting_21 : decode cX3_riskyBySorting 21 = .ok (.ireturn, 1) := by decide +kernel
theorem dX3_riskyByTaking_0 : decode cX3_riskyByTaking 0 = .ok (.iload_n 1, 1) := by decide +kernel
theorem dX3_riskyByTaking_1 : decode cX3_riskyByTaking 1 = .ok (.invokestatic 205, 3) := by decide +kernel
theorem dX3_riskyByTaking_4 : decode cX3_riskyByTaking 4 = .ok (.aload_n 0, 1) := by decide +kernel
theorem dX3_riskyByTaking_5 : decode cX3_riskyByTaking 5 = .ok (.getfield 41, 3) := by decide +kernel
theorem dX3_riskyByTaking_8 : decode cX3_riskyByTaking 8 = .ok (.iload_n 1, 1) := by decide +kernel
theorem dX3_riskyByTaking_9 : decode cX3_riskyByTaking 9 = .ok (.invokevirtual 212, 3) := by decide +kernel
theorem dX3_riskyByTaking_12 : decode cX3_riskyByTaking 12 = .ok (.ireturn, 1) := by decide +kernel
theorem dX3_calledNow_0 : decode cX3_calledNow 0 = .ok (.aload_n 0, 1) := by decide +kernel
theorem dX3_calledNow_1 : decode cX3_calledNow 1 = .ok (.getfield 41, 3) := by decide +kernel
theorem dX3_calledNow_4 : decode cX3_calledNow 4 = .ok (.invokevirtual 169, 3) := by decide +kernel
theorem dX3_calledNow_7 : decode cX3_calledNow 7 = .ok (.ireturn, 1) := by decide +kernel
theorem dX3_order_0 : decode cX3_order 0 = .ok (.aload_n 0, 1) := by decide +kernel
theorem dX3_order_1 : decode cX3_order 1 = .ok (.getfield 41, 3) := by decide +kernel
theorem dX3_order_4 : decode cX3_order 4 = .ok (.getfield 134, 3) := by decide +kernel
theorem dX3_order_7 : decode cX3_order 7 = .ok (.ireturn, 1) := by decide +kernel
theorem dX3_fallToCallByTrying_0 : decode cX3_fallToCallByTrying 0 = .ok (.iload_n 1, 1) := by decide +kernel
theorem dX3_fallToCallByTrying_1 : decode cX3_fallToCallByTrying 1 = .ok (.invokestatic 70, 3) := by decide +kernel
theorem dX3_fallToCallByTrying_4 : decode cX3_fallToCallByTrying 4 = .ok (.aload_n 0, 1) := by decide +kernel
theorem dX3_fallToCallByTrying_5 : decode cX3_fallToCallByTrying 5 = .ok (.getfield 41, 3) := by decide +kernel
theorem dX3_fallToCallByTrying_8 : decode cX3_fallToCallByTrying 8 = .ok (.iload_n 1, 1) := by decide +kernel
theorem dX3_fallToCallByTrying_9 : decode cX3_fallToCallByTrying 9 = .ok (.invokevirtual 215, 3) := by decide +kernel
theorem dX3_fallToCallByTrying_12 : decode cX3_fallToCallByTrying 12 = .ok (.istore_n 2, 1) := by decide +kernel
theorem dX3_fallToCallByTrying_13 : decode cX3_fallToCallByTrying 13 = .ok (.iload_n 2, 1) := by decide +kernel
theorem dX3_fallToCallByTrying_14 : decode cX3_fallToCallByTrying 14 = .ok (.iconst (-1), 1) := by decide +kernel
theorem dX3_fallToCallByTrying_15 : decode cX3_fallToCallByTrying 15 = .ok (.if_icmp .eq 7, 3) := by decide +kernel
theorem dX3_fallToCallByTrying_18 : decode cX3_fallToCallByTrying 18 = .ok (.iconst 1, 1) := by decide +kernel
theorem dX3_fallToCallByTrying_19 : decode cX3_fallToCallByTrying 19 = .ok (.goto 4, 3) := by decide +kernel
theorem dX3_fallToCallByTrying_22 : decode cX3_fallToCallByTrying 22 = .ok (.iconst 0, 1) := by decide +kernel
theorem dX3_fallToCallByTrying_23 : decode cX3_fallToCallByTrying 23 = .ok (.invokestatic 81, 3) := by decide +kernel
theorem dX3_fallToCallByTrying_26 : decode cX3_fallToCallByTrying 26 = .ok (.iload_n 2, 1) := by decide +kernel
theorem dX3_fallToCallByTrying_27 : decode cX3_fallToCallByTrying 27 = .ok (.ireturn, 1) := by decide +kernel
theorem dX3_fallToCallByHalving_0 : decode cX3_fallToCallByHalving 0 = .ok (.iload_n 1, 1) := by decide +kernel
theorem dX3_fallToCallByHalving_1 : decode cX3_fallToCallByHalving 1 = .ok (.invokestatic 70, 3) := by decide +kernel
theorem dX3_fallToCallByHalving_4 : decode cX3_fallToCallByHalving 4 = .ok (.aload_n 0, 1) := by decide +kernel
theorem dX3_fallToCallByHalving_5 : decode cX3_fallToCallByHalving 5 = .ok (.getfield 41, 3) := by decide +kernel
theorem dX3_fallToCallByHalving_8 : decode cX3_fallToCallByHalving 8 = .ok (.iload_n 1, 1) := by decide +kernel
theorem dX3_fallToCallByHalving_9 : decode cX3_fallToCallByHalving 9 = .ok (.invokevirtual 218, 3) := by decide +kernel
theorem dX3_fallToCallByHalving_12 : decode cX3_fallToCallByHalving 12 = .ok (.istore_n 2, 1) := by decide +kernel
theorem dX3_fallToCallByHalving_13 : decode cX3_fallToCallByHalving 13 = .ok (.iload_n 2, 1) := by decide +kernel
theorem dX3_fallToCallByHalving_14 : decode cX3_fallToCallByHalving 14 = .ok (.iconst (-1), 1) := by decide +kernel
theorem dX3_fallToCallByHalving_15 : decode cX3_fallToCallByHalving 15 = .ok (.if_icmp .eq 7, 3) := by decide +kernel
theorem dX3_fallToCallByHalving_18 : decode cX3_fallToCallByHalving 18 = .ok (.iconst 1, 1) := by decide +kernel
theorem dX3_fallToCallByHalving_19 : decode cX3_fallToCallByHalving 19 = .ok (.goto 4, 3) := by decide +kernel
theorem dX3_fallToCallByHalving_22 : decode cX3_fallToCallByHalving 22 = .ok (.iconst 0, 1) := by decide +kernel
theorem dX3_fallToCallByHalving_23 : decode cX3_fallToCallByHalving 23 = .ok (.invokestatic 81, 3) := by decide +kernel
theorem dX3_fallToCallByHalving_26 : decode cX3_fallToCallByHalving 26 = .ok (.iload_n 2, 1) := by decide +kernel
theorem dX3_fallToCallByHalving_27 : decode cX3_fallToCallByHalving 27 = .ok (.ireturn, 1) := by decide +kernel
theorem dX3_hoursToCall_0 : decode cX3_hoursToCall 0 = .ok (.iload_n 1, 1) := by decide +kernel
theorem dX3_hoursToCall_1 : decode cX3_hoursToCall 1 = .ok (.invokestatic 70, 3) := by decide +kernel
theorem dX3_hoursToCall_4 : decode cX3_hoursToCall 4 = .ok (.aload_n 0, 1) := by decide +kernel
theorem dX3_hoursToCall_5 : decode cX3_hoursToCall 5 = .ok (.getfield 41, 3) := by decide +kernel
theorem dX3_hoursToCall_8 : decode cX3_hoursToCall 8 = .ok (.iload_n 1, 1) := by decide +kernel
theorem dX3_hoursToCall_9 : decode cX3_hoursToCall 9 = .ok (.invokevirtual 221, 3) := by decide +kernel
theorem dX3_hoursToCall_12 : decode cX3_hoursToCall 12 = .ok (.istore_n 2, 1) := by decide +kernel
theorem dX3_hoursToCall_13 : decode cX3_hoursToCall 13 = .ok (.iload_n 2, 1) := by decide +kernel
theorem dX3_hoursToCall_14 : decode cX3_hoursToCall 14 = .ok (.iconst (-1), 1) := by decide +kernel
theorem dX3_hoursToCall_15 : decode cX3_hoursToCall 15 = .ok (.if_icmp .eq 7, 3) := by decide +kernel
theorem dX3_hoursToCall_18 : decode cX3_hoursToCall 18 = .ok (.iconst 1, 1) := by decide +kernel
theorem dX3_hoursToCall_19 : decode cX3_hoursToCall 19 = .ok (.goto 4, 3) := by decide +kernel
theorem dX3_hoursToCall_22 : decode cX3_hoursToCall 22 = .ok (.iconst 0, 1) := by decide +kernel
theorem dX3_hoursToCall_23 : decode cX3_hoursToCall 23 = .ok (.invokestatic 81, 3) := by decide +kernel
theorem dX3_hoursToCall_26 : decode cX3_hoursToCall 26 = .ok (.iload_n 2, 1) := by decide +kernel
theorem dX3_hoursToCall_27 : decode cX3_hoursToCall 27 = .ok (.ireturn, 1) := by decide +kernel
theorem dX3_wouldSell_0 : decode cX3_wouldSell 0 = .ok (.iload_n 1, 1) := by decide +kernel
theorem dX3_wouldSell_1 : decode cX3_wouldSell 1 = .ok (.invokestatic 70, 3) := by decide +kernel
theorem dX3_wouldSell_4 : decode cX3_wouldSell 4 = .ok (.aload_n 0, 1) := by decide +kernel
theorem dX3_wouldSell_5 : decode cX3_wouldSell 5 = .ok (.getfield 19, 3) := by decide +kernel
theorem dX3_wouldSell_8 : decode cX3_wouldSell 8 = .ok (.aload_n 0, 1) := by decide +kernel
theorem dX3_wouldSell_9 : decode cX3_wouldSell 9 = .ok (.getfield 41, 3) := by decide +kernel
theorem dX3_wouldSell_12 : decode cX3_wouldSell 12 = .ok (.iload_n 1, 1) := by decide +kernel
theorem dX3_wouldSell_13 : decode cX3_wouldSell 13 = .ok (.invokevirtual 224, 3) := by decide +kernel
theorem dX3_wouldSell_16 : decode cX3_wouldSell 16 = .ok (.aload_n 0, 1) := by decide +kernel
theorem dX3_wouldSell_17 : decode cX3_wouldSell 17 = .ok (.getfield 19, 3) := by decide +kernel
theorem dX3_wouldSell_20 : decode cX3_wouldSell 20 = .ok (.getfield 228, 3) := by decide +kernel
theorem dX3_wouldSell_23 : decode cX3_wouldSell 23 = .ok (.ireturn, 1) := by decide +kernel
theorem dX3_wouldLose_0 : decode cX3_wouldLose 0 = .ok (.iload_n 1, 1) := by decide +kernel
theorem dX3_wouldLose_1 : decode cX3_wouldLose 1 = .ok (.invokestatic 70, 3) := by decide +kernel
theorem dX3_wouldLose_4 : decode cX3_wouldLose 4 = .ok (.aload_n 0, 1) := by decide +kernel
theorem dX3_wouldLose_5 : decode cX3_wouldLose 5 = .ok (.getfield 19, 3) := by decide +kernel
theorem dX3_wouldLose_8 : decode cX3_wouldLose 8 = .ok (.aload_n 0, 1) := by decide +kernel
theorem dX3_wouldLose_9 : decode cX3_wouldLose 9 = .ok (.getfield 41, 3) := by decide +kernel
theorem dX3_wouldLose_12 : decode cX3_wouldLose 12 = .ok (.iload_n 1, 1) := by decide +kernel
theorem dX3_wouldLose_13 : decode cX3_wouldLose 13 = .ok (.invokevirtual 224, 3) := by decide +kernel
theorem dX3_wouldLose_16 : decode cX3_wouldLose 16 = .ok (.aload_n 0, 1) := by decide +kernel
theorem dX3_wouldLose_17 : decode cX3_wouldLose 17 = .ok (.getfield 19, 3) := by decide +kernel
theorem dX3_wouldLose_20 : decode cX3_wouldLose 20 = .ok (.getfield 231, 3) := by decide +kernel
theorem dX3_wouldLose_23 : decode cX3_wouldLose 23 = .ok (.ireturn, 1) := by decide +kernel
theorem dX3_calledIfFallen_0 : decode cX3_calledIfFallen 0 = .ok (.iload_n 1, 1) := by decide +kernel
theorem dX3_calledIfFallen_1 : decode cX3_calledIfFallen 1 = .ok (.iconst 1, 1) := by decide +kernel
theorem dX3_calledIfFallen_2 : decode cX3_calledIfFallen 2 = .ok (.bipush 90, 2) := by decide +kernel
theorem dX3_calledIfFallen_4 : decode cX3_calledIfFallen 4 = .ok (.invokestatic 52, 3) := by decide +kernel
theorem dX3_calledIfFallen_7 : decode cX3_calledIfFallen 7 = .ok (.aload_n 0, 1) := by decide +kernel
theorem dX3_calledIfFallen_8 : decode cX3_calledIfFallen 8 = .ok (.getfield 41, 3) := by decide +kernel
theorem dX3_calledIfFallen_11 : decode cX3_calledIfFallen 11 = .ok (.iload_n 1, 1) := by decide +kernel
theorem dX3_calledIfFallen_12 : decode cX3_calledIfFallen 12 = .ok (.invokevirtual 234, 3) := by decide +kernel
theorem dX3_calledIfFallen_15 : decode cX3_calledIfFallen 15 = .ok (.ireturn, 1) := by decide +kernel
theorem dX3_hours_0 : decode cX3_hours 0 = .ok (.aload_n 0, 1) := by decide +kernel
theorem dX3_hours_1 : decode cX3_hours 1 = .ok (.getfield 41, 3) := by decide +kernel
theorem dX3_hours_4 : decode cX3_hours 4 = .ok (.getfield 237, 3) := by decide +kernel
theorem dX3_hours_7 : decode cX3_hours 7 = .ok (.ireturn, 1) := by decide +kernel
theorem dX3_debtsByClients_0 : decode cX3_debtsByClients 0 = .ok (.aload_n 0, 1) := by decide +kernel
theorem dX3_debtsByClients_1 : decode cX3_debtsByClients 1 = .ok (.getfield 41, 3) := by decide +kernel
theorem dX3_debtsByClients_4 : decode cX3_debtsByClients 4 = .ok (.invokevirtual 240, 3) := by decide +kernel
theorem dX3_debtsByClients_7 : decode cX3_debtsByClients 7 = .ok (.ireturn, 1) := by decide +kernel
theorem dX3_debtsByAccount_0 : decode cX3_debtsByAccount 0 = .ok (.aload_n 0, 1) := by decide +kernel
theorem dX3_debtsByAccount_1 : decode cX3_debtsByAccount 1 = .ok (.getfield 41, 3) := by decide +kernel
theorem dX3_debtsByAccount_4 : decode cX3_debtsByAccount 4 = .ok (.getfield 243, 3) := by decide +kernel
theorem dX3_debtsByAccount_7 : decode cX3_debtsByAccount 7 = .ok (.aload_n 0, 1) := by decide +kernel
theorem dX3_debtsByAccount_8 : decode cX3_debtsByAccount 8 = .ok (.getfield 41, 3) := by decide +kernel
theorem dX3_debtsByAccount_11 : decode cX3_debtsByAccount 11 = .ok (.getfield 246, 3) := by decide +kernel
theorem dX3_debtsByAccount_14 : decode cX3_debtsByAccount 14 = .ok (.iadd, 1) := by decide +kernel
theorem dX3_debtsByAccount_15 : decode cX3_debtsByAccount 15 = .ok (.aload_n 0, 1) := by decide +kernel
theorem dX3_debtsByAccount_16 : decode cX3_debtsByAccount 16 = .ok (.getfield 41, 3) := by decide +kernel
theorem dX3_debtsByAccount_19 : decode cX3_debtsByAccount 19 = .ok (.getfield 249, 3) := by decide +kernel
theorem dX3_debtsByAccount_22 : decode cX3_debtsByAccount 22 = .ok (.isub, 1) := by decide +kernel
theorem dX3_debtsByAccount_23 : decode cX3_debtsByAccount 23 = .ok (.aload_n 0, 1) := by decide +kernel
theorem dX3_debtsByAccount_24 : decode cX3_debtsByAccount 24 = .ok (.getfield 41, 3) := by decide +kernel
theorem dX3_debtsByAccount_27 : decode cX3_debtsByAccount 27 = .ok (.getfield 252, 3) := by decide +kernel
theorem dX3_debtsByAccount_30 : decode cX3_debtsByAccount 30 = .ok (.isub, 1) := by decide +kernel
theorem dX3_debtsByAccount_31 : decode cX3_debtsByAccount 31 = .ok (.ireturn, 1) := by decide +kernel
theorem dX3_lent_0 : decode cX3_lent 0 = .ok (.aload_n 0, 1) := by decide +kernel
theorem dX3_lent_1 : decode cX3_lent 1 = .ok (.getfield 41, 3) := by decide +kernel
theorem dX3_lent_4 : decode cX3_lent 4 = .ok (.getfield 243, 3) := by decide +kernel
theorem dX3_lent_7 : decode cX3_lent 7 = .ok (.ireturn, 1) := by decide +kernel
theorem dX3_interest_0 : decode cX3_interest 0 = .ok (.aload_n 0, 1) := by decide +kernel
theorem dX3_interest_1 : decode cX3_interest 1 = .ok (.getfield 41, 3) := by decide +kernel
theorem dX3_interest_4 : decode cX3_interest 4 = .ok (.getfield 246, 3) := by decide +kernel
theorem dX3_interest_7 : decode cX3_interest 7 = .ok (.ireturn, 1) := by decide +kernel
theorem dX3_repaid_0 : decode cX3_repaid 0 = .ok (.aload_n 0, 1) := by decide +kernel
theorem dX3_repaid_1 : decode cX3_repaid 1 = .ok (.getfield 41, 3) := by decide +kernel
theorem dX3_repaid_4 : decode cX3_repaid 4 = .ok (.getfield 249, 3) := by decide +kernel
theorem dX3_repaid_7 : decode cX3_repaid 7 = .ok (.ireturn, 1) := by decide +kernel
theorem dX3_lost_0 : decode cX3_lost 0 = .ok (.aload_n 0, 1) := by decide +kernel
theorem dX3_lost_1 : decode cX3_lost 1 = .ok (.getfield 41, 3) := by decide +kernel
theorem dX3_lost_4 : decode cX3_lost 4 = .ok (.getfield 252, 3) := by decide +kernel
theorem dX3_lost_7 : decode cX3_lost 7 = .ok (.ireturn, 1) := by decide +kernel
theorem dX3_calls_0 : decode cX3_calls 0 = .ok (.aload_n 0, 1) := by decide +kernel
theorem dX3_calls_1 : decode cX3_calls 1 = .ok (.getfield 41, 3) := by decide +kernel
theorem dX3_calls_4 : decode cX3_calls 4 = .ok (.getfield 255, 3) := by decide +kernel
theorem dX3_calls_7 : decode cX3_calls 7 = .ok (.ireturn, 1) := by decide +kernel
theorem dX3_soldOut_0 : decode cX3_soldOut 0 = .ok (.aload_n 0, 1) := by decide +kernel
theorem dX3_soldOut_1 : decode cX3_soldOut 1 = .ok (.getfield 41, 3) := by decide +kernel
theorem dX3_soldOut_4 : decode cX3_soldOut 4 = .ok (.getfield 258, 3) := by decide +kernel
theorem dX3_soldOut_7 : decode cX3_soldOut 7 = .ok (.ireturn, 1) := by decide +kernel
theorem dX3_usedShare_0 : decode cX3_usedShare 0 = .ok (.aload_n 0, 1) := by decide +kernel
theorem dX3_usedShare_1 : decode cX3_usedShare 1 = .ok (.getfield 41, 3) := by decide +kernel
theorem dX3_usedShare_4 : decode cX3_usedShare 4 = .ok (.invokevirtual 261, 3) := by decide +kernel
theorem dX3_usedShare_7 : decode cX3_usedShare 7 = .ok (.istore_n 1, 1) := by decide +kernel
theorem dX3_usedShare_8 : decode cX3_usedShare 8 = .ok (.iload_n 1, 1) := by decide +kernel
theorem dX3_usedShare_9 : decode cX3_usedShare 9 = .ok (.ifCond .ne 7, 3) := by decide +kernel
theorem dX3_usedShare_12 : decode cX3_usedShare 12 = .ok (.dconst 0, 1) := by decide +kernel
theorem dX3_usedShare_13 : decode cX3_usedShare 13 = .ok (.goto 14, 3) := by decide +kernel
theorem dX3_usedShare_16 : decode cX3_usedShare 16 = .ok (.aload_n 0, 1) := by decide +kernel
theorem dX3_usedShare_17 : decode cX3_usedShare 17 = .ok (.getfield 41, 3) := by decide +kernel
theorem dX3_usedShare_20 : decode cX3_usedShare 20 = .ok (.invokevirtual 240, 3) := by decide +kernel
theorem dX3_usedShare_23 : decode cX3_usedShare 23 = .ok (.i2d, 1) := by decide +kernel
theorem dX3_usedShare_24 : decode cX3_usedShare 24 = .ok (.iload_n 1, 1) := by decide +kernel
theorem dX3_usedShare_25 : decode cX3_usedShare 25 = .ok (.i2d, 1) := by decide +kernel
theorem dX3_usedShare_26 : decode cX3_usedShare 26 = .ok (.ddiv, 1) := by decide +kernel
theorem dX3_usedShare_27 : decode cX3_usedShare 27 = .ok (.dreturn, 1) := by decide +kernel
theorem dX3_save_0 : decode cX3_save 0 = .ok (.aload_n 0, 1) := by decide +kernel
theorem dX3_save_1 : decode cX3_save 1 = .ok (.getfield 45, 3) := by decide +kernel
theorem dX3_save_4 : decode cX3_save 4 = .ok (.aload_n 0, 1) := by decide +kernel
theorem dX3_save_5 : decode cX3_save 5 = .ok (.getfield 41, 3) := by decide +kernel
theorem dX3_save_8 : decode cX3_save 8 = .ok (.invokevirtual 73, 3) := by decide +kernel
theorem dX3_save_11 : decode cX3_save 11 = .ok (.aload_n 0, 1) := by decide +kernel
theorem dX3_save_12 : decode cX3_save 12 = .ok (.invokevirtual 85, 3) := by decide +kernel
theorem dX3_save_15 : decode cX3_save 15 = .ok (.return_, 1) := by decide +kernel
theorem dX3_saveBefore_0 : decode cX3_saveBefore 0 = .ok (.aload_n 0, 1) := by decide +kernel
theorem dX3_saveBefore_1 : decode cX3_saveBefore 1 = .ok (.getfield 172, 3) := by decide +kernel
theorem dX3_saveBefore_4 : decode cX3_saveBefore 4 = .ok (.bipush 6, 2) := by decide +kernel
theorem dX3_saveBefore_6 : decode cX3_saveBefore 6 = .ok (.if_icmp .ge 26, 3) := by decide +kernel
theorem dX3_saveBefore_9 : decode cX3_saveBefore 9 = .ok (.aload_n 0, 1) := by decide +kernel
theorem dX3_saveBefore_10 : decode cX3_saveBefore 10 = .ok (.getfield 37, 3) := by decide +kernel
theorem dX3_saveBefore_13 : decode cX3_saveBefore 13 = .ok (.aload_n 0, 1) := by decide +kernel
theorem dX3_saveBefore_14 : decode cX3_saveBefore 14 = .ok (.getfield 172, 3) := by decide +kernel
theorem dX3_saveBefore_17 : decode cX3_saveBefore 17 = .ok (.aaload, 1) := by decide +kernel
theorem dX3_saveBefore_18 : decode cX3_saveBefore 18 = .ok (.astore_n 1, 1) := by decide +kernel
theorem dX3_saveBefore_19 : decode cX3_saveBefore 19 = .ok (.aload_n 0, 1) := by decide +kernel
theorem dX3_saveBefore_20 : decode cX3_saveBefore 20 = .ok (.dup, 1) := by decide +kernel
theorem dX3_saveBefore_21 : decode cX3_saveBefore 21 = .ok (.getfield 172, 3) := by decide +kernel
theorem dX3_saveBefore_24 : decode cX3_saveBefore 24 = .ok (.iconst 1, 1) := by decide +kernel
theorem dX3_saveBefore_25 : decode cX3_saveBefore 25 = .ok (.iadd, 1) := by decide +kernel
theorem dX3_saveBefore_26 : decode cX3_saveBefore 26 = .ok (.putfield 172, 3) := by decide +kernel
theorem dX3_saveBefore_29 : decode cX3_saveBefore 29 = .ok (.goto 38, 3) := by decide +kernel
theorem dX3_saveBefore_32 : decode cX3_saveBefore 32 = .ok (.aload_n 0, 1) := by decide +kernel
theorem dX3_saveBefore_33 : decode cX3_saveBefore 33 = .ok (.getfield 37, 3) := by decide +kernel
theorem dX3_saveBefore_36 : decode cX3_saveBefore 36 = .ok (.iconst 0, 1) := by decide +kernel
theorem dX3_saveBefore_37 : decode cX3_saveBefore 37 = .ok (.aaload, 1) := by decide +kernel
theorem dX3_saveBefore_38 : decode cX3_saveBefore 38 = .ok (.astore_n 1, 1) := by decide +kernel
theorem dX3_saveBefore_39 : decode cX3_saveBefore 39 = .ok (.iconst 1, 1) := by decide +kernel
theorem dX3_saveBefore_40 : decode cX3_saveBefore 40 = .ok (.istore_n 2, 1) := by decide +kernel
theorem dX3_saveBefore_41 : decode cX3_saveBefore 41 = .ok (.iload_n 2, 1) := by decide +kernel
theorem dX3_saveBefore_42 : decode cX3_saveBefore 42 = .ok (.bipush 6, 2) := by decide +kernel
theorem dX3_saveBefore_44 : decode cX3_saveBefore 44 = .ok (.if_icmp .ge 23, 3) := by decide +kernel
theorem dX3_saveBefore_47 : decode cX3_saveBefore 47 = .ok (.aload_n 0, 1) := by decide +kernel
theorem dX3_saveBefore_48 : decode cX3_saveBefore 48 = .ok (.getfield 37, 3) := by decide +kernel
theorem dX3_saveBefore_51 : decode cX3_saveBefore 51 = .ok (.iload_n 2, 1) := by decide +kernel
theorem dX3_saveBefore_52 : decode cX3_saveBefore 52 = .ok (.iconst 1, 1) := by decide +kernel
theorem dX3_saveBefore_53 : decode cX3_saveBefore 53 = .ok (.isub, 1) := by decide +kernel
theorem dX3_saveBefore_54 : decode cX3_saveBefore 54 = .ok (.aload_n 0, 1) := by decide +kernel
theorem dX3_saveBefore_55 : decode cX3_saveBefore 55 = .ok (.getfield 37, 3) := by decide +kernel
theorem dX3_saveBefore_58 : decode cX3_saveBefore 58 = .ok (.iload_n 2, 1) := by decide +kernel
theorem dX3_saveBefore_59 : decode cX3_saveBefore 59 = .ok (.aaload, 1) := by decide +kernel
theorem dX3_saveBefore_60 : decode cX3_saveBefore 60 = .ok (.aastore, 1) := by decide +kernel
theorem dX3_saveBefore_61 : decode cX3_saveBefore 61 = .ok (.iinc 2 1, 3) := by decide +kernel
theorem dX3_saveBefore_64 : decode cX3_saveBefore 64 = .ok (.goto (-23), 3) := by decide +kernel
theorem dX3_saveBefore_67 : decode cX3_saveBefore 67 = .ok (.aload_n 0, 1) := by decide +kernel
theorem dX3_saveBefore_68 : decode cX3_saveBefore 68 = .ok (.getfield 37, 3) := by decide +kernel
theorem dX3_saveBefore_71 : decode cX3_saveBefore 71 = .ok (.aload_n 0, 1) := by decide +kernel
theorem dX3_saveBefore_72 : decode cX3_saveBefore 72 = .ok (.getfield 172, 3) := by decide +kernel
theorem dX3_saveBefore_75 : decode cX3_saveBefore 75 = .ok (.iconst 1, 1) := by decide +kernel
theorem dX3_saveBefore_76 : decode cX3_saveBefore 76 = .ok (.isub, 1) := by decide +kernel
theorem dX3_saveBefore_77 : decode cX3_saveBefore 77 = .ok (.aload_n 0, 1) := by decide +kernel
theorem dX3_saveBefore_78 : decode cX3_saveBefore 78 = .ok (.getfield 45, 3) := by decide +kernel
theorem dX3_saveBefore_81 : decode cX3_saveBefore 81 = .ok (.aastore, 1) := by decide +kernel
theorem dX3_saveBefore_82 : decode cX3_saveBefore 82 = .ok (.aload_n 0, 1) := by decide +kernel
theorem dX3_saveBefore_83 : decode cX3_saveBefore 83 = .ok (.aload_n 1, 1) := by decide +kernel
theorem dX3_saveBefore_84 : decode cX3_saveBefore 84 = .ok (.putfield 45, 3) := by decide +kernel
theorem dX3_saveBefore_87 : decode cX3_saveBefore 87 = .ok (.return_, 1) := by decide +kernel
theorem dX3_at_0 : decode cX3_at 0 = .ok (.iload_n 0, 1) := by decide +kernel
theorem dX3_at_1 : decode cX3_at 1 = .ok (.bipush 6, 2) := by decide +kernel
theorem dX3_at_3 : decode cX3_at 3 = .ok (.imul, 1) := by decide +kernel
theorem dX3_at_4 : decode cX3_at 4 = .ok (.iload_n 1, 1) := by decide +kernel
theorem dX3_at_5 : decode cX3_at 5 = .ok (.iadd, 1) := by decide +kernel
theorem dX3_at_6 : decode cX3_at 6 = .ok (.ireturn, 1) := by decide +kernel
theorem dX3_fallen_0 : decode cX3_fallen 0 = .ok (.iload_n 0, 1) := by decide +kernel
theorem dX3_fallen_1 : decode cX3_fallen 1 = .ok (.bipush 100, 2) := by decide +kernel
theorem dX3_fallen_3 : decode cX3_fallen 3 = .ok (.iload_n 1, 1) := by decide +kernel
theorem dX3_fallen_4 : decode cX3_fallen 4 = .ok (.isub, 1) := by decide +kernel
theorem dX3_fallen_5 : decode cX3_fallen 5 = .ok (.imul, 1) := by decide +kernel
theorem dX3_fallen_6 : decode cX3_fallen 6 = .ok (.bipush 100, 2) := by decide +kernel
theorem dX3_fallen_8 : decode cX3_fallen 8 = .ok (.idiv, 1) := by decide +kernel
theorem dX3_fallen_9 : decode cX3_fallen 9 = .ok (.istore_n 3, 1) := by decide +kernel
theorem dX3_fallen_10 : decode cX3_fallen 10 = .ok (.iload_n 3, 1) := by decide +kernel
theorem dX3_fallen_11 : decode cX3_fallen 11 = .ok (.iload_n 2, 1) := by decide +kernel
theorem dX3_fallen_12 : decode cX3_fallen 12 = .ok (.if_icmp .ge 7, 3) := by decide +kernel
theorem dX3_fallen_15 : decode cX3_fallen 15 = .ok (.iload_n 2, 1) := by decide +kernel
theorem dX3_fallen_16 : decode cX3_fallen 16 = .ok (.goto 4, 3) := by decide +kernel
theorem dX3_fallen_19 : decode cX3_fallen 19 = .ok (.iload_n 3, 1) := by decide +kernel
theorem dX3_fallen_20 : decode cX3_fallen 20 = .ok (.ireturn, 1) := by decide +kernel
theorem dX3_needKind_0 : decode cX3_needKind 0 = .ok (.iload_n 0, 1) := by decide +kernel
theorem dX3_needKind_1 : decode cX3_needKind 1 = .ok (.ifCond .lt 9, 3) := by decide +kernel
theorem dX3_needKind_4 : decode cX3_needKind 4 = .ok (.iload_n 0, 1) := by decide +kernel
theorem dX3_needKind_5 : decode cX3_needKind 5 = .ok (.bipush 6, 2) := by decide +kernel
theorem dX3_needKind_7 : decode cX3_needKind 7 = .ok (.if_icmp .lt 11, 3) := by decide +kernel
theorem dX3_needKind_10 : decode cX3_needKind 10 = .ok (.new 322, 3) := by decide +kernel
theorem dX3_needKind_13 : decode cX3_needKind 13 = .ok (.dup, 1) := by decide +kernel
theorem dX3_needKind_14 : decode cX3_needKind 14 = .ok (.invokespecial 324, 3) := by decide +kernel
theorem dX3_needKind_17 : decode cX3_needKind 17 = .ok (.athrow, 1) := by decide +kernel
theorem dX3_needKind_18 : decode cX3_needKind 18 = .ok (.return_, 1) := by decide +kernel
theorem dX3_needClient_0 : decode cX3_needClient 0 = .ok (.iload_n 0, 1) := by decide +kernel
theorem dX3_needClient_1 : decode cX3_needClient 1 = .ok (.ifCond .lt 9, 3) := by decide +kernel
theorem dX3_needClient_4 : decode cX3_needClient 4 = .ok (.iload_n 0, 1) := by decide +kernel
theorem dX3_needClient_5 : decode cX3_needClient 5 = .ok (.bipush 8, 2) := by decide +kernel
theorem dX3_needClient_7 : decode cX3_needClient 7 = .ok (.if_icmp .lt 11, 3) := by decide +kernel
theorem dX3_needClient_10 : decode cX3_needClient 10 = .ok (.new 322, 3) := by decide +kernel
theorem dX3_needClient_13 : decode cX3_needClient 13 = .ok (.dup, 1) := by decide +kernel
theorem dX3_needClient_14 : decode cX3_needClient 14 = .ok (.invokespecial 324, 3) := by decide +kernel
theorem dX3_needClient_17 : decode cX3_needClient 17 = .ok (.athrow, 1) := by decide +kernel
theorem dX3_needClient_18 : decode cX3_needClient 18 = .ok (.return_, 1) := by decide +kernel
theorem dX3_needPlace_0 : decode cX3_needPlace 0 = .ok (.iload_n 0, 1) := by decide +kernel
theorem dX3_needPlace_1 : decode cX3_needPlace 1 = .ok (.ifCond .lt 9, 3) := by decide +kernel
theorem dX3_needPlace_4 : decode cX3_needPlace 4 = .ok (.iload_n 0, 1) := by decide +kernel
theorem dX3_needPlace_5 : decode cX3_needPlace 5 = .ok (.bipush 8, 2) := by decide +kernel
theorem dX3_needPlace_7 : decode cX3_needPlace 7 = .ok (.if_icmp .lt 11, 3) := by decide +kernel
theorem dX3_needPlace_10 : decode cX3_needPlace 10 = .ok (.new 322, 3) := by decide +kernel
theorem dX3_needPlace_13 : decode cX3_needPlace 13 = .ok (.dup, 1) := by decide +kernel
theorem dX3_needPlace_14 : decode cX3_needPlace 14 = .ok (.invokespecial 324, 3) := by decide +kernel
theorem dX3_needPlace_17 : decode cX3_needPlace 17 = .ok (.athrow, 1) := by decide +kernel
theorem dX3_needPlace_18 : decode cX3_needPlace 18 = .ok (.return_, 1) := by decide +kernel
theorem dX3_needRange_0 : decode cX3_needRange 0 = .ok (.iload_n 0, 1) := by decide +kernel
theorem dX3_needRange_1 : decode cX3_needRange 1 = .ok (.iload_n 1, 1) := by decide +kernel
theorem dX3_needRange_2 : decode cX3_needRange 2 = .ok (.if_icmp .lt 8, 3) := by decide +kernel
theorem dX3_needRange_5 : decode cX3_needRange 5 = .ok (.iload_n 0, 1) := by decide +kernel
theorem dX3_needRange_6 : decode cX3_needRange 6 = .ok (.iload_n 2, 1) := by decide +kernel
theorem dX3_needRange_7 : decode cX3_needRange 7 = .ok (.if_icmp .le 11, 3) := by decide +kernel
theorem dX3_needRange_10 : decode cX3_needRange 10 = .ok (.new 154, 3) := by decide +kernel
theorem dX3_needRange_13 : decode cX3_needRange 13 = .ok (.dup, 1) := by decide +kernel
theorem dX3_needRange_14 : decode cX3_needRange 14 = .ok (.invokespecial 156, 3) := by decide +kernel
theorem dX3_needRange_17 : decode cX3_needRange 17 = .ok (.athrow, 1) := by decide +kernel
theorem dX3_needRange_18 : decode cX3_needRange 18 = .ok (.return_, 1) := by decide +kernel
theorem dX3_need_0 : decode cX3_need 0 = .ok (.iload_n 0, 1) := by decide +kernel
theorem dX3_need_1 : decode cX3_need 1 = .ok (.ifCond .ne 11, 3) := by decide +kernel
theorem dX3_need_4 : decode cX3_need 4 = .ok (.new 140, 3) := by decide +kernel
theorem dX3_need_7 : decode cX3_need 7 = .ok (.dup, 1) := by decide +kernel
theorem dX3_need_8 : decode cX3_need 8 = .ok (.invokespecial 142, 3) := by decide +kernel
theorem dX3_need_11 : decode cX3_need 11 = .ok (.athrow, 1) := by decide +kernel
theorem dX3_need_12 : decode cX3_need 12 = .ok (.return_, 1) := by decide +kernel
end
section
theorem dL_cell_0 : decode cL_cell 0 = .ok (.iload_n 1, 1) := by decide +kernel
theorem dL_cell_1 : decode cL_cell 1 = .ok (.aload_n 0, 1) := by decide +kernel
theorem dL_cell_2 : decode cL_cell 2 = .ok (.arraylength, 1) := by decide +kernel
theorem dL_cell_3 : decode cL_cell 3 = .ok (.if_icmp .ge 9, 3) := by decide +kernel
theorem dL_cell_6 : decode cL_cell 6 = .ok (.aload_n 0, 1) := by decide +kernel
theorem dL_cell_7 : decode cL_cell 7 = .ok (.iload_n 1, 1) := by decide +kernel
theorem dL_cell_8 : decode cL_cell 8 = .ok (.iaload, 1) := by decide +kernel
theorem dL_cell_9 : decode cL_cell 9 = .ok (.goto 15, 3) := by decide +kernel
theorem dL_cell_12 : decode cL_cell 12 = .ok (.sipush 7919, 3) := by decide +kernel
theorem dL_cell_15 : decode cL_cell 15 = .ok (.iload_n 1, 1) := by decide +kernel
theorem dL_cell_16 : decode cL_cell 16 = .ok (.iconst 3, 1) := by decide +kernel
theorem dL_cell_17 : decode cL_cell 17 = .ok (.iadd, 1) := by decide +kernel
theorem dL_cell_18 : decode cL_cell 18 = .ok (.imul, 1) := by decide +kernel
theorem dL_cell_19 : decode cL_cell 19 = .ok (.iload_n 1, 1) := by decide +kernel
theorem dL_cell_20 : decode cL_cell 20 = .ok (.bipush 11, 2) := by decide +kernel
theorem dL_cell_22 : decode cL_cell 22 = .ok (.iadd, 1) := by decide +kernel
theorem dL_cell_23 : decode cL_cell 23 = .ok (.imul, 1) := by decide +kernel
theorem dL_cell_24 : decode cL_cell 24 = .ok (.ireturn, 1) := by decide +kernel
theorem dL_low_0 : decode cL_low 0 = .ok (.iload_n 0, 1) := by decide +kernel
theorem dL_low_1 : decode cL_low 1 = .ok (.ldc 7, 2) := by decide +kernel
theorem dL_low_3 : decode cL_low 3 = .ok (.iand, 1) := by decide +kernel
theorem dL_low_4 : decode cL_low 4 = .ok (.iload_n 1, 1) := by decide +kernel
theorem dL_low_5 : decode cL_low 5 = .ok (.irem, 1) := by decide +kernel
theorem dL_low_6 : decode cL_low 6 = .ok (.ireturn, 1) := by decide +kernel
theorem dL_much_0 : decode cL_much 0 = .ok (.iconst 1, 1) := by decide +kernel
theorem dL_much_1 : decode cL_much 1 = .ok (.iload_n 0, 1) := by decide +kernel
theorem dL_much_2 : decode cL_much 2 = .ok (.iload_n 0, 1) := by decide +kernel
theorem dL_much_3 : decode cL_much 3 = .ok (.iconst 1, 1) := by decide +kernel
theorem dL_much_4 : decode cL_much 4 = .ok (.iand, 1) := by decide +kernel
theorem dL_much_5 : decode cL_much 5 = .ok (.ifCond .ne 9, 3) := by decide +kernel
theorem dL_much_8 : decode cL_much 8 = .ok (.sipush 300, 3) := by decide +kernel
theorem dL_much_11 : decode cL_much 11 = .ok (.goto 6, 3) := by decide +kernel
theorem dL_much_14 : decode cL_much 14 = .ok (.sipush 9999, 3) := by decide +kernel
theorem dL_much_17 : decode cL_much 17 = .ok (.invokestatic 8, 3) := by decide +kernel
theorem dL_much_20 : decode cL_much 20 = .ok (.iadd, 1) := by decide +kernel
theorem dL_much_21 : decode cL_much 21 = .ok (.ireturn, 1) := by decide +kernel
theorem dL_does_0 : decode cL_does 0 = .ok (.iload_n 1, 1) := by decide +kernel
theorem dL_does_1 : decode cL_does 1 = .ok (.iconst 4, 1) := by decide +kernel
theorem dL_does_2 : decode cL_does 2 = .ok (.ishr, 1) := by decide +kernel
theorem dL_does_3 : decode cL_does 3 = .ok (.iconst 3, 1) := by decide +kernel
theorem dL_does_4 : decode cL_does 4 = .ok (.invokestatic 8, 3) := by decide +kernel
theorem dL_does_7 : decode cL_does 7 = .ok (.istore_n 3, 1) := by decide +kernel
theorem dL_does_8 : decode cL_does 8 = .ok (.iload_n 1, 1) := by decide +kernel
theorem dL_does_9 : decode cL_does 9 = .ok (.bipush 6, 2) := by decide +kernel
theorem dL_does_11 : decode cL_does 11 = .ok (.ishr, 1) := by decide +kernel
theorem dL_does_12 : decode cL_does 12 = .ok (.iconst 3, 1) := by decide +kernel
theorem dL_does_13 : decode cL_does 13 = .ok (.invokestatic 8, 3) := by decide +kernel
theorem dL_does_16 : decode cL_does 16 = .ok (.istore 4, 2) := by decide +kernel
theorem dL_does_18 : decode cL_does 18 = .ok (.aload_n 0, 1) := by decide +kernel
theorem dL_does_19 : decode cL_does 19 = .ok (.invokevirtual 14, 3) := by decide +kernel
theorem dL_does_22 : decode cL_does 22 = .ok (.istore 5, 2) := by decide +kernel
theorem dL_does_24 : decode cL_does 24 = .ok (.iload_n 1, 1) := by decide +kernel
theorem dL_does_25 : decode cL_does 25 = .ok (.bipush 15, 2) := by decide +kernel
theorem dL_does_27 : decode cL_does 27 = .ok (.iand, 1) := by decide +kernel
theorem dL_does_28 : decode cL_does 28 = .ok (.tableswitch 560 0 13 #[72, 121, 164, 213, 213, 213, 282, 326, 390, 390, 390, 397, 462, 514], 72) := by decide +kernel
theorem dL_does_100 : decode cL_does 100 = .ok (.aload_n 0, 1) := by decide +kernel
theorem dL_does_101 : decode cL_does 101 = .ok (.iload 4, 2) := by decide +kernel
theorem dL_does_103 : decode cL_does 103 = .ok (.iconst 1, 1) := by decide +kernel
theorem dL_does_104 : decode cL_does 104 = .ok (.iload_n 2, 1) := by decide +kernel
theorem dL_does_105 : decode cL_does 105 = .ok (.sipush 300, 3) := by decide +kernel
theorem dL_does_108 : decode cL_does 108 = .ok (.invokestatic 8, 3) := by decide +kernel
theorem dL_does_111 : decode cL_does 111 = .ok (.iadd, 1) := by decide +kernel
theorem dL_does_112 : decode cL_does 112 = .ok (.invokevirtual 20, 3) := by decide +kernel
theorem dL_does_115 : decode cL_does 115 = .ok (.aload_n 0, 1) := by decide +kernel
theorem dL_does_116 : decode cL_does 116 = .ok (.invokevirtual 14, 3) := by decide +kernel
theorem dL_does_119 : decode cL_does 119 = .ok (.iload 5, 2) := by decide +kernel
theorem dL_does_121 : decode cL_does 121 = .ok (.isub, 1) := by decide +kernel
theorem dL_does_122 : decode cL_does 122 = .ok (.if_icmp .ne 25, 3) := by decide +kernel
theorem dL_does_125 : decode cL_does 125 = .ok (.aload_n 0, 1) := by decide +kernel
theorem dL_does_126 : decode cL_does 126 = .ok (.iload 4, 2) := by decide +kernel
theorem dL_does_128 : decode cL_does 128 = .ok (.invokevirtual 23, 3) := by decide +kernel
theorem dL_does_131 : decode cL_does 131 = .ok (.iconst 1, 1) := by decide +kernel
theorem dL_does_132 : decode cL_does 132 = .ok (.iload_n 2, 1) := by decide +kernel
theorem dL_does_133 : decode cL_does 133 = .ok (.sipush 300, 3) := by decide +kernel
theorem dL_does_136 : decode cL_does 136 = .ok (.invokestatic 8, 3) := by decide +kernel
theorem dL_does_139 : decode cL_does 139 = .ok (.iadd, 1) := by decide +kernel
theorem dL_does_140 : decode cL_does 140 = .ok (.if_icmp .ne 7, 3) := by decide +kernel
theorem dL_does_143 : decode cL_does 143 = .ok (.iconst 1, 1) := by decide +kernel
theorem dL_does_144 : decode cL_does 144 = .ok (.goto 4, 3) := by decide +kernel
theorem dL_does_147 : decode cL_does 147 = .ok (.iconst 0, 1) := by decide +kernel
theorem dL_does_148 : decode cL_does 148 = .ok (.ireturn, 1) := by decide +kernel
theorem dL_does_149 : decode cL_does 149 = .ok (.aload_n 0, 1) := by decide +kernel
theorem dL_does_150 : decode cL_does 150 = .ok (.iload 4, 2) := by decide +kernel
theorem dL_does_152 : decode cL_does 152 = .ok (.iload_n 2, 1) := by decide +kernel
theorem dL_does_153 : decode cL_does 153 = .ok (.bipush 91, 2) := by decide +kernel
theorem dL_does_155 : decode cL_does 155 = .ok (.invokestatic 8, 3) := by decide +kernel
theorem dL_does_158 : decode cL_does 158 = .ok (.invokevirtual 27, 3) := by decide +kernel
theorem dL_does_161 : decode cL_does 161 = .ok (.aload_n 0, 1) := by decide +kernel
theorem dL_does_162 : decode cL_does 162 = .ok (.invokevirtual 14, 3) := by decide +kernel
theorem dL_does_165 : decode cL_does 165 = .ok (.iload 5, 2) := by decide +kernel
theorem dL_does_167 : decode cL_does 167 = .ok (.isub, 1) := by decide +kernel
theorem dL_does_168 : decode cL_does 168 = .ok (.if_icmp .ne 22, 3) := by decide +kernel
theorem dL_does_171 : decode cL_does 171 = .ok (.aload_n 0, 1) := by decide +kernel
theorem dL_does_172 : decode cL_does 172 = .ok (.iload 4, 2) := by decide +kernel
theorem dL_does_174 : decode cL_does 174 = .ok (.invokevirtual 30, 3) := by decide +kernel
theorem dL_does_177 : decode cL_does 177 = .ok (.iload_n 2, 1) := by decide +kernel
theorem dL_does_178 : decode cL_does 178 = .ok (.bipush 91, 2) := by decide +kernel
theorem dL_does_180 : decode cL_does 180 = .ok (.invokestatic 8, 3) := by decide +kernel
theorem dL_does_183 : decode cL_does 183 = .ok (.if_icmp .ne 7, 3) := by decide +kernel
theorem dL_does_186 : decode cL_does 186 = .ok (.iconst 1, 1) := by decide +kernel
theorem dL_does_187 : decode cL_does 187 = .ok (.goto 4, 3) := by decide +kernel
theorem dL_does_190 : decode cL_does 190 = .ok (.iconst 0, 1) := by decide +kernel
theorem dL_does_191 : decode cL_does 191 = .ok (.ireturn, 1) := by decide +kernel
theorem dL_does_192 : decode cL_does 192 = .ok (.iconst 1, 1) := by decide +kernel
theorem dL_does_193 : decode cL_does 193 = .ok (.iload_n 2, 1) := by decide +kernel
theorem dL_does_194 : decode cL_does 194 = .ok (.bipush 90, 2) := by decide +kernel
theorem dL_does_196 : decode cL_does 196 = .ok (.invokestatic 8, 3) := by decide +kernel
theorem dL_does_199 : decode cL_does 199 = .ok (.iadd, 1) := by decide +kernel
theorem dL_does_200 : decode cL_does 200 = .ok (.istore 6, 2) := by decide +kernel
theorem dL_does_202 : decode cL_does 202 = .ok (.aload_n 0, 1) := by decide +kernel
theorem dL_does_203 : decode cL_does 203 = .ok (.iload 6, 2) := by decide +kernel
theorem dL_does_205 : decode cL_does 205 = .ok (.invokevirtual 33, 3) := by decide +kernel
theorem dL_does_208 : decode cL_does 208 = .ok (.istore 7, 2) := by decide +kernel
theorem dL_does_210 : decode cL_does 210 = .ok (.aload_n 0, 1) := by decide +kernel
theorem dL_does_211 : decode cL_does 211 = .ok (.iload 6, 2) := by decide +kernel
theorem dL_does_213 : decode cL_does 213 = .ok (.invokevirtual 36, 3) := by decide +kernel
theorem dL_does_216 : decode cL_does 216 = .ok (.aload_n 0, 1) := by decide +kernel
theorem dL_does_217 : decode cL_does 217 = .ok (.invokevirtual 14, 3) := by decide +kernel
theorem dL_does_220 : decode cL_does 220 = .ok (.iload 5, 2) := by decide +kernel
theorem dL_does_222 : decode cL_does 222 = .ok (.isub, 1) := by decide +kernel
theorem dL_does_223 : decode cL_does 223 = .ok (.if_icmp .ne 16, 3) := by decide +kernel
theorem dL_does_226 : decode cL_does 226 = .ok (.aload_n 0, 1) := by decide +kernel
theorem dL_does_227 : decode cL_does 227 = .ok (.invokevirtual 39, 3) := by decide +kernel
theorem dL_does_230 : decode cL_does 230 = .ok (.iload 7, 2) := by decide +kernel
theorem dL_does_232 : decode cL_does 232 = .ok (.if_icmp .ne 7, 3) := by decide +kernel
theorem dL_does_235 : decode cL_does 235 = .ok (.iconst 1, 1) := by decide +kernel
theorem dL_does_236 : decode cL_does 236 = .ok (.goto 4, 3) := by decide +kernel
theorem dL_does_239 : decode cL_does 239 = .ok (.iconst 0, 1) := by decide +kernel
theorem dL_does_240 : decode cL_does 240 = .ok (.ireturn, 1) := by decide +kernel
theorem dL_does_241 : decode cL_does 241 = .ok (.iconst 1, 1) := by decide +kernel
theorem dL_does_242 : decode cL_does 242 = .ok (.iload_n 2, 1) := by decide +kernel
theorem dL_does_243 : decode cL_does 243 = .ok (.bipush 20, 2) := by decide +kernel
theorem dL_does_245 : decode cL_does 245 = .ok (.invokestatic 8, 3) := by decide +kernel
theorem dL_does_248 : decode cL_does 248 = .ok (.iadd, 1) := by decide +kernel
theorem dL_does_249 : decode cL_does 249 = .ok (.istore 8, 2) := by decide +kernel
theorem dL_does_251 : decode cL_does 251 = .ok (.aload_n 0, 1) := by decide +kernel
theorem dL_does_252 : decode cL_does 252 = .ok (.iload_n 3, 1) := by decide +kernel
theorem dL_does_253 : decode cL_does 253 = .ok (.iload 4, 2) := by decide +kernel
theorem dL_does_255 : decode cL_does 255 = .ok (.invokevirtual 42, 3) := by decide +kernel
theorem dL_does_258 : decode cL_does 258 = .ok (.istore 9, 2) := by decide +kernel
theorem dL_does_260 : decode cL_does 260 = .ok (.aload_n 0, 1) := by decide +kernel
theorem dL_does_261 : decode cL_does 261 = .ok (.iload_n 3, 1) := by decide +kernel
theorem dL_does_262 : decode cL_does 262 = .ok (.invokevirtual 45, 3) := by decide +kernel
theorem dL_does_265 : decode cL_does 265 = .ok (.istore 10, 2) := by decide +kernel
theorem dL_does_267 : decode cL_does 267 = .ok (.iload 9, 2) := by decide +kernel
theorem dL_does_269 : decode cL_does 269 = .ok (.iload 8, 2) := by decide +kernel
theorem dL_does_271 : decode cL_does 271 = .ok (.iadd, 1) := by decide +kernel
theorem dL_does_272 : decode cL_does 272 = .ok (.bipush 99, 2) := by decide +kernel
theorem dL_does_274 : decode cL_does 274 = .ok (.if_icmp .gt 30, 3) := by decide +kernel
theorem dL_does_277 : decode cL_does 277 = .ok (.aload_n 0, 1) := by decide +kernel
theorem dL_does_278 : decode cL_does 278 = .ok (.iload_n 3, 1) := by decide +kernel
theorem dL_does_279 : decode cL_does 279 = .ok (.iload 4, 2) := by decide +kernel
theorem dL_does_281 : decode cL_does 281 = .ok (.iload 8, 2) := by decide +kernel
theorem dL_does_283 : decode cL_does 283 = .ok (.invokevirtual 48, 3) := by decide +kernel
theorem dL_does_286 : decode cL_does 286 = .ok (.iload 9, 2) := by decide +kernel
theorem dL_does_288 : decode cL_does 288 = .ok (.iload 8, 2) := by decide +kernel
theorem dL_does_290 : decode cL_does 290 = .ok (.iadd, 1) := by decide +kernel
theorem dL_does_291 : decode cL_does 291 = .ok (.if_icmp .ne 17, 3) := by decide +kernel
theorem dL_does_294 : decode cL_does 294 = .ok (.aload_n 0, 1) := by decide +kernel
theorem dL_does_295 : decode cL_does 295 = .ok (.iload_n 3, 1) := by decide +kernel
theorem dL_does_296 : decode cL_does 296 = .ok (.invokevirtual 45, 3) := by decide +kernel
theorem dL_does_299 : decode cL_does 299 = .ok (.iload 10, 2) := by decide +kernel
theorem dL_does_301 : decode cL_does 301 = .ok (.if_icmp .lt 7, 3) := by decide +kernel
theorem dL_does_304 : decode cL_does 304 = .ok (.iconst 1, 1) := by decide +kernel
theorem dL_does_305 : decode cL_does 305 = .ok (.goto 4, 3) := by decide +kernel
theorem dL_does_308 : decode cL_does 308 = .ok (.iconst 0, 1) := by decide +kernel
theorem dL_does_309 : decode cL_does 309 = .ok (.ireturn, 1) := by decide +kernel
theorem dL_does_310 : decode cL_does 310 = .ok (.aload_n 0, 1) := by decide +kernel
theorem dL_does_311 : decode cL_does 311 = .ok (.iload_n 3, 1) := by decide +kernel
theorem dL_does_312 : decode cL_does 312 = .ok (.invokevirtual 52, 3) := by decide +kernel
theorem dL_does_315 : decode cL_does 315 = .ok (.istore 11, 2) := by decide +kernel
theorem dL_does_317 : decode cL_does 317 = .ok (.iload 11, 2) := by decide +kernel
theorem dL_does_319 : decode cL_does 319 = .ok (.iload_n 2, 1) := by decide +kernel
theorem dL_does_320 : decode cL_does 320 = .ok (.invokestatic 55, 3) := by decide +kernel
theorem dL_does_323 : decode cL_does 323 = .ok (.iadd, 1) := by decide +kernel
theorem dL_does_324 : decode cL_does 324 = .ok (.ldc 58, 2) := by decide +kernel
theorem dL_does_326 : decode cL_does 326 = .ok (.if_icmp .gt 22, 3) := by decide +kernel
theorem dL_does_329 : decode cL_does 329 = .ok (.aload_n 0, 1) := by decide +kernel
theorem dL_does_330 : decode cL_does 330 = .ok (.iload_n 3, 1) := by decide +kernel
theorem dL_does_331 : decode cL_does 331 = .ok (.iload_n 2, 1) := by decide +kernel
theorem dL_does_332 : decode cL_does 332 = .ok (.invokestatic 55, 3) := by decide +kernel
theorem dL_does_335 : decode cL_does 335 = .ok (.invokevirtual 59, 3) := by decide +kernel
theorem dL_does_338 : decode cL_does 338 = .ok (.iload 11, 2) := by decide +kernel
theorem dL_does_340 : decode cL_does 340 = .ok (.iload_n 2, 1) := by decide +kernel
theorem dL_does_341 : decode cL_does 341 = .ok (.invokestatic 55, 3) := by decide +kernel
theorem dL_does_344 : decode cL_does 344 = .ok (.iadd, 1) := by decide +kernel
theorem dL_does_345 : decode cL_does 345 = .ok (.if_icmp .ne 7, 3) := by decide +kernel
theorem dL_does_348 : decode cL_does 348 = .ok (.iconst 1, 1) := by decide +kernel
theorem dL_does_349 : decode cL_does 349 = .ok (.goto 4, 3) := by decide +kernel
theorem dL_does_352 : decode cL_does 352 = .ok (.iconst 0, 1) := by decide +kernel
theorem dL_does_353 : decode cL_does 353 = .ok (.ireturn, 1) := by decide +kernel
theorem dL_does_354 : decode cL_does 354 = .ok (.iconst 1, 1) := by decide +kernel
theorem dL_does_355 : decode cL_does 355 = .ok (.iload_n 2, 1) := by decide +kernel
theorem dL_does_356 : decode cL_does 356 = .ok (.iconst 4, 1) := by decide +kernel
theorem dL_does_357 : decode cL_does 357 = .ok (.invokestatic 8, 3) := by decide +kernel
theorem dL_does_360 : decode cL_does 360 = .ok (.iadd, 1) := by decide +kernel
theorem dL_does_361 : decode cL_does 361 = .ok (.istore 12, 2) := by decide +kernel
theorem dL_does_363 : decode cL_does 363 = .ok (.aload_n 0, 1) := by decide +kernel
theorem dL_does_364 : decode cL_does 364 = .ok (.iload_n 3, 1) := by decide +kernel
theorem dL_does_365 : decode cL_does 365 = .ok (.iload 4, 2) := by decide +kernel
theorem dL_does_367 : decode cL_does 367 = .ok (.invokevirtual 42, 3) := by decide +kernel
theorem dL_does_370 : decode cL_does 370 = .ok (.istore 13, 2) := by decide +kernel
theorem dL_does_372 : decode cL_does 372 = .ok (.iload 13, 2) := by decide +kernel
theorem dL_does_374 : decode cL_does 374 = .ok (.iload 12, 2) := by decide +kernel
theorem dL_does_376 : decode cL_does 376 = .ok (.if_icmp .lt 36, 3) := by decide +kernel
theorem dL_does_379 : decode cL_does 379 = .ok (.aload_n 0, 1) := by decide +kernel
theorem dL_does_380 : decode cL_does 380 = .ok (.iload_n 3, 1) := by decide +kernel
theorem dL_does_381 : decode cL_does 381 = .ok (.invokevirtual 62, 3) := by decide +kernel
theorem dL_does_384 : decode cL_does 384 = .ok (.ifCond .gt 28, 3) := by decide +kernel
theorem dL_does_387 : decode cL_does 387 = .ok (.aload_n 0, 1) := by decide +kernel
theorem dL_does_388 : decode cL_does 388 = .ok (.iload_n 3, 1) := by decide +kernel
theorem dL_does_389 : decode cL_does 389 = .ok (.iload 4, 2) := by decide +kernel
theorem dL_does_391 : decode cL_does 391 = .ok (.iload 12, 2) := by decide +kernel
theorem dL_does_393 : decode cL_does 393 = .ok (.invokevirtual 65, 3) := by decide +kernel
theorem dL_does_396 : decode cL_does 396 = .ok (.iload 13, 2) := by decide +kernel
theorem dL_does_398 : decode cL_does 398 = .ok (.iload 12, 2) := by decide +kernel
theorem dL_does_400 : decode cL_does 400 = .ok (.isub, 1) := by decide +kernel
theorem dL_does_401 : decode cL_does 401 = .ok (.if_icmp .ne 15, 3) := by decide +kernel
theorem dL_does_404 : decode cL_does 404 = .ok (.aload_n 0, 1) := by decide +kernel
theorem dL_does_405 : decode cL_does 405 = .ok (.iload_n 3, 1) := by decide +kernel
theorem dL_does_406 : decode cL_does 406 = .ok (.invokevirtual 68, 3) := by decide +kernel
theorem dL_does_409 : decode cL_does 409 = .ok (.ifCond .ne 7, 3) := by decide +kernel
theorem dL_does_412 : decode cL_does 412 = .ok (.iconst 1, 1) := by decide +kernel
theorem dL_does_413 : decode cL_does 413 = .ok (.goto 4, 3) := by decide +kernel
theorem dL_does_416 : decode cL_does 416 = .ok (.iconst 0, 1) := by decide +kernel
theorem dL_does_417 : decode cL_does 417 = .ok (.ireturn, 1) := by decide +kernel
theorem dL_does_418 : decode cL_does 418 = .ok (.aload_n 0, 1) := by decide +kernel
theorem dL_does_419 : decode cL_does 419 = .ok (.iload_n 3, 1) := by decide +kernel
theorem dL_does_420 : decode cL_does 420 = .ok (.iload_n 2, 1) := by decide +kernel
theorem dL_does_421 : decode cL_does 421 = .ok (.invokestatic 72, 3) := by decide +kernel
theorem dL_does_424 : decode cL_does 424 = .ok (.ireturn, 1) := by decide +kernel
theorem dL_does_425 : decode cL_does 425 = .ok (.aload_n 0, 1) := by decide +kernel
theorem dL_does_426 : decode cL_does 426 = .ok (.iload_n 3, 1) := by decide +kernel
theorem dL_does_427 : decode cL_does 427 = .ok (.invokevirtual 62, 3) := by decide +kernel
theorem dL_does_430 : decode cL_does 430 = .ok (.istore 14, 2) := by decide +kernel
theorem dL_does_432 : decode cL_does 432 = .ok (.iload_n 2, 1) := by decide +kernel
theorem dL_does_433 : decode cL_does 433 = .ok (.invokestatic 55, 3) := by decide +kernel
theorem dL_does_436 : decode cL_does 436 = .ok (.iload 14, 2) := by decide +kernel
theorem dL_does_438 : decode cL_does 438 = .ok (.if_icmp .ge 10, 3) := by decide +kernel
theorem dL_does_441 : decode cL_does 441 = .ok (.iload_n 2, 1) := by decide +kernel
theorem dL_does_442 : decode cL_does 442 = .ok (.invokestatic 55, 3) := by decide +kernel
theorem dL_does_445 : decode cL_does 445 = .ok (.goto 5, 3) := by decide +kernel
theorem dL_does_448 : decode cL_does 448 = .ok (.iload 14, 2) := by decide +kernel
theorem dL_does_450 : decode cL_does 450 = .ok (.istore 15, 2) := by decide +kernel
theorem dL_does_452 : decode cL_does 452 = .ok (.iload 14, 2) := by decide +kernel
theorem dL_does_454 : decode cL_does 454 = .ok (.ifCond .eq 30, 3) := by decide +kernel
theorem dL_does_457 : decode cL_does 457 = .ok (.aload_n 0, 1) := by decide +kernel
theorem dL_does_458 : decode cL_does 458 = .ok (.iload_n 3, 1) := by decide +kernel
theorem dL_does_459 : decode cL_does 459 = .ok (.iload_n 2, 1) := by decide +kernel
theorem dL_does_460 : decode cL_does 460 = .ok (.invokestatic 55, 3) := by decide +kernel
theorem dL_does_463 : decode cL_does 463 = .ok (.invokevirtual 76, 3) := by decide +kernel
theorem dL_does_466 : decode cL_does 466 = .ok (.iload 15, 2) := by decide +kernel
theorem dL_does_468 : decode cL_does 468 = .ok (.if_icmp .ne 20, 3) := by decide +kernel
theorem dL_does_471 : decode cL_does 471 = .ok (.aload_n 0, 1) := by decide +kernel
theorem dL_does_472 : decode cL_does 472 = .ok (.iload_n 3, 1) := by decide +kernel
theorem dL_does_473 : decode cL_does 473 = .ok (.invokevirtual 62, 3) := by decide +kernel
theorem dL_does_476 : decode cL_does 476 = .ok (.iload 14, 2) := by decide +kernel
theorem dL_does_478 : decode cL_does 478 = .ok (.iload 15, 2) := by decide +kernel
theorem dL_does_480 : decode cL_does 480 = .ok (.isub, 1) := by decide +kernel
theorem dL_does_481 : decode cL_does 481 = .ok (.if_icmp .ne 7, 3) := by decide +kernel
theorem dL_does_484 : decode cL_does 484 = .ok (.iconst 1, 1) := by decide +kernel
theorem dL_does_485 : decode cL_does 485 = .ok (.goto 4, 3) := by decide +kernel
theorem dL_does_488 : decode cL_does 488 = .ok (.iconst 0, 1) := by decide +kernel
theorem dL_does_489 : decode cL_does 489 = .ok (.ireturn, 1) := by decide +kernel
theorem dL_does_490 : decode cL_does 490 = .ok (.iload_n 2, 1) := by decide +kernel
theorem dL_does_491 : decode cL_does 491 = .ok (.iconst 1, 1) := by decide +kernel
theorem dL_does_492 : decode cL_does 492 = .ok (.iand, 1) := by decide +kernel
theorem dL_does_493 : decode cL_does 493 = .ok (.ifCond .ne 26, 3) := by decide +kernel
theorem dL_does_496 : decode cL_does 496 = .ok (.aload_n 0, 1) := by decide +kernel
theorem dL_does_497 : decode cL_does 497 = .ok (.iload_n 2, 1) := by decide +kernel
theorem dL_does_498 : decode cL_does 498 = .ok (.iconst 1, 1) := by decide +kernel
theorem dL_does_499 : decode cL_does 499 = .ok (.ishr, 1) := by decide +kernel
theorem dL_does_500 : decode cL_does 500 = .ok (.bipush 101, 2) := by decide +kernel
theorem dL_does_502 : decode cL_does 502 = .ok (.invokestatic 8, 3) := by decide +kernel
theorem dL_does_505 : decode cL_does 505 = .ok (.invokevirtual 79, 3) := by decide +kernel
theorem dL_does_508 : decode cL_does 508 = .ok (.ifCond .lt 7, 3) := by decide +kernel
theorem dL_does_511 : decode cL_does 511 = .ok (.iconst 1, 1) := by decide +kernel
theorem dL_does_512 : decode cL_does 512 = .ok (.goto 29, 3) := by decide +kernel
theorem dL_does_515 : decode cL_does 515 = .ok (.iconst 0, 1) := by decide +kernel
theorem dL_does_516 : decode cL_does 516 = .ok (.goto 25, 3) := by decide +kernel
theorem dL_does_519 : decode cL_does 519 = .ok (.aload_n 0, 1) := by decide +kernel
theorem dL_does_520 : decode cL_does 520 = .ok (.iconst 1, 1) := by decide +kernel
theorem dL_does_521 : decode cL_does 521 = .ok (.iload_n 2, 1) := by decide +kernel
theorem dL_does_522 : decode cL_does 522 = .ok (.iconst 1, 1) := by decide +kernel
theorem dL_does_523 : decode cL_does 523 = .ok (.ishr, 1) := by decide +kernel
theorem dL_does_524 : decode cL_does 524 = .ok (.bipush 8, 2) := by decide +kernel
theorem dL_does_526 : decode cL_does 526 = .ok (.invokestatic 8, 3) := by decide +kernel
theorem dL_does_529 : decode cL_does 529 = .ok (.iadd, 1) := by decide +kernel
theorem dL_does_530 : decode cL_does 530 = .ok (.invokevirtual 82, 3) := by decide +kernel
theorem dL_does_533 : decode cL_does 533 = .ok (.ifCond .le 7, 3) := by decide +kernel
theorem dL_does_536 : decode cL_does 536 = .ok (.iconst 1, 1) := by decide +kernel
theorem dL_does_537 : decode cL_does 537 = .ok (.goto 4, 3) := by decide +kernel
theorem dL_does_540 : decode cL_does 540 = .ok (.iconst 0, 1) := by decide +kernel
theorem dL_does_541 : decode cL_does 541 = .ok (.ireturn, 1) := by decide +kernel
theorem dL_does_542 : decode cL_does 542 = .ok (.iload_n 2, 1) := by decide +kernel
theorem dL_does_543 : decode cL_does 543 = .ok (.iconst 1, 1) := by decide +kernel
theorem dL_does_544 : decode cL_does 544 = .ok (.iand, 1) := by decide +kernel
theorem dL_does_545 : decode cL_does 545 = .ok (.ifCond .ne 26, 3) := by decide +kernel
theorem dL_does_548 : decode cL_does 548 = .ok (.aload_n 0, 1) := by decide +kernel
theorem dL_does_549 : decode cL_does 549 = .ok (.iload_n 2, 1) := by decide +kernel
theorem dL_does_550 : decode cL_does 550 = .ok (.iconst 1, 1) := by decide +kernel
theorem dL_does_551 : decode cL_does 551 = .ok (.ishr, 1) := by decide +kernel
theorem dL_does_552 : decode cL_does 552 = .ok (.bipush 51, 2) := by decide +kernel
theorem dL_does_554 : decode cL_does 554 = .ok (.invokestatic 8, 3) := by decide +kernel
theorem dL_does_557 : decode cL_does 557 = .ok (.invokevirtual 85, 3) := by decide +kernel
theorem dL_does_560 : decode cL_does 560 = .ok (.ifCond .lt 7, 3) := by decide +kernel
theorem dL_does_563 : decode cL_does 563 = .ok (.iconst 1, 1) := by decide +kernel
theorem dL_does_564 : decode cL_does 564 = .ok (.goto 23, 3) := by decide +kernel
theorem dL_does_567 : decode cL_does 567 = .ok (.iconst 0, 1) := by decide +kernel
theorem dL_does_568 : decode cL_does 568 = .ok (.goto 19, 3) := by decide +kernel
theorem dL_does_571 : decode cL_does 571 = .ok (.aload_n 0, 1) := by decide +kernel
theorem dL_does_572 : decode cL_does 572 = .ok (.invokevirtual 88, 3) := by decide +kernel
theorem dL_does_575 : decode cL_does 575 = .ok (.aload_n 0, 1) := by decide +kernel
theorem dL_does_576 : decode cL_does 576 = .ok (.invokevirtual 91, 3) := by decide +kernel
theorem dL_does_579 : decode cL_does 579 = .ok (.if_icmp .ne 7, 3) := by decide +kernel
theorem dL_does_582 : decode cL_does 582 = .ok (.iconst 1, 1) := by decide +kernel
theorem dL_does_583 : decode cL_does 583 = .ok (.goto 4, 3) := by decide +kernel
theorem dL_does_586 : decode cL_does 586 = .ok (.iconst 0, 1) := by decide +kernel
theorem dL_does_587 : decode cL_does 587 = .ok (.ireturn, 1) := by decide +kernel
theorem dL_does_588 : decode cL_does 588 = .ok (.aload_n 0, 1) := by decide +kernel
theorem dL_does_589 : decode cL_does 589 = .ok (.iconst 1, 1) := by decide +kernel
theorem dL_does_590 : decode cL_does 590 = .ok (.iload_n 2, 1) := by decide +kernel
theorem dL_does_591 : decode cL_does 591 = .ok (.bipush 12, 2) := by decide +kernel
theorem dL_does_593 : decode cL_does 593 = .ok (.invokestatic 8, 3) := by decide +kernel
theorem dL_does_596 : decode cL_does 596 = .ok (.iadd, 1) := by decide +kernel
theorem dL_does_597 : decode cL_does 597 = .ok (.invokestatic 94, 3) := by decide +kernel
theorem dL_does_600 : decode cL_does 600 = .ok (.ireturn, 1) := by decide +kernel
theorem dL_isLent_0 : decode cL_isLent 0 = .ok (.aload_n 0, 1) := by decide +kernel
theorem dL_isLent_1 : decode cL_isLent 1 = .ok (.iload_n 1, 1) := by decide +kernel
theorem dL_isLent_2 : decode cL_isLent 2 = .ok (.invokevirtual 98, 3) := by decide +kernel
theorem dL_isLent_5 : decode cL_isLent 5 = .ok (.istore_n 3, 1) := by decide +kernel
theorem dL_isLent_6 : decode cL_isLent 6 = .ok (.aload_n 0, 1) := by decide +kernel
theorem dL_isLent_7 : decode cL_isLent 7 = .ok (.iload_n 1, 1) := by decide +kernel
theorem dL_isLent_8 : decode cL_isLent 8 = .ok (.invokevirtual 62, 3) := by decide +kernel
theorem dL_isLent_11 : decode cL_isLent 11 = .ok (.istore 4, 2) := by decide +kernel
theorem dL_isLent_13 : decode cL_isLent 13 = .ok (.aload_n 0, 1) := by decide +kernel
theorem dL_isLent_14 : decode cL_isLent 14 = .ok (.invokevirtual 101, 3) := by decide +kernel
theorem dL_isLent_17 : decode cL_isLent 17 = .ok (.istore 5, 2) := by decide +kernel
theorem dL_isLent_19 : decode cL_isLent 19 = .ok (.iload_n 3, 1) := by decide +kernel
theorem dL_isLent_20 : decode cL_isLent 20 = .ok (.ifCond .ne 5, 3) := by decide +kernel
theorem dL_isLent_23 : decode cL_isLent 23 = .ok (.iconst 1, 1) := by decide +kernel
theorem dL_isLent_24 : decode cL_isLent 24 = .ok (.ireturn, 1) := by decide +kernel
theorem dL_isLent_25 : decode cL_isLent 25 = .ok (.iload_n 2, 1) := by decide +kernel
theorem dL_isLent_26 : decode cL_isLent 26 = .ok (.iconst 1, 1) := by decide +kernel
theorem dL_isLent_27 : decode cL_isLent 27 = .ok (.iand, 1) := by decide +kernel
theorem dL_isLent_28 : decode cL_isLent 28 = .ok (.ifCond .ne 14, 3) := by decide +kernel
theorem dL_isLent_31 : decode cL_isLent 31 = .ok (.iload_n 3, 1) := by decide +kernel
theorem dL_isLent_32 : decode cL_isLent 32 = .ok (.sipush 10000, 3) := by decide +kernel
theorem dL_isLent_35 : decode cL_isLent 35 = .ok (.if_icmp .ge 7, 3) := by decide +kernel
theorem dL_isLent_38 : decode cL_isLent 38 = .ok (.iload_n 3, 1) := by decide +kernel
theorem dL_isLent_39 : decode cL_isLent 39 = .ok (.goto 25, 3) := by decide +kernel
theorem dL_isLent_42 : decode cL_isLent 42 = .ok (.iconst 1, 1) := by decide +kernel
theorem dL_isLent_43 : decode cL_isLent 43 = .ok (.iload_n 2, 1) := by decide +kernel
theorem dL_isLent_44 : decode cL_isLent 44 = .ok (.iconst 1, 1) := by decide +kernel
theorem dL_isLent_45 : decode cL_isLent 45 = .ok (.ishr, 1) := by decide +kernel
theorem dL_isLent_46 : decode cL_isLent 46 = .ok (.iload_n 3, 1) := by decide +kernel
theorem dL_isLent_47 : decode cL_isLent 47 = .ok (.sipush 9999, 3) := by decide +kernel
theorem dL_isLent_50 : decode cL_isLent 50 = .ok (.if_icmp .ge 7, 3) := by decide +kernel
theorem dL_isLent_53 : decode cL_isLent 53 = .ok (.iload_n 3, 1) := by decide +kernel
theorem dL_isLent_54 : decode cL_isLent 54 = .ok (.goto 6, 3) := by decide +kernel
theorem dL_isLent_57 : decode cL_isLent 57 = .ok (.sipush 9999, 3) := by decide +kernel
theorem dL_isLent_60 : decode cL_isLent 60 = .ok (.invokestatic 8, 3) := by decide +kernel
theorem dL_isLent_63 : decode cL_isLent 63 = .ok (.iadd, 1) := by decide +kernel
theorem dL_isLent_64 : decode cL_isLent 64 = .ok (.istore 6, 2) := by decide +kernel
theorem dL_isLent_66 : decode cL_isLent 66 = .ok (.aload_n 0, 1) := by decide +kernel
theorem dL_isLent_67 : decode cL_isLent 67 = .ok (.iload_n 1, 1) := by decide +kernel
theorem dL_isLent_68 : decode cL_isLent 68 = .ok (.iload 6, 2) := by decide +kernel
theorem dL_isLent_70 : decode cL_isLent 70 = .ok (.invokevirtual 104, 3) := by decide +kernel
theorem dL_isLent_73 : decode cL_isLent 73 = .ok (.iload 4, 2) := by decide +kernel
theorem dL_isLent_75 : decode cL_isLent 75 = .ok (.iload 6, 2) := by decide +kernel
theorem dL_isLent_77 : decode cL_isLent 77 = .ok (.iadd, 1) := by decide +kernel
theorem dL_isLent_78 : decode cL_isLent 78 = .ok (.if_icmp .ne 39, 3) := by decide +kernel
theorem dL_isLent_81 : decode cL_isLent 81 = .ok (.aload_n 0, 1) := by decide +kernel
theorem dL_isLent_82 : decode cL_isLent 82 = .ok (.iload_n 1, 1) := by decide +kernel
theorem dL_isLent_83 : decode cL_isLent 83 = .ok (.invokevirtual 98, 3) := by decide +kernel
theorem dL_isLent_86 : decode cL_isLent 86 = .ok (.iload_n 3, 1) := by decide +kernel
theorem dL_isLent_87 : decode cL_isLent 87 = .ok (.iload 6, 2) := by decide +kernel
theorem dL_isLent_89 : decode cL_isLent 89 = .ok (.isub, 1) := by decide +kernel
theorem dL_isLent_90 : decode cL_isLent 90 = .ok (.if_icmp .ne 27, 3) := by decide +kernel
theorem dL_isLent_93 : decode cL_isLent 93 = .ok (.aload_n 0, 1) := by decide +kernel
theorem dL_isLent_94 : decode cL_isLent 94 = .ok (.iload_n 1, 1) := by decide +kernel
theorem dL_isLent_95 : decode cL_isLent 95 = .ok (.invokevirtual 68, 3) := by decide +kernel
theorem dL_isLent_98 : decode cL_isLent 98 = .ok (.ifCond .ne 19, 3) := by decide +kernel
theorem dL_isLent_101 : decode cL_isLent 101 = .ok (.aload_n 0, 1) := by decide +kernel
theorem dL_isLent_102 : decode cL_isLent 102 = .ok (.invokevirtual 101, 3) := by decide +kernel
theorem dL_isLent_105 : decode cL_isLent 105 = .ok (.iload 5, 2) := by decide +kernel
theorem dL_isLent_107 : decode cL_isLent 107 = .ok (.iload 6, 2) := by decide +kernel
theorem dL_isLent_109 : decode cL_isLent 109 = .ok (.iadd, 1) := by decide +kernel
theorem dL_isLent_110 : decode cL_isLent 110 = .ok (.if_icmp .ne 7, 3) := by decide +kernel
theorem dL_isLent_113 : decode cL_isLent 113 = .ok (.iconst 1, 1) := by decide +kernel
theorem dL_isLent_114 : decode cL_isLent 114 = .ok (.goto 4, 3) := by decide +kernel
theorem dL_isLent_117 : decode cL_isLent 117 = .ok (.iconst 0, 1) := by decide +kernel
theorem dL_isLent_118 : decode cL_isLent 118 = .ok (.ireturn, 1) := by decide +kernel
theorem dL_isPassed_0 : decode cL_isPassed 0 = .ok (.aload_n 0, 1) := by decide +kernel
theorem dL_isPassed_1 : decode cL_isPassed 1 = .ok (.invokevirtual 107, 3) := by decide +kernel
theorem dL_isPassed_4 : decode cL_isPassed 4 = .ok (.istore_n 2, 1) := by decide +kernel
theorem dL_isPassed_5 : decode cL_isPassed 5 = .ok (.aload_n 0, 1) := by decide +kernel
theorem dL_isPassed_6 : decode cL_isPassed 6 = .ok (.invokevirtual 110, 3) := by decide +kernel
theorem dL_isPassed_9 : decode cL_isPassed 9 = .ok (.istore_n 3, 1) := by decide +kernel
theorem dL_isPassed_10 : decode cL_isPassed 10 = .ok (.aload_n 0, 1) := by decide +kernel
theorem dL_isPassed_11 : decode cL_isPassed 11 = .ok (.invokevirtual 113, 3) := by decide +kernel
theorem dL_isPassed_14 : decode cL_isPassed 14 = .ok (.istore 4, 2) := by decide +kernel
theorem dL_isPassed_16 : decode cL_isPassed 16 = .ok (.aload_n 0, 1) := by decide +kernel
theorem dL_isPassed_17 : decode cL_isPassed 17 = .ok (.iload_n 1, 1) := by decide +kernel
theorem dL_isPassed_18 : decode cL_isPassed 18 = .ok (.invokevirtual 116, 3) := by decide +kernel
theorem dL_isPassed_21 : decode cL_isPassed 21 = .ok (.istore 5, 2) := by decide +kernel
theorem dL_isPassed_23 : decode cL_isPassed 23 = .ok (.iload 5, 2) := by decide +kernel
theorem dL_isPassed_25 : decode cL_isPassed 25 = .ok (.aload_n 0, 1) := by decide +kernel
theorem dL_isPassed_26 : decode cL_isPassed 26 = .ok (.invokevirtual 107, 3) := by decide +kernel
theorem dL_isPassed_29 : decode cL_isPassed 29 = .ok (.iload_n 2, 1) := by decide +kernel
theorem dL_isPassed_30 : decode cL_isPassed 30 = .ok (.isub, 1) := by decide +kernel
theorem dL_isPassed_31 : decode cL_isPassed 31 = .ok (.if_icmp .ne 34, 3) := by decide +kernel
theorem dL_isPassed_34 : decode cL_isPassed 34 = .ok (.aload_n 0, 1) := by decide +kernel
theorem dL_isPassed_35 : decode cL_isPassed 35 = .ok (.invokevirtual 110, 3) := by decide +kernel
theorem dL_isPassed_38 : decode cL_isPassed 38 = .ok (.iload_n 3, 1) := by decide +kernel
theorem dL_isPassed_39 : decode cL_isPassed 39 = .ok (.iload_n 1, 1) := by decide +kernel
theorem dL_isPassed_40 : decode cL_isPassed 40 = .ok (.iadd, 1) := by decide +kernel
theorem dL_isPassed_41 : decode cL_isPassed 41 = .ok (.if_icmp .ne 24, 3) := by decide +kernel
theorem dL_isPassed_44 : decode cL_isPassed 44 = .ok (.iload 4, 2) := by decide +kernel
theorem dL_isPassed_46 : decode cL_isPassed 46 = .ok (.ifCond .gt 15, 3) := by decide +kernel
theorem dL_isPassed_49 : decode cL_isPassed 49 = .ok (.iload 5, 2) := by decide +kernel
theorem dL_isPassed_51 : decode cL_isPassed 51 = .ok (.ifCond .ne 14, 3) := by decide +kernel
theorem dL_isPassed_54 : decode cL_isPassed 54 = .ok (.aload_n 0, 1) := by decide +kernel
theorem dL_isPassed_55 : decode cL_isPassed 55 = .ok (.invokevirtual 119, 3) := by decide +kernel
theorem dL_isPassed_58 : decode cL_isPassed 58 = .ok (.ifCond .ne 7, 3) := by decide +kernel
theorem dL_isPassed_61 : decode cL_isPassed 61 = .ok (.iconst 1, 1) := by decide +kernel
theorem dL_isPassed_62 : decode cL_isPassed 62 = .ok (.goto 4, 3) := by decide +kernel
theorem dL_isPassed_65 : decode cL_isPassed 65 = .ok (.iconst 0, 1) := by decide +kernel
theorem dL_isPassed_66 : decode cL_isPassed 66 = .ok (.ireturn, 1) := by decide +kernel
theorem dL_isClientSo_0 : decode cL_isClientSo 0 = .ok (.aload_n 0, 1) := by decide +kernel
theorem dL_isClientSo_1 : decode cL_isClientSo 1 = .ok (.iload_n 1, 1) := by decide +kernel
theorem dL_isClientSo_2 : decode cL_isClientSo 2 = .ok (.invokevirtual 52, 3) := by decide +kernel
theorem dL_isClientSo_5 : decode cL_isClientSo 5 = .ok (.istore_n 2, 1) := by decide +kernel
theorem dL_isClientSo_6 : decode cL_isClientSo 6 = .ok (.iconst 0, 1) := by decide +kernel
theorem dL_isClientSo_7 : decode cL_isClientSo 7 = .ok (.istore_n 3, 1) := by decide +kernel
theorem dL_isClientSo_8 : decode cL_isClientSo 8 = .ok (.iconst 0, 1) := by decide +kernel
theorem dL_isClientSo_9 : decode cL_isClientSo 9 = .ok (.istore 4, 2) := by decide +kernel
theorem dL_isClientSo_11 : decode cL_isClientSo 11 = .ok (.iconst 0, 1) := by decide +kernel
theorem dL_isClientSo_12 : decode cL_isClientSo 12 = .ok (.istore 5, 2) := by decide +kernel
theorem dL_isClientSo_14 : decode cL_isClientSo 14 = .ok (.iload 5, 2) := by decide +kernel
theorem dL_isClientSo_16 : decode cL_isClientSo 16 = .ok (.bipush 6, 2) := by decide +kernel
theorem dL_isClientSo_18 : decode cL_isClientSo 18 = .ok (.if_icmp .ge 65, 3) := by decide +kernel
theorem dL_isClientSo_21 : decode cL_isClientSo 21 = .ok (.iload_n 2, 1) := by decide +kernel
theorem dL_isClientSo_22 : decode cL_isClientSo 22 = .ok (.aload_n 0, 1) := by decide +kernel
theorem dL_isClientSo_23 : decode cL_isClientSo 23 = .ok (.iload_n 1, 1) := by decide +kernel
theorem dL_isClientSo_24 : decode cL_isClientSo 24 = .ok (.iload 5, 2) := by decide +kernel
theorem dL_isClientSo_26 : decode cL_isClientSo 26 = .ok (.invokevirtual 42, 3) := by decide +kernel
theorem dL_isClientSo_29 : decode cL_isClientSo 29 = .ok (.aload_n 0, 1) := by decide +kernel
theorem dL_isClientSo_30 : decode cL_isClientSo 30 = .ok (.iload 5, 2) := by decide +kernel
theorem dL_isClientSo_32 : decode cL_isClientSo 32 = .ok (.invokevirtual 23, 3) := by decide +kernel
theorem dL_isClientSo_35 : decode cL_isClientSo 35 = .ok (.imul, 1) := by decide +kernel
theorem dL_isClientSo_36 : decode cL_isClientSo 36 = .ok (.iadd, 1) := by decide +kernel
theorem dL_isClientSo_37 : decode cL_isClientSo 37 = .ok (.istore_n 2, 1) := by decide +kernel
theorem dL_isClientSo_38 : decode cL_isClientSo 38 = .ok (.iload_n 3, 1) := by decide +kernel
theorem dL_isClientSo_39 : decode cL_isClientSo 39 = .ok (.aload_n 0, 1) := by decide +kernel
theorem dL_isClientSo_40 : decode cL_isClientSo 40 = .ok (.iload_n 1, 1) := by decide +kernel
theorem dL_isClientSo_41 : decode cL_isClientSo 41 = .ok (.iload 5, 2) := by decide +kernel
theorem dL_isClientSo_43 : decode cL_isClientSo 43 = .ok (.invokevirtual 42, 3) := by decide +kernel
theorem dL_isClientSo_46 : decode cL_isClientSo 46 = .ok (.aload_n 0, 1) := by decide +kernel
theorem dL_isClientSo_47 : decode cL_isClientSo 47 = .ok (.iload 5, 2) := by decide +kernel
theorem dL_isClientSo_49 : decode cL_isClientSo 49 = .ok (.invokevirtual 23, 3) := by decide +kernel
theorem dL_isClientSo_52 : decode cL_isClientSo 52 = .ok (.imul, 1) := by decide +kernel
theorem dL_isClientSo_53 : decode cL_isClientSo 53 = .ok (.bipush 100, 2) := by decide +kernel
theorem dL_isClientSo_55 : decode cL_isClientSo 55 = .ok (.aload_n 0, 1) := by decide +kernel
theorem dL_isClientSo_56 : decode cL_isClientSo 56 = .ok (.iload 5, 2) := by decide +kernel
theorem dL_isClientSo_58 : decode cL_isClientSo 58 = .ok (.invokevirtual 30, 3) := by decide +kernel
theorem dL_isClientSo_61 : decode cL_isClientSo 61 = .ok (.isub, 1) := by decide +kernel
theorem dL_isClientSo_62 : decode cL_isClientSo 62 = .ok (.imul, 1) := by decide +kernel
theorem dL_isClientSo_63 : decode cL_isClientSo 63 = .ok (.iadd, 1) := by decide +kernel
theorem dL_isClientSo_64 : decode cL_isClientSo 64 = .ok (.istore_n 3, 1) := by decide +kernel
theorem dL_isClientSo_65 : decode cL_isClientSo 65 = .ok (.iload 4, 2) := by decide +kernel
theorem dL_isClientSo_67 : decode cL_isClientSo 67 = .ok (.aload_n 0, 1) := by decide +kernel
theorem dL_isClientSo_68 : decode cL_isClientSo 68 = .ok (.iload_n 1, 1) := by decide +kernel
theorem dL_isClientSo_69 : decode cL_isClientSo 69 = .ok (.iload 5, 2) := by decide +kernel
theorem dL_isClientSo_71 : decode cL_isClientSo 71 = .ok (.invokevirtual 42, 3) := by decide +kernel
theorem dL_isClientSo_74 : decode cL_isClientSo 74 = .ok (.iadd, 1) := by decide +kernel
theorem dL_isClientSo_75 : decode cL_isClientSo 75 = .ok (.istore 4, 2) := by decide +kernel
theorem dL_isClientSo_77 : decode cL_isClientSo 77 = .ok (.iinc 5 1, 3) := by decide +kernel
theorem dL_isClientSo_80 : decode cL_isClientSo 80 = .ok (.goto (-66), 3) := by decide +kernel
theorem dL_isClientSo_83 : decode cL_isClientSo 83 = .ok (.aload_n 0, 1) := by decide +kernel
theorem dL_isClientSo_84 : decode cL_isClientSo 84 = .ok (.iload_n 1, 1) := by decide +kernel
theorem dL_isClientSo_85 : decode cL_isClientSo 85 = .ok (.invokevirtual 52, 3) := by decide +kernel
theorem dL_isClientSo_88 : decode cL_isClientSo 88 = .ok (.iload_n 3, 1) := by decide +kernel
theorem dL_isClientSo_89 : decode cL_isClientSo 89 = .ok (.bipush 100, 2) := by decide +kernel
theorem dL_isClientSo_91 : decode cL_isClientSo 91 = .ok (.idiv, 1) := by decide +kernel
theorem dL_isClientSo_92 : decode cL_isClientSo 92 = .ok (.iadd, 1) := by decide +kernel
theorem dL_isClientSo_93 : decode cL_isClientSo 93 = .ok (.istore 5, 2) := by decide +kernel
theorem dL_isClientSo_95 : decode cL_isClientSo 95 = .ok (.aload_n 0, 1) := by decide +kernel
theorem dL_isClientSo_96 : decode cL_isClientSo 96 = .ok (.iload_n 1, 1) := by decide +kernel
theorem dL_isClientSo_97 : decode cL_isClientSo 97 = .ok (.invokevirtual 62, 3) := by decide +kernel
theorem dL_isClientSo_100 : decode cL_isClientSo 100 = .ok (.istore 6, 2) := by decide +kernel
theorem dL_isClientSo_102 : decode cL_isClientSo 102 = .ok (.aload_n 0, 1) := by decide +kernel
theorem dL_isClientSo_103 : decode cL_isClientSo 103 = .ok (.iload_n 1, 1) := by decide +kernel
theorem dL_isClientSo_104 : decode cL_isClientSo 104 = .ok (.invokevirtual 68, 3) := by decide +kernel
theorem dL_isClientSo_107 : decode cL_isClientSo 107 = .ok (.istore 7, 2) := by decide +kernel
theorem dL_isClientSo_109 : decode cL_isClientSo 109 = .ok (.aload_n 0, 1) := by decide +kernel
theorem dL_isClientSo_110 : decode cL_isClientSo 110 = .ok (.iload_n 1, 1) := by decide +kernel
theorem dL_isClientSo_111 : decode cL_isClientSo 111 = .ok (.invokevirtual 122, 3) := by decide +kernel
theorem dL_isClientSo_114 : decode cL_isClientSo 114 = .ok (.iload_n 2, 1) := by decide +kernel
theorem dL_isClientSo_115 : decode cL_isClientSo 115 = .ok (.if_icmp .ne 66, 3) := by decide +kernel
theorem dL_isClientSo_118 : decode cL_isClientSo 118 = .ok (.aload_n 0, 1) := by decide +kernel
theorem dL_isClientSo_119 : decode cL_isClientSo 119 = .ok (.iload_n 1, 1) := by decide +kernel
theorem dL_isClientSo_120 : decode cL_isClientSo 120 = .ok (.invokevirtual 45, 3) := by decide +kernel
theorem dL_isClientSo_123 : decode cL_isClientSo 123 = .ok (.iload 5, 2) := by decide +kernel
theorem dL_isClientSo_125 : decode cL_isClientSo 125 = .ok (.if_icmp .ne 56, 3) := by decide +kernel
theorem dL_isClientSo_128 : decode cL_isClientSo 128 = .ok (.iload 7, 2) := by decide +kernel
theorem dL_isClientSo_130 : decode cL_isClientSo 130 = .ok (.iload 6, 2) := by decide +kernel
theorem dL_isClientSo_132 : decode cL_isClientSo 132 = .ok (.iload 5, 2) := by decide +kernel
theorem dL_isClientSo_134 : decode cL_isClientSo 134 = .ok (.if_icmp .le 7, 3) := by decide +kernel
theorem dL_isClientSo_137 : decode cL_isClientSo 137 = .ok (.iconst 1, 1) := by decide +kernel
theorem dL_isClientSo_138 : decode cL_isClientSo 138 = .ok (.goto 4, 3) := by decide +kernel
theorem dL_isClientSo_141 : decode cL_isClientSo 141 = .ok (.iconst 0, 1) := by decide +kernel
theorem dL_isClientSo_142 : decode cL_isClientSo 142 = .ok (.if_icmp .ne 39, 3) := by decide +kernel
theorem dL_isClientSo_145 : decode cL_isClientSo 145 = .ok (.aload_n 0, 1) := by decide +kernel
theorem dL_isClientSo_146 : decode cL_isClientSo 146 = .ok (.iload_n 1, 1) := by decide +kernel
theorem dL_isClientSo_147 : decode cL_isClientSo 147 = .ok (.invokevirtual 98, 3) := by decide +kernel
theorem dL_isClientSo_150 : decode cL_isClientSo 150 = .ok (.aload_n 0, 1) := by decide +kernel
theorem dL_isClientSo_151 : decode cL_isClientSo 151 = .ok (.iload_n 1, 1) := by decide +kernel
theorem dL_isClientSo_152 : decode cL_isClientSo 152 = .ok (.invokevirtual 125, 3) := by decide +kernel
theorem dL_isClientSo_155 : decode cL_isClientSo 155 = .ok (.ifCond .ne 10, 3) := by decide +kernel
theorem dL_isClientSo_158 : decode cL_isClientSo 158 = .ok (.iload 6, 2) := by decide +kernel
theorem dL_isClientSo_160 : decode cL_isClientSo 160 = .ok (.iload 5, 2) := by decide +kernel
theorem dL_isClientSo_162 : decode cL_isClientSo 162 = .ok (.if_icmp .le 7, 3) := by decide +kernel
theorem dL_isClientSo_165 : decode cL_isClientSo 165 = .ok (.iconst 0, 1) := by decide +kernel
theorem dL_isClientSo_166 : decode cL_isClientSo 166 = .ok (.goto 8, 3) := by decide +kernel
theorem dL_isClientSo_169 : decode cL_isClientSo 169 = .ok (.iload 5, 2) := by decide +kernel
theorem dL_isClientSo_171 : decode cL_isClientSo 171 = .ok (.iload 6, 2) := by decide +kernel
theorem dL_isClientSo_173 : decode cL_isClientSo 173 = .ok (.isub, 1) := by decide +kernel
theorem dL_isClientSo_174 : decode cL_isClientSo 174 = .ok (.if_icmp .ne 7, 3) := by decide +kernel
theorem dL_isClientSo_177 : decode cL_isClientSo 177 = .ok (.iconst 1, 1) := by decide +kernel
theorem dL_isClientSo_178 : decode cL_isClientSo 178 = .ok (.goto 4, 3) := by decide +kernel
theorem dL_isClientSo_181 : decode cL_isClientSo 181 = .ok (.iconst 0, 1) := by decide +kernel
theorem dL_isClientSo_182 : decode cL_isClientSo 182 = .ok (.istore 8, 2) := by decide +kernel
theorem dL_isClientSo_184 : decode cL_isClientSo 184 = .ok (.iload 8, 2) := by decide +kernel
theorem dL_isClientSo_186 : decode cL_isClientSo 186 = .ok (.ifCond .eq 46, 3) := by decide +kernel
theorem dL_isClientSo_189 : decode cL_isClientSo 189 = .ok (.iload 7, 2) := by decide +kernel
theorem dL_isClientSo_191 : decode cL_isClientSo 191 = .ok (.ifCond .eq 37, 3) := by decide +kernel
theorem dL_isClientSo_194 : decode cL_isClientSo 194 = .ok (.aload_n 0, 1) := by decide +kernel
theorem dL_isClientSo_195 : decode cL_isClientSo 195 = .ok (.iload_n 1, 1) := by decide +kernel
theorem dL_isClientSo_196 : decode cL_isClientSo 196 = .ok (.invokevirtual 128, 3) := by decide +kernel
theorem dL_isClientSo_199 : decode cL_isClientSo 199 = .ok (.ifCond .le 33, 3) := by decide +kernel
theorem dL_isClientSo_202 : decode cL_isClientSo 202 = .ok (.aload_n 0, 1) := by decide +kernel
theorem dL_isClientSo_203 : decode cL_isClientSo 203 = .ok (.iload_n 1, 1) := by decide +kernel
theorem dL_isClientSo_204 : decode cL_isClientSo 204 = .ok (.invokevirtual 128, 3) := by decide +kernel
theorem dL_isClientSo_207 : decode cL_isClientSo 207 = .ok (.bipush 25, 2) := by decide +kernel
theorem dL_isClientSo_209 : decode cL_isClientSo 209 = .ok (.if_icmp .ge 23, 3) := by decide +kernel
theorem dL_isClientSo_212 : decode cL_isClientSo 212 = .ok (.aload_n 0, 1) := by decide +kernel
theorem dL_isClientSo_213 : decode cL_isClientSo 213 = .ok (.iload_n 1, 1) := by decide +kernel
theorem dL_isClientSo_214 : decode cL_isClientSo 214 = .ok (.invokevirtual 131, 3) := by decide +kernel
theorem dL_isClientSo_217 : decode cL_isClientSo 217 = .ok (.ifCond .ne 15, 3) := by decide +kernel
theorem dL_isClientSo_220 : decode cL_isClientSo 220 = .ok (.aload_n 0, 1) := by decide +kernel
theorem dL_isClientSo_221 : decode cL_isClientSo 221 = .ok (.iload_n 1, 1) := by decide +kernel
theorem dL_isClientSo_222 : decode cL_isClientSo 222 = .ok (.invokevirtual 134, 3) := by decide +kernel
theorem dL_isClientSo_225 : decode cL_isClientSo 225 = .ok (.ifCond .ne 7, 3) := by decide +kernel
theorem dL_isClientSo_228 : decode cL_isClientSo 228 = .ok (.iconst 1, 1) := by decide +kernel
theorem dL_isClientSo_229 : decode cL_isClientSo 229 = .ok (.goto 4, 3) := by decide +kernel
theorem dL_isClientSo_232 : decode cL_isClientSo 232 = .ok (.iconst 0, 1) := by decide +kernel
theorem dL_isClientSo_233 : decode cL_isClientSo 233 = .ok (.istore 8, 2) := by decide +kernel
theorem dL_isClientSo_235 : decode cL_isClientSo 235 = .ok (.aload_n 0, 1) := by decide +kernel
theorem dL_isClientSo_236 : decode cL_isClientSo 236 = .ok (.iload_n 1, 1) := by decide +kernel
theorem dL_isClientSo_237 : decode cL_isClientSo 237 = .ok (.invokevirtual 137, 3) := by decide +kernel
theorem dL_isClientSo_240 : decode cL_isClientSo 240 = .ok (.istore 9, 2) := by decide +kernel
theorem dL_isClientSo_242 : decode cL_isClientSo 242 = .ok (.aload_n 0, 1) := by decide +kernel
theorem dL_isClientSo_243 : decode cL_isClientSo 243 = .ok (.iload_n 1, 1) := by decide +kernel
theorem dL_isClientSo_244 : decode cL_isClientSo 244 = .ok (.invokevirtual 140, 3) := by decide +kernel
theorem dL_isClientSo_247 : decode cL_isClientSo 247 = .ok (.istore 10, 2) := by decide +kernel
theorem dL_isClientSo_249 : decode cL_isClientSo 249 = .ok (.iload 8, 2) := by decide +kernel
theorem dL_isClientSo_251 : decode cL_isClientSo 251 = .ok (.ifCond .eq 51, 3) := by decide +kernel
theorem dL_isClientSo_254 : decode cL_isClientSo 254 = .ok (.iload 9, 2) := by decide +kernel
theorem dL_isClientSo_256 : decode cL_isClientSo 256 = .ok (.ifCond .lt 46, 3) := by decide +kernel
theorem dL_isClientSo_259 : decode cL_isClientSo 259 = .ok (.iload 9, 2) := by decide +kernel
theorem dL_isClientSo_261 : decode cL_isClientSo 261 = .ok (.iload 4, 2) := by decide +kernel
theorem dL_isClientSo_263 : decode cL_isClientSo 263 = .ok (.if_icmp .gt 39, 3) := by decide +kernel
theorem dL_isClientSo_266 : decode cL_isClientSo 266 = .ok (.iload 10, 2) := by decide +kernel
theorem dL_isClientSo_268 : decode cL_isClientSo 268 = .ok (.ifCond .lt 34, 3) := by decide +kernel
theorem dL_isClientSo_271 : decode cL_isClientSo 271 = .ok (.iload 10, 2) := by decide +kernel
theorem dL_isClientSo_273 : decode cL_isClientSo 273 = .ok (.iload 6, 2) := by decide +kernel
theorem dL_isClientSo_275 : decode cL_isClientSo 275 = .ok (.if_icmp .gt 27, 3) := by decide +kernel
theorem dL_isClientSo_278 : decode cL_isClientSo 278 = .ok (.aload_n 0, 1) := by decide +kernel
theorem dL_isClientSo_279 : decode cL_isClientSo 279 = .ok (.iload_n 1, 1) := by decide +kernel
theorem dL_isClientSo_280 : decode cL_isClientSo 280 = .ok (.invokevirtual 52, 3) := by decide +kernel
theorem dL_isClientSo_283 : decode cL_isClientSo 283 = .ok (.iload 6, 2) := by decide +kernel
theorem dL_isClientSo_285 : decode cL_isClientSo 285 = .ok (.if_icmp .lt 13, 3) := by decide +kernel
theorem dL_isClientSo_288 : decode cL_isClientSo 288 = .ok (.iload 9, 2) := by decide +kernel
theorem dL_isClientSo_290 : decode cL_isClientSo 290 = .ok (.ifCond .ne 12, 3) := by decide +kernel
theorem dL_isClientSo_293 : decode cL_isClientSo 293 = .ok (.iload 10, 2) := by decide +kernel
theorem dL_isClientSo_295 : decode cL_isClientSo 295 = .ok (.ifCond .ne 7, 3) := by decide +kernel
theorem dL_isClientSo_298 : decode cL_isClientSo 298 = .ok (.iconst 1, 1) := by decide +kernel
theorem dL_isClientSo_299 : decode cL_isClientSo 299 = .ok (.goto 4, 3) := by decide +kernel
theorem dL_isClientSo_302 : decode cL_isClientSo 302 = .ok (.iconst 0, 1) := by decide +kernel
theorem dL_isClientSo_303 : decode cL_isClientSo 303 = .ok (.istore 8, 2) := by decide +kernel
theorem dL_isClientSo_305 : decode cL_isClientSo 305 = .ok (.iload 7, 2) := by decide +kernel
theorem dL_isClientSo_307 : decode cL_isClientSo 307 = .ok (.ifCond .ne 86, 3) := by decide +kernel
theorem dL_isClientSo_310 : decode cL_isClientSo 310 = .ok (.iload 6, 2) := by decide +kernel
theorem dL_isClientSo_312 : decode cL_isClientSo 312 = .ok (.aload_n 0, 1) := by decide +kernel
theorem dL_isClientSo_313 : decode cL_isClientSo 313 = .ok (.iload_n 1, 1) := by decide +kernel
theorem dL_isClientSo_314 : decode cL_isClientSo 314 = .ok (.invokevirtual 52, 3) := by decide +kernel
theorem dL_isClientSo_317 : decode cL_isClientSo 317 = .ok (.if_icmp .le 76, 3) := by decide +kernel
theorem dL_isClientSo_320 : decode cL_isClientSo 320 = .ok (.aload_n 0, 1) := by decide +kernel
theorem dL_isClientSo_321 : decode cL_isClientSo 321 = .ok (.iload_n 1, 1) := by decide +kernel
theorem dL_isClientSo_322 : decode cL_isClientSo 322 = .ok (.invokevirtual 131, 3) := by decide +kernel
theorem dL_isClientSo_325 : decode cL_isClientSo 325 = .ok (.istore 11, 2) := by decide +kernel
theorem dL_isClientSo_327 : decode cL_isClientSo 327 = .ok (.iload 8, 2) := by decide +kernel
theorem dL_isClientSo_329 : decode cL_isClientSo 329 = .ok (.ifCond .eq 61, 3) := by decide +kernel
theorem dL_isClientSo_332 : decode cL_isClientSo 332 = .ok (.aload_n 0, 1) := by decide +kernel
theorem dL_isClientSo_333 : decode cL_isClientSo 333 = .ok (.iload_n 1, 1) := by decide +kernel
theorem dL_isClientSo_334 : decode cL_isClientSo 334 = .ok (.invokevirtual 143, 3) := by decide +kernel
theorem dL_isClientSo_337 : decode cL_isClientSo 337 = .ok (.iload 11, 2) := by decide +kernel
theorem dL_isClientSo_339 : decode cL_isClientSo 339 = .ok (.if_icmp .ne 51, 3) := by decide +kernel
theorem dL_isClientSo_342 : decode cL_isClientSo 342 = .ok (.iload 11, 2) := by decide +kernel
theorem dL_isClientSo_344 : decode cL_isClientSo 344 = .ok (.ifCond .le 46, 3) := by decide +kernel
theorem dL_isClientSo_347 : decode cL_isClientSo 347 = .ok (.iload 11, 2) := by decide +kernel
theorem dL_isClientSo_349 : decode cL_isClientSo 349 = .ok (.bipush 101, 2) := by decide +kernel
theorem dL_isClientSo_351 : decode cL_isClientSo 351 = .ok (.if_icmp .ge 39, 3) := by decide +kernel
theorem dL_isClientSo_354 : decode cL_isClientSo 354 = .ok (.aload_n 0, 1) := by decide +kernel
theorem dL_isClientSo_355 : decode cL_isClientSo 355 = .ok (.iload_n 1, 1) := by decide +kernel
theorem dL_isClientSo_356 : decode cL_isClientSo 356 = .ok (.iload 11, 2) := by decide +kernel
theorem dL_isClientSo_358 : decode cL_isClientSo 358 = .ok (.invokestatic 146, 3) := by decide +kernel
theorem dL_isClientSo_361 : decode cL_isClientSo 361 = .ok (.iload 6, 2) := by decide +kernel
theorem dL_isClientSo_363 : decode cL_isClientSo 363 = .ok (.if_icmp .ge 27, 3) := by decide +kernel
theorem dL_isClientSo_366 : decode cL_isClientSo 366 = .ok (.iload 11, 2) := by decide +kernel
theorem dL_isClientSo_368 : decode cL_isClientSo 368 = .ok (.iconst 1, 1) := by decide +kernel
theorem dL_isClientSo_369 : decode cL_isClientSo 369 = .ok (.if_icmp .eq 17, 3) := by decide +kernel
theorem dL_isClientSo_372 : decode cL_isClientSo 372 = .ok (.aload_n 0, 1) := by decide +kernel
theorem dL_isClientSo_373 : decode cL_isClientSo 373 = .ok (.iload_n 1, 1) := by decide +kernel
theorem dL_isClientSo_374 : decode cL_isClientSo 374 = .ok (.iload 11, 2) := by decide +kernel
theorem dL_isClientSo_376 : decode cL_isClientSo 376 = .ok (.iconst 1, 1) := by decide +kernel
theorem dL_isClientSo_377 : decode cL_isClientSo 377 = .ok (.isub, 1) := by decide +kernel
theorem dL_isClientSo_378 : decode cL_isClientSo 378 = .ok (.invokestatic 146, 3) := by decide +kernel
theorem dL_isClientSo_381 : decode cL_isClientSo 381 = .ok (.iload 6, 2) := by decide +kernel
theorem dL_isClientSo_383 : decode cL_isClientSo 383 = .ok (.if_icmp .lt 7, 3) := by decide +kernel
theorem dL_isClientSo_386 : decode cL_isClientSo 386 = .ok (.iconst 1, 1) := by decide +kernel
theorem dL_isClientSo_387 : decode cL_isClientSo 387 = .ok (.goto 4, 3) := by decide +kernel
theorem dL_isClientSo_390 : decode cL_isClientSo 390 = .ok (.iconst 0, 1) := by decide +kernel
theorem dL_isClientSo_391 : decode cL_isClientSo 391 = .ok (.istore 8, 2) := by decide +kernel
theorem dL_isClientSo_393 : decode cL_isClientSo 393 = .ok (.iload 8, 2) := by decide +kernel
theorem dL_isClientSo_395 : decode cL_isClientSo 395 = .ok (.ireturn, 1) := by decide +kernel
theorem dL_ifFallen_0 : decode cL_ifFallen 0 = .ok (.iconst 0, 1) := by decide +kernel
theorem dL_ifFallen_1 : decode cL_ifFallen 1 = .ok (.istore_n 3, 1) := by decide +kernel
theorem dL_ifFallen_2 : decode cL_ifFallen 2 = .ok (.iconst 0, 1) := by decide +kernel
theorem dL_ifFallen_3 : decode cL_ifFallen 3 = .ok (.istore 4, 2) := by decide +kernel
theorem dL_ifFallen_5 : decode cL_ifFallen 5 = .ok (.iload 4, 2) := by decide +kernel
theorem dL_ifFallen_7 : decode cL_ifFallen 7 = .ok (.bipush 6, 2) := by decide +kernel
theorem dL_ifFallen_9 : decode cL_ifFallen 9 = .ok (.if_icmp .ge 44, 3) := by decide +kernel
theorem dL_ifFallen_12 : decode cL_ifFallen 12 = .ok (.iload_n 3, 1) := by decide +kernel
theorem dL_ifFallen_13 : decode cL_ifFallen 13 = .ok (.aload_n 0, 1) := by decide +kernel
theorem dL_ifFallen_14 : decode cL_ifFallen 14 = .ok (.iload_n 1, 1) := by decide +kernel
theorem dL_ifFallen_15 : decode cL_ifFallen 15 = .ok (.iload 4, 2) := by decide +kernel
theorem dL_ifFallen_17 : decode cL_ifFallen 17 = .ok (.invokevirtual 42, 3) := by decide +kernel
theorem dL_ifFallen_20 : decode cL_ifFallen 20 = .ok (.aload_n 0, 1) := by decide +kernel
theorem dL_ifFallen_21 : decode cL_ifFallen 21 = .ok (.iload 4, 2) := by decide +kernel
theorem dL_ifFallen_23 : decode cL_ifFallen 23 = .ok (.invokevirtual 23, 3) := by decide +kernel
theorem dL_ifFallen_26 : decode cL_ifFallen 26 = .ok (.bipush 100, 2) := by decide +kernel
theorem dL_ifFallen_28 : decode cL_ifFallen 28 = .ok (.iload_n 2, 1) := by decide +kernel
theorem dL_ifFallen_29 : decode cL_ifFallen 29 = .ok (.isub, 1) := by decide +kernel
theorem dL_ifFallen_30 : decode cL_ifFallen 30 = .ok (.imul, 1) := by decide +kernel
theorem dL_ifFallen_31 : decode cL_ifFallen 31 = .ok (.bipush 100, 2) := by decide +kernel
theorem dL_ifFallen_33 : decode cL_ifFallen 33 = .ok (.idiv, 1) := by decide +kernel
theorem dL_ifFallen_34 : decode cL_ifFallen 34 = .ok (.imul, 1) := by decide +kernel
theorem dL_ifFallen_35 : decode cL_ifFallen 35 = .ok (.bipush 100, 2) := by decide +kernel
theorem dL_ifFallen_37 : decode cL_ifFallen 37 = .ok (.aload_n 0, 1) := by decide +kernel
theorem dL_ifFallen_38 : decode cL_ifFallen 38 = .ok (.iload 4, 2) := by decide +kernel
theorem dL_ifFallen_40 : decode cL_ifFallen 40 = .ok (.invokevirtual 30, 3) := by decide +kernel
theorem dL_ifFallen_43 : decode cL_ifFallen 43 = .ok (.isub, 1) := by decide +kernel
theorem dL_ifFallen_44 : decode cL_ifFallen 44 = .ok (.imul, 1) := by decide +kernel
theorem dL_ifFallen_45 : decode cL_ifFallen 45 = .ok (.iadd, 1) := by decide +kernel
theorem dL_ifFallen_46 : decode cL_ifFallen 46 = .ok (.istore_n 3, 1) := by decide +kernel
theorem dL_ifFallen_47 : decode cL_ifFallen 47 = .ok (.iinc 4 1, 3) := by decide +kernel
theorem dL_ifFallen_50 : decode cL_ifFallen 50 = .ok (.goto (-45), 3) := by decide +kernel
theorem dL_ifFallen_53 : decode cL_ifFallen 53 = .ok (.aload_n 0, 1) := by decide +kernel
theorem dL_ifFallen_54 : decode cL_ifFallen 54 = .ok (.iload_n 1, 1) := by decide +kernel
theorem dL_ifFallen_55 : decode cL_ifFallen 55 = .ok (.invokevirtual 52, 3) := by decide +kernel
theorem dL_ifFallen_58 : decode cL_ifFallen 58 = .ok (.iload_n 3, 1) := by decide +kernel
theorem dL_ifFallen_59 : decode cL_ifFallen 59 = .ok (.bipush 100, 2) := by decide +kernel
theorem dL_ifFallen_61 : decode cL_ifFallen 61 = .ok (.idiv, 1) := by decide +kernel
theorem dL_ifFallen_62 : decode cL_ifFallen 62 = .ok (.iadd, 1) := by decide +kernel
theorem dL_ifFallen_63 : decode cL_ifFallen 63 = .ok (.ireturn, 1) := by decide +kernel
theorem dL_isRiskSo_0 : decode cL_isRiskSo 0 = .ok (.iconst 0, 1) := by decide +kernel
theorem dL_isRiskSo_1 : decode cL_isRiskSo 1 = .ok (.istore_n 1, 1) := by decide +kernel
theorem dL_isRiskSo_2 : decode cL_isRiskSo 2 = .ok (.iconst 1, 1) := by decide +kernel
theorem dL_isRiskSo_3 : decode cL_isRiskSo 3 = .ok (.istore_n 2, 1) := by decide +kernel
theorem dL_isRiskSo_4 : decode cL_isRiskSo 4 = .ok (.iconst 0, 1) := by decide +kernel
theorem dL_isRiskSo_5 : decode cL_isRiskSo 5 = .ok (.istore_n 3, 1) := by decide +kernel
theorem dL_isRiskSo_6 : decode cL_isRiskSo 6 = .ok (.iload_n 3, 1) := by decide +kernel
theorem dL_isRiskSo_7 : decode cL_isRiskSo 7 = .ok (.bipush 8, 2) := by decide +kernel
theorem dL_isRiskSo_9 : decode cL_isRiskSo 9 = .ok (.if_icmp .ge 167, 3) := by decide +kernel
theorem dL_isRiskSo_12 : decode cL_isRiskSo 12 = .ok (.aload_n 0, 1) := by decide +kernel
theorem dL_isRiskSo_13 : decode cL_isRiskSo 13 = .ok (.iload_n 3, 1) := by decide +kernel
theorem dL_isRiskSo_14 : decode cL_isRiskSo 14 = .ok (.invokevirtual 150, 3) := by decide +kernel
theorem dL_isRiskSo_17 : decode cL_isRiskSo 17 = .ok (.istore 4, 2) := by decide +kernel
theorem dL_isRiskSo_19 : decode cL_isRiskSo 19 = .ok (.iload_n 1, 1) := by decide +kernel
theorem dL_isRiskSo_20 : decode cL_isRiskSo 20 = .ok (.iconst 1, 1) := by decide +kernel
theorem dL_isRiskSo_21 : decode cL_isRiskSo 21 = .ok (.iload 4, 2) := by decide +kernel
theorem dL_isRiskSo_23 : decode cL_isRiskSo 23 = .ok (.ishl, 1) := by decide +kernel
theorem dL_isRiskSo_24 : decode cL_isRiskSo 24 = .ok (.ior, 1) := by decide +kernel
theorem dL_isRiskSo_25 : decode cL_isRiskSo 25 = .ok (.istore_n 1, 1) := by decide +kernel
theorem dL_isRiskSo_26 : decode cL_isRiskSo 26 = .ok (.iload_n 2, 1) := by decide +kernel
theorem dL_isRiskSo_27 : decode cL_isRiskSo 27 = .ok (.ifCond .eq 27, 3) := by decide +kernel
theorem dL_isRiskSo_30 : decode cL_isRiskSo 30 = .ok (.aload_n 0, 1) := by decide +kernel
theorem dL_isRiskSo_31 : decode cL_isRiskSo 31 = .ok (.iload_n 3, 1) := by decide +kernel
theorem dL_isRiskSo_32 : decode cL_isRiskSo 32 = .ok (.invokevirtual 153, 3) := by decide +kernel
theorem dL_isRiskSo_35 : decode cL_isRiskSo 35 = .ok (.iload 4, 2) := by decide +kernel
theorem dL_isRiskSo_37 : decode cL_isRiskSo 37 = .ok (.if_icmp .ne 17, 3) := by decide +kernel
theorem dL_isRiskSo_40 : decode cL_isRiskSo 40 = .ok (.aload_n 0, 1) := by decide +kernel
theorem dL_isRiskSo_41 : decode cL_isRiskSo 41 = .ok (.iload 4, 2) := by decide +kernel
theorem dL_isRiskSo_43 : decode cL_isRiskSo 43 = .ok (.invokevirtual 156, 3) := by decide +kernel
theorem dL_isRiskSo_46 : decode cL_isRiskSo 46 = .ok (.iload_n 3, 1) := by decide +kernel
theorem dL_isRiskSo_47 : decode cL_isRiskSo 47 = .ok (.if_icmp .ne 7, 3) := by decide +kernel
theorem dL_isRiskSo_50 : decode cL_isRiskSo 50 = .ok (.iconst 1, 1) := by decide +kernel
theorem dL_isRiskSo_51 : decode cL_isRiskSo 51 = .ok (.goto 4, 3) := by decide +kernel
theorem dL_isRiskSo_54 : decode cL_isRiskSo 54 = .ok (.iconst 0, 1) := by decide +kernel
theorem dL_isRiskSo_55 : decode cL_isRiskSo 55 = .ok (.istore_n 2, 1) := by decide +kernel
theorem dL_isRiskSo_56 : decode cL_isRiskSo 56 = .ok (.iload_n 3, 1) := by decide +kernel
theorem dL_isRiskSo_57 : decode cL_isRiskSo 57 = .ok (.ifCond .le 113, 3) := by decide +kernel
theorem dL_isRiskSo_60 : decode cL_isRiskSo 60 = .ok (.aload_n 0, 1) := by decide +kernel
theorem dL_isRiskSo_61 : decode cL_isRiskSo 61 = .ok (.iload_n 3, 1) := by decide +kernel
theorem dL_isRiskSo_62 : decode cL_isRiskSo 62 = .ok (.iconst 1, 1) := by decide +kernel
theorem dL_isRiskSo_63 : decode cL_isRiskSo 63 = .ok (.isub, 1) := by decide +kernel
theorem dL_isRiskSo_64 : decode cL_isRiskSo 64 = .ok (.invokevirtual 150, 3) := by decide +kernel
theorem dL_isRiskSo_67 : decode cL_isRiskSo 67 = .ok (.istore 5, 2) := by decide +kernel
theorem dL_isRiskSo_69 : decode cL_isRiskSo 69 = .ok (.aload_n 0, 1) := by decide +kernel
theorem dL_isRiskSo_70 : decode cL_isRiskSo 70 = .ok (.iload 5, 2) := by decide +kernel
theorem dL_isRiskSo_72 : decode cL_isRiskSo 72 = .ok (.invokevirtual 45, 3) := by decide +kernel
theorem dL_isRiskSo_75 : decode cL_isRiskSo 75 = .ok (.i2l, 1) := by decide +kernel
theorem dL_isRiskSo_76 : decode cL_isRiskSo 76 = .ok (.aload_n 0, 1) := by decide +kernel
theorem dL_isRiskSo_77 : decode cL_isRiskSo 77 = .ok (.iload 4, 2) := by decide +kernel
theorem dL_isRiskSo_79 : decode cL_isRiskSo 79 = .ok (.invokevirtual 62, 3) := by decide +kernel
theorem dL_isRiskSo_82 : decode cL_isRiskSo 82 = .ok (.i2l, 1) := by decide +kernel
theorem dL_isRiskSo_83 : decode cL_isRiskSo 83 = .ok (.lmul, 1) := by decide +kernel
theorem dL_isRiskSo_84 : decode cL_isRiskSo 84 = .ok (.aload_n 0, 1) := by decide +kernel
theorem dL_isRiskSo_85 : decode cL_isRiskSo 85 = .ok (.iload 4, 2) := by decide +kernel
theorem dL_isRiskSo_87 : decode cL_isRiskSo 87 = .ok (.invokevirtual 45, 3) := by decide +kernel
theorem dL_isRiskSo_90 : decode cL_isRiskSo 90 = .ok (.i2l, 1) := by decide +kernel
theorem dL_isRiskSo_91 : decode cL_isRiskSo 91 = .ok (.aload_n 0, 1) := by decide +kernel
theorem dL_isRiskSo_92 : decode cL_isRiskSo 92 = .ok (.iload 5, 2) := by decide +kernel
theorem dL_isRiskSo_94 : decode cL_isRiskSo 94 = .ok (.invokevirtual 62, 3) := by decide +kernel
theorem dL_isRiskSo_97 : decode cL_isRiskSo 97 = .ok (.i2l, 1) := by decide +kernel
theorem dL_isRiskSo_98 : decode cL_isRiskSo 98 = .ok (.lmul, 1) := by decide +kernel
theorem dL_isRiskSo_99 : decode cL_isRiskSo 99 = .ok (.lsub, 1) := by decide +kernel
theorem dL_isRiskSo_100 : decode cL_isRiskSo 100 = .ok (.lstore 6, 2) := by decide +kernel
theorem dL_isRiskSo_102 : decode cL_isRiskSo 102 = .ok (.iload_n 2, 1) := by decide +kernel
theorem dL_isRiskSo_103 : decode cL_isRiskSo 103 = .ok (.ifCond .eq 65, 3) := by decide +kernel
theorem dL_isRiskSo_106 : decode cL_isRiskSo 106 = .ok (.aload_n 0, 1) := by decide +kernel
theorem dL_isRiskSo_107 : decode cL_isRiskSo 107 = .ok (.iload 5, 2) := by decide +kernel
theorem dL_isRiskSo_109 : decode cL_isRiskSo 109 = .ok (.invokevirtual 62, 3) := by decide +kernel
theorem dL_isRiskSo_112 : decode cL_isRiskSo 112 = .ok (.ifCond .ne 22, 3) := by decide +kernel
theorem dL_isRiskSo_115 : decode cL_isRiskSo 115 = .ok (.aload_n 0, 1) := by decide +kernel
theorem dL_isRiskSo_116 : decode cL_isRiskSo 116 = .ok (.iload 4, 2) := by decide +kernel
theorem dL_isRiskSo_118 : decode cL_isRiskSo 118 = .ok (.invokevirtual 62, 3) := by decide +kernel
theorem dL_isRiskSo_121 : decode cL_isRiskSo 121 = .ok (.ifCond .ne 47, 3) := by decide +kernel
theorem dL_isRiskSo_124 : decode cL_isRiskSo 124 = .ok (.iload 5, 2) := by decide +kernel
theorem dL_isRiskSo_126 : decode cL_isRiskSo 126 = .ok (.iload 4, 2) := by decide +kernel
theorem dL_isRiskSo_128 : decode cL_isRiskSo 128 = .ok (.if_icmp .ge 40, 3) := by decide +kernel
theorem dL_isRiskSo_131 : decode cL_isRiskSo 131 = .ok (.goto 33, 3) := by decide +kernel
theorem dL_isRiskSo_134 : decode cL_isRiskSo 134 = .ok (.aload_n 0, 1) := by decide +kernel
theorem dL_isRiskSo_135 : decode cL_isRiskSo 135 = .ok (.iload 4, 2) := by decide +kernel
theorem dL_isRiskSo_137 : decode cL_isRiskSo 137 = .ok (.invokevirtual 62, 3) := by decide +kernel
theorem dL_isRiskSo_140 : decode cL_isRiskSo 140 = .ok (.ifCond .eq 24, 3) := by decide +kernel
theorem dL_isRiskSo_143 : decode cL_isRiskSo 143 = .ok (.lload 6, 2) := by decide +kernel
theorem dL_isRiskSo_145 : decode cL_isRiskSo 145 = .ok (.lconst 0, 1) := by decide +kernel
theorem dL_isRiskSo_146 : decode cL_isRiskSo 146 = .ok (.lcmp, 1) := by decide +kernel
theorem dL_isRiskSo_147 : decode cL_isRiskSo 147 = .ok (.ifCond .lt 17, 3) := by decide +kernel
theorem dL_isRiskSo_150 : decode cL_isRiskSo 150 = .ok (.lload 6, 2) := by decide +kernel
theorem dL_isRiskSo_152 : decode cL_isRiskSo 152 = .ok (.lconst 0, 1) := by decide +kernel
theorem dL_isRiskSo_153 : decode cL_isRiskSo 153 = .ok (.lcmp, 1) := by decide +kernel
theorem dL_isRiskSo_154 : decode cL_isRiskSo 154 = .ok (.ifCond .ne 14, 3) := by decide +kernel
theorem dL_isRiskSo_157 : decode cL_isRiskSo 157 = .ok (.iload 5, 2) := by decide +kernel
theorem dL_isRiskSo_159 : decode cL_isRiskSo 159 = .ok (.iload 4, 2) := by decide +kernel
theorem dL_isRiskSo_161 : decode cL_isRiskSo 161 = .ok (.if_icmp .ge 7, 3) := by decide +kernel
theorem dL_isRiskSo_164 : decode cL_isRiskSo 164 = .ok (.iconst 1, 1) := by decide +kernel
theorem dL_isRiskSo_165 : decode cL_isRiskSo 165 = .ok (.goto 4, 3) := by decide +kernel
theorem dL_isRiskSo_168 : decode cL_isRiskSo 168 = .ok (.iconst 0, 1) := by decide +kernel
theorem dL_isRiskSo_169 : decode cL_isRiskSo 169 = .ok (.istore_n 2, 1) := by decide +kernel
theorem dL_isRiskSo_170 : decode cL_isRiskSo 170 = .ok (.iinc 3 1, 3) := by decide +kernel
theorem dL_isRiskSo_173 : decode cL_isRiskSo 173 = .ok (.goto (-167), 3) := by decide +kernel
theorem dL_isRiskSo_176 : decode cL_isRiskSo 176 = .ok (.iload_n 2, 1) := by decide +kernel
theorem dL_isRiskSo_177 : decode cL_isRiskSo 177 = .ok (.ifCond .eq 14, 3) := by decide +kernel
theorem dL_isRiskSo_180 : decode cL_isRiskSo 180 = .ok (.iload_n 1, 1) := by decide +kernel
theorem dL_isRiskSo_181 : decode cL_isRiskSo 181 = .ok (.sipush 255, 3) := by decide +kernel
theorem dL_isRiskSo_184 : decode cL_isRiskSo 184 = .ok (.if_icmp .ne 7, 3) := by decide +kernel
theorem dL_isRiskSo_187 : decode cL_isRiskSo 187 = .ok (.iconst 1, 1) := by decide +kernel
theorem dL_isRiskSo_188 : decode cL_isRiskSo 188 = .ok (.goto 4, 3) := by decide +kernel
theorem dL_isRiskSo_191 : decode cL_isRiskSo 191 = .ok (.iconst 0, 1) := by decide +kernel
theorem dL_isRiskSo_192 : decode cL_isRiskSo 192 = .ok (.ireturn, 1) := by decide +kernel
theorem dL_areAccountsSo_0 : decode cL_areAccountsSo 0 = .ok (.iconst 0, 1) := by decide +kernel
theorem dL_areAccountsSo_1 : decode cL_areAccountsSo 1 = .ok (.istore_n 1, 1) := by decide +kernel
theorem dL_areAccountsSo_2 : decode cL_areAccountsSo 2 = .ok (.iconst 0, 1) := by decide +kernel
theorem dL_areAccountsSo_3 : decode cL_areAccountsSo 3 = .ok (.istore_n 2, 1) := by decide +kernel
theorem dL_areAccountsSo_4 : decode cL_areAccountsSo 4 = .ok (.iconst 0, 1) := by decide +kernel
theorem dL_areAccountsSo_5 : decode cL_areAccountsSo 5 = .ok (.istore_n 3, 1) := by decide +kernel
theorem dL_areAccountsSo_6 : decode cL_areAccountsSo 6 = .ok (.iconst 1, 1) := by decide +kernel
theorem dL_areAccountsSo_7 : decode cL_areAccountsSo 7 = .ok (.istore 4, 2) := by decide +kernel
theorem dL_areAccountsSo_9 : decode cL_areAccountsSo 9 = .ok (.iconst 0, 1) := by decide +kernel
theorem dL_areAccountsSo_10 : decode cL_areAccountsSo 10 = .ok (.istore 5, 2) := by decide +kernel
theorem dL_areAccountsSo_12 : decode cL_areAccountsSo 12 = .ok (.iload 5, 2) := by decide +kernel
theorem dL_areAccountsSo_14 : decode cL_areAccountsSo 14 = .ok (.bipush 8, 2) := by decide +kernel
theorem dL_areAccountsSo_16 : decode cL_areAccountsSo 16 = .ok (.if_icmp .ge 44, 3) := by decide +kernel
theorem dL_areAccountsSo_19 : decode cL_areAccountsSo 19 = .ok (.iload_n 1, 1) := by decide +kernel
theorem dL_areAccountsSo_20 : decode cL_areAccountsSo 20 = .ok (.aload_n 0, 1) := by decide +kernel
theorem dL_areAccountsSo_21 : decode cL_areAccountsSo 21 = .ok (.iload 5, 2) := by decide +kernel
theorem dL_areAccountsSo_23 : decode cL_areAccountsSo 23 = .ok (.invokevirtual 62, 3) := by decide +kernel
theorem dL_areAccountsSo_26 : decode cL_areAccountsSo 26 = .ok (.iadd, 1) := by decide +kernel
theorem dL_areAccountsSo_27 : decode cL_areAccountsSo 27 = .ok (.istore_n 1, 1) := by decide +kernel
theorem dL_areAccountsSo_28 : decode cL_areAccountsSo 28 = .ok (.iload_n 2, 1) := by decide +kernel
theorem dL_areAccountsSo_29 : decode cL_areAccountsSo 29 = .ok (.aload_n 0, 1) := by decide +kernel
theorem dL_areAccountsSo_30 : decode cL_areAccountsSo 30 = .ok (.iload 5, 2) := by decide +kernel
theorem dL_areAccountsSo_32 : decode cL_areAccountsSo 32 = .ok (.invokevirtual 68, 3) := by decide +kernel
theorem dL_areAccountsSo_35 : decode cL_areAccountsSo 35 = .ok (.ifCond .eq 7, 3) := by decide +kernel
theorem dL_areAccountsSo_38 : decode cL_areAccountsSo 38 = .ok (.iconst 1, 1) := by decide +kernel
theorem dL_areAccountsSo_39 : decode cL_areAccountsSo 39 = .ok (.goto 4, 3) := by decide +kernel
theorem dL_areAccountsSo_42 : decode cL_areAccountsSo 42 = .ok (.iconst 0, 1) := by decide +kernel
theorem dL_areAccountsSo_43 : decode cL_areAccountsSo 43 = .ok (.iadd, 1) := by decide +kernel
theorem dL_areAccountsSo_44 : decode cL_areAccountsSo 44 = .ok (.istore_n 2, 1) := by decide +kernel
theorem dL_areAccountsSo_45 : decode cL_areAccountsSo 45 = .ok (.iload_n 3, 1) := by decide +kernel
theorem dL_areAccountsSo_46 : decode cL_areAccountsSo 46 = .ok (.aload_n 0, 1) := by decide +kernel
theorem dL_areAccountsSo_47 : decode cL_areAccountsSo 47 = .ok (.iload 5, 2) := by decide +kernel
theorem dL_areAccountsSo_49 : decode cL_areAccountsSo 49 = .ok (.invokevirtual 45, 3) := by decide +kernel
theorem dL_areAccountsSo_52 : decode cL_areAccountsSo 52 = .ok (.iadd, 1) := by decide +kernel
theorem dL_areAccountsSo_53 : decode cL_areAccountsSo 53 = .ok (.istore_n 3, 1) := by decide +kernel
theorem dL_areAccountsSo_54 : decode cL_areAccountsSo 54 = .ok (.iinc 5 1, 3) := by decide +kernel
theorem dL_areAccountsSo_57 : decode cL_areAccountsSo 57 = .ok (.goto (-45), 3) := by decide +kernel
theorem dL_areAccountsSo_60 : decode cL_areAccountsSo 60 = .ok (.iconst 0, 1) := by decide +kernel
theorem dL_areAccountsSo_61 : decode cL_areAccountsSo 61 = .ok (.istore 5, 2) := by decide +kernel
theorem dL_areAccountsSo_63 : decode cL_areAccountsSo 63 = .ok (.iload 5, 2) := by decide +kernel
theorem dL_areAccountsSo_65 : decode cL_areAccountsSo 65 = .ok (.bipush 6, 2) := by decide +kernel
theorem dL_areAccountsSo_67 : decode cL_areAccountsSo 67 = .ok (.if_icmp .ge 73, 3) := by decide +kernel
theorem dL_areAccountsSo_70 : decode cL_areAccountsSo 70 = .ok (.iconst 0, 1) := by decide +kernel
theorem dL_areAccountsSo_71 : decode cL_areAccountsSo 71 = .ok (.istore 6, 2) := by decide +kernel
theorem dL_areAccountsSo_73 : decode cL_areAccountsSo 73 = .ok (.iconst 0, 1) := by decide +kernel
theorem dL_areAccountsSo_74 : decode cL_areAccountsSo 74 = .ok (.istore 7, 2) := by decide +kernel
theorem dL_areAccountsSo_76 : decode cL_areAccountsSo 76 = .ok (.iload 7, 2) := by decide +kernel
theorem dL_areAccountsSo_78 : decode cL_areAccountsSo 78 = .ok (.bipush 8, 2) := by decide +kernel
theorem dL_areAccountsSo_80 : decode cL_areAccountsSo 80 = .ok (.if_icmp .ge 22, 3) := by decide +kernel
theorem dL_areAccountsSo_83 : decode cL_areAccountsSo 83 = .ok (.iload 6, 2) := by decide +kernel
theorem dL_areAccountsSo_85 : decode cL_areAccountsSo 85 = .ok (.aload_n 0, 1) := by decide +kernel
theorem dL_areAccountsSo_86 : decode cL_areAccountsSo 86 = .ok (.iload 7, 2) := by decide +kernel
theorem dL_areAccountsSo_88 : decode cL_areAccountsSo 88 = .ok (.iload 5, 2) := by decide +kernel
theorem dL_areAccountsSo_90 : decode cL_areAccountsSo 90 = .ok (.invokevirtual 42, 3) := by decide +kernel
theorem dL_areAccountsSo_93 : decode cL_areAccountsSo 93 = .ok (.iadd, 1) := by decide +kernel
theorem dL_areAccountsSo_94 : decode cL_areAccountsSo 94 = .ok (.istore 6, 2) := by decide +kernel
theorem dL_areAccountsSo_96 : decode cL_areAccountsSo 96 = .ok (.iinc 7 1, 3) := by decide +kernel
theorem dL_areAccountsSo_99 : decode cL_areAccountsSo 99 = .ok (.goto (-23), 3) := by decide +kernel
theorem dL_areAccountsSo_102 : decode cL_areAccountsSo 102 = .ok (.iload 4, 2) := by decide +kernel
theorem dL_areAccountsSo_104 : decode cL_areAccountsSo 104 = .ok (.ifCond .eq 27, 3) := by decide +kernel
theorem dL_areAccountsSo_107 : decode cL_areAccountsSo 107 = .ok (.aload_n 0, 1) := by decide +kernel
theorem dL_areAccountsSo_108 : decode cL_areAccountsSo 108 = .ok (.iload 5, 2) := by decide +kernel
theorem dL_areAccountsSo_110 : decode cL_areAccountsSo 110 = .ok (.invokevirtual 159, 3) := by decide +kernel
theorem dL_areAccountsSo_113 : decode cL_areAccountsSo 113 = .ok (.iload 6, 2) := by decide +kernel
theorem dL_areAccountsSo_115 : decode cL_areAccountsSo 115 = .ok (.if_icmp .ne 16, 3) := by decide +kernel
theorem dL_areAccountsSo_118 : decode cL_areAccountsSo 118 = .ok (.aload_n 0, 1) := by decide +kernel
theorem dL_areAccountsSo_119 : decode cL_areAccountsSo 119 = .ok (.iload 5, 2) := by decide +kernel
theorem dL_areAccountsSo_121 : decode cL_areAccountsSo 121 = .ok (.invokevirtual 162, 3) := by decide +kernel
theorem dL_areAccountsSo_124 : decode cL_areAccountsSo 124 = .ok (.ifCond .lt 7, 3) := by decide +kernel
theorem dL_areAccountsSo_127 : decode cL_areAccountsSo 127 = .ok (.iconst 1, 1) := by decide +kernel
theorem dL_areAccountsSo_128 : decode cL_areAccountsSo 128 = .ok (.goto 4, 3) := by decide +kernel
theorem dL_areAccountsSo_131 : decode cL_areAccountsSo 131 = .ok (.iconst 0, 1) := by decide +kernel
theorem dL_areAccountsSo_132 : decode cL_areAccountsSo 132 = .ok (.istore 4, 2) := by decide +kernel
theorem dL_areAccountsSo_134 : decode cL_areAccountsSo 134 = .ok (.iinc 5 1, 3) := by decide +kernel
theorem dL_areAccountsSo_137 : decode cL_areAccountsSo 137 = .ok (.goto (-74), 3) := by decide +kernel
theorem dL_areAccountsSo_140 : decode cL_areAccountsSo 140 = .ok (.iload 4, 2) := by decide +kernel
theorem dL_areAccountsSo_142 : decode cL_areAccountsSo 142 = .ok (.ifCond .eq 54, 3) := by decide +kernel
theorem dL_areAccountsSo_145 : decode cL_areAccountsSo 145 = .ok (.aload_n 0, 1) := by decide +kernel
theorem dL_areAccountsSo_146 : decode cL_areAccountsSo 146 = .ok (.invokevirtual 113, 3) := by decide +kernel
theorem dL_areAccountsSo_149 : decode cL_areAccountsSo 149 = .ok (.iload_n 1, 1) := by decide +kernel
theorem dL_areAccountsSo_150 : decode cL_areAccountsSo 150 = .ok (.if_icmp .ne 46, 3) := by decide +kernel
theorem dL_areAccountsSo_153 : decode cL_areAccountsSo 153 = .ok (.aload_n 0, 1) := by decide +kernel
theorem dL_areAccountsSo_154 : decode cL_areAccountsSo 154 = .ok (.invokevirtual 119, 3) := by decide +kernel
theorem dL_areAccountsSo_157 : decode cL_areAccountsSo 157 = .ok (.iload_n 1, 1) := by decide +kernel
theorem dL_areAccountsSo_158 : decode cL_areAccountsSo 158 = .ok (.if_icmp .ne 38, 3) := by decide +kernel
theorem dL_areAccountsSo_161 : decode cL_areAccountsSo 161 = .ok (.aload_n 0, 1) := by decide +kernel
theorem dL_areAccountsSo_162 : decode cL_areAccountsSo 162 = .ok (.invokevirtual 101, 3) := by decide +kernel
theorem dL_areAccountsSo_165 : decode cL_areAccountsSo 165 = .ok (.aload_n 0, 1) := by decide +kernel
theorem dL_areAccountsSo_166 : decode cL_areAccountsSo 166 = .ok (.invokevirtual 165, 3) := by decide +kernel
theorem dL_areAccountsSo_169 : decode cL_areAccountsSo 169 = .ok (.iadd, 1) := by decide +kernel
theorem dL_areAccountsSo_170 : decode cL_areAccountsSo 170 = .ok (.aload_n 0, 1) := by decide +kernel
theorem dL_areAccountsSo_171 : decode cL_areAccountsSo 171 = .ok (.invokevirtual 168, 3) := by decide +kernel
theorem dL_areAccountsSo_174 : decode cL_areAccountsSo 174 = .ok (.isub, 1) := by decide +kernel
theorem dL_areAccountsSo_175 : decode cL_areAccountsSo 175 = .ok (.aload_n 0, 1) := by decide +kernel
theorem dL_areAccountsSo_176 : decode cL_areAccountsSo 176 = .ok (.invokevirtual 171, 3) := by decide +kernel
theorem dL_areAccountsSo_179 : decode cL_areAccountsSo 179 = .ok (.isub, 1) := by decide +kernel
theorem dL_areAccountsSo_180 : decode cL_areAccountsSo 180 = .ok (.iload_n 1, 1) := by decide +kernel
theorem dL_areAccountsSo_181 : decode cL_areAccountsSo 181 = .ok (.if_icmp .ne 15, 3) := by decide +kernel
theorem dL_areAccountsSo_184 : decode cL_areAccountsSo 184 = .ok (.aload_n 0, 1) := by decide +kernel
theorem dL_areAccountsSo_185 : decode cL_areAccountsSo 185 = .ok (.invokevirtual 39, 3) := by decide +kernel
theorem dL_areAccountsSo_188 : decode cL_areAccountsSo 188 = .ok (.iload_n 2, 1) := by decide +kernel
theorem dL_areAccountsSo_189 : decode cL_areAccountsSo 189 = .ok (.if_icmp .ne 7, 3) := by decide +kernel
theorem dL_areAccountsSo_192 : decode cL_areAccountsSo 192 = .ok (.iconst 1, 1) := by decide +kernel
theorem dL_areAccountsSo_193 : decode cL_areAccountsSo 193 = .ok (.goto 4, 3) := by decide +kernel
theorem dL_areAccountsSo_196 : decode cL_areAccountsSo 196 = .ok (.iconst 0, 1) := by decide +kernel
theorem dL_areAccountsSo_197 : decode cL_areAccountsSo 197 = .ok (.istore 4, 2) := by decide +kernel
theorem dL_areAccountsSo_199 : decode cL_areAccountsSo 199 = .ok (.iload 4, 2) := by decide +kernel
theorem dL_areAccountsSo_201 : decode cL_areAccountsSo 201 = .ok (.ifCond .eq 53, 3) := by decide +kernel
theorem dL_areAccountsSo_204 : decode cL_areAccountsSo 204 = .ok (.iload_n 3, 1) := by decide +kernel
theorem dL_areAccountsSo_205 : decode cL_areAccountsSo 205 = .ok (.ifCond .ne 15, 3) := by decide +kernel
theorem dL_areAccountsSo_208 : decode cL_areAccountsSo 208 = .ok (.aload_n 0, 1) := by decide +kernel
theorem dL_areAccountsSo_209 : decode cL_areAccountsSo 209 = .ok (.invokevirtual 174, 3) := by decide +kernel
theorem dL_areAccountsSo_212 : decode cL_areAccountsSo 212 = .ok (.dconst 0, 1) := by decide +kernel
theorem dL_areAccountsSo_213 : decode cL_areAccountsSo 213 = .ok (.dcmp .l, 1) := by decide +kernel
theorem dL_areAccountsSo_214 : decode cL_areAccountsSo 214 = .ok (.ifCond .ne 40, 3) := by decide +kernel
theorem dL_areAccountsSo_217 : decode cL_areAccountsSo 217 = .ok (.goto 33, 3) := by decide +kernel
theorem dL_areAccountsSo_220 : decode cL_areAccountsSo 220 = .ok (.aload_n 0, 1) := by decide +kernel
theorem dL_areAccountsSo_221 : decode cL_areAccountsSo 221 = .ok (.invokevirtual 174, 3) := by decide +kernel
theorem dL_areAccountsSo_224 : decode cL_areAccountsSo 224 = .ok (.iload_n 3, 1) := by decide +kernel
theorem dL_areAccountsSo_225 : decode cL_areAccountsSo 225 = .ok (.i2d, 1) := by decide +kernel
theorem dL_areAccountsSo_226 : decode cL_areAccountsSo 226 = .ok (.dmul, 1) := by decide +kernel
theorem dL_areAccountsSo_227 : decode cL_areAccountsSo 227 = .ok (.iload_n 1, 1) := by decide +kernel
theorem dL_areAccountsSo_228 : decode cL_areAccountsSo 228 = .ok (.iconst 1, 1) := by decide +kernel
theorem dL_areAccountsSo_229 : decode cL_areAccountsSo 229 = .ok (.isub, 1) := by decide +kernel
theorem dL_areAccountsSo_230 : decode cL_areAccountsSo 230 = .ok (.i2d, 1) := by decide +kernel
theorem dL_areAccountsSo_231 : decode cL_areAccountsSo 231 = .ok (.dcmp .l, 1) := by decide +kernel
theorem dL_areAccountsSo_232 : decode cL_areAccountsSo 232 = .ok (.ifCond .le 22, 3) := by decide +kernel
theorem dL_areAccountsSo_235 : decode cL_areAccountsSo 235 = .ok (.aload_n 0, 1) := by decide +kernel
theorem dL_areAccountsSo_236 : decode cL_areAccountsSo 236 = .ok (.invokevirtual 174, 3) := by decide +kernel
theorem dL_areAccountsSo_239 : decode cL_areAccountsSo 239 = .ok (.iload_n 3, 1) := by decide +kernel
theorem dL_areAccountsSo_240 : decode cL_areAccountsSo 240 = .ok (.i2d, 1) := by decide +kernel
theorem dL_areAccountsSo_241 : decode cL_areAccountsSo 241 = .ok (.dmul, 1) := by decide +kernel
theorem dL_areAccountsSo_242 : decode cL_areAccountsSo 242 = .ok (.iload_n 1, 1) := by decide +kernel
theorem dL_areAccountsSo_243 : decode cL_areAccountsSo 243 = .ok (.iconst 1, 1) := by decide +kernel
theorem dL_areAccountsSo_244 : decode cL_areAccountsSo 244 = .ok (.iadd, 1) := by decide +kernel
theorem dL_areAccountsSo_245 : decode cL_areAccountsSo 245 = .ok (.i2d, 1) := by decide +kernel
theorem dL_areAccountsSo_246 : decode cL_areAccountsSo 246 = .ok (.dcmp .g, 1) := by decide +kernel
theorem dL_areAccountsSo_247 : decode cL_areAccountsSo 247 = .ok (.ifCond .ge 7, 3) := by decide +kernel
theorem dL_areAccountsSo_250 : decode cL_areAccountsSo 250 = .ok (.iconst 1, 1) := by decide +kernel
theorem dL_areAccountsSo_251 : decode cL_areAccountsSo 251 = .ok (.goto 4, 3) := by decide +kernel
theorem dL_areAccountsSo_254 : decode cL_areAccountsSo 254 = .ok (.iconst 0, 1) := by decide +kernel
theorem dL_areAccountsSo_255 : decode cL_areAccountsSo 255 = .ok (.ireturn, 1) := by decide +kernel
theorem dL_law_0 : decode cL_law 0 = .ok (.new 15, 3) := by decide +kernel
theorem dL_law_3 : decode cL_law 3 = .ok (.dup, 1) := by decide +kernel
theorem dL_law_4 : decode cL_law 4 = .ok (.invokespecial 178, 3) := by decide +kernel
theorem dL_law_7 : decode cL_law 7 = .ok (.astore_n 1, 1) := by decide +kernel
theorem dL_law_8 : decode cL_law 8 = .ok (.iconst 0, 1) := by decide +kernel
theorem dL_law_9 : decode cL_law 9 = .ok (.istore_n 2, 1) := by decide +kernel
theorem dL_law_10 : decode cL_law 10 = .ok (.iload_n 2, 1) := by decide +kernel
theorem dL_law_11 : decode cL_law 11 = .ok (.bipush 50, 2) := by decide +kernel
theorem dL_law_13 : decode cL_law 13 = .ok (.if_icmp .ge 65, 3) := by decide +kernel
theorem dL_law_16 : decode cL_law 16 = .ok (.aload_n 0, 1) := by decide +kernel
theorem dL_law_17 : decode cL_law 17 = .ok (.iload_n 2, 1) := by decide +kernel
theorem dL_law_18 : decode cL_law 18 = .ok (.invokestatic 179, 3) := by decide +kernel
theorem dL_law_21 : decode cL_law 21 = .ok (.istore_n 3, 1) := by decide +kernel
theorem dL_law_22 : decode cL_law 22 = .ok (.aload_n 0, 1) := by decide +kernel
theorem dL_law_23 : decode cL_law 23 = .ok (.iload_n 2, 1) := by decide +kernel
theorem dL_law_24 : decode cL_law 24 = .ok (.bipush 14, 2) := by decide +kernel
theorem dL_law_26 : decode cL_law 26 = .ok (.iadd, 1) := by decide +kernel
theorem dL_law_27 : decode cL_law 27 = .ok (.invokestatic 179, 3) := by decide +kernel
theorem dL_law_30 : decode cL_law 30 = .ok (.istore 4, 2) := by decide +kernel
theorem dL_law_32 : decode cL_law 32 = .ok (.aload_n 1, 1) := by decide +kernel
theorem dL_law_33 : decode cL_law 33 = .ok (.iload_n 3, 1) := by decide +kernel
theorem dL_law_34 : decode cL_law 34 = .ok (.iload 4, 2) := by decide +kernel
theorem dL_law_36 : decode cL_law 36 = .ok (.invokestatic 183, 3) := by decide +kernel
theorem dL_law_39 : decode cL_law 39 = .ok (.ifCond .eq 31, 3) := by decide +kernel
theorem dL_law_42 : decode cL_law 42 = .ok (.aload_n 1, 1) := by decide +kernel
theorem dL_law_43 : decode cL_law 43 = .ok (.iload_n 3, 1) := by decide +kernel
theorem dL_law_44 : decode cL_law 44 = .ok (.iconst 3, 1) := by decide +kernel
theorem dL_law_45 : decode cL_law 45 = .ok (.ishr, 1) := by decide +kernel
theorem dL_law_46 : decode cL_law 46 = .ok (.iconst 3, 1) := by decide +kernel
theorem dL_law_47 : decode cL_law 47 = .ok (.invokestatic 8, 3) := by decide +kernel
theorem dL_law_50 : decode cL_law 50 = .ok (.invokestatic 186, 3) := by decide +kernel
theorem dL_law_53 : decode cL_law 53 = .ok (.ifCond .eq 17, 3) := by decide +kernel
theorem dL_law_56 : decode cL_law 56 = .ok (.aload_n 1, 1) := by decide +kernel
theorem dL_law_57 : decode cL_law 57 = .ok (.invokestatic 189, 3) := by decide +kernel
theorem dL_law_60 : decode cL_law 60 = .ok (.ifCond .eq 10, 3) := by decide +kernel
theorem dL_law_63 : decode cL_law 63 = .ok (.aload_n 1, 1) := by decide +kernel
theorem dL_law_64 : decode cL_law 64 = .ok (.invokestatic 193, 3) := by decide +kernel
theorem dL_law_67 : decode cL_law 67 = .ok (.ifCond .ne 5, 3) := by decide +kernel
theorem dL_law_70 : decode cL_law 70 = .ok (.iconst 0, 1) := by decide +kernel
theorem dL_law_71 : decode cL_law 71 = .ok (.ireturn, 1) := by decide +kernel
theorem dL_law_72 : decode cL_law 72 = .ok (.iinc 2 1, 3) := by decide +kernel
theorem dL_law_75 : decode cL_law 75 = .ok (.goto (-65), 3) := by decide +kernel
theorem dL_law_78 : decode cL_law 78 = .ok (.iconst 1, 1) := by decide +kernel
theorem dL_law_79 : decode cL_law 79 = .ok (.ireturn, 1) := by decide +kernel
end
section
/-! ===== BEGIN a private method of a nest mate that may throw (follows va_callVN, va_callSN, va_runVN, va_runSN) ===== -/
section
variable {p : Program} {l : Launch} {e : Env} {R : Room} {s : State} {m : MethodId} {args : Array Value} {below : List Frame} {meth : Method} {c : Code} {H : Heap} {locs : List Loc} {cells slots : Nat}
variable {T : State}
theorem vx_callSN (X : Stand p l e R s m args below meth c T locs cells slots) (hexec : p.tables.exec = Jvm.exec) {own : String} {index : Nat} {host : String} {y : MethodName} {bytes : ByteArray} {maxL : Nat} {ret : Option FieldType}
    (hown : s.vm.findClass own = some m.cls) (hlink : (Cond.methodLinkNest own index y host).before args s = true) (hstat : (Cond.static y).before args s = true) (hinit : (Cond.initialized y.cls).before args s = true)
    (hcode : (Cond.code y bytes maxL ret).before args s = true) (hy : y.cls ≠ "java/lang/invoke/MethodHandle" ∧ y.cls ≠ "java/lang/invoke/VarHandle")
    {W : Nat} {Pre : Pt → Array Value → Prop} {Post : Pt → Array Value → Option Value → Pt → Prop} {PostX : Pt → Array Value → Addr → Pt → Prop} (hK : vx_Back l R p e below s args y 3 W Pre Post PostX)
    {g : JFrame} (hg : g.method = m) (hsize : g.locals.size = c.maxLocals) {argsL rest : List Value} (hlen : ∀ sig, parseMethodDescriptor y.desc = some sig → argsL.length = sig.parameters.length)
    (hstack : g.stack = argsL.reverse ++ rest) (hW : 2 * g.monitorRoom + (rest.map fun v => v.category).sum ≤ W) (hdg : decode c.code g.pc = .ok (.invokestatic index, 3))
    (hpre : ∀ vm₁, s.WarmedH vm₁ → Pre ⟨T.setVm vm₁, locs, cells, slots⟩ argsL.toArray) :
    (∃ (v : Option Value) (vm₁ : Vm) (B : Pt), s.WarmedH vm₁ ∧ Stand p l e R s m args below meth c B.U B.locs B.cells B.slots ∧ Post ⟨T.setVm vm₁, locs, cells, slots⟩ argsL.toArray v B ∧
      ∀ target, Steps p.tables e below (B.U.setTop { g with pc := g.pc + 3, stack := v.toList ++ rest }) target → Steps p.tables e below (T.setTop g) target) ∨
    (∃ (q : Addr) (vm₁ : Vm) (B : Pt), s.WarmedH vm₁ ∧ Stand p l e R s m args below meth c B.U B.locs B.cells B.slots ∧ PostX ⟨T.setVm vm₁, locs, cells, slots⟩ argsL.toArray q B ∧
      Steps p.tables e below (T.setTop g) ((B.U.setTop { g with stack := rest }).pushFrame (.throwing q))) := by
  obtain ⟨mk, hnamed⟩ := Cond.code_named hcode
  obtain ⟨methM, cM, hmethM, -, -, -, -, -, -, hsigM⟩ := Cond.code_spec hnamed hcode
  have hstatic : methM.isStatic = true := Cond.static_spec hnamed hmethM hstat
  obtain ⟨kP, hkP, -⟩ := className_of_methodNamed hnamed
  have hinitP : kP.init = .initialized := Cond.initialized_spec (findClass_of_methodNamed hnamed) hkP hinit
  obtain ⟨vm₁, X₁, hstep₁⟩ := X.invokestaticNest hexec hown hlink hnamed hmethM hstatic hkP hinitP hy (g := g) hg (argsL := argsL) (rest := rest) (hlen _ hsigM) hstack hdg
  rcases hK m meth c ⟨T.setVm vm₁, locs, cells, slots⟩ { g with stack := rest } (.invokestatic index) mk argsL.toArray X₁ hg hsize hdg hW (X₁.named hnamed) (hpre vm₁ X₁.warmed) with ⟨v, B, X', hpost, hsteps⟩ | ⟨q, B, X', hpost, hsteps⟩
  · exact Or.inl ⟨v, vm₁, B, X₁.warmed, X', hpost, fun target h => hstep₁ _ fun acts => by rw [doInvoke_state]; exact hsteps.trans h⟩
  · exact Or.inr ⟨q, vm₁, B, X₁.warmed, X', hpost, hstep₁ _ fun acts => by rw [doInvoke_state]; exact hsteps⟩
theorem vx_runSN {y : MethodName} {bytes cc : ByteArray} {maxL nL mc ms n index : Nat} {ret : Option FieldType} {ws : List Cond} {rm : Room} {Pc : Array Value → State → Prop} {Qc : Array Value → State → Outcome → State → Prop} {XC : String → State → State → Prop} {free : Addr → Prop} {Ts : List Cond} {own host : String} {As rest : List Value} {g : JFrame}
    (S : CallFix p m c cc nL s args Ts own) (hM : vx_Met l y ws rm Pc Qc XC mc ms free) (cw : va_CN R s args own index y host bytes maxL ret ws rm mc ms n ∧ (Cond.static y).before args s = true ∧ True) (hp : PreS s H Pc As)
    (hg : g.method = m) (hn : As.length = n) (hsize : g.locals.size = nL) (hstack : g.stack = As.reverse ++ rest) (hW : 2 * g.monitorRoom + (rest.map fun v => v.category).sum ≤ 8) (hdg : decode cc g.pc = .ok (.invokestatic index, 3)) (hf : cells + mc ≤ R.cells ∧ slots + ms ≤ R.slots) :
    vx_Run p l e R s m args below meth c H locs cells slots mc ms g rest (Qc As.toArray) XC free := by
  obtain ⟨⟨⟨hrc, hrs, hfr, hlo, hws, hcw⟩, hcode, hini, hy, hlen, hl⟩, hx1, hx2⟩ := cw
  have hK : vx_Back l R p e below s args y 3 8 (PreOf R mc ms Pc) (PostOf Qc mc ms free) (vx_Post XC mc ms free) := vx_back (bytes := bytes) (maxL := maxL) (ret := ret) hM hp.1 hrc hrs hfr hlo hws hcw (fun a' U hW => word_at hW (Or.inl (by first | rfl | simp [Cond.onTables, Cond.keeps, Cond.steady])) hini)
  obtain ⟨hx, hb, hml, ho, -⟩ := S
  have hPc := hp.2
  intro T hT X
  rcases vx_callSN X hx (bytes := bytes) (maxL := maxL) (ret := ret) ho hl hx1 hini hcode hy hK hg (hsize.trans hml.symm) (argsL := As) (rest := rest) (fun sig h => hn.trans (hlen sig h)) hstack hW (by rw [hb]; exact hdg)
    (fun vm₁ hW₁ => ⟨hf.1, hf.2, hPc (T.setVm vm₁) hT hW₁⟩) with ⟨v, vm₁, ⟨U', l2, c2, s2⟩, hW₁, X', ⟨g', mk, t, L, e1, e2, hq, h1, hL, h2, h3⟩, st⟩ | ⟨q, vm₁, ⟨U', l2, c2, s2⟩, hW₁, X', ⟨g', mk, t, L, E, ce, e1, e2, hq, hce, hcv, hcl, h1, hL, h2, h3⟩, st⟩
  · dsimp only [Pt.U, Pt.locs, Pt.cells, Pt.slots] at X' e1 e2 h1 h2 h3 st
    subst h1; subst h2; subst h3
    exact Or.inl ⟨v, (T.setVm vm₁).calling g' mk As.toArray, t, U', L, hT, X', hL, e1, e2, hq, st⟩
  · dsimp only [Pt.U, Pt.locs, Pt.cells, Pt.slots] at X' e1 e2 h1 h2 h3 st hcl
    subst h1; subst h2; subst h3
    exact Or.inr ⟨q, (T.setVm vm₁).calling g' mk As.toArray, t, U', L, E, ce, hT, X', hL, e1, e2, hq, hce, hcv, vx_cls hW₁ hcl, st⟩
end
/-! ===== END ===== -/
end
section
/-! ===== THE WALK, SAID PURELY: places instead of addresses, a world that is a list of cells, Ev: 'from here on the method ends as po, px say' ===== -/
abbrev PW : Type := List va_E
abbrev LV : Type := List (Nat × Value)
abbrev PO : Type := Option Value → PW → Prop
abbrev PX : Type := String → PW → Prop
/-- a method: name, answer, code, locals, room, table, cells (exceptions) at most, script -/
abbrev MT : Type := MethodName × Option FieldType × ByteArray × Nat × Room × List (Nat × Nat × Nat × Nat) × Nat × Option (Nat × (Nat → Int32))
abbrev mY (M : MT) : MethodName := M.1
abbrev mT (M : MT) : Option FieldType := M.2.1
abbrev mC (M : MT) : ByteArray := M.2.2.1
abbrev mN (M : MT) : Nat := M.2.2.2.1
abbrev mR (M : MT) : Room := M.2.2.2.2.1
abbrev mH (M : MT) : List (Nat × Nat × Nat × Nat) := M.2.2.2.2.2.1
abbrev mK (M : MT) : Nat := M.2.2.2.2.2.2.1
abbrev mS (M : MT) : Option (Nat × (Nat → Int32)) := M.2.2.2.2.2.2.2
def em (as : Nat → Nat) : Value → Value
  | .ref k => .ref (as k)
  | .int x => .int x
  | .long x => .long x
  | .float x => .float x
  | .double x => .double x
  | .null => .null
  | .retAddr n => .retAddr n
theorem em_cat (as : Nat → Nat) (v : Value) : (em as v).category = v.category := by cases v <;> rfl
def emA (as : Nat → Nat) : vp_A → vp_A
  | (n, .inr (.inr (.inr (.inr f)))) => (n, .inr (.inr (.inr (.inr (fun k => (f k).map as)))))
  | (n, .inl f) => (n, .inl f)
  | (n, .inr (.inl f)) => (n, .inr (.inl f))
  | (n, .inr (.inr (.inl f))) => (n, .inr (.inr (.inl f)))
  | (n, .inr (.inr (.inr (.inl f)))) => (n, .inr (.inr (.inr (.inl f))))
def emE (as dA : Nat → Nat) : va_E → va_E
  | .inl (t, a) => .inl (dA t, emA as a)
  | .inr (c, fs) => .inr (c, fs.map (em as))
/-- a hole: a place of the world that holds nothing -/
def isH : va_E → Bool
  | .inr (c, _) => Nat.beq c 999
  | .inl _ => false
def emF (as dA : Nat → Nat) : Nat → PW → va_W
  | _, [] => []
  | n, e :: w => match isH e with
    | true => emF as dA (n + 1) w
    | false => (as n, emE as dA e) :: emF as dA (n + 1) w
def emW (as dA : Nat → Nat) (w : PW) : va_W := emF as dA 0 w
theorem emF_f (as dA : Nat → Nat) (n : Nat) {e : va_E} (w : PW) (h : isH e = false) : emF as dA n (e :: w) = (as n, emE as dA e) :: emF as dA (n + 1) w := by
  rw [emF, h]
theorem emF_t (as dA : Nat → Nat) (n : Nat) {e : va_E} (w : PW) (h : isH e = true) : emF as dA n (e :: w) = emF as dA (n + 1) w := by
  rw [emF, h]
theorem emF_at (as dA : Nat → Nat) {e : va_E} (he : isH e = false) : ∀ (w : PW) (n k : Nat), w[k]? = some e → ∃ j, (emF as dA n w)[j]? = some (as (n + k), emE as dA e) ∧ ∀ e', isH e' = false → (emF as dA n w).set j (as (n + k), emE as dA e') = emF as dA n (w.set k e')
  | [], n, k, h => by simp at h
  | a :: w, n, 0, h => by
    have ha : a = e := by simpa using h
    subst ha
    refine ⟨0, by rw [emF_f as dA n w he]; rfl, fun e' he' => ?_⟩
    rw [emF_f as dA n w he, List.set_cons_zero, List.set_cons_zero, emF_f as dA n w he']
    rfl
  | a :: w, n, k + 1, h => by
    obtain ⟨j, h1, h2⟩ := emF_at as dA he w (n + 1) k (by simpa using h)
    have e1 : n + 1 + k = n + (k + 1) := by omega
    rw [e1] at h1 h2
    cases ha : isH a with
    | false =>
      refine ⟨j + 1, by rw [emF_f as dA n w ha, List.getElem?_cons_succ]; exact h1, fun e' he' => ?_⟩
      rw [emF_f as dA n w ha, List.set_cons_succ, List.set_cons_succ, emF_f as dA n _ ha, h2 e' he']
    | true =>
      refine ⟨j, by rw [emF_t as dA n w ha]; exact h1, fun e' he' => ?_⟩
      rw [emF_t as dA n w ha, List.set_cons_succ, emF_t as dA n _ ha, h2 e' he']
theorem emW_at (as dA : Nat → Nat) {w : PW} {k : Nat} {e : va_E} (h : w[k]? = some e) (he : isH e = false) : ∃ j, (emW as dA w)[j]? = some (as k, emE as dA e) ∧ ∀ e', isH e' = false → (emW as dA w).set j (as k, emE as dA e') = emW as dA (w.set k e') := by
  obtain ⟨j, h1, h2⟩ := emF_at as dA he w 0 k h
  rw [Nat.zero_add] at h1 h2
  exact ⟨j, h1, h2⟩
/-- the index in the heap's list of a place -/
def nH : PW → Nat → Nat
  | [], k => k
  | _ :: _, 0 => 0
  | a :: w, k + 1 => match isH a with
    | true => nH w k
    | false => nH w k + 1
/-- what lies in the heap's list, by its place -/
theorem emF_inv (as dA : Nat → Nat) : ∀ (w : PW) (n j : Nat) (x : Nat × va_E), (emF as dA n w)[j]? = some x → ∃ k e, w[k]? = some e ∧ isH e = false ∧ x = (as (n + k), emE as dA e) ∧ j = nH w k
  | [], n, j, x, h => by simp [emF] at h
  | a :: w, n, j, x, h => by
    cases ha : isH a with
    | false =>
      rw [emF_f as dA n w ha] at h
      match j, h with
      | 0, h => exact ⟨0, a, rfl, ha, by simpa using h.symm, by rw [nH]⟩
      | j + 1, h =>
        obtain ⟨k, e, h1, h2, h3, h4⟩ := emF_inv as dA w (n + 1) j x (by simpa using h)
        exact ⟨k + 1, e, by simpa using h1, h2, by rw [h3, show n + 1 + k = n + (k + 1) by omega], by rw [nH, ha, h4]⟩
    | true =>
      rw [emF_t as dA n w ha] at h
      obtain ⟨k, e, h1, h2, h3, h4⟩ := emF_inv as dA w (n + 1) j x h
      exact ⟨k + 1, e, by simpa using h1, h2, by rw [h3, show n + 1 + k = n + (k + 1) by omega], by rw [nH, ha, h4]⟩
theorem emW_inv {as dA : Nat → Nat} {w : PW} {j : Nat} {x : Nat × va_E} (h : (emW as dA w)[j]? = some x) : ∃ k e, w[k]? = some e ∧ isH e = false ∧ x = (as k, emE as dA e) ∧ j = nH w k := by
  obtain ⟨k, e, h1, h2, h3, h4⟩ := emF_inv as dA w 0 j x h
  exact ⟨k, e, h1, h2, by rw [h3, Nat.zero_add], h4⟩
def emL (as : Nat → Nat) (L : LV) : LV := L.map (fun q => (q.1, em as q.2))
/-- the locals behind a store -/
def ls1 (L : LV) (i : Nat) (v : Value) : LV := (i, v) :: L.filter (fun q => !(q.1 == i) && !(q.1 + 1 == i && q.2.category == 2))
def ls2 (L : LV) (i : Nat) (v : Value) : LV := (i, v) :: L.filter (fun q => !(q.1 == i) && (!(q.1 == i + 1) && !(q.1 + 1 == i && q.2.category == 2)))
theorem emL_ls1 (as : Nat → Nat) (L : LV) (i : Nat) (v : Value) : emL as (ls1 L i v) = (i, em as v) :: (emL as L).filter (fun q => !(q.1 == i) && !(q.1 + 1 == i && q.2.category == 2)) := by
  simp only [emL, ls1, List.map_cons, List.filter_map]
  congr 2
  apply List.filter_congr
  intro q _
  simp [em_cat]
theorem emL_ls2 (as : Nat → Nat) (L : LV) (i : Nat) (v : Value) : emL as (ls2 L i v) = (i, em as v) :: (emL as L).filter (fun q => !(q.1 == i) && (!(q.1 == i + 1) && !(q.1 + 1 == i && q.2.category == 2))) := by
  simp only [emL, ls2, List.map_cons, List.filter_map]
  congr 2
  apply List.filter_congr
  intro q _
  simp [em_cat]
theorem lk_mem {L : LV} {i : Nat} {v : Value} (h : L.lookup i = some v) : (i, v) ∈ L := by
  induction L with
  | nil => simp [List.lookup] at h
  | cons q L ih =>
    obtain ⟨j, x⟩ := q
    simp only [List.lookup] at h
    split at h
    · next hb =>
      have : i = j := by simpa using hb
      subst this
      cases h
      exact List.mem_cons_self
    · exact List.mem_cons_of_mem _ (ih h)
theorem lk_at {as : Nat → Nat} {ls : Array Slot} {n : Nat} {L : LV} (h : lv_has ls n (emL as L)) {i : Nat} {v : Value} (hk : L.lookup i = some v) : ls[i]? = some (.val (em as v)) :=
  h.2.2 (i, em as v) (List.mem_map.mpr ⟨(i, v), lk_mem hk, rfl⟩)
def vwC8 : List vw_C := [(RX0, TX0, 19), (RX1, TX1, 8), (RX2, TX2, 8), (RX3, TX3, 9)]
theorem isH_of {ci : Nat} {fs : List Value} {q : vw_C} (h : vwC8[ci]? = some q) : isH (.inr (ci, fs)) = false := by
  have h4 : ci < 4 := (List.getElem?_eq_some_iff.mp h).1
  show Nat.beq ci 999 = false
  cases hb : Nat.beq ci 999 with
  | false => rfl
  | true => have := Nat.eq_of_beq_eq_true hb; omega
def tyT (dA : Nat → ClassId) : List (ClassId × FieldType) := [(dA 0, .int), (dA 1, .boolean), (dA 2, .int), (dA 3, .object RX0)]
/-- what holds of a start beside its words: nest mates -/
def GX (as : Nat → Nat) (A : Nat → Prop) (U : State) (H : Heap) : Prop :=
  (va_Nw (.methodLinkNest RX0 83 yX3_at "PledgeHouse") U ∧ va_Nw (.methodLinkNest RX0 91 yX3_fallen "PledgeHouse") U ∧ va_Nw (.methodLinkNest RX2 63 yX3_at "PledgeHouse") U ∧ va_Nw (.methodLinkNest RX3 18 yX2_init "PledgeHouse") U ∧ va_Nw (.methodLinkNest RX3 9 yX1_init "PledgeHouse") U) ∧ (as 0 = as 0 ∧ (A 0 ↔ A 0) ∧ H.size = H.size)
theorem GX.warm {as : Nat → Nat} {A : Nat → Prop} {s U : State} {H : Heap} (hW : s.WarmedH U.vm) (h : GX as A s H) : GX as A U H := by
  obtain ⟨⟨a1, a2, a3, a4, a5⟩, b⟩ := h
  exact ⟨⟨va_Nw.warmM hW a1, va_Nw.warmM hW a2, va_Nw.warmM hW a3, va_Nw.warmM hW a4, va_Nw.warmM hW a5⟩, rfl, Iff.rfl, rfl⟩
theorem GX.kept {as : Nat → Nat} {A : Nat → Prop} {U : State} {H H1 : Heap} (h : GX as A U H) (hq : ∀ a : Nat, a < H.size → ¬ A a → H1[a]? = H[a]?) : GX as A U H1 := ⟨h.1, rfl, Iff.rfl, rfl⟩
theorem GX.narrow {as : Nat → Nat} {A B : Nat → Prop} {U : State} {H : Heap} (h : GX as A U H) (hAB : ∀ q, B q → A q) : GX as B U H := ⟨h.1, rfl, Iff.rfl, rfl⟩
def scO (o : Option (Nat × (Nat → Int32))) (as : Nat → Nat) (A : Nat → Prop) (s : State) : Prop := match o with
  | none => True
  | some (n, xs) => va_X (as 999) n xs s s.heap ∧ as 999 < s.heap.size ∧ ¬ A (as 999)
/-- what stays as it is while a method runs -/
def Sx (M : MT) (p : Program) (l : Launch) (s : State) (m : MethodId) (args : Array Value) (meth : Method) (c : Code) (dC : Nat → ClassId) (dI : Nat → Nat → Nat) (dA : Nat → ClassId) (as : Nat → Nat) (A : Nat → Prop) : Prop :=
  p.tables.exec = Jvm.exec ∧ c.code = mC M ∧ c.maxLocals = mN M ∧ s.vm.findClass (mY M).cls = some m.cls ∧ (∀ w ∈ Gw, w.before args s = true) ∧ l.stackTraces = false ∧ meth.locks = false ∧ c.exceptionTable.toList = tableOf (mH M) ∧ va_K (dC, dI) vwC8 (tyT dA) s ∧ (∀ q, s.heap.size ≤ q → A q) ∧ GX as A s s.heap ∧ scO (mS M) as A s
/-- what holds at a point: the world, the frame -/
def Dy (M : MT) (s : State) (dC : Nat → ClassId) (dI : Nat → Nat → Nat) (dA : Nat → ClassId) (as : Nat → Nat) (A : Nat → Prop) (H : Heap) (locs : List Loc) (w : PW) : Prop :=
  va_P (dC, dI) vwC8 (emW as dA w) H ∧ va_D A (emW as dA w) ∧ va_S A s.heap H locs
def rtI : Option Value → Instr
  | some (.int _) => .ireturn
  | some (.long _) => .lreturn
  | some (.float _) => .freturn
  | some (.double _) => .dreturn
  | none => .return_
  | _ => .areturn
def En (M : MT) (po : PO) (px : PX) (p : Program) (l : Launch) (e : Env) (s : State) (m : MethodId) (args : Array Value) (below : List Frame) (meth : Method) (c : Code) (dC : Nat → ClassId) (dI : Nat → Nat → Nat) (dA : Nat → ClassId) (as : Nat → Nat) (A : Nat → Prop) (Q : State → Prop) : Prop :=
  (∀ (H : Heap) (locs : List Loc) (ls : Array Slot) (pc : Nat) (v : Option Value) (w : PW), po v w → Dy M s dC dI dA as A H locs w → ls.size = mN M → decode (mC M) pc = .ok (rtI v, 1) → W p l e (mR M) s m args below meth c H locs (mK M) (6 * mK M) Q (F0 m pc ls ((v.map (em as)).toList))) ∧
  (∀ (H : Heap) (locs : List Loc) (ls : Array Slot) (pc : Nat) (st : List Value) (E : String) (ce : Cell) (q : Addr) (w : PW), px E w → Dy M s dC dI dA as A H locs w → (∀ x ∈ tableOf (mH M), covers x pc = false) → H[q]? = some ce → ce.vm = .none → s.vm.findClass E = some ce.cls → vx_W p l e (mR M) s m args below meth c H locs (mK M) (6 * mK M) Q (F0 m pc ls st) q)
/-- FROM HERE the method ends: po says how it returns, px how it throws -/
def Ev (M : MT) (po : PO) (px : PX) (k : Nat) (pc : Nat) (L : LV) (st : List Value) (w : PW) : Prop :=
  ∀ (p : Program) (l : Launch) (e : Env) (s : State) (m : MethodId) (args : Array Value) (below : List Frame) (meth : Method) (c : Code) (dC : Nat → ClassId) (dI : Nat → Nat → Nat) (dA : Nat → ClassId) (as : Nat → Nat) (A : Nat → Prop) (Q : State → Prop) (H : Heap) (locs : List Loc) (ls : Array Slot),
    Sx M p l s m args meth c dC dI dA as A → En M po px p l e s m args below meth c dC dI dA as A Q → Dy M s dC dI dA as A H locs w → lv_has ls (mN M) (emL as L) →
    W p l e (mR M) s m args below meth c H locs k (6 * k) Q (F0 m pc ls (st.map (em as)))
section EV
variable {M : MT} {po : PO} {px : PX} {k pc : Nat} {L : LV} {st : List Value} {w : PW}
theorem ev_iconst {n : Int} (v : Int32) (d : decode (mC M) pc = .ok (.iconst n, 1)) (hv : Int32.ofInt n = v) (kk : Ev M po px k (pc + 1) L (.int v :: st) w) : Ev M po px k pc L (st) w := by
  intro p l e s m args below meth c dC dI dA as A Q H locs ls hX hE hD hl
  obtain ⟨hx, hb, hml, hown, hts, hst, hlk, htb, hK, hA, hG, hsc⟩ := id hX
  obtain ⟨hP, hDD, hS⟩ := id hD
  exact lv_iconst hx hb d hv (kk _ _ _ _ _ _ _ _ _ _ _ _ _ _ _ _ _ _ hX hE hD hl)
theorem ev_bipush {n : Int} (v : Int32) (d : decode (mC M) pc = .ok (.bipush n, 2)) (hv : (Int8.ofInt n).toInt32 = v) (kk : Ev M po px k (pc + 2) L (.int v :: st) w) : Ev M po px k pc L (st) w := by
  intro p l e s m args below meth c dC dI dA as A Q H locs ls hX hE hD hl
  obtain ⟨hx, hb, hml, hown, hts, hst, hlk, htb, hK, hA, hG, hsc⟩ := id hX
  obtain ⟨hP, hDD, hS⟩ := id hD
  exact lv_bipush hx hb d hv (kk _ _ _ _ _ _ _ _ _ _ _ _ _ _ _ _ _ _ hX hE hD hl)
theorem ev_sipush {n : Int} (v : Int32) (d : decode (mC M) pc = .ok (.sipush n, 3)) (hv : (Int16.ofInt n).toInt32 = v) (kk : Ev M po px k (pc + 3) L (.int v :: st) w) : Ev M po px k pc L (st) w := by
  intro p l e s m args below meth c dC dI dA as A Q H locs ls hX hE hD hl
  obtain ⟨hx, hb, hml, hown, hts, hst, hlk, htb, hK, hA, hG, hsc⟩ := id hX
  obtain ⟨hP, hDD, hS⟩ := id hD
  exact lv_sipush hx hb d hv (kk _ _ _ _ _ _ _ _ _ _ _ _ _ _ _ _ _ _ hX hE hD hl)
theorem ev_lconst {n : Fin 2} (v : Int64) (d : decode (mC M) pc = .ok (.lconst n, 1)) (hv : Int64.ofNat (n : Nat) = v) (kk : Ev M po px k (pc + 1) L (.long v :: st) w) : Ev M po px k pc L (st) w := by
  intro p l e s m args below meth c dC dI dA as A Q H locs ls hX hE hD hl
  obtain ⟨hx, hb, hml, hown, hts, hst, hlk, htb, hK, hA, hG, hsc⟩ := id hX
  obtain ⟨hP, hDD, hS⟩ := id hD
  exact lv_lconst hx hb d hv (kk _ _ _ _ _ _ _ _ _ _ _ _ _ _ _ _ _ _ hX hE hD hl)
theorem ev_dconst0  (d : decode (mC M) pc = .ok (.dconst 0, 1))  (kk : Ev M po px k (pc + 1) L (.double FP.dconst0 :: st) w) : Ev M po px k pc L (st) w := by
  intro p l e s m args below meth c dC dI dA as A Q H locs ls hX hE hD hl
  obtain ⟨hx, hb, hml, hown, hts, hst, hlk, htb, hK, hA, hG, hsc⟩ := id hX
  obtain ⟨hP, hDD, hS⟩ := id hD
  exact lv_dconst0 hx hb d  (kk _ _ _ _ _ _ _ _ _ _ _ _ _ _ _ _ _ _ hX hE hD hl)
theorem ev_dconst1  (d : decode (mC M) pc = .ok (.dconst 1, 1))  (kk : Ev M po px k (pc + 1) L (.double FP.dconst1 :: st) w) : Ev M po px k pc L (st) w := by
  intro p l e s m args below meth c dC dI dA as A Q H locs ls hX hE hD hl
  obtain ⟨hx, hb, hml, hown, hts, hst, hlk, htb, hK, hA, hG, hsc⟩ := id hX
  obtain ⟨hP, hDD, hS⟩ := id hD
  exact lv_dconst1 hx hb d  (kk _ _ _ _ _ _ _ _ _ _ _ _ _ _ _ _ _ _ hX hE hD hl)
theorem ev_iload_n {q : Fin 4} (i : Nat) {x : Int32} (d : decode (mC M) pc = .ok (.iload_n q, 1)) (hi : (q : Nat) = i) (h : L.lookup i = some (.int x)) (kk : Ev M po px k (pc + 1) L (.int x :: st) w) : Ev M po px k pc L (st) w := by
  intro p l e s m args below meth c dC dI dA as A Q H locs ls hX hE hD hl
  obtain ⟨hx, hb, hml, hown, hts, hst, hlk, htb, hK, hA, hG, hsc⟩ := id hX
  obtain ⟨hP, hDD, hS⟩ := id hD
  exact lv_iload_n hx hb d hi (lk_at hl h) (kk _ _ _ _ _ _ _ _ _ _ _ _ _ _ _ _ _ _ hX hE hD hl)
theorem ev_iload {i : Nat} {x : Int32} (d : decode (mC M) pc = .ok (.iload i, 2)) (h : L.lookup i = some (.int x)) (kk : Ev M po px k (pc + 2) L (.int x :: st) w) : Ev M po px k pc L (st) w := by
  intro p l e s m args below meth c dC dI dA as A Q H locs ls hX hE hD hl
  obtain ⟨hx, hb, hml, hown, hts, hst, hlk, htb, hK, hA, hG, hsc⟩ := id hX
  obtain ⟨hP, hDD, hS⟩ := id hD
  exact lv_iload hx hb d (lk_at hl h) (kk _ _ _ _ _ _ _ _ _ _ _ _ _ _ _ _ _ _ hX hE hD hl)
theorem ev_lload_n {q : Fin 4} (i : Nat) {x : Int64} (d : decode (mC M) pc = .ok (.lload_n q, 1)) (hi : (q : Nat) = i) (h : L.lookup i = some (.long x)) (kk : Ev M po px k (pc + 1) L (.long x :: st) w) : Ev M po px k pc L (st) w := by
  intro p l e s m args below meth c dC dI dA as A Q H locs ls hX hE hD hl
  obtain ⟨hx, hb, hml, hown, hts, hst, hlk, htb, hK, hA, hG, hsc⟩ := id hX
  obtain ⟨hP, hDD, hS⟩ := id hD
  exact lv_lload_n hx hb d hi (lk_at hl h) (kk _ _ _ _ _ _ _ _ _ _ _ _ _ _ _ _ _ _ hX hE hD hl)
theorem ev_lload {i : Nat} {x : Int64} (d : decode (mC M) pc = .ok (.lload i, 2)) (h : L.lookup i = some (.long x)) (kk : Ev M po px k (pc + 2) L (.long x :: st) w) : Ev M po px k pc L (st) w := by
  intro p l e s m args below meth c dC dI dA as A Q H locs ls hX hE hD hl
  obtain ⟨hx, hb, hml, hown, hts, hst, hlk, htb, hK, hA, hG, hsc⟩ := id hX
  obtain ⟨hP, hDD, hS⟩ := id hD
  exact lv_lload hx hb d (lk_at hl h) (kk _ _ _ _ _ _ _ _ _ _ _ _ _ _ _ _ _ _ hX hE hD hl)
theorem ev_dload_n {q : Fin 4} (i : Nat) {x : UInt64} (d : decode (mC M) pc = .ok (.dload_n q, 1)) (hi : (q : Nat) = i) (h : L.lookup i = some (.double x)) (kk : Ev M po px k (pc + 1) L (.double x :: st) w) : Ev M po px k pc L (st) w := by
  intro p l e s m args below meth c dC dI dA as A Q H locs ls hX hE hD hl
  obtain ⟨hx, hb, hml, hown, hts, hst, hlk, htb, hK, hA, hG, hsc⟩ := id hX
  obtain ⟨hP, hDD, hS⟩ := id hD
  exact lv_dload_n hx hb d hi (lk_at hl h) (kk _ _ _ _ _ _ _ _ _ _ _ _ _ _ _ _ _ _ hX hE hD hl)
theorem ev_dload {i : Nat} {x : UInt64} (d : decode (mC M) pc = .ok (.dload i, 2)) (h : L.lookup i = some (.double x)) (kk : Ev M po px k (pc + 2) L (.double x :: st) w) : Ev M po px k pc L (st) w := by
  intro p l e s m args below meth c dC dI dA as A Q H locs ls hX hE hD hl
  obtain ⟨hx, hb, hml, hown, hts, hst, hlk, htb, hK, hA, hG, hsc⟩ := id hX
  obtain ⟨hP, hDD, hS⟩ := id hD
  exact lv_dload hx hb d (lk_at hl h) (kk _ _ _ _ _ _ _ _ _ _ _ _ _ _ _ _ _ _ hX hE hD hl)
theorem ev_aload_n {q : Fin 4} (i : Nat) {x : Nat} (d : decode (mC M) pc = .ok (.aload_n q, 1)) (hi : (q : Nat) = i) (h : L.lookup i = some (.ref x)) (kk : Ev M po px k (pc + 1) L (.ref x :: st) w) : Ev M po px k pc L (st) w := by
  intro p l e s m args below meth c dC dI dA as A Q H locs ls hX hE hD hl
  obtain ⟨hx, hb, hml, hown, hts, hst, hlk, htb, hK, hA, hG, hsc⟩ := id hX
  obtain ⟨hP, hDD, hS⟩ := id hD
  exact lv_aload_n hx hb d hi (lk_at hl h) (kk _ _ _ _ _ _ _ _ _ _ _ _ _ _ _ _ _ _ hX hE hD hl)
theorem ev_aload {i : Nat} {x : Nat} (d : decode (mC M) pc = .ok (.aload i, 2)) (h : L.lookup i = some (.ref x)) (kk : Ev M po px k (pc + 2) L (.ref x :: st) w) : Ev M po px k pc L (st) w := by
  intro p l e s m args below meth c dC dI dA as A Q H locs ls hX hE hD hl
  obtain ⟨hx, hb, hml, hown, hts, hst, hlk, htb, hK, hA, hG, hsc⟩ := id hX
  obtain ⟨hP, hDD, hS⟩ := id hD
  exact lv_aload hx hb d (lk_at hl h) (kk _ _ _ _ _ _ _ _ _ _ _ _ _ _ _ _ _ _ hX hE hD hl)
theorem ev_istore_n {q : Fin 4} (i : Nat) {x : Int32} {L' : LV} (d : decode (mC M) pc = .ok (.istore_n q, 1)) (hi : (q : Nat) = i) (hn : i < mN M) (hL : ls1 L i (.int x) = L') (kk : Ev M po px k (pc + 1) L' st w) : Ev M po px k pc L (.int x :: st) w := by
  intro p l e s m args below meth c dC dI dA as A Q H locs ls hX hE hD hl
  obtain ⟨hx, hb, hml, hown, hts, hst, hlk, htb, hK, hA, hG, hsc⟩ := id hX
  obtain ⟨hP, hDD, hS⟩ := id hD
  subst hL
  exact lv_istore_n hx hb d hi hl hn (emL_ls1 as L i (.int x)).symm (fun ls hl => (kk _ _ _ _ _ _ _ _ _ _ _ _ _ _ _ _ _ _ hX hE hD hl))
theorem ev_istore {i : Nat} {x : Int32} {L' : LV} (d : decode (mC M) pc = .ok (.istore i, 2)) (hn : i < mN M) (hL : ls1 L i (.int x) = L') (kk : Ev M po px k (pc + 2) L' st w) : Ev M po px k pc L (.int x :: st) w := by
  intro p l e s m args below meth c dC dI dA as A Q H locs ls hX hE hD hl
  obtain ⟨hx, hb, hml, hown, hts, hst, hlk, htb, hK, hA, hG, hsc⟩ := id hX
  obtain ⟨hP, hDD, hS⟩ := id hD
  subst hL
  exact lv_istore hx hb d hl hn (emL_ls1 as L i (.int x)).symm (fun ls hl => (kk _ _ _ _ _ _ _ _ _ _ _ _ _ _ _ _ _ _ hX hE hD hl))
theorem ev_astore_n {q : Fin 4} (i : Nat) {x : Nat} {L' : LV} (d : decode (mC M) pc = .ok (.astore_n q, 1)) (hi : (q : Nat) = i) (hn : i < mN M) (hL : ls1 L i (.ref x) = L') (kk : Ev M po px k (pc + 1) L' st w) : Ev M po px k pc L (.ref x :: st) w := by
  intro p l e s m args below meth c dC dI dA as A Q H locs ls hX hE hD hl
  obtain ⟨hx, hb, hml, hown, hts, hst, hlk, htb, hK, hA, hG, hsc⟩ := id hX
  obtain ⟨hP, hDD, hS⟩ := id hD
  subst hL
  exact lv_astore_n hx hb d hi hl hn (emL_ls1 as L i (.ref x)).symm (fun ls hl => (kk _ _ _ _ _ _ _ _ _ _ _ _ _ _ _ _ _ _ hX hE hD hl))
theorem ev_astore {i : Nat} {x : Nat} {L' : LV} (d : decode (mC M) pc = .ok (.astore i, 2)) (hn : i < mN M) (hL : ls1 L i (.ref x) = L') (kk : Ev M po px k (pc + 2) L' st w) : Ev M po px k pc L (.ref x :: st) w := by
  intro p l e s m args below meth c dC dI dA as A Q H locs ls hX hE hD hl
  obtain ⟨hx, hb, hml, hown, hts, hst, hlk, htb, hK, hA, hG, hsc⟩ := id hX
  obtain ⟨hP, hDD, hS⟩ := id hD
  subst hL
  exact lv_astore hx hb d hl hn (emL_ls1 as L i (.ref x)).symm (fun ls hl => (kk _ _ _ _ _ _ _ _ _ _ _ _ _ _ _ _ _ _ hX hE hD hl))
theorem ev_lstore_n {q : Fin 4} (i : Nat) {x : Int64} {L' : LV} (d : decode (mC M) pc = .ok (.lstore_n q, 1)) (hi : (q : Nat) = i) (hn : i + 1 < mN M) (hL : ls2 L i (.long x) = L') (kk : Ev M po px k (pc + 1) L' st w) : Ev M po px k pc L (.long x :: st) w := by
  intro p l e s m args below meth c dC dI dA as A Q H locs ls hX hE hD hl
  obtain ⟨hx, hb, hml, hown, hts, hst, hlk, htb, hK, hA, hG, hsc⟩ := id hX
  obtain ⟨hP, hDD, hS⟩ := id hD
  subst hL
  exact lv_lstore_n hx hb d hi hl hn (emL_ls2 as L i (.long x)).symm (fun ls hl => (kk _ _ _ _ _ _ _ _ _ _ _ _ _ _ _ _ _ _ hX hE hD hl))
theorem ev_lstore {i : Nat} {x : Int64} {L' : LV} (d : decode (mC M) pc = .ok (.lstore i, 2)) (hn : i + 1 < mN M) (hL : ls2 L i (.long x) = L') (kk : Ev M po px k (pc + 2) L' st w) : Ev M po px k pc L (.long x :: st) w := by
  intro p l e s m args below meth c dC dI dA as A Q H locs ls hX hE hD hl
  obtain ⟨hx, hb, hml, hown, hts, hst, hlk, htb, hK, hA, hG, hsc⟩ := id hX
  obtain ⟨hP, hDD, hS⟩ := id hD
  subst hL
  exact lv_lstore hx hb d hl hn (emL_ls2 as L i (.long x)).symm (fun ls hl => (kk _ _ _ _ _ _ _ _ _ _ _ _ _ _ _ _ _ _ hX hE hD hl))
theorem ev_dstore_n {q : Fin 4} (i : Nat) {x : UInt64} {L' : LV} (d : decode (mC M) pc = .ok (.dstore_n q, 1)) (hi : (q : Nat) = i) (hn : i + 1 < mN M) (hL : ls2 L i (.double x) = L') (kk : Ev M po px k (pc + 1) L' st w) : Ev M po px k pc L (.double x :: st) w := by
  intro p l e s m args below meth c dC dI dA as A Q H locs ls hX hE hD hl
  obtain ⟨hx, hb, hml, hown, hts, hst, hlk, htb, hK, hA, hG, hsc⟩ := id hX
  obtain ⟨hP, hDD, hS⟩ := id hD
  subst hL
  exact lv_dstore_n hx hb d hi hl hn (emL_ls2 as L i (.double x)).symm (fun ls hl => (kk _ _ _ _ _ _ _ _ _ _ _ _ _ _ _ _ _ _ hX hE hD hl))
theorem ev_dstore {i : Nat} {x : UInt64} {L' : LV} (d : decode (mC M) pc = .ok (.dstore i, 2)) (hn : i + 1 < mN M) (hL : ls2 L i (.double x) = L') (kk : Ev M po px k (pc + 2) L' st w) : Ev M po px k pc L (.double x :: st) w := by
  intro p l e s m args below meth c dC dI dA as A Q H locs ls hX hE hD hl
  obtain ⟨hx, hb, hml, hown, hts, hst, hlk, htb, hK, hA, hG, hsc⟩ := id hX
  obtain ⟨hP, hDD, hS⟩ := id hD
  subst hL
  exact lv_dstore hx hb d hl hn (emL_ls2 as L i (.double x)).symm (fun ls hl => (kk _ _ _ _ _ _ _ _ _ _ _ _ _ _ _ _ _ _ hX hE hD hl))
theorem ev_iinc {i : Nat} {n : Int} {x : Int32} (v : Int32) {L' : LV} (d : decode (mC M) pc = .ok (.iinc i n, 3)) (h : L.lookup i = some (.int x)) (hv : x + Int32.ofInt n = v) (hn : i < mN M) (hL : ls1 L i (.int v) = L') (kk : Ev M po px k (pc + 3) L' st w) : Ev M po px k pc L st w := by
  intro p l e s m args below meth c dC dI dA as A Q H locs ls hX hE hD hl
  obtain ⟨hx, hb, hml, hown, hts, hst, hlk, htb, hK, hA, hG, hsc⟩ := id hX
  obtain ⟨hP, hDD, hS⟩ := id hD
  subst hL
  obtain ⟨j, hj⟩ := List.getElem?_of_mem (List.mem_map.mpr ⟨(i, Value.int x), lk_mem h, rfl⟩ : (i, Value.int x) ∈ emL as L)
  exact lv_iinc hx hb d hl hj hv hn (emL_ls1 as L i (.int v)).symm (fun ls hl => (kk _ _ _ _ _ _ _ _ _ _ _ _ _ _ _ _ _ _ hX hE hD hl))
theorem ev_iadd {x y : Int32} (d : decode (mC M) pc = .ok (.iadd, 1))  (kk : Ev M po px k (pc + 1) L (.int (x + y) :: st) w) : Ev M po px k pc L (.int y :: .int x :: st) w := by
  intro p l e s m args below meth c dC dI dA as A Q H locs ls hX hE hD hl
  obtain ⟨hx, hb, hml, hown, hts, hst, hlk, htb, hK, hA, hG, hsc⟩ := id hX
  obtain ⟨hP, hDD, hS⟩ := id hD
  exact lv_iadd hx hb d  (kk _ _ _ _ _ _ _ _ _ _ _ _ _ _ _ _ _ _ hX hE hD hl)
theorem ev_isub {x y : Int32} (d : decode (mC M) pc = .ok (.isub, 1))  (kk : Ev M po px k (pc + 1) L (.int (x - y) :: st) w) : Ev M po px k pc L (.int y :: .int x :: st) w := by
  intro p l e s m args below meth c dC dI dA as A Q H locs ls hX hE hD hl
  obtain ⟨hx, hb, hml, hown, hts, hst, hlk, htb, hK, hA, hG, hsc⟩ := id hX
  obtain ⟨hP, hDD, hS⟩ := id hD
  exact lv_isub hx hb d  (kk _ _ _ _ _ _ _ _ _ _ _ _ _ _ _ _ _ _ hX hE hD hl)
theorem ev_imul {x y : Int32} (d : decode (mC M) pc = .ok (.imul, 1))  (kk : Ev M po px k (pc + 1) L (.int (x * y) :: st) w) : Ev M po px k pc L (.int y :: .int x :: st) w := by
  intro p l e s m args below meth c dC dI dA as A Q H locs ls hX hE hD hl
  obtain ⟨hx, hb, hml, hown, hts, hst, hlk, htb, hK, hA, hG, hsc⟩ := id hX
  obtain ⟨hP, hDD, hS⟩ := id hD
  exact lv_imul hx hb d  (kk _ _ _ _ _ _ _ _ _ _ _ _ _ _ _ _ _ _ hX hE hD hl)
theorem ev_iand {x y : Int32} (d : decode (mC M) pc = .ok (.iand, 1))  (kk : Ev M po px k (pc + 1) L (.int (x &&& y) :: st) w) : Ev M po px k pc L (.int y :: .int x :: st) w := by
  intro p l e s m args below meth c dC dI dA as A Q H locs ls hX hE hD hl
  obtain ⟨hx, hb, hml, hown, hts, hst, hlk, htb, hK, hA, hG, hsc⟩ := id hX
  obtain ⟨hP, hDD, hS⟩ := id hD
  exact lv_iand hx hb d  (kk _ _ _ _ _ _ _ _ _ _ _ _ _ _ _ _ _ _ hX hE hD hl)
theorem ev_ior {x y : Int32} (d : decode (mC M) pc = .ok (.ior, 1))  (kk : Ev M po px k (pc + 1) L (.int (x ||| y) :: st) w) : Ev M po px k pc L (.int y :: .int x :: st) w := by
  intro p l e s m args below meth c dC dI dA as A Q H locs ls hX hE hD hl
  obtain ⟨hx, hb, hml, hown, hts, hst, hlk, htb, hK, hA, hG, hsc⟩ := id hX
  obtain ⟨hP, hDD, hS⟩ := id hD
  exact lv_ior hx hb d  (kk _ _ _ _ _ _ _ _ _ _ _ _ _ _ _ _ _ _ hX hE hD hl)
theorem ev_ladd {x y : Int64} (d : decode (mC M) pc = .ok (.ladd, 1))  (kk : Ev M po px k (pc + 1) L (.long (x + y) :: st) w) : Ev M po px k pc L (.long y :: .long x :: st) w := by
  intro p l e s m args below meth c dC dI dA as A Q H locs ls hX hE hD hl
  obtain ⟨hx, hb, hml, hown, hts, hst, hlk, htb, hK, hA, hG, hsc⟩ := id hX
  obtain ⟨hP, hDD, hS⟩ := id hD
  exact lv_ladd hx hb d  (kk _ _ _ _ _ _ _ _ _ _ _ _ _ _ _ _ _ _ hX hE hD hl)
theorem ev_lsub {x y : Int64} (d : decode (mC M) pc = .ok (.lsub, 1))  (kk : Ev M po px k (pc + 1) L (.long (x - y) :: st) w) : Ev M po px k pc L (.long y :: .long x :: st) w := by
  intro p l e s m args below meth c dC dI dA as A Q H locs ls hX hE hD hl
  obtain ⟨hx, hb, hml, hown, hts, hst, hlk, htb, hK, hA, hG, hsc⟩ := id hX
  obtain ⟨hP, hDD, hS⟩ := id hD
  exact lv_lsub hx hb d  (kk _ _ _ _ _ _ _ _ _ _ _ _ _ _ _ _ _ _ hX hE hD hl)
theorem ev_lmul {x y : Int64} (d : decode (mC M) pc = .ok (.lmul, 1))  (kk : Ev M po px k (pc + 1) L (.long (x * y) :: st) w) : Ev M po px k pc L (.long y :: .long x :: st) w := by
  intro p l e s m args below meth c dC dI dA as A Q H locs ls hX hE hD hl
  obtain ⟨hx, hb, hml, hown, hts, hst, hlk, htb, hK, hA, hG, hsc⟩ := id hX
  obtain ⟨hP, hDD, hS⟩ := id hD
  exact lv_lmul hx hb d  (kk _ _ _ _ _ _ _ _ _ _ _ _ _ _ _ _ _ _ hX hE hD hl)
theorem ev_ishl {x y : Int32} (d : decode (mC M) pc = .ok (.ishl, 1))  (kk : Ev M po px k (pc + 1) L (.int (x <<< (y &&& 31)) :: st) w) : Ev M po px k pc L (.int y :: .int x :: st) w := by
  intro p l e s m args below meth c dC dI dA as A Q H locs ls hX hE hD hl
  obtain ⟨hx, hb, hml, hown, hts, hst, hlk, htb, hK, hA, hG, hsc⟩ := id hX
  obtain ⟨hP, hDD, hS⟩ := id hD
  exact lv_ishl hx hb d  (kk _ _ _ _ _ _ _ _ _ _ _ _ _ _ _ _ _ _ hX hE hD hl)
theorem ev_ishr {x y : Int32} (d : decode (mC M) pc = .ok (.ishr, 1))  (kk : Ev M po px k (pc + 1) L (.int (x >>> (y &&& 31)) :: st) w) : Ev M po px k pc L (.int y :: .int x :: st) w := by
  intro p l e s m args below meth c dC dI dA as A Q H locs ls hX hE hD hl
  obtain ⟨hx, hb, hml, hown, hts, hst, hlk, htb, hK, hA, hG, hsc⟩ := id hX
  obtain ⟨hP, hDD, hS⟩ := id hD
  exact lv_ishr hx hb d  (kk _ _ _ _ _ _ _ _ _ _ _ _ _ _ _ _ _ _ hX hE hD hl)
theorem ev_idiv {x y : Int32} (d : decode (mC M) pc = .ok (.idiv, 1)) (hne : ¬ y = 0) (kk : Ev M po px k (pc + 1) L (.int (x / y) :: st) w) : Ev M po px k pc L (.int y :: .int x :: st) w := by
  intro p l e s m args below meth c dC dI dA as A Q H locs ls hX hE hD hl
  obtain ⟨hx, hb, hml, hown, hts, hst, hlk, htb, hK, hA, hG, hsc⟩ := id hX
  obtain ⟨hP, hDD, hS⟩ := id hD
  exact lv_idiv hx hb d hne (kk _ _ _ _ _ _ _ _ _ _ _ _ _ _ _ _ _ _ hX hE hD hl)
theorem ev_irem {x y : Int32} (d : decode (mC M) pc = .ok (.irem, 1)) (hne : ¬ y = 0) (kk : Ev M po px k (pc + 1) L (.int (x - x / y * y) :: st) w) : Ev M po px k pc L (.int y :: .int x :: st) w := by
  intro p l e s m args below meth c dC dI dA as A Q H locs ls hX hE hD hl
  obtain ⟨hx, hb, hml, hown, hts, hst, hlk, htb, hK, hA, hG, hsc⟩ := id hX
  obtain ⟨hP, hDD, hS⟩ := id hD
  exact lv_irem hx hb d hne (kk _ _ _ _ _ _ _ _ _ _ _ _ _ _ _ _ _ _ hX hE hD hl)
theorem ev_ldiv {x y : Int64} (d : decode (mC M) pc = .ok (.ldiv, 1)) (hne : ¬ y = 0) (kk : Ev M po px k (pc + 1) L (.long (x / y) :: st) w) : Ev M po px k pc L (.long y :: .long x :: st) w := by
  intro p l e s m args below meth c dC dI dA as A Q H locs ls hX hE hD hl
  obtain ⟨hx, hb, hml, hown, hts, hst, hlk, htb, hK, hA, hG, hsc⟩ := id hX
  obtain ⟨hP, hDD, hS⟩ := id hD
  exact lv_ldiv hx hb d hne (kk _ _ _ _ _ _ _ _ _ _ _ _ _ _ _ _ _ _ hX hE hD hl)
theorem ev_ineg {x : Int32} (d : decode (mC M) pc = .ok (.ineg, 1))  (kk : Ev M po px k (pc + 1) L (.int (-x) :: st) w) : Ev M po px k pc L (.int x :: st) w := by
  intro p l e s m args below meth c dC dI dA as A Q H locs ls hX hE hD hl
  obtain ⟨hx, hb, hml, hown, hts, hst, hlk, htb, hK, hA, hG, hsc⟩ := id hX
  obtain ⟨hP, hDD, hS⟩ := id hD
  exact lv_ineg hx hb d  (kk _ _ _ _ _ _ _ _ _ _ _ _ _ _ _ _ _ _ hX hE hD hl)
theorem ev_i2l {x : Int32} (d : decode (mC M) pc = .ok (.i2l, 1))  (kk : Ev M po px k (pc + 1) L (.long x.toInt64 :: st) w) : Ev M po px k pc L (.int x :: st) w := by
  intro p l e s m args below meth c dC dI dA as A Q H locs ls hX hE hD hl
  obtain ⟨hx, hb, hml, hown, hts, hst, hlk, htb, hK, hA, hG, hsc⟩ := id hX
  obtain ⟨hP, hDD, hS⟩ := id hD
  exact lv_i2l hx hb d rfl (kk _ _ _ _ _ _ _ _ _ _ _ _ _ _ _ _ _ _ hX hE hD hl)
theorem ev_l2i {x : Int64} (d : decode (mC M) pc = .ok (.l2i, 1))  (kk : Ev M po px k (pc + 1) L (.int x.toInt32 :: st) w) : Ev M po px k pc L (.long x :: st) w := by
  intro p l e s m args below meth c dC dI dA as A Q H locs ls hX hE hD hl
  obtain ⟨hx, hb, hml, hown, hts, hst, hlk, htb, hK, hA, hG, hsc⟩ := id hX
  obtain ⟨hP, hDD, hS⟩ := id hD
  exact lv_l2i hx hb d rfl (kk _ _ _ _ _ _ _ _ _ _ _ _ _ _ _ _ _ _ hX hE hD hl)
theorem ev_i2c {x : Int32} (d : decode (mC M) pc = .ok (.i2c, 1))  (kk : Ev M po px k (pc + 1) L (.int (x.toUInt32 % 65536).toInt32 :: st) w) : Ev M po px k pc L (.int x :: st) w := by
  intro p l e s m args below meth c dC dI dA as A Q H locs ls hX hE hD hl
  obtain ⟨hx, hb, hml, hown, hts, hst, hlk, htb, hK, hA, hG, hsc⟩ := id hX
  obtain ⟨hP, hDD, hS⟩ := id hD
  exact lv_i2c hx hb d rfl (kk _ _ _ _ _ _ _ _ _ _ _ _ _ _ _ _ _ _ hX hE hD hl)
theorem ev_lshl {x : Int64} {y : Int32} (d : decode (mC M) pc = .ok (.lshl, 1))  (kk : Ev M po px k (pc + 1) L (.long (x <<< (y.toInt64 &&& 63)) :: st) w) : Ev M po px k pc L (.int y :: .long x :: st) w := by
  intro p l e s m args below meth c dC dI dA as A Q H locs ls hX hE hD hl
  obtain ⟨hx, hb, hml, hown, hts, hst, hlk, htb, hK, hA, hG, hsc⟩ := id hX
  obtain ⟨hP, hDD, hS⟩ := id hD
  exact lv_lshl hx hb d rfl (kk _ _ _ _ _ _ _ _ _ _ _ _ _ _ _ _ _ _ hX hE hD hl)
theorem ev_i2d {x : Int32} (d : decode (mC M) pc = .ok (.i2d, 1))  (kk : Ev M po px k (pc + 1) L (.double (FP.i2d x) :: st) w) : Ev M po px k pc L (.int x :: st) w := by
  intro p l e s m args below meth c dC dI dA as A Q H locs ls hX hE hD hl
  obtain ⟨hx, hb, hml, hown, hts, hst, hlk, htb, hK, hA, hG, hsc⟩ := id hX
  obtain ⟨hP, hDD, hS⟩ := id hD
  exact lv_i2d hx hb d  (kk _ _ _ _ _ _ _ _ _ _ _ _ _ _ _ _ _ _ hX hE hD hl)
theorem ev_l2d {x : Int64} (d : decode (mC M) pc = .ok (.l2d, 1))  (kk : Ev M po px k (pc + 1) L (.double (FP.l2d x) :: st) w) : Ev M po px k pc L (.long x :: st) w := by
  intro p l e s m args below meth c dC dI dA as A Q H locs ls hX hE hD hl
  obtain ⟨hx, hb, hml, hown, hts, hst, hlk, htb, hK, hA, hG, hsc⟩ := id hX
  obtain ⟨hP, hDD, hS⟩ := id hD
  exact lv_l2d hx hb d  (kk _ _ _ _ _ _ _ _ _ _ _ _ _ _ _ _ _ _ hX hE hD hl)
theorem ev_d2l {x : UInt64} (d : decode (mC M) pc = .ok (.d2l, 1))  (kk : Ev M po px k (pc + 1) L (.long (FP.d2l x) :: st) w) : Ev M po px k pc L (.double x :: st) w := by
  intro p l e s m args below meth c dC dI dA as A Q H locs ls hX hE hD hl
  obtain ⟨hx, hb, hml, hown, hts, hst, hlk, htb, hK, hA, hG, hsc⟩ := id hX
  obtain ⟨hP, hDD, hS⟩ := id hD
  exact lv_d2l hx hb d  (kk _ _ _ _ _ _ _ _ _ _ _ _ _ _ _ _ _ _ hX hE hD hl)
theorem ev_ddiv {x y : UInt64} (d : decode (mC M) pc = .ok (.ddiv, 1)) (hne : vf_n64 (FP.ddiv x y)) (kk : Ev M po px k (pc + 1) L (.double (FP.ddiv x y) :: st) w) : Ev M po px k pc L (.double y :: .double x :: st) w := by
  intro p l e s m args below meth c dC dI dA as A Q H locs ls hX hE hD hl
  obtain ⟨hx, hb, hml, hown, hts, hst, hlk, htb, hK, hA, hG, hsc⟩ := id hX
  obtain ⟨hP, hDD, hS⟩ := id hD
  exact lv_ddiv hx hb d hne (kk _ _ _ _ _ _ _ _ _ _ _ _ _ _ _ _ _ _ hX hE hD hl)
theorem ev_dmul {x y : UInt64} (d : decode (mC M) pc = .ok (.dmul, 1)) (hne : vf_n64 (FP.dmul x y)) (kk : Ev M po px k (pc + 1) L (.double (FP.dmul x y) :: st) w) : Ev M po px k pc L (.double y :: .double x :: st) w := by
  intro p l e s m args below meth c dC dI dA as A Q H locs ls hX hE hD hl
  obtain ⟨hx, hb, hml, hown, hts, hst, hlk, htb, hK, hA, hG, hsc⟩ := id hX
  obtain ⟨hP, hDD, hS⟩ := id hD
  exact lv_dmul hx hb d hne (kk _ _ _ _ _ _ _ _ _ _ _ _ _ _ _ _ _ _ hX hE hD hl)
theorem ev_dsub {x y : UInt64} (d : decode (mC M) pc = .ok (.dsub, 1)) (hne : vf_n64 (FP.dsub x y)) (kk : Ev M po px k (pc + 1) L (.double (FP.dsub x y) :: st) w) : Ev M po px k pc L (.double y :: .double x :: st) w := by
  intro p l e s m args below meth c dC dI dA as A Q H locs ls hX hE hD hl
  obtain ⟨hx, hb, hml, hown, hts, hst, hlk, htb, hK, hA, hG, hsc⟩ := id hX
  obtain ⟨hP, hDD, hS⟩ := id hD
  exact lv_dsub hx hb d hne (kk _ _ _ _ _ _ _ _ _ _ _ _ _ _ _ _ _ _ hX hE hD hl)
theorem ev_dcmp {x y : UInt64} {op : CmpOp} (d : decode (mC M) pc = .ok (.dcmp op, 1))  (kk : Ev M po px k (pc + 1) L (.int (Op.cmpValue (FP.dcmp x y) op) :: st) w) : Ev M po px k pc L (.double y :: .double x :: st) w := by
  intro p l e s m args below meth c dC dI dA as A Q H locs ls hX hE hD hl
  obtain ⟨hx, hb, hml, hown, hts, hst, hlk, htb, hK, hA, hG, hsc⟩ := id hX
  obtain ⟨hP, hDD, hS⟩ := id hD
  exact lv_dcmp hx hb d  (kk _ _ _ _ _ _ _ _ _ _ _ _ _ _ _ _ _ _ hX hE hD hl)
theorem ev_pop {v : Value} (d : decode (mC M) pc = .ok (.pop, 1)) (hv : v.category = 1) (kk : Ev M po px k (pc + 1) L (st) w) : Ev M po px k pc L (v :: st) w := by
  intro p l e s m args below meth c dC dI dA as A Q H locs ls hX hE hD hl
  obtain ⟨hx, hb, hml, hown, hts, hst, hlk, htb, hK, hA, hG, hsc⟩ := id hX
  obtain ⟨hP, hDD, hS⟩ := id hD
  exact lv_pop hx hb d ((em_cat as v).trans hv) (kk _ _ _ _ _ _ _ _ _ _ _ _ _ _ _ _ _ _ hX hE hD hl)
theorem ev_dup {v : Value} (d : decode (mC M) pc = .ok (.dup, 1)) (hv : v.category = 1) (kk : Ev M po px k (pc + 1) L (v :: v :: st) w) : Ev M po px k pc L (v :: st) w := by
  intro p l e s m args below meth c dC dI dA as A Q H locs ls hX hE hD hl
  obtain ⟨hx, hb, hml, hown, hts, hst, hlk, htb, hK, hA, hG, hsc⟩ := id hX
  obtain ⟨hP, hDD, hS⟩ := id hD
  exact lv_dup hx hb d ((em_cat as v).trans hv) (kk _ _ _ _ _ _ _ _ _ _ _ _ _ _ _ _ _ _ hX hE hD hl)
theorem ev_dup2 {v u : Value} (d : decode (mC M) pc = .ok (.dup2, 1)) (hv : v.category = 1) (hu : u.category = 1) (kk : Ev M po px k (pc + 1) L (v :: u :: v :: u :: st) w) : Ev M po px k pc L (v :: u :: st) w := by
  intro p l e s m args below meth c dC dI dA as A Q H locs ls hX hE hD hl
  obtain ⟨hx, hb, hml, hown, hts, hst, hlk, htb, hK, hA, hG, hsc⟩ := id hX
  obtain ⟨hP, hDD, hS⟩ := id hD
  exact lv_dup2_11 hx hb d ((em_cat as v).trans hv) ((em_cat as u).trans hu) (kk _ _ _ _ _ _ _ _ _ _ _ _ _ _ _ _ _ _ hX hE hD hl)
theorem ev_if_eq {x : Int32} {off : Int} (tgt : Nat) (d : decode (mC M) pc = .ok (.ifCond .eq off, 3)) (ht : (pc : Int) + off = (tgt : Int)) (kt : x = 0 → Ev M po px k tgt L st w) (kf : ¬ (x = 0) → Ev M po px k (pc + 3) L st w) : Ev M po px k pc L (.int x :: st) w := by
  intro p l e s m args below meth c dC dI dA as A Q H locs ls hX hE hD hl
  obtain ⟨hx, hb, hml, hown, hts, hst, hlk, htb, hK, hA, hG, hsc⟩ := id hX
  obtain ⟨hP, hDD, hS⟩ := id hD
  exact lv_if_eq hx hb d ht (fun h => (kt h _ _ _ _ _ _ _ _ _ _ _ _ _ _ _ _ _ _ hX hE hD hl)) (fun h => (kf h _ _ _ _ _ _ _ _ _ _ _ _ _ _ _ _ _ _ hX hE hD hl))
theorem ev_icmp_eq {x y : Int32} {off : Int} (tgt : Nat) (d : decode (mC M) pc = .ok (.if_icmp .eq off, 3)) (ht : (pc : Int) + off = (tgt : Int)) (kt : x = y → Ev M po px k tgt L st w) (kf : ¬ (x = y) → Ev M po px k (pc + 3) L st w) : Ev M po px k pc L (.int y :: .int x :: st) w := by
  intro p l e s m args below meth c dC dI dA as A Q H locs ls hX hE hD hl
  obtain ⟨hx, hb, hml, hown, hts, hst, hlk, htb, hK, hA, hG, hsc⟩ := id hX
  obtain ⟨hP, hDD, hS⟩ := id hD
  exact lv_icmp_eq hx hb d ht (fun h => (kt h _ _ _ _ _ _ _ _ _ _ _ _ _ _ _ _ _ _ hX hE hD hl)) (fun h => (kf h _ _ _ _ _ _ _ _ _ _ _ _ _ _ _ _ _ _ hX hE hD hl))
theorem ev_if_ne {x : Int32} {off : Int} (tgt : Nat) (d : decode (mC M) pc = .ok (.ifCond .ne off, 3)) (ht : (pc : Int) + off = (tgt : Int)) (kt : ¬ x = 0 → Ev M po px k tgt L st w) (kf : x = 0 → Ev M po px k (pc + 3) L st w) : Ev M po px k pc L (.int x :: st) w := by
  intro p l e s m args below meth c dC dI dA as A Q H locs ls hX hE hD hl
  obtain ⟨hx, hb, hml, hown, hts, hst, hlk, htb, hK, hA, hG, hsc⟩ := id hX
  obtain ⟨hP, hDD, hS⟩ := id hD
  exact lv_if_ne hx hb d ht (fun h => (kt h _ _ _ _ _ _ _ _ _ _ _ _ _ _ _ _ _ _ hX hE hD hl)) (fun h => (kf h _ _ _ _ _ _ _ _ _ _ _ _ _ _ _ _ _ _ hX hE hD hl))
theorem ev_icmp_ne {x y : Int32} {off : Int} (tgt : Nat) (d : decode (mC M) pc = .ok (.if_icmp .ne off, 3)) (ht : (pc : Int) + off = (tgt : Int)) (kt : ¬ x = y → Ev M po px k tgt L st w) (kf : x = y → Ev M po px k (pc + 3) L st w) : Ev M po px k pc L (.int y :: .int x :: st) w := by
  intro p l e s m args below meth c dC dI dA as A Q H locs ls hX hE hD hl
  obtain ⟨hx, hb, hml, hown, hts, hst, hlk, htb, hK, hA, hG, hsc⟩ := id hX
  obtain ⟨hP, hDD, hS⟩ := id hD
  exact lv_icmp_ne hx hb d ht (fun h => (kt h _ _ _ _ _ _ _ _ _ _ _ _ _ _ _ _ _ _ hX hE hD hl)) (fun h => (kf h _ _ _ _ _ _ _ _ _ _ _ _ _ _ _ _ _ _ hX hE hD hl))
theorem ev_if_lt {x : Int32} {off : Int} (tgt : Nat) (d : decode (mC M) pc = .ok (.ifCond .lt off, 3)) (ht : (pc : Int) + off = (tgt : Int)) (kt : x < 0 → Ev M po px k tgt L st w) (kf : ¬ (x < 0) → Ev M po px k (pc + 3) L st w) : Ev M po px k pc L (.int x :: st) w := by
  intro p l e s m args below meth c dC dI dA as A Q H locs ls hX hE hD hl
  obtain ⟨hx, hb, hml, hown, hts, hst, hlk, htb, hK, hA, hG, hsc⟩ := id hX
  obtain ⟨hP, hDD, hS⟩ := id hD
  exact lv_if_lt hx hb d ht (fun h => (kt h _ _ _ _ _ _ _ _ _ _ _ _ _ _ _ _ _ _ hX hE hD hl)) (fun h => (kf h _ _ _ _ _ _ _ _ _ _ _ _ _ _ _ _ _ _ hX hE hD hl))
theorem ev_icmp_lt {x y : Int32} {off : Int} (tgt : Nat) (d : decode (mC M) pc = .ok (.if_icmp .lt off, 3)) (ht : (pc : Int) + off = (tgt : Int)) (kt : x < y → Ev M po px k tgt L st w) (kf : ¬ (x < y) → Ev M po px k (pc + 3) L st w) : Ev M po px k pc L (.int y :: .int x :: st) w := by
  intro p l e s m args below meth c dC dI dA as A Q H locs ls hX hE hD hl
  obtain ⟨hx, hb, hml, hown, hts, hst, hlk, htb, hK, hA, hG, hsc⟩ := id hX
  obtain ⟨hP, hDD, hS⟩ := id hD
  exact lv_icmp_lt hx hb d ht (fun h => (kt h _ _ _ _ _ _ _ _ _ _ _ _ _ _ _ _ _ _ hX hE hD hl)) (fun h => (kf h _ _ _ _ _ _ _ _ _ _ _ _ _ _ _ _ _ _ hX hE hD hl))
theorem ev_if_ge {x : Int32} {off : Int} (tgt : Nat) (d : decode (mC M) pc = .ok (.ifCond .ge off, 3)) (ht : (pc : Int) + off = (tgt : Int)) (kt : 0 ≤ x → Ev M po px k tgt L st w) (kf : ¬ (0 ≤ x) → Ev M po px k (pc + 3) L st w) : Ev M po px k pc L (.int x :: st) w := by
  intro p l e s m args below meth c dC dI dA as A Q H locs ls hX hE hD hl
  obtain ⟨hx, hb, hml, hown, hts, hst, hlk, htb, hK, hA, hG, hsc⟩ := id hX
  obtain ⟨hP, hDD, hS⟩ := id hD
  exact lv_if_ge hx hb d ht (fun h => (kt h _ _ _ _ _ _ _ _ _ _ _ _ _ _ _ _ _ _ hX hE hD hl)) (fun h => (kf h _ _ _ _ _ _ _ _ _ _ _ _ _ _ _ _ _ _ hX hE hD hl))
theorem ev_icmp_ge {x y : Int32} {off : Int} (tgt : Nat) (d : decode (mC M) pc = .ok (.if_icmp .ge off, 3)) (ht : (pc : Int) + off = (tgt : Int)) (kt : y ≤ x → Ev M po px k tgt L st w) (kf : ¬ (y ≤ x) → Ev M po px k (pc + 3) L st w) : Ev M po px k pc L (.int y :: .int x :: st) w := by
  intro p l e s m args below meth c dC dI dA as A Q H locs ls hX hE hD hl
  obtain ⟨hx, hb, hml, hown, hts, hst, hlk, htb, hK, hA, hG, hsc⟩ := id hX
  obtain ⟨hP, hDD, hS⟩ := id hD
  exact lv_icmp_ge hx hb d ht (fun h => (kt h _ _ _ _ _ _ _ _ _ _ _ _ _ _ _ _ _ _ hX hE hD hl)) (fun h => (kf h _ _ _ _ _ _ _ _ _ _ _ _ _ _ _ _ _ _ hX hE hD hl))
theorem ev_if_gt {x : Int32} {off : Int} (tgt : Nat) (d : decode (mC M) pc = .ok (.ifCond .gt off, 3)) (ht : (pc : Int) + off = (tgt : Int)) (kt : 0 < x → Ev M po px k tgt L st w) (kf : ¬ (0 < x) → Ev M po px k (pc + 3) L st w) : Ev M po px k pc L (.int x :: st) w := by
  intro p l e s m args below meth c dC dI dA as A Q H locs ls hX hE hD hl
  obtain ⟨hx, hb, hml, hown, hts, hst, hlk, htb, hK, hA, hG, hsc⟩ := id hX
  obtain ⟨hP, hDD, hS⟩ := id hD
  exact lv_if_gt hx hb d ht (fun h => (kt h _ _ _ _ _ _ _ _ _ _ _ _ _ _ _ _ _ _ hX hE hD hl)) (fun h => (kf h _ _ _ _ _ _ _ _ _ _ _ _ _ _ _ _ _ _ hX hE hD hl))
theorem ev_icmp_gt {x y : Int32} {off : Int} (tgt : Nat) (d : decode (mC M) pc = .ok (.if_icmp .gt off, 3)) (ht : (pc : Int) + off = (tgt : Int)) (kt : y < x → Ev M po px k tgt L st w) (kf : ¬ (y < x) → Ev M po px k (pc + 3) L st w) : Ev M po px k pc L (.int y :: .int x :: st) w := by
  intro p l e s m args below meth c dC dI dA as A Q H locs ls hX hE hD hl
  obtain ⟨hx, hb, hml, hown, hts, hst, hlk, htb, hK, hA, hG, hsc⟩ := id hX
  obtain ⟨hP, hDD, hS⟩ := id hD
  exact lv_icmp_gt hx hb d ht (fun h => (kt h _ _ _ _ _ _ _ _ _ _ _ _ _ _ _ _ _ _ hX hE hD hl)) (fun h => (kf h _ _ _ _ _ _ _ _ _ _ _ _ _ _ _ _ _ _ hX hE hD hl))
theorem ev_if_le {x : Int32} {off : Int} (tgt : Nat) (d : decode (mC M) pc = .ok (.ifCond .le off, 3)) (ht : (pc : Int) + off = (tgt : Int)) (kt : x ≤ 0 → Ev M po px k tgt L st w) (kf : ¬ (x ≤ 0) → Ev M po px k (pc + 3) L st w) : Ev M po px k pc L (.int x :: st) w := by
  intro p l e s m args below meth c dC dI dA as A Q H locs ls hX hE hD hl
  obtain ⟨hx, hb, hml, hown, hts, hst, hlk, htb, hK, hA, hG, hsc⟩ := id hX
  obtain ⟨hP, hDD, hS⟩ := id hD
  exact lv_if_le hx hb d ht (fun h => (kt h _ _ _ _ _ _ _ _ _ _ _ _ _ _ _ _ _ _ hX hE hD hl)) (fun h => (kf h _ _ _ _ _ _ _ _ _ _ _ _ _ _ _ _ _ _ hX hE hD hl))
theorem ev_icmp_le {x y : Int32} {off : Int} (tgt : Nat) (d : decode (mC M) pc = .ok (.if_icmp .le off, 3)) (ht : (pc : Int) + off = (tgt : Int)) (kt : x ≤ y → Ev M po px k tgt L st w) (kf : ¬ (x ≤ y) → Ev M po px k (pc + 3) L st w) : Ev M po px k pc L (.int y :: .int x :: st) w := by
  intro p l e s m args below meth c dC dI dA as A Q H locs ls hX hE hD hl
  obtain ⟨hx, hb, hml, hown, hts, hst, hlk, htb, hK, hA, hG, hsc⟩ := id hX
  obtain ⟨hP, hDD, hS⟩ := id hD
  exact lv_icmp_le hx hb d ht (fun h => (kt h _ _ _ _ _ _ _ _ _ _ _ _ _ _ _ _ _ _ hX hE hD hl)) (fun h => (kf h _ _ _ _ _ _ _ _ _ _ _ _ _ _ _ _ _ _ hX hE hD hl))
theorem ev_goto {off : Int} (tgt : Nat) (d : decode (mC M) pc = .ok (.goto off, 3)) (ht : (pc : Int) + off = (tgt : Int)) (kk : Ev M po px k tgt L st w) : Ev M po px k pc L st w := by
  intro p l e s m args below meth c dC dI dA as A Q H locs ls hX hE hD hl
  obtain ⟨hx, hb, hml, hown, hts, hst, hlk, htb, hK, hA, hG, hsc⟩ := id hX
  obtain ⟨hP, hDD, hS⟩ := id hD
  exact lv_goto hx hb d ht (kk _ _ _ _ _ _ _ _ _ _ _ _ _ _ _ _ _ _ hX hE hD hl)
theorem ev_lookup {dflt : Int} {ps : Array (Int × Int)} {len : Nat} {x : Int32} {off : Int} (tgt : Nat) (d : decode (mC M) pc = .ok (.lookupswitch dflt ps, len)) (hp : (ps.toList.zip (ps.toList.drop 1)).all (fun (a, next) => a.1 < next.1) = true) (ho : Op.lookupswitch.offset ps.toList dflt x.toInt = off) (ht : (pc : Int) + off = (tgt : Int)) (kk : Ev M po px k tgt L st w) : Ev M po px k pc L (.int x :: st) w := by
  intro p l e s m args below meth c dC dI dA as A Q H locs ls hX hE hD hl
  obtain ⟨hx, hb, hml, hown, hts, hst, hlk, htb, hK, hA, hG, hsc⟩ := id hX
  obtain ⟨hP, hDD, hS⟩ := id hD
  exact lv_lookup hx hb d hp ho ht (kk _ _ _ _ _ _ _ _ _ _ _ _ _ _ _ _ _ _ hX hE hD hl)
theorem ev_tableOut {dflt lo hi : Int} {offs : Array Int} {len : Nat} {x : Int32} (tgt : Nat) (d : decode (mC M) pc = .ok (.tableswitch dflt lo hi offs, len)) (h : x.toInt < lo ∨ hi < x.toInt) (ht : (pc : Int) + dflt = (tgt : Int)) (kk : Ev M po px k tgt L st w) : Ev M po px k pc L (.int x :: st) w := by
  intro p l e s m args below meth c dC dI dA as A Q H locs ls hX hE hD hl
  obtain ⟨hx, hb, hml, hown, hts, hst, hlk, htb, hK, hA, hG, hsc⟩ := id hX
  obtain ⟨hP, hDD, hS⟩ := id hD
  exact lv_tableOut hx hb d h ht (kk _ _ _ _ _ _ _ _ _ _ _ _ _ _ _ _ _ _ hX hE hD hl)
theorem ev_tableIn {dflt lo hi : Int} {offs : Array Int} {len : Nat} {x : Int32} {off : Int} (tgt : Nat) (d : decode (mC M) pc = .ok (.tableswitch dflt lo hi offs, len)) (h1 : ¬ x.toInt < lo) (h2 : ¬ hi < x.toInt) (ho : offs[(x.toInt - lo).toNat]? = some off) (ht : (pc : Int) + off = (tgt : Int)) (kk : Ev M po px k tgt L st w) : Ev M po px k pc L (.int x :: st) w := by
  intro p l e s m args below meth c dC dI dA as A Q H locs ls hX hE hD hl
  obtain ⟨hx, hb, hml, hown, hts, hst, hlk, htb, hK, hA, hG, hsc⟩ := id hX
  obtain ⟨hP, hDD, hS⟩ := id hD
  exact lv_tableIn hx hb d h1 h2 ho ht (kk _ _ _ _ _ _ _ _ _ _ _ _ _ _ _ _ _ _ hX hE hD hl)
theorem ev_sub {L' : LV} (ks : List Nat) (h : lv_pick L ks = L') (kk : Ev M po px k pc L' st w) : Ev M po px k pc L st w := by
  intro p l e s m args below meth c dC dI dA as A Q H locs ls hX hE hD hl
  obtain ⟨hx, hb, hml, hown, hts, hst, hlk, htb, hK, hA, hG, hsc⟩ := id hX
  obtain ⟨hP, hDD, hS⟩ := id hD
  have hl : lv_has ls (mN M) (emL as L') := by
    refine ⟨hl.1, hl.2.1, fun q hq => hl.2.2 q ?_⟩
    subst h
    obtain ⟨q0, h0, rfl⟩ := List.mem_map.mp hq
    obtain ⟨j, -, hj⟩ := List.mem_filterMap.mp h0
    exact List.mem_map.mpr ⟨q0, List.mem_of_getElem? hj, rfl⟩
  exact (kk _ _ _ _ _ _ _ _ _ _ _ _ _ _ _ _ _ _ hX hE hD hl)
theorem ev_ireturn {x : Int32} (d : decode (mC M) pc = .ok (.ireturn, 1)) (hk : k ≤ mK M) (h : po (some (.int x)) w) : Ev M po px k pc L ([.int x]) w := by
  intro p l e s m args below meth c dC dI dA as A Q H locs ls hX hE hD hl
  obtain ⟨hx, hb, hml, hown, hts, hst, hlk, htb, hK, hA, hG, hsc⟩ := id hX
  obtain ⟨hP, hDD, hS⟩ := id hD
  exact W.widen hk (Nat.mul_le_mul (Nat.le_refl 6) hk) (hE.1 _ _ _ _ _ _ h hD hl.1 d)
theorem ev_lreturn {x : Int64} (d : decode (mC M) pc = .ok (.lreturn, 1)) (hk : k ≤ mK M) (h : po (some (.long x)) w) : Ev M po px k pc L ([.long x]) w := by
  intro p l e s m args below meth c dC dI dA as A Q H locs ls hX hE hD hl
  obtain ⟨hx, hb, hml, hown, hts, hst, hlk, htb, hK, hA, hG, hsc⟩ := id hX
  obtain ⟨hP, hDD, hS⟩ := id hD
  exact W.widen hk (Nat.mul_le_mul (Nat.le_refl 6) hk) (hE.1 _ _ _ _ _ _ h hD hl.1 d)
theorem ev_dreturn {x : UInt64} (d : decode (mC M) pc = .ok (.dreturn, 1)) (hk : k ≤ mK M) (h : po (some (.double x)) w) : Ev M po px k pc L ([.double x]) w := by
  intro p l e s m args below meth c dC dI dA as A Q H locs ls hX hE hD hl
  obtain ⟨hx, hb, hml, hown, hts, hst, hlk, htb, hK, hA, hG, hsc⟩ := id hX
  obtain ⟨hP, hDD, hS⟩ := id hD
  exact W.widen hk (Nat.mul_le_mul (Nat.le_refl 6) hk) (hE.1 _ _ _ _ _ _ h hD hl.1 d)
theorem ev_areturn {x : Nat} (d : decode (mC M) pc = .ok (.areturn, 1)) (hk : k ≤ mK M) (h : po (some (.ref x)) w) : Ev M po px k pc L ([.ref x]) w := by
  intro p l e s m args below meth c dC dI dA as A Q H locs ls hX hE hD hl
  obtain ⟨hx, hb, hml, hown, hts, hst, hlk, htb, hK, hA, hG, hsc⟩ := id hX
  obtain ⟨hP, hDD, hS⟩ := id hD
  exact W.widen hk (Nat.mul_le_mul (Nat.le_refl 6) hk) (hE.1 _ _ _ _ _ _ h hD hl.1 d)
theorem ev_return  (d : decode (mC M) pc = .ok (.return_, 1)) (hk : k ≤ mK M) (h : po (none) w) : Ev M po px k pc L ([]) w := by
  intro p l e s m args below meth c dC dI dA as A Q H locs ls hX hE hD hl
  obtain ⟨hx, hb, hml, hown, hts, hst, hlk, htb, hK, hA, hG, hsc⟩ := id hX
  obtain ⟨hP, hDD, hS⟩ := id hD
  exact W.widen hk (Nat.mul_le_mul (Nat.le_refl 6) hk) (hE.1 _ _ _ _ _ _ h hD hl.1 d)
end EV
end
section
/-! ===== fields, arrays, throws, calls ===== -/
def CF (ci : Nat) (C : String) (T : u_T) (N : Nat) (ty : Nat → FieldType) : Prop := vwC8[ci]? = some (C, T, N) ∧ (∀ w ∈ u_ws C T N, w ∈ Gw) ∧ (∀ k, k < N → parseFieldDescriptor (T k).2.2.1 = some (ty k)) ∧ ∀ a, a < N → ∀ b, b < N → a ≠ b → (T a).2.1 ≠ (T b).2.1
theorem cf0 : CF 0 RX0 TX0 19 tyX0 := ⟨rfl, inGX0, tyX0_ok, nmX0⟩
theorem cf1 : CF 1 RX1 TX1 8 tyX1 := ⟨rfl, inGX1, tyX1_ok, nmX1⟩
theorem cf2 : CF 2 RX2 TX2 8 tyX2 := ⟨rfl, inGX2, tyX2_ok, nmX2⟩
theorem cf3 : CF 3 RX3 TX3 9 tyX3 := ⟨rfl, inGX3, tyX3_ok, nmX3⟩
/-- entry idx of own's pool names field kf of class ci -/
def FO (own : String) (idx ci kf : Nat) : Prop := ∃ (C : String) (T : u_T) (N : Nat) (ty : Nat → FieldType), CF ci C T N ty ∧ kf < N ∧ Cond.fieldLink own idx (T kf).1 (T kf).2.1 (T kf).2.2.1 ∈ Gw
/-- .. which isn't final, and is of this type -/
def FP9 (own : String) (idx ci kf : Nat) (t : FieldType) : Prop := ∃ (C : String) (T : u_T) (N : Nat) (ty : Nat → FieldType), CF ci C T N ty ∧ kf < N ∧ Cond.fieldLink own idx (T kf).1 (T kf).2.1 (T kf).2.2.1 ∈ Gw ∧ (T kf).2.2.2 = false ∧ parseFieldDescriptor (T kf).2.2.1 = some t
theorem P_congr {D : va_G} {cl : List vw_C} {ws : va_W} {H : Heap} {k a : Nat} {c : ClassId} {x y : vp_A} (h : va_P D cl (ws.set k (a, .inl (c, x))) H) (e : vp_cell c x = vp_cell c y) : va_P D cl (ws.set k (a, .inl (c, y))) H := by
  intro j q hj
  by_cases hl : k < ws.length
  · by_cases hjk : k = j
    · subst hjk
      rw [List.getElem?_set_self hl] at hj
      cases hj
      have h1 := h k (a, .inl (c, x)) (by rw [List.getElem?_set_self hl])
      show H[a]? = some (vp_cell c y)
      rw [← e]
      exact h1
    · rw [List.getElem?_set_ne hjk] at hj
      exact h j q (by rw [List.getElem?_set_ne hjk]; exact hj)
  · rw [List.set_eq_of_length_le (by omega)] at hj h
    exact h j q hj
theorem cell_congr {cA : ClassId} (n : Nat) {f g : Nat → Int32} (h : ∀ j, j < n → f j = g j) : arrV cA n (fun j => .int (f j)) = arrV cA n (fun j => .int (g j)) := by
  have e : (Array.ofFn (n := n) fun i => Value.int (f i)) = (Array.ofFn (n := n) fun i => Value.int (g i)) := by
    congr 1
    funext i
    rw [h i.1 i.2]
  simp only [arrV]
  first
    | exact congrArg _ e
    | rw [e]
    | (congr 1; apply Array.ext <;> simp_all)
/-- the words of a method's own code -/
def hdW (M : MT) : Cond := if mH M = [] then Cond.code (mY M) (mC M) (mN M) (mT M) else Cond.codeWith (mY M) (mC M) (mN M) (mT M) (mH M)
def QCt (po : PO) (dC : Nat → ClassId) (dI : Nat → Nat → Nat) (dA : Nat → ClassId) (as : Nat → Nat) (w : PW) (sz : Nat) : Array Value → State → Outcome → State → Prop := fun _ st oc t =>
  (∃ (v : Option Value) (u : PW), oc = .returned (v.map (em as)) ∧ po v u ∧ va_P (dC, dI) vwC8 (emW as dA u) t.heap ∧ va_D (va_A (emW as dA w) sz) (emW as dA u)) ∧ va_F (va_A (emW as dA w) sz) st t
def XCt (px : PX) (dC : Nat → ClassId) (dI : Nat → Nat → Nat) (dA : Nat → ClassId) (as : Nat → Nat) (w : PW) (sz : Nat) : String → State → State → Prop := fun E st t =>
  (∃ u : PW, px E u ∧ va_P (dC, dI) vwC8 (emW as dA u) t.heap ∧ va_D (va_A (emW as dA w) sz) (emW as dA u)) ∧ va_F (va_A (emW as dA w) sz) st t
def PCt (dC : Nat → ClassId) (dI : Nat → Nat → Nat) (dA : Nat → ClassId) (as : Nat → Nat) (w : PW) (sz : Nat) : State → Prop := fun U => U.heap.size = sz ∧ va_P (dC, dI) vwC8 (emW as dA w) U.heap ∧ va_K (dC, dI) vwC8 (tyT dA) U ∧ va_D (fun _ => True) (emW as dA w) ∧ GX as (va_A (emW as dA w) sz) U U.heap
/-- THE CONTRACT: called with these arguments in this world, M ends as po, px say -/
def Ct (M : MT) (args : List Value) (w : PW) (po : PO) (px : PX) : Prop := ∀ (l : Launch), l.stackTraces = false → ∀ (dC : Nat → ClassId) (dI : Nat → Nat → Nat) (dA : Nat → ClassId) (as : Nat → Nat) (sz : Nat),
  vx_Met l (mY M) (hdW M :: Gw) (mR M) (va_Pc (args.map (em as)) (PCt dC dI dA as w sz)) (QCt po dC dI dA as w sz) (XCt px dC dI dA as w sz) (mK M) (6 * mK M) (va_A (emW as dA w) sz)
/-- what the tables say of a method -/
def MF (M : MT) (n : Nat) : Prop := hdW M ∈ Gw ∧ Cond.initialized (mY M).cls ∈ Gw ∧ ((mY M).cls ≠ "java/lang/invoke/MethodHandle" ∧ (mY M).cls ≠ "java/lang/invoke/VarHandle") ∧ (parseMethodDescriptor (mY M).desc).map (fun d => d.parameters.length) = some n ∧ (mR M).cells = mK M ∧ (mR M).slots = 6 * mK M ∧ plainName (mY M).cls = true ∧ mS M = none
def MI (M : MT) : Prop := Cond.instanceMethod (mY M) ∈ Gw ∧ Cond.selects (mY M).cls (mY M) (mY M) ∈ Gw
def MS9 (M : MT) : Prop := Cond.static (mY M) ∈ Gw
theorem emL_args (as : Nat → Nat) : ∀ (n : Nat) (vs : List Value), emL as (lv_args n vs) = lv_args n (vs.map (em as))
  | _, [] => rfl
  | n, v :: vs => by
    simp only [lv_args, List.map_cons, em_cat]
    rw [← emL_args as _ vs]
    rfl
theorem sl_len (as : Nat → Nat) (vs : List Value) : (lg_sl (vs.map (em as))).length = (lg_sl vs).length := by
  induction vs with
  | nil => rfl
  | cons v vs ih =>
    simp only [lg_sl, List.map_cons, List.flatMap_cons, List.length_append] at ih ⊢
    rw [ih]
    cases v <;> rfl
def rtOK : Option FieldType → Option Value → Prop
  | none, none => True
  | some ty, some (.int x) => narrow ty (.int x) = .int x
  | some ty, some (.long _) => ty = .long
  | some ty, some (.double _) => ty = .double
  | some ty, some (.ref a) => ∃ C, ty = .object C
  | _, _ => False
/-- an exception of class E has left a call at pc -/
def EvX (M : MT) (po : PO) (px : PX) (k : Nat) (pc : Nat) (L : LV) (E : String) (w : PW) : Prop :=
  ∀ (p : Program) (l : Launch) (e : Env) (s : State) (m : MethodId) (args : Array Value) (below : List Frame) (meth : Method) (c : Code) (dC : Nat → ClassId) (dI : Nat → Nat → Nat) (dA : Nat → ClassId) (as : Nat → Nat) (A : Nat → Prop) (Q : State → Prop) (H : Heap) (locs : List Loc) (ls : Array Slot),
    Sx M p l s m args meth c dC dI dA as A → En M po px p l e s m args below meth c dC dI dA as A Q → Dy M s dC dI dA as A H locs w → lv_has ls (mN M) (emL as L) →
    ∀ (st : List Value) (ce : Cell) (q : Addr), H[q]? = some ce → ce.vm = .none → s.vm.findClass E = some ce.cls → vx_W p l e (mR M) s m args below meth c H locs k (6 * k) Q (F0 m pc ls st) q
section EV2
variable {M : MT} {po : PO} {px : PX} {k pc : Nat} {L : LV} {st : List Value} {w : PW}
theorem ev_lcmp {x y : Int64} (d : decode (mC M) pc = .ok (.lcmp, 1)) (kk : Ev M po px k (pc + 1) L (.int (lg_cmp x y) :: st) w) : Ev M po px k pc L (.long y :: .long x :: st) w := by
  intro p l e s m args below meth c dC dI dA as A Q H locs ls hX hE hD hl
  obtain ⟨hx, hb, hml, hown, hts, hst, hlk, htb, hK, hA, hG, hsc⟩ := id hX
  obtain ⟨hP, hDD, hS⟩ := id hD
  exact W.lcmp hx hb d (kk _ _ _ _ _ _ _ _ _ _ _ _ _ _ _ _ _ _ hX hE hD hl)
theorem ev_getfield {idx a ci : Nat} {fs : List Value} {v : Value} (kf : Nat) (d : decode (mC M) pc = .ok (.getfield idx, 3)) (hf : FO (mY M).cls idx ci kf) (hw : w[a]? = some (.inr (ci, fs))) (hv : fs[kf]? = some v) (kk : Ev M po px k (pc + 3) L (v :: st) w) : Ev M po px k pc L (.ref a :: st) w := by
  intro p l e s m args below meth c dC dI dA as A Q H locs ls hX hE hD hl
  obtain ⟨hx, hb, hml, hown, hts, hst, hlk, htb, hK, hA, hG, hsc⟩ := id hX
  obtain ⟨hP, hDD, hS⟩ := id hD
  obtain ⟨C, T, N, ty, ⟨c1, c2, c3, c4⟩, hkN, hlw⟩ := hf
  obtain ⟨j, hj, -⟩ := emW_at as dA hw (isH_of c1)
  exact va_get hx hb hts c2 hown hK hP j hj c1 kf hkN (hts _ hlw) (fun _ h => h) (by rw [List.getElem?_map, hv]; rfl) d (kk _ _ _ _ _ _ _ _ _ _ _ _ _ _ _ _ _ _ hX hE hD hl)
theorem ev_putfield {idx a ci : Nat} {fs : List Value} {v : Value} (kf : Nat) {t : FieldType} {w' : PW} (d : decode (mC M) pc = .ok (.putfield idx, 3)) (hf : FP9 (mY M).cls idx ci kf t) (hw : w[a]? = some (.inr (ci, fs))) (hkl : kf < fs.length) (hn : ∀ as, narrow t (em as v) = em as v) (hfi : ∀ as, fits t (em as v) = true) (hw' : w.set a (.inr (ci, fs.set kf v)) = w') (kk : Ev M po px k (pc + 3) L st w') : Ev M po px k pc L (v :: .ref a :: st) w := by
  intro p l e s m args below meth c dC dI dA as A Q H locs ls hX hE hD hl
  obtain ⟨hx, hb, hml, hown, hts, hst, hlk, htb, hK, hA, hG, hsc⟩ := id hX
  obtain ⟨hP, hDD, hS⟩ := id hD
  subst hw'
  obtain ⟨C, T, N, ty, ⟨c1, c2, c3, c4⟩, hkN, hlw, hfin, hty⟩ := hf
  have e0 : (as a, (Sum.inr (ci, (fs.map (em as)).set kf (em as v)) : va_E)) = (as a, emE as dA (.inr (ci, fs.set kf v))) := by simp [emE, List.map_set]
  obtain ⟨j, hj, hjs⟩ := emW_at as dA hw (isH_of c1)
  refine va_put hx hb hts c2 ty c3 c4 hown hK hP hDD hS j hj c1 kf hkN (hts _ hlw) (fun _ h => h) hfin hty (hn as) (hfi as) (by simpa using hkl) d (fun H1 locs1 q1 q2 q3 => ?_)
  rw [e0, hjs _ (isH_of c1)] at q1 q2
  exact (kk _ _ _ _ _ _ _ _ _ _ _ _ _ _ _ _ _ _ hX hE ⟨q1, q2, q3⟩ hl)
theorem ev_iaload {a n : Nat} {i : Int32} {f : Nat → Int32} (d : decode (mC M) pc = .ok (.iaload, 1)) (hw : w[a]? = some (.inl (0, n, .inl f))) (hin : vp_in i n) (kk : Ev M po px k (pc + 1) L (.int (f i.toNatClampNeg) :: st) w) : Ev M po px k pc L (.int i :: .ref a :: st) w := by
  intro p l e s m args below meth c dC dI dA as A Q H locs ls hX hE hD hl
  obtain ⟨hx, hb, hml, hown, hts, hst, hlk, htb, hK, hA, hG, hsc⟩ := id hX
  obtain ⟨hP, hDD, hS⟩ := id hD
  obtain ⟨j, hj, -⟩ := emW_at as dA hw rfl
  exact va_iald hx hb hK hP j 0 hj rfl hin d (kk _ _ _ _ _ _ _ _ _ _ _ _ _ _ _ _ _ _ hX hE hD hl)
theorem ev_baload {a n : Nat} {i : Int32} {f : Nat → Int32} (d : decode (mC M) pc = .ok (.baload, 1)) (hw : w[a]? = some (.inl (1, n, .inl f))) (hin : vp_in i n) (kk : Ev M po px k (pc + 1) L (.int (f i.toNatClampNeg) :: st) w) : Ev M po px k pc L (.int i :: .ref a :: st) w := by
  intro p l e s m args below meth c dC dI dA as A Q H locs ls hX hE hD hl
  obtain ⟨hx, hb, hml, hown, hts, hst, hlk, htb, hK, hA, hG, hsc⟩ := id hX
  obtain ⟨hP, hDD, hS⟩ := id hD
  obtain ⟨j, hj, -⟩ := emW_at as dA hw rfl
  exact va_zald hx hb hK hP j 1 hj rfl hin d (kk _ _ _ _ _ _ _ _ _ _ _ _ _ _ _ _ _ _ hX hE hD hl)
theorem ev_aaload {a n r : Nat} {i : Int32} {f : Nat → Option Nat} (d : decode (mC M) pc = .ok (.aaload, 1)) (hw : w[a]? = some (.inl (3, n, .inr (.inr (.inr (.inr f)))))) (hin : vp_in i n) (hr : f i.toNatClampNeg = some r) (kk : Ev M po px k (pc + 1) L (.ref r :: st) w) : Ev M po px k pc L (.int i :: .ref a :: st) w := by
  intro p l e s m args below meth c dC dI dA as A Q H locs ls hX hE hD hl
  obtain ⟨hx, hb, hml, hown, hts, hst, hlk, htb, hK, hA, hG, hsc⟩ := id hX
  obtain ⟨hP, hDD, hS⟩ := id hD
  obtain ⟨j, hj, -⟩ := emW_at as dA hw rfl
  refine va_aldq hx hb hK hP j 3 hj rfl hin d ?_
  simp only [hr, Option.map, va_rf]
  exact (kk _ _ _ _ _ _ _ _ _ _ _ _ _ _ _ _ _ _ hX hE hD hl)
theorem ev_iastore {a n : Nat} {i : Int32} {x : Int32} {f : Nat → Int32} {w' : PW} (d : decode (mC M) pc = .ok (.iastore, 1)) (hw : w[a]? = some (.inl (0, n, .inl f))) (hin : vp_in i n) (hw' : w.set a (.inl (0, n, .inl (upd f i.toNatClampNeg x))) = w') (kk : Ev M po px k (pc + 1) L st w') : Ev M po px k pc L (.int x :: .int i :: .ref a :: st) w := by
  intro p l e s m args below meth c dC dI dA as A Q H locs ls hX hE hD hl
  obtain ⟨hx, hb, hml, hown, hts, hst, hlk, htb, hK, hA, hG, hsc⟩ := id hX
  obtain ⟨hP, hDD, hS⟩ := id hD
  subst hw'
  obtain ⟨j, hj, hjs⟩ := emW_at as dA hw rfl
  refine va_iast hx hb hK hP hDD hS j 0 hj rfl hin d (fun H1 locs1 q1 q2 q3 => ?_)
  have e0 := hjs (.inl (0, n, .inl (upd f i.toNatClampNeg x))) rfl
  exact (kk _ _ _ _ _ _ _ _ _ _ _ _ _ _ _ _ _ _ hX hE ⟨e0 ▸ q1, e0 ▸ q2, q3⟩ hl)
theorem ev_bastore {a n : Nat} {i : Int32} {x : Int32} {f : Nat → Int32} {w' : PW} (d : decode (mC M) pc = .ok (.bastore, 1)) (hw : w[a]? = some (.inl (1, n, .inl f))) (hin : vp_in i n) (hx1 : vp_nar .boolean x = x) (hw' : w.set a (.inl (1, n, .inl (upd f i.toNatClampNeg x))) = w') (kk : Ev M po px k (pc + 1) L st w') : Ev M po px k pc L (.int x :: .int i :: .ref a :: st) w := by
  intro p l e s m args below meth c dC dI dA as A Q H locs ls hX hE hD hl
  obtain ⟨hx, hb, hml, hown, hts, hst, hlk, htb, hK, hA, hG, hsc⟩ := id hX
  obtain ⟨hP, hDD, hS⟩ := id hD
  subst hw'
  obtain ⟨j, hj, hjs⟩ := emW_at as dA hw rfl
  refine va_zast hx hb hK hP hDD hS j 1 hj rfl hin d (fun H1 locs1 q1 q2 q3 => ?_)
  rw [hx1] at q1 q2
  have e0 := hjs (.inl (1, n, .inl (upd f i.toNatClampNeg x))) rfl
  exact (kk _ _ _ _ _ _ _ _ _ _ _ _ _ _ _ _ _ _ hX hE ⟨e0 ▸ q1, e0 ▸ q2, q3⟩ hl)
theorem ev_aastore {a n r ci : Nat} {i : Int32} {f : Nat → Option Nat} {fs : List Value} {w' : PW} (d : decode (mC M) pc = .ok (.aastore, 1)) (hw : w[a]? = some (.inl (3, n, .inr (.inr (.inr (.inr f)))))) (hv : w[r]? = some (.inr (0, fs))) (hin : vp_in i n) (hw' : w.set a (.inl (3, n, .inr (.inr (.inr (.inr (va_up f i.toNatClampNeg (some r))))))) = w') (kk : Ev M po px k (pc + 1) L st w') : Ev M po px k pc L (.ref r :: .int i :: .ref a :: st) w := by
  intro p l e s m args below meth c dC dI dA as A Q H locs ls hX hE hD hl
  obtain ⟨hx, hb, hml, hown, hts, hst, hlk, htb, hK, hA, hG, hsc⟩ := id hX
  obtain ⟨hP, hDD, hS⟩ := id hD
  subst hw'
  obtain ⟨j, hj, hjs⟩ := emW_at as dA hw rfl
  obtain ⟨jr, hjr, -⟩ := emW_at as dA hv rfl
  refine va_astq (r := (RX0, TX0, 19)) hx hb hK hP hDD hS j 3 jr 0 hj rfl hjr rfl hin d (fun H1 locs1 q1 q2 q3 => ?_)
  have e0 := hjs (.inl (3, n, .inr (.inr (.inr (.inr (va_up f i.toNatClampNeg (some r))))))) rfl
  have e1 : (fun k => (va_up f i.toNatClampNeg (some r) k).map as) = va_up (fun k => (f k).map as) i.toNatClampNeg (some (as r)) := by
    funext j
    simp only [va_up]
    split <;> rfl
  simp only [emE, emA, e1] at e0
  exact (kk _ _ _ _ _ _ _ _ _ _ _ _ _ _ _ _ _ _ hX hE ⟨e0 ▸ q1, e0 ▸ q2, q3⟩ hl)
theorem ev_copyi {idx a b n : Nat} {nn : Int32} {f g : Nat → Int32} {w' : PW} (d : decode (mC M) pc = .ok (.invokestatic idx, 3)) (hlw : Cond.methodLink (mY M).cls idx arraycopyName ∈ Gw) (h4 : Cond.native arraycopyName ∈ Gw ∧ Cond.static arraycopyName ∈ Gw ∧ Cond.initialized "java/lang/System" ∈ Gw) (hb0 : w[b]? = some (.inl (0, n, .inl f))) (ha0 : w[a]? = some (.inl (0, n, .inl g))) (hn0 : ¬ nn < 0) (hN : nn.toNatClampNeg = n) (hR : 1 ≤ (mR M).frames ∧ (st.map fun v => v.category).sum + (nativeFrameWords "java/lang/System" "arraycopy" 5 + 11) ≤ (mR M).locals) (hw' : w.set a (.inl (0, n, .inl f)) = w') (kk : Ev M po px k (pc + 3) L st w') : Ev M po px k pc L (.int nn :: .int 0 :: .ref a :: .int 0 :: .ref b :: st) w := by
  intro p l e s m args below meth c dC dI dA as A Q H locs ls hX hE hD hl
  obtain ⟨hx, hb, hml, hown, hts, hst, hlk, htb, hK, hA, hG, hsc⟩ := id hX
  obtain ⟨hP, hDD, hS⟩ := id hD
  subst hw'
  have z0 : (0 : Int32).toNatClampNeg = 0 := rfl
  have hc : ((st.map (em as)).map fun v => v.category) = st.map fun v => v.category := by simp [em_cat]
  obtain ⟨jb, hjb, -⟩ := emW_at as dA hb0 rfl
  obtain ⟨ja, hja, hjs⟩ := emW_at as dA ha0 rfl
  refine va_copyi (ty := .int) hx hb (hml.trans hl.1.symm) hown (hts _ hlw) (hts _ h4.1) (hts _ h4.2.1) (hts _ h4.2.2) hK hP hDD hS jb ja 0 0 hjb hja rfl rfl rfl (sp := 0) (dp := 0) (n := nn) (by decide) (by decide) hn0 (by rw [z0, hN]; omega) (by rw [z0, hN]; omega) (fun _ _ => rfl) hR.1 (by rw [hc]; exact hR.2) d (fun H1 locs1 q1 q2 q3 => ?_)
  have e0 := hjs (.inl (0, n, .inl f)) rfl
  have e1 : vp_cell (dA 0) (n, .inl (va_cpy f g (0 : Int32).toNatClampNeg (0 : Int32).toNatClampNeg nn.toNatClampNeg)) = vp_cell (dA 0) (n, .inl f) := by
    rw [vp_cell_i, vp_cell_i, z0, hN]
    refine cell_congr n (fun j hj => ?_)
    simp [va_cpy, hj]
  exact (kk _ _ _ _ _ _ _ _ _ _ _ _ _ _ _ _ _ _ hX hE ⟨e0 ▸ P_congr q1 e1, e0 ▸ hDD.set hja, q3⟩ hl)
theorem ev_copyb {idx a b n : Nat} {nn : Int32} {f g : Nat → Int32} {w' : PW} (d : decode (mC M) pc = .ok (.invokestatic idx, 3)) (hlw : Cond.methodLink (mY M).cls idx arraycopyName ∈ Gw) (h4 : Cond.native arraycopyName ∈ Gw ∧ Cond.static arraycopyName ∈ Gw ∧ Cond.initialized "java/lang/System" ∈ Gw) (hb0 : w[b]? = some (.inl (1, n, .inl f))) (ha0 : w[a]? = some (.inl (1, n, .inl g))) (hn0 : ¬ nn < 0) (hN : nn.toNatClampNeg = n) (hfit : ∀ i, i < n → fits .boolean (.int (f i)) = true) (hR : 1 ≤ (mR M).frames ∧ (st.map fun v => v.category).sum + (nativeFrameWords "java/lang/System" "arraycopy" 5 + 11) ≤ (mR M).locals) (hw' : w.set a (.inl (1, n, .inl f)) = w') (kk : Ev M po px k (pc + 3) L st w') : Ev M po px k pc L (.int nn :: .int 0 :: .ref a :: .int 0 :: .ref b :: st) w := by
  intro p l e s m args below meth c dC dI dA as A Q H locs ls hX hE hD hl
  obtain ⟨hx, hb, hml, hown, hts, hst, hlk, htb, hK, hA, hG, hsc⟩ := id hX
  obtain ⟨hP, hDD, hS⟩ := id hD
  subst hw'
  have z0 : (0 : Int32).toNatClampNeg = 0 := rfl
  have hc : ((st.map (em as)).map fun v => v.category) = st.map fun v => v.category := by simp [em_cat]
  obtain ⟨jb, hjb, -⟩ := emW_at as dA hb0 rfl
  obtain ⟨ja, hja, hjs⟩ := emW_at as dA ha0 rfl
  refine va_copyi (ty := .boolean) hx hb (hml.trans hl.1.symm) hown (hts _ hlw) (hts _ h4.1) (hts _ h4.2.1) (hts _ h4.2.2) hK hP hDD hS jb ja 1 1 hjb hja rfl rfl rfl (sp := 0) (dp := 0) (n := nn) (by decide) (by decide) hn0 (by rw [z0, hN]; omega) (by rw [z0, hN]; omega) (fun i hi => by rw [hN] at hi; simpa using hfit i hi) hR.1 (by rw [hc]; exact hR.2) d (fun H1 locs1 q1 q2 q3 => ?_)
  have e0 := hjs (.inl (1, n, .inl f)) rfl
  have e1 : vp_cell (dA 1) (n, .inl (va_cpy f g (0 : Int32).toNatClampNeg (0 : Int32).toNatClampNeg nn.toNatClampNeg)) = vp_cell (dA 1) (n, .inl f) := by
    rw [vp_cell_i, vp_cell_i, z0, hN]
    refine cell_congr n (fun j hj => ?_)
    simp [va_cpy, hj]
  exact (kk _ _ _ _ _ _ _ _ _ _ _ _ _ _ _ _ _ _ hX hE ⟨e0 ▸ P_congr q1 e1, e0 ▸ hDD.set hja, q3⟩ hl)
theorem ev_slen {n : Nat} {xs : Nat → Int32} (d : decode (mC M) pc = .ok (.arraylength, 1)) (hs : mS M = some (n, xs)) (kk : Ev M po px k (pc + 1) L (.int (Int32.ofNat n) :: st) w) : Ev M po px k pc L (.ref 999 :: st) w := by
  intro p l e s m args below meth c dC dI dA as A Q H locs ls hX hE hD hl
  obtain ⟨hx, hb, hml, hown, hts, hst, hlk, htb, hK, hA, hG, hsc⟩ := id hX
  obtain ⟨hP, hDD, hS⟩ := id hD
  rw [hs] at hsc
  exact va_slen hx hb hsc.1 hsc.2.1 hsc.2.2 hS d (kk _ _ _ _ _ _ _ _ _ _ _ _ _ _ _ _ _ _ hX hE hD hl)
theorem ev_sld {n : Nat} {xs : Nat → Int32} {i : Int32} (d : decode (mC M) pc = .ok (.iaload, 1)) (hs : mS M = some (n, xs)) (hin : vp_in i n) (kk : Ev M po px k (pc + 1) L (.int (xs i.toNatClampNeg) :: st) w) : Ev M po px k pc L (.int i :: .ref 999 :: st) w := by
  intro p l e s m args below meth c dC dI dA as A Q H locs ls hX hE hD hl
  obtain ⟨hx, hb, hml, hown, hts, hst, hlk, htb, hK, hA, hG, hsc⟩ := id hX
  obtain ⟨hP, hDD, hS⟩ := id hD
  rw [hs] at hsc
  exact va_sld hx hb hsc.1 hsc.2.1 hsc.2.2 hS hin d (kk _ _ _ _ _ _ _ _ _ _ _ _ _ _ _ _ _ _ hX hE hD hl)
theorem ev_ldc {idx : Nat} (v : Int32) (d : decode (mC M) pc = .ok (.ldc idx, 2)) (hlw : Cond.constant (mY M).cls idx v ∈ Gw) (kk : Ev M po px k (pc + 2) L (.int v :: st) w) : Ev M po px k pc L st w := by
  intro p l e s m args below meth c dC dI dA as A Q H locs ls hX hE hD hl
  obtain ⟨hx, hb, hml, hown, hts, hst, hlk, htb, hK, hA, hG, hsc⟩ := id hX
  obtain ⟨hP, hDD, hS⟩ := id hD
  exact lv_ldc hx hb hown (hts _ hlw) d (kk _ _ _ _ _ _ _ _ _ _ _ _ _ _ _ _ _ _ hX hE hD hl)
theorem ev_ldc2 {idx : Nat} (v : Int64) (d : decode (mC M) pc = .ok (.ldc2_w idx, 3)) (hlw : Cond.constantLong (mY M).cls idx v ∈ Gw) (kk : Ev M po px k (pc + 3) L (.long v :: st) w) : Ev M po px k pc L st w := by
  intro p l e s m args below meth c dC dI dA as A Q H locs ls hX hE hD hl
  obtain ⟨hx, hb, hml, hown, hts, hst, hlk, htb, hK, hA, hG, hsc⟩ := id hX
  obtain ⟨hP, hDD, hS⟩ := id hD
  exact lv_ldc2 hx hb hown (hts _ hlw) d (kk _ _ _ _ _ _ _ _ _ _ _ _ _ _ _ _ _ _ hX hE hD hl)
theorem ev_ldc2d {idx : Nat} (v : UInt64) (d : decode (mC M) pc = .ok (.ldc2_w idx, 3)) (hlw : Cond.constantDouble (mY M).cls idx v ∈ Gw) (kk : Ev M po px k (pc + 3) L (.double v :: st) w) : Ev M po px k pc L st w := by
  intro p l e s m args below meth c dC dI dA as A Q H locs ls hX hE hD hl
  obtain ⟨hx, hb, hml, hown, hts, hst, hlk, htb, hK, hA, hG, hsc⟩ := id hX
  obtain ⟨hP, hDD, hS⟩ := id hD
  exact lv_ldc2d hx hb hown (hts _ hlw) d (kk _ _ _ _ _ _ _ _ _ _ _ _ _ _ _ _ _ _ hX hE hD hl)
end EV2
section CT
set_option maxHeartbeats 1000000 in
/-- a contract, out of a walk from the entry -/
theorem ct_of {M : MT} {args : List Value} {w : PW} {po : PO} {px : PX} (n : Nat) (hF : MF M n) (hh : mH M = []) (hl : (lg_sl args).length ≤ mN M) (hrt : ∀ v u, po v u → rtOK (mT M) v) (h : Ev M po px 0 0 (lv_args 0 args) [] w) : Ct M args w po px := by
  obtain ⟨f1, f2, f3, f4, f5, f6, f7, f8⟩ := hF
  intro l hst dC dI dA as sz
  have hW : hdW M = Cond.code (mY M) (mC M) (mN M) (mT M) := by unfold hdW; rw [if_pos hh]
  rw [hW]
  refine vx_ofW (cc := mC M) (maxL := mN M) (ret := mT M) f7 rfl ?_
  intro p e s m args' below meth c s₁ B hml hnt hv
  obtain ⟨rfl, hsz, hP, hK, hD0, hG⟩ := hv
  subst hsz
  have hts : ∀ w ∈ Gw, w.before _ s = true := fun w hw => atoms_spec (ws := Cond.code (mY M) (mC M) (mN M) (mT M) :: Gw) B.pre w (List.mem_cons_of_mem _ hw)
  have htab : c.exceptionTable.toList = tableOf (mH M) := by
    rw [hh]
    exact List.eq_nil_iff_forall_not_mem.mpr (fun x hx => hnt x hx)
  have hent := lv_entry (args.map (em as)) (n := mN M) (by rw [sl_len]; exact hl)
  rw [lg_entry_eq]
  generalize (lg_sl (args.map (em as)) ++ List.replicate (mN M - (lg_sl (args.map (em as))).length) Slot.unset).toArray = ls at hent ⊢
  rw [← emL_args] at hent
  refine h p l e s m _ below meth c dC dI dA as (va_A (emW as dA w) s.heap.size) _ s.heap [] ls ⟨B.exec, B.bytes, hml, findClass_of_methodNamed B.named, hts, hst, B.notSynchronized, htab, hK, fun q h => Or.inr h, hG, by rw [f8]; trivial⟩ ⟨?_, ?_⟩ ⟨hP, hD0.self, va_S.rf⟩ hent
  · intro H locs ls pc v u hpo hD hsz d
    have hok := hrt v u hpo
    have hq : ∀ t : State, t.heap = H → s.WarmedH t.vm → QCt po dC dI dA as w s.heap.size (args.map (em as)).toArray s (.returned (v.map (em as))) t := fun t ht _ => ⟨⟨v, u, rfl, hpo, by rw [ht]; exact hD.1, hD.2.1⟩, hD.2.2.F ht⟩
    have hf := hD.2.2.2.2
    have hlk := B.notSynchronized
    refine vx_ret ?_
    have hr := B.returns
    cases v with
    | none =>
      cases hT : mT M with
      | none => exact W.vret B.exec B.bytes (by rw [hr, hT]) hq hf d hlk
      | some ty => rw [hT] at hok; exact hok.elim
    | some v =>
      cases hT : mT M with
      | none => rw [hT] at hok; cases v <;> exact hok.elim
      | some ty =>
        rw [hT] at hok
        cases v with
        | int x => exact W.zret B.exec B.bytes (by rw [hr, hT]) hok hq hf d hlk
        | long x => exact W.lret B.exec B.bytes (by rw [hr, hT, show ty = .long from hok]) hq hf d hlk
        | double x => exact W.dret B.exec B.bytes (by rw [hr, hT, show ty = .double from hok]) hq hf d hlk
        | ref a =>
          obtain ⟨C, hC⟩ := hok
          exact W.aret (v := .ref (as a)) (rt := .object C) B.exec B.bytes (by rw [hr, hT, hC]) (Or.inl ⟨C, rfl⟩) (Or.inr ⟨_, rfl⟩) hq hf d hlk
        | float x => exact hok.elim
        | null => exact hok.elim
        | retAddr x => exact hok.elim
  · intro H locs ls pc st E ce q u hpx hD hout h1 h2 h3
    exact vx_out (by rw [htab]; exact hout) B.notSynchronized h1 h2 h3 (fun t ht _ => ⟨⟨u, hpx, by rw [ht]; exact hD.1, hD.2.1⟩, hD.2.2.F ht⟩) hD.2.2.2.2 (Nat.le_refl _) (Nat.le_refl _)
theorem gin_hd {M' : MT} (h : hdW M' ∈ Gw) : GoodIn Gw (hdW M' :: Gw) := fun w hw => by
  rcases List.mem_cons.mp hw with rfl | hw
  · exact ⟨h, good_of_word (Gw_good _ h)⟩
  · exact ⟨hw, good_of_word (Gw_good _ hw)⟩
theorem pct_blind (dC : Nat → ClassId) (dI : Nat → Nat → Nat) (dA : Nat → ClassId) (as : Nat → Nat) (w : PW) (sz : Nat) (av : List Value) : FrameBlind (va_Pc av (PCt dC dI dA as w sz)) := fun a U g mk h => by
  obtain ⟨h1, h2, h3, h4, h5, h6⟩ := h
  exact ⟨h1, h2, h3, va_K.moved (u := U) (U := U.calling g mk a) (Vm.Alike.refl U.vm) h4, h5, GX.warm (s := U) (U := U.calling g mk a) (State.WarmedH.refl U) h6⟩
theorem fA_of {as dA : Nat → Nat} {w : PW} {s : State} {A : Nat → Prop} {H : Heap} {locs : List Loc} (hD : va_D A (emW as dA w)) (hS : va_S A s.heap H locs) (hA : ∀ q, s.heap.size ≤ q → A q) : ∀ q, va_A (emW as dA w) H.size q → A q := by
  intro q h
  rcases h with ⟨k, e, h⟩ | h
  · exact hD.2 k (q, e) h
  · exact hA q (Nat.le_trans hS.1 h)
theorem pct_at {M : MT} {p : Program} {l : Launch} {s U : State} {m : MethodId} {args : Array Value} {meth : Method} {c : Code} {dC : Nat → ClassId} {dI : Nat → Nat → Nat} {dA : Nat → ClassId} {as : Nat → Nat} {A : Nat → Prop} {H : Heap} {locs : List Loc} {w : PW} (hX : Sx M p l s m args meth c dC dI dA as A) (hD : Dy M s dC dI dA as A H locs w) (hU : U.heap = H) (hW : s.WarmedH U.vm) : PCt dC dI dA as w H.size U := by
  obtain ⟨hx, hb, hml, hown, hts, hst, hlk, htb, hK, hA, hG, hsc⟩ := hX
  obtain ⟨hP, hDD, hS⟩ := hD
  subst hU
  exact ⟨rfl, hP, va_K.moved hW.alike hK, hDD.weaken (fun _ _ _ _ => trivial), ((hG.kept (fun a h1 h2 => hS.2.1 a h1 h2)).narrow (fA_of hDD hS hA)).warm hW⟩
/-- the run of a call -/
def Rn (M M' : MT) (k pc : Nat) (L : LV) (stk st : List Value) (w : PW) (po' : PO) (px' : PX) : Prop :=
  ∀ (p : Program) (l : Launch) (e : Env) (s : State) (m : MethodId) (args : Array Value) (below : List Frame) (meth : Method) (c : Code) (dC : Nat → ClassId) (dI : Nat → Nat → Nat) (dA : Nat → ClassId) (as : Nat → Nat) (A : Nat → Prop) (H : Heap) (locs : List Loc) (ls : Array Slot),
    Sx M p l s m args meth c dC dI dA as A → Dy M s dC dI dA as A H locs w → lv_has ls (mN M) (emL as L) →
    ∃ a, vx_Run p l e (mR M) s m args below meth c H locs k (6 * k) (mK M') (6 * mK M') (F0 m pc ls (stk.map (em as))) (st.map (em as)) (QCt po' dC dI dA as w H.size a) (XCt px' dC dI dA as w H.size) (va_A (emW as dA w) H.size)
variable {M M' : MT} {po po' : PO} {px px' : PX} {k pc : Nat} {L : LV} {stk st : List Value} {w : PW}
theorem ev_run (hr : Rn M M' k pc L stk st w po' px') (kk : ∀ v u, po' v u → Ev M po px (k + mK M') (pc + 3) L (v.toList ++ st) u) (kx : ∀ E u, px' E u → EvX M po px (k + mK M') pc L E u) : Ev M po px k pc L stk w := by
  intro p l e s m args below meth c dC dI dA as A Q H locs ls hX hE hD hl
  obtain ⟨a, hr⟩ := hr p l e s m args below meth c dC dI dA as A H locs ls hX hD hl
  obtain ⟨hx, hb, hml, hown, hts, hst, hlk, htb, hK, hA, hG, hsc⟩ := id hX
  obtain ⟨hP, hDD, hS⟩ := id hD
  have fA := fA_of hDD hS hA
  have e6 : 6 * k + 6 * mK M' = 6 * (k + mK M') := by omega
  intro T hT X
  rcases hr T hT X with ⟨v, st₀, t, T', Ls, h0, X', hL, e1, e2, ⟨⟨v0, u, hv, hpo, hP1, hD1⟩, hF⟩, stp⟩ | ⟨q, st₀, t, T', Ls, E, ce, h0, X', hL, e1, e2, ⟨⟨u, hpx, hP1, hD1⟩, hF⟩, hce, hcv, hcl, stp⟩
  · cases hv
    rw [e6] at X'
    obtain ⟨k1, k2, k3⟩ := vx_keep h0 e1 hS (fun q _ h => fA q h) fA hL hF
    obtain ⟨t2, a1, b1⟩ := kk v0 u hpo p l e s m args below meth c dC dI dA as A Q T'.heap (locs ++ Ls) ls hX hE ⟨by rw [e1]; exact hP1, hD1.weaken (fun _ _ _ h => fA _ h), k3⟩ hl T' rfl X'
    refine ⟨t2, stp t2 ?_, b1⟩
    cases v0 <;> exact a1
  · rw [e6] at X'
    obtain ⟨k1, k2, k3⟩ := vx_keep h0 e1 hS (fun q _ h => fA q h) fA hL hF
    obtain ⟨t2, a1, b1⟩ := kx E u hpx p l e s m args below meth c dC dI dA as A Q T'.heap (locs ++ Ls) ls hX hE ⟨by rw [e1]; exact hP1, hD1.weaken (fun _ _ _ h => fA _ h), k3⟩ hl (st.map (em as)) ce q (by rw [e1]; exact hce) hcv hcl T' rfl X'
    exact ⟨t2, stp.trans a1, b1⟩
/-- there is room for a call -/
def RF (M M' : MT) (k : Nat) : Prop := (mR M').frames + 1 ≤ (mR M).frames ∧ 8 + (mN M' + 11) + (mR M').locals ≤ (mR M).locals ∧ k + mK M' ≤ (mR M).cells ∧ 6 * (k + mK M') ≤ (mR M).slots
theorem cat_map (as : Nat → Nat) (st : List Value) : ((st.map (em as)).map fun v => v.category) = st.map fun v => v.category := by simp [em_cat]
theorem rn_V {n idx b ci : Nat} {As fs : List Value} (hc : Ct M' (.ref b :: As) w po' px') (hF : MF M' n) (hI : MI M') (hh : mH M' = []) (hlw : Cond.methodLink (mY M).cls idx (mY M') ∈ Gw) (hR : RF M M' k) (hn : As.length = n) (hw : w[b]? = some (.inr (ci, fs))) (hci : (vwC8[ci]?).map (fun q => q.1) = some (mY M').cls) (hs : (st.map fun v => v.category).sum ≤ 8) (d : decode (mC M) pc = .ok (.invokevirtual idx, 3)) : Rn M M' k pc L (As.reverse ++ .ref b :: st) st w po' px' := by
  intro p l e s m args below meth c dC dI dA as A H locs ls hX hD hl
  obtain ⟨hx, hb, hml, hown, hts, hst, hlk, htb, hK, hA, hG, hsc⟩ := id hX
  obtain ⟨hP, hDD, hS⟩ := id hD
  obtain ⟨f1, f2, f3, f4, f5, f6, f7, f8⟩ := hF
  obtain ⟨r1, r2, r3, r4⟩ := hR
  have hW : hdW M' = Cond.code (mY M') (mC M') (mN M') (mT M') := by unfold hdW; rw [if_pos hh]
  obtain ⟨q, hq, hq1⟩ : ∃ q, vwC8[ci]? = some q ∧ q.1 = (mY M').cls := by
    cases hq : vwC8[ci]? with
    | none => rw [hq] at hci; cases hci
    | some q => rw [hq] at hci; exact ⟨q, rfl, Option.some.inj hci⟩
  obtain ⟨j, hj, -⟩ := emW_at as dA hw (isH_of hq)
  have hrec := va_recv hK hP hq hj
  rw [hq1] at hrec
  refine ⟨_, vx_runV (C := (mY M').cls) (b := as b) (As := As.map (em as)) (n := n) ⟨hx, hb, hml, hown, hts⟩ (hc l hst dC dI dA as H.size) ⟨callB_of n hts (gin_hd f1) (by rw [hW]) f5 f6 (hts _ f2) (hts _ hlw) ⟨f3.1, f3.2, f4⟩ ⟨r1, r2⟩, hts _ hI.1, hts _ hI.2⟩ ⟨pct_blind _ _ _ _ _ _ _, hrec, fun U hU hWm => ⟨rfl, pct_at hX hD hU hWm⟩⟩ rfl (by simpa using hn) hl.1 (by simp [em]) (lv_room (by rw [cat_map]; exact hs)) d ⟨r3, by omega⟩⟩
theorem rn_S {n idx : Nat} {As : List Value} (hc : Ct M' As w po' px') (hF : MF M' n) (hI : MS9 M') (hh : mH M' = []) (hlw : Cond.methodLink (mY M).cls idx (mY M') ∈ Gw) (hR : RF M M' k) (hn : As.length = n) (hs : (st.map fun v => v.category).sum ≤ 8) (d : decode (mC M) pc = .ok (.invokestatic idx, 3)) : Rn M M' k pc L (As.reverse ++ st) st w po' px' := by
  intro p l e s m args below meth c dC dI dA as A H locs ls hX hD hl
  obtain ⟨hx, hb, hml, hown, hts, hst, hlk, htb, hK, hA, hG, hsc⟩ := id hX
  obtain ⟨f1, f2, f3, f4, f5, f6, f7, f8⟩ := hF
  obtain ⟨r1, r2, r3, r4⟩ := hR
  have hW : hdW M' = Cond.code (mY M') (mC M') (mN M') (mT M') := by unfold hdW; rw [if_pos hh]
  exact ⟨_, vx_runS (As := As.map (em as)) (n := n) ⟨hx, hb, hml, hown, hts⟩ (hc l hst dC dI dA as H.size) ⟨callB_of n hts (gin_hd f1) (by rw [hW]) f5 f6 (hts _ f2) (hts _ hlw) ⟨f3.1, f3.2, f4⟩ ⟨r1, r2⟩, hts _ hI⟩ ⟨pct_blind _ _ _ _ _ _ _, fun U hU hWm => ⟨rfl, pct_at hX hD hU hWm⟩⟩ rfl (by simpa using hn) hl.1 (by simp [em]) (lv_room (by rw [cat_map]; exact hs)) d ⟨r3, by omega⟩⟩
/-- a static method of a nest mate -/
theorem rn_N {n idx : Nat} {host : String} {As : List Value} (hc : Ct M' As w po' px') (hF : MF M' n) (hI : MS9 M') (hh : mH M' = []) (hnw : ∀ as A U H, GX as A U H → va_Nw (.methodLinkNest (mY M).cls idx (mY M') host) U) (hR : RF M M' k) (hn : As.length = n) (hs : (st.map fun v => v.category).sum ≤ 8) (d : decode (mC M) pc = .ok (.invokestatic idx, 3)) : Rn M M' k pc L (As.reverse ++ st) st w po' px' := by
  intro p l e s m args below meth c dC dI dA as A H locs ls hX hD hl
  obtain ⟨hx, hb, hml, hown, hts, hst, hlk, htb, hK, hA, hG, hsc⟩ := id hX
  obtain ⟨f1, f2, f3, f4, f5, f6, f7, f8⟩ := hF
  obtain ⟨r1, r2, r3, r4⟩ := hR
  have hW : hdW M' = Cond.code (mY M') (mC M') (mN M') (mT M') := by unfold hdW; rw [if_pos hh]
  exact ⟨_, vx_runSN (As := As.map (em as)) (n := n) (host := host) ⟨hx, hb, hml, hown, hts⟩ (hc l hst dC dI dA as H.size) ⟨va_cnB n hts (gin_hd f1) (by rw [hW]) f5 f6 (hnw _ _ _ _ hG) (hts _ f2) ⟨f3.1, f3.2, f4⟩ ⟨r1, r2⟩, hts _ hI, trivial⟩ ⟨pct_blind _ _ _ _ _ _ _, fun U hU hWm => ⟨rfl, pct_at hX hD hU hWm⟩⟩ rfl (by simpa using hn) hl.1 (by simp [em]) (lv_room (by rw [cat_map]; exact hs)) d ⟨r3, by omega⟩⟩
end CT
/-- what a call needs of its method, in one word -/
def MKV (M' : MT) (n : Nat) : Prop := MF M' n ∧ MI M' ∧ mH M' = []
def MKS (M' : MT) (n : Nat) : Prop := MF M' n ∧ MS9 M' ∧ mH M' = []
def rfB (M M' : MT) (k : Nat) : Bool := Nat.ble ((mR M').frames + 1) (mR M).frames && (Nat.ble (8 + (mN M' + 11) + (mR M').locals) (mR M).locals && (Nat.ble (k + mK M') (mR M).cells && Nat.ble (6 * (k + mK M')) (mR M).slots))
theorem rf_of {M M' : MT} {k : Nat} (h : rfB M M' k = true) : RF M M' k := by
  simp only [rfB, Bool.and_eq_true, Nat.ble_eq] at h
  exact h
def stB (st : List Value) : Bool := Nat.ble (st.map fun v => v.category).sum 8
/-- one answer, one world; no throw -/
abbrev d1 (r : Option Value) (u : PW) : PO := fun v u' => v = r ∧ u' = u
abbrev nx : PX := fun _ _ => False
section CALLS
variable {M M' : MT} {po : PO} {px : PX} {k pc : Nat} {L : LV} {st : List Value} {w u : PW} {idx b ci : Nat} {fs : List Value}
theorem ev_cV0 {r : Value} (hc : Ct M' [.ref b] w (d1 (some r) u) nx) (hM : MKV M' 0) (hz : mK M' = 0) (hlw : Cond.methodLink (mY M).cls idx (mY M') ∈ Gw) (hR : rfB M M' k = true) (hw : w[b]? = some (.inr (ci, fs))) (hci : (vwC8[ci]?).map (fun q => q.1) = some (mY M').cls) (hs : stB st = true) (d : decode (mC M) pc = .ok (.invokevirtual idx, 3)) (kk : Ev M po px k (pc + 3) L (r :: st) u) : Ev M po px k pc L (.ref b :: st) w := by
  refine ev_run (rn_V (As := []) hc hM.1 hM.2.1 hM.2.2 hlw (rf_of hR) rfl hw hci (Nat.le_of_ble_eq_true hs) d) (fun v u' h => ?_) (fun _ _ h => h.elim)
  obtain ⟨rfl, rfl⟩ := h
  rw [hz]
  exact kk
theorem ev_cV0v (hc : Ct M' [.ref b] w (d1 (none) u) nx) (hM : MKV M' 0) (hz : mK M' = 0) (hlw : Cond.methodLink (mY M).cls idx (mY M') ∈ Gw) (hR : rfB M M' k = true) (hw : w[b]? = some (.inr (ci, fs))) (hci : (vwC8[ci]?).map (fun q => q.1) = some (mY M').cls) (hs : stB st = true) (d : decode (mC M) pc = .ok (.invokevirtual idx, 3)) (kk : Ev M po px k (pc + 3) L (st) u) : Ev M po px k pc L (.ref b :: st) w := by
  refine ev_run (rn_V (As := []) hc hM.1 hM.2.1 hM.2.2 hlw (rf_of hR) rfl hw hci (Nat.le_of_ble_eq_true hs) d) (fun v u' h => ?_) (fun _ _ h => h.elim)
  obtain ⟨rfl, rfl⟩ := h
  rw [hz]
  exact kk
theorem ev_cS0 {r : Value} (hc : Ct M' [] w (d1 (some r) u) nx) (hM : MKS M' 0) (hz : mK M' = 0) (hlw : Cond.methodLink (mY M).cls idx (mY M') ∈ Gw) (hR : rfB M M' k = true) (hs : stB st = true) (d : decode (mC M) pc = .ok (.invokestatic idx, 3)) (kk : Ev M po px k (pc + 3) L (r :: st) u) : Ev M po px k pc L (st) w := by
  refine ev_run (rn_S (As := []) hc hM.1 hM.2.1 hM.2.2 hlw (rf_of hR) rfl (Nat.le_of_ble_eq_true hs) d) (fun v u' h => ?_) (fun _ _ h => h.elim)
  obtain ⟨rfl, rfl⟩ := h
  rw [hz]
  exact kk
theorem ev_cN0 {host : String} {r : Value} (hc : Ct M' [] w (d1 (some r) u) nx) (hM : MKS M' 0) (hz : mK M' = 0) (hnw : ∀ as A U H, GX as A U H → va_Nw (.methodLinkNest (mY M).cls idx (mY M') host) U) (hR : rfB M M' k = true) (hs : stB st = true) (d : decode (mC M) pc = .ok (.invokestatic idx, 3)) (kk : Ev M po px k (pc + 3) L (r :: st) u) : Ev M po px k pc L (st) w := by
  refine ev_run (rn_N (As := []) hc hM.1 hM.2.1 hM.2.2 hnw (rf_of hR) rfl (Nat.le_of_ble_eq_true hs) d) (fun v u' h => ?_) (fun _ _ h => h.elim)
  obtain ⟨rfl, rfl⟩ := h
  rw [hz]
  exact kk
theorem ev_cV1 {x1 : Value} {r : Value} (hc : Ct M' [.ref b, x1] w (d1 (some r) u) nx) (hM : MKV M' 1) (hz : mK M' = 0) (hlw : Cond.methodLink (mY M).cls idx (mY M') ∈ Gw) (hR : rfB M M' k = true) (hw : w[b]? = some (.inr (ci, fs))) (hci : (vwC8[ci]?).map (fun q => q.1) = some (mY M').cls) (hs : stB st = true) (d : decode (mC M) pc = .ok (.invokevirtual idx, 3)) (kk : Ev M po px k (pc + 3) L (r :: st) u) : Ev M po px k pc L (x1 :: .ref b :: st) w := by
  refine ev_run (rn_V (As := [x1]) hc hM.1 hM.2.1 hM.2.2 hlw (rf_of hR) rfl hw hci (Nat.le_of_ble_eq_true hs) d) (fun v u' h => ?_) (fun _ _ h => h.elim)
  obtain ⟨rfl, rfl⟩ := h
  rw [hz]
  exact kk
theorem ev_cV1v {x1 : Value} (hc : Ct M' [.ref b, x1] w (d1 (none) u) nx) (hM : MKV M' 1) (hz : mK M' = 0) (hlw : Cond.methodLink (mY M).cls idx (mY M') ∈ Gw) (hR : rfB M M' k = true) (hw : w[b]? = some (.inr (ci, fs))) (hci : (vwC8[ci]?).map (fun q => q.1) = some (mY M').cls) (hs : stB st = true) (d : decode (mC M) pc = .ok (.invokevirtual idx, 3)) (kk : Ev M po px k (pc + 3) L (st) u) : Ev M po px k pc L (x1 :: .ref b :: st) w := by
  refine ev_run (rn_V (As := [x1]) hc hM.1 hM.2.1 hM.2.2 hlw (rf_of hR) rfl hw hci (Nat.le_of_ble_eq_true hs) d) (fun v u' h => ?_) (fun _ _ h => h.elim)
  obtain ⟨rfl, rfl⟩ := h
  rw [hz]
  exact kk
theorem ev_cS1 {x1 : Value} {r : Value} (hc : Ct M' [x1] w (d1 (some r) u) nx) (hM : MKS M' 1) (hz : mK M' = 0) (hlw : Cond.methodLink (mY M).cls idx (mY M') ∈ Gw) (hR : rfB M M' k = true) (hs : stB st = true) (d : decode (mC M) pc = .ok (.invokestatic idx, 3)) (kk : Ev M po px k (pc + 3) L (r :: st) u) : Ev M po px k pc L (x1 :: st) w := by
  refine ev_run (rn_S (As := [x1]) hc hM.1 hM.2.1 hM.2.2 hlw (rf_of hR) rfl (Nat.le_of_ble_eq_true hs) d) (fun v u' h => ?_) (fun _ _ h => h.elim)
  obtain ⟨rfl, rfl⟩ := h
  rw [hz]
  exact kk
theorem ev_cN1 {host : String} {x1 : Value} {r : Value} (hc : Ct M' [x1] w (d1 (some r) u) nx) (hM : MKS M' 1) (hz : mK M' = 0) (hnw : ∀ as A U H, GX as A U H → va_Nw (.methodLinkNest (mY M).cls idx (mY M') host) U) (hR : rfB M M' k = true) (hs : stB st = true) (d : decode (mC M) pc = .ok (.invokestatic idx, 3)) (kk : Ev M po px k (pc + 3) L (r :: st) u) : Ev M po px k pc L (x1 :: st) w := by
  refine ev_run (rn_N (As := [x1]) hc hM.1 hM.2.1 hM.2.2 hnw (rf_of hR) rfl (Nat.le_of_ble_eq_true hs) d) (fun v u' h => ?_) (fun _ _ h => h.elim)
  obtain ⟨rfl, rfl⟩ := h
  rw [hz]
  exact kk
theorem ev_cV2 {x1 x2 : Value} {r : Value} (hc : Ct M' [.ref b, x1, x2] w (d1 (some r) u) nx) (hM : MKV M' 2) (hz : mK M' = 0) (hlw : Cond.methodLink (mY M).cls idx (mY M') ∈ Gw) (hR : rfB M M' k = true) (hw : w[b]? = some (.inr (ci, fs))) (hci : (vwC8[ci]?).map (fun q => q.1) = some (mY M').cls) (hs : stB st = true) (d : decode (mC M) pc = .ok (.invokevirtual idx, 3)) (kk : Ev M po px k (pc + 3) L (r :: st) u) : Ev M po px k pc L (x2 :: x1 :: .ref b :: st) w := by
  refine ev_run (rn_V (As := [x1, x2]) hc hM.1 hM.2.1 hM.2.2 hlw (rf_of hR) rfl hw hci (Nat.le_of_ble_eq_true hs) d) (fun v u' h => ?_) (fun _ _ h => h.elim)
  obtain ⟨rfl, rfl⟩ := h
  rw [hz]
  exact kk
theorem ev_cV2v {x1 x2 : Value} (hc : Ct M' [.ref b, x1, x2] w (d1 (none) u) nx) (hM : MKV M' 2) (hz : mK M' = 0) (hlw : Cond.methodLink (mY M).cls idx (mY M') ∈ Gw) (hR : rfB M M' k = true) (hw : w[b]? = some (.inr (ci, fs))) (hci : (vwC8[ci]?).map (fun q => q.1) = some (mY M').cls) (hs : stB st = true) (d : decode (mC M) pc = .ok (.invokevirtual idx, 3)) (kk : Ev M po px k (pc + 3) L (st) u) : Ev M po px k pc L (x2 :: x1 :: .ref b :: st) w := by
  refine ev_run (rn_V (As := [x1, x2]) hc hM.1 hM.2.1 hM.2.2 hlw (rf_of hR) rfl hw hci (Nat.le_of_ble_eq_true hs) d) (fun v u' h => ?_) (fun _ _ h => h.elim)
  obtain ⟨rfl, rfl⟩ := h
  rw [hz]
  exact kk
theorem ev_cS2 {x1 x2 : Value} {r : Value} (hc : Ct M' [x1, x2] w (d1 (some r) u) nx) (hM : MKS M' 2) (hz : mK M' = 0) (hlw : Cond.methodLink (mY M).cls idx (mY M') ∈ Gw) (hR : rfB M M' k = true) (hs : stB st = true) (d : decode (mC M) pc = .ok (.invokestatic idx, 3)) (kk : Ev M po px k (pc + 3) L (r :: st) u) : Ev M po px k pc L (x2 :: x1 :: st) w := by
  refine ev_run (rn_S (As := [x1, x2]) hc hM.1 hM.2.1 hM.2.2 hlw (rf_of hR) rfl (Nat.le_of_ble_eq_true hs) d) (fun v u' h => ?_) (fun _ _ h => h.elim)
  obtain ⟨rfl, rfl⟩ := h
  rw [hz]
  exact kk
theorem ev_cN2 {host : String} {x1 x2 : Value} {r : Value} (hc : Ct M' [x1, x2] w (d1 (some r) u) nx) (hM : MKS M' 2) (hz : mK M' = 0) (hnw : ∀ as A U H, GX as A U H → va_Nw (.methodLinkNest (mY M).cls idx (mY M') host) U) (hR : rfB M M' k = true) (hs : stB st = true) (d : decode (mC M) pc = .ok (.invokestatic idx, 3)) (kk : Ev M po px k (pc + 3) L (r :: st) u) : Ev M po px k pc L (x2 :: x1 :: st) w := by
  refine ev_run (rn_N (As := [x1, x2]) hc hM.1 hM.2.1 hM.2.2 hnw (rf_of hR) rfl (Nat.le_of_ble_eq_true hs) d) (fun v u' h => ?_) (fun _ _ h => h.elim)
  obtain ⟨rfl, rfl⟩ := h
  rw [hz]
  exact kk
theorem ev_cV3 {x1 x2 x3 : Value} {r : Value} (hc : Ct M' [.ref b, x1, x2, x3] w (d1 (some r) u) nx) (hM : MKV M' 3) (hz : mK M' = 0) (hlw : Cond.methodLink (mY M).cls idx (mY M') ∈ Gw) (hR : rfB M M' k = true) (hw : w[b]? = some (.inr (ci, fs))) (hci : (vwC8[ci]?).map (fun q => q.1) = some (mY M').cls) (hs : stB st = true) (d : decode (mC M) pc = .ok (.invokevirtual idx, 3)) (kk : Ev M po px k (pc + 3) L (r :: st) u) : Ev M po px k pc L (x3 :: x2 :: x1 :: .ref b :: st) w := by
  refine ev_run (rn_V (As := [x1, x2, x3]) hc hM.1 hM.2.1 hM.2.2 hlw (rf_of hR) rfl hw hci (Nat.le_of_ble_eq_true hs) d) (fun v u' h => ?_) (fun _ _ h => h.elim)
  obtain ⟨rfl, rfl⟩ := h
  rw [hz]
  exact kk
theorem ev_cV3v {x1 x2 x3 : Value} (hc : Ct M' [.ref b, x1, x2, x3] w (d1 (none) u) nx) (hM : MKV M' 3) (hz : mK M' = 0) (hlw : Cond.methodLink (mY M).cls idx (mY M') ∈ Gw) (hR : rfB M M' k = true) (hw : w[b]? = some (.inr (ci, fs))) (hci : (vwC8[ci]?).map (fun q => q.1) = some (mY M').cls) (hs : stB st = true) (d : decode (mC M) pc = .ok (.invokevirtual idx, 3)) (kk : Ev M po px k (pc + 3) L (st) u) : Ev M po px k pc L (x3 :: x2 :: x1 :: .ref b :: st) w := by
  refine ev_run (rn_V (As := [x1, x2, x3]) hc hM.1 hM.2.1 hM.2.2 hlw (rf_of hR) rfl hw hci (Nat.le_of_ble_eq_true hs) d) (fun v u' h => ?_) (fun _ _ h => h.elim)
  obtain ⟨rfl, rfl⟩ := h
  rw [hz]
  exact kk
theorem ev_cS3 {x1 x2 x3 : Value} {r : Value} (hc : Ct M' [x1, x2, x3] w (d1 (some r) u) nx) (hM : MKS M' 3) (hz : mK M' = 0) (hlw : Cond.methodLink (mY M).cls idx (mY M') ∈ Gw) (hR : rfB M M' k = true) (hs : stB st = true) (d : decode (mC M) pc = .ok (.invokestatic idx, 3)) (kk : Ev M po px k (pc + 3) L (r :: st) u) : Ev M po px k pc L (x3 :: x2 :: x1 :: st) w := by
  refine ev_run (rn_S (As := [x1, x2, x3]) hc hM.1 hM.2.1 hM.2.2 hlw (rf_of hR) rfl (Nat.le_of_ble_eq_true hs) d) (fun v u' h => ?_) (fun _ _ h => h.elim)
  obtain ⟨rfl, rfl⟩ := h
  rw [hz]
  exact kk
theorem ev_cN3 {host : String} {x1 x2 x3 : Value} {r : Value} (hc : Ct M' [x1, x2, x3] w (d1 (some r) u) nx) (hM : MKS M' 3) (hz : mK M' = 0) (hnw : ∀ as A U H, GX as A U H → va_Nw (.methodLinkNest (mY M).cls idx (mY M') host) U) (hR : rfB M M' k = true) (hs : stB st = true) (d : decode (mC M) pc = .ok (.invokestatic idx, 3)) (kk : Ev M po px k (pc + 3) L (r :: st) u) : Ev M po px k pc L (x3 :: x2 :: x1 :: st) w := by
  refine ev_run (rn_N (As := [x1, x2, x3]) hc hM.1 hM.2.1 hM.2.2 hnw (rf_of hR) rfl (Nat.le_of_ble_eq_true hs) d) (fun v u' h => ?_) (fun _ _ h => h.elim)
  obtain ⟨rfl, rfl⟩ := h
  rw [hz]
  exact kk
theorem ev_cV4 {x1 x2 x3 x4 : Value} {r : Value} (hc : Ct M' [.ref b, x1, x2, x3, x4] w (d1 (some r) u) nx) (hM : MKV M' 4) (hz : mK M' = 0) (hlw : Cond.methodLink (mY M).cls idx (mY M') ∈ Gw) (hR : rfB M M' k = true) (hw : w[b]? = some (.inr (ci, fs))) (hci : (vwC8[ci]?).map (fun q => q.1) = some (mY M').cls) (hs : stB st = true) (d : decode (mC M) pc = .ok (.invokevirtual idx, 3)) (kk : Ev M po px k (pc + 3) L (r :: st) u) : Ev M po px k pc L (x4 :: x3 :: x2 :: x1 :: .ref b :: st) w := by
  refine ev_run (rn_V (As := [x1, x2, x3, x4]) hc hM.1 hM.2.1 hM.2.2 hlw (rf_of hR) rfl hw hci (Nat.le_of_ble_eq_true hs) d) (fun v u' h => ?_) (fun _ _ h => h.elim)
  obtain ⟨rfl, rfl⟩ := h
  rw [hz]
  exact kk
theorem ev_cV4v {x1 x2 x3 x4 : Value} (hc : Ct M' [.ref b, x1, x2, x3, x4] w (d1 (none) u) nx) (hM : MKV M' 4) (hz : mK M' = 0) (hlw : Cond.methodLink (mY M).cls idx (mY M') ∈ Gw) (hR : rfB M M' k = true) (hw : w[b]? = some (.inr (ci, fs))) (hci : (vwC8[ci]?).map (fun q => q.1) = some (mY M').cls) (hs : stB st = true) (d : decode (mC M) pc = .ok (.invokevirtual idx, 3)) (kk : Ev M po px k (pc + 3) L (st) u) : Ev M po px k pc L (x4 :: x3 :: x2 :: x1 :: .ref b :: st) w := by
  refine ev_run (rn_V (As := [x1, x2, x3, x4]) hc hM.1 hM.2.1 hM.2.2 hlw (rf_of hR) rfl hw hci (Nat.le_of_ble_eq_true hs) d) (fun v u' h => ?_) (fun _ _ h => h.elim)
  obtain ⟨rfl, rfl⟩ := h
  rw [hz]
  exact kk
theorem ev_cS4 {x1 x2 x3 x4 : Value} {r : Value} (hc : Ct M' [x1, x2, x3, x4] w (d1 (some r) u) nx) (hM : MKS M' 4) (hz : mK M' = 0) (hlw : Cond.methodLink (mY M).cls idx (mY M') ∈ Gw) (hR : rfB M M' k = true) (hs : stB st = true) (d : decode (mC M) pc = .ok (.invokestatic idx, 3)) (kk : Ev M po px k (pc + 3) L (r :: st) u) : Ev M po px k pc L (x4 :: x3 :: x2 :: x1 :: st) w := by
  refine ev_run (rn_S (As := [x1, x2, x3, x4]) hc hM.1 hM.2.1 hM.2.2 hlw (rf_of hR) rfl (Nat.le_of_ble_eq_true hs) d) (fun v u' h => ?_) (fun _ _ h => h.elim)
  obtain ⟨rfl, rfl⟩ := h
  rw [hz]
  exact kk
theorem ev_cN4 {host : String} {x1 x2 x3 x4 : Value} {r : Value} (hc : Ct M' [x1, x2, x3, x4] w (d1 (some r) u) nx) (hM : MKS M' 4) (hz : mK M' = 0) (hnw : ∀ as A U H, GX as A U H → va_Nw (.methodLinkNest (mY M).cls idx (mY M') host) U) (hR : rfB M M' k = true) (hs : stB st = true) (d : decode (mC M) pc = .ok (.invokestatic idx, 3)) (kk : Ev M po px k (pc + 3) L (r :: st) u) : Ev M po px k pc L (x4 :: x3 :: x2 :: x1 :: st) w := by
  refine ev_run (rn_N (As := [x1, x2, x3, x4]) hc hM.1 hM.2.1 hM.2.2 hnw (rf_of hR) rfl (Nat.le_of_ble_eq_true hs) d) (fun v u' h => ?_) (fun _ _ h => h.elim)
  obtain ⟨rfl, rfl⟩ := h
  rw [hz]
  exact kk
end CALLS
end
section
/-! ===== the methods as data: rooms by the graph of calls ===== -/
abbrev mX3_init : MT := (yX3_init, none, cX3_init, 2, { frames := 2, cells := 0, slots := 0, locals := 60 }, [], 0, none)
abbrev mX1_init : MT := (yX1_init, none, cX1_init, 1, { frames := 1, cells := 0, slots := 0, locals := 40 }, [], 0, none)
abbrev mX2_init : MT := (yX2_init, none, cX2_init, 1, { frames := 1, cells := 0, slots := 0, locals := 40 }, [], 0, none)
abbrev mX0_init : MT := (yX0_init, none, cX0_init, 1, { frames := 1, cells := 0, slots := 0, locals := 40 }, [], 0, none)
abbrev mL_cell : MT := (yL_cell, (some .int), cL_cell, 2, { frames := 0, cells := 0, slots := 0, locals := 0 }, [], 0, none)
theorem kL_cell : MKS mL_cell 2 := ⟨⟨(by rw [hdW, if_pos rfl]; exact g212), g3, ⟨by decide, by decide⟩, by decide +kernel, rfl, rfl, by decide +kernel, rfl⟩, g211, rfl⟩
abbrev mL_low : MT := (yL_low, (some .int), cL_low, 2, { frames := 0, cells := 0, slots := 0, locals := 0 }, [], 0, none)
theorem kL_low : MKS mL_low 2 := ⟨⟨(by rw [hdW, if_pos rfl]; exact g215), g3, ⟨by decide, by decide⟩, by decide +kernel, rfl, rfl, by decide +kernel, rfl⟩, g214, rfl⟩
abbrev mL_does : MT := (yL_does, (some .boolean), cL_does, 16, { frames := 9, cells := 44, slots := 264, locals := 165 }, [], 44, none)
theorem kL_does : MKS mL_does 3 := ⟨⟨(by rw [hdW, if_pos rfl]; exact g219), g3, ⟨by decide, by decide⟩, by decide +kernel, rfl, rfl, by decide +kernel, rfl⟩, g218, rfl⟩
abbrev mX3_calls : MT := (yX3_calls, (some .int), cX3_calls, 1, { frames := 0, cells := 0, slots := 0, locals := 0 }, [], 0, none)
theorem kX3_calls : MKV mX3_calls 0 := ⟨⟨(by rw [hdW, if_pos rfl]; exact g223), g4, ⟨by decide, by decide⟩, by decide +kernel, rfl, rfl, by decide +kernel, rfl⟩, ⟨g221, g222⟩, rfl⟩
abbrev mX3_setPrice : MT := (yX3_setPrice, (some .int), cX3_setPrice, 3, { frames := 7, cells := 2, slots := 12, locals := 113 }, [], 2, none)
theorem kX3_setPrice : MKV mX3_setPrice 2 := ⟨⟨(by rw [hdW, if_pos rfl]; exact g227), g4, ⟨by decide, by decide⟩, by decide +kernel, rfl, rfl, by decide +kernel, rfl⟩, ⟨g225, g226⟩, rfl⟩
abbrev mX3_needKind : MT := (yX3_needKind, none, cX3_needKind, 1, { frames := 6, cells := 1, slots := 6, locals := 90 }, [], 1, none)
theorem kX3_needKind : MKS mX3_needKind 1 := ⟨⟨(by rw [hdW, if_pos rfl]; exact g230), g4, ⟨by decide, by decide⟩, by decide +kernel, rfl, rfl, by decide +kernel, rfl⟩, g229, rfl⟩
abbrev mX3_needRange : MT := (yX3_needRange, none, cX3_needRange, 3, { frames := 6, cells := 1, slots := 6, locals := 90 }, [], 1, none)
theorem kX3_needRange : MKS mX3_needRange 3 := ⟨⟨(by rw [hdW, if_pos rfl]; exact g296), g4, ⟨by decide, by decide⟩, by decide +kernel, rfl, rfl, by decide +kernel, rfl⟩, g295, rfl⟩
abbrev mX3_save : MT := (yX3_save, none, cX3_save, 1, { frames := 2, cells := 0, slots := 0, locals := 81 }, [], 0, none)
theorem kX3_save : MKV mX3_save 0 := ⟨⟨(by rw [hdW, if_pos rfl]; exact g315), g4, ⟨by decide, by decide⟩, by decide +kernel, rfl, rfl, by decide +kernel, rfl⟩, ⟨g314, g1⟩, rfl⟩
abbrev mX0_copyFrom : MT := (yX0_copyFrom, none, cX0_copyFrom, 2, { frames := 1, cells := 0, slots := 0, locals := 60 }, [], 0, none)
theorem kX0_copyFrom : MKV mX0_copyFrom 1 := ⟨⟨(by rw [hdW, if_pos rfl]; exact g319), g7, ⟨by decide, by decide⟩, by decide +kernel, rfl, rfl, by decide +kernel, rfl⟩, ⟨g317, g318⟩, rfl⟩
abbrev mX3_saveBefore : MT := (yX3_saveBefore, none, cX3_saveBefore, 3, { frames := 0, cells := 0, slots := 0, locals := 0 }, [], 0, none)
theorem kX3_saveBefore : MKV mX3_saveBefore 0 := ⟨⟨(by rw [hdW, if_pos rfl]; exact g326), g4, ⟨by decide, by decide⟩, by decide +kernel, rfl, rfl, by decide +kernel, rfl⟩, ⟨g325, g2⟩, rfl⟩
abbrev mX0_putPrice : MT := (yX0_putPrice, (some .int), cX0_putPrice, 3, { frames := 4, cells := 0, slots := 0, locals := 91 }, [], 0, none)
theorem kX0_putPrice : MKV mX0_putPrice 2 := ⟨⟨(by rw [hdW, if_pos rfl]; exact g330), g7, ⟨by decide, by decide⟩, by decide +kernel, rfl, rfl, by decide +kernel, rfl⟩, ⟨g328, g329⟩, rfl⟩
abbrev mX0_lookAtClients : MT := (yX0_lookAtClients, (some .int), cX0_lookAtClients, 3, { frames := 3, cells := 0, slots := 0, locals := 69 }, [], 0, none)
theorem kX0_lookAtClients : MKV mX0_lookAtClients 0 := ⟨⟨(by rw [hdW, if_pos rfl]; exact g334), g7, ⟨by decide, by decide⟩, by decide +kernel, rfl, rfl, by decide +kernel, rfl⟩, ⟨g332, g333⟩, rfl⟩
abbrev mX0_cover : MT := (yX0_cover, (some .int), cX0_cover, 2, { frames := 2, cells := 0, slots := 0, locals := 48 }, [], 0, none)
theorem kX0_cover : MKV mX0_cover 1 := ⟨⟨(by rw [hdW, if_pos rfl]; exact g338), g7, ⟨by decide, by decide⟩, by decide +kernel, rfl, rfl, by decide +kernel, rfl⟩, ⟨g336, g337⟩, rfl⟩
abbrev mX0_coverAfterFall : MT := (yX0_coverAfterFall, (some .int), cX0_coverAfterFall, 6, { frames := 1, cells := 0, slots := 0, locals := 23 }, [], 0, none)
theorem kX0_coverAfterFall : MKV mX0_coverAfterFall 3 := ⟨⟨(by rw [hdW, if_pos rfl]; exact g342), g7, ⟨by decide, by decide⟩, by decide +kernel, rfl, rfl, by decide +kernel, rfl⟩, ⟨g340, g341⟩, rfl⟩
abbrev mX3_at : MT := (yX3_at, (some .int), cX3_at, 2, { frames := 0, cells := 0, slots := 0, locals := 0 }, [], 0, none)
theorem kX3_at : MKS mX3_at 2 := ⟨⟨(by rw [hdW, if_pos rfl]; exact g345), g4, ⟨by decide, by decide⟩, by decide +kernel, rfl, rfl, by decide +kernel, rfl⟩, g344, rfl⟩
abbrev mX3_fallen : MT := (yX3_fallen, (some .int), cX3_fallen, 4, { frames := 0, cells := 0, slots := 0, locals := 0 }, [], 0, none)
theorem kX3_fallen : MKS mX3_fallen 3 := ⟨⟨(by rw [hdW, if_pos rfl]; exact g348), g4, ⟨by decide, by decide⟩, by decide +kernel, rfl, rfl, by decide +kernel, rfl⟩, g347, rfl⟩
abbrev mX3_priceOf : MT := (yX3_priceOf, (some .int), cX3_priceOf, 2, { frames := 7, cells := 1, slots := 6, locals := 110 }, [], 1, none)
theorem kX3_priceOf : MKV mX3_priceOf 1 := ⟨⟨(by rw [hdW, if_pos rfl]; exact g352), g4, ⟨by decide, by decide⟩, by decide +kernel, rfl, rfl, by decide +kernel, rfl⟩, ⟨g350, g351⟩, rfl⟩
abbrev mX3_setCut : MT := (yX3_setCut, (some .int), cX3_setCut, 3, { frames := 7, cells := 2, slots := 12, locals := 113 }, [], 2, none)
theorem kX3_setCut : MKV mX3_setCut 2 := ⟨⟨(by rw [hdW, if_pos rfl]; exact g356), g4, ⟨by decide, by decide⟩, by decide +kernel, rfl, rfl, by decide +kernel, rfl⟩, ⟨g354, g355⟩, rfl⟩
abbrev mX0_putCut : MT := (yX0_putCut, (some .int), cX0_putCut, 3, { frames := 4, cells := 0, slots := 0, locals := 91 }, [], 0, none)
theorem kX0_putCut : MKV mX0_putCut 2 := ⟨⟨(by rw [hdW, if_pos rfl]; exact g360), g7, ⟨by decide, by decide⟩, by decide +kernel, rfl, rfl, by decide +kernel, rfl⟩, ⟨g358, g359⟩, rfl⟩
abbrev mX3_cutOf : MT := (yX3_cutOf, (some .int), cX3_cutOf, 2, { frames := 7, cells := 1, slots := 6, locals := 110 }, [], 1, none)
theorem kX3_cutOf : MKV mX3_cutOf 1 := ⟨⟨(by rw [hdW, if_pos rfl]; exact g364), g4, ⟨by decide, by decide⟩, by decide +kernel, rfl, rfl, by decide +kernel, rfl⟩, ⟨g362, g363⟩, rfl⟩
abbrev mX3_calledIfFallen : MT := (yX3_calledIfFallen, (some .int), cX3_calledIfFallen, 2, { frames := 7, cells := 1, slots := 6, locals := 112 }, [], 1, none)
theorem kX3_calledIfFallen : MKV mX3_calledIfFallen 1 := ⟨⟨(by rw [hdW, if_pos rfl]; exact g368), g4, ⟨by decide, by decide⟩, by decide +kernel, rfl, rfl, by decide +kernel, rfl⟩, ⟨g366, g367⟩, rfl⟩
abbrev mX0_countUncoveredAfterFall : MT := (yX0_countUncoveredAfterFall, (some .int), cX0_countUncoveredAfterFall, 4, { frames := 3, cells := 0, slots := 0, locals := 71 }, [], 0, none)
theorem kX0_countUncoveredAfterFall : MKV mX0_countUncoveredAfterFall 1 := ⟨⟨(by rw [hdW, if_pos rfl]; exact g372), g7, ⟨by decide, by decide⟩, by decide +kernel, rfl, rfl, by decide +kernel, rfl⟩, ⟨g370, g371⟩, rfl⟩
abbrev mX0_staysCovered : MT := (yX0_staysCovered, (some .boolean), cX0_staysCovered, 4, { frames := 2, cells := 0, slots := 0, locals := 48 }, [], 0, none)
theorem kX0_staysCovered : MKV mX0_staysCovered 3 := ⟨⟨(by rw [hdW, if_pos rfl]; exact g376), g7, ⟨by decide, by decide⟩, by decide +kernel, rfl, rfl, by decide +kernel, rfl⟩, ⟨g374, g375⟩, rfl⟩
abbrev mX3_fall : MT := (yX3_fall, (some .int), cX3_fall, 2, { frames := 7, cells := 1, slots := 6, locals := 113 }, [], 1, none)
theorem kX3_fall : MKV mX3_fall 1 := ⟨⟨(by rw [hdW, if_pos rfl]; exact g380), g4, ⟨by decide, by decide⟩, by decide +kernel, rfl, rfl, by decide +kernel, rfl⟩, ⟨g378, g379⟩, rfl⟩
abbrev mX0_dropPrices : MT := (yX0_dropPrices, (some .int), cX0_dropPrices, 3, { frames := 4, cells := 0, slots := 0, locals := 91 }, [], 0, none)
theorem kX0_dropPrices : MKV mX0_dropPrices 1 := ⟨⟨(by rw [hdW, if_pos rfl]; exact g384), g7, ⟨by decide, by decide⟩, by decide +kernel, rfl, rfl, by decide +kernel, rfl⟩, ⟨g382, g383⟩, rfl⟩
abbrev mX3_calledNow : MT := (yX3_calledNow, (some .int), cX3_calledNow, 1, { frames := 1, cells := 0, slots := 0, locals := 22 }, [], 0, none)
theorem kX3_calledNow : MKV mX3_calledNow 0 := ⟨⟨(by rw [hdW, if_pos rfl]; exact g388), g4, ⟨by decide, by decide⟩, by decide +kernel, rfl, rfl, by decide +kernel, rfl⟩, ⟨g386, g387⟩, rfl⟩
abbrev mX0_countCalled : MT := (yX0_countCalled, (some .int), cX0_countCalled, 3, { frames := 0, cells := 0, slots := 0, locals := 0 }, [], 0, none)
theorem kX0_countCalled : MKV mX0_countCalled 0 := ⟨⟨(by rw [hdW, if_pos rfl]; exact g392), g7, ⟨by decide, by decide⟩, by decide +kernel, rfl, rfl, by decide +kernel, rfl⟩, ⟨g390, g391⟩, rfl⟩
abbrev mX3_piecesOf : MT := (yX3_piecesOf, (some .int), cX3_piecesOf, 3, { frames := 7, cells := 2, slots := 12, locals := 110 }, [], 2, none)
theorem kX3_piecesOf : MKV mX3_piecesOf 2 := ⟨⟨(by rw [hdW, if_pos rfl]; exact g396), g4, ⟨by decide, by decide⟩, by decide +kernel, rfl, rfl, by decide +kernel, rfl⟩, ⟨g394, g395⟩, rfl⟩
abbrev mX3_needClient : MT := (yX3_needClient, none, cX3_needClient, 1, { frames := 6, cells := 1, slots := 6, locals := 90 }, [], 1, none)
theorem kX3_needClient : MKS mX3_needClient 1 := ⟨⟨(by rw [hdW, if_pos rfl]; exact g399), g4, ⟨by decide, by decide⟩, by decide +kernel, rfl, rfl, by decide +kernel, rfl⟩, g398, rfl⟩
abbrev mX3_coverOf : MT := (yX3_coverOf, (some .int), cX3_coverOf, 2, { frames := 7, cells := 1, slots := 6, locals := 110 }, [], 1, none)
theorem kX3_coverOf : MKV mX3_coverOf 1 := ⟨⟨(by rw [hdW, if_pos rfl]; exact g404), g4, ⟨by decide, by decide⟩, by decide +kernel, rfl, rfl, by decide +kernel, rfl⟩, ⟨g402, g403⟩, rfl⟩
abbrev mX3_pledge : MT := (yX3_pledge, (some .int), cX3_pledge, 4, { frames := 7, cells := 4, slots := 24, locals := 115 }, [], 4, none)
theorem kX3_pledge : MKV mX3_pledge 3 := ⟨⟨(by rw [hdW, if_pos rfl]; exact g409), g4, ⟨by decide, by decide⟩, by decide +kernel, rfl, rfl, by decide +kernel, rfl⟩, ⟨g407, g408⟩, rfl⟩
abbrev mX0_addPieces : MT := (yX0_addPieces, (some .boolean), cX0_addPieces, 5, { frames := 4, cells := 0, slots := 0, locals := 91 }, [], 0, none)
theorem kX0_addPieces : MKV mX0_addPieces 3 := ⟨⟨(by rw [hdW, if_pos rfl]; exact g413), g7, ⟨by decide, by decide⟩, by decide +kernel, rfl, rfl, by decide +kernel, rfl⟩, ⟨g411, g412⟩, rfl⟩
abbrev mX3_need : MT := (yX3_need, none, cX3_need, 1, { frames := 6, cells := 1, slots := 6, locals := 90 }, [], 1, none)
theorem kX3_need : MKS mX3_need 1 := ⟨⟨(by rw [hdW, if_pos rfl]; exact g416), g4, ⟨by decide, by decide⟩, by decide +kernel, rfl, rfl, by decide +kernel, rfl⟩, g415, rfl⟩
abbrev mX3_coinsOf : MT := (yX3_coinsOf, (some .int), cX3_coinsOf, 2, { frames := 7, cells := 1, slots := 6, locals := 110 }, [], 1, none)
theorem kX3_coinsOf : MKV mX3_coinsOf 1 := ⟨⟨(by rw [hdW, if_pos rfl]; exact g435), g4, ⟨by decide, by decide⟩, by decide +kernel, rfl, rfl, by decide +kernel, rfl⟩, ⟨g433, g434⟩, rfl⟩
abbrev mL_much : MT := (yL_much, (some .int), cL_much, 1, { frames := 1, cells := 0, slots := 0, locals := 21 }, [], 0, none)
theorem kL_much : MKS mL_much 1 := ⟨⟨(by rw [hdW, if_pos rfl]; exact g438), g3, ⟨by decide, by decide⟩, by decide +kernel, rfl, rfl, by decide +kernel, rfl⟩, g437, rfl⟩
abbrev mX3_deposit : MT := (yX3_deposit, (some .int), cX3_deposit, 3, { frames := 7, cells := 3, slots := 18, locals := 113 }, [], 3, none)
theorem kX3_deposit : MKV mX3_deposit 2 := ⟨⟨(by rw [hdW, if_pos rfl]; exact g443), g4, ⟨by decide, by decide⟩, by decide +kernel, rfl, rfl, by decide +kernel, rfl⟩, ⟨g441, g442⟩, rfl⟩
abbrev mX0_addCoins : MT := (yX0_addCoins, (some .boolean), cX0_addCoins, 3, { frames := 4, cells := 0, slots := 0, locals := 91 }, [], 0, none)
theorem kX0_addCoins : MKV mX0_addCoins 2 := ⟨⟨(by rw [hdW, if_pos rfl]; exact g447), g7, ⟨by decide, by decide⟩, by decide +kernel, rfl, rfl, by decide +kernel, rfl⟩, ⟨g445, g446⟩, rfl⟩
abbrev mX3_debtOf : MT := (yX3_debtOf, (some .int), cX3_debtOf, 2, { frames := 7, cells := 1, slots := 6, locals := 110 }, [], 1, none)
theorem kX3_debtOf : MKV mX3_debtOf 1 := ⟨⟨(by rw [hdW, if_pos rfl]; exact g452), g4, ⟨by decide, by decide⟩, by decide +kernel, rfl, rfl, by decide +kernel, rfl⟩, ⟨g450, g451⟩, rfl⟩
abbrev mX3_release : MT := (yX3_release, (some .int), cX3_release, 4, { frames := 7, cells := 4, slots := 24, locals := 115 }, [], 4, none)
theorem kX3_release : MKV mX3_release 3 := ⟨⟨(by rw [hdW, if_pos rfl]; exact g456), g4, ⟨by decide, by decide⟩, by decide +kernel, rfl, rfl, by decide +kernel, rfl⟩, ⟨g454, g455⟩, rfl⟩
abbrev mX0_takePieces : MT := (yX0_takePieces, (some .boolean), cX0_takePieces, 5, { frames := 4, cells := 0, slots := 0, locals := 91 }, [], 0, none)
theorem kX0_takePieces : MKV mX0_takePieces 3 := ⟨⟨(by rw [hdW, if_pos rfl]; exact g460), g7, ⟨by decide, by decide⟩, by decide +kernel, rfl, rfl, by decide +kernel, rfl⟩, ⟨g458, g459⟩, rfl⟩
abbrev mX3_isCalled : MT := (yX3_isCalled, (some .boolean), cX3_isCalled, 2, { frames := 7, cells := 1, slots := 6, locals := 110 }, [], 1, none)
theorem kX3_isCalled : MKV mX3_isCalled 1 := ⟨⟨(by rw [hdW, if_pos rfl]; exact g464), g4, ⟨by decide, by decide⟩, by decide +kernel, rfl, rfl, by decide +kernel, rfl⟩, ⟨g462, g463⟩, rfl⟩
abbrev mL_isLent : MT := (yL_isLent, (some .boolean), cL_isLent, 7, { frames := 8, cells := 7, slots := 42, locals := 135 }, [], 7, none)
theorem kL_isLent : MKS mL_isLent 3 := ⟨⟨(by rw [hdW, if_pos rfl]; exact g467), g3, ⟨by decide, by decide⟩, by decide +kernel, rfl, rfl, by decide +kernel, rfl⟩, g466, rfl⟩
abbrev mX3_roomOf : MT := (yX3_roomOf, (some .int), cX3_roomOf, 2, { frames := 7, cells := 1, slots := 6, locals := 110 }, [], 1, none)
theorem kX3_roomOf : MKV mX3_roomOf 1 := ⟨⟨(by rw [hdW, if_pos rfl]; exact g471), g4, ⟨by decide, by decide⟩, by decide +kernel, rfl, rfl, by decide +kernel, rfl⟩, ⟨g469, g470⟩, rfl⟩
abbrev mX0_openRoom : MT := (yX0_openRoom, (some .int), cX0_openRoom, 3, { frames := 3, cells := 0, slots := 0, locals := 69 }, [], 0, none)
theorem kX0_openRoom : MKV mX0_openRoom 1 := ⟨⟨(by rw [hdW, if_pos rfl]; exact g475), g7, ⟨by decide, by decide⟩, by decide +kernel, rfl, rfl, by decide +kernel, rfl⟩, ⟨g473, g474⟩, rfl⟩
abbrev mX3_lent : MT := (yX3_lent, (some .int), cX3_lent, 1, { frames := 0, cells := 0, slots := 0, locals := 0 }, [], 0, none)
theorem kX3_lent : MKV mX3_lent 0 := ⟨⟨(by rw [hdW, if_pos rfl]; exact g479), g4, ⟨by decide, by decide⟩, by decide +kernel, rfl, rfl, by decide +kernel, rfl⟩, ⟨g477, g478⟩, rfl⟩
abbrev mX3_lend : MT := (yX3_lend, (some .int), cX3_lend, 3, { frames := 7, cells := 3, slots := 18, locals := 113 }, [], 3, none)
theorem kX3_lend : MKV mX3_lend 2 := ⟨⟨(by rw [hdW, if_pos rfl]; exact g483), g4, ⟨by decide, by decide⟩, by decide +kernel, rfl, rfl, by decide +kernel, rfl⟩, ⟨g481, g482⟩, rfl⟩
abbrev mX0_addDebt : MT := (yX0_addDebt, (some .boolean), cX0_addDebt, 3, { frames := 4, cells := 0, slots := 0, locals := 91 }, [], 0, none)
theorem kX0_addDebt : MKV mX0_addDebt 2 := ⟨⟨(by rw [hdW, if_pos rfl]; exact g487), g7, ⟨by decide, by decide⟩, by decide +kernel, rfl, rfl, by decide +kernel, rfl⟩, ⟨g485, g486⟩, rfl⟩
abbrev mX3_payBack : MT := (yX3_payBack, (some .int), cX3_payBack, 4, { frames := 7, cells := 3, slots := 18, locals := 114 }, [], 3, none)
theorem kX3_payBack : MKV mX3_payBack 2 := ⟨⟨(by rw [hdW, if_pos rfl]; exact g491), g4, ⟨by decide, by decide⟩, by decide +kernel, rfl, rfl, by decide +kernel, rfl⟩, ⟨g489, g490⟩, rfl⟩
abbrev mX0_takeDebt : MT := (yX0_takeDebt, (some .int), cX0_takeDebt, 4, { frames := 4, cells := 0, slots := 0, locals := 91 }, [], 0, none)
theorem kX0_takeDebt : MKV mX0_takeDebt 2 := ⟨⟨(by rw [hdW, if_pos rfl]; exact g495), g7, ⟨by decide, by decide⟩, by decide +kernel, rfl, rfl, by decide +kernel, rfl⟩, ⟨g493, g494⟩, rfl⟩
abbrev mX3_changeRate : MT := (yX3_changeRate, (some .int), cX3_changeRate, 3, { frames := 7, cells := 1, slots := 6, locals := 112 }, [], 1, none)
theorem kX3_changeRate : MKV mX3_changeRate 1 := ⟨⟨(by rw [hdW, if_pos rfl]; exact g499), g4, ⟨by decide, by decide⟩, by decide +kernel, rfl, rfl, by decide +kernel, rfl⟩, ⟨g497, g498⟩, rfl⟩
abbrev mX3_changeGrace : MT := (yX3_changeGrace, (some .int), cX3_changeGrace, 3, { frames := 7, cells := 1, slots := 6, locals := 112 }, [], 1, none)
theorem kX3_changeGrace : MKV mX3_changeGrace 1 := ⟨⟨(by rw [hdW, if_pos rfl]; exact g503), g4, ⟨by decide, by decide⟩, by decide +kernel, rfl, rfl, by decide +kernel, rfl⟩, ⟨g501, g502⟩, rfl⟩
abbrev mX3_changeSlip : MT := (yX3_changeSlip, (some .int), cX3_changeSlip, 3, { frames := 7, cells := 1, slots := 6, locals := 112 }, [], 1, none)
theorem kX3_changeSlip : MKV mX3_changeSlip 1 := ⟨⟨(by rw [hdW, if_pos rfl]; exact g507), g4, ⟨by decide, by decide⟩, by decide +kernel, rfl, rfl, by decide +kernel, rfl⟩, ⟨g505, g506⟩, rfl⟩
abbrev mX3_turnOrder : MT := (yX3_turnOrder, (some .int), cX3_turnOrder, 1, { frames := 3, cells := 0, slots := 0, locals := 101 }, [], 0, none)
theorem kX3_turnOrder : MKV mX3_turnOrder 0 := ⟨⟨(by rw [hdW, if_pos rfl]; exact g511), g4, ⟨by decide, by decide⟩, by decide +kernel, rfl, rfl, by decide +kernel, rfl⟩, ⟨g509, g510⟩, rfl⟩
abbrev mX3_order : MT := (yX3_order, (some .int), cX3_order, 1, { frames := 0, cells := 0, slots := 0, locals := 0 }, [], 0, none)
theorem kX3_order : MKV mX3_order 0 := ⟨⟨(by rw [hdW, if_pos rfl]; exact g515), g4, ⟨by decide, by decide⟩, by decide +kernel, rfl, rfl, by decide +kernel, rfl⟩, ⟨g513, g514⟩, rfl⟩
abbrev mL_isPassed : MT := (yL_isPassed, (some .boolean), cL_isPassed, 6, { frames := 8, cells := 1, slots := 6, locals := 140 }, [], 1, none)
theorem kL_isPassed : MKS mL_isPassed 2 := ⟨⟨(by rw [hdW, if_pos rfl]; exact g518), g3, ⟨by decide, by decide⟩, by decide +kernel, rfl, rfl, by decide +kernel, rfl⟩, g517, rfl⟩
abbrev mX3_soldOut : MT := (yX3_soldOut, (some .int), cX3_soldOut, 1, { frames := 0, cells := 0, slots := 0, locals := 0 }, [], 0, none)
theorem kX3_soldOut : MKV mX3_soldOut 0 := ⟨⟨(by rw [hdW, if_pos rfl]; exact g522), g4, ⟨by decide, by decide⟩, by decide +kernel, rfl, rfl, by decide +kernel, rfl⟩, ⟨g520, g521⟩, rfl⟩
abbrev mX3_hours : MT := (yX3_hours, (some .int), cX3_hours, 1, { frames := 0, cells := 0, slots := 0, locals := 0 }, [], 0, none)
theorem kX3_hours : MKV mX3_hours 0 := ⟨⟨(by rw [hdW, if_pos rfl]; exact g526), g4, ⟨by decide, by decide⟩, by decide +kernel, rfl, rfl, by decide +kernel, rfl⟩, ⟨g524, g525⟩, rfl⟩
abbrev mX3_debtsByClients : MT := (yX3_debtsByClients, (some .int), cX3_debtsByClients, 1, { frames := 1, cells := 0, slots := 0, locals := 22 }, [], 0, none)
theorem kX3_debtsByClients : MKV mX3_debtsByClients 0 := ⟨⟨(by rw [hdW, if_pos rfl]; exact g530), g4, ⟨by decide, by decide⟩, by decide +kernel, rfl, rfl, by decide +kernel, rfl⟩, ⟨g528, g529⟩, rfl⟩
abbrev mX0_debtsOfAll : MT := (yX0_debtsOfAll, (some .int), cX0_debtsOfAll, 3, { frames := 0, cells := 0, slots := 0, locals := 0 }, [], 0, none)
theorem kX0_debtsOfAll : MKV mX0_debtsOfAll 0 := ⟨⟨(by rw [hdW, if_pos rfl]; exact g534), g7, ⟨by decide, by decide⟩, by decide +kernel, rfl, rfl, by decide +kernel, rfl⟩, ⟨g532, g533⟩, rfl⟩
abbrev mX3_pass : MT := (yX3_pass, (some .int), cX3_pass, 2, { frames := 7, cells := 1, slots := 6, locals := 119 }, [], 1, none)
theorem kX3_pass : MKV mX3_pass 1 := ⟨⟨(by rw [hdW, if_pos rfl]; exact g538), g4, ⟨by decide, by decide⟩, by decide +kernel, rfl, rfl, by decide +kernel, rfl⟩, ⟨g536, g537⟩, rfl⟩
abbrev mX0_passHours : MT := (yX0_passHours, (some .int), cX0_passHours, 6, { frames := 4, cells := 0, slots := 0, locals := 94 }, [], 0, none)
theorem kX0_passHours : MKV mX0_passHours 2 := ⟨⟨(by rw [hdW, if_pos rfl]; exact g542), g7, ⟨by decide, by decide⟩, by decide +kernel, rfl, rfl, by decide +kernel, rfl⟩, ⟨g540, g541⟩, rfl⟩
abbrev mX0_calledAsBits : MT := (yX0_calledAsBits, (some .int), cX0_calledAsBits, 3, { frames := 0, cells := 0, slots := 0, locals := 0 }, [], 0, none)
theorem kX0_calledAsBits : MKV mX0_calledAsBits 0 := ⟨⟨(by rw [hdW, if_pos rfl]; exact g546), g7, ⟨by decide, by decide⟩, by decide +kernel, rfl, rfl, by decide +kernel, rfl⟩, ⟨g544, g545⟩, rfl⟩
abbrev mX0_addInterest : MT := (yX0_addInterest, none, cX0_addInterest, 3, { frames := 1, cells := 0, slots := 0, locals := 21 }, [], 0, none)
theorem kX0_addInterest : MKV mX0_addInterest 0 := ⟨⟨(by rw [hdW, if_pos rfl]; exact g550), g7, ⟨by decide, by decide⟩, by decide +kernel, rfl, rfl, by decide +kernel, rfl⟩, ⟨g548, g549⟩, rfl⟩
abbrev mX0_interestOn : MT := (yX0_interestOn, (some .int), cX0_interestOn, 2, { frames := 0, cells := 0, slots := 0, locals := 0 }, [], 0, none)
theorem kX0_interestOn : MKV mX0_interestOn 1 := ⟨⟨(by rw [hdW, if_pos rfl]; exact g554), g7, ⟨by decide, by decide⟩, by decide +kernel, rfl, rfl, by decide +kernel, rfl⟩, ⟨g552, g553⟩, rfl⟩
abbrev mX0_countDown : MT := (yX0_countDown, none, cX0_countDown, 5, { frames := 3, cells := 0, slots := 0, locals := 70 }, [], 0, none)
theorem kX0_countDown : MKV mX0_countDown 2 := ⟨⟨(by rw [hdW, if_pos rfl]; exact g560), g7, ⟨by decide, by decide⟩, by decide +kernel, rfl, rfl, by decide +kernel, rfl⟩, ⟨g558, g559⟩, rfl⟩
abbrev mX2_reckon : MT := (yX2_reckon, none, cX2_reckon, 5, { frames := 2, cells := 0, slots := 0, locals := 46 }, [], 0, none)
theorem kX2_reckon : MKV mX2_reckon 2 := ⟨⟨(by rw [hdW, if_pos rfl]; exact g564), g6, ⟨by decide, by decide⟩, by decide +kernel, rfl, rfl, by decide +kernel, rfl⟩, ⟨g562, g563⟩, rfl⟩
abbrev mX2_layOutPieces : MT := (yX2_layOutPieces, (some .int), cX2_layOutPieces, 5, { frames := 1, cells := 0, slots := 0, locals := 22 }, [], 0, none)
theorem kX2_layOutPieces : MKV mX2_layOutPieces 2 := ⟨⟨(by rw [hdW, if_pos rfl]; exact g568), g6, ⟨by decide, by decide⟩, by decide +kernel, rfl, rfl, by decide +kernel, rfl⟩, ⟨g566, g567⟩, rfl⟩
abbrev mX2_keyOf : MT := (yX2_keyOf, (some .int), cX2_keyOf, 3, { frames := 0, cells := 0, slots := 0, locals := 0 }, [], 0, none)
theorem kX2_keyOf : MKV mX2_keyOf 2 := ⟨⟨(by rw [hdW, if_pos rfl]; exact g573), g6, ⟨by decide, by decide⟩, by decide +kernel, rfl, rfl, by decide +kernel, rfl⟩, ⟨g571, g572⟩, rfl⟩
abbrev mX2_coverOfOne : MT := (yX2_coverOfOne, (some .int), cX2_coverOfOne, 3, { frames := 0, cells := 0, slots := 0, locals := 0 }, [], 0, none)
theorem kX2_coverOfOne : MKV mX2_coverOfOne 2 := ⟨⟨(by rw [hdW, if_pos rfl]; exact g577), g6, ⟨by decide, by decide⟩, by decide +kernel, rfl, rfl, by decide +kernel, rfl⟩, ⟨g575, g576⟩, rfl⟩
abbrev mX2_payFromCoins : MT := (yX2_payFromCoins, none, cX2_payFromCoins, 2, { frames := 1, cells := 0, slots := 0, locals := 22 }, [], 0, none)
theorem kX2_payFromCoins : MKV mX2_payFromCoins 0 := ⟨⟨(by rw [hdW, if_pos rfl]; exact g581), g6, ⟨by decide, by decide⟩, by decide +kernel, rfl, rfl, by decide +kernel, rfl⟩, ⟨g579, g580⟩, rfl⟩
abbrev mX2_payWith : MT := (yX2_payWith, none, cX2_payWith, 3, { frames := 0, cells := 0, slots := 0, locals := 0 }, [], 0, none)
theorem kX2_payWith : MKV mX2_payWith 1 := ⟨⟨(by rw [hdW, if_pos rfl]; exact g585), g6, ⟨by decide, by decide⟩, by decide +kernel, rfl, rfl, by decide +kernel, rfl⟩, ⟨g583, g584⟩, rfl⟩
abbrev mX2_isCovered : MT := (yX2_isCovered, (some .boolean), cX2_isCovered, 1, { frames := 0, cells := 0, slots := 0, locals := 0 }, [], 0, none)
theorem kX2_isCovered : MKV mX2_isCovered 0 := ⟨⟨(by rw [hdW, if_pos rfl]; exact g589), g6, ⟨by decide, by decide⟩, by decide +kernel, rfl, rfl, by decide +kernel, rfl⟩, ⟨g587, g588⟩, rfl⟩
abbrev mX2_sellOne : MT := (yX2_sellOne, none, cX2_sellOne, 3, { frames := 1, cells := 0, slots := 0, locals := 22 }, [], 0, none)
theorem kX2_sellOne : MKV mX2_sellOne 1 := ⟨⟨(by rw [hdW, if_pos rfl]; exact g593), g6, ⟨by decide, by decide⟩, by decide +kernel, rfl, rfl, by decide +kernel, rfl⟩, ⟨g591, g592⟩, rfl⟩
abbrev mX2_firstKind : MT := (yX2_firstKind, (some .int), cX2_firstKind, 3, { frames := 0, cells := 0, slots := 0, locals := 0 }, [], 0, none)
theorem kX2_firstKind : MKV mX2_firstKind 0 := ⟨⟨(by rw [hdW, if_pos rfl]; exact g597), g6, ⟨by decide, by decide⟩, by decide +kernel, rfl, rfl, by decide +kernel, rfl⟩, ⟨g595, g596⟩, rfl⟩
abbrev mX0_enterSale : MT := (yX0_enterSale, none, cX0_enterSale, 5, { frames := 1, cells := 0, slots := 0, locals := 21 }, [], 0, none)
theorem kX0_enterSale : MKV mX0_enterSale 2 := ⟨⟨(by rw [hdW, if_pos rfl]; exact g601), g7, ⟨by decide, by decide⟩, by decide +kernel, rfl, rfl, by decide +kernel, rfl⟩, ⟨g599, g600⟩, rfl⟩
abbrev mX3_debtsByAccount : MT := (yX3_debtsByAccount, (some .int), cX3_debtsByAccount, 1, { frames := 0, cells := 0, slots := 0, locals := 0 }, [], 0, none)
theorem kX3_debtsByAccount : MKV mX3_debtsByAccount 0 := ⟨⟨(by rw [hdW, if_pos rfl]; exact g605), g4, ⟨by decide, by decide⟩, by decide +kernel, rfl, rfl, by decide +kernel, rfl⟩, ⟨g603, g604⟩, rfl⟩
abbrev mL_isClientSo : MT := (yL_isClientSo, (some .boolean), cL_isClientSo, 12, { frames := 9, cells := 43, slots := 258, locals := 156 }, [], 43, none)
theorem kL_isClientSo : MKS mL_isClientSo 2 := ⟨⟨(by rw [hdW, if_pos rfl]; exact g608), g3, ⟨by decide, by decide⟩, by decide +kernel, rfl, rfl, by decide +kernel, rfl⟩, g607, rfl⟩
abbrev mX3_worthOf : MT := (yX3_worthOf, (some .int), cX3_worthOf, 2, { frames := 7, cells := 1, slots := 6, locals := 110 }, [], 1, none)
theorem kX3_worthOf : MKV mX3_worthOf 1 := ⟨⟨(by rw [hdW, if_pos rfl]; exact g612), g4, ⟨by decide, by decide⟩, by decide +kernel, rfl, rfl, by decide +kernel, rfl⟩, ⟨g610, g611⟩, rfl⟩
abbrev mX0_worth : MT := (yX0_worth, (some .int), cX0_worth, 4, { frames := 1, cells := 0, slots := 0, locals := 21 }, [], 0, none)
theorem kX0_worth : MKV mX0_worth 1 := ⟨⟨(by rw [hdW, if_pos rfl]; exact g616), g7, ⟨by decide, by decide⟩, by decide +kernel, rfl, rfl, by decide +kernel, rfl⟩, ⟨g614, g615⟩, rfl⟩
abbrev mX3_isBarred : MT := (yX3_isBarred, (some .boolean), cX3_isBarred, 2, { frames := 7, cells := 1, slots := 6, locals := 110 }, [], 1, none)
theorem kX3_isBarred : MKV mX3_isBarred 1 := ⟨⟨(by rw [hdW, if_pos rfl]; exact g620), g4, ⟨by decide, by decide⟩, by decide +kernel, rfl, rfl, by decide +kernel, rfl⟩, ⟨g618, g619⟩, rfl⟩
abbrev mX3_hoursLeft : MT := (yX3_hoursLeft, (some .int), cX3_hoursLeft, 2, { frames := 7, cells := 2, slots := 12, locals := 110 }, [], 2, none)
theorem kX3_hoursLeft : MKV mX3_hoursLeft 1 := ⟨⟨(by rw [hdW, if_pos rfl]; exact g624), g4, ⟨by decide, by decide⟩, by decide +kernel, rfl, rfl, by decide +kernel, rfl⟩, ⟨g622, g623⟩, rfl⟩
abbrev mX3_fallToCallByTrying : MT := (yX3_fallToCallByTrying, (some .int), cX3_fallToCallByTrying, 3, { frames := 7, cells := 2, slots := 12, locals := 110 }, [], 2, none)
theorem kX3_fallToCallByTrying : MKV mX3_fallToCallByTrying 1 := ⟨⟨(by rw [hdW, if_pos rfl]; exact g628), g4, ⟨by decide, by decide⟩, by decide +kernel, rfl, rfl, by decide +kernel, rfl⟩, ⟨g626, g627⟩, rfl⟩
abbrev mX0_callingFallByTrying : MT := (yX0_callingFallByTrying, (some .int), cX0_callingFallByTrying, 3, { frames := 3, cells := 0, slots := 0, locals := 71 }, [], 0, none)
theorem kX0_callingFallByTrying : MKV mX0_callingFallByTrying 1 := ⟨⟨(by rw [hdW, if_pos rfl]; exact g632), g7, ⟨by decide, by decide⟩, by decide +kernel, rfl, rfl, by decide +kernel, rfl⟩, ⟨g630, g631⟩, rfl⟩
abbrev mX3_hoursToCall : MT := (yX3_hoursToCall, (some .int), cX3_hoursToCall, 3, { frames := 7, cells := 2, slots := 12, locals := 110 }, [], 2, none)
theorem kX3_hoursToCall : MKV mX3_hoursToCall 1 := ⟨⟨(by rw [hdW, if_pos rfl]; exact g636), g4, ⟨by decide, by decide⟩, by decide +kernel, rfl, rfl, by decide +kernel, rfl⟩, ⟨g634, g635⟩, rfl⟩
abbrev mX0_hoursUntilCall : MT := (yX0_hoursUntilCall, (some .int), cX0_hoursUntilCall, 5, { frames := 3, cells := 0, slots := 0, locals := 69 }, [], 0, none)
theorem kX0_hoursUntilCall : MKV mX0_hoursUntilCall 1 := ⟨⟨(by rw [hdW, if_pos rfl]; exact g640), g7, ⟨by decide, by decide⟩, by decide +kernel, rfl, rfl, by decide +kernel, rfl⟩, ⟨g638, g639⟩, rfl⟩
abbrev mX3_wouldSell : MT := (yX3_wouldSell, (some .int), cX3_wouldSell, 2, { frames := 7, cells := 1, slots := 6, locals := 110 }, [], 1, none)
theorem kX3_wouldSell : MKV mX3_wouldSell 1 := ⟨⟨(by rw [hdW, if_pos rfl]; exact g644), g4, ⟨by decide, by decide⟩, by decide +kernel, rfl, rfl, by decide +kernel, rfl⟩, ⟨g642, g643⟩, rfl⟩
abbrev mX3_wouldLose : MT := (yX3_wouldLose, (some .int), cX3_wouldLose, 2, { frames := 7, cells := 1, slots := 6, locals := 110 }, [], 1, none)
theorem kX3_wouldLose : MKV mX3_wouldLose 1 := ⟨⟨(by rw [hdW, if_pos rfl]; exact g649), g4, ⟨by decide, by decide⟩, by decide +kernel, rfl, rfl, by decide +kernel, rfl⟩, ⟨g647, g648⟩, rfl⟩
abbrev mX3_fallToCallByHalving : MT := (yX3_fallToCallByHalving, (some .int), cX3_fallToCallByHalving, 3, { frames := 7, cells := 2, slots := 12, locals := 110 }, [], 2, none)
theorem kX3_fallToCallByHalving : MKV mX3_fallToCallByHalving 1 := ⟨⟨(by rw [hdW, if_pos rfl]; exact g653), g4, ⟨by decide, by decide⟩, by decide +kernel, rfl, rfl, by decide +kernel, rfl⟩, ⟨g651, g652⟩, rfl⟩
abbrev mX0_callingFallByHalving : MT := (yX0_callingFallByHalving, (some .int), cX0_callingFallByHalving, 6, { frames := 3, cells := 0, slots := 0, locals := 71 }, [], 0, none)
theorem kX0_callingFallByHalving : MKV mX0_callingFallByHalving 1 := ⟨⟨(by rw [hdW, if_pos rfl]; exact g657), g7, ⟨by decide, by decide⟩, by decide +kernel, rfl, rfl, by decide +kernel, rfl⟩, ⟨g655, g656⟩, rfl⟩
abbrev mL_ifFallen : MT := (yL_ifFallen, (some .int), cL_ifFallen, 5, { frames := 8, cells := 5, slots := 30, locals := 132 }, [], 5, none)
theorem kL_ifFallen : MKS mL_ifFallen 3 := ⟨⟨(by rw [hdW, if_pos rfl]; exact g660), g3, ⟨by decide, by decide⟩, by decide +kernel, rfl, rfl, by decide +kernel, rfl⟩, g659, rfl⟩
abbrev mL_isRiskSo : MT := (yL_isRiskSo, (some .boolean), cL_isRiskSo, 8, { frames := 8, cells := 11, slots := 66, locals := 166 }, [], 11, none)
theorem kL_isRiskSo : MKS mL_isRiskSo 1 := ⟨⟨(by rw [hdW, if_pos rfl]; exact g663), g3, ⟨by decide, by decide⟩, by decide +kernel, rfl, rfl, by decide +kernel, rfl⟩, g662, rfl⟩
abbrev mX3_riskyBySorting : MT := (yX3_riskyBySorting, (some .int), cX3_riskyBySorting, 2, { frames := 7, cells := 1, slots := 6, locals := 120 }, [], 1, none)
theorem kX3_riskyBySorting : MKV mX3_riskyBySorting 1 := ⟨⟨(by rw [hdW, if_pos rfl]; exact g667), g4, ⟨by decide, by decide⟩, by decide +kernel, rfl, rfl, by decide +kernel, rfl⟩, ⟨g665, g666⟩, rfl⟩
abbrev mX3_needPlace : MT := (yX3_needPlace, none, cX3_needPlace, 1, { frames := 6, cells := 1, slots := 6, locals := 90 }, [], 1, none)
theorem kX3_needPlace : MKS mX3_needPlace 1 := ⟨⟨(by rw [hdW, if_pos rfl]; exact g670), g4, ⟨by decide, by decide⟩, by decide +kernel, rfl, rfl, by decide +kernel, rfl⟩, g669, rfl⟩
abbrev mX0_sortByRisk : MT := (yX0_sortByRisk, none, cX0_sortByRisk, 4, { frames := 4, cells := 0, slots := 0, locals := 97 }, [], 0, none)
theorem kX0_sortByRisk : MKV mX0_sortByRisk 1 := ⟨⟨(by rw [hdW, if_pos rfl]; exact g674), g7, ⟨by decide, by decide⟩, by decide +kernel, rfl, rfl, by decide +kernel, rfl⟩, ⟨g672, g673⟩, rfl⟩
abbrev mX0_isRiskier : MT := (yX0_isRiskier, (some .boolean), cX0_isRiskier, 9, { frames := 3, cells := 0, slots := 0, locals := 69 }, [], 0, none)
theorem kX0_isRiskier : MKV mX0_isRiskier 2 := ⟨⟨(by rw [hdW, if_pos rfl]; exact g678), g7, ⟨by decide, by decide⟩, by decide +kernel, rfl, rfl, by decide +kernel, rfl⟩, ⟨g676, g677⟩, rfl⟩
abbrev mX3_riskyByTaking : MT := (yX3_riskyByTaking, (some .int), cX3_riskyByTaking, 2, { frames := 7, cells := 1, slots := 6, locals := 145 }, [], 1, none)
theorem kX3_riskyByTaking : MKV mX3_riskyByTaking 1 := ⟨⟨(by rw [hdW, if_pos rfl]; exact g682), g4, ⟨by decide, by decide⟩, by decide +kernel, rfl, rfl, by decide +kernel, rfl⟩, ⟨g680, g681⟩, rfl⟩
abbrev mX0_takeRiskiest : MT := (yX0_takeRiskiest, (some .int), cX0_takeRiskiest, 5, { frames := 5, cells := 0, slots := 0, locals := 121 }, [], 0, none)
theorem kX0_takeRiskiest : MKV mX0_takeRiskiest 1 := ⟨⟨(by rw [hdW, if_pos rfl]; exact g686), g7, ⟨by decide, by decide⟩, by decide +kernel, rfl, rfl, by decide +kernel, rfl⟩, ⟨g684, g685⟩, rfl⟩
abbrev mX0_riskiestBut : MT := (yX0_riskiestBut, (some .int), cX0_riskiestBut, 5, { frames := 4, cells := 0, slots := 0, locals := 97 }, [], 0, none)
theorem kX0_riskiestBut : MKV mX0_riskiestBut 1 := ⟨⟨(by rw [hdW, if_pos rfl]; exact g690), g7, ⟨by decide, by decide⟩, by decide +kernel, rfl, rfl, by decide +kernel, rfl⟩, ⟨g688, g689⟩, rfl⟩
abbrev mX3_rankOf : MT := (yX3_rankOf, (some .int), cX3_rankOf, 2, { frames := 7, cells := 1, slots := 6, locals := 120 }, [], 1, none)
theorem kX3_rankOf : MKV mX3_rankOf 1 := ⟨⟨(by rw [hdW, if_pos rfl]; exact g694), g4, ⟨by decide, by decide⟩, by decide +kernel, rfl, rfl, by decide +kernel, rfl⟩, ⟨g692, g693⟩, rfl⟩
abbrev mX0_riskPlace : MT := (yX0_riskPlace, (some .int), cX0_riskPlace, 4, { frames := 4, cells := 0, slots := 0, locals := 97 }, [], 0, none)
theorem kX0_riskPlace : MKV mX0_riskPlace 1 := ⟨⟨(by rw [hdW, if_pos rfl]; exact g698), g7, ⟨by decide, by decide⟩, by decide +kernel, rfl, rfl, by decide +kernel, rfl⟩, ⟨g696, g697⟩, rfl⟩
abbrev mL_areAccountsSo : MT := (yL_areAccountsSo, (some .boolean), cL_areAccountsSo, 8, { frames := 8, cells := 7, slots := 42, locals := 132 }, [], 7, none)
theorem kL_areAccountsSo : MKS mL_areAccountsSo 1 := ⟨⟨(by rw [hdW, if_pos rfl]; exact g701), g3, ⟨by decide, by decide⟩, by decide +kernel, rfl, rfl, by decide +kernel, rfl⟩, g700, rfl⟩
abbrev mX3_pledgedOf : MT := (yX3_pledgedOf, (some .int), cX3_pledgedOf, 2, { frames := 7, cells := 1, slots := 6, locals := 110 }, [], 1, none)
theorem kX3_pledgedOf : MKV mX3_pledgedOf 1 := ⟨⟨(by rw [hdW, if_pos rfl]; exact g705), g4, ⟨by decide, by decide⟩, by decide +kernel, rfl, rfl, by decide +kernel, rfl⟩, ⟨g703, g704⟩, rfl⟩
abbrev mX0_piecesOfAll : MT := (yX0_piecesOfAll, (some .int), cX0_piecesOfAll, 4, { frames := 1, cells := 0, slots := 0, locals := 21 }, [], 0, none)
theorem kX0_piecesOfAll : MKV mX0_piecesOfAll 1 := ⟨⟨(by rw [hdW, if_pos rfl]; exact g709), g7, ⟨by decide, by decide⟩, by decide +kernel, rfl, rfl, by decide +kernel, rfl⟩, ⟨g707, g708⟩, rfl⟩
abbrev mX3_soldOf : MT := (yX3_soldOf, (some .int), cX3_soldOf, 2, { frames := 7, cells := 1, slots := 6, locals := 110 }, [], 1, none)
theorem kX3_soldOf : MKV mX3_soldOf 1 := ⟨⟨(by rw [hdW, if_pos rfl]; exact g713), g4, ⟨by decide, by decide⟩, by decide +kernel, rfl, rfl, by decide +kernel, rfl⟩, ⟨g711, g712⟩, rfl⟩
abbrev mX3_interest : MT := (yX3_interest, (some .int), cX3_interest, 1, { frames := 0, cells := 0, slots := 0, locals := 0 }, [], 0, none)
theorem kX3_interest : MKV mX3_interest 0 := ⟨⟨(by rw [hdW, if_pos rfl]; exact g717), g4, ⟨by decide, by decide⟩, by decide +kernel, rfl, rfl, by decide +kernel, rfl⟩, ⟨g715, g716⟩, rfl⟩
abbrev mX3_repaid : MT := (yX3_repaid, (some .int), cX3_repaid, 1, { frames := 0, cells := 0, slots := 0, locals := 0 }, [], 0, none)
theorem kX3_repaid : MKV mX3_repaid 0 := ⟨⟨(by rw [hdW, if_pos rfl]; exact g721), g4, ⟨by decide, by decide⟩, by decide +kernel, rfl, rfl, by decide +kernel, rfl⟩, ⟨g719, g720⟩, rfl⟩
abbrev mX3_lost : MT := (yX3_lost, (some .int), cX3_lost, 1, { frames := 0, cells := 0, slots := 0, locals := 0 }, [], 0, none)
theorem kX3_lost : MKV mX3_lost 0 := ⟨⟨(by rw [hdW, if_pos rfl]; exact g725), g4, ⟨by decide, by decide⟩, by decide +kernel, rfl, rfl, by decide +kernel, rfl⟩, ⟨g723, g724⟩, rfl⟩
abbrev mX3_usedShare : MT := (yX3_usedShare, (some .double), cX3_usedShare, 2, { frames := 4, cells := 0, slots := 0, locals := 91 }, [], 0, none)
theorem kX3_usedShare : MKV mX3_usedShare 0 := ⟨⟨(by rw [hdW, if_pos rfl]; exact g729), g4, ⟨by decide, by decide⟩, by decide +kernel, rfl, rfl, by decide +kernel, rfl⟩, ⟨g727, g728⟩, rfl⟩
abbrev mX0_coverOfAll : MT := (yX0_coverOfAll, (some .int), cX0_coverOfAll, 3, { frames := 3, cells := 0, slots := 0, locals := 69 }, [], 0, none)
theorem kX0_coverOfAll : MKV mX0_coverOfAll 0 := ⟨⟨(by rw [hdW, if_pos rfl]; exact g733), g7, ⟨by decide, by decide⟩, by decide +kernel, rfl, rfl, by decide +kernel, rfl⟩, ⟨g731, g732⟩, rfl⟩
theorem foX3_10 : FO RX3 10 3 0 := ⟨_, _, _, _, cf3, by decide, g182⟩
theorem foX3_19 : FO RX3 19 3 1 := ⟨_, _, _, _, cf3, by decide, g183⟩
theorem foX3_23 : FO RX3 23 3 2 := ⟨_, _, _, _, cf3, by decide, g184⟩
theorem foX3_29 : FO RX3 29 3 3 := ⟨_, _, _, _, cf3, by decide, g185⟩
theorem foX3_33 : FO RX3 33 3 4 := ⟨_, _, _, _, cf3, by decide, g186⟩
theorem foX3_37 : FO RX3 37 3 5 := ⟨_, _, _, _, cf3, by decide, g187⟩
theorem foX3_41 : FO RX3 41 3 7 := ⟨_, _, _, _, cf3, by decide, g189⟩
theorem fpX3_41 : FP9 RX3 41 3 7 (.object "PledgeHouse$Ledger") := ⟨_, _, _, _, cf3, by decide, g189, rfl, by decide +kernel⟩
theorem foX3_45 : FO RX3 45 3 8 := ⟨_, _, _, _, cf3, by decide, g190⟩
theorem fpX3_45 : FP9 RX3 45 3 8 (.object "PledgeHouse$Ledger") := ⟨_, _, _, _, cf3, by decide, g190, rfl, by decide +kernel⟩
theorem foX3_88 : FO RX3 88 0 3 := ⟨_, _, _, _, cf0, by decide, g107⟩
theorem foX3_101 : FO RX3 101 0 4 := ⟨_, _, _, _, cf0, by decide, g110⟩
theorem foX3_110 : FO RX3 110 0 5 := ⟨_, _, _, _, cf0, by decide, g113⟩
theorem foX3_124 : FO RX3 124 0 8 := ⟨_, _, _, _, cf0, by decide, g119⟩
theorem fpX3_124 : FP9 RX3 124 0 8 (.int) := ⟨_, _, _, _, cf0, by decide, g119, rfl, by decide +kernel⟩
theorem foX3_128 : FO RX3 128 0 9 := ⟨_, _, _, _, cf0, by decide, g121⟩
theorem fpX3_128 : FP9 RX3 128 0 9 (.int) := ⟨_, _, _, _, cf0, by decide, g121, rfl, by decide +kernel⟩
theorem foX3_131 : FO RX3 131 0 10 := ⟨_, _, _, _, cf0, by decide, g124⟩
theorem fpX3_131 : FP9 RX3 131 0 10 (.int) := ⟨_, _, _, _, cf0, by decide, g124, rfl, by decide +kernel⟩
theorem foX3_134 : FO RX3 134 0 11 := ⟨_, _, _, _, cf0, by decide, g127⟩
theorem fpX3_134 : FP9 RX3 134 0 11 (.int) := ⟨_, _, _, _, cf0, by decide, g127, rfl, by decide +kernel⟩
theorem foX3_172 : FO RX3 172 3 6 := ⟨_, _, _, _, cf3, by decide, g188⟩
theorem fpX3_172 : FP9 RX3 172 3 6 (.int) := ⟨_, _, _, _, cf3, by decide, g188, rfl, by decide +kernel⟩
theorem foX3_175 : FO RX3 175 0 0 := ⟨_, _, _, _, cf0, by decide, g99⟩
theorem foX3_178 : FO RX3 178 0 1 := ⟨_, _, _, _, cf0, by decide, g102⟩
theorem foX3_184 : FO RX3 184 0 2 := ⟨_, _, _, _, cf0, by decide, g104⟩
theorem foX3_196 : FO RX3 196 0 6 := ⟨_, _, _, _, cf0, by decide, g115⟩
theorem foX3_199 : FO RX3 199 0 7 := ⟨_, _, _, _, cf0, by decide, g117⟩
theorem foX3_228 : FO RX3 228 2 5 := ⟨_, _, _, _, cf2, by decide, g64⟩
theorem fpX3_228 : FP9 RX3 228 2 5 (.int) := ⟨_, _, _, _, cf2, by decide, g64, rfl, by decide +kernel⟩
theorem foX3_231 : FO RX3 231 2 7 := ⟨_, _, _, _, cf2, by decide, g69⟩
theorem fpX3_231 : FP9 RX3 231 2 7 (.int) := ⟨_, _, _, _, cf2, by decide, g69, rfl, by decide +kernel⟩
theorem foX3_237 : FO RX3 237 0 12 := ⟨_, _, _, _, cf0, by decide, g129⟩
theorem fpX3_237 : FP9 RX3 237 0 12 (.int) := ⟨_, _, _, _, cf0, by decide, g129, rfl, by decide +kernel⟩
theorem foX3_243 : FO RX3 243 0 13 := ⟨_, _, _, _, cf0, by decide, g131⟩
theorem fpX3_243 : FP9 RX3 243 0 13 (.int) := ⟨_, _, _, _, cf0, by decide, g131, rfl, by decide +kernel⟩
theorem foX3_246 : FO RX3 246 0 14 := ⟨_, _, _, _, cf0, by decide, g133⟩
theorem fpX3_246 : FP9 RX3 246 0 14 (.int) := ⟨_, _, _, _, cf0, by decide, g133, rfl, by decide +kernel⟩
theorem foX3_249 : FO RX3 249 0 15 := ⟨_, _, _, _, cf0, by decide, g135⟩
theorem fpX3_249 : FP9 RX3 249 0 15 (.int) := ⟨_, _, _, _, cf0, by decide, g135, rfl, by decide +kernel⟩
theorem foX3_252 : FO RX3 252 0 16 := ⟨_, _, _, _, cf0, by decide, g137⟩
theorem fpX3_252 : FP9 RX3 252 0 16 (.int) := ⟨_, _, _, _, cf0, by decide, g137, rfl, by decide +kernel⟩
theorem foX3_255 : FO RX3 255 0 17 := ⟨_, _, _, _, cf0, by decide, g139⟩
theorem fpX3_255 : FP9 RX3 255 0 17 (.int) := ⟨_, _, _, _, cf0, by decide, g139, rfl, by decide +kernel⟩
theorem foX3_258 : FO RX3 258 0 18 := ⟨_, _, _, _, cf0, by decide, g141⟩
theorem fpX3_258 : FP9 RX3 258 0 18 (.int) := ⟨_, _, _, _, cf0, by decide, g141, rfl, by decide +kernel⟩
theorem foX0_9 : FO RX0 9 0 0 := ⟨_, _, _, _, cf0, by decide, g97⟩
theorem foX0_15 : FO RX0 15 0 1 := ⟨_, _, _, _, cf0, by decide, g100⟩
theorem foX0_18 : FO RX0 18 0 2 := ⟨_, _, _, _, cf0, by decide, g103⟩
theorem foX0_21 : FO RX0 21 0 3 := ⟨_, _, _, _, cf0, by decide, g105⟩
theorem foX0_24 : FO RX0 24 0 4 := ⟨_, _, _, _, cf0, by decide, g108⟩
theorem foX0_27 : FO RX0 27 0 5 := ⟨_, _, _, _, cf0, by decide, g111⟩
theorem foX0_30 : FO RX0 30 0 6 := ⟨_, _, _, _, cf0, by decide, g114⟩
theorem foX0_33 : FO RX0 33 0 7 := ⟨_, _, _, _, cf0, by decide, g116⟩
theorem foX0_37 : FO RX0 37 0 8 := ⟨_, _, _, _, cf0, by decide, g118⟩
theorem fpX0_37 : FP9 RX0 37 0 8 (.int) := ⟨_, _, _, _, cf0, by decide, g118, rfl, by decide +kernel⟩
theorem foX0_41 : FO RX0 41 0 9 := ⟨_, _, _, _, cf0, by decide, g120⟩
theorem fpX0_41 : FP9 RX0 41 0 9 (.int) := ⟨_, _, _, _, cf0, by decide, g120, rfl, by decide +kernel⟩
theorem foX0_44 : FO RX0 44 0 10 := ⟨_, _, _, _, cf0, by decide, g122⟩
theorem fpX0_44 : FP9 RX0 44 0 10 (.int) := ⟨_, _, _, _, cf0, by decide, g122, rfl, by decide +kernel⟩
theorem foX0_47 : FO RX0 47 0 11 := ⟨_, _, _, _, cf0, by decide, g125⟩
theorem fpX0_47 : FP9 RX0 47 0 11 (.int) := ⟨_, _, _, _, cf0, by decide, g125, rfl, by decide +kernel⟩
theorem foX0_62 : FO RX0 62 0 12 := ⟨_, _, _, _, cf0, by decide, g128⟩
theorem fpX0_62 : FP9 RX0 62 0 12 (.int) := ⟨_, _, _, _, cf0, by decide, g128, rfl, by decide +kernel⟩
theorem foX0_65 : FO RX0 65 0 13 := ⟨_, _, _, _, cf0, by decide, g130⟩
theorem fpX0_65 : FP9 RX0 65 0 13 (.int) := ⟨_, _, _, _, cf0, by decide, g130, rfl, by decide +kernel⟩
theorem foX0_68 : FO RX0 68 0 14 := ⟨_, _, _, _, cf0, by decide, g132⟩
theorem fpX0_68 : FP9 RX0 68 0 14 (.int) := ⟨_, _, _, _, cf0, by decide, g132, rfl, by decide +kernel⟩
theorem foX0_71 : FO RX0 71 0 15 := ⟨_, _, _, _, cf0, by decide, g134⟩
theorem fpX0_71 : FP9 RX0 71 0 15 (.int) := ⟨_, _, _, _, cf0, by decide, g134, rfl, by decide +kernel⟩
theorem foX0_74 : FO RX0 74 0 16 := ⟨_, _, _, _, cf0, by decide, g136⟩
theorem fpX0_74 : FP9 RX0 74 0 16 (.int) := ⟨_, _, _, _, cf0, by decide, g136, rfl, by decide +kernel⟩
theorem foX0_77 : FO RX0 77 0 17 := ⟨_, _, _, _, cf0, by decide, g138⟩
theorem fpX0_77 : FP9 RX0 77 0 17 (.int) := ⟨_, _, _, _, cf0, by decide, g138, rfl, by decide +kernel⟩
theorem foX0_80 : FO RX0 80 0 18 := ⟨_, _, _, _, cf0, by decide, g140⟩
theorem fpX0_80 : FP9 RX0 80 0 18 (.int) := ⟨_, _, _, _, cf0, by decide, g140, rfl, by decide +kernel⟩
theorem foX0_141 : FO RX0 141 2 0 := ⟨_, _, _, _, cf2, by decide, g56⟩
theorem foX0_144 : FO RX0 144 2 2 := ⟨_, _, _, _, cf2, by decide, g59⟩
theorem fpX0_144 : FP9 RX0 144 2 2 (.int) := ⟨_, _, _, _, cf2, by decide, g59, rfl, by decide +kernel⟩
theorem foX0_147 : FO RX0 147 2 3 := ⟨_, _, _, _, cf2, by decide, g61⟩
theorem fpX0_147 : FP9 RX0 147 2 3 (.int) := ⟨_, _, _, _, cf2, by decide, g61, rfl, by decide +kernel⟩
theorem foX0_150 : FO RX0 150 2 6 := ⟨_, _, _, _, cf2, by decide, g66⟩
theorem fpX0_150 : FP9 RX0 150 2 6 (.int) := ⟨_, _, _, _, cf2, by decide, g66, rfl, by decide +kernel⟩
theorem foX0_153 : FO RX0 153 2 7 := ⟨_, _, _, _, cf2, by decide, g68⟩
theorem fpX0_153 : FP9 RX0 153 2 7 (.int) := ⟨_, _, _, _, cf2, by decide, g68, rfl, by decide +kernel⟩
theorem foX1_9 : FO RX1 9 1 0 := ⟨_, _, _, _, cf1, by decide, g30⟩
theorem foX2_9 : FO RX2 9 2 0 := ⟨_, _, _, _, cf2, by decide, g55⟩
theorem foX2_15 : FO RX2 15 2 1 := ⟨_, _, _, _, cf2, by decide, g57⟩
theorem foX2_18 : FO RX2 18 0 4 := ⟨_, _, _, _, cf0, by decide, g109⟩
theorem foX2_23 : FO RX2 23 2 2 := ⟨_, _, _, _, cf2, by decide, g58⟩
theorem fpX2_23 : FP9 RX2 23 2 2 (.int) := ⟨_, _, _, _, cf2, by decide, g58, rfl, by decide +kernel⟩
theorem foX2_27 : FO RX2 27 0 5 := ⟨_, _, _, _, cf0, by decide, g112⟩
theorem foX2_30 : FO RX2 30 2 3 := ⟨_, _, _, _, cf2, by decide, g60⟩
theorem fpX2_30 : FP9 RX2 30 2 3 (.int) := ⟨_, _, _, _, cf2, by decide, g60, rfl, by decide +kernel⟩
theorem foX2_33 : FO RX2 33 2 5 := ⟨_, _, _, _, cf2, by decide, g63⟩
theorem fpX2_33 : FP9 RX2 33 2 5 (.int) := ⟨_, _, _, _, cf2, by decide, g63, rfl, by decide +kernel⟩
theorem foX2_36 : FO RX2 36 2 6 := ⟨_, _, _, _, cf2, by decide, g65⟩
theorem fpX2_36 : FP9 RX2 36 2 6 (.int) := ⟨_, _, _, _, cf2, by decide, g65, rfl, by decide +kernel⟩
theorem foX2_39 : FO RX2 39 2 7 := ⟨_, _, _, _, cf2, by decide, g67⟩
theorem fpX2_39 : FP9 RX2 39 2 7 (.int) := ⟨_, _, _, _, cf2, by decide, g67, rfl, by decide +kernel⟩
theorem foX2_57 : FO RX2 57 2 4 := ⟨_, _, _, _, cf2, by decide, g62⟩
theorem fpX2_57 : FP9 RX2 57 2 4 (.int) := ⟨_, _, _, _, cf2, by decide, g62, rfl, by decide +kernel⟩
theorem foX2_60 : FO RX2 60 0 3 := ⟨_, _, _, _, cf0, by decide, g106⟩
theorem foX2_73 : FO RX2 73 0 11 := ⟨_, _, _, _, cf0, by decide, g126⟩
theorem fpX2_73 : FP9 RX2 73 0 11 (.int) := ⟨_, _, _, _, cf0, by decide, g126, rfl, by decide +kernel⟩
theorem foX2_76 : FO RX2 76 0 1 := ⟨_, _, _, _, cf0, by decide, g101⟩
theorem foX2_79 : FO RX2 79 0 0 := ⟨_, _, _, _, cf0, by decide, g98⟩
theorem foX2_90 : FO RX2 90 0 10 := ⟨_, _, _, _, cf0, by decide, g123⟩
theorem fpX2_90 : FP9 RX2 90 0 10 (.int) := ⟨_, _, _, _, cf0, by decide, g123, rfl, by decide +kernel⟩
end
section
/-! ===== the reference's cells, and rows over them ===== -/
theorem ev_w {M : MT} {po : PO} {px : PX} {k pc : Nat} {L : LV} {st : List Value} {w w' : PW} (h : w = w') (kk : Ev M po px k pc L st w') : Ev M po px k pc L st w := by rw [h]; exact kk
theorem ev_top {M : MT} {po : PO} {px : PX} {k pc : Nat} {L : LV} {st : List Value} {w : PW} {x : Int32} (y : Int32) (h : x = y) (kk : Ev M po px k pc L (.int y :: st) w) : Ev M po px k pc L (.int x :: st) w := by rw [h]; exact kk
theorem ev_LL {M : MT} {po : PO} {px : PX} {k pc : Nat} {L : LV} (L' : LV) {st : List Value} {w : PW} (h : L = L') (kk : Ev M po px k pc L' st w) : Ev M po px k pc L st w := by rw [h]; exact kk
/-- the first n of a row; behind them nothing -/
def tr (n : Nat) (f : Nat → Int32) : Nat → Int32 := fun k => if k < n then f k else 0
theorem tr_at {n j : Nat} {f : Nat → Int32} (h : j < n) : tr n f j = f j := by simp [tr, h]
theorem tr_upd {n j : Nat} {f : Nat → Int32} {x : Int32} (h : j < n) : upd (tr n f) j x = tr n (upd f j x) := by
  funext k
  simp only [upd, tr]
  by_cases hk : k = j
  · subst hk; simp [h]
  · simp [hk]
theorem tr_ext {n : Nat} {f g : Nat → Int32} (h : ∀ k, k < n → f k = g k) : tr n f = tr n g := by
  funext k
  simp only [tr]
  split
  · next hk => exact h k hk
  · rfl
theorem upd_s (f : Nat → Int32) (k : Nat) (x : Int32) : upd f k x k = x := by simp [upd]
theorem upd_n (f : Nat → Int32) {k j : Nat} (x : Int32) (h : j ≠ k) : upd f k x j = f j := by simp [upd, h]
theorem nI_m (a b : Nat) : nI a * nI b = nI (a * b) := pk_mul a b
theorem vpi {j n : Nat} (h : j < n) (hn : n < 2147483648) : vp_in (nI j) n := vp_in_nI h hn
theorem cl_nI {j n : Nat} (h : j < n) (hn : n < 2147483648) : (nI j).toNatClampNeg = j := nI_clamp (Nat.lt_trans h hn)
section
variable {M : MT} {po : PO} {px : PX} {k pc : Nat} {L : LV} {st : List Value} {w : PW}
theorem ev_ild {a n : Nat} {i : Int32} {F : Nat → Int32} (j : Nat) (d : decode (mC M) pc = .ok (.iaload, 1)) (hw : w[a]? = some (.inl (0, n, .inl (tr n F)))) (hi : i = nI j) (hj : j < n) (hn : Nat.blt n 2147483648 = true) (kk : Ev M po px k (pc + 1) L (.int (F j) :: st) w) : Ev M po px k pc L (.int i :: .ref a :: st) w := by
  have hn : n < 2147483648 := by simpa using hn
  subst hi
  refine ev_iaload d hw (vpi hj hn) ?_
  rw [cl_nI hj hn, tr_at hj]
  exact kk
theorem ev_bld {a n : Nat} {i : Int32} {F : Nat → Int32} (j : Nat) (d : decode (mC M) pc = .ok (.baload, 1)) (hw : w[a]? = some (.inl (1, n, .inl (tr n F)))) (hi : i = nI j) (hj : j < n) (hn : Nat.blt n 2147483648 = true) (kk : Ev M po px k (pc + 1) L (.int (F j) :: st) w) : Ev M po px k pc L (.int i :: .ref a :: st) w := by
  have hn : n < 2147483648 := by simpa using hn
  subst hi
  refine ev_baload d hw (vpi hj hn) ?_
  rw [cl_nI hj hn, tr_at hj]
  exact kk
theorem ev_ist {a n : Nat} {i x : Int32} {F : Nat → Int32} {w' : PW} (j : Nat) (d : decode (mC M) pc = .ok (.iastore, 1)) (hw : w[a]? = some (.inl (0, n, .inl (tr n F)))) (hi : i = nI j) (hj : j < n) (hn : Nat.blt n 2147483648 = true) (hw' : w.set a (.inl (0, n, .inl (tr n (upd F j x)))) = w') (kk : Ev M po px k (pc + 1) L st w') : Ev M po px k pc L (.int x :: .int i :: .ref a :: st) w := by
  have hn : n < 2147483648 := by simpa using hn
  subst hi
  refine ev_iastore d hw (vpi hj hn) ?_ kk
  rw [cl_nI hj hn, tr_upd hj]
  exact hw'
theorem ev_bst {a n : Nat} {i x : Int32} {F : Nat → Int32} {w' : PW} (j : Nat) (d : decode (mC M) pc = .ok (.bastore, 1)) (hw : w[a]? = some (.inl (1, n, .inl (tr n F)))) (hi : i = nI j) (hj : j < n) (hn : Nat.blt n 2147483648 = true) (hx : vp_nar .boolean x = x) (hw' : w.set a (.inl (1, n, .inl (tr n (upd F j x)))) = w') (kk : Ev M po px k (pc + 1) L st w') : Ev M po px k pc L (.int x :: .int i :: .ref a :: st) w := by
  have hn : n < 2147483648 := by simpa using hn
  subst hi
  refine ev_bastore d hw (vpi hj hn) hx ?_ kk
  rw [cl_nI hj hn, tr_upd hj]
  exact hw'
end
def oI : Option Nat → Int32
  | none => -1
  | some k => nI k
/-- saved rows, slots, isKept, aside, buffer, hash -/
abbrev RY : Type := (Nat → Int32) × (Nat → Int32) × (Nat → Int32) × (Nat → Int32) × (Nat → Int32) × Int64
/-- pieces, coins, debt, call, barred of a client -/
abbrev ix (c w : Nat) : Nat := 18 + 10 * c + w
def bI (b : Bool) : Int32 := if b then 1 else 0
theorem bI_nar (b : Bool) : narrow .boolean (.int (bI b)) = .int (bI b) := by cases b <;> rfl
def falI (p q : Int32) : Int32 := p * (nI 100 - q) / nI 100
def covS (σ : Nat → Int32) (c : Nat) (q least : Int32) : Nat → Int32
  | 0 => nI 0
  | k + 1 => covS σ c q least k + σ (ix c k) * (if falI (σ k) q < least then least else falI (σ k) q) * (nI 100 - σ (6 + k))
def covI (σ : Nat → Int32) (c : Nat) (q least : Int32) : Int32 := σ (ix c 6) + covS σ c q least 6 / nI 100
def isC (σ : Nat → Int32) (c : Nat) : Bool := decide (σ (ix c 7) ≤ covI σ c (nI 0) (nI 1))
def isK (σ : Nat → Int32) (c : Nat) : Bool := decide (nI 0 < σ (ix c 8))
theorem bI_0 {b : Bool} : bI b = 0 ↔ b = false := by cases b <;> simp [bI]
theorem bI_1 {b : Bool} : ¬ bI b = 0 ↔ b = true := by cases b <;> simp [bI]
def inB (v lo hi : Int32) : Bool := decide (lo ≤ v) && decide (v ≤ hi)
/-- Clients are looked at -/
def look1 (σ : Nat → Int32) (c : Nat) : Nat → Int32 :=
  if (isC σ c || isK σ c) = false then upd (upd σ 107 (σ 107 + nI 1)) (ix c 8) (σ 99) else upd (upd σ 107 (σ 107 + nI 0)) (ix c 8) (if isC σ c = true then nI 0 else σ (ix c 8))
def lookN (σ : Nat → Int32) : Nat → Nat → Int32
  | 0 => σ
  | n + 1 => look1 (lookN σ n) n
theorem covS_congr {σ τ : Nat → Int32} {c : Nat} {q l : Int32} (hc : c < 8) (h : ∀ i, i < 98 → σ i = τ i) : ∀ n, n ≤ 6 → covS σ c q l n = covS τ c q l n
  | 0, _ => rfl
  | n + 1, hn => by
    simp only [covS]
    rw [covS_congr hc h n (by omega), h (ix c n) (by simp only [ix]; omega), h n (by omega), h (6 + n) (by omega)]
theorem covI_congr {σ τ : Nat → Int32} {c : Nat} {q l : Int32} (hc : c < 8) (h : ∀ i, i < 98 → σ i = τ i) : covI σ c q l = covI τ c q l := by
  simp only [covI]
  rw [covS_congr hc h 6 (by omega), h (ix c 6) (by simp only [ix]; omega)]
end
section
/-! ===== the reference: sales, payments ===== -/
def byS (σ : Nat → Int32) (k o : Nat) : Int32 := if σ 101 = 0 then σ k - σ o else if σ 101 = nI 1 then σ (6 + o) - σ (6 + k) else σ (6 + k) - σ (6 + o)
def ahead (σ : Nat → Int32) (k o : Nat) : Bool := decide (0 < byS σ k o)
def selS (σ : Nat → Int32) (c : Nat) : Nat → Option Nat
  | 0 => none
  | n + 1 => match selS σ c n with
    | none => if 0 < σ (ix c n) then some n else none
    | some o => if 0 < σ (ix c n) ∧ ahead σ n o = true then some n else some o
theorem oI_lt {x : Option Nat} {n : Nat} (hn : n < 2147483648) (h : ∀ o, x = some o → o < n) : oI x = -1 ↔ x = none := by
  cases x with
  | none => simp [oI]
  | some o =>
    have ho := h o rfl
    simp only [oI, reduceCtorEq, iff_false]
    intro e
    have h1 := congrArg Int32.toInt e
    rw [nI_toInt (by omega)] at h1
    have h2 : (-1 : Int32).toInt = -1 := by decide
    omega
def paid (σ : Nat → Int32) (c : Nat) (x : Int32) : Int32 := if x < σ (ix c 7) then x else σ (ix c 7)
def pay1 (σ : Nat → Int32) (c : Nat) (t : Int32) : Nat → Int32 := upd σ (ix c 7) (σ (ix c 7) + -t)
def pay2 (σ : Nat → Int32) (c : Nat) (t x : Int32) : Nat → Int32 := upd (pay1 σ c t) (ix c 6) (pay1 σ c t (ix c 6) + (x - t))
def payS (σ : Nat → Int32) (c : Nat) (x : Int32) : Nat → Int32 := upd (pay2 σ c (paid σ c x) x) 105 (pay2 σ c (paid σ c x) x 105 + paid σ c x)
def backS (σ : Nat → Int32) (c : Nat) (x : Int32) : Nat → Int32 := upd (pay1 σ c (paid σ c x)) 105 (pay1 σ c (paid σ c x) 105 + paid σ c x)
def lendS (σ : Nat → Int32) (c : Nat) (x : Int32) : Nat → Int32 := upd (upd σ (ix c 7) (σ (ix c 7) + x)) 103 (upd σ (ix c 7) (σ (ix c 7) + x) 103 + x)
def lackS (σ : Nat → Int32) (c w : Nat) (m : Int32) : Nat → Int32 := upd σ (ix c w) (σ (ix c w) + -m)
def canL (σ : Nat → Int32) (c w : Nat) (m : Int32) : Bool := decide (m ≤ σ (ix c w)) && isC (lackS σ c w m) c
def canB (σ : Nat → Int32) (c : Nat) (x : Int32) : Bool := decide (σ (ix c 9) = 0) && decide (σ (ix c 7) + x ≤ covI σ c (nI 0) (nI 1))
end
section
/-! ===== the reference: selling out, hours ===== -/
def nP (σ : Nat → Int32) (c : Nat) : Nat → Nat
  | 0 => 0
  | n + 1 => nP σ c n + (σ (ix c n)).toNatClampNeg
theorem cl_99 {x : Int32} (h0 : 0 ≤ x) (h : x ≤ nI 99) : x.toNatClampNeg ≤ 99 := by
  obtain ⟨j, hj, rfl⟩ := nI_of2 (M := nI 99) (n := 99) (by decide) (by rw [Int32.not_lt]; exact h0) h
  rw [nI_clamp (by omega)]; exact hj
theorem nP_le {σ : Nat → Int32} {c : Nat} (h : ∀ k, k < 6 → 0 ≤ σ (ix c k) ∧ σ (ix c k) ≤ nI 99) : nP σ c 6 ≤ 594 := by
  have := fun k hk => cl_99 (h k hk).1 (h k hk).2
  have h0 := this 0 (by omega); have h1 := this 1 (by omega); have h2 := this 2 (by omega); have h3 := this 3 (by omega); have h4 := this 4 (by omega); have h5 := this 5 (by omega)
  simp only [nP]
  omega
/-- one less of kind k -/
def less1 (σ : Nat → Int32) (c k : Nat) : Nat → Int32 := upd σ (ix c k) (σ (ix c k) + -1)
def sell1 (σ : Nat → Int32) (c k : Nat) : Nat → Int32 :=
  let s := upd (less1 σ c k) (12 + k) (less1 σ c k (12 + k) + nI 1)
  payS s c (s k * (nI 100 - s 100) / nI 100)
theorem payS_at {σ : Nat → Int32} {c i : Nat} {x : Int32} (h7 : i ≠ ix c 7) (h6 : i ≠ ix c 6) (h5 : i ≠ 105) : payS σ c x i = σ i := by
  simp only [payS, pay2, pay1]
  rw [upd_n _ _ h5, upd_n _ _ h6, upd_n _ _ h7]
/-- umbrellas are sold one by one -/
def sellW (c : Nat) : Nat → (Nat → Int32) → Int32 → (Nat → Int32) × Int32
  | 0, τ, n => (τ, n)
  | f + 1, τ, n => match selS τ c 6 with
    | none => (τ, n)
    | some k => if isC τ c = true then (τ, n) else sellW c f (sell1 τ c k) (n + nI 1)
def lossS (τ : Nat → Int32) (c : Nat) : Nat → Int32 :=
  if isC τ c = true then τ else
    let s := upd τ 106 (τ 106 + τ (ix c 7))
    upd (upd s (ix c 7) (nI 0)) (ix c 9) (nI 1)
def outS (τ : Nat → Int32) (c : Nat) : Nat → Int32 :=
  let s := upd (lossS τ c) (ix c 8) (nI 0)
  upd s 108 (s 108 + nI 1)
def begS (σ : Nat → Int32) (c : Nat) : Nat → Int32 := payS (upd σ (ix c 6) (nI 0)) c (σ (ix c 6))
def sellsS (σ : Nat → Int32) (c : Nat) : (Nat → Int32) × Int32 := (outS (sellW c 594 (begS σ c) (nI 0)).1 c, (sellW c 594 (begS σ c) (nI 0)).2)
theorem sellW_none {c : Nat} {τ : Nat → Int32} {n : Int32} (h : selS τ c 6 = none) : ∀ f, sellW c f τ n = (τ, n)
  | 0 => rfl
  | f + 1 => by simp only [sellW, h]
theorem sellW_cov {c k : Nat} {τ : Nat → Int32} {n : Int32} (h : selS τ c 6 = some k) (hc : isC τ c = true) : ∀ f, sellW c f τ n = (τ, n)
  | 0 => rfl
  | f + 1 => by simp only [sellW, h, hc, if_true]
end
section
/-! ===== the reference: hours ===== -/
def NP (σ : Nat → Int32) : Prop := ∀ c, c < 8 → nP σ c 6 ≤ 594
theorem lookN_at {σ : Nat → Int32} {i : Nat} (h107 : i ≠ 107) : ∀ {n : Nat}, (∀ c, c < n → i ≠ ix c 8) → lookN σ n i = σ i
  | 0, _ => rfl
  | n + 1, h => by
    have e := lookN_at (σ := σ) h107 (n := n) (fun c hc => h c (by omega))
    simp only [lookN, look1]
    split <;> rw [upd_n _ _ (h n (by omega)), upd_n _ _ h107, e]
def intI (σ : Nat → Int32) (c : Nat) : Int32 := (σ (ix c 7) * σ 98 + nI 9999) / nI 10000
def hr0 (σ : Nat → Int32) (c : Nat) : Nat → Int32 := upd σ (ix c 7) (σ (ix c 7) + intI σ c)
def hr1 (σ : Nat → Int32) (c : Nat) : Nat → Int32 := upd (hr0 σ c) 104 (hr0 σ c 104 + intI σ c)
def hrN (σ : Nat → Int32) : Nat → Nat → Int32
  | 0 => σ
  | n + 1 => hr1 (hrN σ n) n
theorem isK_congr {σ τ : Nat → Int32} {c : Nat} (h : σ (ix c 8) = τ (ix c 8)) : isK σ c = isK τ c := by simp only [isK, h]
def bitN (b : Nat → Bool) : Nat → Int32
  | 0 => nI 0
  | n + 1 => bitN b n ||| (if b n = true then nI 1 <<< (nI n &&& 31) else nI 0)
theorem bit_all : ∀ b0 b1 b2 b3 b4 b5 b6 b7 : Bool, ∀ c : Fin 8, ((((((((((nI 0 ||| (if b0 = true then nI 1 <<< (nI 0 &&& 31) else nI 0)) ||| (if b1 = true then nI 1 <<< (nI 1 &&& 31) else nI 0)) ||| (if b2 = true then nI 1 <<< (nI 2 &&& 31) else nI 0)) ||| (if b3 = true then nI 1 <<< (nI 3 &&& 31) else nI 0)) ||| (if b4 = true then nI 1 <<< (nI 4 &&& 31) else nI 0)) ||| (if b5 = true then nI 1 <<< (nI 5 &&& 31) else nI 0)) ||| (if b6 = true then nI 1 <<< (nI 6 &&& 31) else nI 0)) ||| (if b7 = true then nI 1 <<< (nI 7 &&& 31) else nI 0)) >>> (nI c.val &&& 31)) &&& nI 1) = bI ([b0, b1, b2, b3, b4, b5, b6, b7].getD c.val false) := by decide +kernel
theorem bit_at (b : Nat → Bool) {c : Nat} (hc : c < 8) : (bitN b 8 >>> (nI c &&& 31)) &&& nI 1 = bI (b c) := by
  have h := bit_all (b 0) (b 1) (b 2) (b 3) (b 4) (b 5) (b 6) (b 7) ⟨c, hc⟩
  have e : [b 0, b 1, b 2, b 3, b 4, b 5, b 6, b 7].getD c false = b c := by
    rcases (show c = 0 ∨ c = 1 ∨ c = 2 ∨ c = 3 ∨ c = 4 ∨ c = 5 ∨ c = 6 ∨ c = 7 by omega) with rfl | rfl | rfl | rfl | rfl | rfl | rfl | rfl <;> rfl
  simp only at h
  rw [e] at h
  exact h
def low1 (σ : Nat → Int32) (c : Nat) : Nat → Int32 := upd σ (ix c 8) (σ (ix c 8) + -1)
/-- a client's hour -/
def dn1 (b : Bool) (p : (Nat → Int32) × Int32) (c : Nat) : (Nat → Int32) × Int32 :=
  if (b && isK p.1 c) = true then (if low1 p.1 c (ix c 8) = 0 then ((sellsS (low1 p.1 c) c).1, p.2 + nI 1) else (low1 p.1 c, p.2)) else p
def dnN (b : Nat → Bool) (p : (Nat → Int32) × Int32) : Nat → (Nat → Int32) × Int32
  | 0 => p
  | n + 1 => dn1 (b n) (dnN b p n) n
def hour0 (σ : Nat → Int32) : Nat → Int32 := upd σ 102 (σ 102 + nI 1)
def hourS (σ : Nat → Int32) : (Nat → Int32) × Int32 := dnN (isK (hour0 σ)) (lookN (hrN (hour0 σ) 8) 8, nI 0) 8
def pasN (σ : Nat → Int32) : Nat → (Nat → Int32) × Int32
  | 0 => (σ, nI 0)
  | n + 1 => ((hourS (pasN σ n).1).1, (pasN σ n).2 + (hourS (pasN σ n).1).2)
end
section
/-! ===== the reference: what is told ===== -/
def pldS (σ : Nat → Int32) (k : Nat) : Nat → Int32
  | 0 => nI 0
  | n + 1 => pldS σ k n + σ (ix n k)
def worS (σ : Nat → Int32) (c : Nat) : Nat → Int32
  | 0 => σ (ix c 6)
  | n + 1 => worS σ c n + σ (ix c n) * σ n
def romD (σ : Nat → Int32) (c : Nat) : Int32 := covI σ c (nI 0) (nI 1) - σ (ix c 7)
def romS (σ : Nat → Int32) (c : Nat) : Int32 := if romD σ c < 0 ∨ σ (ix c 9) = nI 1 then nI 0 else romD σ c
def rskD (σ : Nat → Int32) (a b : Nat) : Int64 := (covI σ a (nI 0) (nI 1)).toInt64 * (σ (ix b 7)).toInt64 - (covI σ b (nI 0) (nI 1)).toInt64 * (σ (ix a 7)).toInt64
def rsk0 (σ : Nat → Int32) (a b : Nat) : Bool := decide (0 < σ (ix a 7)) || (decide (σ (ix b 7) = 0) && decide (a < b))
def rsk1 (σ : Nat → Int32) (a b : Nat) : Bool := decide (lg_cmp (rskD σ a b) (lN 0) < 0) || (decide (lg_cmp (rskD σ a b) (lN 0) = 0) && decide (a < b))
def rsk (σ : Nat → Int32) (a b : Nat) : Bool := if σ (ix a 7) = 0 ∨ σ (ix b 7) = 0 then rsk0 σ a b else rsk1 σ a b
def rnkS (σ : Nat → Int32) (c : Nat) : Nat → Int32
  | 0 => nI 0
  | n + 1 => rnkS σ c n + bI (!decide (n = c) && rsk σ n c)
def rkyS (σ : Nat → Int32) (p : Int32) : Nat → Int32
  | 0 => -1
  | n + 1 => if rnkS σ n 8 = p then nI n else rkyS σ p n
def allS (σ : Nat → Int32) : Nat → Int32
  | 0 => nI 0
  | n + 1 => allS σ n + bI (isK σ n)
def falF (σ : Nat → Int32) (c : Nat) : Nat → Nat → Int32
  | 0, _ => -1
  | f + 1, p => if covI σ c (nI p) (nI 0) < σ (ix c 7) then nI p else falF σ c f (p + 1)
def falS (σ : Nat → Int32) (c : Nat) : Int32 := if isK σ c = true then nI 0 else falF σ c 100 1
def intD (σ : Nat → Int32) (d : Int32) : Int32 := (d * σ 98 + nI 9999) / nI 10000
def htF (σ : Nat → Int32) (cv : Int32) : Nat → Int32 → Nat → Nat
  | 0, _, n => n
  | f + 1, d, n => if cv < d then n else htF σ cv f (d + intD σ d) (n + 1)
def htS (σ : Nat → Int32) (c : Nat) : Nat := htF σ (covI σ c (nI 0) (nI 1)) 1000 (σ (ix c 7)) 0
def ifFS (σ : Nat → Int32) (q : Int32) : Nat → Int32
  | 0 => nI 0
  | n + 1 => ifFS σ q n + bI (decide (covI σ n q (nI 1) < σ (ix n 7)))
def dbS (σ : Nat → Int32) : Nat → Int32
  | 0 => nI 0
  | n + 1 => dbS σ n + σ (ix n 7)
def cvS (σ : Nat → Int32) : Nat → Int32
  | 0 => nI 0
  | n + 1 => cvS σ n + covI σ n (nI 0) (nI 1)
def useD (σ : Nat → Int32) : UInt64 := FP.ddiv (FP.i2d (dbS σ 8)) (FP.i2d (cvS σ 8))
theorem nIlt {a b : Nat} (ha : a < 8) (hb : b < 8) : nI b ≤ nI a ↔ ¬ a < b := by
  rw [nI_leI (by omega) (by omega)]; omega
end
section
/-! ===== the class's cells: a ledger, and the world round the present one ===== -/
/-- a ledger at b: its fields sc 98 .. 108, its rows; then others -/
def ledA (b : Nat) (sc a1 a2 a3 a4 a5 a6 a7 a8 : Nat → Int32) (g : PW) : PW :=
  .inr (0, [.ref (b + 1), .ref (b + 2), .ref (b + 3), .ref (b + 4), .ref (b + 5), .ref (b + 6), .ref (b + 7), .ref (b + 8), .int (sc 98), .int (sc 99), .int (sc 100), .int (sc 101), .int (sc 102), .int (sc 103), .int (sc 104), .int (sc 105), .int (sc 106), .int (sc 107), .int (sc 108)]) ::
  .inl (0, 6, .inl (tr 6 a1)) :: .inl (0, 6, .inl (tr 6 a2)) :: .inl (0, 6, .inl (tr 6 a3)) :: .inl (0, 48, .inl (tr 48 a4)) :: .inl (0, 8, .inl (tr 8 a5)) :: .inl (0, 8, .inl (tr 8 a6)) :: .inl (0, 8, .inl (tr 8 a7)) :: .inl (1, 8, .inl (tr 8 a8)) :: g
def ledC (b : Nat) (τ : Nat → Int32) (g : PW) : PW := ledA b τ τ (fun k => τ (6 + k)) (fun k => τ (12 + k)) (fun j => τ (ix (j / 6) (j % 6))) (fun c => τ (ix c 6)) (fun c => τ (ix c 7)) (fun c => τ (ix c 8)) (fun c => τ (ix c 9)) g
theorem ledA_ext {b : Nat} {sc a1 a2 a3 a4 a5 a6 a7 a8 sc' b1 b2 b3 b4 b5 b6 b7 b8 : Nat → Int32} {g : PW} (h0 : ∀ k, k < 11 → sc (98 + k) = sc' (98 + k)) (h1 : ∀ k, k < 6 → a1 k = b1 k) (h2 : ∀ k, k < 6 → a2 k = b2 k) (h3 : ∀ k, k < 6 → a3 k = b3 k) (h4 : ∀ k, k < 48 → a4 k = b4 k) (h5 : ∀ k, k < 8 → a5 k = b5 k) (h6 : ∀ k, k < 8 → a6 k = b6 k) (h7 : ∀ k, k < 8 → a7 k = b7 k) (h8 : ∀ k, k < 8 → a8 k = b8 k) : ledA b sc a1 a2 a3 a4 a5 a6 a7 a8 g = ledA b sc' b1 b2 b3 b4 b5 b6 b7 b8 g := by
  unfold ledA
  rw [tr_ext h1, tr_ext h2, tr_ext h3, tr_ext h4, tr_ext h5, tr_ext h6, tr_ext h7, tr_ext h8, show sc 98 = sc' 98 from h0 0 (by omega), show sc 99 = sc' 99 from h0 1 (by omega), show sc 100 = sc' 100 from h0 2 (by omega), show sc 101 = sc' 101 from h0 3 (by omega), show sc 102 = sc' 102 from h0 4 (by omega), show sc 103 = sc' 103 from h0 5 (by omega), show sc 104 = sc' 104 from h0 6 (by omega), show sc 105 = sc' 105 from h0 7 (by omega), show sc 106 = sc' 106 from h0 8 (by omega), show sc 107 = sc' 107 from h0 9 (by omega), show sc 108 = sc' 108 from h0 10 (by omega)]
theorem ledC_ext {b : Nat} {τ τ' : Nat → Int32} {g : PW} (h : ∀ i, i < 109 → τ i = τ' i) : ledC b τ g = ledC b τ' g := ledA_ext (fun k _ => h _ (by omega)) (fun k _ => h _ (by omega)) (fun k _ => h _ (by omega)) (fun k _ => h _ (by omega)) (fun k _ => h _ (by simp only [ix]; omega)) (fun k _ => h _ (by simp only [ix]; omega)) (fun k _ => h _ (by simp only [ix]; omega)) (fun k _ => h _ (by simp only [ix]; omega)) (fun k _ => h _ (by simp only [ix]; omega))
theorem upd_at (f : Nat → Int32) (k j : Nat) (x : Int32) : upd f k x j = if j = k then x else f j := rfl
theorem led_prices (b : Nat) (τ : Nat → Int32) (g : PW) {k : Nat} (hk : k < 6) (x : Int32) : (ledC b τ g).set 1 (.inl (0, 6, .inl (tr 6 (upd (τ) k x)))) = ledC b (upd τ (k) x) g := by
  show ledA b τ (upd (τ) k x) (fun k => τ (6 + k)) (fun k => τ (12 + k)) (fun j => τ (ix (j / 6) (j % 6))) (fun c => τ (ix c 6)) (fun c => τ (ix c 7)) (fun c => τ (ix c 8)) (fun c => τ (ix c 9)) g = _
  exact ledA_ext (fun q hq => by simp only [upd_at, ix] <;> first | rfl | (split <;> first | rfl | omega) | (split <;> split <;> first | rfl | omega)) (fun q hq => by simp only [upd_at, ix] <;> first | rfl | (split <;> first | rfl | omega) | (split <;> split <;> first | rfl | omega)) (fun q hq => by simp only [upd_at, ix] <;> first | rfl | (split <;> first | rfl | omega) | (split <;> split <;> first | rfl | omega)) (fun q hq => by simp only [upd_at, ix] <;> first | rfl | (split <;> first | rfl | omega) | (split <;> split <;> first | rfl | omega)) (fun q hq => by simp only [upd_at, ix] <;> first | rfl | (split <;> first | rfl | omega) | (split <;> split <;> first | rfl | omega)) (fun q hq => by simp only [upd_at, ix] <;> first | rfl | (split <;> first | rfl | omega) | (split <;> split <;> first | rfl | omega)) (fun q hq => by simp only [upd_at, ix] <;> first | rfl | (split <;> first | rfl | omega) | (split <;> split <;> first | rfl | omega)) (fun q hq => by simp only [upd_at, ix] <;> first | rfl | (split <;> first | rfl | omega) | (split <;> split <;> first | rfl | omega)) (fun q hq => by simp only [upd_at, ix] <;> first | rfl | (split <;> first | rfl | omega) | (split <;> split <;> first | rfl | omega))
theorem led_cuts (b : Nat) (τ : Nat → Int32) (g : PW) {k : Nat} (hk : k < 6) (x : Int32) : (ledC b τ g).set 2 (.inl (0, 6, .inl (tr 6 (upd (fun k => τ (6 + k)) k x)))) = ledC b (upd τ (6 + k) x) g := by
  show ledA b τ τ (upd (fun k => τ (6 + k)) k x) (fun k => τ (12 + k)) (fun j => τ (ix (j / 6) (j % 6))) (fun c => τ (ix c 6)) (fun c => τ (ix c 7)) (fun c => τ (ix c 8)) (fun c => τ (ix c 9)) g = _
  exact ledA_ext (fun q hq => by simp only [upd_at, ix] <;> first | rfl | (split <;> first | rfl | omega) | (split <;> split <;> first | rfl | omega)) (fun q hq => by simp only [upd_at, ix] <;> first | rfl | (split <;> first | rfl | omega) | (split <;> split <;> first | rfl | omega)) (fun q hq => by simp only [upd_at, ix] <;> first | rfl | (split <;> first | rfl | omega) | (split <;> split <;> first | rfl | omega)) (fun q hq => by simp only [upd_at, ix] <;> first | rfl | (split <;> first | rfl | omega) | (split <;> split <;> first | rfl | omega)) (fun q hq => by simp only [upd_at, ix] <;> first | rfl | (split <;> first | rfl | omega) | (split <;> split <;> first | rfl | omega)) (fun q hq => by simp only [upd_at, ix] <;> first | rfl | (split <;> first | rfl | omega) | (split <;> split <;> first | rfl | omega)) (fun q hq => by simp only [upd_at, ix] <;> first | rfl | (split <;> first | rfl | omega) | (split <;> split <;> first | rfl | omega)) (fun q hq => by simp only [upd_at, ix] <;> first | rfl | (split <;> first | rfl | omega) | (split <;> split <;> first | rfl | omega)) (fun q hq => by simp only [upd_at, ix] <;> first | rfl | (split <;> first | rfl | omega) | (split <;> split <;> first | rfl | omega))
theorem led_sold (b : Nat) (τ : Nat → Int32) (g : PW) {k : Nat} (hk : k < 6) (x : Int32) : (ledC b τ g).set 3 (.inl (0, 6, .inl (tr 6 (upd (fun k => τ (12 + k)) k x)))) = ledC b (upd τ (12 + k) x) g := by
  show ledA b τ τ (fun k => τ (6 + k)) (upd (fun k => τ (12 + k)) k x) (fun j => τ (ix (j / 6) (j % 6))) (fun c => τ (ix c 6)) (fun c => τ (ix c 7)) (fun c => τ (ix c 8)) (fun c => τ (ix c 9)) g = _
  exact ledA_ext (fun q hq => by simp only [upd_at, ix] <;> first | rfl | (split <;> first | rfl | omega) | (split <;> split <;> first | rfl | omega)) (fun q hq => by simp only [upd_at, ix] <;> first | rfl | (split <;> first | rfl | omega) | (split <;> split <;> first | rfl | omega)) (fun q hq => by simp only [upd_at, ix] <;> first | rfl | (split <;> first | rfl | omega) | (split <;> split <;> first | rfl | omega)) (fun q hq => by simp only [upd_at, ix] <;> first | rfl | (split <;> first | rfl | omega) | (split <;> split <;> first | rfl | omega)) (fun q hq => by simp only [upd_at, ix] <;> first | rfl | (split <;> first | rfl | omega) | (split <;> split <;> first | rfl | omega)) (fun q hq => by simp only [upd_at, ix] <;> first | rfl | (split <;> first | rfl | omega) | (split <;> split <;> first | rfl | omega)) (fun q hq => by simp only [upd_at, ix] <;> first | rfl | (split <;> first | rfl | omega) | (split <;> split <;> first | rfl | omega)) (fun q hq => by simp only [upd_at, ix] <;> first | rfl | (split <;> first | rfl | omega) | (split <;> split <;> first | rfl | omega)) (fun q hq => by simp only [upd_at, ix] <;> first | rfl | (split <;> first | rfl | omega) | (split <;> split <;> first | rfl | omega))
theorem led_pieces (b : Nat) (τ : Nat → Int32) (g : PW) {c k : Nat} (hc : c < 8) (hk : k < 6) (x : Int32) : (ledC b τ g).set 4 (.inl (0, 48, .inl (tr 48 (upd (fun j => τ (ix (j / 6) (j % 6))) (c * 6 + k) x)))) = ledC b (upd τ (ix c k) x) g := by
  show ledA b τ τ (fun k => τ (6 + k)) (fun k => τ (12 + k)) (upd (fun j => τ (ix (j / 6) (j % 6))) (c * 6 + k) x) (fun c => τ (ix c 6)) (fun c => τ (ix c 7)) (fun c => τ (ix c 8)) (fun c => τ (ix c 9)) g = _
  exact ledA_ext (fun q hq => by simp only [upd_at, ix] <;> first | rfl | (split <;> first | rfl | omega) | (split <;> split <;> first | rfl | omega)) (fun q hq => by simp only [upd_at, ix] <;> first | rfl | (split <;> first | rfl | omega) | (split <;> split <;> first | rfl | omega)) (fun q hq => by simp only [upd_at, ix] <;> first | rfl | (split <;> first | rfl | omega) | (split <;> split <;> first | rfl | omega)) (fun q hq => by simp only [upd_at, ix] <;> first | rfl | (split <;> first | rfl | omega) | (split <;> split <;> first | rfl | omega)) (fun q hq => by simp only [upd_at, ix] <;> first | rfl | (split <;> first | rfl | omega) | (split <;> split <;> first | rfl | omega)) (fun q hq => by simp only [upd_at, ix] <;> first | rfl | (split <;> first | rfl | omega) | (split <;> split <;> first | rfl | omega)) (fun q hq => by simp only [upd_at, ix] <;> first | rfl | (split <;> first | rfl | omega) | (split <;> split <;> first | rfl | omega)) (fun q hq => by simp only [upd_at, ix] <;> first | rfl | (split <;> first | rfl | omega) | (split <;> split <;> first | rfl | omega)) (fun q hq => by simp only [upd_at, ix] <;> first | rfl | (split <;> first | rfl | omega) | (split <;> split <;> first | rfl | omega))
theorem led_coins (b : Nat) (τ : Nat → Int32) (g : PW) {c : Nat} (hc : c < 8) (x : Int32) : (ledC b τ g).set 5 (.inl (0, 8, .inl (tr 8 (upd (fun c => τ (ix c 6)) c x)))) = ledC b (upd τ (ix c 6) x) g := by
  show ledA b τ τ (fun k => τ (6 + k)) (fun k => τ (12 + k)) (fun j => τ (ix (j / 6) (j % 6))) (upd (fun c => τ (ix c 6)) c x) (fun c => τ (ix c 7)) (fun c => τ (ix c 8)) (fun c => τ (ix c 9)) g = _
  exact ledA_ext (fun q hq => by simp only [upd_at, ix] <;> first | rfl | (split <;> first | rfl | omega) | (split <;> split <;> first | rfl | omega)) (fun q hq => by simp only [upd_at, ix] <;> first | rfl | (split <;> first | rfl | omega) | (split <;> split <;> first | rfl | omega)) (fun q hq => by simp only [upd_at, ix] <;> first | rfl | (split <;> first | rfl | omega) | (split <;> split <;> first | rfl | omega)) (fun q hq => by simp only [upd_at, ix] <;> first | rfl | (split <;> first | rfl | omega) | (split <;> split <;> first | rfl | omega)) (fun q hq => by simp only [upd_at, ix] <;> first | rfl | (split <;> first | rfl | omega) | (split <;> split <;> first | rfl | omega)) (fun q hq => by simp only [upd_at, ix] <;> first | rfl | (split <;> first | rfl | omega) | (split <;> split <;> first | rfl | omega)) (fun q hq => by simp only [upd_at, ix] <;> first | rfl | (split <;> first | rfl | omega) | (split <;> split <;> first | rfl | omega)) (fun q hq => by simp only [upd_at, ix] <;> first | rfl | (split <;> first | rfl | omega) | (split <;> split <;> first | rfl | omega)) (fun q hq => by simp only [upd_at, ix] <;> first | rfl | (split <;> first | rfl | omega) | (split <;> split <;> first | rfl | omega))
theorem led_debts (b : Nat) (τ : Nat → Int32) (g : PW) {c : Nat} (hc : c < 8) (x : Int32) : (ledC b τ g).set 6 (.inl (0, 8, .inl (tr 8 (upd (fun c => τ (ix c 7)) c x)))) = ledC b (upd τ (ix c 7) x) g := by
  show ledA b τ τ (fun k => τ (6 + k)) (fun k => τ (12 + k)) (fun j => τ (ix (j / 6) (j % 6))) (fun c => τ (ix c 6)) (upd (fun c => τ (ix c 7)) c x) (fun c => τ (ix c 8)) (fun c => τ (ix c 9)) g = _
  exact ledA_ext (fun q hq => by simp only [upd_at, ix] <;> first | rfl | (split <;> first | rfl | omega) | (split <;> split <;> first | rfl | omega)) (fun q hq => by simp only [upd_at, ix] <;> first | rfl | (split <;> first | rfl | omega) | (split <;> split <;> first | rfl | omega)) (fun q hq => by simp only [upd_at, ix] <;> first | rfl | (split <;> first | rfl | omega) | (split <;> split <;> first | rfl | omega)) (fun q hq => by simp only [upd_at, ix] <;> first | rfl | (split <;> first | rfl | omega) | (split <;> split <;> first | rfl | omega)) (fun q hq => by simp only [upd_at, ix] <;> first | rfl | (split <;> first | rfl | omega) | (split <;> split <;> first | rfl | omega)) (fun q hq => by simp only [upd_at, ix] <;> first | rfl | (split <;> first | rfl | omega) | (split <;> split <;> first | rfl | omega)) (fun q hq => by simp only [upd_at, ix] <;> first | rfl | (split <;> first | rfl | omega) | (split <;> split <;> first | rfl | omega)) (fun q hq => by simp only [upd_at, ix] <;> first | rfl | (split <;> first | rfl | omega) | (split <;> split <;> first | rfl | omega)) (fun q hq => by simp only [upd_at, ix] <;> first | rfl | (split <;> first | rfl | omega) | (split <;> split <;> first | rfl | omega))
theorem led_call (b : Nat) (τ : Nat → Int32) (g : PW) {c : Nat} (hc : c < 8) (x : Int32) : (ledC b τ g).set 7 (.inl (0, 8, .inl (tr 8 (upd (fun c => τ (ix c 8)) c x)))) = ledC b (upd τ (ix c 8) x) g := by
  show ledA b τ τ (fun k => τ (6 + k)) (fun k => τ (12 + k)) (fun j => τ (ix (j / 6) (j % 6))) (fun c => τ (ix c 6)) (fun c => τ (ix c 7)) (upd (fun c => τ (ix c 8)) c x) (fun c => τ (ix c 9)) g = _
  exact ledA_ext (fun q hq => by simp only [upd_at, ix] <;> first | rfl | (split <;> first | rfl | omega) | (split <;> split <;> first | rfl | omega)) (fun q hq => by simp only [upd_at, ix] <;> first | rfl | (split <;> first | rfl | omega) | (split <;> split <;> first | rfl | omega)) (fun q hq => by simp only [upd_at, ix] <;> first | rfl | (split <;> first | rfl | omega) | (split <;> split <;> first | rfl | omega)) (fun q hq => by simp only [upd_at, ix] <;> first | rfl | (split <;> first | rfl | omega) | (split <;> split <;> first | rfl | omega)) (fun q hq => by simp only [upd_at, ix] <;> first | rfl | (split <;> first | rfl | omega) | (split <;> split <;> first | rfl | omega)) (fun q hq => by simp only [upd_at, ix] <;> first | rfl | (split <;> first | rfl | omega) | (split <;> split <;> first | rfl | omega)) (fun q hq => by simp only [upd_at, ix] <;> first | rfl | (split <;> first | rfl | omega) | (split <;> split <;> first | rfl | omega)) (fun q hq => by simp only [upd_at, ix] <;> first | rfl | (split <;> first | rfl | omega) | (split <;> split <;> first | rfl | omega)) (fun q hq => by simp only [upd_at, ix] <;> first | rfl | (split <;> first | rfl | omega) | (split <;> split <;> first | rfl | omega))
theorem led_barred (b : Nat) (τ : Nat → Int32) (g : PW) {c : Nat} (hc : c < 8) (x : Int32) : (ledC b τ g).set 8 (.inl (1, 8, .inl (tr 8 (upd (fun c => τ (ix c 9)) c x)))) = ledC b (upd τ (ix c 9) x) g := by
  show ledA b τ τ (fun k => τ (6 + k)) (fun k => τ (12 + k)) (fun j => τ (ix (j / 6) (j % 6))) (fun c => τ (ix c 6)) (fun c => τ (ix c 7)) (fun c => τ (ix c 8)) (upd (fun c => τ (ix c 9)) c x) g = _
  exact ledA_ext (fun q hq => by simp only [upd_at, ix] <;> first | rfl | (split <;> first | rfl | omega) | (split <;> split <;> first | rfl | omega)) (fun q hq => by simp only [upd_at, ix] <;> first | rfl | (split <;> first | rfl | omega) | (split <;> split <;> first | rfl | omega)) (fun q hq => by simp only [upd_at, ix] <;> first | rfl | (split <;> first | rfl | omega) | (split <;> split <;> first | rfl | omega)) (fun q hq => by simp only [upd_at, ix] <;> first | rfl | (split <;> first | rfl | omega) | (split <;> split <;> first | rfl | omega)) (fun q hq => by simp only [upd_at, ix] <;> first | rfl | (split <;> first | rfl | omega) | (split <;> split <;> first | rfl | omega)) (fun q hq => by simp only [upd_at, ix] <;> first | rfl | (split <;> first | rfl | omega) | (split <;> split <;> first | rfl | omega)) (fun q hq => by simp only [upd_at, ix] <;> first | rfl | (split <;> first | rfl | omega) | (split <;> split <;> first | rfl | omega)) (fun q hq => by simp only [upd_at, ix] <;> first | rfl | (split <;> first | rfl | omega) | (split <;> split <;> first | rfl | omega)) (fun q hq => by simp only [upd_at, ix] <;> first | rfl | (split <;> first | rfl | omega) | (split <;> split <;> first | rfl | omega))
theorem led_f98 (b : Nat) (τ : Nat → Int32) (g : PW) (x : Int32) : (ledC b τ g).set 0 (.inr (0, ([.ref (b + 1), .ref (b + 2), .ref (b + 3), .ref (b + 4), .ref (b + 5), .ref (b + 6), .ref (b + 7), .ref (b + 8), .int (τ 98), .int (τ 99), .int (τ 100), .int (τ 101), .int (τ 102), .int (τ 103), .int (τ 104), .int (τ 105), .int (τ 106), .int (τ 107), .int (τ 108)] : List Value).set 8 (.int x))) = ledC b (upd τ 98 x) g := by
  show ledA b (upd τ 98 x) τ (fun k => τ (6 + k)) (fun k => τ (12 + k)) (fun j => τ (ix (j / 6) (j % 6))) (fun c => τ (ix c 6)) (fun c => τ (ix c 7)) (fun c => τ (ix c 8)) (fun c => τ (ix c 9)) g = _
  exact ledA_ext (fun q hq => by simp only [upd_at, ix] <;> first | rfl | (split <;> first | rfl | omega) | (split <;> split <;> first | rfl | omega)) (fun q hq => by simp only [upd_at, ix] <;> first | rfl | (split <;> first | rfl | omega) | (split <;> split <;> first | rfl | omega)) (fun q hq => by simp only [upd_at, ix] <;> first | rfl | (split <;> first | rfl | omega) | (split <;> split <;> first | rfl | omega)) (fun q hq => by simp only [upd_at, ix] <;> first | rfl | (split <;> first | rfl | omega) | (split <;> split <;> first | rfl | omega)) (fun q hq => by simp only [upd_at, ix] <;> first | rfl | (split <;> first | rfl | omega) | (split <;> split <;> first | rfl | omega)) (fun q hq => by simp only [upd_at, ix] <;> first | rfl | (split <;> first | rfl | omega) | (split <;> split <;> first | rfl | omega)) (fun q hq => by simp only [upd_at, ix] <;> first | rfl | (split <;> first | rfl | omega) | (split <;> split <;> first | rfl | omega)) (fun q hq => by simp only [upd_at, ix] <;> first | rfl | (split <;> first | rfl | omega) | (split <;> split <;> first | rfl | omega)) (fun q hq => by simp only [upd_at, ix] <;> first | rfl | (split <;> first | rfl | omega) | (split <;> split <;> first | rfl | omega))
theorem led_f99 (b : Nat) (τ : Nat → Int32) (g : PW) (x : Int32) : (ledC b τ g).set 0 (.inr (0, ([.ref (b + 1), .ref (b + 2), .ref (b + 3), .ref (b + 4), .ref (b + 5), .ref (b + 6), .ref (b + 7), .ref (b + 8), .int (τ 98), .int (τ 99), .int (τ 100), .int (τ 101), .int (τ 102), .int (τ 103), .int (τ 104), .int (τ 105), .int (τ 106), .int (τ 107), .int (τ 108)] : List Value).set 9 (.int x))) = ledC b (upd τ 99 x) g := by
  show ledA b (upd τ 99 x) τ (fun k => τ (6 + k)) (fun k => τ (12 + k)) (fun j => τ (ix (j / 6) (j % 6))) (fun c => τ (ix c 6)) (fun c => τ (ix c 7)) (fun c => τ (ix c 8)) (fun c => τ (ix c 9)) g = _
  exact ledA_ext (fun q hq => by simp only [upd_at, ix] <;> first | rfl | (split <;> first | rfl | omega) | (split <;> split <;> first | rfl | omega)) (fun q hq => by simp only [upd_at, ix] <;> first | rfl | (split <;> first | rfl | omega) | (split <;> split <;> first | rfl | omega)) (fun q hq => by simp only [upd_at, ix] <;> first | rfl | (split <;> first | rfl | omega) | (split <;> split <;> first | rfl | omega)) (fun q hq => by simp only [upd_at, ix] <;> first | rfl | (split <;> first | rfl | omega) | (split <;> split <;> first | rfl | omega)) (fun q hq => by simp only [upd_at, ix] <;> first | rfl | (split <;> first | rfl | omega) | (split <;> split <;> first | rfl | omega)) (fun q hq => by simp only [upd_at, ix] <;> first | rfl | (split <;> first | rfl | omega) | (split <;> split <;> first | rfl | omega)) (fun q hq => by simp only [upd_at, ix] <;> first | rfl | (split <;> first | rfl | omega) | (split <;> split <;> first | rfl | omega)) (fun q hq => by simp only [upd_at, ix] <;> first | rfl | (split <;> first | rfl | omega) | (split <;> split <;> first | rfl | omega)) (fun q hq => by simp only [upd_at, ix] <;> first | rfl | (split <;> first | rfl | omega) | (split <;> split <;> first | rfl | omega))
theorem led_f100 (b : Nat) (τ : Nat → Int32) (g : PW) (x : Int32) : (ledC b τ g).set 0 (.inr (0, ([.ref (b + 1), .ref (b + 2), .ref (b + 3), .ref (b + 4), .ref (b + 5), .ref (b + 6), .ref (b + 7), .ref (b + 8), .int (τ 98), .int (τ 99), .int (τ 100), .int (τ 101), .int (τ 102), .int (τ 103), .int (τ 104), .int (τ 105), .int (τ 106), .int (τ 107), .int (τ 108)] : List Value).set 10 (.int x))) = ledC b (upd τ 100 x) g := by
  show ledA b (upd τ 100 x) τ (fun k => τ (6 + k)) (fun k => τ (12 + k)) (fun j => τ (ix (j / 6) (j % 6))) (fun c => τ (ix c 6)) (fun c => τ (ix c 7)) (fun c => τ (ix c 8)) (fun c => τ (ix c 9)) g = _
  exact ledA_ext (fun q hq => by simp only [upd_at, ix] <;> first | rfl | (split <;> first | rfl | omega) | (split <;> split <;> first | rfl | omega)) (fun q hq => by simp only [upd_at, ix] <;> first | rfl | (split <;> first | rfl | omega) | (split <;> split <;> first | rfl | omega)) (fun q hq => by simp only [upd_at, ix] <;> first | rfl | (split <;> first | rfl | omega) | (split <;> split <;> first | rfl | omega)) (fun q hq => by simp only [upd_at, ix] <;> first | rfl | (split <;> first | rfl | omega) | (split <;> split <;> first | rfl | omega)) (fun q hq => by simp only [upd_at, ix] <;> first | rfl | (split <;> first | rfl | omega) | (split <;> split <;> first | rfl | omega)) (fun q hq => by simp only [upd_at, ix] <;> first | rfl | (split <;> first | rfl | omega) | (split <;> split <;> first | rfl | omega)) (fun q hq => by simp only [upd_at, ix] <;> first | rfl | (split <;> first | rfl | omega) | (split <;> split <;> first | rfl | omega)) (fun q hq => by simp only [upd_at, ix] <;> first | rfl | (split <;> first | rfl | omega) | (split <;> split <;> first | rfl | omega)) (fun q hq => by simp only [upd_at, ix] <;> first | rfl | (split <;> first | rfl | omega) | (split <;> split <;> first | rfl | omega))
theorem led_f101 (b : Nat) (τ : Nat → Int32) (g : PW) (x : Int32) : (ledC b τ g).set 0 (.inr (0, ([.ref (b + 1), .ref (b + 2), .ref (b + 3), .ref (b + 4), .ref (b + 5), .ref (b + 6), .ref (b + 7), .ref (b + 8), .int (τ 98), .int (τ 99), .int (τ 100), .int (τ 101), .int (τ 102), .int (τ 103), .int (τ 104), .int (τ 105), .int (τ 106), .int (τ 107), .int (τ 108)] : List Value).set 11 (.int x))) = ledC b (upd τ 101 x) g := by
  show ledA b (upd τ 101 x) τ (fun k => τ (6 + k)) (fun k => τ (12 + k)) (fun j => τ (ix (j / 6) (j % 6))) (fun c => τ (ix c 6)) (fun c => τ (ix c 7)) (fun c => τ (ix c 8)) (fun c => τ (ix c 9)) g = _
  exact ledA_ext (fun q hq => by simp only [upd_at, ix] <;> first | rfl | (split <;> first | rfl | omega) | (split <;> split <;> first | rfl | omega)) (fun q hq => by simp only [upd_at, ix] <;> first | rfl | (split <;> first | rfl | omega) | (split <;> split <;> first | rfl | omega)) (fun q hq => by simp only [upd_at, ix] <;> first | rfl | (split <;> first | rfl | omega) | (split <;> split <;> first | rfl | omega)) (fun q hq => by simp only [upd_at, ix] <;> first | rfl | (split <;> first | rfl | omega) | (split <;> split <;> first | rfl | omega)) (fun q hq => by simp only [upd_at, ix] <;> first | rfl | (split <;> first | rfl | omega) | (split <;> split <;> first | rfl | omega)) (fun q hq => by simp only [upd_at, ix] <;> first | rfl | (split <;> first | rfl | omega) | (split <;> split <;> first | rfl | omega)) (fun q hq => by simp only [upd_at, ix] <;> first | rfl | (split <;> first | rfl | omega) | (split <;> split <;> first | rfl | omega)) (fun q hq => by simp only [upd_at, ix] <;> first | rfl | (split <;> first | rfl | omega) | (split <;> split <;> first | rfl | omega)) (fun q hq => by simp only [upd_at, ix] <;> first | rfl | (split <;> first | rfl | omega) | (split <;> split <;> first | rfl | omega))
theorem led_f102 (b : Nat) (τ : Nat → Int32) (g : PW) (x : Int32) : (ledC b τ g).set 0 (.inr (0, ([.ref (b + 1), .ref (b + 2), .ref (b + 3), .ref (b + 4), .ref (b + 5), .ref (b + 6), .ref (b + 7), .ref (b + 8), .int (τ 98), .int (τ 99), .int (τ 100), .int (τ 101), .int (τ 102), .int (τ 103), .int (τ 104), .int (τ 105), .int (τ 106), .int (τ 107), .int (τ 108)] : List Value).set 12 (.int x))) = ledC b (upd τ 102 x) g := by
  show ledA b (upd τ 102 x) τ (fun k => τ (6 + k)) (fun k => τ (12 + k)) (fun j => τ (ix (j / 6) (j % 6))) (fun c => τ (ix c 6)) (fun c => τ (ix c 7)) (fun c => τ (ix c 8)) (fun c => τ (ix c 9)) g = _
  exact ledA_ext (fun q hq => by simp only [upd_at, ix] <;> first | rfl | (split <;> first | rfl | omega) | (split <;> split <;> first | rfl | omega)) (fun q hq => by simp only [upd_at, ix] <;> first | rfl | (split <;> first | rfl | omega) | (split <;> split <;> first | rfl | omega)) (fun q hq => by simp only [upd_at, ix] <;> first | rfl | (split <;> first | rfl | omega) | (split <;> split <;> first | rfl | omega)) (fun q hq => by simp only [upd_at, ix] <;> first | rfl | (split <;> first | rfl | omega) | (split <;> split <;> first | rfl | omega)) (fun q hq => by simp only [upd_at, ix] <;> first | rfl | (split <;> first | rfl | omega) | (split <;> split <;> first | rfl | omega)) (fun q hq => by simp only [upd_at, ix] <;> first | rfl | (split <;> first | rfl | omega) | (split <;> split <;> first | rfl | omega)) (fun q hq => by simp only [upd_at, ix] <;> first | rfl | (split <;> first | rfl | omega) | (split <;> split <;> first | rfl | omega)) (fun q hq => by simp only [upd_at, ix] <;> first | rfl | (split <;> first | rfl | omega) | (split <;> split <;> first | rfl | omega)) (fun q hq => by simp only [upd_at, ix] <;> first | rfl | (split <;> first | rfl | omega) | (split <;> split <;> first | rfl | omega))
theorem led_f103 (b : Nat) (τ : Nat → Int32) (g : PW) (x : Int32) : (ledC b τ g).set 0 (.inr (0, ([.ref (b + 1), .ref (b + 2), .ref (b + 3), .ref (b + 4), .ref (b + 5), .ref (b + 6), .ref (b + 7), .ref (b + 8), .int (τ 98), .int (τ 99), .int (τ 100), .int (τ 101), .int (τ 102), .int (τ 103), .int (τ 104), .int (τ 105), .int (τ 106), .int (τ 107), .int (τ 108)] : List Value).set 13 (.int x))) = ledC b (upd τ 103 x) g := by
  show ledA b (upd τ 103 x) τ (fun k => τ (6 + k)) (fun k => τ (12 + k)) (fun j => τ (ix (j / 6) (j % 6))) (fun c => τ (ix c 6)) (fun c => τ (ix c 7)) (fun c => τ (ix c 8)) (fun c => τ (ix c 9)) g = _
  exact ledA_ext (fun q hq => by simp only [upd_at, ix] <;> first | rfl | (split <;> first | rfl | omega) | (split <;> split <;> first | rfl | omega)) (fun q hq => by simp only [upd_at, ix] <;> first | rfl | (split <;> first | rfl | omega) | (split <;> split <;> first | rfl | omega)) (fun q hq => by simp only [upd_at, ix] <;> first | rfl | (split <;> first | rfl | omega) | (split <;> split <;> first | rfl | omega)) (fun q hq => by simp only [upd_at, ix] <;> first | rfl | (split <;> first | rfl | omega) | (split <;> split <;> first | rfl | omega)) (fun q hq => by simp only [upd_at, ix] <;> first | rfl | (split <;> first | rfl | omega) | (split <;> split <;> first | rfl | omega)) (fun q hq => by simp only [upd_at, ix] <;> first | rfl | (split <;> first | rfl | omega) | (split <;> split <;> first | rfl | omega)) (fun q hq => by simp only [upd_at, ix] <;> first | rfl | (split <;> first | rfl | omega) | (split <;> split <;> first | rfl | omega)) (fun q hq => by simp only [upd_at, ix] <;> first | rfl | (split <;> first | rfl | omega) | (split <;> split <;> first | rfl | omega)) (fun q hq => by simp only [upd_at, ix] <;> first | rfl | (split <;> first | rfl | omega) | (split <;> split <;> first | rfl | omega))
theorem led_f104 (b : Nat) (τ : Nat → Int32) (g : PW) (x : Int32) : (ledC b τ g).set 0 (.inr (0, ([.ref (b + 1), .ref (b + 2), .ref (b + 3), .ref (b + 4), .ref (b + 5), .ref (b + 6), .ref (b + 7), .ref (b + 8), .int (τ 98), .int (τ 99), .int (τ 100), .int (τ 101), .int (τ 102), .int (τ 103), .int (τ 104), .int (τ 105), .int (τ 106), .int (τ 107), .int (τ 108)] : List Value).set 14 (.int x))) = ledC b (upd τ 104 x) g := by
  show ledA b (upd τ 104 x) τ (fun k => τ (6 + k)) (fun k => τ (12 + k)) (fun j => τ (ix (j / 6) (j % 6))) (fun c => τ (ix c 6)) (fun c => τ (ix c 7)) (fun c => τ (ix c 8)) (fun c => τ (ix c 9)) g = _
  exact ledA_ext (fun q hq => by simp only [upd_at, ix] <;> first | rfl | (split <;> first | rfl | omega) | (split <;> split <;> first | rfl | omega)) (fun q hq => by simp only [upd_at, ix] <;> first | rfl | (split <;> first | rfl | omega) | (split <;> split <;> first | rfl | omega)) (fun q hq => by simp only [upd_at, ix] <;> first | rfl | (split <;> first | rfl | omega) | (split <;> split <;> first | rfl | omega)) (fun q hq => by simp only [upd_at, ix] <;> first | rfl | (split <;> first | rfl | omega) | (split <;> split <;> first | rfl | omega)) (fun q hq => by simp only [upd_at, ix] <;> first | rfl | (split <;> first | rfl | omega) | (split <;> split <;> first | rfl | omega)) (fun q hq => by simp only [upd_at, ix] <;> first | rfl | (split <;> first | rfl | omega) | (split <;> split <;> first | rfl | omega)) (fun q hq => by simp only [upd_at, ix] <;> first | rfl | (split <;> first | rfl | omega) | (split <;> split <;> first | rfl | omega)) (fun q hq => by simp only [upd_at, ix] <;> first | rfl | (split <;> first | rfl | omega) | (split <;> split <;> first | rfl | omega)) (fun q hq => by simp only [upd_at, ix] <;> first | rfl | (split <;> first | rfl | omega) | (split <;> split <;> first | rfl | omega))
theorem led_f105 (b : Nat) (τ : Nat → Int32) (g : PW) (x : Int32) : (ledC b τ g).set 0 (.inr (0, ([.ref (b + 1), .ref (b + 2), .ref (b + 3), .ref (b + 4), .ref (b + 5), .ref (b + 6), .ref (b + 7), .ref (b + 8), .int (τ 98), .int (τ 99), .int (τ 100), .int (τ 101), .int (τ 102), .int (τ 103), .int (τ 104), .int (τ 105), .int (τ 106), .int (τ 107), .int (τ 108)] : List Value).set 15 (.int x))) = ledC b (upd τ 105 x) g := by
  show ledA b (upd τ 105 x) τ (fun k => τ (6 + k)) (fun k => τ (12 + k)) (fun j => τ (ix (j / 6) (j % 6))) (fun c => τ (ix c 6)) (fun c => τ (ix c 7)) (fun c => τ (ix c 8)) (fun c => τ (ix c 9)) g = _
  exact ledA_ext (fun q hq => by simp only [upd_at, ix] <;> first | rfl | (split <;> first | rfl | omega) | (split <;> split <;> first | rfl | omega)) (fun q hq => by simp only [upd_at, ix] <;> first | rfl | (split <;> first | rfl | omega) | (split <;> split <;> first | rfl | omega)) (fun q hq => by simp only [upd_at, ix] <;> first | rfl | (split <;> first | rfl | omega) | (split <;> split <;> first | rfl | omega)) (fun q hq => by simp only [upd_at, ix] <;> first | rfl | (split <;> first | rfl | omega) | (split <;> split <;> first | rfl | omega)) (fun q hq => by simp only [upd_at, ix] <;> first | rfl | (split <;> first | rfl | omega) | (split <;> split <;> first | rfl | omega)) (fun q hq => by simp only [upd_at, ix] <;> first | rfl | (split <;> first | rfl | omega) | (split <;> split <;> first | rfl | omega)) (fun q hq => by simp only [upd_at, ix] <;> first | rfl | (split <;> first | rfl | omega) | (split <;> split <;> first | rfl | omega)) (fun q hq => by simp only [upd_at, ix] <;> first | rfl | (split <;> first | rfl | omega) | (split <;> split <;> first | rfl | omega)) (fun q hq => by simp only [upd_at, ix] <;> first | rfl | (split <;> first | rfl | omega) | (split <;> split <;> first | rfl | omega))
theorem led_f106 (b : Nat) (τ : Nat → Int32) (g : PW) (x : Int32) : (ledC b τ g).set 0 (.inr (0, ([.ref (b + 1), .ref (b + 2), .ref (b + 3), .ref (b + 4), .ref (b + 5), .ref (b + 6), .ref (b + 7), .ref (b + 8), .int (τ 98), .int (τ 99), .int (τ 100), .int (τ 101), .int (τ 102), .int (τ 103), .int (τ 104), .int (τ 105), .int (τ 106), .int (τ 107), .int (τ 108)] : List Value).set 16 (.int x))) = ledC b (upd τ 106 x) g := by
  show ledA b (upd τ 106 x) τ (fun k => τ (6 + k)) (fun k => τ (12 + k)) (fun j => τ (ix (j / 6) (j % 6))) (fun c => τ (ix c 6)) (fun c => τ (ix c 7)) (fun c => τ (ix c 8)) (fun c => τ (ix c 9)) g = _
  exact ledA_ext (fun q hq => by simp only [upd_at, ix] <;> first | rfl | (split <;> first | rfl | omega) | (split <;> split <;> first | rfl | omega)) (fun q hq => by simp only [upd_at, ix] <;> first | rfl | (split <;> first | rfl | omega) | (split <;> split <;> first | rfl | omega)) (fun q hq => by simp only [upd_at, ix] <;> first | rfl | (split <;> first | rfl | omega) | (split <;> split <;> first | rfl | omega)) (fun q hq => by simp only [upd_at, ix] <;> first | rfl | (split <;> first | rfl | omega) | (split <;> split <;> first | rfl | omega)) (fun q hq => by simp only [upd_at, ix] <;> first | rfl | (split <;> first | rfl | omega) | (split <;> split <;> first | rfl | omega)) (fun q hq => by simp only [upd_at, ix] <;> first | rfl | (split <;> first | rfl | omega) | (split <;> split <;> first | rfl | omega)) (fun q hq => by simp only [upd_at, ix] <;> first | rfl | (split <;> first | rfl | omega) | (split <;> split <;> first | rfl | omega)) (fun q hq => by simp only [upd_at, ix] <;> first | rfl | (split <;> first | rfl | omega) | (split <;> split <;> first | rfl | omega)) (fun q hq => by simp only [upd_at, ix] <;> first | rfl | (split <;> first | rfl | omega) | (split <;> split <;> first | rfl | omega))
theorem led_f107 (b : Nat) (τ : Nat → Int32) (g : PW) (x : Int32) : (ledC b τ g).set 0 (.inr (0, ([.ref (b + 1), .ref (b + 2), .ref (b + 3), .ref (b + 4), .ref (b + 5), .ref (b + 6), .ref (b + 7), .ref (b + 8), .int (τ 98), .int (τ 99), .int (τ 100), .int (τ 101), .int (τ 102), .int (τ 103), .int (τ 104), .int (τ 105), .int (τ 106), .int (τ 107), .int (τ 108)] : List Value).set 17 (.int x))) = ledC b (upd τ 107 x) g := by
  show ledA b (upd τ 107 x) τ (fun k => τ (6 + k)) (fun k => τ (12 + k)) (fun j => τ (ix (j / 6) (j % 6))) (fun c => τ (ix c 6)) (fun c => τ (ix c 7)) (fun c => τ (ix c 8)) (fun c => τ (ix c 9)) g = _
  exact ledA_ext (fun q hq => by simp only [upd_at, ix] <;> first | rfl | (split <;> first | rfl | omega) | (split <;> split <;> first | rfl | omega)) (fun q hq => by simp only [upd_at, ix] <;> first | rfl | (split <;> first | rfl | omega) | (split <;> split <;> first | rfl | omega)) (fun q hq => by simp only [upd_at, ix] <;> first | rfl | (split <;> first | rfl | omega) | (split <;> split <;> first | rfl | omega)) (fun q hq => by simp only [upd_at, ix] <;> first | rfl | (split <;> first | rfl | omega) | (split <;> split <;> first | rfl | omega)) (fun q hq => by simp only [upd_at, ix] <;> first | rfl | (split <;> first | rfl | omega) | (split <;> split <;> first | rfl | omega)) (fun q hq => by simp only [upd_at, ix] <;> first | rfl | (split <;> first | rfl | omega) | (split <;> split <;> first | rfl | omega)) (fun q hq => by simp only [upd_at, ix] <;> first | rfl | (split <;> first | rfl | omega) | (split <;> split <;> first | rfl | omega)) (fun q hq => by simp only [upd_at, ix] <;> first | rfl | (split <;> first | rfl | omega) | (split <;> split <;> first | rfl | omega)) (fun q hq => by simp only [upd_at, ix] <;> first | rfl | (split <;> first | rfl | omega) | (split <;> split <;> first | rfl | omega))
theorem led_f108 (b : Nat) (τ : Nat → Int32) (g : PW) (x : Int32) : (ledC b τ g).set 0 (.inr (0, ([.ref (b + 1), .ref (b + 2), .ref (b + 3), .ref (b + 4), .ref (b + 5), .ref (b + 6), .ref (b + 7), .ref (b + 8), .int (τ 98), .int (τ 99), .int (τ 100), .int (τ 101), .int (τ 102), .int (τ 103), .int (τ 104), .int (τ 105), .int (τ 106), .int (τ 107), .int (τ 108)] : List Value).set 18 (.int x))) = ledC b (upd τ 108 x) g := by
  show ledA b (upd τ 108 x) τ (fun k => τ (6 + k)) (fun k => τ (12 + k)) (fun j => τ (ix (j / 6) (j % 6))) (fun c => τ (ix c 6)) (fun c => τ (ix c 7)) (fun c => τ (ix c 8)) (fun c => τ (ix c 9)) g = _
  exact ledA_ext (fun q hq => by simp only [upd_at, ix] <;> first | rfl | (split <;> first | rfl | omega) | (split <;> split <;> first | rfl | omega)) (fun q hq => by simp only [upd_at, ix] <;> first | rfl | (split <;> first | rfl | omega) | (split <;> split <;> first | rfl | omega)) (fun q hq => by simp only [upd_at, ix] <;> first | rfl | (split <;> first | rfl | omega) | (split <;> split <;> first | rfl | omega)) (fun q hq => by simp only [upd_at, ix] <;> first | rfl | (split <;> first | rfl | omega) | (split <;> split <;> first | rfl | omega)) (fun q hq => by simp only [upd_at, ix] <;> first | rfl | (split <;> first | rfl | omega) | (split <;> split <;> first | rfl | omega)) (fun q hq => by simp only [upd_at, ix] <;> first | rfl | (split <;> first | rfl | omega) | (split <;> split <;> first | rfl | omega)) (fun q hq => by simp only [upd_at, ix] <;> first | rfl | (split <;> first | rfl | omega) | (split <;> split <;> first | rfl | omega)) (fun q hq => by simp only [upd_at, ix] <;> first | rfl | (split <;> first | rfl | omega) | (split <;> split <;> first | rfl | omega)) (fun q hq => by simp only [upd_at, ix] <;> first | rfl | (split <;> first | rfl | omega) | (split <;> split <;> first | rfl | omega))
/-- the world round the present ledger (place 17); sale 10 .. 12, the row of risk 13; others p, g -/
def nw (p : Nat → va_E) (sl pl ks rr : Nat → Int32) (τ : Nat → Int32) (g : PW) : PW :=
  p 0 :: p 1 :: p 2 :: p 3 :: p 4 :: p 5 :: p 6 :: p 7 :: p 8 :: p 9 ::
  .inr (2, [.ref 11, .ref 12, .int (sl 0), .int (sl 1), .int (sl 2), .int (sl 3), .int (sl 4), .int (sl 5)]) :: .inl (0, 6, .inl (tr 6 pl)) :: .inl (0, 6, .inl (tr 6 ks)) :: .inl (0, 8, .inl (tr 8 rr)) ::
  p 14 :: p 15 :: p 16 :: ledC 17 τ g
theorem nw_prices (p : Nat → va_E) (sl pl ks rr : Nat → Int32) (τ : Nat → Int32) (g : PW) {k : Nat} (hk : k < 6) (x : Int32) : (nw p sl pl ks rr τ g).set 18 (.inl (0, 6, .inl (tr 6 (upd (τ) k x)))) = nw p sl pl ks rr (upd τ (k) x) g := congrArg (fun L : PW => p 0 :: p 1 :: p 2 :: p 3 :: p 4 :: p 5 :: p 6 :: p 7 :: p 8 :: p 9 :: .inr (2, [.ref 11, .ref 12, .int (sl 0), .int (sl 1), .int (sl 2), .int (sl 3), .int (sl 4), .int (sl 5)]) :: .inl (0, 6, .inl (tr 6 pl)) :: .inl (0, 6, .inl (tr 6 ks)) :: .inl (0, 8, .inl (tr 8 rr)) :: p 14 :: p 15 :: p 16 :: L) (led_prices 17 τ g hk x)
theorem nw_cuts (p : Nat → va_E) (sl pl ks rr : Nat → Int32) (τ : Nat → Int32) (g : PW) {k : Nat} (hk : k < 6) (x : Int32) : (nw p sl pl ks rr τ g).set 19 (.inl (0, 6, .inl (tr 6 (upd (fun k => τ (6 + k)) k x)))) = nw p sl pl ks rr (upd τ (6 + k) x) g := congrArg (fun L : PW => p 0 :: p 1 :: p 2 :: p 3 :: p 4 :: p 5 :: p 6 :: p 7 :: p 8 :: p 9 :: .inr (2, [.ref 11, .ref 12, .int (sl 0), .int (sl 1), .int (sl 2), .int (sl 3), .int (sl 4), .int (sl 5)]) :: .inl (0, 6, .inl (tr 6 pl)) :: .inl (0, 6, .inl (tr 6 ks)) :: .inl (0, 8, .inl (tr 8 rr)) :: p 14 :: p 15 :: p 16 :: L) (led_cuts 17 τ g hk x)
theorem nw_sold (p : Nat → va_E) (sl pl ks rr : Nat → Int32) (τ : Nat → Int32) (g : PW) {k : Nat} (hk : k < 6) (x : Int32) : (nw p sl pl ks rr τ g).set 20 (.inl (0, 6, .inl (tr 6 (upd (fun k => τ (12 + k)) k x)))) = nw p sl pl ks rr (upd τ (12 + k) x) g := congrArg (fun L : PW => p 0 :: p 1 :: p 2 :: p 3 :: p 4 :: p 5 :: p 6 :: p 7 :: p 8 :: p 9 :: .inr (2, [.ref 11, .ref 12, .int (sl 0), .int (sl 1), .int (sl 2), .int (sl 3), .int (sl 4), .int (sl 5)]) :: .inl (0, 6, .inl (tr 6 pl)) :: .inl (0, 6, .inl (tr 6 ks)) :: .inl (0, 8, .inl (tr 8 rr)) :: p 14 :: p 15 :: p 16 :: L) (led_sold 17 τ g hk x)
theorem nw_pieces (p : Nat → va_E) (sl pl ks rr : Nat → Int32) (τ : Nat → Int32) (g : PW) {c k : Nat} (hc : c < 8) (hk : k < 6) (x : Int32) : (nw p sl pl ks rr τ g).set 21 (.inl (0, 48, .inl (tr 48 (upd (fun j => τ (ix (j / 6) (j % 6))) (c * 6 + k) x)))) = nw p sl pl ks rr (upd τ (ix c k) x) g := congrArg (fun L : PW => p 0 :: p 1 :: p 2 :: p 3 :: p 4 :: p 5 :: p 6 :: p 7 :: p 8 :: p 9 :: .inr (2, [.ref 11, .ref 12, .int (sl 0), .int (sl 1), .int (sl 2), .int (sl 3), .int (sl 4), .int (sl 5)]) :: .inl (0, 6, .inl (tr 6 pl)) :: .inl (0, 6, .inl (tr 6 ks)) :: .inl (0, 8, .inl (tr 8 rr)) :: p 14 :: p 15 :: p 16 :: L) (led_pieces 17 τ g hc hk x)
theorem nw_coins (p : Nat → va_E) (sl pl ks rr : Nat → Int32) (τ : Nat → Int32) (g : PW) {c : Nat} (hc : c < 8) (x : Int32) : (nw p sl pl ks rr τ g).set 22 (.inl (0, 8, .inl (tr 8 (upd (fun c => τ (ix c 6)) c x)))) = nw p sl pl ks rr (upd τ (ix c 6) x) g := congrArg (fun L : PW => p 0 :: p 1 :: p 2 :: p 3 :: p 4 :: p 5 :: p 6 :: p 7 :: p 8 :: p 9 :: .inr (2, [.ref 11, .ref 12, .int (sl 0), .int (sl 1), .int (sl 2), .int (sl 3), .int (sl 4), .int (sl 5)]) :: .inl (0, 6, .inl (tr 6 pl)) :: .inl (0, 6, .inl (tr 6 ks)) :: .inl (0, 8, .inl (tr 8 rr)) :: p 14 :: p 15 :: p 16 :: L) (led_coins 17 τ g hc x)
theorem nw_debts (p : Nat → va_E) (sl pl ks rr : Nat → Int32) (τ : Nat → Int32) (g : PW) {c : Nat} (hc : c < 8) (x : Int32) : (nw p sl pl ks rr τ g).set 23 (.inl (0, 8, .inl (tr 8 (upd (fun c => τ (ix c 7)) c x)))) = nw p sl pl ks rr (upd τ (ix c 7) x) g := congrArg (fun L : PW => p 0 :: p 1 :: p 2 :: p 3 :: p 4 :: p 5 :: p 6 :: p 7 :: p 8 :: p 9 :: .inr (2, [.ref 11, .ref 12, .int (sl 0), .int (sl 1), .int (sl 2), .int (sl 3), .int (sl 4), .int (sl 5)]) :: .inl (0, 6, .inl (tr 6 pl)) :: .inl (0, 6, .inl (tr 6 ks)) :: .inl (0, 8, .inl (tr 8 rr)) :: p 14 :: p 15 :: p 16 :: L) (led_debts 17 τ g hc x)
theorem nw_call (p : Nat → va_E) (sl pl ks rr : Nat → Int32) (τ : Nat → Int32) (g : PW) {c : Nat} (hc : c < 8) (x : Int32) : (nw p sl pl ks rr τ g).set 24 (.inl (0, 8, .inl (tr 8 (upd (fun c => τ (ix c 8)) c x)))) = nw p sl pl ks rr (upd τ (ix c 8) x) g := congrArg (fun L : PW => p 0 :: p 1 :: p 2 :: p 3 :: p 4 :: p 5 :: p 6 :: p 7 :: p 8 :: p 9 :: .inr (2, [.ref 11, .ref 12, .int (sl 0), .int (sl 1), .int (sl 2), .int (sl 3), .int (sl 4), .int (sl 5)]) :: .inl (0, 6, .inl (tr 6 pl)) :: .inl (0, 6, .inl (tr 6 ks)) :: .inl (0, 8, .inl (tr 8 rr)) :: p 14 :: p 15 :: p 16 :: L) (led_call 17 τ g hc x)
theorem nw_barred (p : Nat → va_E) (sl pl ks rr : Nat → Int32) (τ : Nat → Int32) (g : PW) {c : Nat} (hc : c < 8) (x : Int32) : (nw p sl pl ks rr τ g).set 25 (.inl (1, 8, .inl (tr 8 (upd (fun c => τ (ix c 9)) c x)))) = nw p sl pl ks rr (upd τ (ix c 9) x) g := congrArg (fun L : PW => p 0 :: p 1 :: p 2 :: p 3 :: p 4 :: p 5 :: p 6 :: p 7 :: p 8 :: p 9 :: .inr (2, [.ref 11, .ref 12, .int (sl 0), .int (sl 1), .int (sl 2), .int (sl 3), .int (sl 4), .int (sl 5)]) :: .inl (0, 6, .inl (tr 6 pl)) :: .inl (0, 6, .inl (tr 6 ks)) :: .inl (0, 8, .inl (tr 8 rr)) :: p 14 :: p 15 :: p 16 :: L) (led_barred 17 τ g hc x)
theorem nw_f98 (p : Nat → va_E) (sl pl ks rr : Nat → Int32) (τ : Nat → Int32) (g : PW) (x : Int32) : (nw p sl pl ks rr τ g).set 17 (.inr (0, ([.ref (17 + 1), .ref (17 + 2), .ref (17 + 3), .ref (17 + 4), .ref (17 + 5), .ref (17 + 6), .ref (17 + 7), .ref (17 + 8), .int (τ 98), .int (τ 99), .int (τ 100), .int (τ 101), .int (τ 102), .int (τ 103), .int (τ 104), .int (τ 105), .int (τ 106), .int (τ 107), .int (τ 108)] : List Value).set 8 (.int x))) = nw p sl pl ks rr (upd τ 98 x) g := congrArg (fun L : PW => p 0 :: p 1 :: p 2 :: p 3 :: p 4 :: p 5 :: p 6 :: p 7 :: p 8 :: p 9 :: .inr (2, [.ref 11, .ref 12, .int (sl 0), .int (sl 1), .int (sl 2), .int (sl 3), .int (sl 4), .int (sl 5)]) :: .inl (0, 6, .inl (tr 6 pl)) :: .inl (0, 6, .inl (tr 6 ks)) :: .inl (0, 8, .inl (tr 8 rr)) :: p 14 :: p 15 :: p 16 :: L) (led_f98 17 τ g x)
theorem nw_f99 (p : Nat → va_E) (sl pl ks rr : Nat → Int32) (τ : Nat → Int32) (g : PW) (x : Int32) : (nw p sl pl ks rr τ g).set 17 (.inr (0, ([.ref (17 + 1), .ref (17 + 2), .ref (17 + 3), .ref (17 + 4), .ref (17 + 5), .ref (17 + 6), .ref (17 + 7), .ref (17 + 8), .int (τ 98), .int (τ 99), .int (τ 100), .int (τ 101), .int (τ 102), .int (τ 103), .int (τ 104), .int (τ 105), .int (τ 106), .int (τ 107), .int (τ 108)] : List Value).set 9 (.int x))) = nw p sl pl ks rr (upd τ 99 x) g := congrArg (fun L : PW => p 0 :: p 1 :: p 2 :: p 3 :: p 4 :: p 5 :: p 6 :: p 7 :: p 8 :: p 9 :: .inr (2, [.ref 11, .ref 12, .int (sl 0), .int (sl 1), .int (sl 2), .int (sl 3), .int (sl 4), .int (sl 5)]) :: .inl (0, 6, .inl (tr 6 pl)) :: .inl (0, 6, .inl (tr 6 ks)) :: .inl (0, 8, .inl (tr 8 rr)) :: p 14 :: p 15 :: p 16 :: L) (led_f99 17 τ g x)
theorem nw_f100 (p : Nat → va_E) (sl pl ks rr : Nat → Int32) (τ : Nat → Int32) (g : PW) (x : Int32) : (nw p sl pl ks rr τ g).set 17 (.inr (0, ([.ref (17 + 1), .ref (17 + 2), .ref (17 + 3), .ref (17 + 4), .ref (17 + 5), .ref (17 + 6), .ref (17 + 7), .ref (17 + 8), .int (τ 98), .int (τ 99), .int (τ 100), .int (τ 101), .int (τ 102), .int (τ 103), .int (τ 104), .int (τ 105), .int (τ 106), .int (τ 107), .int (τ 108)] : List Value).set 10 (.int x))) = nw p sl pl ks rr (upd τ 100 x) g := congrArg (fun L : PW => p 0 :: p 1 :: p 2 :: p 3 :: p 4 :: p 5 :: p 6 :: p 7 :: p 8 :: p 9 :: .inr (2, [.ref 11, .ref 12, .int (sl 0), .int (sl 1), .int (sl 2), .int (sl 3), .int (sl 4), .int (sl 5)]) :: .inl (0, 6, .inl (tr 6 pl)) :: .inl (0, 6, .inl (tr 6 ks)) :: .inl (0, 8, .inl (tr 8 rr)) :: p 14 :: p 15 :: p 16 :: L) (led_f100 17 τ g x)
theorem nw_f101 (p : Nat → va_E) (sl pl ks rr : Nat → Int32) (τ : Nat → Int32) (g : PW) (x : Int32) : (nw p sl pl ks rr τ g).set 17 (.inr (0, ([.ref (17 + 1), .ref (17 + 2), .ref (17 + 3), .ref (17 + 4), .ref (17 + 5), .ref (17 + 6), .ref (17 + 7), .ref (17 + 8), .int (τ 98), .int (τ 99), .int (τ 100), .int (τ 101), .int (τ 102), .int (τ 103), .int (τ 104), .int (τ 105), .int (τ 106), .int (τ 107), .int (τ 108)] : List Value).set 11 (.int x))) = nw p sl pl ks rr (upd τ 101 x) g := congrArg (fun L : PW => p 0 :: p 1 :: p 2 :: p 3 :: p 4 :: p 5 :: p 6 :: p 7 :: p 8 :: p 9 :: .inr (2, [.ref 11, .ref 12, .int (sl 0), .int (sl 1), .int (sl 2), .int (sl 3), .int (sl 4), .int (sl 5)]) :: .inl (0, 6, .inl (tr 6 pl)) :: .inl (0, 6, .inl (tr 6 ks)) :: .inl (0, 8, .inl (tr 8 rr)) :: p 14 :: p 15 :: p 16 :: L) (led_f101 17 τ g x)
theorem nw_f102 (p : Nat → va_E) (sl pl ks rr : Nat → Int32) (τ : Nat → Int32) (g : PW) (x : Int32) : (nw p sl pl ks rr τ g).set 17 (.inr (0, ([.ref (17 + 1), .ref (17 + 2), .ref (17 + 3), .ref (17 + 4), .ref (17 + 5), .ref (17 + 6), .ref (17 + 7), .ref (17 + 8), .int (τ 98), .int (τ 99), .int (τ 100), .int (τ 101), .int (τ 102), .int (τ 103), .int (τ 104), .int (τ 105), .int (τ 106), .int (τ 107), .int (τ 108)] : List Value).set 12 (.int x))) = nw p sl pl ks rr (upd τ 102 x) g := congrArg (fun L : PW => p 0 :: p 1 :: p 2 :: p 3 :: p 4 :: p 5 :: p 6 :: p 7 :: p 8 :: p 9 :: .inr (2, [.ref 11, .ref 12, .int (sl 0), .int (sl 1), .int (sl 2), .int (sl 3), .int (sl 4), .int (sl 5)]) :: .inl (0, 6, .inl (tr 6 pl)) :: .inl (0, 6, .inl (tr 6 ks)) :: .inl (0, 8, .inl (tr 8 rr)) :: p 14 :: p 15 :: p 16 :: L) (led_f102 17 τ g x)
theorem nw_f103 (p : Nat → va_E) (sl pl ks rr : Nat → Int32) (τ : Nat → Int32) (g : PW) (x : Int32) : (nw p sl pl ks rr τ g).set 17 (.inr (0, ([.ref (17 + 1), .ref (17 + 2), .ref (17 + 3), .ref (17 + 4), .ref (17 + 5), .ref (17 + 6), .ref (17 + 7), .ref (17 + 8), .int (τ 98), .int (τ 99), .int (τ 100), .int (τ 101), .int (τ 102), .int (τ 103), .int (τ 104), .int (τ 105), .int (τ 106), .int (τ 107), .int (τ 108)] : List Value).set 13 (.int x))) = nw p sl pl ks rr (upd τ 103 x) g := congrArg (fun L : PW => p 0 :: p 1 :: p 2 :: p 3 :: p 4 :: p 5 :: p 6 :: p 7 :: p 8 :: p 9 :: .inr (2, [.ref 11, .ref 12, .int (sl 0), .int (sl 1), .int (sl 2), .int (sl 3), .int (sl 4), .int (sl 5)]) :: .inl (0, 6, .inl (tr 6 pl)) :: .inl (0, 6, .inl (tr 6 ks)) :: .inl (0, 8, .inl (tr 8 rr)) :: p 14 :: p 15 :: p 16 :: L) (led_f103 17 τ g x)
theorem nw_f104 (p : Nat → va_E) (sl pl ks rr : Nat → Int32) (τ : Nat → Int32) (g : PW) (x : Int32) : (nw p sl pl ks rr τ g).set 17 (.inr (0, ([.ref (17 + 1), .ref (17 + 2), .ref (17 + 3), .ref (17 + 4), .ref (17 + 5), .ref (17 + 6), .ref (17 + 7), .ref (17 + 8), .int (τ 98), .int (τ 99), .int (τ 100), .int (τ 101), .int (τ 102), .int (τ 103), .int (τ 104), .int (τ 105), .int (τ 106), .int (τ 107), .int (τ 108)] : List Value).set 14 (.int x))) = nw p sl pl ks rr (upd τ 104 x) g := congrArg (fun L : PW => p 0 :: p 1 :: p 2 :: p 3 :: p 4 :: p 5 :: p 6 :: p 7 :: p 8 :: p 9 :: .inr (2, [.ref 11, .ref 12, .int (sl 0), .int (sl 1), .int (sl 2), .int (sl 3), .int (sl 4), .int (sl 5)]) :: .inl (0, 6, .inl (tr 6 pl)) :: .inl (0, 6, .inl (tr 6 ks)) :: .inl (0, 8, .inl (tr 8 rr)) :: p 14 :: p 15 :: p 16 :: L) (led_f104 17 τ g x)
theorem nw_f105 (p : Nat → va_E) (sl pl ks rr : Nat → Int32) (τ : Nat → Int32) (g : PW) (x : Int32) : (nw p sl pl ks rr τ g).set 17 (.inr (0, ([.ref (17 + 1), .ref (17 + 2), .ref (17 + 3), .ref (17 + 4), .ref (17 + 5), .ref (17 + 6), .ref (17 + 7), .ref (17 + 8), .int (τ 98), .int (τ 99), .int (τ 100), .int (τ 101), .int (τ 102), .int (τ 103), .int (τ 104), .int (τ 105), .int (τ 106), .int (τ 107), .int (τ 108)] : List Value).set 15 (.int x))) = nw p sl pl ks rr (upd τ 105 x) g := congrArg (fun L : PW => p 0 :: p 1 :: p 2 :: p 3 :: p 4 :: p 5 :: p 6 :: p 7 :: p 8 :: p 9 :: .inr (2, [.ref 11, .ref 12, .int (sl 0), .int (sl 1), .int (sl 2), .int (sl 3), .int (sl 4), .int (sl 5)]) :: .inl (0, 6, .inl (tr 6 pl)) :: .inl (0, 6, .inl (tr 6 ks)) :: .inl (0, 8, .inl (tr 8 rr)) :: p 14 :: p 15 :: p 16 :: L) (led_f105 17 τ g x)
theorem nw_f106 (p : Nat → va_E) (sl pl ks rr : Nat → Int32) (τ : Nat → Int32) (g : PW) (x : Int32) : (nw p sl pl ks rr τ g).set 17 (.inr (0, ([.ref (17 + 1), .ref (17 + 2), .ref (17 + 3), .ref (17 + 4), .ref (17 + 5), .ref (17 + 6), .ref (17 + 7), .ref (17 + 8), .int (τ 98), .int (τ 99), .int (τ 100), .int (τ 101), .int (τ 102), .int (τ 103), .int (τ 104), .int (τ 105), .int (τ 106), .int (τ 107), .int (τ 108)] : List Value).set 16 (.int x))) = nw p sl pl ks rr (upd τ 106 x) g := congrArg (fun L : PW => p 0 :: p 1 :: p 2 :: p 3 :: p 4 :: p 5 :: p 6 :: p 7 :: p 8 :: p 9 :: .inr (2, [.ref 11, .ref 12, .int (sl 0), .int (sl 1), .int (sl 2), .int (sl 3), .int (sl 4), .int (sl 5)]) :: .inl (0, 6, .inl (tr 6 pl)) :: .inl (0, 6, .inl (tr 6 ks)) :: .inl (0, 8, .inl (tr 8 rr)) :: p 14 :: p 15 :: p 16 :: L) (led_f106 17 τ g x)
theorem nw_f107 (p : Nat → va_E) (sl pl ks rr : Nat → Int32) (τ : Nat → Int32) (g : PW) (x : Int32) : (nw p sl pl ks rr τ g).set 17 (.inr (0, ([.ref (17 + 1), .ref (17 + 2), .ref (17 + 3), .ref (17 + 4), .ref (17 + 5), .ref (17 + 6), .ref (17 + 7), .ref (17 + 8), .int (τ 98), .int (τ 99), .int (τ 100), .int (τ 101), .int (τ 102), .int (τ 103), .int (τ 104), .int (τ 105), .int (τ 106), .int (τ 107), .int (τ 108)] : List Value).set 17 (.int x))) = nw p sl pl ks rr (upd τ 107 x) g := congrArg (fun L : PW => p 0 :: p 1 :: p 2 :: p 3 :: p 4 :: p 5 :: p 6 :: p 7 :: p 8 :: p 9 :: .inr (2, [.ref 11, .ref 12, .int (sl 0), .int (sl 1), .int (sl 2), .int (sl 3), .int (sl 4), .int (sl 5)]) :: .inl (0, 6, .inl (tr 6 pl)) :: .inl (0, 6, .inl (tr 6 ks)) :: .inl (0, 8, .inl (tr 8 rr)) :: p 14 :: p 15 :: p 16 :: L) (led_f107 17 τ g x)
theorem nw_f108 (p : Nat → va_E) (sl pl ks rr : Nat → Int32) (τ : Nat → Int32) (g : PW) (x : Int32) : (nw p sl pl ks rr τ g).set 17 (.inr (0, ([.ref (17 + 1), .ref (17 + 2), .ref (17 + 3), .ref (17 + 4), .ref (17 + 5), .ref (17 + 6), .ref (17 + 7), .ref (17 + 8), .int (τ 98), .int (τ 99), .int (τ 100), .int (τ 101), .int (τ 102), .int (τ 103), .int (τ 104), .int (τ 105), .int (τ 106), .int (τ 107), .int (τ 108)] : List Value).set 18 (.int x))) = nw p sl pl ks rr (upd τ 108 x) g := congrArg (fun L : PW => p 0 :: p 1 :: p 2 :: p 3 :: p 4 :: p 5 :: p 6 :: p 7 :: p 8 :: p 9 :: .inr (2, [.ref 11, .ref 12, .int (sl 0), .int (sl 1), .int (sl 2), .int (sl 3), .int (sl 4), .int (sl 5)]) :: .inl (0, 6, .inl (tr 6 pl)) :: .inl (0, 6, .inl (tr 6 ks)) :: .inl (0, 8, .inl (tr 8 rr)) :: p 14 :: p 15 :: p 16 :: L) (led_f108 17 τ g x)
theorem nw_s0 (p : Nat → va_E) (sl pl ks rr : Nat → Int32) (τ : Nat → Int32) (g : PW) (x : Int32) : (nw p sl pl ks rr τ g).set 10 (.inr (2, ([.ref 11, .ref 12, .int (sl 0), .int (sl 1), .int (sl 2), .int (sl 3), .int (sl 4), .int (sl 5)] : List Value).set 2 (.int x))) = nw p (upd sl 0 x) pl ks rr τ g := rfl
theorem nw_s1 (p : Nat → va_E) (sl pl ks rr : Nat → Int32) (τ : Nat → Int32) (g : PW) (x : Int32) : (nw p sl pl ks rr τ g).set 10 (.inr (2, ([.ref 11, .ref 12, .int (sl 0), .int (sl 1), .int (sl 2), .int (sl 3), .int (sl 4), .int (sl 5)] : List Value).set 3 (.int x))) = nw p (upd sl 1 x) pl ks rr τ g := rfl
theorem nw_s2 (p : Nat → va_E) (sl pl ks rr : Nat → Int32) (τ : Nat → Int32) (g : PW) (x : Int32) : (nw p sl pl ks rr τ g).set 10 (.inr (2, ([.ref 11, .ref 12, .int (sl 0), .int (sl 1), .int (sl 2), .int (sl 3), .int (sl 4), .int (sl 5)] : List Value).set 4 (.int x))) = nw p (upd sl 2 x) pl ks rr τ g := rfl
theorem nw_s3 (p : Nat → va_E) (sl pl ks rr : Nat → Int32) (τ : Nat → Int32) (g : PW) (x : Int32) : (nw p sl pl ks rr τ g).set 10 (.inr (2, ([.ref 11, .ref 12, .int (sl 0), .int (sl 1), .int (sl 2), .int (sl 3), .int (sl 4), .int (sl 5)] : List Value).set 5 (.int x))) = nw p (upd sl 3 x) pl ks rr τ g := rfl
theorem nw_s4 (p : Nat → va_E) (sl pl ks rr : Nat → Int32) (τ : Nat → Int32) (g : PW) (x : Int32) : (nw p sl pl ks rr τ g).set 10 (.inr (2, ([.ref 11, .ref 12, .int (sl 0), .int (sl 1), .int (sl 2), .int (sl 3), .int (sl 4), .int (sl 5)] : List Value).set 6 (.int x))) = nw p (upd sl 4 x) pl ks rr τ g := rfl
theorem nw_s5 (p : Nat → va_E) (sl pl ks rr : Nat → Int32) (τ : Nat → Int32) (g : PW) (x : Int32) : (nw p sl pl ks rr τ g).set 10 (.inr (2, ([.ref 11, .ref 12, .int (sl 0), .int (sl 1), .int (sl 2), .int (sl 3), .int (sl 4), .int (sl 5)] : List Value).set 7 (.int x))) = nw p (upd sl 5 x) pl ks rr τ g := rfl
theorem nw_pl (p : Nat → va_E) (sl pl ks rr : Nat → Int32) (τ : Nat → Int32) (g : PW) (f : Nat → Int32) : (nw p sl pl ks rr τ g).set 11 (.inl (0, 6, .inl (tr 6 f))) = nw p sl f ks rr τ g := rfl
theorem nw_ks (p : Nat → va_E) (sl pl ks rr : Nat → Int32) (τ : Nat → Int32) (g : PW) (f : Nat → Int32) : (nw p sl pl ks rr τ g).set 12 (.inl (0, 6, .inl (tr 6 f))) = nw p sl pl f rr τ g := rfl
theorem nw_rr (p : Nat → va_E) (sl pl ks rr : Nat → Int32) (τ : Nat → Int32) (g : PW) (f : Nat → Int32) : (nw p sl pl ks rr τ g).set 13 (.inl (0, 8, .inl (tr 8 f))) = nw p sl pl ks f τ g := rfl
theorem d6 {c k : Nat} (h : k < 6) : (c * 6 + k) / 6 = c := by omega
theorem m6 {c k : Nat} (h : k < 6) : (c * 6 + k) % 6 = k := by omega
theorem pc6 {τ : Nat → Int32} {c k : Nat} (h : k < 6) : (fun j => τ (ix (j / 6) (j % 6))) (c * 6 + k) = τ (ix c k) := by
  show τ (ix ((c * 6 + k) / 6) ((c * 6 + k) % 6)) = _
  rw [d6 h, m6 h]
theorem covI_hi {σ : Nat → Int32} {c j : Nat} {x q l : Int32} (hc : c < 8) (hj : 98 ≤ j) : covI (upd σ j x) c q l = covI σ c q l := covI_congr hc (fun i hi => upd_n _ _ (by omega))
theorem upd_self (f : Nat → Int32) (k : Nat) : upd f k (f k) = f := by
  funext j
  simp only [upd]
  split
  · next h => rw [h]
  · rfl
theorem upd_comm (f : Nat → Int32) {i j : Nat} (x y : Int32) (h : i ≠ j) : upd (upd f i x) j y = upd (upd f j y) i x := by
  funext k
  simp only [upd]
  by_cases h1 : k = i
  · subst h1; simp [h]
  · simp [h1]
theorem upd_twice (f : Nat → Int32) (i : Nat) (x y : Int32) : upd (upd f i x) i y = upd f i y := by
  funext k
  simp only [upd]
  split <;> rfl
end
section
/-! ===== the class: what a ledger tells ===== -/
def fal3 (p q l : Int32) : Int32 := if falI p q < l then l else falI p q
def intL (σ : Nat → Int32) (d : Int32) : Int32 := ((d.toInt64 * (σ 98).toInt64 + lN 9999) / lN 10000).toInt32
def opnS (σ : Nat → Int32) (c : Nat) : Int32 := if ¬ σ (ix c 9) = 0 ∨ romD σ c < 0 then nI 0 else romD σ c
def stC (σ : Nat → Int32) (c : Nat) (q l : Int32) : Bool := decide (σ (ix c 7) ≤ covI σ c q l)
/-- the class's own way to the least fall -/
def tryF (σ : Nat → Int32) (c : Nat) : Nat → Nat → Int32
  | 0, _ => -1
  | f + 1, p => if stC σ c (nI p) (nI 0) = true then tryF σ c f (p + 1) else nI p
def tryS (σ : Nat → Int32) (c : Nat) : Int32 := if isK σ c = true then nI 0 else tryF σ c 100 1
/-- hours of calls are no less than 0 -/
def HK (σ : Nat → Int32) : Prop := ∀ c, c < 8 → 0 ≤ σ (ix c 8)
def lkC (τ : Nat → Int32) (j : Nat) : Nat → Int32 := upd (lookN τ j) 107 (τ 107)
def lkF (τ : Nat → Int32) (j : Nat) : Int32 := lookN τ j 107 - τ 107
theorem lk_0 (τ : Nat → Int32) : lkC τ 0 = τ := upd_self τ 107
theorem lkF_0 (τ : Nat → Int32) : lkF τ 0 = nI 0 := Int32.sub_self _
theorem lk_8 (τ : Nat → Int32) : upd (lkC τ 8) 107 (lkC τ 8 107 + lkF τ 8) = lookN τ 8 := by
  have e : lkC τ 8 107 + lkF τ 8 = lookN τ 8 107 := by
    simp only [lkC, lkF]
    rw [upd_s, Int32.add_comm, Int32.sub_add_cancel]
  rw [e]
  simp only [lkC]
  rw [upd_twice, upd_self]
theorem lkC_at {τ : Nat → Int32} {j i : Nat} (h : i ≠ 107) : lkC τ j i = lookN τ j i := upd_n _ _ h
theorem lkC_cov {τ : Nat → Int32} {j c : Nat} {q l : Int32} (hc : c < 8) : covI (lkC τ j) c q l = covI (lookN τ j) c q l := covI_hi hc (by omega)
theorem lk_call {τ : Nat → Int32} {j : Nat} (hj : j < 8) : lookN τ j (ix j 8) = τ (ix j 8) := lookN_at (by simp only [ix]; omega) (fun c hc => by simp only [ix]; omega)
theorem lk_grace {τ : Nat → Int32} {j : Nat} (hj : j ≤ 8) : lookN τ j 99 = τ 99 := lookN_at (by omega) (fun c hc => by simp only [ix]; omega)
theorem look1_107 (σ : Nat → Int32) (c : Nat) : look1 σ c 107 = σ 107 + bI (!(isC σ c || isK σ c)) := by
  unfold look1
  split
  · next h => rw [upd_n _ _ (by simp only [ix]; omega), upd_s, h]; rfl
  · next h => rw [upd_n _ _ (by simp only [ix]; omega), upd_s, show (isC σ c || isK σ c) = true from eq_true_of_ne_false h]; rfl
/-- covered -/
theorem lk_cov {τ : Nat → Int32} {j : Nat} (hj : j < 8) (h : isC (lookN τ j) j = true) : upd (lkC τ j) (ix j 8) (nI 0) = lkC τ (j + 1) ∧ lkF τ j = lkF τ (j + 1) := by
  have e : lookN τ (j + 1) = look1 (lookN τ j) j := rfl
  have e1 : look1 (lookN τ j) j = upd (upd (lookN τ j) 107 (lookN τ j 107 + nI 0)) (ix j 8) (nI 0) := by
    unfold look1; rw [if_neg (by rw [h]; simp), if_pos h]
  constructor
  · simp only [lkC]
    rw [e, e1, upd_comm _ _ _ (show ix j 8 ≠ 107 by simp only [ix]; omega), upd_twice, upd_comm _ _ _ (show (107 : Nat) ≠ ix j 8 by simp only [ix]; omega)]
  · simp only [lkF]
    rw [e, look1_107, h]
    simp [bI]
/-- called already -/
theorem lk_old {τ : Nat → Int32} {j : Nat} (hj : j < 8) (h : isC (lookN τ j) j = false) (hk : isK (lookN τ j) j = true) : lkC τ j = lkC τ (j + 1) ∧ lkF τ j = lkF τ (j + 1) := by
  have e : lookN τ (j + 1) = look1 (lookN τ j) j := rfl
  have e1 : look1 (lookN τ j) j = upd (upd (lookN τ j) 107 (lookN τ j 107 + nI 0)) (ix j 8) (lookN τ j (ix j 8)) := by
    unfold look1; rw [if_neg (by rw [hk]; simp), if_neg (by rw [h]; simp)]
  constructor
  · simp only [lkC]
    rw [e, e1, upd_comm _ _ _ (show ix j 8 ≠ 107 by simp only [ix]; omega), upd_twice, upd_comm _ _ _ (show (107 : Nat) ≠ ix j 8 by simp only [ix]; omega), upd_self]
  · simp only [lkF]
    rw [e, look1_107, h, hk]
    simp [bI]
/-- called anew -/
theorem lk_new {τ : Nat → Int32} {j : Nat} (hj : j < 8) (h : isC (lookN τ j) j = false) (hk : isK (lookN τ j) j = false) : upd (lkC τ j) (ix j 8) (τ 99) = lkC τ (j + 1) ∧ lkF τ j + nI 1 = lkF τ (j + 1) := by
  have e : lookN τ (j + 1) = look1 (lookN τ j) j := rfl
  have e1 : look1 (lookN τ j) j = upd (upd (lookN τ j) 107 (lookN τ j 107 + nI 1)) (ix j 8) (τ 99) := by
    unfold look1; rw [if_pos (by rw [h, hk]; rfl), lk_grace (by omega)]
  constructor
  · simp only [lkC]
    rw [e, e1, upd_comm _ _ _ (show ix j 8 ≠ 107 by simp only [ix]; omega), upd_twice, upd_comm _ _ _ (show (107 : Nat) ≠ ix j 8 by simp only [ix]; omega)]
  · simp only [lkF]
    rw [e, look1_107, h, hk]
    show lookN τ j 107 - τ 107 + nI 1 = lookN τ j 107 + nI 1 - τ 107
    rw [Int32.sub_eq_add_neg, Int32.sub_eq_add_neg, Int32.add_assoc, Int32.add_comm (-τ 107), ← Int32.add_assoc]
set_option maxHeartbeats 1000000 in
theorem c3_at (w : PW) (a b : Int32) : Ct mX3_at [.int a, .int b] w (d1 (some (.int (a * nI 6 + b))) w) nx := by
  refine ct_of 2 kX3_at.1 rfl (Nat.le_of_ble_eq_true rfl) (fun v u h => by obtain ⟨rfl, rfl⟩ := h; exact rfl) ?_
  show Ev _ _ _ 0 0 [(0, .int a), (1, .int b)] [] _
  refine ev_iload_n 0 dX3_at_0 rfl rfl ?_
  refine ev_bipush (nI 6) dX3_at_1 rfl ?_
  refine ev_imul dX3_at_3 ?_
  refine ev_iload_n 1 dX3_at_4 rfl rfl ?_
  refine ev_iadd dX3_at_5 ?_
  exact ev_ireturn dX3_at_6 (Nat.le_of_ble_eq_true rfl) ⟨rfl, rfl⟩
set_option maxHeartbeats 1000000 in
theorem c3_fallen (w : PW) (a q l : Int32) : Ct mX3_fallen [.int a, .int q, .int l] w (d1 (some (.int (fal3 a q l))) w) nx := by
  refine ct_of 3 kX3_fallen.1 rfl (Nat.le_of_ble_eq_true rfl) (fun v u h => by obtain ⟨rfl, rfl⟩ := h; exact rfl) ?_
  show Ev _ _ _ 0 0 [(0, .int a), (1, .int q), (2, .int l)] [] _
  refine ev_iload_n 0 dX3_fallen_0 rfl rfl ?_
  refine ev_bipush (nI 100) dX3_fallen_1 rfl ?_
  refine ev_iload_n 1 dX3_fallen_3 rfl rfl ?_
  refine ev_isub dX3_fallen_4 ?_
  refine ev_imul dX3_fallen_5 ?_
  refine ev_bipush (nI 100) dX3_fallen_6 rfl ?_
  refine ev_idiv dX3_fallen_8 (by decide) ?_
  refine ev_istore_n 3 dX3_fallen_9 rfl (Nat.le_of_ble_eq_true rfl) rfl ?_
  refine ev_iload_n 3 dX3_fallen_10 rfl rfl ?_
  refine ev_iload_n 2 dX3_fallen_11 rfl rfl ?_
  refine ev_icmp_ge 19 dX3_fallen_12 (by decide) (fun h12 => ?_) (fun h12 => ?_)
  · refine ev_iload_n 3 dX3_fallen_19 rfl rfl ?_
    exact ev_ireturn dX3_fallen_20 (Nat.le_of_ble_eq_true rfl) ⟨by first | exact congrArg (fun x => some (Value.int x)) (if_pos (Int32.not_le.mp h12)).symm | exact congrArg (fun x => some (Value.int x)) (if_neg (Int32.not_lt.mpr h12)).symm, rfl⟩
  · refine ev_iload_n 2 dX3_fallen_15 rfl rfl ?_
    refine ev_goto 20 dX3_fallen_16 (by decide) ?_
    exact ev_ireturn dX3_fallen_20 (Nat.le_of_ble_eq_true rfl) ⟨by first | exact congrArg (fun x => some (Value.int x)) (if_pos (Int32.not_le.mp h12)).symm | exact congrArg (fun x => some (Value.int x)) (if_neg (Int32.not_lt.mpr h12)).symm, rfl⟩
set_option maxHeartbeats 1000000 in
theorem c0_worth (p : Nat → va_E) (sl pl ks rr τ : Nat → Int32) (g : PW) {c : Nat} (hc : c < 8) : Ct mX0_worth [.ref 17, .int (nI c)] (nw p sl pl ks rr τ g) (d1 (some (.int (worS τ c 6))) (nw p sl pl ks rr τ g)) nx := by
  refine ct_of 1 kX0_worth.1 rfl (Nat.le_of_ble_eq_true rfl) (fun v u h => by obtain ⟨rfl, rfl⟩ := h; exact rfl) ?_
  show Ev _ _ _ 0 0 [(0, .ref 17), (1, .int (nI c))] [] _
  refine ev_aload_n 0 dX0_worth_0 rfl rfl ?_
  refine ev_getfield 4 dX0_worth_1 foX0_24 rfl rfl ?_
  refine ev_iload_n 1 dX0_worth_4 rfl rfl ?_
  refine ev_ild (c) dX0_worth_5 rfl (by simp only [nI_m, nI_add, ix, oI]) (by omega) rfl ?_
  refine ev_istore_n 2 dX0_worth_6 rfl (Nat.le_of_ble_eq_true rfl) rfl ?_
  refine ev_iconst (nI 0) dX0_worth_7 rfl ?_
  refine ev_istore_n 3 dX0_worth_8 rfl (Nat.le_of_ble_eq_true rfl) rfl ?_
  suffices H : ∀ fu j, j + fu = 6 → Ev mX0_worth (d1 (some (.int (worS τ c 6))) (nw p sl pl ks rr τ g)) nx 0 9 [(3, .int (nI (j))), (2, .int (worS τ c (j))), (0, .ref 17), (1, .int (nI c))] [] ((nw p sl pl ks rr τ g)) from ev_sub [0, 1, 2, 3] rfl (H 6 0 (Nat.zero_add _))
  intro fu
  induction fu with
  | zero =>
    intro j hj
    obtain rfl : 6 = j := by omega
    refine ev_iload_n 3 dX0_worth_9 rfl rfl ?_
    refine ev_bipush (nI 6) dX0_worth_10 rfl ?_
    refine ev_icmp_ge 41 dX0_worth_12 (by decide) (fun h12 => ?_) (fun h12 => absurd (nI_le (Nat.le_refl 6) (by omega)) h12)
    refine ev_iload_n 2 dX0_worth_41 rfl rfl ?_
    exact ev_ireturn dX0_worth_42 (Nat.le_of_ble_eq_true rfl) ⟨rfl, rfl⟩
  | succ fu ih =>
    intro j hj
    have hj6 : j < 6 := by omega
    refine ev_iload_n 3 dX0_worth_9 rfl rfl ?_
    refine ev_bipush (nI 6) dX0_worth_10 rfl ?_
    refine ev_icmp_ge 41 dX0_worth_12 (by decide) (fun h12 => absurd h12 (nI_ge hj6 (by omega))) (fun h12 => ?_)
    refine ev_iload_n 2 dX0_worth_15 rfl rfl ?_
    refine ev_aload_n 0 dX0_worth_16 rfl rfl ?_
    refine ev_getfield 3 dX0_worth_17 foX0_21 rfl rfl ?_
    refine ev_iload_n 1 dX0_worth_20 rfl rfl ?_
    refine ev_iload_n 3 dX0_worth_21 rfl rfl ?_
    refine ev_cN2 (c3_at _ _ _) kX3_at rfl (fun _ _ _ _ h => h.1.1) rfl rfl dX0_worth_22 ?_
    refine ev_ild (c * 6 + j) dX0_worth_25 rfl (by simp only [nI_m, nI_add, ix, oI]) (by omega) rfl ?_
    refine ev_top (τ (ix c j)) (pc6 (by omega)) ?_
    refine ev_aload_n 0 dX0_worth_26 rfl rfl ?_
    refine ev_getfield 0 dX0_worth_27 foX0_9 rfl rfl ?_
    refine ev_iload_n 3 dX0_worth_30 rfl rfl ?_
    refine ev_ild (j) dX0_worth_31 rfl (by simp only [nI_m, nI_add, ix, oI]) (by omega) rfl ?_
    refine ev_imul dX0_worth_32 ?_
    refine ev_iadd dX0_worth_33 ?_
    refine ev_istore_n 2 dX0_worth_34 rfl (Nat.le_of_ble_eq_true rfl) rfl ?_
    refine ev_iinc (nI (j + 1)) dX0_worth_35 rfl (nI_1 j) (Nat.le_of_ble_eq_true rfl) rfl ?_
    refine ev_goto 9 dX0_worth_38 (by decide) ?_
    exact ev_sub [0, 1, 2, 3] rfl (ih (j + 1) (by omega))
set_option maxHeartbeats 1000000 in
theorem c0_coverAfterFall (p : Nat → va_E) (sl pl ks rr τ : Nat → Int32) (g : PW) {c : Nat} (hc : c < 8) (q l : Int32) : Ct mX0_coverAfterFall [.ref 17, .int (nI c), .int q, .int l] (nw p sl pl ks rr τ g) (d1 (some (.int (covI τ c q l))) (nw p sl pl ks rr τ g)) nx := by
  refine ct_of 3 kX0_coverAfterFall.1 rfl (Nat.le_of_ble_eq_true rfl) (fun v u h => by obtain ⟨rfl, rfl⟩ := h; exact rfl) ?_
  show Ev _ _ _ 0 0 [(0, .ref 17), (1, .int (nI c)), (2, .int q), (3, .int l)] [] _
  refine ev_iconst (nI 0) dX0_coverAfterFall_0 rfl ?_
  refine ev_istore dX0_coverAfterFall_1 (Nat.le_of_ble_eq_true rfl) rfl ?_
  refine ev_iconst (nI 0) dX0_coverAfterFall_3 rfl ?_
  refine ev_istore dX0_coverAfterFall_4 (Nat.le_of_ble_eq_true rfl) rfl ?_
  suffices H : ∀ fu j, j + fu = 6 → Ev mX0_coverAfterFall (d1 (some (.int (covI τ c q l))) (nw p sl pl ks rr τ g)) nx 0 6 [(5, .int (nI (j))), (4, .int (covS τ c q l (j))), (0, .ref 17), (1, .int (nI c)), (2, .int q), (3, .int l)] [] ((nw p sl pl ks rr τ g)) from ev_sub [0, 1, 2, 3, 4, 5] rfl (H 6 0 (Nat.zero_add _))
  intro fu
  induction fu with
  | zero =>
    intro j hj
    obtain rfl : 6 = j := by omega
    refine ev_iload dX0_coverAfterFall_6 rfl ?_
    refine ev_bipush (nI 6) dX0_coverAfterFall_8 rfl ?_
    refine ev_icmp_ge 59 dX0_coverAfterFall_10 (by decide) (fun h10 => ?_) (fun h10 => absurd (nI_le (Nat.le_refl 6) (by omega)) h10)
    refine ev_aload_n 0 dX0_coverAfterFall_59 rfl rfl ?_
    refine ev_getfield 4 dX0_coverAfterFall_60 foX0_24 rfl rfl ?_
    refine ev_iload_n 1 dX0_coverAfterFall_63 rfl rfl ?_
    refine ev_ild (c) dX0_coverAfterFall_64 rfl (by simp only [nI_m, nI_add, ix, oI]) (by omega) rfl ?_
    refine ev_iload dX0_coverAfterFall_65 rfl ?_
    refine ev_bipush (nI 100) dX0_coverAfterFall_67 rfl ?_
    refine ev_idiv dX0_coverAfterFall_69 (by decide) ?_
    refine ev_iadd dX0_coverAfterFall_70 ?_
    exact ev_ireturn dX0_coverAfterFall_71 (Nat.le_of_ble_eq_true rfl) ⟨rfl, rfl⟩
  | succ fu ih =>
    intro j hj
    have hj6 : j < 6 := by omega
    refine ev_iload dX0_coverAfterFall_6 rfl ?_
    refine ev_bipush (nI 6) dX0_coverAfterFall_8 rfl ?_
    refine ev_icmp_ge 59 dX0_coverAfterFall_10 (by decide) (fun h10 => absurd h10 (nI_ge hj6 (by omega))) (fun h10 => ?_)
    refine ev_iload dX0_coverAfterFall_13 rfl ?_
    refine ev_aload_n 0 dX0_coverAfterFall_15 rfl rfl ?_
    refine ev_getfield 3 dX0_coverAfterFall_16 foX0_21 rfl rfl ?_
    refine ev_iload_n 1 dX0_coverAfterFall_19 rfl rfl ?_
    refine ev_iload dX0_coverAfterFall_20 rfl ?_
    refine ev_cN2 (c3_at _ _ _) kX3_at rfl (fun _ _ _ _ h => h.1.1) rfl rfl dX0_coverAfterFall_22 ?_
    refine ev_ild (c * 6 + j) dX0_coverAfterFall_25 rfl (by simp only [nI_m, nI_add, ix, oI]) (by omega) rfl ?_
    refine ev_top (τ (ix c j)) (pc6 (by omega)) ?_
    refine ev_aload_n 0 dX0_coverAfterFall_26 rfl rfl ?_
    refine ev_getfield 0 dX0_coverAfterFall_27 foX0_9 rfl rfl ?_
    refine ev_iload dX0_coverAfterFall_30 rfl ?_
    refine ev_ild (j) dX0_coverAfterFall_32 rfl (by simp only [nI_m, nI_add, ix, oI]) (by omega) rfl ?_
    refine ev_iload_n 2 dX0_coverAfterFall_33 rfl rfl ?_
    refine ev_iload_n 3 dX0_coverAfterFall_34 rfl rfl ?_
    refine ev_cN3 (c3_fallen _ _ _ _) kX3_fallen rfl (fun _ _ _ _ h => h.1.2.1) rfl rfl dX0_coverAfterFall_35 ?_
    refine ev_imul dX0_coverAfterFall_38 ?_
    refine ev_bipush (nI 100) dX0_coverAfterFall_39 rfl ?_
    refine ev_aload_n 0 dX0_coverAfterFall_41 rfl rfl ?_
    refine ev_getfield 1 dX0_coverAfterFall_42 foX0_15 rfl rfl ?_
    refine ev_iload dX0_coverAfterFall_45 rfl ?_
    refine ev_ild (j) dX0_coverAfterFall_47 rfl (by simp only [nI_m, nI_add, ix, oI]) (by omega) rfl ?_
    refine ev_isub dX0_coverAfterFall_48 ?_
    refine ev_imul dX0_coverAfterFall_49 ?_
    refine ev_iadd dX0_coverAfterFall_50 ?_
    refine ev_istore dX0_coverAfterFall_51 (Nat.le_of_ble_eq_true rfl) rfl ?_
    refine ev_iinc (nI (j + 1)) dX0_coverAfterFall_53 rfl (nI_1 j) (Nat.le_of_ble_eq_true rfl) rfl ?_
    refine ev_goto 6 dX0_coverAfterFall_56 (by decide) ?_
    exact ev_sub [0, 1, 2, 3, 4, 5] rfl (ih (j + 1) (by omega))
set_option maxHeartbeats 1000000 in
theorem c0_cover (p : Nat → va_E) (sl pl ks rr τ : Nat → Int32) (g : PW) {c : Nat} (hc : c < 8) : Ct mX0_cover [.ref 17, .int (nI c)] (nw p sl pl ks rr τ g) (d1 (some (.int (covI τ c (nI 0) (nI 1)))) (nw p sl pl ks rr τ g)) nx := by
  refine ct_of 1 kX0_cover.1 rfl (Nat.le_of_ble_eq_true rfl) (fun v u h => by obtain ⟨rfl, rfl⟩ := h; exact rfl) ?_
  show Ev _ _ _ 0 0 [(0, .ref 17), (1, .int (nI c))] [] _
  refine ev_aload_n 0 dX0_cover_0 rfl rfl ?_
  refine ev_iload_n 1 dX0_cover_1 rfl rfl ?_
  refine ev_iconst (nI 0) dX0_cover_2 rfl ?_
  refine ev_iconst (nI 1) dX0_cover_3 rfl ?_
  refine ev_cV3 (c0_coverAfterFall _ _ _ _ _ _ _ (by omega) _ _) kX0_coverAfterFall rfl g339 rfl rfl rfl rfl dX0_cover_4 ?_
  exact ev_ireturn dX0_cover_7 (Nat.le_of_ble_eq_true rfl) ⟨rfl, rfl⟩
set_option maxHeartbeats 1000000 in
theorem c0_staysCovered (p : Nat → va_E) (sl pl ks rr τ : Nat → Int32) (g : PW) {c : Nat} (hc : c < 8) (q l : Int32) : Ct mX0_staysCovered [.ref 17, .int (nI c), .int q, .int l] (nw p sl pl ks rr τ g) (d1 (some (.int (bI (stC τ c q l)))) (nw p sl pl ks rr τ g)) nx := by
  refine ct_of 3 kX0_staysCovered.1 rfl (Nat.le_of_ble_eq_true rfl) (fun v u h => by obtain ⟨rfl, rfl⟩ := h; exact bI_nar _) ?_
  show Ev _ _ _ 0 0 [(0, .ref 17), (1, .int (nI c)), (2, .int q), (3, .int l)] [] _
  refine ev_aload_n 0 dX0_staysCovered_0 rfl rfl ?_
  refine ev_getfield 5 dX0_staysCovered_1 foX0_27 rfl rfl ?_
  refine ev_iload_n 1 dX0_staysCovered_4 rfl rfl ?_
  refine ev_ild (c) dX0_staysCovered_5 rfl (by simp only [nI_m, nI_add, ix, oI]) (by omega) rfl ?_
  refine ev_aload_n 0 dX0_staysCovered_6 rfl rfl ?_
  refine ev_iload_n 1 dX0_staysCovered_7 rfl rfl ?_
  refine ev_iload_n 2 dX0_staysCovered_8 rfl rfl ?_
  refine ev_iload_n 3 dX0_staysCovered_9 rfl rfl ?_
  refine ev_cV3 (c0_coverAfterFall _ _ _ _ _ _ _ (by omega) _ _) kX0_coverAfterFall rfl g339 rfl rfl rfl rfl dX0_staysCovered_10 ?_
  refine ev_icmp_gt 20 dX0_staysCovered_13 (by decide) (fun h13 => ?_) (fun h13 => ?_)
  · refine ev_iconst (nI 0) dX0_staysCovered_20 rfl ?_
    exact ev_ireturn dX0_staysCovered_21 (Nat.le_of_ble_eq_true rfl) ⟨by first | (rw [show stC τ c q l = false from decide_eq_false (Int32.not_le.mpr h13)]; rfl) | (rw [show stC τ c q l = true from decide_eq_true (Int32.not_lt.mp h13)]; rfl), rfl⟩
  · refine ev_iconst (nI 1) dX0_staysCovered_16 rfl ?_
    refine ev_goto 21 dX0_staysCovered_17 (by decide) ?_
    exact ev_ireturn dX0_staysCovered_21 (Nat.le_of_ble_eq_true rfl) ⟨by first | (rw [show stC τ c q l = false from decide_eq_false (Int32.not_le.mpr h13)]; rfl) | (rw [show stC τ c q l = true from decide_eq_true (Int32.not_lt.mp h13)]; rfl), rfl⟩
set_option maxHeartbeats 1000000 in
theorem c0_openRoom (p : Nat → va_E) (sl pl ks rr τ : Nat → Int32) (g : PW) {c : Nat} (hc : c < 8) : Ct mX0_openRoom [.ref 17, .int (nI c)] (nw p sl pl ks rr τ g) (d1 (some (.int (opnS τ c))) (nw p sl pl ks rr τ g)) nx := by
  refine ct_of 1 kX0_openRoom.1 rfl (Nat.le_of_ble_eq_true rfl) (fun v u h => by obtain ⟨rfl, rfl⟩ := h; exact rfl) ?_
  show Ev _ _ _ 0 0 [(0, .ref 17), (1, .int (nI c))] [] _
  refine ev_aload_n 0 dX0_openRoom_0 rfl rfl ?_
  refine ev_iload_n 1 dX0_openRoom_1 rfl rfl ?_
  refine ev_cV1 (c0_cover _ _ _ _ _ _ _ (by omega)) kX0_cover rfl g335 rfl rfl rfl rfl dX0_openRoom_2 ?_
  refine ev_aload_n 0 dX0_openRoom_5 rfl rfl ?_
  refine ev_getfield 5 dX0_openRoom_6 foX0_27 rfl rfl ?_
  refine ev_iload_n 1 dX0_openRoom_9 rfl rfl ?_
  refine ev_ild (c) dX0_openRoom_10 rfl (by simp only [nI_m, nI_add, ix, oI]) (by omega) rfl ?_
  refine ev_isub dX0_openRoom_11 ?_
  refine ev_istore_n 2 dX0_openRoom_12 rfl (Nat.le_of_ble_eq_true rfl) rfl ?_
  refine ev_aload_n 0 dX0_openRoom_13 rfl rfl ?_
  refine ev_getfield 7 dX0_openRoom_14 foX0_33 rfl rfl ?_
  refine ev_iload_n 1 dX0_openRoom_17 rfl rfl ?_
  refine ev_bld (c) dX0_openRoom_18 rfl rfl (by omega) rfl ?_
  refine ev_if_ne 26 dX0_openRoom_19 (by decide) (fun h19 => ?_) (fun h19 => ?_)
  · refine ev_iconst (nI 0) dX0_openRoom_26 rfl ?_
    refine ev_goto 31 dX0_openRoom_27 (by decide) ?_
    exact ev_ireturn dX0_openRoom_31 (Nat.le_of_ble_eq_true rfl) ⟨by first | exact congrArg (fun x => some (Value.int x)) (if_pos (Or.inl h19)).symm | exact congrArg (fun x => some (Value.int x)) (if_neg (fun h => h.elim (fun h => h h19) (Int32.not_lt.mpr h23))).symm | exact congrArg (fun x => some (Value.int x)) (if_pos (Or.inr (Int32.not_le.mp h23))).symm, rfl⟩
  · refine ev_iload_n 2 dX0_openRoom_22 rfl rfl ?_
    refine ev_if_ge 30 dX0_openRoom_23 (by decide) (fun h23 => ?_) (fun h23 => ?_)
    · refine ev_iload_n 2 dX0_openRoom_30 rfl rfl ?_
      exact ev_ireturn dX0_openRoom_31 (Nat.le_of_ble_eq_true rfl) ⟨by first | exact congrArg (fun x => some (Value.int x)) (if_pos (Or.inl h19)).symm | exact congrArg (fun x => some (Value.int x)) (if_neg (fun h => h.elim (fun h => h h19) (Int32.not_lt.mpr h23))).symm | exact congrArg (fun x => some (Value.int x)) (if_pos (Or.inr (Int32.not_le.mp h23))).symm, rfl⟩
    · refine ev_iconst (nI 0) dX0_openRoom_26 rfl ?_
      refine ev_goto 31 dX0_openRoom_27 (by decide) ?_
      exact ev_ireturn dX0_openRoom_31 (Nat.le_of_ble_eq_true rfl) ⟨by first | exact congrArg (fun x => some (Value.int x)) (if_pos (Or.inl h19)).symm | exact congrArg (fun x => some (Value.int x)) (if_neg (fun h => h.elim (fun h => h h19) (Int32.not_lt.mpr h23))).symm | exact congrArg (fun x => some (Value.int x)) (if_pos (Or.inr (Int32.not_le.mp h23))).symm, rfl⟩
theorem gX0_98 : Cond.constantLong RX0 98 (lN 9999) ∈ Gw := g555
theorem gX0_100 : Cond.constantLong RX0 100 (lN 10000) ∈ Gw := g556
set_option maxHeartbeats 1000000 in
theorem c0_interestOn (p : Nat → va_E) (sl pl ks rr τ : Nat → Int32) (g : PW) (d : Int32) : Ct mX0_interestOn [.ref 17, .int d] (nw p sl pl ks rr τ g) (d1 (some (.int (intL τ d))) (nw p sl pl ks rr τ g)) nx := by
  refine ct_of 1 kX0_interestOn.1 rfl (Nat.le_of_ble_eq_true rfl) (fun v u h => by obtain ⟨rfl, rfl⟩ := h; exact rfl) ?_
  show Ev _ _ _ 0 0 [(0, .ref 17), (1, .int d)] [] _
  refine ev_iload_n 1 dX0_interestOn_0 rfl rfl ?_
  refine ev_i2l dX0_interestOn_1 ?_
  refine ev_aload_n 0 dX0_interestOn_2 rfl rfl ?_
  refine ev_getfield 8 dX0_interestOn_3 foX0_37 rfl rfl ?_
  refine ev_i2l dX0_interestOn_6 ?_
  refine ev_lmul dX0_interestOn_7 ?_
  refine ev_ldc2 (lN 9999) dX0_interestOn_8 gX0_98 ?_
  refine ev_ladd dX0_interestOn_11 ?_
  refine ev_ldc2 (lN 10000) dX0_interestOn_12 gX0_100 ?_
  refine ev_ldiv dX0_interestOn_15 (by decide) ?_
  refine ev_l2i dX0_interestOn_16 ?_
  exact ev_ireturn dX0_interestOn_17 (Nat.le_of_ble_eq_true rfl) ⟨rfl, rfl⟩
set_option maxHeartbeats 1000000 in
theorem c0_piecesOfAll (p : Nat → va_E) (sl pl ks rr τ : Nat → Int32) (g : PW) {k : Nat} (hk : k < 6) : Ct mX0_piecesOfAll [.ref 17, .int (nI k)] (nw p sl pl ks rr τ g) (d1 (some (.int (pldS τ k 8))) (nw p sl pl ks rr τ g)) nx := by
  refine ct_of 1 kX0_piecesOfAll.1 rfl (Nat.le_of_ble_eq_true rfl) (fun v u h => by obtain ⟨rfl, rfl⟩ := h; exact rfl) ?_
  show Ev _ _ _ 0 0 [(0, .ref 17), (1, .int (nI k))] [] _
  refine ev_iconst (nI 0) dX0_piecesOfAll_0 rfl ?_
  refine ev_istore_n 2 dX0_piecesOfAll_1 rfl (Nat.le_of_ble_eq_true rfl) rfl ?_
  refine ev_iconst (nI 0) dX0_piecesOfAll_2 rfl ?_
  refine ev_istore_n 3 dX0_piecesOfAll_3 rfl (Nat.le_of_ble_eq_true rfl) rfl ?_
  suffices H : ∀ fu j, j + fu = 8 → Ev mX0_piecesOfAll (d1 (some (.int (pldS τ k 8))) (nw p sl pl ks rr τ g)) nx 0 4 [(3, .int (nI (j))), (2, .int (pldS τ k (j))), (0, .ref 17), (1, .int (nI k))] [] ((nw p sl pl ks rr τ g)) from ev_sub [0, 1, 2, 3] rfl (H 8 0 (Nat.zero_add _))
  intro fu
  induction fu with
  | zero =>
    intro j hj
    obtain rfl : 8 = j := by omega
    refine ev_iload_n 3 dX0_piecesOfAll_4 rfl rfl ?_
    refine ev_bipush (nI 8) dX0_piecesOfAll_5 rfl ?_
    refine ev_icmp_ge 29 dX0_piecesOfAll_7 (by decide) (fun h7 => ?_) (fun h7 => absurd (nI_le (Nat.le_refl 8) (by omega)) h7)
    refine ev_iload_n 2 dX0_piecesOfAll_29 rfl rfl ?_
    exact ev_ireturn dX0_piecesOfAll_30 (Nat.le_of_ble_eq_true rfl) ⟨rfl, rfl⟩
  | succ fu ih =>
    intro j hj
    have hj6 : j < 8 := by omega
    refine ev_iload_n 3 dX0_piecesOfAll_4 rfl rfl ?_
    refine ev_bipush (nI 8) dX0_piecesOfAll_5 rfl ?_
    refine ev_icmp_ge 29 dX0_piecesOfAll_7 (by decide) (fun h7 => absurd h7 (nI_ge hj6 (by omega))) (fun h7 => ?_)
    refine ev_iload_n 2 dX0_piecesOfAll_10 rfl rfl ?_
    refine ev_aload_n 0 dX0_piecesOfAll_11 rfl rfl ?_
    refine ev_getfield 3 dX0_piecesOfAll_12 foX0_21 rfl rfl ?_
    refine ev_iload_n 3 dX0_piecesOfAll_15 rfl rfl ?_
    refine ev_iload_n 1 dX0_piecesOfAll_16 rfl rfl ?_
    refine ev_cN2 (c3_at _ _ _) kX3_at rfl (fun _ _ _ _ h => h.1.1) rfl rfl dX0_piecesOfAll_17 ?_
    refine ev_ild (j * 6 + k) dX0_piecesOfAll_20 rfl (by simp only [nI_m, nI_add, ix, oI]) (by omega) rfl ?_
    refine ev_top (τ (ix j k)) (pc6 (by omega)) ?_
    refine ev_iadd dX0_piecesOfAll_21 ?_
    refine ev_istore_n 2 dX0_piecesOfAll_22 rfl (Nat.le_of_ble_eq_true rfl) rfl ?_
    refine ev_iinc (nI (j + 1)) dX0_piecesOfAll_23 rfl (nI_1 j) (Nat.le_of_ble_eq_true rfl) rfl ?_
    refine ev_goto 4 dX0_piecesOfAll_26 (by decide) ?_
    exact ev_sub [0, 1, 2, 3] rfl (ih (j + 1) (by omega))
set_option maxHeartbeats 1000000 in
theorem c0_debtsOfAll (p : Nat → va_E) (sl pl ks rr τ : Nat → Int32) (g : PW)  : Ct mX0_debtsOfAll [.ref 17] (nw p sl pl ks rr τ g) (d1 (some (.int (dbS τ 8))) (nw p sl pl ks rr τ g)) nx := by
  refine ct_of 0 kX0_debtsOfAll.1 rfl (Nat.le_of_ble_eq_true rfl) (fun v u h => by obtain ⟨rfl, rfl⟩ := h; exact rfl) ?_
  show Ev _ _ _ 0 0 [(0, .ref 17)] [] _
  refine ev_iconst (nI 0) dX0_debtsOfAll_0 rfl ?_
  refine ev_istore_n 1 dX0_debtsOfAll_1 rfl (Nat.le_of_ble_eq_true rfl) rfl ?_
  refine ev_iconst (nI 0) dX0_debtsOfAll_2 rfl ?_
  refine ev_istore_n 2 dX0_debtsOfAll_3 rfl (Nat.le_of_ble_eq_true rfl) rfl ?_
  suffices H : ∀ fu j, j + fu = 8 → Ev mX0_debtsOfAll (d1 (some (.int (dbS τ 8))) (nw p sl pl ks rr τ g)) nx 0 4 [(2, .int (nI (j))), (1, .int (dbS τ (j))), (0, .ref 17)] [] ((nw p sl pl ks rr τ g)) from ev_sub [0, 1, 2] rfl (H 8 0 (Nat.zero_add _))
  intro fu
  induction fu with
  | zero =>
    intro j hj
    obtain rfl : 8 = j := by omega
    refine ev_iload_n 2 dX0_debtsOfAll_4 rfl rfl ?_
    refine ev_bipush (nI 8) dX0_debtsOfAll_5 rfl ?_
    refine ev_icmp_ge 25 dX0_debtsOfAll_7 (by decide) (fun h7 => ?_) (fun h7 => absurd (nI_le (Nat.le_refl 8) (by omega)) h7)
    refine ev_iload_n 1 dX0_debtsOfAll_25 rfl rfl ?_
    exact ev_ireturn dX0_debtsOfAll_26 (Nat.le_of_ble_eq_true rfl) ⟨rfl, rfl⟩
  | succ fu ih =>
    intro j hj
    have hj6 : j < 8 := by omega
    refine ev_iload_n 2 dX0_debtsOfAll_4 rfl rfl ?_
    refine ev_bipush (nI 8) dX0_debtsOfAll_5 rfl ?_
    refine ev_icmp_ge 25 dX0_debtsOfAll_7 (by decide) (fun h7 => absurd h7 (nI_ge hj6 (by omega))) (fun h7 => ?_)
    refine ev_iload_n 1 dX0_debtsOfAll_10 rfl rfl ?_
    refine ev_aload_n 0 dX0_debtsOfAll_11 rfl rfl ?_
    refine ev_getfield 5 dX0_debtsOfAll_12 foX0_27 rfl rfl ?_
    refine ev_iload_n 2 dX0_debtsOfAll_15 rfl rfl ?_
    refine ev_ild (j) dX0_debtsOfAll_16 rfl (by simp only [nI_m, nI_add, ix, oI]) (by omega) rfl ?_
    refine ev_iadd dX0_debtsOfAll_17 ?_
    refine ev_istore_n 1 dX0_debtsOfAll_18 rfl (Nat.le_of_ble_eq_true rfl) rfl ?_
    refine ev_iinc (nI (j + 1)) dX0_debtsOfAll_19 rfl (nI_1 j) (Nat.le_of_ble_eq_true rfl) rfl ?_
    refine ev_goto 4 dX0_debtsOfAll_22 (by decide) ?_
    exact ev_sub [0, 1, 2] rfl (ih (j + 1) (by omega))
set_option maxHeartbeats 1000000 in
theorem c0_coverOfAll (p : Nat → va_E) (sl pl ks rr τ : Nat → Int32) (g : PW)  : Ct mX0_coverOfAll [.ref 17] (nw p sl pl ks rr τ g) (d1 (some (.int (cvS τ 8))) (nw p sl pl ks rr τ g)) nx := by
  refine ct_of 0 kX0_coverOfAll.1 rfl (Nat.le_of_ble_eq_true rfl) (fun v u h => by obtain ⟨rfl, rfl⟩ := h; exact rfl) ?_
  show Ev _ _ _ 0 0 [(0, .ref 17)] [] _
  refine ev_iconst (nI 0) dX0_coverOfAll_0 rfl ?_
  refine ev_istore_n 1 dX0_coverOfAll_1 rfl (Nat.le_of_ble_eq_true rfl) rfl ?_
  refine ev_iconst (nI 0) dX0_coverOfAll_2 rfl ?_
  refine ev_istore_n 2 dX0_coverOfAll_3 rfl (Nat.le_of_ble_eq_true rfl) rfl ?_
  suffices H : ∀ fu j, j + fu = 8 → Ev mX0_coverOfAll (d1 (some (.int (cvS τ 8))) (nw p sl pl ks rr τ g)) nx 0 4 [(2, .int (nI (j))), (1, .int (cvS τ (j))), (0, .ref 17)] [] ((nw p sl pl ks rr τ g)) from ev_sub [0, 1, 2] rfl (H 8 0 (Nat.zero_add _))
  intro fu
  induction fu with
  | zero =>
    intro j hj
    obtain rfl : 8 = j := by omega
    refine ev_iload_n 2 dX0_coverOfAll_4 rfl rfl ?_
    refine ev_bipush (nI 8) dX0_coverOfAll_5 rfl ?_
    refine ev_icmp_ge 24 dX0_coverOfAll_7 (by decide) (fun h7 => ?_) (fun h7 => absurd (nI_le (Nat.le_refl 8) (by omega)) h7)
    refine ev_iload_n 1 dX0_coverOfAll_24 rfl rfl ?_
    exact ev_ireturn dX0_coverOfAll_25 (Nat.le_of_ble_eq_true rfl) ⟨rfl, rfl⟩
  | succ fu ih =>
    intro j hj
    have hj6 : j < 8 := by omega
    refine ev_iload_n 2 dX0_coverOfAll_4 rfl rfl ?_
    refine ev_bipush (nI 8) dX0_coverOfAll_5 rfl ?_
    refine ev_icmp_ge 24 dX0_coverOfAll_7 (by decide) (fun h7 => absurd h7 (nI_ge hj6 (by omega))) (fun h7 => ?_)
    refine ev_iload_n 1 dX0_coverOfAll_10 rfl rfl ?_
    refine ev_aload_n 0 dX0_coverOfAll_11 rfl rfl ?_
    refine ev_iload_n 2 dX0_coverOfAll_12 rfl rfl ?_
    refine ev_cV1 (c0_cover _ _ _ _ _ _ _ (by omega)) kX0_cover rfl g335 rfl rfl rfl rfl dX0_coverOfAll_13 ?_
    refine ev_iadd dX0_coverOfAll_16 ?_
    refine ev_istore_n 1 dX0_coverOfAll_17 rfl (Nat.le_of_ble_eq_true rfl) rfl ?_
    refine ev_iinc (nI (j + 1)) dX0_coverOfAll_18 rfl (nI_1 j) (Nat.le_of_ble_eq_true rfl) rfl ?_
    refine ev_goto 4 dX0_coverOfAll_21 (by decide) ?_
    exact ev_sub [0, 1, 2] rfl (ih (j + 1) (by omega))
set_option maxHeartbeats 1000000 in
theorem c0_countCalled (p : Nat → va_E) (sl pl ks rr τ : Nat → Int32) (g : PW)  : Ct mX0_countCalled [.ref 17] (nw p sl pl ks rr τ g) (d1 (some (.int (allS τ 8))) (nw p sl pl ks rr τ g)) nx := by
  refine ct_of 0 kX0_countCalled.1 rfl (Nat.le_of_ble_eq_true rfl) (fun v u h => by obtain ⟨rfl, rfl⟩ := h; exact rfl) ?_
  show Ev _ _ _ 0 0 [(0, .ref 17)] [] _
  refine ev_iconst (nI 0) dX0_countCalled_0 rfl ?_
  refine ev_istore_n 1 dX0_countCalled_1 rfl (Nat.le_of_ble_eq_true rfl) rfl ?_
  refine ev_iconst (nI 0) dX0_countCalled_2 rfl ?_
  refine ev_istore_n 2 dX0_countCalled_3 rfl (Nat.le_of_ble_eq_true rfl) rfl ?_
  suffices H : ∀ fu j, j + fu = 8 → Ev mX0_countCalled (d1 (some (.int (allS τ 8))) (nw p sl pl ks rr τ g)) nx 0 4 [(2, .int (nI (j))), (1, .int (allS τ (j))), (0, .ref 17)] [] ((nw p sl pl ks rr τ g)) from ev_sub [0, 1, 2] rfl (H 8 0 (Nat.zero_add _))
  intro fu
  induction fu with
  | zero =>
    intro j hj
    obtain rfl : 8 = j := by omega
    refine ev_iload_n 2 dX0_countCalled_4 rfl rfl ?_
    refine ev_bipush (nI 8) dX0_countCalled_5 rfl ?_
    refine ev_icmp_ge 33 dX0_countCalled_7 (by decide) (fun h7 => ?_) (fun h7 => absurd (nI_le (Nat.le_refl 8) (by omega)) h7)
    refine ev_iload_n 1 dX0_countCalled_33 rfl rfl ?_
    exact ev_ireturn dX0_countCalled_34 (Nat.le_of_ble_eq_true rfl) ⟨rfl, rfl⟩
  | succ fu ih =>
    intro j hj
    have hj6 : j < 8 := by omega
    refine ev_iload_n 2 dX0_countCalled_4 rfl rfl ?_
    refine ev_bipush (nI 8) dX0_countCalled_5 rfl ?_
    refine ev_icmp_ge 33 dX0_countCalled_7 (by decide) (fun h7 => absurd h7 (nI_ge hj6 (by omega))) (fun h7 => ?_)
    refine ev_iload_n 1 dX0_countCalled_10 rfl rfl ?_
    refine ev_aload_n 0 dX0_countCalled_11 rfl rfl ?_
    refine ev_getfield 6 dX0_countCalled_12 foX0_30 rfl rfl ?_
    refine ev_iload_n 2 dX0_countCalled_15 rfl rfl ?_
    refine ev_ild (j) dX0_countCalled_16 rfl (by simp only [nI_m, nI_add, ix, oI]) (by omega) rfl ?_
    suffices J17 : Ev mX0_countCalled (d1 (some (.int (allS τ 8))) (nw p sl pl ks rr τ g)) nx 0 25 [(2, .int (nI j)), (1, .int (allS τ j)), (0, .ref 17)] [.int (bI (isK τ j)), .int (allS τ j)] (nw p sl pl ks rr τ g) by
      refine ev_if_le 24 dX0_countCalled_17 (by decide) (fun h17 => ?_) (fun h17 => ?_)
      · refine ev_iconst (nI 0) dX0_countCalled_24 rfl ?_
        exact ev_sub [0, 1, 2] rfl (ev_top _ (by first | (rw [show isK τ j = false from decide_eq_false (Int32.not_lt.mpr h17)]; rfl) | (rw [show isK τ j = true from decide_eq_true (Int32.not_le.mp h17)]; rfl)) J17)
      · refine ev_iconst (nI 1) dX0_countCalled_20 rfl ?_
        refine ev_goto 25 dX0_countCalled_21 (by decide) ?_
        exact ev_sub [0, 1, 2] rfl (ev_top _ (by first | (rw [show isK τ j = false from decide_eq_false (Int32.not_lt.mpr h17)]; rfl) | (rw [show isK τ j = true from decide_eq_true (Int32.not_le.mp h17)]; rfl)) J17)
    refine ev_iadd dX0_countCalled_25 ?_
    refine ev_istore_n 1 dX0_countCalled_26 rfl (Nat.le_of_ble_eq_true rfl) rfl ?_
    refine ev_iinc (nI (j + 1)) dX0_countCalled_27 rfl (nI_1 j) (Nat.le_of_ble_eq_true rfl) rfl ?_
    refine ev_goto 4 dX0_countCalled_30 (by decide) ?_
    exact ev_sub [0, 1, 2] rfl (ih (j + 1) (by omega))
theorem stC_f {σ : Nat → Int32} {c : Nat} {q l : Int32} (h : stC σ c q l = false) : covI σ c q l < σ (ix c 7) := Int32.not_le.mp (of_decide_eq_false h)
theorem stC_t {σ : Nat → Int32} {c : Nat} {q l : Int32} (h : stC σ c q l = true) : ¬ covI σ c q l < σ (ix c 7) := Int32.not_lt.mpr (of_decide_eq_true h)
set_option maxHeartbeats 1000000 in
theorem c0_countUncovered (p : Nat → va_E) (sl pl ks rr τ : Nat → Int32) (g : PW) (q : Int32) : Ct mX0_countUncoveredAfterFall [.ref 17, .int q] (nw p sl pl ks rr τ g) (d1 (some (.int (ifFS τ q 8))) (nw p sl pl ks rr τ g)) nx := by
  refine ct_of 1 kX0_countUncoveredAfterFall.1 rfl (Nat.le_of_ble_eq_true rfl) (fun v u h => by obtain ⟨rfl, rfl⟩ := h; exact rfl) ?_
  show Ev _ _ _ 0 0 [(0, .ref 17), (1, .int q)] [] _
  refine ev_iconst (nI 0) dX0_countUncoveredAfterFall_0 rfl ?_
  refine ev_istore_n 2 dX0_countUncoveredAfterFall_1 rfl (Nat.le_of_ble_eq_true rfl) rfl ?_
  refine ev_iconst (nI 0) dX0_countUncoveredAfterFall_2 rfl ?_
  refine ev_istore_n 3 dX0_countUncoveredAfterFall_3 rfl (Nat.le_of_ble_eq_true rfl) rfl ?_
  suffices H : ∀ fu j, j + fu = 8 → Ev mX0_countUncoveredAfterFall (d1 (some (.int (ifFS τ q 8))) (nw p sl pl ks rr τ g)) nx 0 4 [(3, .int (nI (j))), (2, .int (ifFS τ q (j))), (0, .ref 17), (1, .int q)] [] ((nw p sl pl ks rr τ g)) from ev_sub [0, 1, 2, 3] rfl (H 8 0 (Nat.zero_add _))
  intro fu
  induction fu with
  | zero =>
    intro j hj
    obtain rfl : 8 = j := by omega
    refine ev_iload_n 3 dX0_countUncoveredAfterFall_4 rfl rfl ?_
    refine ev_bipush (nI 8) dX0_countUncoveredAfterFall_5 rfl ?_
    refine ev_icmp_ge 34 dX0_countUncoveredAfterFall_7 (by decide) (fun h7 => ?_) (fun h7 => absurd (nI_le (Nat.le_refl 8) (by omega)) h7)
    refine ev_iload_n 2 dX0_countUncoveredAfterFall_34 rfl rfl ?_
    exact ev_ireturn dX0_countUncoveredAfterFall_35 (Nat.le_of_ble_eq_true rfl) ⟨rfl, rfl⟩
  | succ fu ih =>
    intro j hj
    have hj6 : j < 8 := by omega
    refine ev_iload_n 3 dX0_countUncoveredAfterFall_4 rfl rfl ?_
    refine ev_bipush (nI 8) dX0_countUncoveredAfterFall_5 rfl ?_
    refine ev_icmp_ge 34 dX0_countUncoveredAfterFall_7 (by decide) (fun h7 => absurd h7 (nI_ge hj6 (by omega))) (fun h7 => ?_)
    refine ev_iload_n 2 dX0_countUncoveredAfterFall_10 rfl rfl ?_
    refine ev_aload_n 0 dX0_countUncoveredAfterFall_11 rfl rfl ?_
    refine ev_iload_n 3 dX0_countUncoveredAfterFall_12 rfl rfl ?_
    refine ev_iload_n 1 dX0_countUncoveredAfterFall_13 rfl rfl ?_
    refine ev_iconst (nI 1) dX0_countUncoveredAfterFall_14 rfl ?_
    refine ev_cV3 (c0_staysCovered _ _ _ _ _ _ _ (by omega) _ _) kX0_staysCovered rfl g373 rfl rfl rfl rfl dX0_countUncoveredAfterFall_15 ?_
    suffices J18 : Ev mX0_countUncoveredAfterFall (d1 (some (.int (ifFS τ q 8))) (nw p sl pl ks rr τ g)) nx 0 26 [(3, .int (nI j)), (2, .int (ifFS τ q j)), (0, .ref 17), (1, .int q)] [.int (bI (decide (covI τ j q (nI 1) < τ (ix j 7)))), .int (ifFS τ q j)] (nw p sl pl ks rr τ g) by
      refine ev_if_eq 25 dX0_countUncoveredAfterFall_18 (by decide) (fun h18 => ?_) (fun h18 => ?_)
      · refine ev_iconst (nI 1) dX0_countUncoveredAfterFall_25 rfl ?_
        exact ev_sub [0, 1, 2, 3] rfl (ev_top _ (by first | (rw [decide_eq_true (stC_f (bI_0.mp h18))]; rfl) | (rw [decide_eq_false (stC_t (bI_1.mp h18))]; rfl)) J18)
      · refine ev_iconst (nI 0) dX0_countUncoveredAfterFall_21 rfl ?_
        refine ev_goto 26 dX0_countUncoveredAfterFall_22 (by decide) ?_
        exact ev_sub [0, 1, 2, 3] rfl (ev_top _ (by first | (rw [decide_eq_true (stC_f (bI_0.mp h18))]; rfl) | (rw [decide_eq_false (stC_t (bI_1.mp h18))]; rfl)) J18)
    refine ev_iadd dX0_countUncoveredAfterFall_26 ?_
    refine ev_istore_n 2 dX0_countUncoveredAfterFall_27 rfl (Nat.le_of_ble_eq_true rfl) rfl ?_
    refine ev_iinc (nI (j + 1)) dX0_countUncoveredAfterFall_28 rfl (nI_1 j) (Nat.le_of_ble_eq_true rfl) rfl ?_
    refine ev_goto 4 dX0_countUncoveredAfterFall_31 (by decide) ?_
    exact ev_sub [0, 1, 2, 3] rfl (ih (j + 1) (by omega))
theorem pos_of {x : Int32} (h : 0 ≤ x) (h2 : ¬ x = 0) : 0 < x := by
  rcases Int32.lt_or_eq_of_le h with q | q
  · exact q
  · exact absurd q.symm h2
set_option maxHeartbeats 1000000 in
theorem c0_look (p : Nat → va_E) (sl pl ks rr τ : Nat → Int32) (g : PW) (hK : HK τ) : Ct mX0_lookAtClients [.ref 17] (nw p sl pl ks rr τ g) (d1 (some (.int (lkF τ 8))) (nw p sl pl ks rr (lookN τ 8) g)) nx := by
  refine ct_of 0 kX0_lookAtClients.1 rfl (Nat.le_of_ble_eq_true rfl) (fun v u h => by obtain ⟨rfl, rfl⟩ := h; exact rfl) ?_
  show Ev _ _ _ 0 0 [(0, .ref 17)] [] _
  refine ev_iconst (nI 0) dX0_lookAtClients_0 rfl ?_
  refine ev_istore_n 1 dX0_lookAtClients_1 rfl (Nat.le_of_ble_eq_true rfl) rfl ?_
  refine ev_iconst (nI 0) dX0_lookAtClients_2 rfl ?_
  refine ev_istore_n 2 dX0_lookAtClients_3 rfl (Nat.le_of_ble_eq_true rfl) rfl ?_
  suffices H : ∀ fu j, j + fu = 8 → Ev mX0_lookAtClients (d1 (some (.int (lkF τ 8))) (nw p sl pl ks rr (lookN τ 8) g)) nx 0 4 [(2, .int (nI (j))), (1, .int (lkF τ (j))), (0, .ref 17)] [] (nw p sl pl ks rr (lkC τ (j)) g) from by
    have I := H 8 0 (Nat.zero_add _)
    rw [lk_0, lkF_0] at I
    exact ev_sub [0, 1, 2] rfl I
  intro fu
  induction fu with
  | zero =>
    intro j hj
    obtain rfl : 8 = j := by omega
    refine ev_iload_n 2 dX0_lookAtClients_4 rfl rfl ?_
    refine ev_bipush (nI 8) dX0_lookAtClients_5 rfl ?_
    refine ev_icmp_ge 62 dX0_lookAtClients_7 (by decide) (fun h7 => ?_) (fun h7 => absurd (nI_le (Nat.le_refl 8) (by omega)) h7)
    refine ev_aload_n 0 dX0_lookAtClients_62 rfl rfl ?_
    refine ev_dup dX0_lookAtClients_63 rfl ?_
    refine ev_getfield 17 dX0_lookAtClients_64 foX0_77 rfl rfl ?_
    refine ev_iload_n 1 dX0_lookAtClients_67 rfl rfl ?_
    refine ev_iadd dX0_lookAtClients_68 ?_
    refine ev_putfield 17 dX0_lookAtClients_69 fpX0_77 rfl (Nat.le_of_ble_eq_true rfl) (fun _ => rfl) (fun _ => rfl) (nw_f107 _ _ _ _ _ _ _ _) ?_
    refine ev_w (w' := nw p sl pl ks rr (lookN τ 8) g) (by rw [lk_8]) ?_
    refine ev_iload_n 1 dX0_lookAtClients_72 rfl rfl ?_
    exact ev_ireturn dX0_lookAtClients_73 (Nat.le_of_ble_eq_true rfl) ⟨rfl, rfl⟩
  | succ fu ih =>
    intro j hj
    have hj6 : j < 8 := by omega
    refine ev_iload_n 2 dX0_lookAtClients_4 rfl rfl ?_
    refine ev_bipush (nI 8) dX0_lookAtClients_5 rfl ?_
    refine ev_icmp_ge 62 dX0_lookAtClients_7 (by decide) (fun h7 => absurd h7 (nI_ge hj6 (by omega))) (fun h7 => ?_)
    refine ev_aload_n 0 dX0_lookAtClients_10 rfl rfl ?_
    refine ev_getfield 5 dX0_lookAtClients_11 foX0_27 rfl rfl ?_
    refine ev_iload_n 2 dX0_lookAtClients_14 rfl rfl ?_
    refine ev_ild (j) dX0_lookAtClients_15 rfl (by simp only [nI_m, nI_add, ix, oI]) (by omega) rfl ?_
    refine ev_aload_n 0 dX0_lookAtClients_16 rfl rfl ?_
    refine ev_iload_n 2 dX0_lookAtClients_17 rfl rfl ?_
    refine ev_cV1 (c0_cover _ _ _ _ _ _ _ (by omega)) kX0_cover rfl g335 rfl rfl rfl rfl dX0_lookAtClients_18 ?_
    refine ev_icmp_gt 34 dX0_lookAtClients_21 (by decide) (fun h21 => ?_) (fun h21 => ?_)
    · have hC : isC (lookN τ j) j = false := by
        have h9 : covI (lkC τ j) j (nI 0) (nI 1) < lkC τ j (ix j 7) := h21
        rw [lkC_cov hj6, lkC_at (by simp only [ix]; omega)] at h9
        exact decide_eq_false (Int32.not_le.mpr h9)
      refine ev_aload_n 0 dX0_lookAtClients_34 rfl rfl ?_
      refine ev_getfield 6 dX0_lookAtClients_35 foX0_30 rfl rfl ?_
      refine ev_iload_n 2 dX0_lookAtClients_38 rfl rfl ?_
      refine ev_ild (j) dX0_lookAtClients_39 rfl (by simp only [nI_m, nI_add, ix, oI]) (by omega) rfl ?_
      have e40 : lkC τ j (ix j 8) = τ (ix j 8) := by rw [lkC_at (by simp only [ix]; omega), lk_call hj6]
      have hK9 : isK (lookN τ j) j = isK τ j := isK_congr (lk_call hj6)
      refine ev_if_ne 56 dX0_lookAtClients_40 (by decide) (fun h40 => ?_) (fun h40 => ?_)
      · have hk : isK (lookN τ j) j = true := by
          rw [hK9]
          exact decide_eq_true (pos_of (hK j hj6) (by rw [← e40]; exact h40))
        refine ev_w (w' := nw p sl pl ks rr (lkC τ (j + 1)) g) (by rw [(lk_old hj6 hC hk).1]) ?_
        refine ev_iinc (nI (j + 1)) dX0_lookAtClients_56 rfl (nI_1 j) (Nat.le_of_ble_eq_true rfl) rfl ?_
        refine ev_goto 4 dX0_lookAtClients_59 (by decide) ?_
        have I := ih (j + 1) (by omega)
        rw [← (lk_old hj6 hC hk).2] at I
        exact ev_sub [0, 1, 2] rfl I
      · have hk : isK (lookN τ j) j = false := by
          rw [hK9]
          exact decide_eq_false (by rw [← e40, show lkC τ j (ix j 8) = 0 from h40]; decide)
        refine ev_aload_n 0 dX0_lookAtClients_43 rfl rfl ?_
        refine ev_getfield 6 dX0_lookAtClients_44 foX0_30 rfl rfl ?_
        refine ev_iload_n 2 dX0_lookAtClients_47 rfl rfl ?_
        refine ev_aload_n 0 dX0_lookAtClients_48 rfl rfl ?_
        refine ev_getfield 9 dX0_lookAtClients_49 foX0_41 rfl rfl ?_
        refine ev_top (τ 99) (by rw [lkC_at (by omega), lk_grace (by omega)]) ?_
        refine ev_ist (j) dX0_lookAtClients_52 rfl rfl (by omega) rfl (nw_call _ _ _ _ _ _ _ (by omega) _) ?_
        refine ev_iinc (lkF τ j + nI 1) dX0_lookAtClients_53 rfl (rfl) (Nat.le_of_ble_eq_true rfl) rfl ?_
        refine ev_w (w' := nw p sl pl ks rr (lkC τ (j + 1)) g) (by rw [(lk_new hj6 hC hk).1]) ?_
        refine ev_iinc (nI (j + 1)) dX0_lookAtClients_56 rfl (nI_1 j) (Nat.le_of_ble_eq_true rfl) rfl ?_
        refine ev_goto 4 dX0_lookAtClients_59 (by decide) ?_
        have I := ih (j + 1) (by omega)
        rw [← (lk_new hj6 hC hk).2] at I
        exact ev_sub [0, 1, 2] rfl I
    · have hC : isC (lookN τ j) j = true := by
        have h9 : ¬ covI (lkC τ j) j (nI 0) (nI 1) < lkC τ j (ix j 7) := h21
        rw [lkC_cov hj6, lkC_at (by simp only [ix]; omega)] at h9
        exact decide_eq_true (Int32.not_lt.mp h9)
      refine ev_aload_n 0 dX0_lookAtClients_24 rfl rfl ?_
      refine ev_getfield 6 dX0_lookAtClients_25 foX0_30 rfl rfl ?_
      refine ev_iload_n 2 dX0_lookAtClients_28 rfl rfl ?_
      refine ev_iconst (nI 0) dX0_lookAtClients_29 rfl ?_
      refine ev_ist (j) dX0_lookAtClients_30 rfl rfl (by omega) rfl (nw_call _ _ _ _ _ _ _ (by omega) _) ?_
      refine ev_goto 56 dX0_lookAtClients_31 (by decide) ?_
      refine ev_w (w' := nw p sl pl ks rr (lkC τ (j + 1)) g) (by rw [(lk_cov hj6 hC).1]) ?_
      refine ev_iinc (nI (j + 1)) dX0_lookAtClients_56 rfl (nI_1 j) (Nat.le_of_ble_eq_true rfl) rfl ?_
      refine ev_goto 4 dX0_lookAtClients_59 (by decide) ?_
      have I := ih (j + 1) (by omega)
      rw [← (lk_cov hj6 hC).2] at I
      exact ev_sub [0, 1, 2] rfl I
end
section
/-! ===== the class: changes of a ledger ===== -/
theorem HK_upd {τ : Nat → Int32} {i : Nat} {x : Int32} (h : HK τ) (hi : ∀ c, c < 8 → ix c 8 ≠ i) : HK (upd τ i x) := fun c hc => by rw [upd_n _ _ (hi c hc)]; exact h c hc
def canTk (τ : Nat → Int32) (c w : Nat) (m : Int32) : Nat → Int32 := upd τ (ix c w) (τ (ix c w) - m)
def lnd3 (τ : Nat → Int32) (c : Nat) (m : Int32) : Nat → Int32 := upd (upd τ (ix c 7) (τ (ix c 7) + m)) 103 (upd τ (ix c 7) (τ (ix c 7) + m) 103 + m)
def pay3 (τ : Nat → Int32) (c : Nat) (t : Int32) : Nat → Int32 := upd (upd τ (ix c 7) (τ (ix c 7) - t)) 105 (upd τ (ix c 7) (τ (ix c 7) - t) 105 + t)
def drpN (τ : Nat → Int32) (q : Int32) : Nat → Nat → Int32
  | 0 => τ
  | n + 1 => upd (drpN τ q n) n (fal3 (drpN τ q n n) q (nI 1))
theorem drpN_at {τ : Nat → Int32} {q : Int32} {i : Nat} : ∀ {n : Nat}, n ≤ i → drpN τ q n i = τ i
  | 0, _ => rfl
  | n + 1, h => by simp only [drpN]; rw [upd_n _ _ (by omega), drpN_at (by omega)]
theorem HK_drp {τ : Nat → Int32} {q : Int32} (h : HK τ) : HK (drpN τ q 6) := fun c hc => by rw [drpN_at (by simp only [ix]; omega)]; exact h c hc
def hrL0 (σ : Nat → Int32) (c : Nat) : Nat → Int32 := upd σ (ix c 7) (σ (ix c 7) + intL σ (σ (ix c 7)))
def hrL1 (σ : Nat → Int32) (c : Nat) : Nat → Int32 := upd (hrL0 σ c) 104 (hrL0 σ c 104 + intL σ (σ (ix c 7)))
def hrLN (σ : Nat → Int32) : Nat → Nat → Int32
  | 0 => σ
  | n + 1 => hrL1 (hrLN σ n) n
theorem upd_undo (τ : Nat → Int32) (i : Nat) (m : Int32) : upd (upd τ i (τ i - m)) i (upd τ i (τ i - m) i + m) = τ := by
  rw [upd_s, upd_twice, Int32.sub_add_cancel, upd_self]
set_option maxHeartbeats 1000000 in
theorem c0_putPrice (p : Nat → va_E) (sl pl ks rr τ : Nat → Int32) (g : PW) {k : Nat} (hk : k < 6) (v : Int32) (hK : HK τ) : Ct mX0_putPrice [.ref 17, .int (nI k), .int v] (nw p sl pl ks rr τ g) (d1 (some (.int (lkF (upd τ (k) v) 8))) (nw p sl pl ks rr (lookN (upd τ (k) v) 8) g)) nx := by
  refine ct_of 2 kX0_putPrice.1 rfl (Nat.le_of_ble_eq_true rfl) (fun v u h => by obtain ⟨rfl, rfl⟩ := h; exact rfl) ?_
  show Ev _ _ _ 0 0 [(0, .ref 17), (1, .int (nI k)), (2, .int v)] [] _
  refine ev_aload_n 0 dX0_putPrice_0 rfl rfl ?_
  refine ev_getfield 0 dX0_putPrice_1 foX0_9 rfl rfl ?_
  refine ev_iload_n 1 dX0_putPrice_4 rfl rfl ?_
  refine ev_iload_n 2 dX0_putPrice_5 rfl rfl ?_
  refine ev_ist (k) dX0_putPrice_6 rfl (by simp only [nI_m, nI_add, ix, oI]) (by omega) rfl (nw_prices _ _ _ _ _ _ _ hk _) ?_
  refine ev_aload_n 0 dX0_putPrice_7 rfl rfl ?_
  refine ev_cV0 (c0_look _ _ _ _ _ _ _ (HK_upd hK (fun c hc => by simp only [ix]; omega))) kX0_lookAtClients rfl g331 rfl rfl rfl rfl dX0_putPrice_8 ?_
  exact ev_ireturn dX0_putPrice_11 (Nat.le_of_ble_eq_true rfl) ⟨rfl, rfl⟩
set_option maxHeartbeats 1000000 in
theorem c0_putCut (p : Nat → va_E) (sl pl ks rr τ : Nat → Int32) (g : PW) {k : Nat} (hk : k < 6) (v : Int32) (hK : HK τ) : Ct mX0_putCut [.ref 17, .int (nI k), .int v] (nw p sl pl ks rr τ g) (d1 (some (.int (lkF (upd τ (6 + k) v) 8))) (nw p sl pl ks rr (lookN (upd τ (6 + k) v) 8) g)) nx := by
  refine ct_of 2 kX0_putCut.1 rfl (Nat.le_of_ble_eq_true rfl) (fun v u h => by obtain ⟨rfl, rfl⟩ := h; exact rfl) ?_
  show Ev _ _ _ 0 0 [(0, .ref 17), (1, .int (nI k)), (2, .int v)] [] _
  refine ev_aload_n 0 dX0_putCut_0 rfl rfl ?_
  refine ev_getfield 1 dX0_putCut_1 foX0_15 rfl rfl ?_
  refine ev_iload_n 1 dX0_putCut_4 rfl rfl ?_
  refine ev_iload_n 2 dX0_putCut_5 rfl rfl ?_
  refine ev_ist (k) dX0_putCut_6 rfl (by simp only [nI_m, nI_add, ix, oI]) (by omega) rfl (nw_cuts _ _ _ _ _ _ _ hk _) ?_
  refine ev_aload_n 0 dX0_putCut_7 rfl rfl ?_
  refine ev_cV0 (c0_look _ _ _ _ _ _ _ (HK_upd hK (fun c hc => by simp only [ix]; omega))) kX0_lookAtClients rfl g331 rfl rfl rfl rfl dX0_putCut_8 ?_
  exact ev_ireturn dX0_putCut_11 (Nat.le_of_ble_eq_true rfl) ⟨rfl, rfl⟩
set_option maxHeartbeats 1000000 in
theorem c0_dropPrices (p : Nat → va_E) (sl pl ks rr τ : Nat → Int32) (g : PW) (q : Int32) (hK : HK τ) : Ct mX0_dropPrices [.ref 17, .int q] (nw p sl pl ks rr τ g) (d1 (some (.int (lkF (drpN τ q 6) 8))) (nw p sl pl ks rr (lookN (drpN τ q 6) 8) g)) nx := by
  refine ct_of 1 kX0_dropPrices.1 rfl (Nat.le_of_ble_eq_true rfl) (fun v u h => by obtain ⟨rfl, rfl⟩ := h; exact rfl) ?_
  show Ev _ _ _ 0 0 [(0, .ref 17), (1, .int q)] [] _
  refine ev_iconst (nI 0) dX0_dropPrices_0 rfl ?_
  refine ev_istore_n 2 dX0_dropPrices_1 rfl (Nat.le_of_ble_eq_true rfl) rfl ?_
  suffices H : ∀ fu j, j + fu = 6 → Ev mX0_dropPrices (d1 (some (.int (lkF (drpN τ q 6) 8))) (nw p sl pl ks rr (lookN (drpN τ q 6) 8) g)) nx 0 2 [(2, .int (nI (j))), (0, .ref 17), (1, .int q)] [] (nw p sl pl ks rr (drpN τ q (j)) g) from ev_sub [0, 1, 2] rfl (H 6 0 (Nat.zero_add _))
  intro fu
  induction fu with
  | zero =>
    intro j hj
    obtain rfl : 6 = j := by omega
    refine ev_iload_n 2 dX0_dropPrices_2 rfl rfl ?_
    refine ev_bipush (nI 6) dX0_dropPrices_3 rfl ?_
    refine ev_icmp_ge 31 dX0_dropPrices_5 (by decide) (fun h5 => ?_) (fun h5 => absurd (nI_le (Nat.le_refl 6) (by omega)) h5)
    refine ev_aload_n 0 dX0_dropPrices_31 rfl rfl ?_
    refine ev_cV0 (c0_look _ _ _ _ _ _ _ (HK_drp hK)) kX0_lookAtClients rfl g331 rfl rfl rfl rfl dX0_dropPrices_32 ?_
    exact ev_ireturn dX0_dropPrices_35 (Nat.le_of_ble_eq_true rfl) ⟨rfl, rfl⟩
  | succ fu ih =>
    intro j hj
    have hj6 : j < 6 := by omega
    refine ev_iload_n 2 dX0_dropPrices_2 rfl rfl ?_
    refine ev_bipush (nI 6) dX0_dropPrices_3 rfl ?_
    refine ev_icmp_ge 31 dX0_dropPrices_5 (by decide) (fun h5 => absurd h5 (nI_ge hj6 (by omega))) (fun h5 => ?_)
    refine ev_aload_n 0 dX0_dropPrices_8 rfl rfl ?_
    refine ev_getfield 0 dX0_dropPrices_9 foX0_9 rfl rfl ?_
    refine ev_iload_n 2 dX0_dropPrices_12 rfl rfl ?_
    refine ev_aload_n 0 dX0_dropPrices_13 rfl rfl ?_
    refine ev_getfield 0 dX0_dropPrices_14 foX0_9 rfl rfl ?_
    refine ev_iload_n 2 dX0_dropPrices_17 rfl rfl ?_
    refine ev_ild (j) dX0_dropPrices_18 rfl (by simp only [nI_m, nI_add, ix, oI]) (by omega) rfl ?_
    refine ev_iload_n 1 dX0_dropPrices_19 rfl rfl ?_
    refine ev_iconst (nI 1) dX0_dropPrices_20 rfl ?_
    refine ev_cN3 (c3_fallen _ _ _ _) kX3_fallen rfl (fun _ _ _ _ h => h.1.2.1) rfl rfl dX0_dropPrices_21 ?_
    refine ev_ist (j) dX0_dropPrices_24 rfl rfl (by omega) rfl (nw_prices _ _ _ _ _ _ _ hj6 _) ?_
    refine ev_iinc (nI (j + 1)) dX0_dropPrices_25 rfl (nI_1 j) (Nat.le_of_ble_eq_true rfl) rfl ?_
    refine ev_goto 2 dX0_dropPrices_28 (by decide) ?_
    exact ev_sub [0, 1, 2] rfl (ih (j + 1) (by omega))
set_option maxHeartbeats 1000000 in
theorem c0_addPieces_0 (p : Nat → va_E) (sl pl ks rr τ : Nat → Int32) (g : PW) {c k : Nat} (hc : c < 8) (hk : k < 6) {m : Int32} (h : ¬ τ (ix c k) + m ≤ nI 99) : Ct mX0_addPieces [.ref 17, .int (nI c), .int (nI k), .int m] (nw p sl pl ks rr τ g) (d1 (some (.int (nI 0))) (nw p sl pl ks rr τ g)) nx := by
  refine ct_of 3 kX0_addPieces.1 rfl (Nat.le_of_ble_eq_true rfl) (fun v u h => by obtain ⟨rfl, rfl⟩ := h; exact rfl) ?_
  show Ev _ _ _ 0 0 [(0, .ref 17), (1, .int (nI c)), (2, .int (nI k)), (3, .int m)] [] _
  refine ev_iload_n 1 dX0_addPieces_0 rfl rfl ?_
  refine ev_iload_n 2 dX0_addPieces_1 rfl rfl ?_
  refine ev_cN2 (c3_at _ _ _) kX3_at rfl (fun _ _ _ _ h => h.1.1) rfl rfl dX0_addPieces_2 ?_
  refine ev_istore dX0_addPieces_5 (Nat.le_of_ble_eq_true rfl) rfl ?_
  refine ev_aload_n 0 dX0_addPieces_7 rfl rfl ?_
  refine ev_getfield 3 dX0_addPieces_8 foX0_21 rfl rfl ?_
  refine ev_iload dX0_addPieces_11 rfl ?_
  refine ev_ild (c * 6 + k) dX0_addPieces_13 rfl (by simp only [nI_m, nI_add, ix, oI]) (by omega) rfl ?_
  refine ev_top (τ (ix c k)) (pc6 (by omega)) ?_
  refine ev_iload_n 3 dX0_addPieces_14 rfl rfl ?_
  refine ev_iadd dX0_addPieces_15 ?_
  refine ev_bipush (nI 99) dX0_addPieces_16 rfl ?_
  refine ev_icmp_le 23 dX0_addPieces_18 (by decide) (fun h18 => absurd h18 h) (fun h18 => ?_)
  refine ev_iconst (nI 0) dX0_addPieces_21 rfl ?_
  exact ev_ireturn dX0_addPieces_22 (Nat.le_of_ble_eq_true rfl) ⟨rfl, rfl⟩
set_option maxHeartbeats 1000000 in
theorem c0_addPieces_1 (p : Nat → va_E) (sl pl ks rr τ : Nat → Int32) (g : PW) {c k : Nat} (hc : c < 8) (hk : k < 6) {m : Int32} (h : τ (ix c k) + m ≤ nI 99) (hK : HK τ) : Ct mX0_addPieces [.ref 17, .int (nI c), .int (nI k), .int m] (nw p sl pl ks rr τ g) (d1 (some (.int (nI 1))) (nw p sl pl ks rr (lookN (upd τ (ix c k) (τ (ix c k) + m)) 8) g)) nx := by
  refine ct_of 3 kX0_addPieces.1 rfl (Nat.le_of_ble_eq_true rfl) (fun v u h => by obtain ⟨rfl, rfl⟩ := h; exact rfl) ?_
  show Ev _ _ _ 0 0 [(0, .ref 17), (1, .int (nI c)), (2, .int (nI k)), (3, .int m)] [] _
  refine ev_iload_n 1 dX0_addPieces_0 rfl rfl ?_
  refine ev_iload_n 2 dX0_addPieces_1 rfl rfl ?_
  refine ev_cN2 (c3_at _ _ _) kX3_at rfl (fun _ _ _ _ h => h.1.1) rfl rfl dX0_addPieces_2 ?_
  refine ev_istore dX0_addPieces_5 (Nat.le_of_ble_eq_true rfl) rfl ?_
  refine ev_aload_n 0 dX0_addPieces_7 rfl rfl ?_
  refine ev_getfield 3 dX0_addPieces_8 foX0_21 rfl rfl ?_
  refine ev_iload dX0_addPieces_11 rfl ?_
  refine ev_ild (c * 6 + k) dX0_addPieces_13 rfl (by simp only [nI_m, nI_add, ix, oI]) (by omega) rfl ?_
  refine ev_top (τ (ix c k)) (pc6 (by omega)) ?_
  refine ev_iload_n 3 dX0_addPieces_14 rfl rfl ?_
  refine ev_iadd dX0_addPieces_15 ?_
  refine ev_bipush (nI 99) dX0_addPieces_16 rfl ?_
  refine ev_icmp_le 23 dX0_addPieces_18 (by decide) (fun h18 => ?_) (fun h18 => absurd h h18)
  refine ev_aload_n 0 dX0_addPieces_23 rfl rfl ?_
  refine ev_getfield 3 dX0_addPieces_24 foX0_21 rfl rfl ?_
  refine ev_iload dX0_addPieces_27 rfl ?_
  refine ev_dup2 dX0_addPieces_29 rfl rfl ?_
  refine ev_ild (c * 6 + k) dX0_addPieces_30 rfl (by simp only [nI_m, nI_add, ix, oI]) (by omega) rfl ?_
  refine ev_top (τ (ix c k)) (pc6 (by omega)) ?_
  refine ev_iload_n 3 dX0_addPieces_31 rfl rfl ?_
  refine ev_iadd dX0_addPieces_32 ?_
  refine ev_ist (c * 6 + k) dX0_addPieces_33 rfl (by simp only [nI_m, nI_add, ix, oI]) (by omega) rfl (nw_pieces _ _ _ _ _ _ _ hc hk _) ?_
  refine ev_aload_n 0 dX0_addPieces_34 rfl rfl ?_
  refine ev_cV0 (c0_look _ _ _ _ _ _ _ (HK_upd hK (fun c hc => by simp only [ix]; omega))) kX0_lookAtClients rfl g331 rfl rfl rfl rfl dX0_addPieces_35 ?_
  refine ev_pop dX0_addPieces_38 rfl ?_
  refine ev_iconst (nI 1) dX0_addPieces_39 rfl ?_
  exact ev_ireturn dX0_addPieces_40 (Nat.le_of_ble_eq_true rfl) ⟨rfl, rfl⟩
set_option maxHeartbeats 1000000 in
theorem c0_takePieces_0 (p : Nat → va_E) (sl pl ks rr τ : Nat → Int32) (g : PW) {c k : Nat} (hc : c < 8) (hk : k < 6) {m : Int32} (h : ¬ m ≤ τ (ix c k)) : Ct mX0_takePieces [.ref 17, .int (nI c), .int (nI k), .int m] (nw p sl pl ks rr τ g) (d1 (some (.int (nI 0))) (nw p sl pl ks rr τ g)) nx := by
  refine ct_of 3 kX0_takePieces.1 rfl (Nat.le_of_ble_eq_true rfl) (fun v u h => by obtain ⟨rfl, rfl⟩ := h; exact rfl) ?_
  show Ev _ _ _ 0 0 [(0, .ref 17), (1, .int (nI c)), (2, .int (nI k)), (3, .int m)] [] _
  refine ev_iload_n 1 dX0_takePieces_0 rfl rfl ?_
  refine ev_iload_n 2 dX0_takePieces_1 rfl rfl ?_
  refine ev_cN2 (c3_at _ _ _) kX3_at rfl (fun _ _ _ _ h => h.1.1) rfl rfl dX0_takePieces_2 ?_
  refine ev_istore dX0_takePieces_5 (Nat.le_of_ble_eq_true rfl) rfl ?_
  refine ev_aload_n 0 dX0_takePieces_7 rfl rfl ?_
  refine ev_getfield 3 dX0_takePieces_8 foX0_21 rfl rfl ?_
  refine ev_iload dX0_takePieces_11 rfl ?_
  refine ev_ild (c * 6 + k) dX0_takePieces_13 rfl (by simp only [nI_m, nI_add, ix, oI]) (by omega) rfl ?_
  refine ev_top (τ (ix c k)) (pc6 (by omega)) ?_
  refine ev_iload_n 3 dX0_takePieces_14 rfl rfl ?_
  refine ev_icmp_ge 20 dX0_takePieces_15 (by decide) (fun h15 => absurd h15 h) (fun h15 => ?_)
  refine ev_iconst (nI 0) dX0_takePieces_18 rfl ?_
  exact ev_ireturn dX0_takePieces_19 (Nat.le_of_ble_eq_true rfl) ⟨rfl, rfl⟩
set_option maxHeartbeats 1000000 in
theorem c0_takePieces_2 (p : Nat → va_E) (sl pl ks rr τ : Nat → Int32) (g : PW) {c k : Nat} (hc : c < 8) (hk : k < 6) {m : Int32} (h : m ≤ τ (ix c k)) (h2 : ¬ τ (ix c 7) ≤ covI (canTk τ c k m) c (nI 0) (nI 1)) : Ct mX0_takePieces [.ref 17, .int (nI c), .int (nI k), .int m] (nw p sl pl ks rr τ g) (d1 (some (.int (nI 0))) (nw p sl pl ks rr τ g)) nx := by
  refine ct_of 3 kX0_takePieces.1 rfl (Nat.le_of_ble_eq_true rfl) (fun v u h => by obtain ⟨rfl, rfl⟩ := h; exact rfl) ?_
  show Ev _ _ _ 0 0 [(0, .ref 17), (1, .int (nI c)), (2, .int (nI k)), (3, .int m)] [] _
  refine ev_iload_n 1 dX0_takePieces_0 rfl rfl ?_
  refine ev_iload_n 2 dX0_takePieces_1 rfl rfl ?_
  refine ev_cN2 (c3_at _ _ _) kX3_at rfl (fun _ _ _ _ h => h.1.1) rfl rfl dX0_takePieces_2 ?_
  refine ev_istore dX0_takePieces_5 (Nat.le_of_ble_eq_true rfl) rfl ?_
  refine ev_aload_n 0 dX0_takePieces_7 rfl rfl ?_
  refine ev_getfield 3 dX0_takePieces_8 foX0_21 rfl rfl ?_
  refine ev_iload dX0_takePieces_11 rfl ?_
  refine ev_ild (c * 6 + k) dX0_takePieces_13 rfl (by simp only [nI_m, nI_add, ix, oI]) (by omega) rfl ?_
  refine ev_top (τ (ix c k)) (pc6 (by omega)) ?_
  refine ev_iload_n 3 dX0_takePieces_14 rfl rfl ?_
  refine ev_icmp_ge 20 dX0_takePieces_15 (by decide) (fun h15 => ?_) (fun h15 => absurd h h15)
  refine ev_aload_n 0 dX0_takePieces_20 rfl rfl ?_
  refine ev_getfield 3 dX0_takePieces_21 foX0_21 rfl rfl ?_
  refine ev_iload dX0_takePieces_24 rfl ?_
  refine ev_dup2 dX0_takePieces_26 rfl rfl ?_
  refine ev_ild (c * 6 + k) dX0_takePieces_27 rfl (by simp only [nI_m, nI_add, ix, oI]) (by omega) rfl ?_
  refine ev_top (τ (ix c k)) (pc6 (by omega)) ?_
  refine ev_iload_n 3 dX0_takePieces_28 rfl rfl ?_
  refine ev_isub dX0_takePieces_29 ?_
  refine ev_ist (c * 6 + k) dX0_takePieces_30 rfl (by simp only [nI_m, nI_add, ix, oI]) (by omega) rfl (nw_pieces _ _ _ _ _ _ _ hc hk _) ?_
  refine ev_w (w' := nw p sl pl ks rr (canTk τ c k m) g) rfl ?_
  refine ev_aload_n 0 dX0_takePieces_31 rfl rfl ?_
  refine ev_getfield 5 dX0_takePieces_32 foX0_27 rfl rfl ?_
  refine ev_iload_n 1 dX0_takePieces_35 rfl rfl ?_
  refine ev_ild c dX0_takePieces_36 rfl (by simp only [nI_m, nI_add, ix, oI]) (by omega) rfl ?_
  refine ev_top (τ (ix c 7)) (upd_n _ _ (by simp only [ix]; omega)) ?_
  refine ev_aload_n 0 dX0_takePieces_37 rfl rfl ?_
  refine ev_iload_n 1 dX0_takePieces_38 rfl rfl ?_
  refine ev_cV1 (c0_cover _ _ _ _ _ _ _ (by omega)) kX0_cover rfl g335 rfl rfl rfl rfl dX0_takePieces_39 ?_
  refine ev_icmp_le 58 dX0_takePieces_42 (by decide) (fun h42 => absurd h42 h2) (fun h42 => ?_)
  refine ev_aload_n 0 dX0_takePieces_45 rfl rfl ?_
  refine ev_getfield 3 dX0_takePieces_46 foX0_21 rfl rfl ?_
  refine ev_iload dX0_takePieces_49 rfl ?_
  refine ev_dup2 dX0_takePieces_51 rfl rfl ?_
  refine ev_ild (c * 6 + k) dX0_takePieces_52 rfl (by simp only [nI_m, nI_add, ix, oI]) (by omega) rfl ?_
  refine ev_top (canTk τ c k m (ix c k)) (pc6 hk) ?_
  refine ev_iload_n 3 dX0_takePieces_53 rfl rfl ?_
  refine ev_iadd dX0_takePieces_54 ?_
  refine ev_ist (c * 6 + k) dX0_takePieces_55 rfl (by simp only [nI_m, nI_add, ix, oI]) (by omega) rfl (nw_pieces _ _ _ _ _ _ _ hc hk _) ?_
  refine ev_w (w' := nw p sl pl ks rr τ g) (by simp only [canTk]; rw [upd_undo]) ?_
  refine ev_iconst (nI 0) dX0_takePieces_56 rfl ?_
  exact ev_ireturn dX0_takePieces_57 (Nat.le_of_ble_eq_true rfl) ⟨rfl, rfl⟩
set_option maxHeartbeats 1000000 in
theorem c0_takePieces_1 (p : Nat → va_E) (sl pl ks rr τ : Nat → Int32) (g : PW) {c k : Nat} (hc : c < 8) (hk : k < 6) {m : Int32} (h : m ≤ τ (ix c k)) (h2 : τ (ix c 7) ≤ covI (canTk τ c k m) c (nI 0) (nI 1)) (hK : HK τ) : Ct mX0_takePieces [.ref 17, .int (nI c), .int (nI k), .int m] (nw p sl pl ks rr τ g) (d1 (some (.int (nI 1))) (nw p sl pl ks rr (lookN (canTk τ c k m) 8) g)) nx := by
  refine ct_of 3 kX0_takePieces.1 rfl (Nat.le_of_ble_eq_true rfl) (fun v u h => by obtain ⟨rfl, rfl⟩ := h; exact rfl) ?_
  show Ev _ _ _ 0 0 [(0, .ref 17), (1, .int (nI c)), (2, .int (nI k)), (3, .int m)] [] _
  refine ev_iload_n 1 dX0_takePieces_0 rfl rfl ?_
  refine ev_iload_n 2 dX0_takePieces_1 rfl rfl ?_
  refine ev_cN2 (c3_at _ _ _) kX3_at rfl (fun _ _ _ _ h => h.1.1) rfl rfl dX0_takePieces_2 ?_
  refine ev_istore dX0_takePieces_5 (Nat.le_of_ble_eq_true rfl) rfl ?_
  refine ev_aload_n 0 dX0_takePieces_7 rfl rfl ?_
  refine ev_getfield 3 dX0_takePieces_8 foX0_21 rfl rfl ?_
  refine ev_iload dX0_takePieces_11 rfl ?_
  refine ev_ild (c * 6 + k) dX0_takePieces_13 rfl (by simp only [nI_m, nI_add, ix, oI]) (by omega) rfl ?_
  refine ev_top (τ (ix c k)) (pc6 (by omega)) ?_
  refine ev_iload_n 3 dX0_takePieces_14 rfl rfl ?_
  refine ev_icmp_ge 20 dX0_takePieces_15 (by decide) (fun h15 => ?_) (fun h15 => absurd h h15)
  refine ev_aload_n 0 dX0_takePieces_20 rfl rfl ?_
  refine ev_getfield 3 dX0_takePieces_21 foX0_21 rfl rfl ?_
  refine ev_iload dX0_takePieces_24 rfl ?_
  refine ev_dup2 dX0_takePieces_26 rfl rfl ?_
  refine ev_ild (c * 6 + k) dX0_takePieces_27 rfl (by simp only [nI_m, nI_add, ix, oI]) (by omega) rfl ?_
  refine ev_top (τ (ix c k)) (pc6 (by omega)) ?_
  refine ev_iload_n 3 dX0_takePieces_28 rfl rfl ?_
  refine ev_isub dX0_takePieces_29 ?_
  refine ev_ist (c * 6 + k) dX0_takePieces_30 rfl (by simp only [nI_m, nI_add, ix, oI]) (by omega) rfl (nw_pieces _ _ _ _ _ _ _ hc hk _) ?_
  refine ev_w (w' := nw p sl pl ks rr (canTk τ c k m) g) rfl ?_
  refine ev_aload_n 0 dX0_takePieces_31 rfl rfl ?_
  refine ev_getfield 5 dX0_takePieces_32 foX0_27 rfl rfl ?_
  refine ev_iload_n 1 dX0_takePieces_35 rfl rfl ?_
  refine ev_ild c dX0_takePieces_36 rfl (by simp only [nI_m, nI_add, ix, oI]) (by omega) rfl ?_
  refine ev_top (τ (ix c 7)) (upd_n _ _ (by simp only [ix]; omega)) ?_
  refine ev_aload_n 0 dX0_takePieces_37 rfl rfl ?_
  refine ev_iload_n 1 dX0_takePieces_38 rfl rfl ?_
  refine ev_cV1 (c0_cover _ _ _ _ _ _ _ (by omega)) kX0_cover rfl g335 rfl rfl rfl rfl dX0_takePieces_39 ?_
  refine ev_icmp_le 58 dX0_takePieces_42 (by decide) (fun h42 => ?_) (fun h42 => absurd h2 h42)
  refine ev_aload_n 0 dX0_takePieces_58 rfl rfl ?_
  refine ev_cV0 (c0_look _ _ _ _ _ _ _ (HK_upd hK (fun c hc => by simp only [ix]; omega))) kX0_lookAtClients rfl g331 rfl rfl rfl rfl dX0_takePieces_59 ?_
  refine ev_pop dX0_takePieces_62 rfl ?_
  refine ev_iconst (nI 1) dX0_takePieces_63 rfl ?_
  exact ev_ireturn dX0_takePieces_64 (Nat.le_of_ble_eq_true rfl) ⟨rfl, rfl⟩
theorem gX0_120 : Cond.constant RX0 120 (nI 99999) ∈ Gw := g448
set_option maxHeartbeats 1000000 in
theorem c0_addCoins_0 (p : Nat → va_E) (sl pl ks rr τ : Nat → Int32) (g : PW) {c : Nat} (hc : c < 8) {m : Int32} (h : ¬ τ (ix c 6) + m ≤ nI 99999) : Ct mX0_addCoins [.ref 17, .int (nI c), .int m] (nw p sl pl ks rr τ g) (d1 (some (.int (nI 0))) (nw p sl pl ks rr τ g)) nx := by
  refine ct_of 2 kX0_addCoins.1 rfl (Nat.le_of_ble_eq_true rfl) (fun v u h => by obtain ⟨rfl, rfl⟩ := h; exact rfl) ?_
  show Ev _ _ _ 0 0 [(0, .ref 17), (1, .int (nI c)), (2, .int m)] [] _
  refine ev_aload_n 0 dX0_addCoins_0 rfl rfl ?_
  refine ev_getfield 4 dX0_addCoins_1 foX0_24 rfl rfl ?_
  refine ev_iload_n 1 dX0_addCoins_4 rfl rfl ?_
  refine ev_ild (c) dX0_addCoins_5 rfl (by simp only [nI_m, nI_add, ix, oI]) (by omega) rfl ?_
  refine ev_iload_n 2 dX0_addCoins_6 rfl rfl ?_
  refine ev_iadd dX0_addCoins_7 ?_
  refine ev_ldc (nI 99999) dX0_addCoins_8 gX0_120 ?_
  refine ev_icmp_le 15 dX0_addCoins_10 (by decide) (fun h10 => absurd h10 h) (fun h10 => ?_)
  refine ev_iconst (nI 0) dX0_addCoins_13 rfl ?_
  exact ev_ireturn dX0_addCoins_14 (Nat.le_of_ble_eq_true rfl) ⟨rfl, rfl⟩
set_option maxHeartbeats 1000000 in
theorem c0_addCoins_1 (p : Nat → va_E) (sl pl ks rr τ : Nat → Int32) (g : PW) {c : Nat} (hc : c < 8) {m : Int32} (h : τ (ix c 6) + m ≤ nI 99999) (hK : HK τ) : Ct mX0_addCoins [.ref 17, .int (nI c), .int m] (nw p sl pl ks rr τ g) (d1 (some (.int (nI 1))) (nw p sl pl ks rr (lookN (upd τ (ix c 6) (τ (ix c 6) + m)) 8) g)) nx := by
  refine ct_of 2 kX0_addCoins.1 rfl (Nat.le_of_ble_eq_true rfl) (fun v u h => by obtain ⟨rfl, rfl⟩ := h; exact rfl) ?_
  show Ev _ _ _ 0 0 [(0, .ref 17), (1, .int (nI c)), (2, .int m)] [] _
  refine ev_aload_n 0 dX0_addCoins_0 rfl rfl ?_
  refine ev_getfield 4 dX0_addCoins_1 foX0_24 rfl rfl ?_
  refine ev_iload_n 1 dX0_addCoins_4 rfl rfl ?_
  refine ev_ild (c) dX0_addCoins_5 rfl (by simp only [nI_m, nI_add, ix, oI]) (by omega) rfl ?_
  refine ev_iload_n 2 dX0_addCoins_6 rfl rfl ?_
  refine ev_iadd dX0_addCoins_7 ?_
  refine ev_ldc (nI 99999) dX0_addCoins_8 gX0_120 ?_
  refine ev_icmp_le 15 dX0_addCoins_10 (by decide) (fun h10 => ?_) (fun h10 => absurd h h10)
  refine ev_aload_n 0 dX0_addCoins_15 rfl rfl ?_
  refine ev_getfield 4 dX0_addCoins_16 foX0_24 rfl rfl ?_
  refine ev_iload_n 1 dX0_addCoins_19 rfl rfl ?_
  refine ev_dup2 dX0_addCoins_20 rfl rfl ?_
  refine ev_ild (c) dX0_addCoins_21 rfl (by simp only [nI_m, nI_add, ix, oI]) (by omega) rfl ?_
  refine ev_iload_n 2 dX0_addCoins_22 rfl rfl ?_
  refine ev_iadd dX0_addCoins_23 ?_
  refine ev_ist (c) dX0_addCoins_24 rfl (by simp only [nI_m, nI_add, ix, oI]) (by omega) rfl (nw_coins _ _ _ _ _ _ _ hc _) ?_
  refine ev_aload_n 0 dX0_addCoins_25 rfl rfl ?_
  refine ev_cV0 (c0_look _ _ _ _ _ _ _ (HK_upd hK (fun c hc => by simp only [ix]; omega))) kX0_lookAtClients rfl g331 rfl rfl rfl rfl dX0_addCoins_26 ?_
  refine ev_pop dX0_addCoins_29 rfl ?_
  refine ev_iconst (nI 1) dX0_addCoins_30 rfl ?_
  exact ev_ireturn dX0_addCoins_31 (Nat.le_of_ble_eq_true rfl) ⟨rfl, rfl⟩
set_option maxHeartbeats 1000000 in
theorem c0_addDebt_0 (p : Nat → va_E) (sl pl ks rr τ : Nat → Int32) (g : PW) {c : Nat} (hc : c < 8) {m : Int32} (h : ¬ τ (ix c 9) = 0) : Ct mX0_addDebt [.ref 17, .int (nI c), .int m] (nw p sl pl ks rr τ g) (d1 (some (.int (nI 0))) (nw p sl pl ks rr τ g)) nx := by
  refine ct_of 2 kX0_addDebt.1 rfl (Nat.le_of_ble_eq_true rfl) (fun v u h => by obtain ⟨rfl, rfl⟩ := h; exact rfl) ?_
  show Ev _ _ _ 0 0 [(0, .ref 17), (1, .int (nI c)), (2, .int m)] [] _
  refine ev_aload_n 0 dX0_addDebt_0 rfl rfl ?_
  refine ev_getfield 7 dX0_addDebt_1 foX0_33 rfl rfl ?_
  refine ev_iload_n 1 dX0_addDebt_4 rfl rfl ?_
  refine ev_bld (c) dX0_addDebt_5 rfl rfl (by omega) rfl ?_
  refine ev_if_ne 25 dX0_addDebt_6 (by decide) (fun h6 => ?_) (fun h6 => absurd h6 h)
  refine ev_iconst (nI 0) dX0_addDebt_25 rfl ?_
  exact ev_ireturn dX0_addDebt_26 (Nat.le_of_ble_eq_true rfl) ⟨rfl, rfl⟩
set_option maxHeartbeats 1000000 in
theorem c0_addDebt_2 (p : Nat → va_E) (sl pl ks rr τ : Nat → Int32) (g : PW) {c : Nat} (hc : c < 8) {m : Int32} (h : τ (ix c 9) = 0) (h2 : ¬ τ (ix c 7) + m ≤ covI τ c (nI 0) (nI 1)) : Ct mX0_addDebt [.ref 17, .int (nI c), .int m] (nw p sl pl ks rr τ g) (d1 (some (.int (nI 0))) (nw p sl pl ks rr τ g)) nx := by
  refine ct_of 2 kX0_addDebt.1 rfl (Nat.le_of_ble_eq_true rfl) (fun v u h => by obtain ⟨rfl, rfl⟩ := h; exact rfl) ?_
  show Ev _ _ _ 0 0 [(0, .ref 17), (1, .int (nI c)), (2, .int m)] [] _
  refine ev_aload_n 0 dX0_addDebt_0 rfl rfl ?_
  refine ev_getfield 7 dX0_addDebt_1 foX0_33 rfl rfl ?_
  refine ev_iload_n 1 dX0_addDebt_4 rfl rfl ?_
  refine ev_bld (c) dX0_addDebt_5 rfl rfl (by omega) rfl ?_
  refine ev_if_ne 25 dX0_addDebt_6 (by decide) (fun h6 => absurd h h6) (fun h6 => ?_)
  refine ev_aload_n 0 dX0_addDebt_9 rfl rfl ?_
  refine ev_getfield 5 dX0_addDebt_10 foX0_27 rfl rfl ?_
  refine ev_iload_n 1 dX0_addDebt_13 rfl rfl ?_
  refine ev_ild (c) dX0_addDebt_14 rfl (by simp only [nI_m, nI_add, ix, oI]) (by omega) rfl ?_
  refine ev_iload_n 2 dX0_addDebt_15 rfl rfl ?_
  refine ev_iadd dX0_addDebt_16 ?_
  refine ev_aload_n 0 dX0_addDebt_17 rfl rfl ?_
  refine ev_iload_n 1 dX0_addDebt_18 rfl rfl ?_
  refine ev_cV1 (c0_cover _ _ _ _ _ _ _ (by omega)) kX0_cover rfl g335 rfl rfl rfl rfl dX0_addDebt_19 ?_
  refine ev_icmp_le 27 dX0_addDebt_22 (by decide) (fun h22 => absurd h22 h2) (fun h22 => ?_)
  refine ev_iconst (nI 0) dX0_addDebt_25 rfl ?_
  exact ev_ireturn dX0_addDebt_26 (Nat.le_of_ble_eq_true rfl) ⟨rfl, rfl⟩
set_option maxHeartbeats 1000000 in
theorem c0_addDebt_1 (p : Nat → va_E) (sl pl ks rr τ : Nat → Int32) (g : PW) {c : Nat} (hc : c < 8) {m : Int32} (h : τ (ix c 9) = 0) (h2 : τ (ix c 7) + m ≤ covI τ c (nI 0) (nI 1)) (hK : HK τ) : Ct mX0_addDebt [.ref 17, .int (nI c), .int m] (nw p sl pl ks rr τ g) (d1 (some (.int (nI 1))) (nw p sl pl ks rr (lookN (lnd3 τ c m) 8) g)) nx := by
  refine ct_of 2 kX0_addDebt.1 rfl (Nat.le_of_ble_eq_true rfl) (fun v u h => by obtain ⟨rfl, rfl⟩ := h; exact rfl) ?_
  show Ev _ _ _ 0 0 [(0, .ref 17), (1, .int (nI c)), (2, .int m)] [] _
  refine ev_aload_n 0 dX0_addDebt_0 rfl rfl ?_
  refine ev_getfield 7 dX0_addDebt_1 foX0_33 rfl rfl ?_
  refine ev_iload_n 1 dX0_addDebt_4 rfl rfl ?_
  refine ev_bld (c) dX0_addDebt_5 rfl rfl (by omega) rfl ?_
  refine ev_if_ne 25 dX0_addDebt_6 (by decide) (fun h6 => absurd h h6) (fun h6 => ?_)
  refine ev_aload_n 0 dX0_addDebt_9 rfl rfl ?_
  refine ev_getfield 5 dX0_addDebt_10 foX0_27 rfl rfl ?_
  refine ev_iload_n 1 dX0_addDebt_13 rfl rfl ?_
  refine ev_ild (c) dX0_addDebt_14 rfl (by simp only [nI_m, nI_add, ix, oI]) (by omega) rfl ?_
  refine ev_iload_n 2 dX0_addDebt_15 rfl rfl ?_
  refine ev_iadd dX0_addDebt_16 ?_
  refine ev_aload_n 0 dX0_addDebt_17 rfl rfl ?_
  refine ev_iload_n 1 dX0_addDebt_18 rfl rfl ?_
  refine ev_cV1 (c0_cover _ _ _ _ _ _ _ (by omega)) kX0_cover rfl g335 rfl rfl rfl rfl dX0_addDebt_19 ?_
  refine ev_icmp_le 27 dX0_addDebt_22 (by decide) (fun h22 => ?_) (fun h22 => absurd h2 h22)
  refine ev_aload_n 0 dX0_addDebt_27 rfl rfl ?_
  refine ev_getfield 5 dX0_addDebt_28 foX0_27 rfl rfl ?_
  refine ev_iload_n 1 dX0_addDebt_31 rfl rfl ?_
  refine ev_dup2 dX0_addDebt_32 rfl rfl ?_
  refine ev_ild (c) dX0_addDebt_33 rfl (by simp only [nI_m, nI_add, ix, oI]) (by omega) rfl ?_
  refine ev_iload_n 2 dX0_addDebt_34 rfl rfl ?_
  refine ev_iadd dX0_addDebt_35 ?_
  refine ev_ist (c) dX0_addDebt_36 rfl (by simp only [nI_m, nI_add, ix, oI]) (by omega) rfl (nw_debts _ _ _ _ _ _ _ hc _) ?_
  refine ev_aload_n 0 dX0_addDebt_37 rfl rfl ?_
  refine ev_dup dX0_addDebt_38 rfl ?_
  refine ev_getfield 13 dX0_addDebt_39 foX0_65 rfl rfl ?_
  refine ev_iload_n 2 dX0_addDebt_42 rfl rfl ?_
  refine ev_iadd dX0_addDebt_43 ?_
  refine ev_putfield 13 dX0_addDebt_44 fpX0_65 rfl (Nat.le_of_ble_eq_true rfl) (fun _ => rfl) (fun _ => rfl) (nw_f103 _ _ _ _ _ _ _ _) ?_
  refine ev_aload_n 0 dX0_addDebt_47 rfl rfl ?_
  refine ev_cV0 (c0_look _ _ _ _ _ _ _ (HK_upd (HK_upd hK (fun c hc => by simp only [ix]; omega)) (fun c hc => by simp only [ix]; omega))) kX0_lookAtClients rfl g331 rfl rfl rfl rfl dX0_addDebt_48 ?_
  refine ev_pop dX0_addDebt_51 rfl ?_
  refine ev_iconst (nI 1) dX0_addDebt_52 rfl ?_
  exact ev_ireturn dX0_addDebt_53 (Nat.le_of_ble_eq_true rfl) ⟨rfl, rfl⟩
set_option maxHeartbeats 1000000 in
theorem c0_takeDebt_0 (p : Nat → va_E) (sl pl ks rr τ : Nat → Int32) (g : PW) {c : Nat} (hc : c < 8) {m : Int32} (h : τ (ix c 7) = 0) : Ct mX0_takeDebt [.ref 17, .int (nI c), .int m] (nw p sl pl ks rr τ g) (d1 (some (.int (-1))) (nw p sl pl ks rr τ g)) nx := by
  refine ct_of 2 kX0_takeDebt.1 rfl (Nat.le_of_ble_eq_true rfl) (fun v u h => by obtain ⟨rfl, rfl⟩ := h; exact rfl) ?_
  show Ev _ _ _ 0 0 [(0, .ref 17), (1, .int (nI c)), (2, .int m)] [] _
  refine ev_aload_n 0 dX0_takeDebt_0 rfl rfl ?_
  refine ev_getfield 5 dX0_takeDebt_1 foX0_27 rfl rfl ?_
  refine ev_iload_n 1 dX0_takeDebt_4 rfl rfl ?_
  refine ev_ild (c) dX0_takeDebt_5 rfl (by simp only [nI_m, nI_add, ix, oI]) (by omega) rfl ?_
  refine ev_if_ne 11 dX0_takeDebt_6 (by decide) (fun h6 => absurd h h6) (fun h6 => ?_)
  refine ev_iconst (-1) dX0_takeDebt_9 rfl ?_
  exact ev_ireturn dX0_takeDebt_10 (Nat.le_of_ble_eq_true rfl) ⟨rfl, rfl⟩
set_option maxHeartbeats 1000000 in
theorem c0_takeDebt_1 (p : Nat → va_E) (sl pl ks rr τ : Nat → Int32) (g : PW) {c : Nat} (hc : c < 8) {m : Int32} (h : ¬ τ (ix c 7) = 0) (hK : HK τ) : Ct mX0_takeDebt [.ref 17, .int (nI c), .int m] (nw p sl pl ks rr τ g) (d1 (some (.int (paid τ c m))) (nw p sl pl ks rr (lookN (pay3 τ c (paid τ c m)) 8) g)) nx := by
  refine ct_of 2 kX0_takeDebt.1 rfl (Nat.le_of_ble_eq_true rfl) (fun v u h => by obtain ⟨rfl, rfl⟩ := h; exact rfl) ?_
  show Ev _ _ _ 0 0 [(0, .ref 17), (1, .int (nI c)), (2, .int m)] [] _
  refine ev_aload_n 0 dX0_takeDebt_0 rfl rfl ?_
  refine ev_getfield 5 dX0_takeDebt_1 foX0_27 rfl rfl ?_
  refine ev_iload_n 1 dX0_takeDebt_4 rfl rfl ?_
  refine ev_ild (c) dX0_takeDebt_5 rfl (by simp only [nI_m, nI_add, ix, oI]) (by omega) rfl ?_
  refine ev_if_ne 11 dX0_takeDebt_6 (by decide) (fun h6 => ?_) (fun h6 => absurd h6 h)
  refine ev_iload_n 2 dX0_takeDebt_11 rfl rfl ?_
  refine ev_aload_n 0 dX0_takeDebt_12 rfl rfl ?_
  refine ev_getfield 5 dX0_takeDebt_13 foX0_27 rfl rfl ?_
  refine ev_iload_n 1 dX0_takeDebt_16 rfl rfl ?_
  refine ev_ild (c) dX0_takeDebt_17 rfl (by simp only [nI_m, nI_add, ix, oI]) (by omega) rfl ?_
  suffices J18 : Ev mX0_takeDebt (d1 (some (.int (paid τ c m))) (nw p sl pl ks rr (lookN (pay3 τ c (paid τ c m)) 8) g)) nx 0 31 [(0, .ref 17), (1, .int (nI c)), (2, .int m)] [.int (paid τ c m)] (nw p sl pl ks rr τ g) by
    refine ev_icmp_ge 25 dX0_takeDebt_18 (by decide) (fun h18 => ?_) (fun h18 => ?_)
    · refine ev_aload_n 0 dX0_takeDebt_25 rfl rfl ?_
      refine ev_getfield 5 dX0_takeDebt_26 foX0_27 rfl rfl ?_
      refine ev_iload_n 1 dX0_takeDebt_29 rfl rfl ?_
      refine ev_ild (c) dX0_takeDebt_30 rfl (by simp only [nI_m, nI_add, ix, oI]) (by omega) rfl ?_
      exact ev_sub [0, 1, 2] rfl (ev_top _ (by first | exact (if_pos (Int32.not_le.mp h18)).symm | exact (if_neg (Int32.not_lt.mpr h18)).symm) J18)
    · refine ev_iload_n 2 dX0_takeDebt_21 rfl rfl ?_
      refine ev_goto 31 dX0_takeDebt_22 (by decide) ?_
      exact ev_sub [0, 1, 2] rfl (ev_top _ (by first | exact (if_pos (Int32.not_le.mp h18)).symm | exact (if_neg (Int32.not_lt.mpr h18)).symm) J18)
  refine ev_istore_n 3 dX0_takeDebt_31 rfl (Nat.le_of_ble_eq_true rfl) rfl ?_
  refine ev_aload_n 0 dX0_takeDebt_32 rfl rfl ?_
  refine ev_getfield 5 dX0_takeDebt_33 foX0_27 rfl rfl ?_
  refine ev_iload_n 1 dX0_takeDebt_36 rfl rfl ?_
  refine ev_dup2 dX0_takeDebt_37 rfl rfl ?_
  refine ev_ild (c) dX0_takeDebt_38 rfl (by simp only [nI_m, nI_add, ix, oI]) (by omega) rfl ?_
  refine ev_iload_n 3 dX0_takeDebt_39 rfl rfl ?_
  refine ev_isub dX0_takeDebt_40 ?_
  refine ev_ist (c) dX0_takeDebt_41 rfl (by simp only [nI_m, nI_add, ix, oI]) (by omega) rfl (nw_debts _ _ _ _ _ _ _ hc _) ?_
  refine ev_aload_n 0 dX0_takeDebt_42 rfl rfl ?_
  refine ev_dup dX0_takeDebt_43 rfl ?_
  refine ev_getfield 15 dX0_takeDebt_44 foX0_71 rfl rfl ?_
  refine ev_iload_n 3 dX0_takeDebt_47 rfl rfl ?_
  refine ev_iadd dX0_takeDebt_48 ?_
  refine ev_putfield 15 dX0_takeDebt_49 fpX0_71 rfl (Nat.le_of_ble_eq_true rfl) (fun _ => rfl) (fun _ => rfl) (nw_f105 _ _ _ _ _ _ _ _) ?_
  refine ev_aload_n 0 dX0_takeDebt_52 rfl rfl ?_
  refine ev_cV0 (c0_look _ _ _ _ _ _ _ (HK_upd (HK_upd hK (fun c hc => by simp only [ix]; omega)) (fun c hc => by simp only [ix]; omega))) kX0_lookAtClients rfl g331 rfl rfl rfl rfl dX0_takeDebt_53 ?_
  refine ev_pop dX0_takeDebt_56 rfl ?_
  refine ev_iload_n 3 dX0_takeDebt_57 rfl rfl ?_
  exact ev_ireturn dX0_takeDebt_58 (Nat.le_of_ble_eq_true rfl) ⟨rfl, rfl⟩
set_option maxHeartbeats 1000000 in
theorem c0_calledAsBits (p : Nat → va_E) (sl pl ks rr τ : Nat → Int32) (g : PW)  : Ct mX0_calledAsBits [.ref 17] (nw p sl pl ks rr τ g) (d1 (some (.int (bitN (isK τ) 8))) (nw p sl pl ks rr τ g)) nx := by
  refine ct_of 0 kX0_calledAsBits.1 rfl (Nat.le_of_ble_eq_true rfl) (fun v u h => by obtain ⟨rfl, rfl⟩ := h; exact rfl) ?_
  show Ev _ _ _ 0 0 [(0, .ref 17)] [] _
  refine ev_iconst (nI 0) dX0_calledAsBits_0 rfl ?_
  refine ev_istore_n 1 dX0_calledAsBits_1 rfl (Nat.le_of_ble_eq_true rfl) rfl ?_
  refine ev_iconst (nI 0) dX0_calledAsBits_2 rfl ?_
  refine ev_istore_n 2 dX0_calledAsBits_3 rfl (Nat.le_of_ble_eq_true rfl) rfl ?_
  suffices H : ∀ fu j, j + fu = 8 → Ev mX0_calledAsBits (d1 (some (.int (bitN (isK τ) 8))) (nw p sl pl ks rr τ g)) nx 0 4 [(2, .int (nI (j))), (1, .int (bitN (isK τ) (j))), (0, .ref 17)] [] ((nw p sl pl ks rr τ g)) from ev_sub [0, 1, 2] rfl (H 8 0 (Nat.zero_add _))
  intro fu
  induction fu with
  | zero =>
    intro j hj
    obtain rfl : 8 = j := by omega
    refine ev_iload_n 2 dX0_calledAsBits_4 rfl rfl ?_
    refine ev_bipush (nI 8) dX0_calledAsBits_5 rfl ?_
    refine ev_icmp_ge 35 dX0_calledAsBits_7 (by decide) (fun h7 => ?_) (fun h7 => absurd (nI_le (Nat.le_refl 8) (by omega)) h7)
    refine ev_iload_n 1 dX0_calledAsBits_35 rfl rfl ?_
    exact ev_ireturn dX0_calledAsBits_36 (Nat.le_of_ble_eq_true rfl) ⟨rfl, rfl⟩
  | succ fu ih =>
    intro j hj
    have hj6 : j < 8 := by omega
    refine ev_iload_n 2 dX0_calledAsBits_4 rfl rfl ?_
    refine ev_bipush (nI 8) dX0_calledAsBits_5 rfl ?_
    refine ev_icmp_ge 35 dX0_calledAsBits_7 (by decide) (fun h7 => absurd h7 (nI_ge hj6 (by omega))) (fun h7 => ?_)
    refine ev_iload_n 1 dX0_calledAsBits_10 rfl rfl ?_
    refine ev_aload_n 0 dX0_calledAsBits_11 rfl rfl ?_
    refine ev_getfield 6 dX0_calledAsBits_12 foX0_30 rfl rfl ?_
    refine ev_iload_n 2 dX0_calledAsBits_15 rfl rfl ?_
    refine ev_ild (j) dX0_calledAsBits_16 rfl (by simp only [nI_m, nI_add, ix, oI]) (by omega) rfl ?_
    suffices J17 : Ev mX0_calledAsBits (d1 (some (.int (bitN (isK τ) 8))) (nw p sl pl ks rr τ g)) nx 0 27 [(2, .int (nI j)), (1, .int (bitN (isK τ) j)), (0, .ref 17)] [.int (if isK τ j = true then nI 1 <<< (nI j &&& 31) else nI 0), .int (bitN (isK τ) j)] (nw p sl pl ks rr τ g) by
      refine ev_if_le 26 dX0_calledAsBits_17 (by decide) (fun h17 => ?_) (fun h17 => ?_)
      · refine ev_iconst (nI 0) dX0_calledAsBits_26 rfl ?_
        exact ev_sub [0, 1, 2] rfl (ev_top _ (by first | exact (if_neg (by rw [show isK τ j = false from decide_eq_false (Int32.not_lt.mpr h17)]; decide)).symm | exact (if_pos (decide_eq_true (Int32.not_le.mp h17))).symm) J17)
      · refine ev_iconst (nI 1) dX0_calledAsBits_20 rfl ?_
        refine ev_iload_n 2 dX0_calledAsBits_21 rfl rfl ?_
        refine ev_ishl dX0_calledAsBits_22 ?_
        refine ev_goto 27 dX0_calledAsBits_23 (by decide) ?_
        exact ev_sub [0, 1, 2] rfl (ev_top _ (by first | exact (if_neg (by rw [show isK τ j = false from decide_eq_false (Int32.not_lt.mpr h17)]; decide)).symm | exact (if_pos (decide_eq_true (Int32.not_le.mp h17))).symm) J17)
    refine ev_ior dX0_calledAsBits_27 ?_
    refine ev_istore_n 1 dX0_calledAsBits_28 rfl (Nat.le_of_ble_eq_true rfl) rfl ?_
    refine ev_iinc (nI (j + 1)) dX0_calledAsBits_29 rfl (nI_1 j) (Nat.le_of_ble_eq_true rfl) rfl ?_
    refine ev_goto 4 dX0_calledAsBits_32 (by decide) ?_
    exact ev_sub [0, 1, 2] rfl (ih (j + 1) (by omega))
set_option maxHeartbeats 1000000 in
theorem c0_addInterest (p : Nat → va_E) (sl pl ks rr τ : Nat → Int32) (g : PW)  : Ct mX0_addInterest [.ref 17] (nw p sl pl ks rr τ g) (d1 none (nw p sl pl ks rr (hrLN τ 8) g)) nx := by
  refine ct_of 0 kX0_addInterest.1 rfl (Nat.le_of_ble_eq_true rfl) (fun v u h => by obtain ⟨rfl, rfl⟩ := h; exact trivial) ?_
  show Ev _ _ _ 0 0 [(0, .ref 17)] [] _
  refine ev_iconst (nI 0) dX0_addInterest_0 rfl ?_
  refine ev_istore_n 1 dX0_addInterest_1 rfl (Nat.le_of_ble_eq_true rfl) rfl ?_
  suffices H : ∀ fu j, j + fu = 8 → Ev mX0_addInterest (d1 none (nw p sl pl ks rr (hrLN τ 8) g)) nx 0 2 [(1, .int (nI (j))), (0, .ref 17)] [] (nw p sl pl ks rr (hrLN τ (j)) g) from ev_sub [0, 1] rfl (H 8 0 (Nat.zero_add _))
  intro fu
  induction fu with
  | zero =>
    intro j hj
    obtain rfl : 8 = j := by omega
    refine ev_iload_n 1 dX0_addInterest_2 rfl rfl ?_
    refine ev_bipush (nI 8) dX0_addInterest_3 rfl ?_
    refine ev_icmp_ge 45 dX0_addInterest_5 (by decide) (fun h5 => ?_) (fun h5 => absurd (nI_le (Nat.le_refl 8) (by omega)) h5)
    exact ev_return dX0_addInterest_45 (Nat.le_of_ble_eq_true rfl) ⟨rfl, rfl⟩
  | succ fu ih =>
    intro j hj
    have hj6 : j < 8 := by omega
    refine ev_iload_n 1 dX0_addInterest_2 rfl rfl ?_
    refine ev_bipush (nI 8) dX0_addInterest_3 rfl ?_
    refine ev_icmp_ge 45 dX0_addInterest_5 (by decide) (fun h5 => absurd h5 (nI_ge hj6 (by omega))) (fun h5 => ?_)
    refine ev_aload_n 0 dX0_addInterest_8 rfl rfl ?_
    refine ev_aload_n 0 dX0_addInterest_9 rfl rfl ?_
    refine ev_getfield 5 dX0_addInterest_10 foX0_27 rfl rfl ?_
    refine ev_iload_n 1 dX0_addInterest_13 rfl rfl ?_
    refine ev_ild (j) dX0_addInterest_14 rfl (by simp only [nI_m, nI_add, ix, oI]) (by omega) rfl ?_
    refine ev_cV1 (c0_interestOn _ _ _ _ _ _ _ _) kX0_interestOn rfl g551 rfl rfl rfl rfl dX0_addInterest_15 ?_
    refine ev_istore_n 2 dX0_addInterest_18 rfl (Nat.le_of_ble_eq_true rfl) rfl ?_
    refine ev_aload_n 0 dX0_addInterest_19 rfl rfl ?_
    refine ev_getfield 5 dX0_addInterest_20 foX0_27 rfl rfl ?_
    refine ev_iload_n 1 dX0_addInterest_23 rfl rfl ?_
    refine ev_dup2 dX0_addInterest_24 rfl rfl ?_
    refine ev_ild (j) dX0_addInterest_25 rfl (by simp only [nI_m, nI_add, ix, oI]) (by omega) rfl ?_
    refine ev_iload_n 2 dX0_addInterest_26 rfl rfl ?_
    refine ev_iadd dX0_addInterest_27 ?_
    refine ev_ist (j) dX0_addInterest_28 rfl rfl (by omega) rfl (nw_debts _ _ _ _ _ _ _ hj6 _) ?_
    refine ev_aload_n 0 dX0_addInterest_29 rfl rfl ?_
    refine ev_dup dX0_addInterest_30 rfl ?_
    refine ev_getfield 14 dX0_addInterest_31 foX0_68 rfl rfl ?_
    refine ev_iload_n 2 dX0_addInterest_34 rfl rfl ?_
    refine ev_iadd dX0_addInterest_35 ?_
    refine ev_putfield 14 dX0_addInterest_36 fpX0_68 rfl (Nat.le_of_ble_eq_true rfl) (fun _ => rfl) (fun _ => rfl) (nw_f104 _ _ _ _ _ _ _ _) ?_
    refine ev_iinc (nI (j + 1)) dX0_addInterest_39 rfl (nI_1 j) (Nat.le_of_ble_eq_true rfl) rfl ?_
    refine ev_goto 2 dX0_addInterest_42 (by decide) ?_
    exact ev_sub [0, 2] rfl (ih (j + 1) (by omega))
end
section
/-! ===== the class: sales ===== -/
def keyS (τ : Nat → Int32) (k : Nat) : Int32 := if τ 101 = nI 1 then -τ (6 + k) else if τ 101 = nI 2 then τ (6 + k) else τ k
def oneC (τ : Nat → Int32) (k : Nat) : Int32 := τ k * (nI 100 - τ (6 + k))
def layP (τ : Nat → Int32) (c : Nat) (pl : Nat → Int32) : Nat → Nat → Int32
  | 0 => pl
  | n + 1 => upd (layP τ c pl n) n (τ (ix c n))
def layK (τ : Nat → Int32) (ks : Nat → Int32) : Nat → Nat → Int32
  | 0 => ks
  | n + 1 => upd (layK τ ks n) n (keyS τ n)
def spS (τ : Nat → Int32) (c : Nat) : Nat → Int32
  | 0 => nI 0
  | n + 1 => spS τ c n + τ (ix c n)
def cvL (τ : Nat → Int32) (c : Nat) : Nat → Int32
  | 0 => nI 0
  | n + 1 => cvL τ c n + τ (ix c n) * oneC τ n
def pwP (sl : Nat → Int32) (x : Int32) : Int32 := if x < sl 1 then x else sl 1
def pw1 (sl : Nat → Int32) (t : Int32) : Nat → Int32 := upd sl 1 (sl 1 - t)
def pw2 (sl : Nat → Int32) (t : Int32) : Nat → Int32 := upd (pw1 sl t) 4 (pw1 sl t 4 + t)
def pwS (sl : Nat → Int32) (x : Int32) : Nat → Int32 := upd (pw2 sl (pwP sl x)) 0 (pw2 sl (pwP sl x) 0 + (x - pwP sl x))
def pfS (sl : Nat → Int32) : Nat → Int32 := pwS (upd sl 0 (nI 0)) (sl 0)
def cvD (sl : Nat → Int32) : Bool := decide (sl 1 ≤ sl 0 + sl 2 / nI 100)
def fkS (pl ks : Nat → Int32) : Nat → Option Nat
  | 0 => none
  | n + 1 => match fkS pl ks n with
    | none => if 0 < pl n then some n else none
    | some o => if 0 < pl n ∧ ks o < ks n then some n else some o
theorem fkS_lt {pl ks : Nat → Int32} {o : Nat} : ∀ {n : Nat}, fkS pl ks n = some o → o < n
  | 0, h => by simp [fkS] at h
  | n + 1, h => by
    simp only [fkS] at h
    cases hs : fkS pl ks n with
    | none =>
      rw [hs] at h
      simp only at h
      split at h
      · cases h; omega
      · cases h
    | some p =>
      rw [hs] at h
      simp only at h
      split at h
      · cases h; omega
      · cases h
        have := fkS_lt hs
        omega
theorem fk_not {pl ks : Nat → Int32} {n : Nat} (h : ¬ 0 < pl n) : fkS pl ks (n + 1) = fkS pl ks n := by
  simp only [fkS]
  cases fkS pl ks n <;> simp [h]
theorem fk_first {pl ks : Nat → Int32} {n : Nat} (h : 0 < pl n) (hs : fkS pl ks n = none) : fkS pl ks (n + 1) = some n := by
  simp only [fkS, hs, h, if_true]
theorem fk_more {pl ks : Nat → Int32} {n o : Nat} (h : 0 < pl n) (hs : fkS pl ks n = some o) (ha : ks o < ks n) : fkS pl ks (n + 1) = some n := by
  simp only [fkS, hs, h, ha, and_self, if_true]
theorem fk_less {pl ks : Nat → Int32} {n o : Nat} (hs : fkS pl ks n = some o) (ha : ¬ ks o < ks n) : fkS pl ks (n + 1) = some o := by
  simp only [fkS, hs, ha, and_false, if_false]
def so1 (τ sl : Nat → Int32) (k : Nat) : Nat → Int32 := upd sl 2 (sl 2 - oneC τ k)
def so2 (τ sl : Nat → Int32) (k : Nat) : Nat → Int32 := upd (so1 τ sl k) 3 (so1 τ sl k 3 + nI 1)
def soS (τ sl : Nat → Int32) (k : Nat) : Nat → Int32 := pwS (so2 τ sl k) (τ k * (nI 100 - τ 100) / nI 100)
def soP (pl : Nat → Int32) (k : Nat) : Nat → Int32 := upd pl k (pl k - nI 1)
/-- one sale, if there is something -/
def soX (τ ks : Nat → Int32) (q : (Nat → Int32) × (Nat → Int32)) : (Nat → Int32) × (Nat → Int32) := match fkS q.2 ks 6 with
  | none => q
  | some k => (soS τ q.1 k, soP q.2 k)
def rkW (τ ks : Nat → Int32) : Nat → (Nat → Int32) × (Nat → Int32) → (Nat → Int32) × (Nat → Int32)
  | 0, q => q
  | f + 1, q => if cvD q.1 = true then q else rkW τ ks f (soX τ ks q)
def rkE (sl : Nat → Int32) : Nat → Int32 := if cvD sl = true then sl else upd (upd sl 5 (sl 1)) 1 (nI 0)
def rk0 (τ sl : Nat → Int32) (c : Nat) : Nat → Int32 := upd (upd (upd (upd (upd (upd sl 0 (τ (ix c 6))) 1 (τ (ix c 7))) 3 (nI 0)) 4 (nI 0)) 5 (nI 0)) 2 (cvL τ c 6)
/-- sale fields and pieces left, behind reckon -/
def rkS (τ sl pl ks : Nat → Int32) (c m : Nat) : (Nat → Int32) × (Nat → Int32) := rkW τ (layK τ ks 6) m (pfS (rk0 τ sl c), layP τ c pl 6)
theorem rkW_cov {τ ks : Nat → Int32} {q : (Nat → Int32) × (Nat → Int32)} (h : cvD q.1 = true) : ∀ f, rkW τ ks f q = q
  | 0 => rfl
  | f + 1 => by simp only [rkW, h, if_true]
theorem rkW_go {τ ks : Nat → Int32} {q : (Nat → Int32) × (Nat → Int32)} (h : cvD q.1 = false) (f : Nat) : rkW τ ks (f + 1) q = rkW τ ks f (soX τ ks q) := by
  simp only [rkW, h, Bool.false_eq_true, if_false]
def es0 (τ pl : Nat → Int32) (c n : Nat) : Nat → Int32 := upd τ (12 + n) (τ (12 + n) + (τ (ix c n) - pl n))
def esN (τ pl : Nat → Int32) (c : Nat) : Nat → Nat → Int32
  | 0 => τ
  | n + 1 => upd (es0 (esN τ pl c n) pl c n) (ix c n) (pl n)
def es1 (τ pl sl : Nat → Int32) (c : Nat) : Nat → Int32 := upd (upd (esN τ pl c 6) (ix c 6) (sl 0)) (ix c 7) (sl 1)
def es2 (τ pl sl : Nat → Int32) (c : Nat) : Nat → Int32 := upd (es1 τ pl sl c) 105 (es1 τ pl sl c 105 + sl 4)
def es3 (τ pl sl : Nat → Int32) (c : Nat) : Nat → Int32 := upd (es2 τ pl sl c) 106 (es2 τ pl sl c 106 + sl 5)
def es4 (τ pl sl : Nat → Int32) (c : Nat) : Nat → Int32 := if 0 < sl 5 then upd (es3 τ pl sl c) (ix c 9) (nI 1) else es3 τ pl sl c
def es5 (τ pl sl : Nat → Int32) (c : Nat) : Nat → Int32 := upd (es4 τ pl sl c) (ix c 8) (nI 0)
def esS (τ pl sl : Nat → Int32) (c : Nat) : Nat → Int32 := upd (es5 τ pl sl c) 108 (es5 τ pl sl c 108 + nI 1)
/-- ledger, sale fields, pieces left, keys -/
abbrev CQ : Type := (Nat → Int32) × (Nat → Int32) × (Nat → Int32) × (Nat → Int32)
def sellC (q : CQ) (c : Nat) : CQ :=
  let r := rkS q.1 q.2.1 q.2.2.1 q.2.2.2 c (nP q.1 c 6)
  (esS q.1 r.2 (rkE r.1) c, rkE r.1, r.2, layK q.1 q.2.2.2 6)
def lowC (τ : Nat → Int32) (c : Nat) : Nat → Int32 := upd τ (ix c 8) (τ (ix c 8) - nI 1)
def cd1 (b : Bool) (q : CQ) (c : Nat) : CQ :=
  if (b && isK q.1 c) = true then (if lowC q.1 c (ix c 8) = 0 then sellC (lowC q.1 c, q.2) c else (lowC q.1 c, q.2)) else q
def cdN (b : Nat → Bool) (q : CQ) : Nat → CQ
  | 0 => q
  | n + 1 => cd1 (b n) (cdN b q n) n
theorem cd_sell {b : Bool} {q : CQ} {c : Nat} (h1 : b = true) (h2 : isK q.1 c = true) (h3 : lowC q.1 c (ix c 8) = 0) : cd1 b q c = sellC (lowC q.1 c, q.2) c := by
  unfold cd1; rw [if_pos (by rw [h1, h2]; rfl), if_pos h3]
theorem cd_low {b : Bool} {q : CQ} {c : Nat} (h1 : b = true) (h2 : isK q.1 c = true) (h3 : ¬ lowC q.1 c (ix c 8) = 0) : cd1 b q c = (lowC q.1 c, q.2) := by
  unfold cd1; rw [if_pos (by rw [h1, h2]; rfl), if_neg h3]
theorem cd_no {b : Bool} {q : CQ} {c : Nat} (h : (b && isK q.1 c) = false) : cd1 b q c = q := by
  unfold cd1; rw [if_neg (by rw [h]; decide)]
def ph0 (q : CQ) : Nat → Int32 := upd q.1 102 (q.1 102 + nI 1)
def phC (q : CQ) : CQ := cdN (isK q.1) (lookN (hrLN (ph0 q) 8) 8, q.2) 8
def phN (q : CQ) : Nat → CQ
  | 0 => q
  | n + 1 => phC (phN q n)
theorem spS_nP {τ : Nat → Int32} {c : Nat} (h : ∀ k, k < 6 → 0 ≤ τ (ix c k)) : ∀ n, n ≤ 6 → spS τ c n = nI (nP τ c n)
  | 0, _ => rfl
  | n + 1, hn => by
    simp only [spS, nP]
    rw [spS_nP h n (by omega), ← nI_add]
    congr 1
    obtain ⟨j, hj, e⟩ := nI_of (x := τ (ix c n)) (by rw [Int32.not_lt]; exact h n (by omega))
    rw [e, nI_clamp hj]
def nwq (p : Nat → va_E) (q : CQ) (rr : Nat → Int32) (g : PW) : PW := nw p q.2.1 q.2.2.1 q.2.2.2 rr q.1 g
theorem key_1 {τ : Nat → Int32} {k : Nat} (h : τ 101 = nI 1) : keyS τ k = -τ (6 + k) := if_pos h
theorem key_2 {τ : Nat → Int32} {k : Nat} (h : τ 101 = nI 2) : keyS τ k = τ (6 + k) := by
  unfold keyS; rw [if_neg (by rw [h]; decide), if_pos h]
theorem key_0 {τ : Nat → Int32} {k : Nat} (h1 : ¬ τ 101 = nI 1) (h2 : ¬ τ 101 = nI 2) : keyS τ k = τ k := by
  unfold keyS; rw [if_neg h1, if_neg h2]
theorem tI_ne {x : Int32} {n : Nat} (hn : n < 2147483648) (h : ¬ x = nI n) : ¬ x.toInt = (n : Int) := fun e => h (Int32.toInt_inj.mp (e.trans (nI_toInt hn).symm))
theorem lks_d {x : Int} (h1 : ¬ x = ((1 : Nat) : Int)) (h2 : ¬ x = ((2 : Nat) : Int)) : Op.lookupswitch.offset (#[((1 : Int), (28 : Int)), (2, 36)] : Array (Int × Int)).toList 43 x = 43 := by
  have h1' : ¬ (1 : Int) = x := fun e => h1 e.symm
  have h2' : ¬ (2 : Int) = x := fun e => h2 e.symm
  have h3 : ¬ x = 1 := h1
  have h4 : ¬ x = 2 := h2
  simp [Op.lookupswitch.offset, h1', h2', h3, h4]
set_option maxHeartbeats 1000000 in
theorem c2_keyOf (p : Nat → va_E) (sl pl ks rr τ : Nat → Int32) (g : PW) {k : Nat} (hk : k < 6) : Ct mX2_keyOf [.ref 10, .ref 17, .int (nI k)] (nw p sl pl ks rr τ g) (d1 (some (.int (keyS τ k))) (nw p sl pl ks rr τ g)) nx := by
  refine ct_of 2 kX2_keyOf.1 rfl (Nat.le_of_ble_eq_true rfl) (fun v u h => by obtain ⟨rfl, rfl⟩ := h; exact rfl) ?_
  show Ev _ _ _ 0 0 [(0, .ref 10), (1, .ref 17), (2, .int (nI k))] [] _
  refine ev_aload_n 1 dX2_keyOf_0 rfl rfl ?_
  refine ev_getfield 11 dX2_keyOf_1 foX2_73 rfl rfl ?_
  by_cases h1 : τ 101 = nI 1
  · refine ev_lookup (off := 28) 32 dX2_keyOf_4 (by decide) (by rw [h1]; decide) (by decide) ?_
    refine ev_aload_n 1 dX2_keyOf_32 rfl rfl ?_
    refine ev_getfield 1 dX2_keyOf_33 foX2_76 rfl rfl ?_
    refine ev_iload_n 2 dX2_keyOf_36 rfl rfl ?_
    refine ev_ild (k) dX2_keyOf_37 rfl rfl (by omega) rfl ?_
    refine ev_ineg dX2_keyOf_38 ?_
    exact ev_ireturn dX2_keyOf_39 (Nat.le_of_ble_eq_true rfl) ⟨by rw [key_1 h1], rfl⟩
  · by_cases h2 : τ 101 = nI 2
    · refine ev_lookup (off := 36) 40 dX2_keyOf_4 (by decide) (by rw [h2]; decide) (by decide) ?_
      refine ev_aload_n 1 dX2_keyOf_40 rfl rfl ?_
      refine ev_getfield 1 dX2_keyOf_41 foX2_76 rfl rfl ?_
      refine ev_iload_n 2 dX2_keyOf_44 rfl rfl ?_
      refine ev_ild (k) dX2_keyOf_45 rfl rfl (by omega) rfl ?_
      exact ev_ireturn dX2_keyOf_46 (Nat.le_of_ble_eq_true rfl) ⟨by rw [key_2 h2], rfl⟩
    · refine ev_lookup (off := 43) 47 dX2_keyOf_4 (by decide) (lks_d (tI_ne (by omega) h1) (tI_ne (by omega) h2)) (by decide) ?_
      refine ev_aload_n 1 dX2_keyOf_47 rfl rfl ?_
      refine ev_getfield 0 dX2_keyOf_48 foX2_79 rfl rfl ?_
      refine ev_iload_n 2 dX2_keyOf_51 rfl rfl ?_
      refine ev_ild (k) dX2_keyOf_52 rfl rfl (by omega) rfl ?_
      exact ev_ireturn dX2_keyOf_53 (Nat.le_of_ble_eq_true rfl) ⟨by rw [key_0 h1 h2], rfl⟩
set_option maxHeartbeats 1000000 in
theorem c2_coverOfOne (p : Nat → va_E) (sl pl ks rr τ : Nat → Int32) (g : PW) {k : Nat} (hk : k < 6) : Ct mX2_coverOfOne [.ref 10, .ref 17, .int (nI k)] (nw p sl pl ks rr τ g) (d1 (some (.int (oneC τ k))) (nw p sl pl ks rr τ g)) nx := by
  refine ct_of 2 kX2_coverOfOne.1 rfl (Nat.le_of_ble_eq_true rfl) (fun v u h => by obtain ⟨rfl, rfl⟩ := h; exact rfl) ?_
  show Ev _ _ _ 0 0 [(0, .ref 10), (1, .ref 17), (2, .int (nI k))] [] _
  refine ev_aload_n 1 dX2_coverOfOne_0 rfl rfl ?_
  refine ev_getfield 0 dX2_coverOfOne_1 foX2_79 rfl rfl ?_
  refine ev_iload_n 2 dX2_coverOfOne_4 rfl rfl ?_
  refine ev_ild (k) dX2_coverOfOne_5 rfl rfl (by omega) rfl ?_
  refine ev_bipush (nI 100) dX2_coverOfOne_6 rfl ?_
  refine ev_aload_n 1 dX2_coverOfOne_8 rfl rfl ?_
  refine ev_getfield 1 dX2_coverOfOne_9 foX2_76 rfl rfl ?_
  refine ev_iload_n 2 dX2_coverOfOne_12 rfl rfl ?_
  refine ev_ild (k) dX2_coverOfOne_13 rfl rfl (by omega) rfl ?_
  refine ev_isub dX2_coverOfOne_14 ?_
  refine ev_imul dX2_coverOfOne_15 ?_
  exact ev_ireturn dX2_coverOfOne_16 (Nat.le_of_ble_eq_true rfl) ⟨rfl, rfl⟩
set_option maxHeartbeats 1000000 in
theorem c2_isCovered (p : Nat → va_E) (sl pl ks rr τ : Nat → Int32) (g : PW)  : Ct mX2_isCovered [.ref 10] (nw p sl pl ks rr τ g) (d1 (some (.int (bI (cvD sl)))) (nw p sl pl ks rr τ g)) nx := by
  refine ct_of 0 kX2_isCovered.1 rfl (Nat.le_of_ble_eq_true rfl) (fun v u h => by obtain ⟨rfl, rfl⟩ := h; exact bI_nar _) ?_
  show Ev _ _ _ 0 0 [(0, .ref 10)] [] _
  refine ev_aload_n 0 dX2_isCovered_0 rfl rfl ?_
  refine ev_getfield 3 dX2_isCovered_1 foX2_30 rfl rfl ?_
  refine ev_aload_n 0 dX2_isCovered_4 rfl rfl ?_
  refine ev_getfield 2 dX2_isCovered_5 foX2_23 rfl rfl ?_
  refine ev_aload_n 0 dX2_isCovered_8 rfl rfl ?_
  refine ev_getfield 4 dX2_isCovered_9 foX2_57 rfl rfl ?_
  refine ev_bipush (nI 100) dX2_isCovered_12 rfl ?_
  refine ev_idiv dX2_isCovered_14 (by decide) ?_
  refine ev_iadd dX2_isCovered_15 ?_
  refine ev_icmp_gt 23 dX2_isCovered_16 (by decide) (fun h16 => ?_) (fun h16 => ?_)
  · refine ev_iconst (nI 0) dX2_isCovered_23 rfl ?_
    exact ev_ireturn dX2_isCovered_24 (Nat.le_of_ble_eq_true rfl) ⟨by first | (rw [show cvD sl = false from decide_eq_false (Int32.not_le.mpr h16)]; rfl) | (rw [show cvD sl = true from decide_eq_true (Int32.not_lt.mp h16)]; rfl), rfl⟩
  · refine ev_iconst (nI 1) dX2_isCovered_19 rfl ?_
    refine ev_goto 24 dX2_isCovered_20 (by decide) ?_
    exact ev_ireturn dX2_isCovered_24 (Nat.le_of_ble_eq_true rfl) ⟨by first | (rw [show cvD sl = false from decide_eq_false (Int32.not_le.mpr h16)]; rfl) | (rw [show cvD sl = true from decide_eq_true (Int32.not_lt.mp h16)]; rfl), rfl⟩
set_option maxHeartbeats 1000000 in
theorem c2_payWith (p : Nat → va_E) (sl pl ks rr τ : Nat → Int32) (g : PW) (x : Int32) : Ct mX2_payWith [.ref 10, .int x] (nw p sl pl ks rr τ g) (d1 none (nw p (pwS sl x) pl ks rr τ g)) nx := by
  refine ct_of 1 kX2_payWith.1 rfl (Nat.le_of_ble_eq_true rfl) (fun v u h => by obtain ⟨rfl, rfl⟩ := h; exact trivial) ?_
  show Ev _ _ _ 0 0 [(0, .ref 10), (1, .int x)] [] _
  refine ev_iload_n 1 dX2_payWith_0 rfl rfl ?_
  refine ev_aload_n 0 dX2_payWith_1 rfl rfl ?_
  refine ev_getfield 3 dX2_payWith_2 foX2_30 rfl rfl ?_
  suffices J5 : Ev mX2_payWith (d1 none (nw p (pwS sl x) pl ks rr τ g)) nx 0 16 [(0, .ref 10), (1, .int x)] [.int (pwP sl x)] (nw p sl pl ks rr τ g) by
    refine ev_icmp_ge 12 dX2_payWith_5 (by decide) (fun h5 => ?_) (fun h5 => ?_)
    · refine ev_aload_n 0 dX2_payWith_12 rfl rfl ?_
      refine ev_getfield 3 dX2_payWith_13 foX2_30 rfl rfl ?_
      exact ev_sub [0, 1] rfl (ev_top _ (by first | exact (if_pos (Int32.not_le.mp h5)).symm | exact (if_neg (Int32.not_lt.mpr h5)).symm) J5)
    · refine ev_iload_n 1 dX2_payWith_8 rfl rfl ?_
      refine ev_goto 16 dX2_payWith_9 (by decide) ?_
      exact ev_sub [0, 1] rfl (ev_top _ (by first | exact (if_pos (Int32.not_le.mp h5)).symm | exact (if_neg (Int32.not_lt.mpr h5)).symm) J5)
  refine ev_istore_n 2 dX2_payWith_16 rfl (Nat.le_of_ble_eq_true rfl) rfl ?_
  refine ev_aload_n 0 dX2_payWith_17 rfl rfl ?_
  refine ev_dup dX2_payWith_18 rfl ?_
  refine ev_getfield 3 dX2_payWith_19 foX2_30 rfl rfl ?_
  refine ev_iload_n 2 dX2_payWith_22 rfl rfl ?_
  refine ev_isub dX2_payWith_23 ?_
  refine ev_putfield 3 dX2_payWith_24 fpX2_30 rfl (Nat.le_of_ble_eq_true rfl) (fun _ => rfl) (fun _ => rfl) (nw_s1 _ _ _ _ _ _ _ _) ?_
  refine ev_aload_n 0 dX2_payWith_27 rfl rfl ?_
  refine ev_dup dX2_payWith_28 rfl ?_
  refine ev_getfield 6 dX2_payWith_29 foX2_36 rfl rfl ?_
  refine ev_iload_n 2 dX2_payWith_32 rfl rfl ?_
  refine ev_iadd dX2_payWith_33 ?_
  refine ev_putfield 6 dX2_payWith_34 fpX2_36 rfl (Nat.le_of_ble_eq_true rfl) (fun _ => rfl) (fun _ => rfl) (nw_s4 _ _ _ _ _ _ _ _) ?_
  refine ev_aload_n 0 dX2_payWith_37 rfl rfl ?_
  refine ev_dup dX2_payWith_38 rfl ?_
  refine ev_getfield 2 dX2_payWith_39 foX2_23 rfl rfl ?_
  refine ev_iload_n 1 dX2_payWith_42 rfl rfl ?_
  refine ev_iload_n 2 dX2_payWith_43 rfl rfl ?_
  refine ev_isub dX2_payWith_44 ?_
  refine ev_iadd dX2_payWith_45 ?_
  refine ev_putfield 2 dX2_payWith_46 fpX2_23 rfl (Nat.le_of_ble_eq_true rfl) (fun _ => rfl) (fun _ => rfl) (nw_s0 _ _ _ _ _ _ _ _) ?_
  exact ev_return dX2_payWith_49 (Nat.le_of_ble_eq_true rfl) ⟨rfl, rfl⟩
set_option maxHeartbeats 1000000 in
theorem c2_payFromCoins (p : Nat → va_E) (sl pl ks rr τ : Nat → Int32) (g : PW)  : Ct mX2_payFromCoins [.ref 10] (nw p sl pl ks rr τ g) (d1 none (nw p (pfS sl) pl ks rr τ g)) nx := by
  refine ct_of 0 kX2_payFromCoins.1 rfl (Nat.le_of_ble_eq_true rfl) (fun v u h => by obtain ⟨rfl, rfl⟩ := h; exact trivial) ?_
  show Ev _ _ _ 0 0 [(0, .ref 10)] [] _
  refine ev_aload_n 0 dX2_payFromCoins_0 rfl rfl ?_
  refine ev_getfield 2 dX2_payFromCoins_1 foX2_23 rfl rfl ?_
  refine ev_istore_n 1 dX2_payFromCoins_4 rfl (Nat.le_of_ble_eq_true rfl) rfl ?_
  refine ev_aload_n 0 dX2_payFromCoins_5 rfl rfl ?_
  refine ev_iconst (nI 0) dX2_payFromCoins_6 rfl ?_
  refine ev_putfield 2 dX2_payFromCoins_7 fpX2_23 rfl (Nat.le_of_ble_eq_true rfl) (fun _ => rfl) (fun _ => rfl) (nw_s0 _ _ _ _ _ _ _ _) ?_
  refine ev_aload_n 0 dX2_payFromCoins_10 rfl rfl ?_
  refine ev_iload_n 1 dX2_payFromCoins_11 rfl rfl ?_
  refine ev_cV1v (c2_payWith _ _ _ _ _ _ _ _) kX2_payWith rfl g582 rfl rfl rfl rfl dX2_payFromCoins_12 ?_
  exact ev_return dX2_payFromCoins_15 (Nat.le_of_ble_eq_true rfl) ⟨rfl, rfl⟩
set_option maxHeartbeats 1000000 in
theorem c2_firstKind (p : Nat → va_E) (sl pl ks rr τ : Nat → Int32) (g : PW)  : Ct mX2_firstKind [.ref 10] (nw p sl pl ks rr τ g) (d1 (some (.int (oI (fkS pl ks 6)))) (nw p sl pl ks rr τ g)) nx := by
  refine ct_of 0 kX2_firstKind.1 rfl (Nat.le_of_ble_eq_true rfl) (fun v u h => by obtain ⟨rfl, rfl⟩ := h; exact rfl) ?_
  show Ev _ _ _ 0 0 [(0, .ref 10)] [] _
  refine ev_iconst (-1) dX2_firstKind_0 rfl ?_
  refine ev_istore_n 1 dX2_firstKind_1 rfl (Nat.le_of_ble_eq_true rfl) rfl ?_
  refine ev_iconst (nI 0) dX2_firstKind_2 rfl ?_
  refine ev_istore_n 2 dX2_firstKind_3 rfl (Nat.le_of_ble_eq_true rfl) rfl ?_
  suffices H : ∀ fu j, j + fu = 6 → Ev mX2_firstKind (d1 (some (.int (oI (fkS pl ks 6)))) (nw p sl pl ks rr τ g)) nx 0 4 [(2, .int (nI (j))), (1, .int (oI (fkS pl ks (j)))), (0, .ref 10)] [] ((nw p sl pl ks rr τ g)) from ev_sub [0, 1, 2] rfl (H 6 0 (Nat.zero_add _))
  intro fu
  induction fu with
  | zero =>
    intro j hj
    obtain rfl : 6 = j := by omega
    refine ev_iload_n 2 dX2_firstKind_4 rfl rfl ?_
    refine ev_bipush (nI 6) dX2_firstKind_5 rfl ?_
    refine ev_icmp_ge 47 dX2_firstKind_7 (by decide) (fun h7 => ?_) (fun h7 => absurd (nI_le (Nat.le_refl 6) (by omega)) h7)
    refine ev_iload_n 1 dX2_firstKind_47 rfl rfl ?_
    exact ev_ireturn dX2_firstKind_48 (Nat.le_of_ble_eq_true rfl) ⟨rfl, rfl⟩
  | succ fu ih =>
    intro j hj
    have hj6 : j < 6 := by omega
    refine ev_iload_n 2 dX2_firstKind_4 rfl rfl ?_
    refine ev_bipush (nI 6) dX2_firstKind_5 rfl ?_
    refine ev_icmp_ge 47 dX2_firstKind_7 (by decide) (fun h7 => absurd h7 (nI_ge hj6 (by omega))) (fun h7 => ?_)
    refine ev_aload_n 0 dX2_firstKind_10 rfl rfl ?_
    refine ev_getfield 0 dX2_firstKind_11 foX2_9 rfl rfl ?_
    refine ev_iload_n 2 dX2_firstKind_14 rfl rfl ?_
    refine ev_ild (j) dX2_firstKind_15 rfl (by simp only [nI_m, nI_add, ix, oI]) (by omega) rfl ?_
    suffices J : Ev mX2_firstKind (d1 (some (.int (oI (fkS pl ks 6)))) (nw p sl pl ks rr τ g)) nx 0 41 [(2, .int (nI j)), (1, .int (oI (fkS pl ks (j + 1)))), (0, .ref 10)] [] (nw p sl pl ks rr τ g) by
      refine ev_if_le 41 dX2_firstKind_16 (by decide) (fun h16 => ?_) (fun h16 => ?_)
      · rw [fk_not (Int32.not_lt.mpr h16)] at J
        exact ev_sub [0, 1, 2] rfl J
      · cases hs : fkS pl ks j with
        | none =>
          rw [fk_first (Int32.not_le.mp h16) hs] at J
          refine ev_iload_n 1 dX2_firstKind_19 rfl rfl ?_
          refine ev_iconst (-1) dX2_firstKind_20 rfl ?_
          refine ev_icmp_eq 39 dX2_firstKind_21 (by decide) (fun h21 => ?_) (fun h21 => absurd (by rfl) h21)
          refine ev_iload_n 2 dX2_firstKind_39 rfl rfl ?_
          refine ev_istore_n 1 dX2_firstKind_40 rfl (Nat.le_of_ble_eq_true rfl) rfl ?_
          exact ev_sub [1, 0, 2] rfl J
        | some q =>
          have hq := fkS_lt hs
          refine ev_LL [(2, .int (nI j)), (1, .int (nI q)), (0, .ref 10)] (by rfl) ?_
          refine ev_iload_n 1 dX2_firstKind_19 rfl rfl ?_
          refine ev_iconst (-1) dX2_firstKind_20 rfl ?_
          refine ev_icmp_eq 39 dX2_firstKind_21 (by decide) (fun h21 => absurd h21 (fun e => by have := (oI_lt (x := some q) (n := 6) (by omega) (fun _ h => by cases h; omega)).mp e; cases this)) (fun h21 => ?_)
          refine ev_aload_n 0 dX2_firstKind_24 rfl rfl ?_
          refine ev_getfield 1 dX2_firstKind_25 foX2_15 rfl rfl ?_
          refine ev_iload_n 2 dX2_firstKind_28 rfl rfl ?_
          refine ev_ild (j) dX2_firstKind_29 rfl (by simp only [nI_m, nI_add, ix, oI]) (by omega) rfl ?_
          refine ev_aload_n 0 dX2_firstKind_30 rfl rfl ?_
          refine ev_getfield 1 dX2_firstKind_31 foX2_15 rfl rfl ?_
          refine ev_iload_n 1 dX2_firstKind_34 rfl rfl ?_
          refine ev_ild (q) dX2_firstKind_35 rfl (by simp only [nI_m, nI_add, ix, oI]) (by omega) rfl ?_
          refine ev_icmp_le 41 dX2_firstKind_36 (by decide) (fun h36 => ?_) (fun h36 => ?_)
          · rw [fk_less hs (Int32.not_lt.mpr h36)] at J
            exact ev_sub [0, 1, 2] rfl J
          · rw [fk_more (Int32.not_le.mp h16) hs (Int32.not_le.mp h36)] at J
            refine ev_iload_n 2 dX2_firstKind_39 rfl rfl ?_
            refine ev_istore_n 1 dX2_firstKind_40 rfl (Nat.le_of_ble_eq_true rfl) rfl ?_
            exact ev_sub [1, 0, 2] rfl J
    refine ev_iinc (nI (j + 1)) dX2_firstKind_41 rfl (nI_1 j) (Nat.le_of_ble_eq_true rfl) rfl ?_
    refine ev_goto 4 dX2_firstKind_44 (by decide) ?_
    exact ev_sub [0, 1, 2] rfl (ih (j + 1) (by omega))
set_option maxHeartbeats 1000000 in
theorem c2_sellOne_0 (p : Nat → va_E) (sl pl ks rr τ : Nat → Int32) (g : PW) (hs : fkS pl ks 6 = none) : Ct mX2_sellOne [.ref 10, .ref 17] (nw p sl pl ks rr τ g) (d1 none (nw p sl pl ks rr τ g)) nx := by
  refine ct_of 1 kX2_sellOne.1 rfl (Nat.le_of_ble_eq_true rfl) (fun v u h => by obtain ⟨rfl, rfl⟩ := h; exact trivial) ?_
  show Ev _ _ _ 0 0 [(0, .ref 10), (1, .ref 17)] [] _
  refine ev_aload_n 0 dX2_sellOne_0 rfl rfl ?_
  refine ev_cV0 (c2_firstKind _ _ _ _ _ _ _) kX2_firstKind rfl g594 rfl rfl rfl rfl dX2_sellOne_1 ?_
  refine ev_istore_n 2 dX2_sellOne_4 rfl (Nat.le_of_ble_eq_true rfl) rfl ?_
  refine ev_iload_n 2 dX2_sellOne_5 rfl rfl ?_
  refine ev_iconst (-1) dX2_sellOne_6 rfl ?_
  refine ev_icmp_eq 66 dX2_sellOne_7 (by decide) (fun h7 => ?_) (fun h7 => absurd (by rw [hs]; rfl) h7)
  exact ev_return dX2_sellOne_66 (Nat.le_of_ble_eq_true rfl) ⟨rfl, rfl⟩
set_option maxHeartbeats 1000000 in
theorem c2_sellOne_1 (p : Nat → va_E) (sl pl ks rr τ : Nat → Int32) (g : PW) {k : Nat} (hs : fkS pl ks 6 = some k) (hk : k < 6) : Ct mX2_sellOne [.ref 10, .ref 17] (nw p sl pl ks rr τ g) (d1 none (nw p (soS τ sl k) (soP pl k) ks rr τ g)) nx := by
  refine ct_of 1 kX2_sellOne.1 rfl (Nat.le_of_ble_eq_true rfl) (fun v u h => by obtain ⟨rfl, rfl⟩ := h; exact trivial) ?_
  show Ev _ _ _ 0 0 [(0, .ref 10), (1, .ref 17)] [] _
  refine ev_aload_n 0 dX2_sellOne_0 rfl rfl ?_
  refine ev_cV0 (c2_firstKind _ _ _ _ _ _ _) kX2_firstKind rfl g594 rfl rfl rfl rfl dX2_sellOne_1 ?_
  refine ev_istore_n 2 dX2_sellOne_4 rfl (Nat.le_of_ble_eq_true rfl) rfl ?_
  refine ev_LL [(2, .int (nI k)), (0, .ref 10), (1, .ref 17)] (by rw [hs]; rfl) ?_
  refine ev_iload_n 2 dX2_sellOne_5 rfl rfl ?_
  refine ev_iconst (-1) dX2_sellOne_6 rfl ?_
  refine ev_icmp_eq 66 dX2_sellOne_7 (by decide) (fun h7 => absurd h7 (fun e => by have := (oI_lt (x := some k) (n := 6) (by omega) (fun _ h => by cases h; omega)).mp e; cases this)) (fun h7 => ?_)
  refine ev_aload_n 0 dX2_sellOne_10 rfl rfl ?_
  refine ev_getfield 0 dX2_sellOne_11 foX2_9 rfl rfl ?_
  refine ev_iload_n 2 dX2_sellOne_14 rfl rfl ?_
  refine ev_dup2 dX2_sellOne_15 rfl rfl ?_
  refine ev_ild (k) dX2_sellOne_16 rfl rfl (by omega) rfl ?_
  refine ev_iconst (nI 1) dX2_sellOne_17 rfl ?_
  refine ev_isub dX2_sellOne_18 ?_
  refine ev_ist (k) dX2_sellOne_19 rfl rfl (by omega) rfl (nw_pl _ _ _ _ _ _ _ _) ?_
  refine ev_aload_n 0 dX2_sellOne_20 rfl rfl ?_
  refine ev_dup dX2_sellOne_21 rfl ?_
  refine ev_getfield 4 dX2_sellOne_22 foX2_57 rfl rfl ?_
  refine ev_aload_n 0 dX2_sellOne_25 rfl rfl ?_
  refine ev_aload_n 1 dX2_sellOne_26 rfl rfl ?_
  refine ev_iload_n 2 dX2_sellOne_27 rfl rfl ?_
  refine ev_cV2 (c2_coverOfOne _ _ _ _ _ _ _ (by omega)) kX2_coverOfOne rfl g574 rfl rfl rfl rfl dX2_sellOne_28 ?_
  refine ev_isub dX2_sellOne_31 ?_
  refine ev_putfield 4 dX2_sellOne_32 fpX2_57 rfl (Nat.le_of_ble_eq_true rfl) (fun _ => rfl) (fun _ => rfl) (nw_s2 _ _ _ _ _ _ _ _) ?_
  refine ev_aload_n 0 dX2_sellOne_35 rfl rfl ?_
  refine ev_dup dX2_sellOne_36 rfl ?_
  refine ev_getfield 5 dX2_sellOne_37 foX2_33 rfl rfl ?_
  refine ev_iconst (nI 1) dX2_sellOne_40 rfl ?_
  refine ev_iadd dX2_sellOne_41 ?_
  refine ev_putfield 5 dX2_sellOne_42 fpX2_33 rfl (Nat.le_of_ble_eq_true rfl) (fun _ => rfl) (fun _ => rfl) (nw_s3 _ _ _ _ _ _ _ _) ?_
  refine ev_aload_n 0 dX2_sellOne_45 rfl rfl ?_
  refine ev_aload_n 1 dX2_sellOne_46 rfl rfl ?_
  refine ev_getfield 0 dX2_sellOne_47 foX2_79 rfl rfl ?_
  refine ev_iload_n 2 dX2_sellOne_50 rfl rfl ?_
  refine ev_ild (k) dX2_sellOne_51 rfl rfl (by omega) rfl ?_
  refine ev_bipush (nI 100) dX2_sellOne_52 rfl ?_
  refine ev_aload_n 1 dX2_sellOne_54 rfl rfl ?_
  refine ev_getfield 10 dX2_sellOne_55 foX2_90 rfl rfl ?_
  refine ev_isub dX2_sellOne_58 ?_
  refine ev_imul dX2_sellOne_59 ?_
  refine ev_bipush (nI 100) dX2_sellOne_60 rfl ?_
  refine ev_idiv dX2_sellOne_62 (by decide) ?_
  refine ev_cV1v (c2_payWith _ _ _ _ _ _ _ _) kX2_payWith rfl g582 rfl rfl rfl rfl dX2_sellOne_63 ?_
  exact ev_return dX2_sellOne_66 (Nat.le_of_ble_eq_true rfl) ⟨rfl, rfl⟩
theorem c2_sellOne (p : Nat → va_E) (sl pl ks rr τ : Nat → Int32) (g : PW) : Ct mX2_sellOne [.ref 10, .ref 17] (nw p sl pl ks rr τ g) (d1 none (nw p (soX τ ks (sl, pl)).1 (soX τ ks (sl, pl)).2 ks rr τ g)) nx := by
  cases hs : fkS pl ks 6 with
  | none =>
    have e : soX τ ks (sl, pl) = (sl, pl) := by simp only [soX, hs]
    rw [e]
    exact c2_sellOne_0 p sl pl ks rr τ g hs
  | some k =>
    have e : soX τ ks (sl, pl) = (soS τ sl k, soP pl k) := by simp only [soX, hs]
    rw [e]
    exact c2_sellOne_1 p sl pl ks rr τ g hs (fkS_lt hs)
set_option maxHeartbeats 1000000 in
theorem c2_layOutPieces (p : Nat → va_E) (sl pl ks rr τ : Nat → Int32) (g : PW) {c : Nat} (hc : c < 8) : Ct mX2_layOutPieces [.ref 10, .ref 17, .int (nI c)] (nw p sl pl ks rr τ g) (d1 (some (.int (spS τ c 6))) (nw p (upd sl 2 (cvL τ c (6))) (layP τ c pl (6)) (layK τ ks (6)) rr τ g)) nx := by
  refine ct_of 2 kX2_layOutPieces.1 rfl (Nat.le_of_ble_eq_true rfl) (fun v u h => by obtain ⟨rfl, rfl⟩ := h; exact rfl) ?_
  show Ev _ _ _ 0 0 [(0, .ref 10), (1, .ref 17), (2, .int (nI c))] [] _
  refine ev_iconst (nI 0) dX2_layOutPieces_0 rfl ?_
  refine ev_istore_n 3 dX2_layOutPieces_1 rfl (Nat.le_of_ble_eq_true rfl) rfl ?_
  refine ev_aload_n 0 dX2_layOutPieces_2 rfl rfl ?_
  refine ev_iconst (nI 0) dX2_layOutPieces_3 rfl ?_
  refine ev_putfield 4 dX2_layOutPieces_4 fpX2_57 rfl (Nat.le_of_ble_eq_true rfl) (fun _ => rfl) (fun _ => rfl) (nw_s2 _ _ _ _ _ _ _ _) ?_
  refine ev_iconst (nI 0) dX2_layOutPieces_7 rfl ?_
  refine ev_istore dX2_layOutPieces_8 (Nat.le_of_ble_eq_true rfl) rfl ?_
  suffices H : ∀ fu j, j + fu = 6 → Ev mX2_layOutPieces (d1 (some (.int (spS τ c 6))) (nw p (upd sl 2 (cvL τ c (6))) (layP τ c pl (6)) (layK τ ks (6)) rr τ g)) nx 0 10 [(4, .int (nI (j))), (3, .int (spS τ c (j))), (0, .ref 10), (1, .ref 17), (2, .int (nI c))] [] (nw p (upd sl 2 (cvL τ c (j))) (layP τ c pl (j)) (layK τ ks (j)) rr τ g) from ev_sub [0, 1, 2, 3, 4] rfl (H 6 0 (Nat.zero_add _))
  intro fu
  induction fu with
  | zero =>
    intro j hj
    obtain rfl : 6 = j := by omega
    refine ev_iload dX2_layOutPieces_10 rfl ?_
    refine ev_bipush (nI 6) dX2_layOutPieces_12 rfl ?_
    refine ev_icmp_ge 89 dX2_layOutPieces_14 (by decide) (fun h14 => ?_) (fun h14 => absurd (nI_le (Nat.le_refl 6) (by omega)) h14)
    refine ev_iload_n 3 dX2_layOutPieces_89 rfl rfl ?_
    exact ev_ireturn dX2_layOutPieces_90 (Nat.le_of_ble_eq_true rfl) ⟨rfl, rfl⟩
  | succ fu ih =>
    intro j hj
    have hj6 : j < 6 := by omega
    refine ev_iload dX2_layOutPieces_10 rfl ?_
    refine ev_bipush (nI 6) dX2_layOutPieces_12 rfl ?_
    refine ev_icmp_ge 89 dX2_layOutPieces_14 (by decide) (fun h14 => absurd h14 (nI_ge hj6 (by omega))) (fun h14 => ?_)
    refine ev_aload_n 0 dX2_layOutPieces_17 rfl rfl ?_
    refine ev_getfield 0 dX2_layOutPieces_18 foX2_9 rfl rfl ?_
    refine ev_iload dX2_layOutPieces_21 rfl ?_
    refine ev_aload_n 1 dX2_layOutPieces_23 rfl rfl ?_
    refine ev_getfield 3 dX2_layOutPieces_24 foX2_60 rfl rfl ?_
    refine ev_iload_n 2 dX2_layOutPieces_27 rfl rfl ?_
    refine ev_iload dX2_layOutPieces_28 rfl ?_
    refine ev_cN2 (c3_at _ _ _) kX3_at rfl (fun _ _ _ _ h => h.1.2.2.1) rfl rfl dX2_layOutPieces_30 ?_
    refine ev_ild (c * 6 + j) dX2_layOutPieces_33 rfl (by simp only [nI_m, nI_add, ix, oI]) (by omega) rfl ?_
    refine ev_top (τ (ix c j)) (pc6 (by omega)) ?_
    refine ev_ist (j) dX2_layOutPieces_34 rfl rfl (by omega) rfl (nw_pl _ _ _ _ _ _ _ _) ?_
    refine ev_aload_n 0 dX2_layOutPieces_35 rfl rfl ?_
    refine ev_getfield 1 dX2_layOutPieces_36 foX2_15 rfl rfl ?_
    refine ev_iload dX2_layOutPieces_39 rfl ?_
    refine ev_aload_n 0 dX2_layOutPieces_41 rfl rfl ?_
    refine ev_aload_n 1 dX2_layOutPieces_42 rfl rfl ?_
    refine ev_iload dX2_layOutPieces_43 rfl ?_
    refine ev_cV2 (c2_keyOf _ _ _ _ _ _ _ (by omega)) kX2_keyOf rfl g570 rfl rfl rfl rfl dX2_layOutPieces_45 ?_
    refine ev_ist (j) dX2_layOutPieces_48 rfl rfl (by omega) rfl (nw_ks _ _ _ _ _ _ _ _) ?_
    refine ev_iload_n 3 dX2_layOutPieces_49 rfl rfl ?_
    refine ev_aload_n 0 dX2_layOutPieces_50 rfl rfl ?_
    refine ev_getfield 0 dX2_layOutPieces_51 foX2_9 rfl rfl ?_
    refine ev_iload dX2_layOutPieces_54 rfl ?_
    refine ev_ild (j) dX2_layOutPieces_56 rfl rfl (by omega) rfl ?_
    refine ev_top (τ (ix c j)) (upd_s _ _ _) ?_
    refine ev_iadd dX2_layOutPieces_57 ?_
    refine ev_istore_n 3 dX2_layOutPieces_58 rfl (Nat.le_of_ble_eq_true rfl) rfl ?_
    refine ev_aload_n 0 dX2_layOutPieces_59 rfl rfl ?_
    refine ev_dup dX2_layOutPieces_60 rfl ?_
    refine ev_getfield 4 dX2_layOutPieces_61 foX2_57 rfl rfl ?_
    refine ev_aload_n 0 dX2_layOutPieces_64 rfl rfl ?_
    refine ev_getfield 0 dX2_layOutPieces_65 foX2_9 rfl rfl ?_
    refine ev_iload dX2_layOutPieces_68 rfl ?_
    refine ev_ild (j) dX2_layOutPieces_70 rfl rfl (by omega) rfl ?_
    refine ev_top (τ (ix c j)) (upd_s _ _ _) ?_
    refine ev_aload_n 0 dX2_layOutPieces_71 rfl rfl ?_
    refine ev_aload_n 1 dX2_layOutPieces_72 rfl rfl ?_
    refine ev_iload dX2_layOutPieces_73 rfl ?_
    refine ev_cV2 (c2_coverOfOne _ _ _ _ _ _ _ (by omega)) kX2_coverOfOne rfl g574 rfl rfl rfl rfl dX2_layOutPieces_75 ?_
    refine ev_imul dX2_layOutPieces_78 ?_
    refine ev_iadd dX2_layOutPieces_79 ?_
    refine ev_putfield 4 dX2_layOutPieces_80 fpX2_57 rfl (Nat.le_of_ble_eq_true rfl) (fun _ => rfl) (fun _ => rfl) (nw_s2 _ _ _ _ _ _ _ _) ?_
    refine ev_w (w' := nw p (upd sl 2 (cvL τ c (j + 1))) (layP τ c pl (j + 1)) (layK τ ks (j + 1)) rr τ g) (by rw [upd_twice, upd_s]; rfl) ?_
    refine ev_iinc (nI (j + 1)) dX2_layOutPieces_83 rfl (nI_1 j) (Nat.le_of_ble_eq_true rfl) rfl ?_
    refine ev_goto 10 dX2_layOutPieces_86 (by decide) ?_
    exact ev_sub [0, 1, 2, 3, 4] rfl (ih (j + 1) (by omega))
end
