/-! ===== constructors: contracts of methods that make objects, and their calls ===== -/
def PCA (dC : Nat → ClassId) (dI : Nat → Nat → Nat) (dA : Nat → ClassId) (as : Nat → Nat) (sh : Nat) (w : PW) (sz : Nat) : State → Prop := fun U => U.heap.size = sz ∧ va_P (dC, dI) vwC8 (emWs as dA sh w) U.heap ∧ va_K (dC, dI) vwC8 (tyT dA) U ∧ va_D (fun _ => True) (emWs as dA sh w) ∧ va_AO RX0 U ∧ GX as (va_A (emWs as dA sh w) sz) U U.heap
def QCA (dC : Nat → ClassId) (dI : Nat → Nat → Nat) (dA : Nat → ClassId) (as : Nat → Nat) (sh : Nat) (w u : PW) (sz : Nat) : Array Value → State → Outcome → State → Prop :=
  va_Qv (fun as1 : Nat → Nat => Ag (sh + w.length) as as1 ∧ RfW (sh + u.length) u) (fun as1 t => va_P (dC, dI) vwC8 (emWs as1 dA sh u) t.heap ∧ va_D (va_A (emWs as dA sh w) sz) (emWs as1 dA sh u)) (va_A (emWs as dA sh w) sz)
/-- called on the object at sh, in this world (its places begin there), M leaves that one -/
def CtA (M : MT) (sh : Nat) (w u : PW) : Prop := ∀ (l : Launch), l.stackTraces = false → ∀ (dC : Nat → ClassId) (dI : Nat → Nat → Nat) (dA : Nat → ClassId) (as : Nat → Nat) (sz : Nat),
  Met l (mY M) (hdW M :: Gw) (mR M) (va_Pc [.ref (as sh)] (PCA dC dI dA as sh w sz)) (QCA dC dI dA as sh w u sz) (mR M).cells (mR M).slots (va_A (emWs as dA sh w) sz)
theorem pca_blind (dC : Nat → ClassId) (dI : Nat → Nat → Nat) (dA : Nat → ClassId) (as : Nat → Nat) (sh : Nat) (w : PW) (sz : Nat) (av : List Value) : FrameBlind (va_Pc av (PCA dC dI dA as sh w sz)) := fun a U g mk h => by
  obtain ⟨h1, h2, h3, h4, h5, h6, h7⟩ := h
  exact ⟨h1, h2, h3, va_K.moved (u := U) (U := U.calling g mk a) (Vm.Alike.refl U.vm) h4, h5, va_AO.moved (u := U) (U := U.calling g mk a) (Vm.Alike.refl U.vm) h6, GX.warm (s := U) (U := U.calling g mk a) (State.WarmedH.refl U) h7⟩
/-- what the tables say of a constructor -/
def MFI (M : MT) : Prop := hdW M ∈ Gw ∧ Cond.initialized (mY M).cls ∈ Gw ∧ ((mY M).cls ≠ "java/lang/invoke/MethodHandle" ∧ (mY M).cls ≠ "java/lang/invoke/VarHandle") ∧ (parseMethodDescriptor (mY M).desc).map (fun d => d.parameters.length) = some 0 ∧ plainName (mY M).cls = true ∧ (mY M).name = "<init>" ∧ Cond.instanceMethod (mY M) ∈ Gw ∧ mH M = [] ∧ mT M = none
theorem cta_of {M : MT} {sh : Nat} {w u : PW} (pcr : Nat) (hF : MFI M) (hn1 : 1 ≤ mN M) (hI : InvA (sh + w.length) sh w [(0, .ref sh)] []) (d : decode (mC M) pcr = .ok (.return_, 1)) (h : EvA M (sh + w.length) sh (pcr, [], [], u, (mR M).cells, (mR M).slots) 0 0 0 [(0, .ref sh)] [] w) : CtA M sh w u := by
  obtain ⟨f1, f2, f3, f4, f5, f6, f7, f8, f9⟩ := hF
  intro l hst dC dI dA as sz
  have hW : hdW M = Cond.code (mY M) (mC M) (mN M) none := by unfold hdW; rw [if_pos f8, f9]
  rw [hW]
  refine Met.ofW (cc := mC M) (maxL := mN M) (ret := none) f5 rfl ?_
  intro p e s m args' below meth c s₁ B hml hv
  obtain ⟨rfl, hsz, hP, hK, hD0, hO, hG⟩ := hv
  subst hsz
  have hts : ∀ w ∈ Gw, w.before _ s = true := fun w hw => atoms_spec (ws := Cond.code (mY M) (mC M) (mN M) none :: Gw) B.pre w (List.mem_cons_of_mem _ hw)
  have hent := lv_entry [Value.ref (as sh)] (n := mN M) hn1
  rw [lg_entry_eq]
  generalize (lg_sl [Value.ref (as sh)] ++ List.replicate (mN M - (lg_sl [Value.ref (as sh)]).length) Slot.unset).toArray = ls at hent ⊢
  refine h hI p l e s m _ below meth c dC dI dA as (va_A (emWs as dA sh w) s.heap.size) _ s.heap [] ls ⟨B.exec, B.bytes, hml, findClass_of_methodNamed B.named, hts, hst, (name_of_methodNamed B.named B.method).1, hO, hK, fun q h => Or.inr h, hG⟩ ?_ ⟨hP, hD0.self, va_S.rf⟩ hent
  intro as1 hag hIx H locs ls1 hD hl
  exact W.vret B.exec B.bytes B.returns (fun t ht _ => ⟨⟨as1, rfl, ⟨hag, hIx.2.2.1⟩, by rw [ht]; exact hD.1, hD.2.1⟩, hD.2.2.F ht⟩) hD.2.2.2.2 d B.notSynchronized
section EB
variable {M M' : MT} {n0 sh : Nat} {X : XT} {k q pc : Nat} {L : LV} {st : List Value} {w : PW}
theorem len1 (sh : Nat) (w0 : PW) (c0 : va_E) : sh + (w0 ++ [c0]).length = sh + w0.length + 1 := by rw [List.length_append]; rfl
theorem pca_fA {s : State} {dA : Nat → ClassId} {as : Nat → Nat} {A : Nat → Prop} {H : Heap} {locs : List Loc} {w0 : PW} {c0 : va_E} (hDD : va_D A (emWs as dA sh (w0 ++ [c0]))) (hS : va_S A s.heap H locs) (hA : ∀ q, s.heap.size ≤ q → A q) : ∀ q, va_A (emWs as dA (sh + w0.length) [c0]) H.size q → A q := by
  intro q h
  rcases h with ⟨i, e, h⟩ | h
  · obtain ⟨e', h1, h2⟩ := emWs_inv h
    have hi : i = 0 := by have := (List.getElem?_eq_some_iff.mp h1).1; simp at this; omega
    subst hi
    have h3 : (emWs as dA sh (w0 ++ [c0]))[w0.length]? = some (as (w0.length + sh), emE as dA c0) := emWs_get (by rw [List.getElem?_append_right (Nat.le_refl _), Nat.sub_self]; rfl)
    have h4 := hDD.2 _ _ h3
    cases h2
    rw [Nat.zero_add, Nat.add_comm sh]
    exact h4
  · exact hA q (Nat.le_trans hS.1 h)
theorem pca_at {p : Program} {l : Launch} {s U : State} {m : MethodId} {args : Array Value} {meth : Method} {c : Code} {dC : Nat → ClassId} {dI : Nat → Nat → Nat} {dA : Nat → ClassId} {as : Nat → Nat} {A : Nat → Prop} {H : Heap} {locs : List Loc} {w0 : PW} {c0 : va_E} (hX : SxA M p l s m args meth c dC dI dA as A) (hD : DyA s dC dI dA as A H locs sh (w0 ++ [c0])) (hU : U.heap = H) (hW : s.WarmedH U.vm) : PCA dC dI dA as (sh + w0.length) [c0] H.size U := by
  obtain ⟨hx, hb, hml, hown, hts, hst, hnm, hO, hK, hA, hG⟩ := hX
  obtain ⟨hP, hDD, hS⟩ := hD
  subst hU
  refine ⟨rfl, ?_, va_K.moved hW.alike hK, ⟨?_, fun _ _ _ => trivial⟩, va_AO.moved hW.alike hO, ((hG.kept (fun a h1 h2 => hS.2.1 a h1 h2)).narrow (pca_fA hDD hS hA)).warm hW⟩
  · intro i x hx
    refine hP (i + w0.length) x ?_
    rw [emWs_app, List.getElem?_append_right (by simp [emWs]), show i + w0.length - (emWs as dA sh w0).length = i by simp [emWs]]
    exact hx
  · intro i j x y hi hj _
    obtain ⟨e1, h1, -⟩ := emWs_inv hi
    obtain ⟨e2, h2, -⟩ := emWs_inv hj
    have := (List.getElem?_eq_some_iff.mp h1).1
    have := (List.getElem?_eq_some_iff.mp h2).1
    simp at *
    omega
/-- behind a constructor's call -/
theorem ea_called {p : Program} {l : Launch} {e : Env} {s : State} {m : MethodId} {args : Array Value} {below : List Frame} {meth : Method} {c : Code} {dC : Nat → ClassId} {dI : Nat → Nat → Nat} {dA : Nat → ClassId} {as : Nat → Nat} {A : Nat → Prop} {Q : State → Prop} {H : Heap} {locs : List Loc} {ls : Array Slot} {w0 u : PW} {c0 : va_E} {a : Array Value} {mc ms : Nat} {stk : List Value}
    (hI : InvA n0 sh (w0 ++ [c0]) L st) (hX : SxA M p l s m args meth c dC dI dA as A) (hE : EnX M n0 sh X p l e s m args below meth c dC dI dA as A Q) (hD : DyA s dC dI dA as A H locs sh (w0 ++ [c0])) (hl : lv_has ls (mN M) (emL as L)) (hlen : sh + w0.length + u.length ≤ 998) (hu : 0 < u.length)
    (hr : va_Run p l e (mR M) s m args below meth c H locs k q mc ms (F0 m pc ls stk) (st.map (em as)) (QCA dC dI dA as (sh + w0.length) [c0] u H.size a) (va_A (emWs as dA (sh + w0.length) [c0]) H.size))
    (kk : EvA M n0 sh X (k + mc) (q + ms) (pc + 3) L st (w0 ++ u)) : W p l e (mR M) s m args below meth c H locs k q Q (F0 m pc ls stk) := by
  obtain ⟨hx, hb, hml, hown, hts, hst, hnm, hO, hK, hA, hG⟩ := id hX
  obtain ⟨hP, hDD, hS⟩ := id hD
  have fA := pca_fA hDD hS hA
  have hl1 := len1 sh w0 c0
  have hlu : sh + (w0 ++ u).length = sh + w0.length + u.length := by rw [List.length_append]; omega
  have hatb : (emWs as dA sh (w0 ++ [c0]))[w0.length]? = some (as (w0.length + sh), emE as dA c0) := emWs_get (by rw [List.getElem?_append_right (Nat.le_refl _), Nat.sub_self]; rfl)
  have hat0 : ∀ (i : Nat) (x : Nat × va_E), (emWs as dA sh w0)[i]? = some x → (emWs as dA sh (w0 ++ [c0]))[i]? = some x ∧ i < w0.length := fun i x hx => by
    have hil : i < (emWs as dA sh w0).length := (List.getElem?_eq_some_iff.mp hx).1
    refine ⟨by rw [emWs_app, List.getElem?_append_left hil]; exact hx, by simpa [emWs] using hil⟩
  have hap : ∀ (i : Nat) (x : Nat × va_E), (emWs as dA sh w0)[i]? = some x → x.1 < H.size ∧ ¬ va_A (emWs as dA (sh + w0.length) [c0]) H.size x.1 := fun i x hx => by
    obtain ⟨h1, h2⟩ := hat0 i x hx
    have hlt := (hP i x h1).lt
    refine ⟨hlt, fun h => ?_⟩
    rcases h with ⟨j, e', h⟩ | h
    · obtain ⟨e2, g1, g2⟩ := emWs_inv h
      have hj : j = 0 := by have := (List.getElem?_eq_some_iff.mp g1).1; simp at this; omega
      subst hj
      have := hDD.1 i w0.length _ _ h1 hatb (by rw [(Prod.mk.inj g2).1, Nat.zero_add, Nat.add_comm sh])
      omega
    · omega
  refine va_callv hr hS (fun q _ h => fA q h) fA (fun as1 t H1 locs1 a1 a2 a3 a4 a5 a6 a7 => ?_)
  obtain ⟨hag, hRu⟩ := a3
  obtain ⟨hP1, hD1⟩ := a4
  rw [a1] at hP1
  have hag : Ag (sh + w0.length + 1) as as1 := hag
  have hR0 : RfW (sh + w0.length + 1) w0 := fun x hx => by have := hI.2.2.1 x (List.mem_append_left _ hx); rw [hl1] at this; exact this
  have hRL : RfL (sh + w0.length + 1) L := by have := hI.2.2.2.1; rw [hl1] at this; exact this
  have hRS : RfS (sh + w0.length + 1) st := by have := hI.2.2.2.2; rw [hl1] at this; exact this
  have hle : sh + w0.length + 1 ≤ sh + (w0 ++ u).length := by omega
  have hn0 : n0 ≤ sh + w0.length + 1 := by have := hI.1; omega
  have e0 : emWs as1 dA sh w0 = emWs as dA sh w0 := emWs_ag hag (by omega) hR0
  have hI' : InvA n0 sh (w0 ++ u) L st := by
    refine ⟨by omega, by omega, fun x hx => ?_, fun x hx => (hRL x hx).up hle, fun x hx => (hRS x hx).up hle⟩
    rcases List.mem_append.mp hx with hx | hx
    · exact (hR0 x hx).up hle
    · rw [hlu]; exact hRu x hx
  have r := kk hI' p l e s m args below meth c dC dI dA as1 A Q H1 locs1 ls (hX.ag (fun j hj => hag j (Or.inr hj))) (fun as2 h2 => hE as2 (fun j hj => (h2 j hj).trans (hag j (hj.imp (fun z => Nat.lt_of_lt_of_le z hn0) id)))) ⟨?_, ?_, a7⟩ (by rw [emL_ag hag hRL]; exact hl)
  · rw [emS_ag hag hRS] at r
    exact r
  · rw [emWs_app, e0]
    exact va_P.app (fun i x hx => (hP i x (hat0 i x hx).1).kept (a6 _ (hap i x hx).1 (hap i x hx).2)) hP1
  · rw [emWs_app, e0]
    refine va_D.app ⟨fun i j x y hi hj hxy => hDD.1 i j x y (hat0 i x hi).1 (hat0 j y hj).1 hxy, fun i x hi => hDD.2 i x (hat0 i x hi).1⟩ (hD1.weaken (fun _ _ _ h => fA _ h)) (fun i j x y hi hj hxy => ?_)
    exact (hap i x hi).2 (by rw [hxy]; exact hD1.2 j y hj)
theorem ea_init {idx b : Nat} {w0 u w' : PW} {c0 : va_E} (hb0 : b = sh + w0.length) (hc : CtA M' b [c0] u) (hF : MFI M') (hlw : Cond.methodLink (mY M).cls idx (mY M') ∈ Gw) (hR : (mR M').frames + 1 ≤ (mR M).frames ∧ 8 + (mN M' + 11) + (mR M').locals ≤ (mR M).locals) (hR2 : k + (mR M').cells ≤ (mR M).cells ∧ q + (mR M').slots ≤ (mR M).slots) (hs : stB st = true) (hlen : b + u.length ≤ 998) (hu : 0 < u.length) (hw : w = w0 ++ [c0]) (hw' : w0 ++ u = w') (d : decode (mC M) pc = .ok (.invokespecial idx, 3)) (kk : EvA M n0 sh X (k + (mR M').cells) (q + (mR M').slots) (pc + 3) L st w') : EvA M n0 sh X k q pc L (.ref b :: st) w := by
  intro hI p l e s m args below meth c dC dI dA as A Q H locs ls hX hE hD hl
  obtain ⟨hx, hb, hml, hown, hts, hst, hnm, hO, hK, hA, hG⟩ := id hX
  obtain ⟨f1, f2, f3, f4, f5, f6, f7, f8, f9⟩ := id hF
  subst hw; subst hw'; subst hb0
  have hW : hdW M' = Cond.code (mY M') (mC M') (mN M') none := by unfold hdW; rw [if_pos f8, f9]
  refine ea_called hI.pop hX hE hD hl hlen hu (va_runI (As := []) (n := 0) ⟨hx, hb, hml, hown, hts⟩ (hc l hst dC dI dA as H.size) (cwI 0 hts (gin_hd f1) (by rw [hW]) rfl rfl (hts _ f2) (hts _ hlw) (hts _ f7) f6 ⟨f3.1, f3.2, f4⟩ hR) ⟨pca_blind _ _ _ _ _ _ _ _, fun U hU hWm => ⟨rfl, pca_at hX hD hU hWm⟩⟩ rfl rfl hl.1 rfl (lv_room (by rw [cat_map]; exact Nat.le_of_ble_eq_true hs)) d hR2) kk
/-- .. of a nest mate's -/
theorem ea_initN {idx b : Nat} {host : String} {w0 u w' : PW} {c0 : va_E} (hb0 : b = sh + w0.length) (hc : CtA M' b [c0] u) (hF : MFI M') (hnw : ∀ as A U H, GX as A U H → va_Nw (.methodLinkNest (mY M).cls idx (mY M') host) U) (hR : (mR M').frames + 1 ≤ (mR M).frames ∧ 8 + (mN M' + 11) + (mR M').locals ≤ (mR M).locals) (hR2 : k + (mR M').cells ≤ (mR M).cells ∧ q + (mR M').slots ≤ (mR M).slots) (hs : stB st = true) (hlen : b + u.length ≤ 998) (hu : 0 < u.length) (hw : w = w0 ++ [c0]) (hw' : w0 ++ u = w') (d : decode (mC M) pc = .ok (.invokespecial idx, 3)) (kk : EvA M n0 sh X (k + (mR M').cells) (q + (mR M').slots) (pc + 3) L st w') : EvA M n0 sh X k q pc L (.ref b :: st) w := by
  intro hI p l e s m args below meth c dC dI dA as A Q H locs ls hX hE hD hl
  obtain ⟨hx, hb, hml, hown, hts, hst, hnm, hO, hK, hA, hG⟩ := id hX
  obtain ⟨f1, f2, f3, f4, f5, f6, f7, f8, f9⟩ := id hF
  subst hw; subst hw'; subst hb0
  have hW : hdW M' = Cond.code (mY M') (mC M') (mN M') none := by unfold hdW; rw [if_pos f8, f9]
  refine ea_called hI.pop hX hE hD hl hlen hu (va_runIN (As := []) (n := 0) (host := host) ⟨hx, hb, hml, hown, hts⟩ (hc l hst dC dI dA as H.size) ⟨va_cnB 0 hts (gin_hd f1) (by rw [hW]) rfl rfl (hnw _ _ _ _ hG) (hts _ f2) ⟨f3.1, f3.2, f4⟩ hR, f6, hts _ f7⟩ ⟨pca_blind _ _ _ _ _ _ _ _, fun U hU hWm => ⟨rfl, pca_at hX hD hU hWm⟩⟩ rfl rfl hl.1 rfl (lv_room (by rw [cat_map]; exact Nat.le_of_ble_eq_true hs)) d hR2) kk
end EB
