/-! ===== the law: what its first rows make, and the world of its loop ===== -/
theorem inv0 : INV σ0 := by
  refine ⟨⟨fun k hk => ⟨100, by omega, by omega, (by decide +kernel : ∀ k, k < 6 → σ0 k = nI 100) k hk⟩, fun k hk => ⟨20, by omega, (by decide +kernel : ∀ k, k < 6 → σ0 (6 + k) = nI 20) k hk⟩, ⟨0, by omega, by decide +kernel⟩, ⟨5, by omega, by decide +kernel⟩, ⟨10, by omega, by decide +kernel⟩, ⟨6, by omega, by omega, by decide +kernel⟩⟩, fun c hc => ?_⟩
  have h : ∀ c, c < 8 → (∀ k, k < 10 → σ0 (ix c k) = nI 0) ∧ isC σ0 c = true := by decide +kernel
  obtain ⟨h1, h2⟩ := h c hc
  exact ⟨⟨fun k hk => ⟨0, by omega, h1 k (by omega)⟩, ⟨0, by omega, h1 6 (by omega)⟩, Or.inl (h1 9 (by omega))⟩, 0, 0, by omega, h1 8 (by omega), h1 7 (by omega), Or.inl ⟨rfl, h2, by omega⟩⟩
abbrev k0 : Nat → Int32 := fun _ => nI 0
def s00 : PS := (some 0, 0, nI 0, nI 0, 0, 0)
def Y00 : RY := (k0, k0, k0, k0, k0, 0)
def w00 : PW := HW σ0 k0 Y00 (tE 0 s00) k0 k0 k0 k0 (rN (fun _ => 0)) 0 3 (fun k => 4 + k) k0 σ0 (fun _ => σ0) (fun _ => 0)
theorem sr00 : SR w00 := by
  refine ⟨σ0, k0, Y00, 0, s00, k0, k0, k0, k0, fun _ => 0, 0, 3, fun k => 4 + k, k0, fun _ => σ0, fun _ => 0, rfl, inv0, fun _ => Nat.zero_lt_succ _, by omega, ⟨by omega, by omega, fun k hk => ?_, fun j k hj hk => ?_⟩, rfl, rfl, by omega, ⟨fun _ => 0, fun _ => Nat.zero_lt_succ _, fun k hk => by omega⟩, fun k hk => by omega, fun q hq => ⟨rfl, Or.inl rfl⟩⟩
  · show 2 < 4 + k ∧ 4 + k < 10 ∧ 4 + k ≠ 3
    omega
  · show 4 + j ≠ 4 + k
    omega
section LD
variable {M : MT} {n0 sh : Nat} {X : XT} {k q pc : Nat} {L : LV} {st : List Value} {w : PW}
theorem ea_nwJ {n : Nat} {w' : PW} (r : Nat) (hr : sh + w.length = r) (hr8 : r < 998) (d : decode (mC M) pc = .ok (.newarray .long, 2)) (hn : Nat.blt n 1000 = true) (hR : k + 1 ≤ (mR M).cells ∧ q + n ≤ (mR M).slots) (hw' : w ++ [.inl (2, n, .inr (.inl (fun _ => 0)))] = w') (kk : EvA M n0 sh X (k + 1) (q + n) (pc + 2) L (.ref r :: st) w') : EvA M n0 sh X k q pc L (.int (nI n) :: st) w := by
  subst hr
  exact ea_newJ d g1618 (Nat.le_of_ble_eq_true hn) hR hr8 hw' kk
end LD
def f7A : Nat → Option Nat := va_up (va_up q0 0 (some 28)) 1 (some 37)
def f9A : Nat → Option Nat := va_up (va_up (va_up (va_up (va_up (va_up q0 0 (some 46)) 1 (some 55)) 2 (some 64)) 3 (some 73)) 4 (some 82)) 5 (some 91)
def w3g (f7 f9 : Nat → Option Nat) (g : PW) : PW := h3 [.ref 1, .ref 3, .ref 6, .ref 7, .ref 8, .ref 9, .int (nI 0), .ref 10, .ref 19] f7 f9 (ldg [10, 19, 28, 37, 46, 55, 64, 73, 82, 91] g)
def bx0 : va_E := .inl (2, 1, .inr (.inl (fun _ => 0)))
def wA : PW := w3g f7A f9A (m4 100 σ0 ++ [bx0])
theorem lw_pre {nm : String} {HT : List (Nat × Nat × Nat × Nat)} {LL : Nat} {xs : Nat → Int32} : EvA (mLw nm HT LL xs) 0 0 (23, [(4, .int (nI 0)), (3, .ref 107), (2, .ref 100), (1, .ref 0), (0, .ref 999)], [], wA, 500, 3000) 0 0 0 [(0, .ref 999)] [] [] := by
  refine ea_nw (w' := [.inr (3, [.null, .null, .null, .null, .null, .null, .int (nI 0), .null, .null])]) [.null, .null, .null, .null, .null, .null, .int (nI 0), .null, .null] 0 rfl (by decide) dL_law_0 cf3 g77 g78 g60 (by decide +kernel) rfl ⟨(Nat.le_of_ble_eq_true rfl), (Nat.le_of_ble_eq_true rfl)⟩ rfl ?_
  refine ea_dup dL_law_3 rfl ?_
  refine ea_init (w0 := []) (w' := w3g f7A f9A []) rfl aX3_init jX3_init g79 ⟨(Nat.le_of_ble_eq_true rfl), (Nat.le_of_ble_eq_true rfl)⟩ ⟨(Nat.le_of_ble_eq_true rfl), (Nat.le_of_ble_eq_true rfl)⟩ rfl (by decide) (by decide) rfl rfl dL_law_4 ?_
  refine ea_astore_n 1 dL_law_7 rfl (Nat.le_of_ble_eq_true rfl) (L' := [(1, .ref 0), (0, .ref 999)]) rfl ?_
  refine ea_nw (w' := w3g f7A f9A [.inr (4, [.null, .null, .int (nI 0), .null, .null, .null, .null, .int (nI 0), .int (nI 0), .int (nI 0), .int (nI 0), .long 0])]) [.null, .null, .int (nI 0), .null, .null, .null, .null, .int (nI 0), .int (nI 0), .int (nI 0), .int (nI 0), .long 0] 100 rfl (by decide) dL_law_8 cf4 g1111 g1112 g65 (by decide +kernel) rfl ⟨(Nat.le_of_ble_eq_true rfl), (Nat.le_of_ble_eq_true rfl)⟩ rfl ?_
  refine ea_dup dL_law_11 rfl ?_
  refine ea_init (w0 := w3g f7A f9A []) (w' := w3g f7A f9A (m4 100 σ0)) rfl (aX4_init 100 (by decide)) jX4_init g1113 ⟨(Nat.le_of_ble_eq_true rfl), (Nat.le_of_ble_eq_true rfl)⟩ ⟨(Nat.le_of_ble_eq_true rfl), (Nat.le_of_ble_eq_true rfl)⟩ rfl (by decide) (by decide) rfl rfl dL_law_12 ?_
  refine ea_astore_n 2 dL_law_15 rfl (Nat.le_of_ble_eq_true rfl) (L' := [(2, .ref 100), (1, .ref 0), (0, .ref 999)]) rfl ?_
  refine ea_iconst (nI 1) dL_law_16 rfl ?_
  refine ea_nwJ (w' := wA) 107 rfl (by decide) dL_law_17 rfl ⟨(Nat.le_of_ble_eq_true rfl), (Nat.le_of_ble_eq_true rfl)⟩ rfl ?_
  refine ea_astore_n 3 dL_law_19 rfl (Nat.le_of_ble_eq_true rfl) (L' := [(3, .ref 107), (2, .ref 100), (1, .ref 0), (0, .ref 999)]) rfl ?_
  refine ea_iconst (nI 0) dL_law_20 rfl ?_
  refine ea_istore dL_law_21 (Nat.le_of_ble_eq_true rfl) (L' := [(4, .int (nI 0)), (3, .ref 107), (2, .ref 100), (1, .ref 0), (0, .ref 999)]) rfl ?_
  exact ea_exit (Nat.le_of_ble_eq_true rfl) (Nat.le_of_ble_eq_true rfl)
/-- the loop's places among the first rows' -/
def πL : List Nat := [100, 101, 102, 103, 104, 105, 106, 0, 1, 2, 3, 4, 5, 6, 9, 7, 8, 10, 11, 12, 13, 14, 15, 16, 17, 18, 28, 29, 30, 31, 32, 33, 34, 35, 36, 37, 38, 39, 40, 41, 42, 43, 44, 45, 19, 20, 21, 22, 23, 24, 25, 26, 27, 46, 47, 48, 49, 50, 51, 52, 53, 54, 55, 56, 57, 58, 59, 60, 61, 62, 63, 64, 65, 66, 67, 68, 69, 70, 71, 72, 73, 74, 75, 76, 77, 78, 79, 80, 81, 82, 83, 84, 85, 86, 87, 88, 89, 90, 91, 92, 93, 94, 95, 96, 97, 98, 99, 107]
def πF (j : Nat) : Nat := if j < 108 then πL.getD j 0 else j
theorem em_c (as π : Nat → Nat) (v : Value) : em as (em π v) = em (fun j => as (π j)) v := by cases v <;> rfl
theorem emE_c (as π dA : Nat → Nat) (e : va_E) : emE as dA (emE π (fun t => t) e) = emE (fun j => as (π j)) dA e := by
  rcases e with ⟨t, m, f | f | f | f | f⟩ | ⟨c, fs⟩
  · rfl
  · rfl
  · rfl
  · rfl
  · have : (fun k => ((f k).map π).map as) = (fun k => (f k).map (fun j => as (π j))) := by
      funext k
      cases f k <;> rfl
    show (Sum.inl (dA t, (m, Sum.inr (Sum.inr (Sum.inr (Sum.inr (fun k => ((f k).map π).map as)))))) : va_E) = Sum.inl (dA t, (m, Sum.inr (Sum.inr (Sum.inr (Sum.inr (fun k => (f k).map (fun j => as (π j))))))))
    rw [this]
  · show (Sum.inr (c, (fs.map (em π)).map (em as)) : va_E) = Sum.inr (c, fs.map (em (fun j => as (π j))))
    rw [List.map_map]
    exact congrArg (fun z => (Sum.inr (c, z) : va_E)) (List.map_congr_left (fun v _ => em_c as π v))
abbrev f7B : Nat → Option Nat := fun k => (if k < 2 then some (17 + 9 * (k + 1)) else none).map πF
abbrev f9B : Nat → Option Nat := fun k => (if k < 6 then some (17 + 9 * (4 + k)) else none).map πF
theorem f7_e : f7A = f7B := by
  funext k
  match k with
  | 0 => rfl
  | 1 => rfl
  | k + 2 =>
    unfold f7A f7B
    rw [if_neg (by omega), va_up_ne _ _ (by omega), va_up_ne _ _ (by omega)]
    rfl
theorem f9_e : f9A = f9B := by
  funext k
  match k with
  | 0 => rfl
  | 1 => rfl
  | 2 => rfl
  | 3 => rfl
  | 4 => rfl
  | 5 => rfl
  | k + 6 =>
    unfold f9A f9B
    rw [if_neg (by omega), va_up_ne _ _ (by omega), va_up_ne _ _ (by omega), va_up_ne _ _ (by omega), va_up_ne _ _ (by omega), va_up_ne _ _ (by omega), va_up_ne _ _ (by omega)]
    rfl
set_option maxRecDepth 100000 in
set_option maxHeartbeats 4000000 in
theorem perm_B : w00.map (fun e => some (emE πF (fun t => t) e)) = πL.map (fun i => (w3g f7B f9B (m4 100 σ0 ++ [bx0]))[i]?) := rfl
theorem perm_at {k : Nat} {e : va_E} (h : w00[k]? = some e) : πL[k]? = some (πF k) ∧ wA[πF k]? = some (emE πF (fun t => t) e) := by
  have e1 : (w00.map (fun e => some (emE πF (fun t => t) e)))[k]? = some (some (emE πF (fun t => t) e)) := by rw [List.getElem?_map, h]; rfl
  rw [perm_B, List.getElem?_map] at e1
  cases hi : πL[k]? with
  | none => rw [hi] at e1; cases e1
  | some i =>
    rw [hi] at e1
    have hk : k < 108 := (List.getElem?_eq_some_iff.mp hi).1
    have hp : πF k = i := by
      unfold πF
      rw [if_pos hk, List.getD_eq_getElem?_getD, hi]; rfl
    rw [hp]
    refine ⟨rfl, ?_⟩
    unfold wA
    rw [f7_e, f9_e]
    exact Option.some.inj e1
theorem perm_P {D : va_G} {cl : List vw_C} {as dA : Nat → Nat} {H : Heap} (h : va_P D cl (emWs as dA 0 wA) H) : va_P D cl (emW (fun j => as (πF j)) dA w00) H := by
  intro k x hx
  obtain ⟨e, h1, h2⟩ := emWs_inv (sh := 0) (as := fun j => as (πF j)) (dA := dA) (w := w00) hx
  obtain ⟨-, h3⟩ := perm_at h1
  have h4 := h _ _ (emWs_get h3)
  rw [emE_c] at h4
  rw [h2]
  exact h4
theorem perm_D {A : Nat → Prop} {as dA : Nat → Nat} (h : va_D A (emWs as dA 0 wA)) : va_D A (emW (fun j => as (πF j)) dA w00) := by
  have key : ∀ (k : Nat) (x : Nat × va_E), (emW (fun j => as (πF j)) dA w00)[k]? = some x → πL[k]? = some (πF k) ∧ (emWs as dA 0 wA)[πF k]? = some x := fun k x hx => by
    obtain ⟨e, h1, h2⟩ := emWs_inv (sh := 0) (as := fun j => as (πF j)) (dA := dA) (w := w00) hx
    obtain ⟨h0, h3⟩ := perm_at h1
    have h4 := emWs_get (as := as) (dA := dA) (sh := 0) h3
    rw [emE_c] at h4
    rw [h2]
    exact ⟨h0, h4⟩
  refine ⟨fun i j x y hi hj hxy => ?_, fun k x hx => h.2 _ x (key k x hx).2⟩
  obtain ⟨a1, a2⟩ := key i x hi
  obtain ⟨b1, b2⟩ := key j y hj
  have e := h.1 _ _ x y a2 b2 hxy
  rw [← e] at b1
  exact va_nd_inj πL (by decide +kernel) i j _ a1 b1
