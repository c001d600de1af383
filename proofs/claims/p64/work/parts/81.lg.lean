/-! ===== the law: what its first rows make, and the world of its loop ===== -/
theorem inv0 : INV σ0 := by
  refine ⟨⟨fun k hk => ⟨100, by omega, by omega, (by decide +kernel : ∀ k, k < 6 → σ0 k = nI 100) k hk⟩, fun k hk => ⟨20, by omega, (by decide +kernel : ∀ k, k < 6 → σ0 (6 + k) = nI 20) k hk⟩, ⟨0, by omega, by decide +kernel⟩, ⟨5, by omega, by decide +kernel⟩, ⟨10, by omega, by decide +kernel⟩, ⟨6, by omega, by omega, by decide +kernel⟩⟩, fun c hc => ?_⟩
  have h : ∀ c, c < 8 → (∀ k, k < 10 → σ0 (ix c k) = nI 0) ∧ isC σ0 c = true := by decide +kernel
  obtain ⟨h1, h2⟩ := h c hc
  exact ⟨⟨fun k hk => ⟨0, by omega, h1 k (by omega)⟩, ⟨0, by omega, h1 6 (by omega)⟩, Or.inl (h1 9 (by omega))⟩, 0, 0, by omega, h1 8 (by omega), h1 7 (by omega), Or.inl ⟨rfl, h2, by omega⟩⟩
abbrev k0 : Nat → Int32 := fun _ => nI 0
def s00 : PS := (some 0, 0, nI 0, nI 0, 0, 0)
def w00 : PW := hv P9 (tE 0 s00) k0 k0 k0 k0 (rN (fun _ => 0)) 0 3 (fun k => 4 + k) k0 σ0 (fun _ => σ0) []
theorem sw00 : SW σ0 w00 := by
  refine ⟨tE 0 s00, k0, k0, k0, k0, fun _ => 0, 0, 3, fun k => 4 + k, k0, fun _ => σ0, rfl, fun _ => Nat.zero_lt_succ _, by omega, ⟨by omega, by omega, fun k hk => ?_, fun j k hj hk => ?_⟩⟩
  · show 2 < 4 + k ∧ 4 + k < 10 ∧ 4 + k ≠ 3
    omega
  · show 4 + j ≠ 4 + k
    omega
theorem as00 : AS 0 σ0 := ⟨by unfold ACC; decide +kernel, fun k hk => ⟨0, Nat.le_refl _, (by decide +kernel : ∀ k, k < 6 → σ0 (12 + k) = nI 0) k hk⟩⟩
def f7A : Nat → Option Nat := va_up (va_up q0 0 (some 28)) 1 (some 37)
def f9A : Nat → Option Nat := va_up (va_up (va_up (va_up (va_up (va_up q0 0 (some 46)) 1 (some 55)) 2 (some 64)) 3 (some 73)) 4 (some 82)) 5 (some 91)
def w3g (f7 f9 : Nat → Option Nat) (g : PW) : PW := h3 [.ref 1, .ref 3, .ref 6, .ref 7, .ref 8, .ref 9, .int (nI 0), .ref 10, .ref 19] f7 f9 (ldg [10, 19, 28, 37, 46, 55, 64, 73, 82, 91] g)
def wA : PW := w3g f7A f9A []
theorem lw_pre {nm : String} {HT : List (Nat × Nat × Nat × Nat)} {LL : Nat} {xs : Nat → Int32} : EvA (mLw nm HT LL xs) 0 0 (10, [(2, .int (nI 0)), (1, .ref 0), (0, .ref 999)], [], wA, 500, 3000) 0 0 0 [(0, .ref 999)] [] [] := by
  refine ea_nw (w' := [.inr (3, [.null, .null, .null, .null, .null, .null, .int (nI 0), .null, .null])]) [.null, .null, .null, .null, .null, .null, .int (nI 0), .null, .null] 0 rfl (by decide) dL_law_0 cf3 g16 g17 g4 (by decide +kernel) rfl ⟨(Nat.le_of_ble_eq_true rfl), (Nat.le_of_ble_eq_true rfl)⟩ rfl ?_
  refine ea_dup dL_law_3 rfl ?_
  refine ea_init (w0 := []) (w' := w3g f7A f9A []) rfl aX3_init jX3_init g18 ⟨(Nat.le_of_ble_eq_true rfl), (Nat.le_of_ble_eq_true rfl)⟩ ⟨(Nat.le_of_ble_eq_true rfl), (Nat.le_of_ble_eq_true rfl)⟩ rfl (by decide) (by decide) rfl rfl dL_law_4 ?_
  refine ea_astore_n 1 dL_law_7 rfl (Nat.le_of_ble_eq_true rfl) (L' := [(1, .ref 0), (0, .ref 999)]) rfl ?_
  refine ea_iconst (nI 0) dL_law_8 rfl ?_
  refine ea_istore_n 2 dL_law_9 rfl (Nat.le_of_ble_eq_true rfl) (L' := [(2, .int (nI 0)), (1, .ref 0), (0, .ref 999)]) rfl ?_
  exact ea_exit (Nat.le_of_ble_eq_true rfl) (Nat.le_of_ble_eq_true rfl)
/-- the loop's places among the first rows'; the first seven are holes -/
def πL : List Nat := [900, 901, 902, 903, 904, 905, 906, 0, 1, 2, 3, 4, 5, 6, 9, 7, 8, 10, 11, 12, 13, 14, 15, 16, 17, 18, 28, 29, 30, 31, 32, 33, 34, 35, 36, 37, 38, 39, 40, 41, 42, 43, 44, 45, 19, 20, 21, 22, 23, 24, 25, 26, 27, 46, 47, 48, 49, 50, 51, 52, 53, 54, 55, 56, 57, 58, 59, 60, 61, 62, 63, 64, 65, 66, 67, 68, 69, 70, 71, 72, 73, 74, 75, 76, 77, 78, 79, 80, 81, 82, 83, 84, 85, 86, 87, 88, 89, 90, 91, 92, 93, 94, 95, 96, 97, 98, 99]
def πF (j : Nat) : Nat := if j < 107 then πL.getD j 0 else j
theorem em_c (as π : Nat → Nat) (v : Value) : em as (em π v) = em (fun j => as (π j)) v := by cases v <;> rfl
theorem emE_c (as π dA : Nat → Nat) (e : va_E) : emE as dA (emE π (fun t => t) e) = emE (fun j => as (π j)) dA e := by
  rcases e with ⟨t, m, f | f | f | f | f⟩ | ⟨c, fs⟩
  · rfl
  · rfl
  · rfl
  · rfl
  · have : (fun k => ((f k).map π).map as) = (fun k => (f k).map (fun j => as (π j))) := by
      funext k
      cases f k <;> rfl
    show (Sum.inl (dA t, (m, Sum.inr (Sum.inr (Sum.inr (Sum.inr (fun k => ((f k).map π).map as)))))) : va_E) = Sum.inl (dA t, (m, Sum.inr (Sum.inr (Sum.inr (Sum.inr (fun k => (f k).map (fun j => as (π j))))))))
    rw [this]
  · show (Sum.inr (c, (fs.map (em π)).map (em as)) : va_E) = Sum.inr (c, fs.map (em (fun j => as (π j))))
    rw [List.map_map]
    exact congrArg (fun z => (Sum.inr (c, z) : va_E)) (List.map_congr_left (fun v _ => em_c as π v))
abbrev f7B : Nat → Option Nat := fun k => (if k < 2 then some (17 + 9 * (k + 1)) else none).map πF
abbrev f9B : Nat → Option Nat := fun k => (if k < 6 then some (17 + 9 * (4 + k)) else none).map πF
theorem f7_e : f7A = f7B := by
  funext k
  match k with
  | 0 => rfl
  | 1 => rfl
  | k + 2 =>
    unfold f7A f7B
    rw [if_neg (by omega), va_up_ne _ _ (by omega), va_up_ne _ _ (by omega)]
    rfl
theorem f9_e : f9A = f9B := by
  funext k
  match k with
  | 0 => rfl
  | 1 => rfl
  | 2 => rfl
  | 3 => rfl
  | 4 => rfl
  | 5 => rfl
  | k + 6 =>
    unfold f9A f9B
    rw [if_neg (by omega), va_up_ne _ _ (by omega), va_up_ne _ _ (by omega), va_up_ne _ _ (by omega), va_up_ne _ _ (by omega), va_up_ne _ _ (by omega), va_up_ne _ _ (by omega)]
    rfl
set_option maxRecDepth 100000 in
set_option maxHeartbeats 4000000 in
theorem perm_B : (w00.drop 7).map (fun e => some (emE πF (fun t => t) e)) = (πL.drop 7).map (fun i => (w3g f7B f9B [])[i]?) := rfl
theorem w00_h {k : Nat} {e : va_E} (h : w00[k]? = some e) (hh : isH e = false) : 7 ≤ k := by
  rcases Nat.lt_or_ge k 7 with y | y
  · exfalso
    have e1 : w00[k]? = some (.inr (999, [])) := by
      rcases (show k = 0 ∨ k = 1 ∨ k = 2 ∨ k = 3 ∨ k = 4 ∨ k = 5 ∨ k = 6 by omega) with rfl | rfl | rfl | rfl | rfl | rfl | rfl <;> rfl
    rw [e1] at h
    cases h
    cases hh
  · exact y
theorem perm_at {k : Nat} {e : va_E} (h : w00[k]? = some e) (hk7 : 7 ≤ k) : πL[k]? = some (πF k) ∧ wA[πF k]? = some (emE πF (fun t => t) e) := by
  have e0 : (w00.drop 7)[k - 7]? = some e := by rw [List.getElem?_drop, show 7 + (k - 7) = k by omega]; exact h
  have e1 : ((w00.drop 7).map (fun e => some (emE πF (fun t => t) e)))[k - 7]? = some (some (emE πF (fun t => t) e)) := by rw [List.getElem?_map, e0]; rfl
  rw [perm_B, List.getElem?_map] at e1
  cases hi : (πL.drop 7)[k - 7]? with
  | none => rw [hi] at e1; cases e1
  | some i =>
    rw [hi] at e1
    have hi' : πL[k]? = some i := by rw [List.getElem?_drop, show 7 + (k - 7) = k by omega] at hi; exact hi
    have hk : k < 107 := (List.getElem?_eq_some_iff.mp hi').1
    have hp : πF k = i := by
      unfold πF
      rw [if_pos hk, List.getD_eq_getElem?_getD, hi']; rfl
    rw [hp]
    refine ⟨hi', ?_⟩
    unfold wA
    rw [f7_e, f9_e]
    exact Option.some.inj e1
theorem perm_P {D : va_G} {cl : List vw_C} {as dA : Nat → Nat} {H : Heap} (h : va_P D cl (emWs as dA 0 wA) H) : va_P D cl (emW (fun j => as (πF j)) dA w00) H := by
  intro j x hx
  obtain ⟨k, e, h1, hh, h2, -⟩ := emW_inv hx
  obtain ⟨-, h3⟩ := perm_at h1 (w00_h h1 hh)
  have h4 := h _ _ (emWs_get h3)
  rw [emE_c] at h4
  rw [h2]
  exact h4
theorem perm_D {A : Nat → Prop} {as dA : Nat → Nat} (h : va_D A (emWs as dA 0 wA)) : va_D A (emW (fun j => as (πF j)) dA w00) := by
  have key : ∀ (j : Nat) (x : Nat × va_E), (emW (fun j => as (πF j)) dA w00)[j]? = some x → ∃ k, πL[k]? = some (πF k) ∧ (emWs as dA 0 wA)[πF k]? = some x ∧ j = nH w00 k := fun j x hx => by
    obtain ⟨k, e, h1, hh, h2, hj⟩ := emW_inv hx
    obtain ⟨h0, h3⟩ := perm_at h1 (w00_h h1 hh)
    have h4 := emWs_get (as := as) (dA := dA) (sh := 0) h3
    rw [emE_c] at h4
    rw [h2]
    exact ⟨k, h0, h4, hj⟩
  refine ⟨fun i j x y hi hj hxy => ?_, fun j x hx => ?_⟩
  · obtain ⟨ka, a1, a2, a3⟩ := key i x hi
    obtain ⟨kb, b1, b2, b3⟩ := key j y hj
    have e := h.1 _ _ x y a2 b2 hxy
    rw [← e] at b1
    have hk := va_nd_inj πL (by decide +kernel) ka kb _ a1 b1
    rw [a3, b3, hk]
  · obtain ⟨k, -, k2, -⟩ := key j x hx
    exact h.2 _ x k2
