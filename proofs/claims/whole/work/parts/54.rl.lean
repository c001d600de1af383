/-! ===== class and reference side by side: the states ===== -/
def rP (σ z : Nat → Int32) (Y : RY) : Nat → va_E
  | 0 => .inr (4, [.ref 1, .ref 2, .int (z 0), .ref 3, .ref 4, .ref 5, .ref 6, .int (z 1), .int (z 2), .int (z 3), .int (z 4), .long Y.2.2.2.2.2])
  | 1 => .inl (0, 109, .inl (tr 109 σ))
  | 2 => .inl (0, 654, .inl (tr 654 Y.1))
  | 3 => .inl (0, 218, .inl (tr 218 Y.2.1))
  | 4 => .inl (1, 2, .inl (tr 2 Y.2.2.1))
  | 5 => .inl (0, 109, .inl (tr 109 Y.2.2.2.1))
  | 6 => .inl (0, 60, .inl (tr 60 Y.2.2.2.2.1))
  | _ => .inl (0, 0, .inl (fun _ => 0))
/-- the world: the reference's cells, the house's, the box -/
abbrev HW (σ z : Nat → Int32) (Y : RY) (t cs sl pl ks rr : Nat → Int32) (n b : Nat) (sv : Nat → Nat) (sf τ : Nat → Int32) (T : Nat → Nat → Int32) (fo : Nat → Int64) : PW := hv (rP σ z Y) t cs sl pl ks rr n b sv sf τ T [oc fo]
/-- the cells behind the reference's -/
def h7 (t cs sl pl ks rr : Nat → Int32) (n b : Nat) (sv : Nat → Nat) (sf τ : Nat → Int32) (T : Nat → Nat → Int32) (fo : Nat → Int64) : PW := (hv (fun _ => .inl (0, 0, .inl (fun _ => 0))) t cs sl pl ks rr n b sv sf τ T [oc fo]).drop 7
theorem hv_rw (σ z : Nat → Int32) (Y : RY) (t cs sl pl ks rr : Nat → Int32) (n b : Nat) (sv : Nat → Nat) (sf τ : Nat → Int32) (T : Nat → Nat → Int32) (fo : Nat → Int64) : HW σ z Y t cs sl pl ks rr n b sv sf τ T fo = rw9 σ z Y (h7 t cs sl pl ks rr n b sv sf τ T fo) := rfl
theorem hw_o (σ z : Nat → Int32) (Y : RY) (t cs sl pl ks rr : Nat → Int32) (n b : Nat) (sv : Nat → Nat) (sf τ : Nat → Int32) (T : Nat → Nat → Int32) (fo : Nat → Int64) : (HW σ z Y t cs sl pl ks rr n b sv sf τ T fo)[107]? = some (oc fo) := rfl
theorem hw_os (σ z : Nat → Int32) (Y : RY) (t cs sl pl ks rr : Nat → Int32) (n b : Nat) (sv : Nat → Nat) (sf τ : Nat → Int32) (T : Nat → Nat → Int32) (fo fo' : Nat → Int64) : (HW σ z Y t cs sl pl ks rr n b sv sf τ T fo).set 107 (oc fo') = HW σ z Y t cs sl pl ks rr n b sv sf τ T fo' := rfl
theorem hw_7 (σ z : Nat → Int32) (Y : RY) (t cs sl pl ks rr : Nat → Int32) (n b : Nat) (sv : Nat → Nat) (sf τ : Nat → Int32) (T : Nat → Nat → Int32) (fo : Nat → Int64) : (HW σ z Y t cs sl pl ks rr n b sv sf τ T fo)[7]? = some (.inr (3, [.ref 8, .ref 10, .ref 13, .ref 15, .ref 16, .ref 14, .int (nI n), .ref 17, .ref (17 + 9 * b)])) := rfl
theorem hw_0 (σ z : Nat → Int32) (Y : RY) (t cs sl pl ks rr : Nat → Int32) (n b : Nat) (sv : Nat → Nat) (sf τ : Nat → Int32) (T : Nat → Nat → Int32) (fo : Nat → Int64) : (HW σ z Y t cs sl pl ks rr n b sv sf τ T fo)[0]? = some (rP σ z Y 0) := rfl
/-- the ledgers' rows, told apart -/
theorem hv_ext {P : Nat → va_E} {t cs sl pl ks rr : Nat → Int32} {n b : Nat} {sv : Nat → Nat} {sf τ τ' : Nat → Int32} {T : Nat → Nat → Int32} {g : PW} (h : ∀ i, i < 109 → τ i = τ' i) : hv P t cs sl pl ks rr n b sv sf τ T g = hv P t cs sl pl ks rr n b sv sf τ' T g := by
  show nw _ sl pl ks rr τ _ = nw _ sl pl ks rr τ' _
  unfold nw
  rw [ledC_ext h]
theorem rP_ext {σ σ' z : Nat → Int32} {Y : RY} (h : ∀ i, i < 109 → σ i = σ' i) : rP σ z Y = rP σ' z Y := by
  funext k
  match k with
  | 0 => rfl
  | 1 => show (Sum.inl (0, 109, Sum.inl (tr 109 σ)) : va_E) = Sum.inl (0, 109, Sum.inl (tr 109 σ')); rw [tr_ext h]
  | 2 => rfl
  | 3 => rfl
  | 4 => rfl
  | 5 => rfl
  | 6 => rfl
  | _ + 7 => rfl
/-- what holds between the reference's state and the class's -/
def RR (σ z : Nat → Int32) (Y : RY) (ℓ : Nat) (cs : Nat → Int32) (ρ : Nat → Nat) (n b : Nat) (sv : Nat → Nat) (sf : Nat → Int32) (T : Nat → Nat → Int32) : Prop :=
  INV σ ∧ R8 ρ ∧ n ≤ 6 ∧ PM b sv ∧ z 0 = nI n ∧ z 1 = nI ℓ ∧ ℓ ≤ 60 ∧
  (∃ bc : Nat → Nat, (∀ k, bc k < 128) ∧ ∀ k, k < ℓ → cs k = nI (bc k) ∧ Y.2.2.2.2.1 k = nI (bc k)) ∧
  (∀ k, k < n → INV (T (sv k)) ∧ ∀ i, i < 109 → Y.1 (109 * k + i) = T (sv k) i) ∧
  (∀ q, q < 2 → sf q = Y.2.2.1 q ∧ (sf q = 0 ∨ (sf q = 1 ∧ INV (T (q + 1)) ∧ ∀ i, i < 109 → Y.2.1 (109 * q + i) = T (q + 1) i)))
/-- the law's worlds -/
def SR (w : PW) : Prop := ∃ (σ z : Nat → Int32) (Y : RY) (ℓ : Nat) (s : PS) (cs sl pl ks : Nat → Int32) (ρ : Nat → Nat) (n b : Nat) (sv : Nat → Nat) (sf : Nat → Int32) (T : Nat → Nat → Int32) (fo : Nat → Int64), w = HW σ z Y (tE ℓ s) cs sl pl ks (rN ρ) n b sv sf σ T fo ∧ RR σ z Y ℓ cs ρ n b sv sf T
/-- what the state's rest says may change: the reference's row aside, its last sum, its marks -/
theorem RR_z {σ z z' : Nat → Int32} {Y Y' : RY} {ℓ : Nat} {cs : Nat → Int32} {ρ ρ' : Nat → Nat} {n b : Nat} {sv : Nat → Nat} {sf : Nat → Int32} {T : Nat → Nat → Int32} (h : RR σ z Y ℓ cs ρ n b sv sf T) (h0 : z' 0 = z 0) (h1 : z' 1 = z 1) (hρ : R8 ρ') (y1 : Y'.1 = Y.1) (y2 : Y'.2.1 = Y.2.1) (y3 : Y'.2.2.1 = Y.2.2.1) (y5 : Y'.2.2.2.2.1 = Y.2.2.2.2.1) : RR σ z' Y' ℓ cs ρ' n b sv sf T := by
  obtain ⟨a1, a2, a3, a4, a5, a6, a7, a8, a9, a10⟩ := h
  refine ⟨a1, hρ, a3, a4, h0.trans a5, h1.trans a6, a7, ?_, ?_, ?_⟩
  · rw [y5]; exact a8
  · rw [y1]; exact a9
  · rw [y2, y3]; exact a10
/-- the row that holds the state from before a change is free -/
theorem RR_b {σ z : Nat → Int32} {Y : RY} {ℓ : Nat} {cs : Nat → Int32} {ρ : Nat → Nat} {n b : Nat} {sv : Nat → Nat} {sf : Nat → Int32} {T : Nat → Nat → Int32} (τ : Nat → Int32) (h : RR σ z Y ℓ cs ρ n b sv sf T) : RR σ z Y ℓ cs ρ n b sv sf (updT T b τ) := by
  obtain ⟨a1, a2, a3, a4, a5, a6, a7, a8, a9, a10⟩ := h
  refine ⟨a1, a2, a3, a4, a5, a6, a7, a8, fun k hk => ?_, fun q hq => ?_⟩
  · rw [updT_n T τ (a4.2.2.1 k (by omega)).2.2]; exact a9 k hk
  · rw [updT_n T τ (show q + 1 ≠ b by have := a4.1; omega)]; exact a10 q hq
theorem svB_lt {σ B : Nat → Int32} {n k i : Nat} (hn : n ≤ 6) (hi : i < 109) : (n < 6 → k < n → svB σ B n (109 * k + i) = B (109 * k + i)) ∧ (n < 6 → svB σ B n (109 * n + i) = σ i) ∧ (n = 6 → k < 5 → svB σ B n (109 * k + i) = B (109 * (k + 1) + i)) ∧ (n = 6 → svB σ B n (109 * 5 + i) = σ i) := by
  refine ⟨fun h hk => ?_, fun h => ?_, fun h hk => ?_, fun h => ?_⟩
  · unfold svB; rw [if_pos h, pk_cpy_out (Or.inl (by omega))]
  · unfold svB; rw [if_pos h, pk_cpy_in (by omega) (by omega)]; congr 1; omega
  · unfold svB; rw [if_neg (by omega), pk_cpy_out (Or.inl (by omega)), pk_cpy_in (by omega) (by omega)]; congr 1; omega
  · unfold svB; rw [if_neg (by omega), pk_cpy_in (by omega) (by omega), show 0 + (109 * 5 + i - 545) = i by omega]
/-- behind a save -/
theorem RR_sv {σ σ' z z' : Nat → Int32} {Y : RY} {ℓ : Nat} {cs : Nat → Int32} {ρ : Nat → Nat} {n b : Nat} {sv : Nat → Nat} {sf : Nat → Int32} {T : Nat → Nat → Int32} (h : RR σ z Y ℓ cs ρ n b sv sf T) (hI : INV σ') (h1 : z' 1 = z 1) : RR σ' (svZ z' n) (svY σ Y n) ℓ cs ρ (sN9 n) (sB9 n sv) (sS9 n b sv) sf (updT T b σ) := by
  obtain ⟨a1, a2, a3, a4, a5, a6, a7, a8, a9, a10⟩ := h
  refine ⟨hI, a2, by unfold sN9; split <;> omega, PM_sv a3 a4, (svZ_0 a3).trans (by unfold sN9; rfl), (svZ_n (by decide)).trans (h1.trans a6), a7, a8, fun k hk => ?_, fun q hq => ?_⟩
  · show INV (updT T b σ (sS9 n b sv k)) ∧ ∀ i, i < 109 → svB σ Y.1 n (109 * k + i) = updT T b σ (sS9 n b sv k) i
    by_cases hn : n < 6
    · unfold sN9 at hk
      rw [if_pos hn] at hk
      unfold sS9
      rw [if_pos hn]
      by_cases z : k = n
      · subst z
        unfold updN
        rw [if_pos rfl, updT_s]
        exact ⟨a1, fun i hi => (svB_lt (k := 0) a3 hi).2.1 hn⟩
      · unfold updN
        rw [if_neg z, updT_n T σ (a4.2.2.1 k (by omega)).2.2]
        obtain ⟨b1, b2⟩ := a9 k (by omega)
        exact ⟨b1, fun i hi => ((svB_lt a3 hi).1 hn (by omega)).trans (b2 i hi)⟩
    · have h6 : n = 6 := by omega
      unfold sN9 at hk
      rw [if_neg hn] at hk
      unfold sS9
      rw [if_neg hn]
      by_cases z : k = 5
      · subst z
        unfold updN
        rw [if_pos rfl, updT_s]
        exact ⟨a1, fun i hi => (svB_lt (k := 0) a3 hi).2.2.2 h6⟩
      · unfold updN
        rw [if_neg z]
        unfold shN
        rw [if_pos (by omega), updT_n T σ (a4.2.2.1 (k + 1) (by omega)).2.2]
        obtain ⟨b1, b2⟩ := a9 (k + 1) (by omega)
        exact ⟨b1, fun i hi => ((svB_lt a3 hi).2.2.1 h6 (by omega)).trans (b2 i hi)⟩
  · rw [updT_n T σ (show q + 1 ≠ b by have := a4.1; omega)]; exact a10 q hq
theorem tE_0 (ℓ : Nat) (s : PS) : tE ℓ s 0 = nI ℓ := rfl
theorem tE_u (ℓ m : Nat) (s : PS) : upd (tE ℓ s) 0 (nI m) = tE m s := by
  funext i
  unfold upd
  by_cases h : i = 0
  · rw [if_pos h, h]; rfl
  · rw [if_neg h]
    unfold tE
    match i with
    | 0 => exact absurd rfl h
    | 1 => rfl
    | 2 => rfl
    | 3 => rfl
    | 4 => rfl
    | 5 => rfl
    | 6 => rfl
    | _ + 7 => rfl
/-! steps of the law: with the box, without an answer, with one -/
def ST1 (ML MX : MT) (as : List Value) (w : PW) : Prop := ∃ (kk rb : Int32) (u v : PW) (fo : Nat → Int64), Ct ML (.ref 7 :: (as ++ [.ref 107])) w (d1 (some (.int kk)) u) nx ∧ Ct MX (.ref 0 :: as) u (d1 (some (.int rb)) v) nx ∧ Ct mX4_thrown [.ref 0] v (d1 (some (.int kk)) v) nx ∧ (∃ fs, u[0]? = some (.inr (4, fs))) ∧ (∃ fs, v[0]? = some (.inr (4, fs))) ∧ v[107]? = some (oc fo) ∧ (kk = 0 → fo 0 = rb.toInt64) ∧ SR v
def ST2 (ML MX : MT) (as : List Value) (w : PW) : Prop := ∃ (kk : Int32) (u v : PW), Ct ML (.ref 7 :: as) w (d1 (some (.int kk)) u) nx ∧ Ct MX (.ref 0 :: as) u (d1 none v) nx ∧ Ct mX4_thrown [.ref 0] v (d1 (some (.int kk)) v) nx ∧ (∃ fs, u[0]? = some (.inr (4, fs))) ∧ (∃ fs, v[0]? = some (.inr (4, fs))) ∧ SR v
def ST3 (MC MX : MT) (w : PW) : Prop := ∃ (r : Value) (u v : PW), Ct MC [.ref 7] w (d1 (some r) u) nx ∧ Ct MX [.ref 0] u (d1 (some r) v) nx ∧ (∃ fs, w[7]? = some (.inr (3, fs))) ∧ (∃ fs, u[0]? = some (.inr (4, fs))) ∧ SR v
