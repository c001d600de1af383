/-! ===== the class: the house's world ===== -/
def updT (T : Nat → Nat → Int32) (a : Nat) (τ : Nat → Int32) : Nat → Nat → Int32 := fun j => if j = a then τ else T j
theorem updT_s (T : Nat → Nat → Int32) (a : Nat) (τ : Nat → Int32) : updT T a τ a = τ := if_pos rfl
theorem updT_n (T : Nat → Nat → Int32) {a j : Nat} (τ : Nat → Int32) (h : j ≠ a) : updT T a τ j = T j := if_neg h
theorem updT_2 (T : Nat → Nat → Int32) (a : Nat) (x y : Nat → Int32) : updT (updT T a x) a y = updT T a y := by
  funext j
  simp only [updT]
  split <;> rfl
theorem updT_self (T : Nat → Nat → Int32) (a : Nat) : updT T a (T a) = T := by
  funext j
  simp only [updT]
  split
  · next h => rw [h]
  · rfl
/-- the cells ahead of the ledgers -/
def hd17 (p : Nat → va_E) (sl pl ks rr : Nat → Int32) (L : PW) : PW :=
  p 0 :: p 1 :: p 2 :: p 3 :: p 4 :: p 5 :: p 6 :: p 7 :: p 8 :: p 9 ::
  .inr (2, [.ref 11, .ref 12, .int (sl 0), .int (sl 1), .int (sl 2), .int (sl 3), .int (sl 4), .int (sl 5)]) :: .inl (0, 6, .inl (tr 6 pl)) :: .inl (0, 6, .inl (tr 6 ks)) :: .inl (0, 8, .inl (tr 8 rr)) ::
  p 14 :: p 15 :: p 16 :: L
/-- ledgers 1 .. 9 -/
def hgT (T : Nat → Nat → Int32) (g : PW) : PW := ledC 26 (T 1) (ledC 35 (T 2) (ledC 44 (T 3) (ledC 53 (T 4) (ledC 62 (T 5) (ledC 71 (T 6) (ledC 80 (T 7) (ledC 89 (T 8) (ledC 98 (T 9) g))))))))
/-- the house's own cells, round the rest; places 0 .. 6 are another's -/
def hpP (P : Nat → va_E) (t cs : Nat → Int32) (n b : Nat) (sv : Nat → Nat) (sf : Nat → Int32) : Nat → va_E
  | 7 => .inr (3, [.ref 8, .ref 10, .ref 13, .ref 15, .ref 16, .ref 14, .int (nI n), .ref 17, .ref (17 + 9 * b)])
  | 8 => .inr (1, [.ref 9, .int (t 0), .int (t 1), .int (t 2), .int (t 3), .int (t 4), .int (t 5), .int (t 6)])
  | 9 => .inl (0, 60, .inl (tr 60 cs))
  | 14 => .inl (3, 6, .inr (.inr (.inr (.inr (fun k => if k < 6 then some (17 + 9 * sv k) else none)))))
  | 15 => .inl (3, 2, .inr (.inr (.inr (.inr (fun k => if k < 2 then some (17 + 9 * (k + 1)) else none)))))
  | 16 => .inl (1, 2, .inl (tr 2 sf))
  | i => P i
abbrev hw (P : Nat → va_E) (t cs sl pl ks rr : Nat → Int32) (n b : Nat) (sv : Nat → Nat) (sf : Nat → Int32) (T : Nat → Nat → Int32) (g : PW) : PW := nw (hpP P t cs n b sv sf) sl pl ks rr (T 0) (hgT T g)
theorem hw_g0 (P : Nat → va_E) (t cs sl pl ks rr : Nat → Int32) (n b : Nat) (sv : Nat → Nat) (sf : Nat → Int32) (T : Nat → Nat → Int32) (g : PW) {a : Nat} (ha : a < 10) : (hw P t cs sl pl ks rr n b sv sf T g)[17 + 9 * a]? = some (.inr (0, [.ref (17 + 9 * a + 1), .ref (17 + 9 * a + 2), .ref (17 + 9 * a + 3), .ref (17 + 9 * a + 4), .ref (17 + 9 * a + 5), .ref (17 + 9 * a + 6), .ref (17 + 9 * a + 7), .ref (17 + 9 * a + 8), .int (T a 98), .int (T a 99), .int (T a 100), .int (T a 101), .int (T a 102), .int (T a 103), .int (T a 104), .int (T a 105), .int (T a 106), .int (T a 107), .int (T a 108)])) := by
  rcases (show a = 0 ∨ a = 1 ∨ a = 2 ∨ a = 3 ∨ a = 4 ∨ a = 5 ∨ a = 6 ∨ a = 7 ∨ a = 8 ∨ a = 9 by omega) with rfl | rfl | rfl | rfl | rfl | rfl | rfl | rfl | rfl | rfl <;> rfl
theorem hw_g1 (P : Nat → va_E) (t cs sl pl ks rr : Nat → Int32) (n b : Nat) (sv : Nat → Nat) (sf : Nat → Int32) (T : Nat → Nat → Int32) (g : PW) {a : Nat} (ha : a < 10) : (hw P t cs sl pl ks rr n b sv sf T g)[17 + 9 * a + 1]? = some (.inl (0, 6, .inl (tr 6 (T a)))) := by
  rcases (show a = 0 ∨ a = 1 ∨ a = 2 ∨ a = 3 ∨ a = 4 ∨ a = 5 ∨ a = 6 ∨ a = 7 ∨ a = 8 ∨ a = 9 by omega) with rfl | rfl | rfl | rfl | rfl | rfl | rfl | rfl | rfl | rfl <;> rfl
theorem hw_g2 (P : Nat → va_E) (t cs sl pl ks rr : Nat → Int32) (n b : Nat) (sv : Nat → Nat) (sf : Nat → Int32) (T : Nat → Nat → Int32) (g : PW) {a : Nat} (ha : a < 10) : (hw P t cs sl pl ks rr n b sv sf T g)[17 + 9 * a + 2]? = some (.inl (0, 6, .inl (tr 6 (fun k => T a (6 + k))))) := by
  rcases (show a = 0 ∨ a = 1 ∨ a = 2 ∨ a = 3 ∨ a = 4 ∨ a = 5 ∨ a = 6 ∨ a = 7 ∨ a = 8 ∨ a = 9 by omega) with rfl | rfl | rfl | rfl | rfl | rfl | rfl | rfl | rfl | rfl <;> rfl
theorem hw_g3 (P : Nat → va_E) (t cs sl pl ks rr : Nat → Int32) (n b : Nat) (sv : Nat → Nat) (sf : Nat → Int32) (T : Nat → Nat → Int32) (g : PW) {a : Nat} (ha : a < 10) : (hw P t cs sl pl ks rr n b sv sf T g)[17 + 9 * a + 3]? = some (.inl (0, 6, .inl (tr 6 (fun k => T a (12 + k))))) := by
  rcases (show a = 0 ∨ a = 1 ∨ a = 2 ∨ a = 3 ∨ a = 4 ∨ a = 5 ∨ a = 6 ∨ a = 7 ∨ a = 8 ∨ a = 9 by omega) with rfl | rfl | rfl | rfl | rfl | rfl | rfl | rfl | rfl | rfl <;> rfl
theorem hw_g4 (P : Nat → va_E) (t cs sl pl ks rr : Nat → Int32) (n b : Nat) (sv : Nat → Nat) (sf : Nat → Int32) (T : Nat → Nat → Int32) (g : PW) {a : Nat} (ha : a < 10) : (hw P t cs sl pl ks rr n b sv sf T g)[17 + 9 * a + 4]? = some (.inl (0, 48, .inl (tr 48 (fun j => T a (ix (j / 6) (j % 6)))))) := by
  rcases (show a = 0 ∨ a = 1 ∨ a = 2 ∨ a = 3 ∨ a = 4 ∨ a = 5 ∨ a = 6 ∨ a = 7 ∨ a = 8 ∨ a = 9 by omega) with rfl | rfl | rfl | rfl | rfl | rfl | rfl | rfl | rfl | rfl <;> rfl
theorem hw_g5 (P : Nat → va_E) (t cs sl pl ks rr : Nat → Int32) (n b : Nat) (sv : Nat → Nat) (sf : Nat → Int32) (T : Nat → Nat → Int32) (g : PW) {a : Nat} (ha : a < 10) : (hw P t cs sl pl ks rr n b sv sf T g)[17 + 9 * a + 5]? = some (.inl (0, 8, .inl (tr 8 (fun c => T a (ix c 6))))) := by
  rcases (show a = 0 ∨ a = 1 ∨ a = 2 ∨ a = 3 ∨ a = 4 ∨ a = 5 ∨ a = 6 ∨ a = 7 ∨ a = 8 ∨ a = 9 by omega) with rfl | rfl | rfl | rfl | rfl | rfl | rfl | rfl | rfl | rfl <;> rfl
theorem hw_g6 (P : Nat → va_E) (t cs sl pl ks rr : Nat → Int32) (n b : Nat) (sv : Nat → Nat) (sf : Nat → Int32) (T : Nat → Nat → Int32) (g : PW) {a : Nat} (ha : a < 10) : (hw P t cs sl pl ks rr n b sv sf T g)[17 + 9 * a + 6]? = some (.inl (0, 8, .inl (tr 8 (fun c => T a (ix c 7))))) := by
  rcases (show a = 0 ∨ a = 1 ∨ a = 2 ∨ a = 3 ∨ a = 4 ∨ a = 5 ∨ a = 6 ∨ a = 7 ∨ a = 8 ∨ a = 9 by omega) with rfl | rfl | rfl | rfl | rfl | rfl | rfl | rfl | rfl | rfl <;> rfl
theorem hw_g7 (P : Nat → va_E) (t cs sl pl ks rr : Nat → Int32) (n b : Nat) (sv : Nat → Nat) (sf : Nat → Int32) (T : Nat → Nat → Int32) (g : PW) {a : Nat} (ha : a < 10) : (hw P t cs sl pl ks rr n b sv sf T g)[17 + 9 * a + 7]? = some (.inl (0, 8, .inl (tr 8 (fun c => T a (ix c 8))))) := by
  rcases (show a = 0 ∨ a = 1 ∨ a = 2 ∨ a = 3 ∨ a = 4 ∨ a = 5 ∨ a = 6 ∨ a = 7 ∨ a = 8 ∨ a = 9 by omega) with rfl | rfl | rfl | rfl | rfl | rfl | rfl | rfl | rfl | rfl <;> rfl
theorem hw_g8 (P : Nat → va_E) (t cs sl pl ks rr : Nat → Int32) (n b : Nat) (sv : Nat → Nat) (sf : Nat → Int32) (T : Nat → Nat → Int32) (g : PW) {a : Nat} (ha : a < 10) : (hw P t cs sl pl ks rr n b sv sf T g)[17 + 9 * a + 8]? = some (.inl (1, 8, .inl (tr 8 (fun c => T a (ix c 9))))) := by
  rcases (show a = 0 ∨ a = 1 ∨ a = 2 ∨ a = 3 ∨ a = 4 ∨ a = 5 ∨ a = 6 ∨ a = 7 ∨ a = 8 ∨ a = 9 by omega) with rfl | rfl | rfl | rfl | rfl | rfl | rfl | rfl | rfl | rfl <;> rfl
theorem hw_s0 (P : Nat → va_E) (t cs sl pl ks rr : Nat → Int32) (n b : Nat) (sv : Nat → Nat) (sf : Nat → Int32) (T : Nat → Nat → Int32) (g : PW) {a : Nat} (ha : a < 10) (x : Nat → va_E) (τ : Nat → Int32) (h : ∀ bb gg, (ledC bb (T a) gg).set 0 (x bb) = ledC bb τ gg) : (hw P t cs sl pl ks rr n b sv sf T g).set (17 + 9 * a) (x (17 + 9 * a)) = hw P t cs sl pl ks rr n b sv sf (updT T a τ) g := by
  rcases (show a = 0 ∨ a = 1 ∨ a = 2 ∨ a = 3 ∨ a = 4 ∨ a = 5 ∨ a = 6 ∨ a = 7 ∨ a = 8 ∨ a = 9 by omega) with rfl | rfl | rfl | rfl | rfl | rfl | rfl | rfl | rfl | rfl
  · exact congrArg (fun L : PW => hd17 (hpP P t cs n b sv sf) sl pl ks rr L) (h 17 (ledC 26 (T 1) (ledC 35 (T 2) (ledC 44 (T 3) (ledC 53 (T 4) (ledC 62 (T 5) (ledC 71 (T 6) (ledC 80 (T 7) (ledC 89 (T 8) (ledC 98 (T 9) g))))))))))
  · exact congrArg (fun L : PW => hd17 (hpP P t cs n b sv sf) sl pl ks rr (ledC 17 (T 0) L)) (h 26 (ledC 35 (T 2) (ledC 44 (T 3) (ledC 53 (T 4) (ledC 62 (T 5) (ledC 71 (T 6) (ledC 80 (T 7) (ledC 89 (T 8) (ledC 98 (T 9) g)))))))))
  · exact congrArg (fun L : PW => hd17 (hpP P t cs n b sv sf) sl pl ks rr (ledC 17 (T 0) (ledC 26 (T 1) L))) (h 35 (ledC 44 (T 3) (ledC 53 (T 4) (ledC 62 (T 5) (ledC 71 (T 6) (ledC 80 (T 7) (ledC 89 (T 8) (ledC 98 (T 9) g))))))))
  · exact congrArg (fun L : PW => hd17 (hpP P t cs n b sv sf) sl pl ks rr (ledC 17 (T 0) (ledC 26 (T 1) (ledC 35 (T 2) L)))) (h 44 (ledC 53 (T 4) (ledC 62 (T 5) (ledC 71 (T 6) (ledC 80 (T 7) (ledC 89 (T 8) (ledC 98 (T 9) g)))))))
  · exact congrArg (fun L : PW => hd17 (hpP P t cs n b sv sf) sl pl ks rr (ledC 17 (T 0) (ledC 26 (T 1) (ledC 35 (T 2) (ledC 44 (T 3) L))))) (h 53 (ledC 62 (T 5) (ledC 71 (T 6) (ledC 80 (T 7) (ledC 89 (T 8) (ledC 98 (T 9) g))))))
  · exact congrArg (fun L : PW => hd17 (hpP P t cs n b sv sf) sl pl ks rr (ledC 17 (T 0) (ledC 26 (T 1) (ledC 35 (T 2) (ledC 44 (T 3) (ledC 53 (T 4) L)))))) (h 62 (ledC 71 (T 6) (ledC 80 (T 7) (ledC 89 (T 8) (ledC 98 (T 9) g)))))
  · exact congrArg (fun L : PW => hd17 (hpP P t cs n b sv sf) sl pl ks rr (ledC 17 (T 0) (ledC 26 (T 1) (ledC 35 (T 2) (ledC 44 (T 3) (ledC 53 (T 4) (ledC 62 (T 5) L))))))) (h 71 (ledC 80 (T 7) (ledC 89 (T 8) (ledC 98 (T 9) g))))
  · exact congrArg (fun L : PW => hd17 (hpP P t cs n b sv sf) sl pl ks rr (ledC 17 (T 0) (ledC 26 (T 1) (ledC 35 (T 2) (ledC 44 (T 3) (ledC 53 (T 4) (ledC 62 (T 5) (ledC 71 (T 6) L)))))))) (h 80 (ledC 89 (T 8) (ledC 98 (T 9) g)))
  · exact congrArg (fun L : PW => hd17 (hpP P t cs n b sv sf) sl pl ks rr (ledC 17 (T 0) (ledC 26 (T 1) (ledC 35 (T 2) (ledC 44 (T 3) (ledC 53 (T 4) (ledC 62 (T 5) (ledC 71 (T 6) (ledC 80 (T 7) L))))))))) (h 89 (ledC 98 (T 9) g))
  · exact congrArg (fun L : PW => hd17 (hpP P t cs n b sv sf) sl pl ks rr (ledC 17 (T 0) (ledC 26 (T 1) (ledC 35 (T 2) (ledC 44 (T 3) (ledC 53 (T 4) (ledC 62 (T 5) (ledC 71 (T 6) (ledC 80 (T 7) (ledC 89 (T 8) L)))))))))) (h 98 g)
theorem hw_s1 (P : Nat → va_E) (t cs sl pl ks rr : Nat → Int32) (n b : Nat) (sv : Nat → Nat) (sf : Nat → Int32) (T : Nat → Nat → Int32) (g : PW) {a : Nat} (ha : a < 10) (x : Nat → va_E) (τ : Nat → Int32) (h : ∀ bb gg, (ledC bb (T a) gg).set 1 (x bb) = ledC bb τ gg) : (hw P t cs sl pl ks rr n b sv sf T g).set (17 + 9 * a + 1) (x (17 + 9 * a)) = hw P t cs sl pl ks rr n b sv sf (updT T a τ) g := by
  rcases (show a = 0 ∨ a = 1 ∨ a = 2 ∨ a = 3 ∨ a = 4 ∨ a = 5 ∨ a = 6 ∨ a = 7 ∨ a = 8 ∨ a = 9 by omega) with rfl | rfl | rfl | rfl | rfl | rfl | rfl | rfl | rfl | rfl
  · exact congrArg (fun L : PW => hd17 (hpP P t cs n b sv sf) sl pl ks rr L) (h 17 (ledC 26 (T 1) (ledC 35 (T 2) (ledC 44 (T 3) (ledC 53 (T 4) (ledC 62 (T 5) (ledC 71 (T 6) (ledC 80 (T 7) (ledC 89 (T 8) (ledC 98 (T 9) g))))))))))
  · exact congrArg (fun L : PW => hd17 (hpP P t cs n b sv sf) sl pl ks rr (ledC 17 (T 0) L)) (h 26 (ledC 35 (T 2) (ledC 44 (T 3) (ledC 53 (T 4) (ledC 62 (T 5) (ledC 71 (T 6) (ledC 80 (T 7) (ledC 89 (T 8) (ledC 98 (T 9) g)))))))))
  · exact congrArg (fun L : PW => hd17 (hpP P t cs n b sv sf) sl pl ks rr (ledC 17 (T 0) (ledC 26 (T 1) L))) (h 35 (ledC 44 (T 3) (ledC 53 (T 4) (ledC 62 (T 5) (ledC 71 (T 6) (ledC 80 (T 7) (ledC 89 (T 8) (ledC 98 (T 9) g))))))))
  · exact congrArg (fun L : PW => hd17 (hpP P t cs n b sv sf) sl pl ks rr (ledC 17 (T 0) (ledC 26 (T 1) (ledC 35 (T 2) L)))) (h 44 (ledC 53 (T 4) (ledC 62 (T 5) (ledC 71 (T 6) (ledC 80 (T 7) (ledC 89 (T 8) (ledC 98 (T 9) g)))))))
  · exact congrArg (fun L : PW => hd17 (hpP P t cs n b sv sf) sl pl ks rr (ledC 17 (T 0) (ledC 26 (T 1) (ledC 35 (T 2) (ledC 44 (T 3) L))))) (h 53 (ledC 62 (T 5) (ledC 71 (T 6) (ledC 80 (T 7) (ledC 89 (T 8) (ledC 98 (T 9) g))))))
  · exact congrArg (fun L : PW => hd17 (hpP P t cs n b sv sf) sl pl ks rr (ledC 17 (T 0) (ledC 26 (T 1) (ledC 35 (T 2) (ledC 44 (T 3) (ledC 53 (T 4) L)))))) (h 62 (ledC 71 (T 6) (ledC 80 (T 7) (ledC 89 (T 8) (ledC 98 (T 9) g)))))
  · exact congrArg (fun L : PW => hd17 (hpP P t cs n b sv sf) sl pl ks rr (ledC 17 (T 0) (ledC 26 (T 1) (ledC 35 (T 2) (ledC 44 (T 3) (ledC 53 (T 4) (ledC 62 (T 5) L))))))) (h 71 (ledC 80 (T 7) (ledC 89 (T 8) (ledC 98 (T 9) g))))
  · exact congrArg (fun L : PW => hd17 (hpP P t cs n b sv sf) sl pl ks rr (ledC 17 (T 0) (ledC 26 (T 1) (ledC 35 (T 2) (ledC 44 (T 3) (ledC 53 (T 4) (ledC 62 (T 5) (ledC 71 (T 6) L)))))))) (h 80 (ledC 89 (T 8) (ledC 98 (T 9) g)))
  · exact congrArg (fun L : PW => hd17 (hpP P t cs n b sv sf) sl pl ks rr (ledC 17 (T 0) (ledC 26 (T 1) (ledC 35 (T 2) (ledC 44 (T 3) (ledC 53 (T 4) (ledC 62 (T 5) (ledC 71 (T 6) (ledC 80 (T 7) L))))))))) (h 89 (ledC 98 (T 9) g))
  · exact congrArg (fun L : PW => hd17 (hpP P t cs n b sv sf) sl pl ks rr (ledC 17 (T 0) (ledC 26 (T 1) (ledC 35 (T 2) (ledC 44 (T 3) (ledC 53 (T 4) (ledC 62 (T 5) (ledC 71 (T 6) (ledC 80 (T 7) (ledC 89 (T 8) L)))))))))) (h 98 g)
theorem hw_s2 (P : Nat → va_E) (t cs sl pl ks rr : Nat → Int32) (n b : Nat) (sv : Nat → Nat) (sf : Nat → Int32) (T : Nat → Nat → Int32) (g : PW) {a : Nat} (ha : a < 10) (x : Nat → va_E) (τ : Nat → Int32) (h : ∀ bb gg, (ledC bb (T a) gg).set 2 (x bb) = ledC bb τ gg) : (hw P t cs sl pl ks rr n b sv sf T g).set (17 + 9 * a + 2) (x (17 + 9 * a)) = hw P t cs sl pl ks rr n b sv sf (updT T a τ) g := by
  rcases (show a = 0 ∨ a = 1 ∨ a = 2 ∨ a = 3 ∨ a = 4 ∨ a = 5 ∨ a = 6 ∨ a = 7 ∨ a = 8 ∨ a = 9 by omega) with rfl | rfl | rfl | rfl | rfl | rfl | rfl | rfl | rfl | rfl
  · exact congrArg (fun L : PW => hd17 (hpP P t cs n b sv sf) sl pl ks rr L) (h 17 (ledC 26 (T 1) (ledC 35 (T 2) (ledC 44 (T 3) (ledC 53 (T 4) (ledC 62 (T 5) (ledC 71 (T 6) (ledC 80 (T 7) (ledC 89 (T 8) (ledC 98 (T 9) g))))))))))
  · exact congrArg (fun L : PW => hd17 (hpP P t cs n b sv sf) sl pl ks rr (ledC 17 (T 0) L)) (h 26 (ledC 35 (T 2) (ledC 44 (T 3) (ledC 53 (T 4) (ledC 62 (T 5) (ledC 71 (T 6) (ledC 80 (T 7) (ledC 89 (T 8) (ledC 98 (T 9) g)))))))))
  · exact congrArg (fun L : PW => hd17 (hpP P t cs n b sv sf) sl pl ks rr (ledC 17 (T 0) (ledC 26 (T 1) L))) (h 35 (ledC 44 (T 3) (ledC 53 (T 4) (ledC 62 (T 5) (ledC 71 (T 6) (ledC 80 (T 7) (ledC 89 (T 8) (ledC 98 (T 9) g))))))))
  · exact congrArg (fun L : PW => hd17 (hpP P t cs n b sv sf) sl pl ks rr (ledC 17 (T 0) (ledC 26 (T 1) (ledC 35 (T 2) L)))) (h 44 (ledC 53 (T 4) (ledC 62 (T 5) (ledC 71 (T 6) (ledC 80 (T 7) (ledC 89 (T 8) (ledC 98 (T 9) g)))))))
  · exact congrArg (fun L : PW => hd17 (hpP P t cs n b sv sf) sl pl ks rr (ledC 17 (T 0) (ledC 26 (T 1) (ledC 35 (T 2) (ledC 44 (T 3) L))))) (h 53 (ledC 62 (T 5) (ledC 71 (T 6) (ledC 80 (T 7) (ledC 89 (T 8) (ledC 98 (T 9) g))))))
  · exact congrArg (fun L : PW => hd17 (hpP P t cs n b sv sf) sl pl ks rr (ledC 17 (T 0) (ledC 26 (T 1) (ledC 35 (T 2) (ledC 44 (T 3) (ledC 53 (T 4) L)))))) (h 62 (ledC 71 (T 6) (ledC 80 (T 7) (ledC 89 (T 8) (ledC 98 (T 9) g)))))
  · exact congrArg (fun L : PW => hd17 (hpP P t cs n b sv sf) sl pl ks rr (ledC 17 (T 0) (ledC 26 (T 1) (ledC 35 (T 2) (ledC 44 (T 3) (ledC 53 (T 4) (ledC 62 (T 5) L))))))) (h 71 (ledC 80 (T 7) (ledC 89 (T 8) (ledC 98 (T 9) g))))
  · exact congrArg (fun L : PW => hd17 (hpP P t cs n b sv sf) sl pl ks rr (ledC 17 (T 0) (ledC 26 (T 1) (ledC 35 (T 2) (ledC 44 (T 3) (ledC 53 (T 4) (ledC 62 (T 5) (ledC 71 (T 6) L)))))))) (h 80 (ledC 89 (T 8) (ledC 98 (T 9) g)))
  · exact congrArg (fun L : PW => hd17 (hpP P t cs n b sv sf) sl pl ks rr (ledC 17 (T 0) (ledC 26 (T 1) (ledC 35 (T 2) (ledC 44 (T 3) (ledC 53 (T 4) (ledC 62 (T 5) (ledC 71 (T 6) (ledC 80 (T 7) L))))))))) (h 89 (ledC 98 (T 9) g))
  · exact congrArg (fun L : PW => hd17 (hpP P t cs n b sv sf) sl pl ks rr (ledC 17 (T 0) (ledC 26 (T 1) (ledC 35 (T 2) (ledC 44 (T 3) (ledC 53 (T 4) (ledC 62 (T 5) (ledC 71 (T 6) (ledC 80 (T 7) (ledC 89 (T 8) L)))))))))) (h 98 g)
theorem hw_s3 (P : Nat → va_E) (t cs sl pl ks rr : Nat → Int32) (n b : Nat) (sv : Nat → Nat) (sf : Nat → Int32) (T : Nat → Nat → Int32) (g : PW) {a : Nat} (ha : a < 10) (x : Nat → va_E) (τ : Nat → Int32) (h : ∀ bb gg, (ledC bb (T a) gg).set 3 (x bb) = ledC bb τ gg) : (hw P t cs sl pl ks rr n b sv sf T g).set (17 + 9 * a + 3) (x (17 + 9 * a)) = hw P t cs sl pl ks rr n b sv sf (updT T a τ) g := by
  rcases (show a = 0 ∨ a = 1 ∨ a = 2 ∨ a = 3 ∨ a = 4 ∨ a = 5 ∨ a = 6 ∨ a = 7 ∨ a = 8 ∨ a = 9 by omega) with rfl | rfl | rfl | rfl | rfl | rfl | rfl | rfl | rfl | rfl
  · exact congrArg (fun L : PW => hd17 (hpP P t cs n b sv sf) sl pl ks rr L) (h 17 (ledC 26 (T 1) (ledC 35 (T 2) (ledC 44 (T 3) (ledC 53 (T 4) (ledC 62 (T 5) (ledC 71 (T 6) (ledC 80 (T 7) (ledC 89 (T 8) (ledC 98 (T 9) g))))))))))
  · exact congrArg (fun L : PW => hd17 (hpP P t cs n b sv sf) sl pl ks rr (ledC 17 (T 0) L)) (h 26 (ledC 35 (T 2) (ledC 44 (T 3) (ledC 53 (T 4) (ledC 62 (T 5) (ledC 71 (T 6) (ledC 80 (T 7) (ledC 89 (T 8) (ledC 98 (T 9) g)))))))))
  · exact congrArg (fun L : PW => hd17 (hpP P t cs n b sv sf) sl pl ks rr (ledC 17 (T 0) (ledC 26 (T 1) L))) (h 35 (ledC 44 (T 3) (ledC 53 (T 4) (ledC 62 (T 5) (ledC 71 (T 6) (ledC 80 (T 7) (ledC 89 (T 8) (ledC 98 (T 9) g))))))))
  · exact congrArg (fun L : PW => hd17 (hpP P t cs n b sv sf) sl pl ks rr (ledC 17 (T 0) (ledC 26 (T 1) (ledC 35 (T 2) L)))) (h 44 (ledC 53 (T 4) (ledC 62 (T 5) (ledC 71 (T 6) (ledC 80 (T 7) (ledC 89 (T 8) (ledC 98 (T 9) g)))))))
  · exact congrArg (fun L : PW => hd17 (hpP P t cs n b sv sf) sl pl ks rr (ledC 17 (T 0) (ledC 26 (T 1) (ledC 35 (T 2) (ledC 44 (T 3) L))))) (h 53 (ledC 62 (T 5) (ledC 71 (T 6) (ledC 80 (T 7) (ledC 89 (T 8) (ledC 98 (T 9) g))))))
  · exact congrArg (fun L : PW => hd17 (hpP P t cs n b sv sf) sl pl ks rr (ledC 17 (T 0) (ledC 26 (T 1) (ledC 35 (T 2) (ledC 44 (T 3) (ledC 53 (T 4) L)))))) (h 62 (ledC 71 (T 6) (ledC 80 (T 7) (ledC 89 (T 8) (ledC 98 (T 9) g)))))
  · exact congrArg (fun L : PW => hd17 (hpP P t cs n b sv sf) sl pl ks rr (ledC 17 (T 0) (ledC 26 (T 1) (ledC 35 (T 2) (ledC 44 (T 3) (ledC 53 (T 4) (ledC 62 (T 5) L))))))) (h 71 (ledC 80 (T 7) (ledC 89 (T 8) (ledC 98 (T 9) g))))
  · exact congrArg (fun L : PW => hd17 (hpP P t cs n b sv sf) sl pl ks rr (ledC 17 (T 0) (ledC 26 (T 1) (ledC 35 (T 2) (ledC 44 (T 3) (ledC 53 (T 4) (ledC 62 (T 5) (ledC 71 (T 6) L)))))))) (h 80 (ledC 89 (T 8) (ledC 98 (T 9) g)))
  · exact congrArg (fun L : PW => hd17 (hpP P t cs n b sv sf) sl pl ks rr (ledC 17 (T 0) (ledC 26 (T 1) (ledC 35 (T 2) (ledC 44 (T 3) (ledC 53 (T 4) (ledC 62 (T 5) (ledC 71 (T 6) (ledC 80 (T 7) L))))))))) (h 89 (ledC 98 (T 9) g))
  · exact congrArg (fun L : PW => hd17 (hpP P t cs n b sv sf) sl pl ks rr (ledC 17 (T 0) (ledC 26 (T 1) (ledC 35 (T 2) (ledC 44 (T 3) (ledC 53 (T 4) (ledC 62 (T 5) (ledC 71 (T 6) (ledC 80 (T 7) (ledC 89 (T 8) L)))))))))) (h 98 g)
theorem hw_s4 (P : Nat → va_E) (t cs sl pl ks rr : Nat → Int32) (n b : Nat) (sv : Nat → Nat) (sf : Nat → Int32) (T : Nat → Nat → Int32) (g : PW) {a : Nat} (ha : a < 10) (x : Nat → va_E) (τ : Nat → Int32) (h : ∀ bb gg, (ledC bb (T a) gg).set 4 (x bb) = ledC bb τ gg) : (hw P t cs sl pl ks rr n b sv sf T g).set (17 + 9 * a + 4) (x (17 + 9 * a)) = hw P t cs sl pl ks rr n b sv sf (updT T a τ) g := by
  rcases (show a = 0 ∨ a = 1 ∨ a = 2 ∨ a = 3 ∨ a = 4 ∨ a = 5 ∨ a = 6 ∨ a = 7 ∨ a = 8 ∨ a = 9 by omega) with rfl | rfl | rfl | rfl | rfl | rfl | rfl | rfl | rfl | rfl
  · exact congrArg (fun L : PW => hd17 (hpP P t cs n b sv sf) sl pl ks rr L) (h 17 (ledC 26 (T 1) (ledC 35 (T 2) (ledC 44 (T 3) (ledC 53 (T 4) (ledC 62 (T 5) (ledC 71 (T 6) (ledC 80 (T 7) (ledC 89 (T 8) (ledC 98 (T 9) g))))))))))
  · exact congrArg (fun L : PW => hd17 (hpP P t cs n b sv sf) sl pl ks rr (ledC 17 (T 0) L)) (h 26 (ledC 35 (T 2) (ledC 44 (T 3) (ledC 53 (T 4) (ledC 62 (T 5) (ledC 71 (T 6) (ledC 80 (T 7) (ledC 89 (T 8) (ledC 98 (T 9) g)))))))))
  · exact congrArg (fun L : PW => hd17 (hpP P t cs n b sv sf) sl pl ks rr (ledC 17 (T 0) (ledC 26 (T 1) L))) (h 35 (ledC 44 (T 3) (ledC 53 (T 4) (ledC 62 (T 5) (ledC 71 (T 6) (ledC 80 (T 7) (ledC 89 (T 8) (ledC 98 (T 9) g))))))))
  · exact congrArg (fun L : PW => hd17 (hpP P t cs n b sv sf) sl pl ks rr (ledC 17 (T 0) (ledC 26 (T 1) (ledC 35 (T 2) L)))) (h 44 (ledC 53 (T 4) (ledC 62 (T 5) (ledC 71 (T 6) (ledC 80 (T 7) (ledC 89 (T 8) (ledC 98 (T 9) g)))))))
  · exact congrArg (fun L : PW => hd17 (hpP P t cs n b sv sf) sl pl ks rr (ledC 17 (T 0) (ledC 26 (T 1) (ledC 35 (T 2) (ledC 44 (T 3) L))))) (h 53 (ledC 62 (T 5) (ledC 71 (T 6) (ledC 80 (T 7) (ledC 89 (T 8) (ledC 98 (T 9) g))))))
  · exact congrArg (fun L : PW => hd17 (hpP P t cs n b sv sf) sl pl ks rr (ledC 17 (T 0) (ledC 26 (T 1) (ledC 35 (T 2) (ledC 44 (T 3) (ledC 53 (T 4) L)))))) (h 62 (ledC 71 (T 6) (ledC 80 (T 7) (ledC 89 (T 8) (ledC 98 (T 9) g)))))
  · exact congrArg (fun L : PW => hd17 (hpP P t cs n b sv sf) sl pl ks rr (ledC 17 (T 0) (ledC 26 (T 1) (ledC 35 (T 2) (ledC 44 (T 3) (ledC 53 (T 4) (ledC 62 (T 5) L))))))) (h 71 (ledC 80 (T 7) (ledC 89 (T 8) (ledC 98 (T 9) g))))
  · exact congrArg (fun L : PW => hd17 (hpP P t cs n b sv sf) sl pl ks rr (ledC 17 (T 0) (ledC 26 (T 1) (ledC 35 (T 2) (ledC 44 (T 3) (ledC 53 (T 4) (ledC 62 (T 5) (ledC 71 (T 6) L)))))))) (h 80 (ledC 89 (T 8) (ledC 98 (T 9) g)))
  · exact congrArg (fun L : PW => hd17 (hpP P t cs n b sv sf) sl pl ks rr (ledC 17 (T 0) (ledC 26 (T 1) (ledC 35 (T 2) (ledC 44 (T 3) (ledC 53 (T 4) (ledC 62 (T 5) (ledC 71 (T 6) (ledC 80 (T 7) L))))))))) (h 89 (ledC 98 (T 9) g))
  · exact congrArg (fun L : PW => hd17 (hpP P t cs n b sv sf) sl pl ks rr (ledC 17 (T 0) (ledC 26 (T 1) (ledC 35 (T 2) (ledC 44 (T 3) (ledC 53 (T 4) (ledC 62 (T 5) (ledC 71 (T 6) (ledC 80 (T 7) (ledC 89 (T 8) L)))))))))) (h 98 g)
theorem hw_s5 (P : Nat → va_E) (t cs sl pl ks rr : Nat → Int32) (n b : Nat) (sv : Nat → Nat) (sf : Nat → Int32) (T : Nat → Nat → Int32) (g : PW) {a : Nat} (ha : a < 10) (x : Nat → va_E) (τ : Nat → Int32) (h : ∀ bb gg, (ledC bb (T a) gg).set 5 (x bb) = ledC bb τ gg) : (hw P t cs sl pl ks rr n b sv sf T g).set (17 + 9 * a + 5) (x (17 + 9 * a)) = hw P t cs sl pl ks rr n b sv sf (updT T a τ) g := by
  rcases (show a = 0 ∨ a = 1 ∨ a = 2 ∨ a = 3 ∨ a = 4 ∨ a = 5 ∨ a = 6 ∨ a = 7 ∨ a = 8 ∨ a = 9 by omega) with rfl | rfl | rfl | rfl | rfl | rfl | rfl | rfl | rfl | rfl
  · exact congrArg (fun L : PW => hd17 (hpP P t cs n b sv sf) sl pl ks rr L) (h 17 (ledC 26 (T 1) (ledC 35 (T 2) (ledC 44 (T 3) (ledC 53 (T 4) (ledC 62 (T 5) (ledC 71 (T 6) (ledC 80 (T 7) (ledC 89 (T 8) (ledC 98 (T 9) g))))))))))
  · exact congrArg (fun L : PW => hd17 (hpP P t cs n b sv sf) sl pl ks rr (ledC 17 (T 0) L)) (h 26 (ledC 35 (T 2) (ledC 44 (T 3) (ledC 53 (T 4) (ledC 62 (T 5) (ledC 71 (T 6) (ledC 80 (T 7) (ledC 89 (T 8) (ledC 98 (T 9) g)))))))))
  · exact congrArg (fun L : PW => hd17 (hpP P t cs n b sv sf) sl pl ks rr (ledC 17 (T 0) (ledC 26 (T 1) L))) (h 35 (ledC 44 (T 3) (ledC 53 (T 4) (ledC 62 (T 5) (ledC 71 (T 6) (ledC 80 (T 7) (ledC 89 (T 8) (ledC 98 (T 9) g))))))))
  · exact congrArg (fun L : PW => hd17 (hpP P t cs n b sv sf) sl pl ks rr (ledC 17 (T 0) (ledC 26 (T 1) (ledC 35 (T 2) L)))) (h 44 (ledC 53 (T 4) (ledC 62 (T 5) (ledC 71 (T 6) (ledC 80 (T 7) (ledC 89 (T 8) (ledC 98 (T 9) g)))))))
  · exact congrArg (fun L : PW => hd17 (hpP P t cs n b sv sf) sl pl ks rr (ledC 17 (T 0) (ledC 26 (T 1) (ledC 35 (T 2) (ledC 44 (T 3) L))))) (h 53 (ledC 62 (T 5) (ledC 71 (T 6) (ledC 80 (T 7) (ledC 89 (T 8) (ledC 98 (T 9) g))))))
  · exact congrArg (fun L : PW => hd17 (hpP P t cs n b sv sf) sl pl ks rr (ledC 17 (T 0) (ledC 26 (T 1) (ledC 35 (T 2) (ledC 44 (T 3) (ledC 53 (T 4) L)))))) (h 62 (ledC 71 (T 6) (ledC 80 (T 7) (ledC 89 (T 8) (ledC 98 (T 9) g)))))
  · exact congrArg (fun L : PW => hd17 (hpP P t cs n b sv sf) sl pl ks rr (ledC 17 (T 0) (ledC 26 (T 1) (ledC 35 (T 2) (ledC 44 (T 3) (ledC 53 (T 4) (ledC 62 (T 5) L))))))) (h 71 (ledC 80 (T 7) (ledC 89 (T 8) (ledC 98 (T 9) g))))
  · exact congrArg (fun L : PW => hd17 (hpP P t cs n b sv sf) sl pl ks rr (ledC 17 (T 0) (ledC 26 (T 1) (ledC 35 (T 2) (ledC 44 (T 3) (ledC 53 (T 4) (ledC 62 (T 5) (ledC 71 (T 6) L)))))))) (h 80 (ledC 89 (T 8) (ledC 98 (T 9) g)))
  · exact congrArg (fun L : PW => hd17 (hpP P t cs n b sv sf) sl pl ks rr (ledC 17 (T 0) (ledC 26 (T 1) (ledC 35 (T 2) (ledC 44 (T 3) (ledC 53 (T 4) (ledC 62 (T 5) (ledC 71 (T 6) (ledC 80 (T 7) L))))))))) (h 89 (ledC 98 (T 9) g))
  · exact congrArg (fun L : PW => hd17 (hpP P t cs n b sv sf) sl pl ks rr (ledC 17 (T 0) (ledC 26 (T 1) (ledC 35 (T 2) (ledC 44 (T 3) (ledC 53 (T 4) (ledC 62 (T 5) (ledC 71 (T 6) (ledC 80 (T 7) (ledC 89 (T 8) L)))))))))) (h 98 g)
theorem hw_s6 (P : Nat → va_E) (t cs sl pl ks rr : Nat → Int32) (n b : Nat) (sv : Nat → Nat) (sf : Nat → Int32) (T : Nat → Nat → Int32) (g : PW) {a : Nat} (ha : a < 10) (x : Nat → va_E) (τ : Nat → Int32) (h : ∀ bb gg, (ledC bb (T a) gg).set 6 (x bb) = ledC bb τ gg) : (hw P t cs sl pl ks rr n b sv sf T g).set (17 + 9 * a + 6) (x (17 + 9 * a)) = hw P t cs sl pl ks rr n b sv sf (updT T a τ) g := by
  rcases (show a = 0 ∨ a = 1 ∨ a = 2 ∨ a = 3 ∨ a = 4 ∨ a = 5 ∨ a = 6 ∨ a = 7 ∨ a = 8 ∨ a = 9 by omega) with rfl | rfl | rfl | rfl | rfl | rfl | rfl | rfl | rfl | rfl
  · exact congrArg (fun L : PW => hd17 (hpP P t cs n b sv sf) sl pl ks rr L) (h 17 (ledC 26 (T 1) (ledC 35 (T 2) (ledC 44 (T 3) (ledC 53 (T 4) (ledC 62 (T 5) (ledC 71 (T 6) (ledC 80 (T 7) (ledC 89 (T 8) (ledC 98 (T 9) g))))))))))
  · exact congrArg (fun L : PW => hd17 (hpP P t cs n b sv sf) sl pl ks rr (ledC 17 (T 0) L)) (h 26 (ledC 35 (T 2) (ledC 44 (T 3) (ledC 53 (T 4) (ledC 62 (T 5) (ledC 71 (T 6) (ledC 80 (T 7) (ledC 89 (T 8) (ledC 98 (T 9) g)))))))))
  · exact congrArg (fun L : PW => hd17 (hpP P t cs n b sv sf) sl pl ks rr (ledC 17 (T 0) (ledC 26 (T 1) L))) (h 35 (ledC 44 (T 3) (ledC 53 (T 4) (ledC 62 (T 5) (ledC 71 (T 6) (ledC 80 (T 7) (ledC 89 (T 8) (ledC 98 (T 9) g))))))))
  · exact congrArg (fun L : PW => hd17 (hpP P t cs n b sv sf) sl pl ks rr (ledC 17 (T 0) (ledC 26 (T 1) (ledC 35 (T 2) L)))) (h 44 (ledC 53 (T 4) (ledC 62 (T 5) (ledC 71 (T 6) (ledC 80 (T 7) (ledC 89 (T 8) (ledC 98 (T 9) g)))))))
  · exact congrArg (fun L : PW => hd17 (hpP P t cs n b sv sf) sl pl ks rr (ledC 17 (T 0) (ledC 26 (T 1) (ledC 35 (T 2) (ledC 44 (T 3) L))))) (h 53 (ledC 62 (T 5) (ledC 71 (T 6) (ledC 80 (T 7) (ledC 89 (T 8) (ledC 98 (T 9) g))))))
  · exact congrArg (fun L : PW => hd17 (hpP P t cs n b sv sf) sl pl ks rr (ledC 17 (T 0) (ledC 26 (T 1) (ledC 35 (T 2) (ledC 44 (T 3) (ledC 53 (T 4) L)))))) (h 62 (ledC 71 (T 6) (ledC 80 (T 7) (ledC 89 (T 8) (ledC 98 (T 9) g)))))
  · exact congrArg (fun L : PW => hd17 (hpP P t cs n b sv sf) sl pl ks rr (ledC 17 (T 0) (ledC 26 (T 1) (ledC 35 (T 2) (ledC 44 (T 3) (ledC 53 (T 4) (ledC 62 (T 5) L))))))) (h 71 (ledC 80 (T 7) (ledC 89 (T 8) (ledC 98 (T 9) g))))
  · exact congrArg (fun L : PW => hd17 (hpP P t cs n b sv sf) sl pl ks rr (ledC 17 (T 0) (ledC 26 (T 1) (ledC 35 (T 2) (ledC 44 (T 3) (ledC 53 (T 4) (ledC 62 (T 5) (ledC 71 (T 6) L)))))))) (h 80 (ledC 89 (T 8) (ledC 98 (T 9) g)))
  · exact congrArg (fun L : PW => hd17 (hpP P t cs n b sv sf) sl pl ks rr (ledC 17 (T 0) (ledC 26 (T 1) (ledC 35 (T 2) (ledC 44 (T 3) (ledC 53 (T 4) (ledC 62 (T 5) (ledC 71 (T 6) (ledC 80 (T 7) L))))))))) (h 89 (ledC 98 (T 9) g))
  · exact congrArg (fun L : PW => hd17 (hpP P t cs n b sv sf) sl pl ks rr (ledC 17 (T 0) (ledC 26 (T 1) (ledC 35 (T 2) (ledC 44 (T 3) (ledC 53 (T 4) (ledC 62 (T 5) (ledC 71 (T 6) (ledC 80 (T 7) (ledC 89 (T 8) L)))))))))) (h 98 g)
theorem hw_s7 (P : Nat → va_E) (t cs sl pl ks rr : Nat → Int32) (n b : Nat) (sv : Nat → Nat) (sf : Nat → Int32) (T : Nat → Nat → Int32) (g : PW) {a : Nat} (ha : a < 10) (x : Nat → va_E) (τ : Nat → Int32) (h : ∀ bb gg, (ledC bb (T a) gg).set 7 (x bb) = ledC bb τ gg) : (hw P t cs sl pl ks rr n b sv sf T g).set (17 + 9 * a + 7) (x (17 + 9 * a)) = hw P t cs sl pl ks rr n b sv sf (updT T a τ) g := by
  rcases (show a = 0 ∨ a = 1 ∨ a = 2 ∨ a = 3 ∨ a = 4 ∨ a = 5 ∨ a = 6 ∨ a = 7 ∨ a = 8 ∨ a = 9 by omega) with rfl | rfl | rfl | rfl | rfl | rfl | rfl | rfl | rfl | rfl
  · exact congrArg (fun L : PW => hd17 (hpP P t cs n b sv sf) sl pl ks rr L) (h 17 (ledC 26 (T 1) (ledC 35 (T 2) (ledC 44 (T 3) (ledC 53 (T 4) (ledC 62 (T 5) (ledC 71 (T 6) (ledC 80 (T 7) (ledC 89 (T 8) (ledC 98 (T 9) g))))))))))
  · exact congrArg (fun L : PW => hd17 (hpP P t cs n b sv sf) sl pl ks rr (ledC 17 (T 0) L)) (h 26 (ledC 35 (T 2) (ledC 44 (T 3) (ledC 53 (T 4) (ledC 62 (T 5) (ledC 71 (T 6) (ledC 80 (T 7) (ledC 89 (T 8) (ledC 98 (T 9) g)))))))))
  · exact congrArg (fun L : PW => hd17 (hpP P t cs n b sv sf) sl pl ks rr (ledC 17 (T 0) (ledC 26 (T 1) L))) (h 35 (ledC 44 (T 3) (ledC 53 (T 4) (ledC 62 (T 5) (ledC 71 (T 6) (ledC 80 (T 7) (ledC 89 (T 8) (ledC 98 (T 9) g))))))))
  · exact congrArg (fun L : PW => hd17 (hpP P t cs n b sv sf) sl pl ks rr (ledC 17 (T 0) (ledC 26 (T 1) (ledC 35 (T 2) L)))) (h 44 (ledC 53 (T 4) (ledC 62 (T 5) (ledC 71 (T 6) (ledC 80 (T 7) (ledC 89 (T 8) (ledC 98 (T 9) g)))))))
  · exact congrArg (fun L : PW => hd17 (hpP P t cs n b sv sf) sl pl ks rr (ledC 17 (T 0) (ledC 26 (T 1) (ledC 35 (T 2) (ledC 44 (T 3) L))))) (h 53 (ledC 62 (T 5) (ledC 71 (T 6) (ledC 80 (T 7) (ledC 89 (T 8) (ledC 98 (T 9) g))))))
  · exact congrArg (fun L : PW => hd17 (hpP P t cs n b sv sf) sl pl ks rr (ledC 17 (T 0) (ledC 26 (T 1) (ledC 35 (T 2) (ledC 44 (T 3) (ledC 53 (T 4) L)))))) (h 62 (ledC 71 (T 6) (ledC 80 (T 7) (ledC 89 (T 8) (ledC 98 (T 9) g)))))
  · exact congrArg (fun L : PW => hd17 (hpP P t cs n b sv sf) sl pl ks rr (ledC 17 (T 0) (ledC 26 (T 1) (ledC 35 (T 2) (ledC 44 (T 3) (ledC 53 (T 4) (ledC 62 (T 5) L))))))) (h 71 (ledC 80 (T 7) (ledC 89 (T 8) (ledC 98 (T 9) g))))
  · exact congrArg (fun L : PW => hd17 (hpP P t cs n b sv sf) sl pl ks rr (ledC 17 (T 0) (ledC 26 (T 1) (ledC 35 (T 2) (ledC 44 (T 3) (ledC 53 (T 4) (ledC 62 (T 5) (ledC 71 (T 6) L)))))))) (h 80 (ledC 89 (T 8) (ledC 98 (T 9) g)))
  · exact congrArg (fun L : PW => hd17 (hpP P t cs n b sv sf) sl pl ks rr (ledC 17 (T 0) (ledC 26 (T 1) (ledC 35 (T 2) (ledC 44 (T 3) (ledC 53 (T 4) (ledC 62 (T 5) (ledC 71 (T 6) (ledC 80 (T 7) L))))))))) (h 89 (ledC 98 (T 9) g))
  · exact congrArg (fun L : PW => hd17 (hpP P t cs n b sv sf) sl pl ks rr (ledC 17 (T 0) (ledC 26 (T 1) (ledC 35 (T 2) (ledC 44 (T 3) (ledC 53 (T 4) (ledC 62 (T 5) (ledC 71 (T 6) (ledC 80 (T 7) (ledC 89 (T 8) L)))))))))) (h 98 g)
theorem hw_s8 (P : Nat → va_E) (t cs sl pl ks rr : Nat → Int32) (n b : Nat) (sv : Nat → Nat) (sf : Nat → Int32) (T : Nat → Nat → Int32) (g : PW) {a : Nat} (ha : a < 10) (x : Nat → va_E) (τ : Nat → Int32) (h : ∀ bb gg, (ledC bb (T a) gg).set 8 (x bb) = ledC bb τ gg) : (hw P t cs sl pl ks rr n b sv sf T g).set (17 + 9 * a + 8) (x (17 + 9 * a)) = hw P t cs sl pl ks rr n b sv sf (updT T a τ) g := by
  rcases (show a = 0 ∨ a = 1 ∨ a = 2 ∨ a = 3 ∨ a = 4 ∨ a = 5 ∨ a = 6 ∨ a = 7 ∨ a = 8 ∨ a = 9 by omega) with rfl | rfl | rfl | rfl | rfl | rfl | rfl | rfl | rfl | rfl
  · exact congrArg (fun L : PW => hd17 (hpP P t cs n b sv sf) sl pl ks rr L) (h 17 (ledC 26 (T 1) (ledC 35 (T 2) (ledC 44 (T 3) (ledC 53 (T 4) (ledC 62 (T 5) (ledC 71 (T 6) (ledC 80 (T 7) (ledC 89 (T 8) (ledC 98 (T 9) g))))))))))
  · exact congrArg (fun L : PW => hd17 (hpP P t cs n b sv sf) sl pl ks rr (ledC 17 (T 0) L)) (h 26 (ledC 35 (T 2) (ledC 44 (T 3) (ledC 53 (T 4) (ledC 62 (T 5) (ledC 71 (T 6) (ledC 80 (T 7) (ledC 89 (T 8) (ledC 98 (T 9) g)))))))))
  · exact congrArg (fun L : PW => hd17 (hpP P t cs n b sv sf) sl pl ks rr (ledC 17 (T 0) (ledC 26 (T 1) L))) (h 35 (ledC 44 (T 3) (ledC 53 (T 4) (ledC 62 (T 5) (ledC 71 (T 6) (ledC 80 (T 7) (ledC 89 (T 8) (ledC 98 (T 9) g))))))))
  · exact congrArg (fun L : PW => hd17 (hpP P t cs n b sv sf) sl pl ks rr (ledC 17 (T 0) (ledC 26 (T 1) (ledC 35 (T 2) L)))) (h 44 (ledC 53 (T 4) (ledC 62 (T 5) (ledC 71 (T 6) (ledC 80 (T 7) (ledC 89 (T 8) (ledC 98 (T 9) g)))))))
  · exact congrArg (fun L : PW => hd17 (hpP P t cs n b sv sf) sl pl ks rr (ledC 17 (T 0) (ledC 26 (T 1) (ledC 35 (T 2) (ledC 44 (T 3) L))))) (h 53 (ledC 62 (T 5) (ledC 71 (T 6) (ledC 80 (T 7) (ledC 89 (T 8) (ledC 98 (T 9) g))))))
  · exact congrArg (fun L : PW => hd17 (hpP P t cs n b sv sf) sl pl ks rr (ledC 17 (T 0) (ledC 26 (T 1) (ledC 35 (T 2) (ledC 44 (T 3) (ledC 53 (T 4) L)))))) (h 62 (ledC 71 (T 6) (ledC 80 (T 7) (ledC 89 (T 8) (ledC 98 (T 9) g)))))
  · exact congrArg (fun L : PW => hd17 (hpP P t cs n b sv sf) sl pl ks rr (ledC 17 (T 0) (ledC 26 (T 1) (ledC 35 (T 2) (ledC 44 (T 3) (ledC 53 (T 4) (ledC 62 (T 5) L))))))) (h 71 (ledC 80 (T 7) (ledC 89 (T 8) (ledC 98 (T 9) g))))
  · exact congrArg (fun L : PW => hd17 (hpP P t cs n b sv sf) sl pl ks rr (ledC 17 (T 0) (ledC 26 (T 1) (ledC 35 (T 2) (ledC 44 (T 3) (ledC 53 (T 4) (ledC 62 (T 5) (ledC 71 (T 6) L)))))))) (h 80 (ledC 89 (T 8) (ledC 98 (T 9) g)))
  · exact congrArg (fun L : PW => hd17 (hpP P t cs n b sv sf) sl pl ks rr (ledC 17 (T 0) (ledC 26 (T 1) (ledC 35 (T 2) (ledC 44 (T 3) (ledC 53 (T 4) (ledC 62 (T 5) (ledC 71 (T 6) (ledC 80 (T 7) L))))))))) (h 89 (ledC 98 (T 9) g))
  · exact congrArg (fun L : PW => hd17 (hpP P t cs n b sv sf) sl pl ks rr (ledC 17 (T 0) (ledC 26 (T 1) (ledC 35 (T 2) (ledC 44 (T 3) (ledC 53 (T 4) (ledC 62 (T 5) (ledC 71 (T 6) (ledC 80 (T 7) (ledC 89 (T 8) L)))))))))) (h 98 g)
/-- the order in which a ledger's cells are copied -/
def rg (i : Nat) : Nat := if i < 6 then 0 else if i < 12 then 1 else if i < 18 then 2 else if i < 98 then (if (i - 18) % 10 < 6 then 3 else (i - 18) % 10 - 2) else min 18 (i - 90)
theorem rg_lt (i : Nat) : rg i < 19 := by unfold rg; repeat' split
                                          all_goals omega
theorem rg_0 {k : Nat} (h : k < 6) : rg k = 0 := if_pos h
theorem rg_1 {k : Nat} (h : k < 6) : rg (6 + k) = 1 := by unfold rg; rw [if_neg (by omega), if_pos (by omega)]
theorem rg_2 {k : Nat} (h : k < 6) : rg (12 + k) = 2 := by unfold rg; rw [if_neg (by omega), if_neg (by omega), if_pos (by omega)]
theorem rg_c {c w : Nat} (hc : c < 8) (hw : w < 10) : rg (ix c w) = if w < 6 then 3 else w - 2 := by
  have e : (ix c w - 18) % 10 = w := by simp only [ix]; omega
  unfold rg; rw [if_neg (by simp only [ix]; omega), if_neg (by simp only [ix]; omega), if_neg (by simp only [ix]; omega), if_pos (by simp only [ix]; omega), e]
theorem rg_3 {j : Nat} (h : j < 48) : rg (ix (j / 6) (j % 6)) = 3 := by rw [rg_c (by omega) (by omega), if_pos (by omega)]
theorem rg_4 {c : Nat} (h : c < 8) : rg (ix c 6) = 4 := rg_c h (by omega)
theorem rg_5 {c : Nat} (h : c < 8) : rg (ix c 7) = 5 := rg_c h (by omega)
theorem rg_6 {c : Nat} (h : c < 8) : rg (ix c 8) = 6 := rg_c h (by omega)
theorem rg_7 {c : Nat} (h : c < 8) : rg (ix c 9) = 7 := rg_c h (by omega)
theorem rg_f {k : Nat} (h : k < 11) : rg (98 + k) = 8 + k := by
  unfold rg; rw [if_neg (by omega), if_neg (by omega), if_neg (by omega), if_neg (by omega)]; omega
theorem rg_fl {q k : Nat} (hk : k < 11) (e : q ≠ 98 + k) : rg q ≠ 8 + k ∨ 109 ≤ q := by
  unfold rg
  split
  · omega
  split
  · omega
  split
  · omega
  split
  · split
    · omega
    · omega
  · omega
/-- x behind s steps of copying from y -/
def stg (x y : Nat → Int32) (s : Nat) : Nat → Int32 := fun i => if rg i < s then y i else x i
theorem stg_y {x y : Nat → Int32} {s i r : Nat} (e : rg i = r) (h : r < s) : stg x y s i = y i := by unfold stg; rw [e, if_pos h]
theorem stg_0 (x y : Nat → Int32) : stg x y 0 = x := by funext i; unfold stg; rw [if_neg (by omega)]
theorem stg_19 (x y : Nat → Int32) : stg x y 19 = y := by funext i; unfold stg; rw [if_pos (rg_lt i)]
theorem stg_k {x y : Nat → Int32} {s i r : Nat} (e : rg i = r) (h : r ≠ s) : stg x y s i = stg x y (s + 1) i := by
  unfold stg; rw [e]
  by_cases q : r < s
  · rw [if_pos q, if_pos (by omega)]
  · rw [if_neg q, if_neg (by omega)]
theorem stg_f {x y : Nat → Int32} {s k : Nat} (hk : k < 11) (h : 8 + k ≠ s) : stg x y s (98 + k) = stg x y (s + 1) (98 + k) := stg_k (rg_f hk) h
theorem led_c0 (x y : Nat → Int32) (bb : Nat) (gg : PW) : (ledC bb (stg x y 0) gg).set 1 (.inl (0, 6, .inl (tr 6 y))) = ledC bb (stg x y 1) gg := by
  show ledA bb (stg x y 0) y (fun k => stg x y 0 (6 + k)) (fun k => stg x y 0 (12 + k)) (fun j => stg x y 0 (ix (j / 6) (j % 6))) (fun c => stg x y 0 (ix c 6)) (fun c => stg x y 0 (ix c 7)) (fun c => stg x y 0 (ix c 8)) (fun c => stg x y 0 (ix c 9)) gg = _
  exact ledA_ext (fun k hk => stg_f hk (by omega)) (fun k hk => (stg_y (rg_0 hk) (by omega)).symm) (fun k hk => stg_k (rg_1 hk) (by omega)) (fun k hk => stg_k (rg_2 hk) (by omega)) (fun k hk => stg_k (rg_3 hk) (by omega)) (fun k hk => stg_k (rg_4 hk) (by omega)) (fun k hk => stg_k (rg_5 hk) (by omega)) (fun k hk => stg_k (rg_6 hk) (by omega)) (fun k hk => stg_k (rg_7 hk) (by omega))
theorem led_c1 (x y : Nat → Int32) (bb : Nat) (gg : PW) : (ledC bb (stg x y 1) gg).set 2 (.inl (0, 6, .inl (tr 6 (fun k => y (6 + k))))) = ledC bb (stg x y 2) gg := by
  show ledA bb (stg x y 1) (stg x y 1) (fun k => y (6 + k)) (fun k => stg x y 1 (12 + k)) (fun j => stg x y 1 (ix (j / 6) (j % 6))) (fun c => stg x y 1 (ix c 6)) (fun c => stg x y 1 (ix c 7)) (fun c => stg x y 1 (ix c 8)) (fun c => stg x y 1 (ix c 9)) gg = _
  exact ledA_ext (fun k hk => stg_f hk (by omega)) (fun k hk => stg_k (rg_0 hk) (by omega)) (fun k hk => (stg_y (rg_1 hk) (by omega)).symm) (fun k hk => stg_k (rg_2 hk) (by omega)) (fun k hk => stg_k (rg_3 hk) (by omega)) (fun k hk => stg_k (rg_4 hk) (by omega)) (fun k hk => stg_k (rg_5 hk) (by omega)) (fun k hk => stg_k (rg_6 hk) (by omega)) (fun k hk => stg_k (rg_7 hk) (by omega))
theorem led_c2 (x y : Nat → Int32) (bb : Nat) (gg : PW) : (ledC bb (stg x y 2) gg).set 3 (.inl (0, 6, .inl (tr 6 (fun k => y (12 + k))))) = ledC bb (stg x y 3) gg := by
  show ledA bb (stg x y 2) (stg x y 2) (fun k => stg x y 2 (6 + k)) (fun k => y (12 + k)) (fun j => stg x y 2 (ix (j / 6) (j % 6))) (fun c => stg x y 2 (ix c 6)) (fun c => stg x y 2 (ix c 7)) (fun c => stg x y 2 (ix c 8)) (fun c => stg x y 2 (ix c 9)) gg = _
  exact ledA_ext (fun k hk => stg_f hk (by omega)) (fun k hk => stg_k (rg_0 hk) (by omega)) (fun k hk => stg_k (rg_1 hk) (by omega)) (fun k hk => (stg_y (rg_2 hk) (by omega)).symm) (fun k hk => stg_k (rg_3 hk) (by omega)) (fun k hk => stg_k (rg_4 hk) (by omega)) (fun k hk => stg_k (rg_5 hk) (by omega)) (fun k hk => stg_k (rg_6 hk) (by omega)) (fun k hk => stg_k (rg_7 hk) (by omega))
theorem led_c3 (x y : Nat → Int32) (bb : Nat) (gg : PW) : (ledC bb (stg x y 3) gg).set 4 (.inl (0, 48, .inl (tr 48 (fun j => y (ix (j / 6) (j % 6)))))) = ledC bb (stg x y 4) gg := by
  show ledA bb (stg x y 3) (stg x y 3) (fun k => stg x y 3 (6 + k)) (fun k => stg x y 3 (12 + k)) (fun j => y (ix (j / 6) (j % 6))) (fun c => stg x y 3 (ix c 6)) (fun c => stg x y 3 (ix c 7)) (fun c => stg x y 3 (ix c 8)) (fun c => stg x y 3 (ix c 9)) gg = _
  exact ledA_ext (fun k hk => stg_f hk (by omega)) (fun k hk => stg_k (rg_0 hk) (by omega)) (fun k hk => stg_k (rg_1 hk) (by omega)) (fun k hk => stg_k (rg_2 hk) (by omega)) (fun k hk => (stg_y (rg_3 hk) (by omega)).symm) (fun k hk => stg_k (rg_4 hk) (by omega)) (fun k hk => stg_k (rg_5 hk) (by omega)) (fun k hk => stg_k (rg_6 hk) (by omega)) (fun k hk => stg_k (rg_7 hk) (by omega))
theorem led_c4 (x y : Nat → Int32) (bb : Nat) (gg : PW) : (ledC bb (stg x y 4) gg).set 5 (.inl (0, 8, .inl (tr 8 (fun c => y (ix c 6))))) = ledC bb (stg x y 5) gg := by
  show ledA bb (stg x y 4) (stg x y 4) (fun k => stg x y 4 (6 + k)) (fun k => stg x y 4 (12 + k)) (fun j => stg x y 4 (ix (j / 6) (j % 6))) (fun c => y (ix c 6)) (fun c => stg x y 4 (ix c 7)) (fun c => stg x y 4 (ix c 8)) (fun c => stg x y 4 (ix c 9)) gg = _
  exact ledA_ext (fun k hk => stg_f hk (by omega)) (fun k hk => stg_k (rg_0 hk) (by omega)) (fun k hk => stg_k (rg_1 hk) (by omega)) (fun k hk => stg_k (rg_2 hk) (by omega)) (fun k hk => stg_k (rg_3 hk) (by omega)) (fun k hk => (stg_y (rg_4 hk) (by omega)).symm) (fun k hk => stg_k (rg_5 hk) (by omega)) (fun k hk => stg_k (rg_6 hk) (by omega)) (fun k hk => stg_k (rg_7 hk) (by omega))
theorem led_c5 (x y : Nat → Int32) (bb : Nat) (gg : PW) : (ledC bb (stg x y 5) gg).set 6 (.inl (0, 8, .inl (tr 8 (fun c => y (ix c 7))))) = ledC bb (stg x y 6) gg := by
  show ledA bb (stg x y 5) (stg x y 5) (fun k => stg x y 5 (6 + k)) (fun k => stg x y 5 (12 + k)) (fun j => stg x y 5 (ix (j / 6) (j % 6))) (fun c => stg x y 5 (ix c 6)) (fun c => y (ix c 7)) (fun c => stg x y 5 (ix c 8)) (fun c => stg x y 5 (ix c 9)) gg = _
  exact ledA_ext (fun k hk => stg_f hk (by omega)) (fun k hk => stg_k (rg_0 hk) (by omega)) (fun k hk => stg_k (rg_1 hk) (by omega)) (fun k hk => stg_k (rg_2 hk) (by omega)) (fun k hk => stg_k (rg_3 hk) (by omega)) (fun k hk => stg_k (rg_4 hk) (by omega)) (fun k hk => (stg_y (rg_5 hk) (by omega)).symm) (fun k hk => stg_k (rg_6 hk) (by omega)) (fun k hk => stg_k (rg_7 hk) (by omega))
theorem led_c6 (x y : Nat → Int32) (bb : Nat) (gg : PW) : (ledC bb (stg x y 6) gg).set 7 (.inl (0, 8, .inl (tr 8 (fun c => y (ix c 8))))) = ledC bb (stg x y 7) gg := by
  show ledA bb (stg x y 6) (stg x y 6) (fun k => stg x y 6 (6 + k)) (fun k => stg x y 6 (12 + k)) (fun j => stg x y 6 (ix (j / 6) (j % 6))) (fun c => stg x y 6 (ix c 6)) (fun c => stg x y 6 (ix c 7)) (fun c => y (ix c 8)) (fun c => stg x y 6 (ix c 9)) gg = _
  exact ledA_ext (fun k hk => stg_f hk (by omega)) (fun k hk => stg_k (rg_0 hk) (by omega)) (fun k hk => stg_k (rg_1 hk) (by omega)) (fun k hk => stg_k (rg_2 hk) (by omega)) (fun k hk => stg_k (rg_3 hk) (by omega)) (fun k hk => stg_k (rg_4 hk) (by omega)) (fun k hk => stg_k (rg_5 hk) (by omega)) (fun k hk => (stg_y (rg_6 hk) (by omega)).symm) (fun k hk => stg_k (rg_7 hk) (by omega))
theorem led_c7 (x y : Nat → Int32) (bb : Nat) (gg : PW) : (ledC bb (stg x y 7) gg).set 8 (.inl (1, 8, .inl (tr 8 (fun c => y (ix c 9))))) = ledC bb (stg x y 8) gg := by
  show ledA bb (stg x y 7) (stg x y 7) (fun k => stg x y 7 (6 + k)) (fun k => stg x y 7 (12 + k)) (fun j => stg x y 7 (ix (j / 6) (j % 6))) (fun c => stg x y 7 (ix c 6)) (fun c => stg x y 7 (ix c 7)) (fun c => stg x y 7 (ix c 8)) (fun c => y (ix c 9)) gg = _
  exact ledA_ext (fun k hk => stg_f hk (by omega)) (fun k hk => stg_k (rg_0 hk) (by omega)) (fun k hk => stg_k (rg_1 hk) (by omega)) (fun k hk => stg_k (rg_2 hk) (by omega)) (fun k hk => stg_k (rg_3 hk) (by omega)) (fun k hk => stg_k (rg_4 hk) (by omega)) (fun k hk => stg_k (rg_5 hk) (by omega)) (fun k hk => stg_k (rg_6 hk) (by omega)) (fun k hk => (stg_y (rg_7 hk) (by omega)).symm)
theorem led_c8 (x y : Nat → Int32) (bb : Nat) (gg : PW) : (ledC bb (stg x y 8) gg).set 0 (.inr (0, ([.ref (bb + 1), .ref (bb + 2), .ref (bb + 3), .ref (bb + 4), .ref (bb + 5), .ref (bb + 6), .ref (bb + 7), .ref (bb + 8), .int (stg x y 8 98), .int (stg x y 8 99), .int (stg x y 8 100), .int (stg x y 8 101), .int (stg x y 8 102), .int (stg x y 8 103), .int (stg x y 8 104), .int (stg x y 8 105), .int (stg x y 8 106), .int (stg x y 8 107), .int (stg x y 8 108)] : List Value).set 8 (.int (y 98)))) = ledC bb (stg x y 9) gg := by
  rw [led_f98]
  exact ledC_ext (fun q hq => by
    by_cases e : q = 98
    · subst e; rw [upd_s]; exact (stg_y (rg_f (k := 0) (by omega)) (by omega)).symm
    · rw [upd_n _ _ e]
      unfold stg
      have e2 : rg q ≠ 8 := (rg_fl (k := 0) (by omega) e).resolve_right (by omega)
      by_cases q2 : rg q < 8
      · rw [if_pos q2, if_pos (by omega)]
      · rw [if_neg q2, if_neg (by omega)])
theorem led_c9 (x y : Nat → Int32) (bb : Nat) (gg : PW) : (ledC bb (stg x y 9) gg).set 0 (.inr (0, ([.ref (bb + 1), .ref (bb + 2), .ref (bb + 3), .ref (bb + 4), .ref (bb + 5), .ref (bb + 6), .ref (bb + 7), .ref (bb + 8), .int (stg x y 9 98), .int (stg x y 9 99), .int (stg x y 9 100), .int (stg x y 9 101), .int (stg x y 9 102), .int (stg x y 9 103), .int (stg x y 9 104), .int (stg x y 9 105), .int (stg x y 9 106), .int (stg x y 9 107), .int (stg x y 9 108)] : List Value).set 9 (.int (y 99)))) = ledC bb (stg x y 10) gg := by
  rw [led_f99]
  exact ledC_ext (fun q hq => by
    by_cases e : q = 99
    · subst e; rw [upd_s]; exact (stg_y (rg_f (k := 1) (by omega)) (by omega)).symm
    · rw [upd_n _ _ e]
      unfold stg
      have e2 : rg q ≠ 9 := (rg_fl (k := 1) (by omega) e).resolve_right (by omega)
      by_cases q2 : rg q < 9
      · rw [if_pos q2, if_pos (by omega)]
      · rw [if_neg q2, if_neg (by omega)])
theorem led_c10 (x y : Nat → Int32) (bb : Nat) (gg : PW) : (ledC bb (stg x y 10) gg).set 0 (.inr (0, ([.ref (bb + 1), .ref (bb + 2), .ref (bb + 3), .ref (bb + 4), .ref (bb + 5), .ref (bb + 6), .ref (bb + 7), .ref (bb + 8), .int (stg x y 10 98), .int (stg x y 10 99), .int (stg x y 10 100), .int (stg x y 10 101), .int (stg x y 10 102), .int (stg x y 10 103), .int (stg x y 10 104), .int (stg x y 10 105), .int (stg x y 10 106), .int (stg x y 10 107), .int (stg x y 10 108)] : List Value).set 10 (.int (y 100)))) = ledC bb (stg x y 11) gg := by
  rw [led_f100]
  exact ledC_ext (fun q hq => by
    by_cases e : q = 100
    · subst e; rw [upd_s]; exact (stg_y (rg_f (k := 2) (by omega)) (by omega)).symm
    · rw [upd_n _ _ e]
      unfold stg
      have e2 : rg q ≠ 10 := (rg_fl (k := 2) (by omega) e).resolve_right (by omega)
      by_cases q2 : rg q < 10
      · rw [if_pos q2, if_pos (by omega)]
      · rw [if_neg q2, if_neg (by omega)])
theorem led_c11 (x y : Nat → Int32) (bb : Nat) (gg : PW) : (ledC bb (stg x y 11) gg).set 0 (.inr (0, ([.ref (bb + 1), .ref (bb + 2), .ref (bb + 3), .ref (bb + 4), .ref (bb + 5), .ref (bb + 6), .ref (bb + 7), .ref (bb + 8), .int (stg x y 11 98), .int (stg x y 11 99), .int (stg x y 11 100), .int (stg x y 11 101), .int (stg x y 11 102), .int (stg x y 11 103), .int (stg x y 11 104), .int (stg x y 11 105), .int (stg x y 11 106), .int (stg x y 11 107), .int (stg x y 11 108)] : List Value).set 11 (.int (y 101)))) = ledC bb (stg x y 12) gg := by
  rw [led_f101]
  exact ledC_ext (fun q hq => by
    by_cases e : q = 101
    · subst e; rw [upd_s]; exact (stg_y (rg_f (k := 3) (by omega)) (by omega)).symm
    · rw [upd_n _ _ e]
      unfold stg
      have e2 : rg q ≠ 11 := (rg_fl (k := 3) (by omega) e).resolve_right (by omega)
      by_cases q2 : rg q < 11
      · rw [if_pos q2, if_pos (by omega)]
      · rw [if_neg q2, if_neg (by omega)])
theorem led_c12 (x y : Nat → Int32) (bb : Nat) (gg : PW) : (ledC bb (stg x y 12) gg).set 0 (.inr (0, ([.ref (bb + 1), .ref (bb + 2), .ref (bb + 3), .ref (bb + 4), .ref (bb + 5), .ref (bb + 6), .ref (bb + 7), .ref (bb + 8), .int (stg x y 12 98), .int (stg x y 12 99), .int (stg x y 12 100), .int (stg x y 12 101), .int (stg x y 12 102), .int (stg x y 12 103), .int (stg x y 12 104), .int (stg x y 12 105), .int (stg x y 12 106), .int (stg x y 12 107), .int (stg x y 12 108)] : List Value).set 12 (.int (y 102)))) = ledC bb (stg x y 13) gg := by
  rw [led_f102]
  exact ledC_ext (fun q hq => by
    by_cases e : q = 102
    · subst e; rw [upd_s]; exact (stg_y (rg_f (k := 4) (by omega)) (by omega)).symm
    · rw [upd_n _ _ e]
      unfold stg
      have e2 : rg q ≠ 12 := (rg_fl (k := 4) (by omega) e).resolve_right (by omega)
      by_cases q2 : rg q < 12
      · rw [if_pos q2, if_pos (by omega)]
      · rw [if_neg q2, if_neg (by omega)])
theorem led_c13 (x y : Nat → Int32) (bb : Nat) (gg : PW) : (ledC bb (stg x y 13) gg).set 0 (.inr (0, ([.ref (bb + 1), .ref (bb + 2), .ref (bb + 3), .ref (bb + 4), .ref (bb + 5), .ref (bb + 6), .ref (bb + 7), .ref (bb + 8), .int (stg x y 13 98), .int (stg x y 13 99), .int (stg x y 13 100), .int (stg x y 13 101), .int (stg x y 13 102), .int (stg x y 13 103), .int (stg x y 13 104), .int (stg x y 13 105), .int (stg x y 13 106), .int (stg x y 13 107), .int (stg x y 13 108)] : List Value).set 13 (.int (y 103)))) = ledC bb (stg x y 14) gg := by
  rw [led_f103]
  exact ledC_ext (fun q hq => by
    by_cases e : q = 103
    · subst e; rw [upd_s]; exact (stg_y (rg_f (k := 5) (by omega)) (by omega)).symm
    · rw [upd_n _ _ e]
      unfold stg
      have e2 : rg q ≠ 13 := (rg_fl (k := 5) (by omega) e).resolve_right (by omega)
      by_cases q2 : rg q < 13
      · rw [if_pos q2, if_pos (by omega)]
      · rw [if_neg q2, if_neg (by omega)])
theorem led_c14 (x y : Nat → Int32) (bb : Nat) (gg : PW) : (ledC bb (stg x y 14) gg).set 0 (.inr (0, ([.ref (bb + 1), .ref (bb + 2), .ref (bb + 3), .ref (bb + 4), .ref (bb + 5), .ref (bb + 6), .ref (bb + 7), .ref (bb + 8), .int (stg x y 14 98), .int (stg x y 14 99), .int (stg x y 14 100), .int (stg x y 14 101), .int (stg x y 14 102), .int (stg x y 14 103), .int (stg x y 14 104), .int (stg x y 14 105), .int (stg x y 14 106), .int (stg x y 14 107), .int (stg x y 14 108)] : List Value).set 14 (.int (y 104)))) = ledC bb (stg x y 15) gg := by
  rw [led_f104]
  exact ledC_ext (fun q hq => by
    by_cases e : q = 104
    · subst e; rw [upd_s]; exact (stg_y (rg_f (k := 6) (by omega)) (by omega)).symm
    · rw [upd_n _ _ e]
      unfold stg
      have e2 : rg q ≠ 14 := (rg_fl (k := 6) (by omega) e).resolve_right (by omega)
      by_cases q2 : rg q < 14
      · rw [if_pos q2, if_pos (by omega)]
      · rw [if_neg q2, if_neg (by omega)])
theorem led_c15 (x y : Nat → Int32) (bb : Nat) (gg : PW) : (ledC bb (stg x y 15) gg).set 0 (.inr (0, ([.ref (bb + 1), .ref (bb + 2), .ref (bb + 3), .ref (bb + 4), .ref (bb + 5), .ref (bb + 6), .ref (bb + 7), .ref (bb + 8), .int (stg x y 15 98), .int (stg x y 15 99), .int (stg x y 15 100), .int (stg x y 15 101), .int (stg x y 15 102), .int (stg x y 15 103), .int (stg x y 15 104), .int (stg x y 15 105), .int (stg x y 15 106), .int (stg x y 15 107), .int (stg x y 15 108)] : List Value).set 15 (.int (y 105)))) = ledC bb (stg x y 16) gg := by
  rw [led_f105]
  exact ledC_ext (fun q hq => by
    by_cases e : q = 105
    · subst e; rw [upd_s]; exact (stg_y (rg_f (k := 7) (by omega)) (by omega)).symm
    · rw [upd_n _ _ e]
      unfold stg
      have e2 : rg q ≠ 15 := (rg_fl (k := 7) (by omega) e).resolve_right (by omega)
      by_cases q2 : rg q < 15
      · rw [if_pos q2, if_pos (by omega)]
      · rw [if_neg q2, if_neg (by omega)])
theorem led_c16 (x y : Nat → Int32) (bb : Nat) (gg : PW) : (ledC bb (stg x y 16) gg).set 0 (.inr (0, ([.ref (bb + 1), .ref (bb + 2), .ref (bb + 3), .ref (bb + 4), .ref (bb + 5), .ref (bb + 6), .ref (bb + 7), .ref (bb + 8), .int (stg x y 16 98), .int (stg x y 16 99), .int (stg x y 16 100), .int (stg x y 16 101), .int (stg x y 16 102), .int (stg x y 16 103), .int (stg x y 16 104), .int (stg x y 16 105), .int (stg x y 16 106), .int (stg x y 16 107), .int (stg x y 16 108)] : List Value).set 16 (.int (y 106)))) = ledC bb (stg x y 17) gg := by
  rw [led_f106]
  exact ledC_ext (fun q hq => by
    by_cases e : q = 106
    · subst e; rw [upd_s]; exact (stg_y (rg_f (k := 8) (by omega)) (by omega)).symm
    · rw [upd_n _ _ e]
      unfold stg
      have e2 : rg q ≠ 16 := (rg_fl (k := 8) (by omega) e).resolve_right (by omega)
      by_cases q2 : rg q < 16
      · rw [if_pos q2, if_pos (by omega)]
      · rw [if_neg q2, if_neg (by omega)])
theorem led_c17 (x y : Nat → Int32) (bb : Nat) (gg : PW) : (ledC bb (stg x y 17) gg).set 0 (.inr (0, ([.ref (bb + 1), .ref (bb + 2), .ref (bb + 3), .ref (bb + 4), .ref (bb + 5), .ref (bb + 6), .ref (bb + 7), .ref (bb + 8), .int (stg x y 17 98), .int (stg x y 17 99), .int (stg x y 17 100), .int (stg x y 17 101), .int (stg x y 17 102), .int (stg x y 17 103), .int (stg x y 17 104), .int (stg x y 17 105), .int (stg x y 17 106), .int (stg x y 17 107), .int (stg x y 17 108)] : List Value).set 17 (.int (y 107)))) = ledC bb (stg x y 18) gg := by
  rw [led_f107]
  exact ledC_ext (fun q hq => by
    by_cases e : q = 107
    · subst e; rw [upd_s]; exact (stg_y (rg_f (k := 9) (by omega)) (by omega)).symm
    · rw [upd_n _ _ e]
      unfold stg
      have e2 : rg q ≠ 17 := (rg_fl (k := 9) (by omega) e).resolve_right (by omega)
      by_cases q2 : rg q < 17
      · rw [if_pos q2, if_pos (by omega)]
      · rw [if_neg q2, if_neg (by omega)])
theorem led_c18 (x y : Nat → Int32) (bb : Nat) (gg : PW) : (ledC bb (stg x y 18) gg).set 0 (.inr (0, ([.ref (bb + 1), .ref (bb + 2), .ref (bb + 3), .ref (bb + 4), .ref (bb + 5), .ref (bb + 6), .ref (bb + 7), .ref (bb + 8), .int (stg x y 18 98), .int (stg x y 18 99), .int (stg x y 18 100), .int (stg x y 18 101), .int (stg x y 18 102), .int (stg x y 18 103), .int (stg x y 18 104), .int (stg x y 18 105), .int (stg x y 18 106), .int (stg x y 18 107), .int (stg x y 18 108)] : List Value).set 18 (.int (y 108)))) = ledC bb (stg x y 19) gg := by
  rw [led_f108]
  exact ledC_ext (fun q hq => by
    by_cases e : q = 108
    · subst e; rw [upd_s]; exact (stg_y (rg_f (k := 10) (by omega)) (by omega)).symm
    · rw [upd_n _ _ e]
      unfold stg
      have e2 : rg q ≠ 18 := (rg_fl (k := 10) (by omega) e).resolve_right (by omega)
      by_cases q2 : rg q < 18
      · rw [if_pos q2, if_pos (by omega)]
      · rw [if_neg q2, if_neg (by omega)])
theorem gSys : Cond.initialized "java/lang/System" ∈ Gw := g14
set_option maxRecDepth 4000 in
set_option maxHeartbeats 1000000 in
theorem c0_copy (P : Nat → va_E) (t cs sl pl ks rr : Nat → Int32) (n b0 : Nat) (sv : Nat → Nat) (sf : Nat → Int32) (T : Nat → Nat → Int32) (g : PW) {a b : Nat} (ha : a < 10) (hb : b < 10) (hab : b ≠ a) (hB : ∀ i, i < 8 → fits .boolean (.int (tr 8 (fun c => T b (ix c 9)) i)) = true) : Ct mX0_copyFrom [.ref (17 + 9 * a), .ref (17 + 9 * b)] (hw P t cs sl pl ks rr n b0 sv sf T g) (d1 none (hw P t cs sl pl ks rr n b0 sv sf (updT T a (T b)) g)) nx := by
  refine ct_of 1 kX0_copyFrom.1 rfl (Nat.le_of_ble_eq_true rfl) (fun v u h => by obtain ⟨rfl, rfl⟩ := h; exact trivial) ?_
  show Ev _ _ _ 0 0 [(0, .ref (17 + 9 * a)), (1, .ref (17 + 9 * b))] [] _
  refine ev_w (w' := hw P t cs sl pl ks rr n b0 sv sf (updT T a (stg (T a) (T b) 0)) g) (by rw [stg_0, updT_self]) ?_
  refine ev_aload_n 1 dX0_copyFrom_0 rfl rfl ?_
  refine ev_getfield 0 dX0_copyFrom_1 foX0_9 (hw_g0 P t cs sl pl ks rr n b0 sv sf (updT T a (stg (T a) (T b) 0)) g hb) rfl ?_
  refine ev_iconst (nI 0) dX0_copyFrom_4 rfl ?_
  refine ev_aload_n 0 dX0_copyFrom_5 rfl rfl ?_
  refine ev_getfield 0 dX0_copyFrom_6 foX0_9 (hw_g0 P t cs sl pl ks rr n b0 sv sf (updT T a (stg (T a) (T b) 0)) g ha) rfl ?_
  refine ev_iconst (nI 0) dX0_copyFrom_9 rfl ?_
  refine ev_bipush (nI 6) dX0_copyFrom_10 rfl ?_
  refine ev_copyi dX0_copyFrom_12 g320 ⟨g322, g321, gSys⟩ (hw_g1 P t cs sl pl ks rr n b0 sv sf (updT T a (stg (T a) (T b) 0)) g hb) (hw_g1 P t cs sl pl ks rr n b0 sv sf (updT T a (stg (T a) (T b) 0)) g ha) (by decide) rfl ⟨by decide, by decide⟩ (hw_s1 P t cs sl pl ks rr n b0 sv sf (updT T a (stg (T a) (T b) 0)) g ha (fun _ => .inl (0, 6, .inl (tr 6 (updT T a (stg (T a) (T b) 0) b)))) (stg (T a) (T b) 1) (fun bb gg => by rw [updT_s, updT_n _ _ hab]; exact led_c0 _ _ _ _)) ?_
  refine ev_w (w' := hw P t cs sl pl ks rr n b0 sv sf (updT T a (stg (T a) (T b) 1)) g) (by rw [updT_2]) ?_
  refine ev_aload_n 1 dX0_copyFrom_15 rfl rfl ?_
  refine ev_getfield 1 dX0_copyFrom_16 foX0_15 (hw_g0 P t cs sl pl ks rr n b0 sv sf (updT T a (stg (T a) (T b) 1)) g hb) rfl ?_
  refine ev_iconst (nI 0) dX0_copyFrom_19 rfl ?_
  refine ev_aload_n 0 dX0_copyFrom_20 rfl rfl ?_
  refine ev_getfield 1 dX0_copyFrom_21 foX0_15 (hw_g0 P t cs sl pl ks rr n b0 sv sf (updT T a (stg (T a) (T b) 1)) g ha) rfl ?_
  refine ev_iconst (nI 0) dX0_copyFrom_24 rfl ?_
  refine ev_bipush (nI 6) dX0_copyFrom_25 rfl ?_
  refine ev_copyi dX0_copyFrom_27 g320 ⟨g322, g321, gSys⟩ (hw_g2 P t cs sl pl ks rr n b0 sv sf (updT T a (stg (T a) (T b) 1)) g hb) (hw_g2 P t cs sl pl ks rr n b0 sv sf (updT T a (stg (T a) (T b) 1)) g ha) (by decide) rfl ⟨by decide, by decide⟩ (hw_s2 P t cs sl pl ks rr n b0 sv sf (updT T a (stg (T a) (T b) 1)) g ha (fun _ => .inl (0, 6, .inl (tr 6 (fun k => updT T a (stg (T a) (T b) 1) b (6 + k))))) (stg (T a) (T b) 2) (fun bb gg => by rw [updT_s, updT_n _ _ hab]; exact led_c1 _ _ _ _)) ?_
  refine ev_w (w' := hw P t cs sl pl ks rr n b0 sv sf (updT T a (stg (T a) (T b) 2)) g) (by rw [updT_2]) ?_
  refine ev_aload_n 1 dX0_copyFrom_30 rfl rfl ?_
  refine ev_getfield 2 dX0_copyFrom_31 foX0_18 (hw_g0 P t cs sl pl ks rr n b0 sv sf (updT T a (stg (T a) (T b) 2)) g hb) rfl ?_
  refine ev_iconst (nI 0) dX0_copyFrom_34 rfl ?_
  refine ev_aload_n 0 dX0_copyFrom_35 rfl rfl ?_
  refine ev_getfield 2 dX0_copyFrom_36 foX0_18 (hw_g0 P t cs sl pl ks rr n b0 sv sf (updT T a (stg (T a) (T b) 2)) g ha) rfl ?_
  refine ev_iconst (nI 0) dX0_copyFrom_39 rfl ?_
  refine ev_bipush (nI 6) dX0_copyFrom_40 rfl ?_
  refine ev_copyi dX0_copyFrom_42 g320 ⟨g322, g321, gSys⟩ (hw_g3 P t cs sl pl ks rr n b0 sv sf (updT T a (stg (T a) (T b) 2)) g hb) (hw_g3 P t cs sl pl ks rr n b0 sv sf (updT T a (stg (T a) (T b) 2)) g ha) (by decide) rfl ⟨by decide, by decide⟩ (hw_s3 P t cs sl pl ks rr n b0 sv sf (updT T a (stg (T a) (T b) 2)) g ha (fun _ => .inl (0, 6, .inl (tr 6 (fun k => updT T a (stg (T a) (T b) 2) b (12 + k))))) (stg (T a) (T b) 3) (fun bb gg => by rw [updT_s, updT_n _ _ hab]; exact led_c2 _ _ _ _)) ?_
  refine ev_w (w' := hw P t cs sl pl ks rr n b0 sv sf (updT T a (stg (T a) (T b) 3)) g) (by rw [updT_2]) ?_
  refine ev_aload_n 1 dX0_copyFrom_45 rfl rfl ?_
  refine ev_getfield 3 dX0_copyFrom_46 foX0_21 (hw_g0 P t cs sl pl ks rr n b0 sv sf (updT T a (stg (T a) (T b) 3)) g hb) rfl ?_
  refine ev_iconst (nI 0) dX0_copyFrom_49 rfl ?_
  refine ev_aload_n 0 dX0_copyFrom_50 rfl rfl ?_
  refine ev_getfield 3 dX0_copyFrom_51 foX0_21 (hw_g0 P t cs sl pl ks rr n b0 sv sf (updT T a (stg (T a) (T b) 3)) g ha) rfl ?_
  refine ev_iconst (nI 0) dX0_copyFrom_54 rfl ?_
  refine ev_bipush (nI 48) dX0_copyFrom_55 rfl ?_
  refine ev_copyi dX0_copyFrom_57 g320 ⟨g322, g321, gSys⟩ (hw_g4 P t cs sl pl ks rr n b0 sv sf (updT T a (stg (T a) (T b) 3)) g hb) (hw_g4 P t cs sl pl ks rr n b0 sv sf (updT T a (stg (T a) (T b) 3)) g ha) (by decide) rfl ⟨by decide, by decide⟩ (hw_s4 P t cs sl pl ks rr n b0 sv sf (updT T a (stg (T a) (T b) 3)) g ha (fun _ => .inl (0, 48, .inl (tr 48 (fun j => updT T a (stg (T a) (T b) 3) b (ix (j / 6) (j % 6)))))) (stg (T a) (T b) 4) (fun bb gg => by rw [updT_s, updT_n _ _ hab]; exact led_c3 _ _ _ _)) ?_
  refine ev_w (w' := hw P t cs sl pl ks rr n b0 sv sf (updT T a (stg (T a) (T b) 4)) g) (by rw [updT_2]) ?_
  refine ev_aload_n 1 dX0_copyFrom_60 rfl rfl ?_
  refine ev_getfield 4 dX0_copyFrom_61 foX0_24 (hw_g0 P t cs sl pl ks rr n b0 sv sf (updT T a (stg (T a) (T b) 4)) g hb) rfl ?_
  refine ev_iconst (nI 0) dX0_copyFrom_64 rfl ?_
  refine ev_aload_n 0 dX0_copyFrom_65 rfl rfl ?_
  refine ev_getfield 4 dX0_copyFrom_66 foX0_24 (hw_g0 P t cs sl pl ks rr n b0 sv sf (updT T a (stg (T a) (T b) 4)) g ha) rfl ?_
  refine ev_iconst (nI 0) dX0_copyFrom_69 rfl ?_
  refine ev_bipush (nI 8) dX0_copyFrom_70 rfl ?_
  refine ev_copyi dX0_copyFrom_72 g320 ⟨g322, g321, gSys⟩ (hw_g5 P t cs sl pl ks rr n b0 sv sf (updT T a (stg (T a) (T b) 4)) g hb) (hw_g5 P t cs sl pl ks rr n b0 sv sf (updT T a (stg (T a) (T b) 4)) g ha) (by decide) rfl ⟨by decide, by decide⟩ (hw_s5 P t cs sl pl ks rr n b0 sv sf (updT T a (stg (T a) (T b) 4)) g ha (fun _ => .inl (0, 8, .inl (tr 8 (fun c => updT T a (stg (T a) (T b) 4) b (ix c 6))))) (stg (T a) (T b) 5) (fun bb gg => by rw [updT_s, updT_n _ _ hab]; exact led_c4 _ _ _ _)) ?_
  refine ev_w (w' := hw P t cs sl pl ks rr n b0 sv sf (updT T a (stg (T a) (T b) 5)) g) (by rw [updT_2]) ?_
  refine ev_aload_n 1 dX0_copyFrom_75 rfl rfl ?_
  refine ev_getfield 5 dX0_copyFrom_76 foX0_27 (hw_g0 P t cs sl pl ks rr n b0 sv sf (updT T a (stg (T a) (T b) 5)) g hb) rfl ?_
  refine ev_iconst (nI 0) dX0_copyFrom_79 rfl ?_
  refine ev_aload_n 0 dX0_copyFrom_80 rfl rfl ?_
  refine ev_getfield 5 dX0_copyFrom_81 foX0_27 (hw_g0 P t cs sl pl ks rr n b0 sv sf (updT T a (stg (T a) (T b) 5)) g ha) rfl ?_
  refine ev_iconst (nI 0) dX0_copyFrom_84 rfl ?_
  refine ev_bipush (nI 8) dX0_copyFrom_85 rfl ?_
  refine ev_copyi dX0_copyFrom_87 g320 ⟨g322, g321, gSys⟩ (hw_g6 P t cs sl pl ks rr n b0 sv sf (updT T a (stg (T a) (T b) 5)) g hb) (hw_g6 P t cs sl pl ks rr n b0 sv sf (updT T a (stg (T a) (T b) 5)) g ha) (by decide) rfl ⟨by decide, by decide⟩ (hw_s6 P t cs sl pl ks rr n b0 sv sf (updT T a (stg (T a) (T b) 5)) g ha (fun _ => .inl (0, 8, .inl (tr 8 (fun c => updT T a (stg (T a) (T b) 5) b (ix c 7))))) (stg (T a) (T b) 6) (fun bb gg => by rw [updT_s, updT_n _ _ hab]; exact led_c5 _ _ _ _)) ?_
  refine ev_w (w' := hw P t cs sl pl ks rr n b0 sv sf (updT T a (stg (T a) (T b) 6)) g) (by rw [updT_2]) ?_
  refine ev_aload_n 1 dX0_copyFrom_90 rfl rfl ?_
  refine ev_getfield 6 dX0_copyFrom_91 foX0_30 (hw_g0 P t cs sl pl ks rr n b0 sv sf (updT T a (stg (T a) (T b) 6)) g hb) rfl ?_
  refine ev_iconst (nI 0) dX0_copyFrom_94 rfl ?_
  refine ev_aload_n 0 dX0_copyFrom_95 rfl rfl ?_
  refine ev_getfield 6 dX0_copyFrom_96 foX0_30 (hw_g0 P t cs sl pl ks rr n b0 sv sf (updT T a (stg (T a) (T b) 6)) g ha) rfl ?_
  refine ev_iconst (nI 0) dX0_copyFrom_99 rfl ?_
  refine ev_bipush (nI 8) dX0_copyFrom_100 rfl ?_
  refine ev_copyi dX0_copyFrom_102 g320 ⟨g322, g321, gSys⟩ (hw_g7 P t cs sl pl ks rr n b0 sv sf (updT T a (stg (T a) (T b) 6)) g hb) (hw_g7 P t cs sl pl ks rr n b0 sv sf (updT T a (stg (T a) (T b) 6)) g ha) (by decide) rfl ⟨by decide, by decide⟩ (hw_s7 P t cs sl pl ks rr n b0 sv sf (updT T a (stg (T a) (T b) 6)) g ha (fun _ => .inl (0, 8, .inl (tr 8 (fun c => updT T a (stg (T a) (T b) 6) b (ix c 8))))) (stg (T a) (T b) 7) (fun bb gg => by rw [updT_s, updT_n _ _ hab]; exact led_c6 _ _ _ _)) ?_
  refine ev_w (w' := hw P t cs sl pl ks rr n b0 sv sf (updT T a (stg (T a) (T b) 7)) g) (by rw [updT_2]) ?_
  refine ev_aload_n 1 dX0_copyFrom_105 rfl rfl ?_
  refine ev_getfield 7 dX0_copyFrom_106 foX0_33 (hw_g0 P t cs sl pl ks rr n b0 sv sf (updT T a (stg (T a) (T b) 7)) g hb) rfl ?_
  refine ev_iconst (nI 0) dX0_copyFrom_109 rfl ?_
  refine ev_aload_n 0 dX0_copyFrom_110 rfl rfl ?_
  refine ev_getfield 7 dX0_copyFrom_111 foX0_33 (hw_g0 P t cs sl pl ks rr n b0 sv sf (updT T a (stg (T a) (T b) 7)) g ha) rfl ?_
  refine ev_iconst (nI 0) dX0_copyFrom_114 rfl ?_
  refine ev_bipush (nI 8) dX0_copyFrom_115 rfl ?_
  refine ev_copyb dX0_copyFrom_117 g320 ⟨g322, g321, gSys⟩ (hw_g8 P t cs sl pl ks rr n b0 sv sf (updT T a (stg (T a) (T b) 7)) g hb) (hw_g8 P t cs sl pl ks rr n b0 sv sf (updT T a (stg (T a) (T b) 7)) g ha) (by decide) rfl (by rw [updT_n _ _ hab]; exact hB) ⟨by decide, by decide⟩ (hw_s8 P t cs sl pl ks rr n b0 sv sf (updT T a (stg (T a) (T b) 7)) g ha (fun _ => .inl (1, 8, .inl (tr 8 (fun c => updT T a (stg (T a) (T b) 7) b (ix c 9))))) (stg (T a) (T b) 8) (fun bb gg => by rw [updT_s, updT_n _ _ hab]; exact led_c7 _ _ _ _)) ?_
  refine ev_w (w' := hw P t cs sl pl ks rr n b0 sv sf (updT T a (stg (T a) (T b) 8)) g) (by rw [updT_2]) ?_
  refine ev_aload_n 0 dX0_copyFrom_120 rfl rfl ?_
  refine ev_aload_n 1 dX0_copyFrom_121 rfl rfl ?_
  refine ev_getfield 8 dX0_copyFrom_122 foX0_37 (hw_g0 P t cs sl pl ks rr n b0 sv sf (updT T a (stg (T a) (T b) 8)) g hb) rfl ?_
  refine ev_top (T b 98) (by rw [updT_n _ _ hab]) ?_
  refine ev_putfield 8 dX0_copyFrom_125 fpX0_37 (hw_g0 P t cs sl pl ks rr n b0 sv sf (updT T a (stg (T a) (T b) 8)) g ha) (Nat.le_of_ble_eq_true rfl) (fun _ => rfl) (fun _ => rfl) (hw_s0 P t cs sl pl ks rr n b0 sv sf (updT T a (stg (T a) (T b) 8)) g ha (fun bb => .inr (0, ([.ref (bb + 1), .ref (bb + 2), .ref (bb + 3), .ref (bb + 4), .ref (bb + 5), .ref (bb + 6), .ref (bb + 7), .ref (bb + 8), .int (updT T a (stg (T a) (T b) 8) a 98), .int (updT T a (stg (T a) (T b) 8) a 99), .int (updT T a (stg (T a) (T b) 8) a 100), .int (updT T a (stg (T a) (T b) 8) a 101), .int (updT T a (stg (T a) (T b) 8) a 102), .int (updT T a (stg (T a) (T b) 8) a 103), .int (updT T a (stg (T a) (T b) 8) a 104), .int (updT T a (stg (T a) (T b) 8) a 105), .int (updT T a (stg (T a) (T b) 8) a 106), .int (updT T a (stg (T a) (T b) 8) a 107), .int (updT T a (stg (T a) (T b) 8) a 108)] : List Value).set 8 (.int (T b 98)))) (stg (T a) (T b) 9) (fun bb gg => by rw [updT_s]; exact led_c8 _ _ _ _)) ?_
  refine ev_w (w' := hw P t cs sl pl ks rr n b0 sv sf (updT T a (stg (T a) (T b) 9)) g) (by rw [updT_2]) ?_
  refine ev_aload_n 0 dX0_copyFrom_128 rfl rfl ?_
  refine ev_aload_n 1 dX0_copyFrom_129 rfl rfl ?_
  refine ev_getfield 9 dX0_copyFrom_130 foX0_41 (hw_g0 P t cs sl pl ks rr n b0 sv sf (updT T a (stg (T a) (T b) 9)) g hb) rfl ?_
  refine ev_top (T b 99) (by rw [updT_n _ _ hab]) ?_
  refine ev_putfield 9 dX0_copyFrom_133 fpX0_41 (hw_g0 P t cs sl pl ks rr n b0 sv sf (updT T a (stg (T a) (T b) 9)) g ha) (Nat.le_of_ble_eq_true rfl) (fun _ => rfl) (fun _ => rfl) (hw_s0 P t cs sl pl ks rr n b0 sv sf (updT T a (stg (T a) (T b) 9)) g ha (fun bb => .inr (0, ([.ref (bb + 1), .ref (bb + 2), .ref (bb + 3), .ref (bb + 4), .ref (bb + 5), .ref (bb + 6), .ref (bb + 7), .ref (bb + 8), .int (updT T a (stg (T a) (T b) 9) a 98), .int (updT T a (stg (T a) (T b) 9) a 99), .int (updT T a (stg (T a) (T b) 9) a 100), .int (updT T a (stg (T a) (T b) 9) a 101), .int (updT T a (stg (T a) (T b) 9) a 102), .int (updT T a (stg (T a) (T b) 9) a 103), .int (updT T a (stg (T a) (T b) 9) a 104), .int (updT T a (stg (T a) (T b) 9) a 105), .int (updT T a (stg (T a) (T b) 9) a 106), .int (updT T a (stg (T a) (T b) 9) a 107), .int (updT T a (stg (T a) (T b) 9) a 108)] : List Value).set 9 (.int (T b 99)))) (stg (T a) (T b) 10) (fun bb gg => by rw [updT_s]; exact led_c9 _ _ _ _)) ?_
  refine ev_w (w' := hw P t cs sl pl ks rr n b0 sv sf (updT T a (stg (T a) (T b) 10)) g) (by rw [updT_2]) ?_
  refine ev_aload_n 0 dX0_copyFrom_136 rfl rfl ?_
  refine ev_aload_n 1 dX0_copyFrom_137 rfl rfl ?_
  refine ev_getfield 10 dX0_copyFrom_138 foX0_44 (hw_g0 P t cs sl pl ks rr n b0 sv sf (updT T a (stg (T a) (T b) 10)) g hb) rfl ?_
  refine ev_top (T b 100) (by rw [updT_n _ _ hab]) ?_
  refine ev_putfield 10 dX0_copyFrom_141 fpX0_44 (hw_g0 P t cs sl pl ks rr n b0 sv sf (updT T a (stg (T a) (T b) 10)) g ha) (Nat.le_of_ble_eq_true rfl) (fun _ => rfl) (fun _ => rfl) (hw_s0 P t cs sl pl ks rr n b0 sv sf (updT T a (stg (T a) (T b) 10)) g ha (fun bb => .inr (0, ([.ref (bb + 1), .ref (bb + 2), .ref (bb + 3), .ref (bb + 4), .ref (bb + 5), .ref (bb + 6), .ref (bb + 7), .ref (bb + 8), .int (updT T a (stg (T a) (T b) 10) a 98), .int (updT T a (stg (T a) (T b) 10) a 99), .int (updT T a (stg (T a) (T b) 10) a 100), .int (updT T a (stg (T a) (T b) 10) a 101), .int (updT T a (stg (T a) (T b) 10) a 102), .int (updT T a (stg (T a) (T b) 10) a 103), .int (updT T a (stg (T a) (T b) 10) a 104), .int (updT T a (stg (T a) (T b) 10) a 105), .int (updT T a (stg (T a) (T b) 10) a 106), .int (updT T a (stg (T a) (T b) 10) a 107), .int (updT T a (stg (T a) (T b) 10) a 108)] : List Value).set 10 (.int (T b 100)))) (stg (T a) (T b) 11) (fun bb gg => by rw [updT_s]; exact led_c10 _ _ _ _)) ?_
  refine ev_w (w' := hw P t cs sl pl ks rr n b0 sv sf (updT T a (stg (T a) (T b) 11)) g) (by rw [updT_2]) ?_
  refine ev_aload_n 0 dX0_copyFrom_144 rfl rfl ?_
  refine ev_aload_n 1 dX0_copyFrom_145 rfl rfl ?_
  refine ev_getfield 11 dX0_copyFrom_146 foX0_47 (hw_g0 P t cs sl pl ks rr n b0 sv sf (updT T a (stg (T a) (T b) 11)) g hb) rfl ?_
  refine ev_top (T b 101) (by rw [updT_n _ _ hab]) ?_
  refine ev_putfield 11 dX0_copyFrom_149 fpX0_47 (hw_g0 P t cs sl pl ks rr n b0 sv sf (updT T a (stg (T a) (T b) 11)) g ha) (Nat.le_of_ble_eq_true rfl) (fun _ => rfl) (fun _ => rfl) (hw_s0 P t cs sl pl ks rr n b0 sv sf (updT T a (stg (T a) (T b) 11)) g ha (fun bb => .inr (0, ([.ref (bb + 1), .ref (bb + 2), .ref (bb + 3), .ref (bb + 4), .ref (bb + 5), .ref (bb + 6), .ref (bb + 7), .ref (bb + 8), .int (updT T a (stg (T a) (T b) 11) a 98), .int (updT T a (stg (T a) (T b) 11) a 99), .int (updT T a (stg (T a) (T b) 11) a 100), .int (updT T a (stg (T a) (T b) 11) a 101), .int (updT T a (stg (T a) (T b) 11) a 102), .int (updT T a (stg (T a) (T b) 11) a 103), .int (updT T a (stg (T a) (T b) 11) a 104), .int (updT T a (stg (T a) (T b) 11) a 105), .int (updT T a (stg (T a) (T b) 11) a 106), .int (updT T a (stg (T a) (T b) 11) a 107), .int (updT T a (stg (T a) (T b) 11) a 108)] : List Value).set 11 (.int (T b 101)))) (stg (T a) (T b) 12) (fun bb gg => by rw [updT_s]; exact led_c11 _ _ _ _)) ?_
  refine ev_w (w' := hw P t cs sl pl ks rr n b0 sv sf (updT T a (stg (T a) (T b) 12)) g) (by rw [updT_2]) ?_
  refine ev_aload_n 0 dX0_copyFrom_152 rfl rfl ?_
  refine ev_aload_n 1 dX0_copyFrom_153 rfl rfl ?_
  refine ev_getfield 12 dX0_copyFrom_154 foX0_62 (hw_g0 P t cs sl pl ks rr n b0 sv sf (updT T a (stg (T a) (T b) 12)) g hb) rfl ?_
  refine ev_top (T b 102) (by rw [updT_n _ _ hab]) ?_
  refine ev_putfield 12 dX0_copyFrom_157 fpX0_62 (hw_g0 P t cs sl pl ks rr n b0 sv sf (updT T a (stg (T a) (T b) 12)) g ha) (Nat.le_of_ble_eq_true rfl) (fun _ => rfl) (fun _ => rfl) (hw_s0 P t cs sl pl ks rr n b0 sv sf (updT T a (stg (T a) (T b) 12)) g ha (fun bb => .inr (0, ([.ref (bb + 1), .ref (bb + 2), .ref (bb + 3), .ref (bb + 4), .ref (bb + 5), .ref (bb + 6), .ref (bb + 7), .ref (bb + 8), .int (updT T a (stg (T a) (T b) 12) a 98), .int (updT T a (stg (T a) (T b) 12) a 99), .int (updT T a (stg (T a) (T b) 12) a 100), .int (updT T a (stg (T a) (T b) 12) a 101), .int (updT T a (stg (T a) (T b) 12) a 102), .int (updT T a (stg (T a) (T b) 12) a 103), .int (updT T a (stg (T a) (T b) 12) a 104), .int (updT T a (stg (T a) (T b) 12) a 105), .int (updT T a (stg (T a) (T b) 12) a 106), .int (updT T a (stg (T a) (T b) 12) a 107), .int (updT T a (stg (T a) (T b) 12) a 108)] : List Value).set 12 (.int (T b 102)))) (stg (T a) (T b) 13) (fun bb gg => by rw [updT_s]; exact led_c12 _ _ _ _)) ?_
  refine ev_w (w' := hw P t cs sl pl ks rr n b0 sv sf (updT T a (stg (T a) (T b) 13)) g) (by rw [updT_2]) ?_
  refine ev_aload_n 0 dX0_copyFrom_160 rfl rfl ?_
  refine ev_aload_n 1 dX0_copyFrom_161 rfl rfl ?_
  refine ev_getfield 13 dX0_copyFrom_162 foX0_65 (hw_g0 P t cs sl pl ks rr n b0 sv sf (updT T a (stg (T a) (T b) 13)) g hb) rfl ?_
  refine ev_top (T b 103) (by rw [updT_n _ _ hab]) ?_
  refine ev_putfield 13 dX0_copyFrom_165 fpX0_65 (hw_g0 P t cs sl pl ks rr n b0 sv sf (updT T a (stg (T a) (T b) 13)) g ha) (Nat.le_of_ble_eq_true rfl) (fun _ => rfl) (fun _ => rfl) (hw_s0 P t cs sl pl ks rr n b0 sv sf (updT T a (stg (T a) (T b) 13)) g ha (fun bb => .inr (0, ([.ref (bb + 1), .ref (bb + 2), .ref (bb + 3), .ref (bb + 4), .ref (bb + 5), .ref (bb + 6), .ref (bb + 7), .ref (bb + 8), .int (updT T a (stg (T a) (T b) 13) a 98), .int (updT T a (stg (T a) (T b) 13) a 99), .int (updT T a (stg (T a) (T b) 13) a 100), .int (updT T a (stg (T a) (T b) 13) a 101), .int (updT T a (stg (T a) (T b) 13) a 102), .int (updT T a (stg (T a) (T b) 13) a 103), .int (updT T a (stg (T a) (T b) 13) a 104), .int (updT T a (stg (T a) (T b) 13) a 105), .int (updT T a (stg (T a) (T b) 13) a 106), .int (updT T a (stg (T a) (T b) 13) a 107), .int (updT T a (stg (T a) (T b) 13) a 108)] : List Value).set 13 (.int (T b 103)))) (stg (T a) (T b) 14) (fun bb gg => by rw [updT_s]; exact led_c13 _ _ _ _)) ?_
  refine ev_w (w' := hw P t cs sl pl ks rr n b0 sv sf (updT T a (stg (T a) (T b) 14)) g) (by rw [updT_2]) ?_
  refine ev_aload_n 0 dX0_copyFrom_168 rfl rfl ?_
  refine ev_aload_n 1 dX0_copyFrom_169 rfl rfl ?_
  refine ev_getfield 14 dX0_copyFrom_170 foX0_68 (hw_g0 P t cs sl pl ks rr n b0 sv sf (updT T a (stg (T a) (T b) 14)) g hb) rfl ?_
  refine ev_top (T b 104) (by rw [updT_n _ _ hab]) ?_
  refine ev_putfield 14 dX0_copyFrom_173 fpX0_68 (hw_g0 P t cs sl pl ks rr n b0 sv sf (updT T a (stg (T a) (T b) 14)) g ha) (Nat.le_of_ble_eq_true rfl) (fun _ => rfl) (fun _ => rfl) (hw_s0 P t cs sl pl ks rr n b0 sv sf (updT T a (stg (T a) (T b) 14)) g ha (fun bb => .inr (0, ([.ref (bb + 1), .ref (bb + 2), .ref (bb + 3), .ref (bb + 4), .ref (bb + 5), .ref (bb + 6), .ref (bb + 7), .ref (bb + 8), .int (updT T a (stg (T a) (T b) 14) a 98), .int (updT T a (stg (T a) (T b) 14) a 99), .int (updT T a (stg (T a) (T b) 14) a 100), .int (updT T a (stg (T a) (T b) 14) a 101), .int (updT T a (stg (T a) (T b) 14) a 102), .int (updT T a (stg (T a) (T b) 14) a 103), .int (updT T a (stg (T a) (T b) 14) a 104), .int (updT T a (stg (T a) (T b) 14) a 105), .int (updT T a (stg (T a) (T b) 14) a 106), .int (updT T a (stg (T a) (T b) 14) a 107), .int (updT T a (stg (T a) (T b) 14) a 108)] : List Value).set 14 (.int (T b 104)))) (stg (T a) (T b) 15) (fun bb gg => by rw [updT_s]; exact led_c14 _ _ _ _)) ?_
  refine ev_w (w' := hw P t cs sl pl ks rr n b0 sv sf (updT T a (stg (T a) (T b) 15)) g) (by rw [updT_2]) ?_
  refine ev_aload_n 0 dX0_copyFrom_176 rfl rfl ?_
  refine ev_aload_n 1 dX0_copyFrom_177 rfl rfl ?_
  refine ev_getfield 15 dX0_copyFrom_178 foX0_71 (hw_g0 P t cs sl pl ks rr n b0 sv sf (updT T a (stg (T a) (T b) 15)) g hb) rfl ?_
  refine ev_top (T b 105) (by rw [updT_n _ _ hab]) ?_
  refine ev_putfield 15 dX0_copyFrom_181 fpX0_71 (hw_g0 P t cs sl pl ks rr n b0 sv sf (updT T a (stg (T a) (T b) 15)) g ha) (Nat.le_of_ble_eq_true rfl) (fun _ => rfl) (fun _ => rfl) (hw_s0 P t cs sl pl ks rr n b0 sv sf (updT T a (stg (T a) (T b) 15)) g ha (fun bb => .inr (0, ([.ref (bb + 1), .ref (bb + 2), .ref (bb + 3), .ref (bb + 4), .ref (bb + 5), .ref (bb + 6), .ref (bb + 7), .ref (bb + 8), .int (updT T a (stg (T a) (T b) 15) a 98), .int (updT T a (stg (T a) (T b) 15) a 99), .int (updT T a (stg (T a) (T b) 15) a 100), .int (updT T a (stg (T a) (T b) 15) a 101), .int (updT T a (stg (T a) (T b) 15) a 102), .int (updT T a (stg (T a) (T b) 15) a 103), .int (updT T a (stg (T a) (T b) 15) a 104), .int (updT T a (stg (T a) (T b) 15) a 105), .int (updT T a (stg (T a) (T b) 15) a 106), .int (updT T a (stg (T a) (T b) 15) a 107), .int (updT T a (stg (T a) (T b) 15) a 108)] : List Value).set 15 (.int (T b 105)))) (stg (T a) (T b) 16) (fun bb gg => by rw [updT_s]; exact led_c15 _ _ _ _)) ?_
  refine ev_w (w' := hw P t cs sl pl ks rr n b0 sv sf (updT T a (stg (T a) (T b) 16)) g) (by rw [updT_2]) ?_
  refine ev_aload_n 0 dX0_copyFrom_184 rfl rfl ?_
  refine ev_aload_n 1 dX0_copyFrom_185 rfl rfl ?_
  refine ev_getfield 16 dX0_copyFrom_186 foX0_74 (hw_g0 P t cs sl pl ks rr n b0 sv sf (updT T a (stg (T a) (T b) 16)) g hb) rfl ?_
  refine ev_top (T b 106) (by rw [updT_n _ _ hab]) ?_
  refine ev_putfield 16 dX0_copyFrom_189 fpX0_74 (hw_g0 P t cs sl pl ks rr n b0 sv sf (updT T a (stg (T a) (T b) 16)) g ha) (Nat.le_of_ble_eq_true rfl) (fun _ => rfl) (fun _ => rfl) (hw_s0 P t cs sl pl ks rr n b0 sv sf (updT T a (stg (T a) (T b) 16)) g ha (fun bb => .inr (0, ([.ref (bb + 1), .ref (bb + 2), .ref (bb + 3), .ref (bb + 4), .ref (bb + 5), .ref (bb + 6), .ref (bb + 7), .ref (bb + 8), .int (updT T a (stg (T a) (T b) 16) a 98), .int (updT T a (stg (T a) (T b) 16) a 99), .int (updT T a (stg (T a) (T b) 16) a 100), .int (updT T a (stg (T a) (T b) 16) a 101), .int (updT T a (stg (T a) (T b) 16) a 102), .int (updT T a (stg (T a) (T b) 16) a 103), .int (updT T a (stg (T a) (T b) 16) a 104), .int (updT T a (stg (T a) (T b) 16) a 105), .int (updT T a (stg (T a) (T b) 16) a 106), .int (updT T a (stg (T a) (T b) 16) a 107), .int (updT T a (stg (T a) (T b) 16) a 108)] : List Value).set 16 (.int (T b 106)))) (stg (T a) (T b) 17) (fun bb gg => by rw [updT_s]; exact led_c16 _ _ _ _)) ?_
  refine ev_w (w' := hw P t cs sl pl ks rr n b0 sv sf (updT T a (stg (T a) (T b) 17)) g) (by rw [updT_2]) ?_
  refine ev_aload_n 0 dX0_copyFrom_192 rfl rfl ?_
  refine ev_aload_n 1 dX0_copyFrom_193 rfl rfl ?_
  refine ev_getfield 17 dX0_copyFrom_194 foX0_77 (hw_g0 P t cs sl pl ks rr n b0 sv sf (updT T a (stg (T a) (T b) 17)) g hb) rfl ?_
  refine ev_top (T b 107) (by rw [updT_n _ _ hab]) ?_
  refine ev_putfield 17 dX0_copyFrom_197 fpX0_77 (hw_g0 P t cs sl pl ks rr n b0 sv sf (updT T a (stg (T a) (T b) 17)) g ha) (Nat.le_of_ble_eq_true rfl) (fun _ => rfl) (fun _ => rfl) (hw_s0 P t cs sl pl ks rr n b0 sv sf (updT T a (stg (T a) (T b) 17)) g ha (fun bb => .inr (0, ([.ref (bb + 1), .ref (bb + 2), .ref (bb + 3), .ref (bb + 4), .ref (bb + 5), .ref (bb + 6), .ref (bb + 7), .ref (bb + 8), .int (updT T a (stg (T a) (T b) 17) a 98), .int (updT T a (stg (T a) (T b) 17) a 99), .int (updT T a (stg (T a) (T b) 17) a 100), .int (updT T a (stg (T a) (T b) 17) a 101), .int (updT T a (stg (T a) (T b) 17) a 102), .int (updT T a (stg (T a) (T b) 17) a 103), .int (updT T a (stg (T a) (T b) 17) a 104), .int (updT T a (stg (T a) (T b) 17) a 105), .int (updT T a (stg (T a) (T b) 17) a 106), .int (updT T a (stg (T a) (T b) 17) a 107), .int (updT T a (stg (T a) (T b) 17) a 108)] : List Value).set 17 (.int (T b 107)))) (stg (T a) (T b) 18) (fun bb gg => by rw [updT_s]; exact led_c17 _ _ _ _)) ?_
  refine ev_w (w' := hw P t cs sl pl ks rr n b0 sv sf (updT T a (stg (T a) (T b) 18)) g) (by rw [updT_2]) ?_
  refine ev_aload_n 0 dX0_copyFrom_200 rfl rfl ?_
  refine ev_aload_n 1 dX0_copyFrom_201 rfl rfl ?_
  refine ev_getfield 18 dX0_copyFrom_202 foX0_80 (hw_g0 P t cs sl pl ks rr n b0 sv sf (updT T a (stg (T a) (T b) 18)) g hb) rfl ?_
  refine ev_top (T b 108) (by rw [updT_n _ _ hab]) ?_
  refine ev_putfield 18 dX0_copyFrom_205 fpX0_80 (hw_g0 P t cs sl pl ks rr n b0 sv sf (updT T a (stg (T a) (T b) 18)) g ha) (Nat.le_of_ble_eq_true rfl) (fun _ => rfl) (fun _ => rfl) (hw_s0 P t cs sl pl ks rr n b0 sv sf (updT T a (stg (T a) (T b) 18)) g ha (fun bb => .inr (0, ([.ref (bb + 1), .ref (bb + 2), .ref (bb + 3), .ref (bb + 4), .ref (bb + 5), .ref (bb + 6), .ref (bb + 7), .ref (bb + 8), .int (updT T a (stg (T a) (T b) 18) a 98), .int (updT T a (stg (T a) (T b) 18) a 99), .int (updT T a (stg (T a) (T b) 18) a 100), .int (updT T a (stg (T a) (T b) 18) a 101), .int (updT T a (stg (T a) (T b) 18) a 102), .int (updT T a (stg (T a) (T b) 18) a 103), .int (updT T a (stg (T a) (T b) 18) a 104), .int (updT T a (stg (T a) (T b) 18) a 105), .int (updT T a (stg (T a) (T b) 18) a 106), .int (updT T a (stg (T a) (T b) 18) a 107), .int (updT T a (stg (T a) (T b) 18) a 108)] : List Value).set 18 (.int (T b 108)))) (stg (T a) (T b) 19) (fun bb gg => by rw [updT_s]; exact led_c18 _ _ _ _)) ?_
  refine ev_w (w' := hw P t cs sl pl ks rr n b0 sv sf (updT T a (stg (T a) (T b) 19)) g) (by rw [updT_2]) ?_
  refine ev_w (w' := hw P t cs sl pl ks rr n b0 sv sf (updT T a (T b)) g) (by rw [stg_19]) ?_
  exact ev_return dX0_copyFrom_208 (Nat.le_of_ble_eq_true rfl) ⟨rfl, rfl⟩
