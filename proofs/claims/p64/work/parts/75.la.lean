/-! ===== the law: falls, loans, hours ===== -/
abbrev pE (B : Nat) : PO := fun v u => v = some (.int (nI 1)) ∧ ∃ σ, SW σ u ∧ INV σ ∧ AS B σ
theorem tl_D {M : MT} {po : PO} {px : PX} {k pc : Nat} {L : LV} {x : UInt64} (y : UInt64) {st : List Value} {w : PW} (h : x = y) (kk : Ev M po px k pc L (.double y :: st) w) : Ev M po px k pc L (.double x :: st) w := by rw [h]; exact kk
theorem nI_nlb {a b : Nat} (h : a < b) (hb : b < 2 ^ 31) : ¬ nI b ≤ nI a := Int32.not_le.mpr (nI_lt h hb)
theorem nI_lt10 {a b : Nat} (h : ¬ nI b ≤ nI a) (ha : a < 2 ^ 31) (hb : b < 2 ^ 31) : a < b := by
  rcases Nat.lt_or_ge a b with y | y
  · exact y
  · exact absurd (nI_le y ha) h
theorem nI_ge9 {a b : Nat} (h : nI b ≤ nI a) (ha : a < 2 ^ 31) (hb : b < 2 ^ 31) : b ≤ a := by
  rcases Nat.lt_or_ge a b with y | y
  · exact absurd h (nI_nlb y hb)
  · exact y
set_option maxHeartbeats 1000000 in
theorem c_ifF {σ : Nat → Int32} {w : PW} (hS : SW σ w) (hI : INV σ) {c p : Nat} (hc : c < 8) (hp : p ≤ 100) : Ct mL_ifFallen [.ref 7, .int (nI c), .int (nI p)] w (pV (.int (covI σ c (nI p) (nI 0))) σ) nx := by
  refine ct_of 3 kL_ifFallen.1 rfl (Nat.le_of_ble_eq_true rfl) (fun v u h => by obtain ⟨rfl, -⟩ := h; exact rfl) ?_
  show Ev _ _ _ 0 0 [(0, .ref 7), (1, .int (nI c)), (2, .int (nI p))] [] _
  have H : ∀ (N j : Nat) (u : PW), j + N = 6 → SW σ u → Ev mL_ifFallen (pV (.int (covI σ c (nI p) (nI 0))) σ) nx (4 * j) 5 [(4, .int (nI j)), (3, .int (cfS σ c (nI p) j)), (0, .ref 7), (1, .int (nI c)), (2, .int (nI p))] [] u := by
    intro N
    induction N with
    | zero =>
      intro j u hj hS
      obtain rfl : j = 6 := by omega
      refine ev_iload dL_ifFallen_5 rfl ?_
      refine ev_bipush (nI 6) dL_ifFallen_7 rfl ?_
      refine ev_icmp_ge 53 dL_ifFallen_9 (by decide) (fun h9 => ?_) (fun h9 => absurd (Int32.le_refl _) h9)
      refine ev_aload_n 0 dL_ifFallen_53 rfl rfl ?_
      refine ev_iload_n 1 dL_ifFallen_54 rfl rfl ?_
      refine ev_h1 (K := 80) 1 hS (q_coinsOf hS hc) kX3_coinsOf rfl rfl g432 rfl (by omega) rfl dL_ifFallen_55 (fun u1 S1 => ?_)
      refine ev_iload_n 3 dL_ifFallen_58 rfl rfl ?_
      refine ev_bipush (nI 100) dL_ifFallen_59 rfl ?_
      refine ev_idiv dL_ifFallen_61 (by decide) ?_
      refine ev_iadd dL_ifFallen_62 ?_
      refine ev_top (covI σ c (nI p) (nI 0)) (by rw [cf_cov hI c hp 6 (Nat.le_refl 6)]; rfl) ?_
      exact ev_ireturn dL_ifFallen_63 (by show _ ≤ 100; omega) ⟨rfl, S1⟩
    | succ N ih =>
      intro j u hj hS
      have hj6 : j < 6 := by omega
      refine ev_iload dL_ifFallen_5 rfl ?_
      refine ev_bipush (nI 6) dL_ifFallen_7 rfl ?_
      refine ev_icmp_ge 53 dL_ifFallen_9 (by decide) (fun h9 => absurd h9 (nI_nlb hj6 (by omega))) (fun h9 => ?_)
      refine ev_iload_n 3 dL_ifFallen_12 rfl rfl ?_
      refine ev_aload_n 0 dL_ifFallen_13 rfl rfl ?_
      refine ev_iload_n 1 dL_ifFallen_14 rfl rfl ?_
      refine ev_iload dL_ifFallen_15 rfl ?_
      refine ev_h2 (K := 80) 2 hS (q_piecesOf hS hc hj6) kX3_piecesOf rfl rfl g393 rfl (by omega) rfl dL_ifFallen_17 (fun u2 S2 => ?_)
      refine ev_aload_n 0 dL_ifFallen_20 rfl rfl ?_
      refine ev_iload dL_ifFallen_21 rfl ?_
      refine ev_h1 (K := 80) 1 S2 (q_priceOf S2 hj6) kX3_priceOf rfl rfl g349 rfl (by omega) rfl dL_ifFallen_23 (fun u3 S3 => ?_)
      refine ev_bipush (nI 100) dL_ifFallen_26 rfl ?_
      refine ev_iload_n 2 dL_ifFallen_28 rfl rfl ?_
      refine ev_isub dL_ifFallen_29 ?_
      refine ev_imul dL_ifFallen_30 ?_
      refine ev_bipush (nI 100) dL_ifFallen_31 rfl ?_
      refine ev_idiv dL_ifFallen_33 (by decide) ?_
      refine ev_imul dL_ifFallen_34 ?_
      refine ev_bipush (nI 100) dL_ifFallen_35 rfl ?_
      refine ev_aload_n 0 dL_ifFallen_37 rfl rfl ?_
      refine ev_iload dL_ifFallen_38 rfl ?_
      refine ev_h1 (K := 80) 1 S3 (q_cutOf S3 hj6) kX3_cutOf rfl rfl g361 rfl (by omega) rfl dL_ifFallen_40 (fun u4 S4 => ?_)
      refine ev_isub dL_ifFallen_43 ?_
      refine ev_imul dL_ifFallen_44 ?_
      refine ev_iadd dL_ifFallen_45 ?_
      refine ev_istore_n 3 dL_ifFallen_46 rfl (Nat.le_of_ble_eq_true rfl) rfl ?_
      refine ev_iinc (nI (j + 1)) dL_ifFallen_47 rfl (nI_add j 1) (Nat.le_of_ble_eq_true rfl) rfl ?_
      exact ev_goto 5 dL_ifFallen_50 (by decide) (ev_kk (by omega) (ih (j + 1) _ (by omega) S4))
  refine ev_iconst (nI 0) dL_ifFallen_0 rfl ?_
  refine ev_istore_n 3 dL_ifFallen_1 rfl (Nat.le_of_ble_eq_true rfl) rfl ?_
  refine ev_iconst (nI 0) dL_ifFallen_2 rfl ?_
  refine ev_istore dL_ifFallen_3 (Nat.le_of_ble_eq_true rfl) rfl ?_
  exact H 6 0 _ rfl hS
set_option maxHeartbeats 1000000 in
theorem lent_t {σ : Nat → Int32} {B c N de m : Nat} {x : Int32} {w : PW} (hS : SW σ w) (hI : INV σ) (hA : AS B σ) (hc : c < 8) (hN : N ≤ 396999) (e : covI σ c (nI 0) (nI 1) = nI N) (ed : σ (ix c 7) = nI de) (hb : σ (ix c 9) = 0) (m1 : 1 ≤ m) (m2 : m ≤ 9999) (hm : de + m ≤ N) : Ev mL_isLent (pE B) nx 2 64 [(5, .int (σ 103)), (4, .int (nI de)), (3, .int (nI (N - de))), (0, .ref 7), (1, .int (nI c)), (2, .int x)] [.int (nI m)] w := by
  obtain ⟨a1, a2, a3, a4, a5, a6⟩ := ck_lend hI hc hN e ed hb m2 hm
  refine ev_istore dL_isLent_64 (Nat.le_of_ble_eq_true rfl) rfl ?_
  refine ev_aload_n 0 dL_isLent_66 rfl rfl ?_
  refine ev_iload_n 1 dL_isLent_67 rfl rfl ?_
  refine ev_iload dL_isLent_68 rfl ?_
  refine ev_h2 (K := 30) 3 hS (q_lend hS hI hc m1 m2 hb a1) kX3_lend rfl rfl g480 rfl (Nat.le_of_ble_eq_true rfl) rfl dL_isLent_70 (fun u5 S5 => ?_)
  refine ev_top (nI de + nI m) (a3) ?_
  refine ev_iload dL_isLent_73 rfl ?_
  refine ev_iload dL_isLent_75 rfl ?_
  refine ev_iadd dL_isLent_77 ?_
  refine ev_icmp_ne 117 dL_isLent_78 (by decide) (fun h78 => absurd (rfl) h78) (fun h78 => ?_)
  refine ev_aload_n 0 dL_isLent_81 rfl rfl ?_
  refine ev_iload_n 1 dL_isLent_82 rfl rfl ?_
  refine ev_h1 (K := 30) 1 S5 (q_roomOf S5 hc) kX3_roomOf rfl rfl g468 rfl (Nat.le_of_ble_eq_true rfl) rfl dL_isLent_83 (fun u6 S6 => ?_)
  refine ev_top (nI (N - de) - nI m) (a4) ?_
  refine ev_iload_n 3 dL_isLent_86 rfl rfl ?_
  refine ev_iload dL_isLent_87 rfl ?_
  refine ev_isub dL_isLent_89 ?_
  refine ev_icmp_ne 117 dL_isLent_90 (by decide) (fun h90 => absurd (rfl) h90) (fun h90 => ?_)
  refine ev_aload_n 0 dL_isLent_93 rfl rfl ?_
  refine ev_iload_n 1 dL_isLent_94 rfl rfl ?_
  refine ev_h1 (K := 30) 1 S6 (q_isCalled S6 hc) kX3_isCalled rfl rfl g461 rfl (Nat.le_of_ble_eq_true rfl) rfl dL_isLent_95 (fun u7 S7 => ?_)
  refine ev_top (nI 0) (by rw [a5]; rfl) ?_
  refine ev_if_ne 117 dL_isLent_98 (by decide) (fun h98 => absurd (rfl) h98) (fun h98 => ?_)
  refine ev_aload_n 0 dL_isLent_101 rfl rfl ?_
  refine ev_h0 (K := 30) 0 S7 (q_lent S7 ) kX3_lent rfl rfl g476 rfl (Nat.le_of_ble_eq_true rfl) rfl dL_isLent_102 (fun u8 S8 => ?_)
  refine ev_top (σ 103 + nI m) (a6) ?_
  refine ev_iload dL_isLent_105 rfl ?_
  refine ev_iload dL_isLent_107 rfl ?_
  refine ev_iadd dL_isLent_109 ?_
  refine ev_icmp_ne 117 dL_isLent_110 (by decide) (fun h110 => absurd (rfl) h110) (fun h110 => ?_)
  refine ev_iconst (nI 1) dL_isLent_113 rfl ?_
  refine ev_goto 118 dL_isLent_114 (by decide) ?_
  exact ev_ireturn dL_isLent_118 (Nat.le_of_ble_eq_true rfl) ⟨rfl, _, S8, a2, AS_lend hc hA⟩
set_option maxHeartbeats 1000000 in
theorem c_lent {σ : Nat → Int32} {B : Nat} {w : PW} (hS : SW σ w) (hI : INV σ) (hA : AS B σ) {c : Nat} (hc : c < 8) (x : Int32) : Ct mL_isLent [.ref 7, .int (nI c), .int x] w (pE B) nx := by
  refine ct_of 3 kL_isLent.1 rfl (Nat.le_of_ble_eq_true rfl) (fun v u h => by obtain ⟨rfl, -⟩ := h; exact rfl) ?_
  show Ev _ _ _ 0 0 [(0, .ref 7), (1, .int (nI c)), (2, .int x)] [] _
  by_cases hz : opnS σ c = 0
  · refine ev_aload_n 0 dL_isLent_0 rfl rfl ?_
    refine ev_iload_n 1 dL_isLent_1 rfl rfl ?_
    refine ev_h1 (K := 30) 1 hS (q_roomOf hS hc) kX3_roomOf rfl rfl g468 rfl (Nat.le_of_ble_eq_true rfl) rfl dL_isLent_2 (fun u9 S9 => ?_)
    refine ev_istore_n 3 dL_isLent_5 rfl (Nat.le_of_ble_eq_true rfl) rfl ?_
    refine ev_aload_n 0 dL_isLent_6 rfl rfl ?_
    refine ev_iload_n 1 dL_isLent_7 rfl rfl ?_
    refine ev_h1 (K := 30) 1 S9 (q_debtOf S9 hc) kX3_debtOf rfl rfl g449 rfl (Nat.le_of_ble_eq_true rfl) rfl dL_isLent_8 (fun u10 S10 => ?_)
    refine ev_istore dL_isLent_11 (Nat.le_of_ble_eq_true rfl) rfl ?_
    refine ev_aload_n 0 dL_isLent_13 rfl rfl ?_
    refine ev_h0 (K := 30) 0 S10 (q_lent S10 ) kX3_lent rfl rfl g476 rfl (Nat.le_of_ble_eq_true rfl) rfl dL_isLent_14 (fun u11 S11 => ?_)
    refine ev_istore dL_isLent_17 (Nat.le_of_ble_eq_true rfl) rfl ?_
    refine ev_iload_n 3 dL_isLent_19 rfl rfl ?_
    refine ev_if_ne 25 dL_isLent_20 (by decide) (fun h20 => absurd (hz) h20) (fun h20 => ?_)
    refine ev_iconst (nI 1) dL_isLent_23 rfl ?_
    exact ev_ireturn dL_isLent_24 (Nat.le_of_ble_eq_true rfl) ⟨rfl, σ, S11, hI, hA⟩
  · obtain ⟨N, de, d1, hN, e, ed, hb, eo⟩ := opn_pos hI hc hz
    refine ev_aload_n 0 dL_isLent_0 rfl rfl ?_
    refine ev_iload_n 1 dL_isLent_1 rfl rfl ?_
    refine ev_h1 (K := 30) 1 hS (q_roomOf hS hc) kX3_roomOf rfl rfl g468 rfl (Nat.le_of_ble_eq_true rfl) rfl dL_isLent_2 (fun u12 S12 => ?_)
    refine ev_top (nI (N - de)) (eo) ?_
    refine ev_istore_n 3 dL_isLent_5 rfl (Nat.le_of_ble_eq_true rfl) rfl ?_
    refine ev_aload_n 0 dL_isLent_6 rfl rfl ?_
    refine ev_iload_n 1 dL_isLent_7 rfl rfl ?_
    refine ev_h1 (K := 30) 1 S12 (q_debtOf S12 hc) kX3_debtOf rfl rfl g449 rfl (Nat.le_of_ble_eq_true rfl) rfl dL_isLent_8 (fun u13 S13 => ?_)
    refine ev_top (nI de) (ed) ?_
    refine ev_istore dL_isLent_11 (Nat.le_of_ble_eq_true rfl) rfl ?_
    refine ev_aload_n 0 dL_isLent_13 rfl rfl ?_
    refine ev_h0 (K := 30) 0 S13 (q_lent S13 ) kX3_lent rfl rfl g476 rfl (Nat.le_of_ble_eq_true rfl) rfl dL_isLent_14 (fun u14 S14 => ?_)
    refine ev_istore dL_isLent_17 (Nat.le_of_ble_eq_true rfl) rfl ?_
    refine ev_iload_n 3 dL_isLent_19 rfl rfl ?_
    refine ev_if_ne 25 dL_isLent_20 (by decide) (fun h20 => ?_) (fun h20 => absurd h20 (nI_n0 (by omega) (by omega)))
    suffices J42 : Ev mL_isLent (pE B) nx 2 42 [(5, .int (σ 103)), (4, .int (nI de)), (3, .int (nI (N - de))), (0, .ref 7), (1, .int (nI c)), (2, .int x)] [] u14 by
      refine ev_iload_n 2 dL_isLent_25 rfl rfl ?_
      refine ev_iconst (nI 1) dL_isLent_26 rfl ?_
      refine ev_iand dL_isLent_27 ?_
      refine ev_if_ne 42 dL_isLent_28 (by decide) (fun h28 => ?_) (fun h28 => ?_)
      · exact J42
      · refine ev_iload_n 3 dL_isLent_31 rfl rfl ?_
        refine ev_sipush (nI 10000) dL_isLent_32 rfl ?_
        refine ev_icmp_ge 42 dL_isLent_35 (by decide) (fun h35 => ?_) (fun h35 => ?_)
        · exact J42
        · refine ev_iload_n 3 dL_isLent_38 rfl rfl ?_
          refine ev_goto 64 dL_isLent_39 (by decide) ?_
          refine ev_sub [0, 1, 2, 3, 4, 5] rfl ?_
          exact lent_t S14 hI hA hc hN e ed hb (by omega) (by have := nI_lt10 h35 (by omega) (by omega); omega) (by omega)
    refine ev_iconst (nI 1) dL_isLent_42 rfl ?_
    refine ev_iload_n 2 dL_isLent_43 rfl rfl ?_
    refine ev_iconst (nI 1) dL_isLent_44 rfl ?_
    refine ev_ishr dL_isLent_45 ?_
    refine ev_iload_n 3 dL_isLent_46 rfl rfl ?_
    refine ev_sipush (nI 9999) dL_isLent_47 rfl ?_
    refine ev_icmp_ge 57 dL_isLent_50 (by decide) (fun h50 => ?_) (fun h50 => ?_)
    · refine ev_sipush (nI 9999) dL_isLent_57 rfl ?_
      refine ev_cS2 (c_low _ _ (n := 9999) (by omega) (by omega)) kL_low rfl g213 rfl rfl dL_isLent_60 ?_
      have hl := low_lt (x >>> (nI 1 &&& 31)) (n := 9999) (by omega)
      refine ev_iadd dL_isLent_63 ?_
      refine ev_top (nI (1 + lowN (x >>> (nI 1 &&& 31)) 9999)) (nI_add _ _) ?_
      exact lent_t S14 hI hA hc hN e ed hb (by omega) (by omega) (by have := nI_ge9 h50 (by omega) (by omega); omega)
    · refine ev_iload_n 3 dL_isLent_53 rfl rfl ?_
      refine ev_goto 60 dL_isLent_54 (by decide) ?_
      refine ev_cS2 (c_low _ _ (n := (N - de)) (by omega) (by omega)) kL_low rfl g213 rfl rfl dL_isLent_60 ?_
      have hl := low_lt (x >>> (nI 1 &&& 31)) (n := (N - de)) (by omega)
      refine ev_iadd dL_isLent_63 ?_
      refine ev_top (nI (1 + lowN (x >>> (nI 1 &&& 31)) (N - de))) (nI_add _ _) ?_
      exact lent_t S14 hI hA hc hN e ed hb (by omega) (by have := nI_lt10 h50 (by omega) (by omega); omega) (by omega)
set_option maxHeartbeats 1000000 in
theorem c_passed {σ : Nat → Int32} {B : Nat} {w : PW} (hS : SW σ w) (hI : INV σ) (hA : AS B σ) {p : Nat} (p1 : 1 ≤ p) (p2 : p ≤ 12) : Ct mL_isPassed [.ref 7, .int (nI p)] w (pE (B + 57024)) nx := by
  refine ct_of 2 kL_isPassed.1 rfl (Nat.le_of_ble_eq_true rfl) (fun v u h => by obtain ⟨rfl, -⟩ := h; exact rfl) ?_
  show Ev _ _ _ 0 0 [(0, .ref 7), (1, .int (nI p))] [] _
  have hP := (pass_all hI (fun _ => nI 0, (fun _ => nI 0, fun _ => nI 0)) p).2.1
  have hA2 : AS (B + 57024) (pasN σ p).1 := by
    have h := AS_pas hA p
    exact ⟨h.1, SLD_up h.2 (by omega)⟩
  refine ev_aload_n 0 dL_isPassed_0 rfl rfl ?_
  refine ev_h0 (K := 30) 0 hS (q_soldOut hS ) kX3_soldOut rfl rfl g519 rfl (Nat.le_of_ble_eq_true rfl) rfl dL_isPassed_1 (fun u15 S15 => ?_)
  refine ev_istore_n 2 dL_isPassed_4 rfl (Nat.le_of_ble_eq_true rfl) rfl ?_
  refine ev_aload_n 0 dL_isPassed_5 rfl rfl ?_
  refine ev_h0 (K := 30) 0 S15 (q_hours S15 ) kX3_hours rfl rfl g523 rfl (Nat.le_of_ble_eq_true rfl) rfl dL_isPassed_6 (fun u16 S16 => ?_)
  refine ev_istore_n 3 dL_isPassed_9 rfl (Nat.le_of_ble_eq_true rfl) rfl ?_
  refine ev_aload_n 0 dL_isPassed_10 rfl rfl ?_
  refine ev_h0 (K := 30) 0 S16 (q_debtsByClients S16 ) kX3_debtsByClients rfl rfl g527 rfl (Nat.le_of_ble_eq_true rfl) rfl dL_isPassed_11 (fun u17 S17 => ?_)
  refine ev_istore dL_isPassed_14 (Nat.le_of_ble_eq_true rfl) rfl ?_
  refine ev_aload_n 0 dL_isPassed_16 rfl rfl ?_
  refine ev_iload_n 1 dL_isPassed_17 rfl rfl ?_
  refine ev_h1 (K := 30) 1 S17 (q_pass S17 hI p1 (by omega)) kX3_pass rfl rfl g535 rfl (Nat.le_of_ble_eq_true rfl) rfl dL_isPassed_18 (fun u18 S18 => ?_)
  refine ev_istore dL_isPassed_21 (Nat.le_of_ble_eq_true rfl) rfl ?_
  refine ev_iload dL_isPassed_23 rfl ?_
  refine ev_aload_n 0 dL_isPassed_25 rfl rfl ?_
  refine ev_h0 (K := 30) 0 S18 (q_soldOut S18 ) kX3_soldOut rfl rfl g519 rfl (Nat.le_of_ble_eq_true rfl) rfl dL_isPassed_26 (fun u19 S19 => ?_)
  refine ev_iload_n 2 dL_isPassed_29 rfl rfl ?_
  refine ev_isub dL_isPassed_30 ?_
  refine ev_icmp_ne 65 dL_isPassed_31 (by decide) (fun h31 => absurd (rfl) h31) (fun h31 => ?_)
  refine ev_aload_n 0 dL_isPassed_34 rfl rfl ?_
  refine ev_h0 (K := 30) 0 S19 (q_hours S19 ) kX3_hours rfl rfl g523 rfl (Nat.le_of_ble_eq_true rfl) rfl dL_isPassed_35 (fun u20 S20 => ?_)
  refine ev_top (σ 102 + nI p) (pas_102 σ p) ?_
  refine ev_iload_n 3 dL_isPassed_38 rfl rfl ?_
  refine ev_iload_n 1 dL_isPassed_39 rfl rfl ?_
  refine ev_iadd dL_isPassed_40 ?_
  refine ev_icmp_ne 65 dL_isPassed_41 (by decide) (fun h41 => absurd (rfl) h41) (fun h41 => ?_)
  refine ev_iload dL_isPassed_44 rfl ?_
  refine ev_if_gt 61 dL_isPassed_46 (by decide) (fun h46 => ?_) (fun h46 => ?_)
  · refine ev_iconst (nI 1) dL_isPassed_61 rfl ?_
    refine ev_goto 66 dL_isPassed_62 (by decide) ?_
    exact ev_ireturn dL_isPassed_66 (Nat.le_of_ble_eq_true rfl) ⟨rfl, _, S20, hP, hA2⟩
  · refine ev_iload dL_isPassed_49 rfl ?_
    refine ev_if_ne 65 dL_isPassed_51 (by decide) (fun h51 => absurd (by rw [(pas_Z hI (Z_db hI h46) (fun _ => nI 0, (fun _ => nI 0, fun _ => nI 0)) p).2]; exact Int32.sub_self _) h51) (fun h51 => ?_)
    refine ev_aload_n 0 dL_isPassed_54 rfl rfl ?_
    refine ev_h0 (K := 30) 0 S20 (q_debtsByAccount S20 ) kX3_debtsByAccount rfl rfl g602 rfl (Nat.le_of_ble_eq_true rfl) rfl dL_isPassed_55 (fun u21 S21 => ?_)
    refine ev_top (nI 0) (by rw [show acV (pasN σ p).1 = dbS (pasN σ p).1 8 from hA2.1]; exact db_Z (pas_Z hI (Z_db hI h46) (fun _ => nI 0, (fun _ => nI 0, fun _ => nI 0)) p).1) ?_
    refine ev_if_ne 65 dL_isPassed_58 (by decide) (fun h58 => absurd (rfl) h58) (fun h58 => ?_)
    refine ev_iconst (nI 1) dL_isPassed_61 rfl ?_
    refine ev_goto 66 dL_isPassed_62 (by decide) ?_
    exact ev_ireturn dL_isPassed_66 (Nat.le_of_ble_eq_true rfl) ⟨rfl, _, S21, hP, hA2⟩
