/-! ===== the law: the accounts ===== -/
theorem ev_topD {M : MT} {po : PO} {px : PX} {k pc : Nat} {L : LV} {x : UInt64} (y : UInt64) {st : List Value} {w : PW} (h : x = y) (kk : Ev M po px k pc L (.double y :: st) w) : Ev M po px k pc L (.double x :: st) w := by rw [h]; exact kk
set_option maxHeartbeats 2000000 in
theorem acc_t {σ : Nat → Int32} {B : Nat} {w : PW} (hS : SW σ w) (hI : INV σ) (hA : AS B σ) : Ev mL_areAccountsSo (pV (.int (nI 1)) σ) nx 132 140 [(5, .int (nI 6)), (4, .int (nI 1)), (3, .int (cvS σ 8)), (2, .int (allS σ 8)), (1, .int (dbS σ 8)), (0, .ref 7)] [] w := by
  have hac : acV σ = dbS σ 8 := hA.1
  refine ev_iload dL_areAccountsSo_140 rfl ?_
  refine ev_if_eq 196 dL_areAccountsSo_142 (by decide) (fun h142 => absurd h142 (by decide)) (fun h142 => ?_)
  refine ev_aload_n 0 dL_areAccountsSo_145 rfl rfl ?_
  refine ev_h0 (K := 580) 0 hS (q_debtsByClients hS ) kX3_debtsByClients rfl rfl g527 rfl (Nat.le_of_ble_eq_true rfl) rfl dL_areAccountsSo_146 (fun u1 S1 => ?_)
  refine ev_iload_n 1 dL_areAccountsSo_149 rfl rfl ?_
  refine ev_icmp_ne 196 dL_areAccountsSo_150 (by decide) (fun h150 => absurd (rfl) h150) (fun h150 => ?_)
  refine ev_aload_n 0 dL_areAccountsSo_153 rfl rfl ?_
  refine ev_h0 (K := 580) 0 S1 (q_debtsByAccount S1 ) kX3_debtsByAccount rfl rfl g602 rfl (Nat.le_of_ble_eq_true rfl) rfl dL_areAccountsSo_154 (fun u2 S2 => ?_)
  refine ev_top (dbS σ 8) (hac) ?_
  refine ev_iload_n 1 dL_areAccountsSo_157 rfl rfl ?_
  refine ev_icmp_ne 196 dL_areAccountsSo_158 (by decide) (fun h158 => absurd (rfl) h158) (fun h158 => ?_)
  refine ev_aload_n 0 dL_areAccountsSo_161 rfl rfl ?_
  refine ev_h0 (K := 580) 0 S2 (q_lent S2 ) kX3_lent rfl rfl g476 rfl (Nat.le_of_ble_eq_true rfl) rfl dL_areAccountsSo_162 (fun u3 S3 => ?_)
  refine ev_aload_n 0 dL_areAccountsSo_165 rfl rfl ?_
  refine ev_h0 (K := 580) 0 S3 (q_interest S3 ) kX3_interest rfl rfl g714 rfl (Nat.le_of_ble_eq_true rfl) rfl dL_areAccountsSo_166 (fun u4 S4 => ?_)
  refine ev_iadd dL_areAccountsSo_169 ?_
  refine ev_aload_n 0 dL_areAccountsSo_170 rfl rfl ?_
  refine ev_h0 (K := 580) 0 S4 (q_repaid S4 ) kX3_repaid rfl rfl g718 rfl (Nat.le_of_ble_eq_true rfl) rfl dL_areAccountsSo_171 (fun u5 S5 => ?_)
  refine ev_isub dL_areAccountsSo_174 ?_
  refine ev_aload_n 0 dL_areAccountsSo_175 rfl rfl ?_
  refine ev_h0 (K := 580) 0 S5 (q_lost S5 ) kX3_lost rfl rfl g722 rfl (Nat.le_of_ble_eq_true rfl) rfl dL_areAccountsSo_176 (fun u6 S6 => ?_)
  refine ev_isub dL_areAccountsSo_179 ?_
  refine ev_iload_n 1 dL_areAccountsSo_180 rfl rfl ?_
  refine ev_icmp_ne 196 dL_areAccountsSo_181 (by decide) (fun h181 => absurd (hac) h181) (fun h181 => ?_)
  refine ev_aload_n 0 dL_areAccountsSo_184 rfl rfl ?_
  refine ev_h0 (K := 580) 0 S6 (q_calledNow S6 ) kX3_calledNow rfl rfl g385 rfl (Nat.le_of_ble_eq_true rfl) rfl dL_areAccountsSo_185 (fun u7 S7 => ?_)
  refine ev_iload_n 2 dL_areAccountsSo_188 rfl rfl ?_
  refine ev_icmp_ne 196 dL_areAccountsSo_189 (by decide) (fun h189 => absurd (rfl) h189) (fun h189 => ?_)
  refine ev_iconst (nI 1) dL_areAccountsSo_192 rfl ?_
  refine ev_goto 197 dL_areAccountsSo_193 (by decide) ?_
  refine ev_istore dL_areAccountsSo_197 (Nat.le_of_ble_eq_true rfl) rfl ?_
  refine ev_iload dL_areAccountsSo_199 rfl ?_
  refine ev_if_eq 254 dL_areAccountsSo_201 (by decide) (fun h201 => absurd h201 (by decide)) (fun h201 => ?_)
  by_cases hz : cvS σ 8 = 0
  · refine ev_iload_n 3 dL_areAccountsSo_204 rfl rfl ?_
    refine ev_if_ne 220 dL_areAccountsSo_205 (by decide) (fun h205 => absurd (hz) h205) (fun h205 => ?_)
    refine ev_aload_n 0 dL_areAccountsSo_208 rfl rfl ?_
    refine ev_h0 (K := 580) 0 S7 (q_usedShare S7 hI ) kX3_usedShare rfl rfl g726 rfl (Nat.le_of_ble_eq_true rfl) rfl dL_areAccountsSo_209 (fun u8 S8 => ?_)
    refine ev_topD FP.dconst0 (use_0 hz) ?_
    refine ev_dconst0 dL_areAccountsSo_212 ?_
    refine ev_dcmp dL_areAccountsSo_213 ?_
    refine ev_top (nI 0) (cz_0 _) ?_
    refine ev_if_ne 254 dL_areAccountsSo_214 (by decide) (fun h214 => absurd (rfl) h214) (fun h214 => ?_)
    refine ev_goto 250 dL_areAccountsSo_217 (by decide) ?_
    refine ev_iconst (nI 1) dL_areAccountsSo_250 rfl ?_
    refine ev_goto 255 dL_areAccountsSo_251 (by decide) ?_
    exact ev_ireturn dL_areAccountsSo_255 (Nat.le_of_ble_eq_true rfl) ⟨rfl, S8⟩
  · obtain ⟨b1, b2, b3⟩ := use_b hI hz
    refine ev_iload_n 3 dL_areAccountsSo_204 rfl rfl ?_
    refine ev_if_ne 220 dL_areAccountsSo_205 (by decide) (fun h205 => ?_) (fun h205 => absurd h205 (hz))
    refine ev_aload_n 0 dL_areAccountsSo_220 rfl rfl ?_
    refine ev_h0 (K := 580) 0 S7 (q_usedShare S7 hI) kX3_usedShare rfl rfl g726 rfl (Nat.le_of_ble_eq_true rfl) rfl dL_areAccountsSo_221 (fun u9 S9 => ?_)
    refine ev_iload_n 3 dL_areAccountsSo_224 rfl rfl ?_
    refine ev_i2d dL_areAccountsSo_225 ?_
    refine ev_dmul dL_areAccountsSo_226 (b1) ?_
    refine ev_iload_n 1 dL_areAccountsSo_227 rfl rfl ?_
    refine ev_iconst (nI 1) dL_areAccountsSo_228 rfl ?_
    refine ev_isub dL_areAccountsSo_229 ?_
    refine ev_i2d dL_areAccountsSo_230 ?_
    refine ev_dcmp dL_areAccountsSo_231 ?_
    refine ev_top (nI 1) (b2 _) ?_
    refine ev_if_le 254 dL_areAccountsSo_232 (by decide) (fun h232 => absurd h232 (by decide)) (fun h232 => ?_)
    refine ev_aload_n 0 dL_areAccountsSo_235 rfl rfl ?_
    refine ev_h0 (K := 580) 0 S9 (q_usedShare S9 hI) kX3_usedShare rfl rfl g726 rfl (Nat.le_of_ble_eq_true rfl) rfl dL_areAccountsSo_236 (fun u10 S10 => ?_)
    refine ev_iload_n 3 dL_areAccountsSo_239 rfl rfl ?_
    refine ev_i2d dL_areAccountsSo_240 ?_
    refine ev_dmul dL_areAccountsSo_241 (b1) ?_
    refine ev_iload_n 1 dL_areAccountsSo_242 rfl rfl ?_
    refine ev_iconst (nI 1) dL_areAccountsSo_243 rfl ?_
    refine ev_iadd dL_areAccountsSo_244 ?_
    refine ev_i2d dL_areAccountsSo_245 ?_
    refine ev_dcmp dL_areAccountsSo_246 ?_
    refine ev_top (-1) (b3 _) ?_
    refine ev_if_ge 254 dL_areAccountsSo_247 (by decide) (fun h247 => absurd h247 (by decide)) (fun h247 => ?_)
    refine ev_iconst (nI 1) dL_areAccountsSo_250 rfl ?_
    refine ev_goto 255 dL_areAccountsSo_251 (by decide) ?_
    exact ev_ireturn dL_areAccountsSo_255 (Nat.le_of_ble_eq_true rfl) ⟨rfl, S10⟩
set_option maxHeartbeats 2000000 in
theorem acc_k {σ : Nat → Int32} {B : Nat} (hI : INV σ) (hA : AS B σ) (hB : B < 2 ^ 31) : ∀ (N k : Nat) (w : PW), k + N = 6 → SW σ w → Ev mL_areAccountsSo (pV (.int (nI 1)) σ) nx (24 + 18 * k) 63 [(5, .int (nI k)), (4, .int (nI 1)), (3, .int (cvS σ 8)), (2, .int (allS σ 8)), (1, .int (dbS σ 8)), (0, .ref 7)] [] w := by
  intro N
  induction N with
  | zero =>
    intro k w hj hS
    obtain rfl : k = 6 := by omega
    refine ev_iload dL_areAccountsSo_63 rfl ?_
    refine ev_bipush (nI 6) dL_areAccountsSo_65 rfl ?_
    refine ev_icmp_ge 140 dL_areAccountsSo_67 (by decide) (fun h67 => ?_) (fun h67 => absurd (Int32.le_refl _) h67)
    exact ev_up (by omega) (acc_t hS hI hA)
  | succ N ih =>
    intro k w hj hS
    have hk6 : k < 6 := by omega
    have H : ∀ (N j : Nat) (u : PW), j + N = 8 → SW σ u → Ev mL_areAccountsSo (pV (.int (nI 1)) σ) nx (24 + 18 * k + 2 * j) 76 [(7, .int (nI j)), (6, .int (pldS σ k j)), (5, .int (nI k)), (4, .int (nI 1)), (3, .int (cvS σ 8)), (2, .int (allS σ 8)), (1, .int (dbS σ 8)), (0, .ref 7)] [] u := by
      intro N
      induction N with
      | zero =>
        intro j u hj hS
        obtain rfl : j = 8 := by omega
        refine ev_iload dL_areAccountsSo_76 rfl ?_
        refine ev_bipush (nI 8) dL_areAccountsSo_78 rfl ?_
        refine ev_icmp_ge 102 dL_areAccountsSo_80 (by decide) (fun h80 => ?_) (fun h80 => absurd (Int32.le_refl _) h80)
        refine ev_iload dL_areAccountsSo_102 rfl ?_
        refine ev_if_eq 131 dL_areAccountsSo_104 (by decide) (fun h104 => absurd h104 (by decide)) (fun h104 => ?_)
        refine ev_aload_n 0 dL_areAccountsSo_107 rfl rfl ?_
        refine ev_iload dL_areAccountsSo_108 rfl ?_
        refine ev_h1 (K := 580) 1 hS (q_pledgedOf hS hk6) kX3_pledgedOf rfl rfl g702 rfl (by omega) rfl dL_areAccountsSo_110 (fun u11 S11 => ?_)
        refine ev_iload dL_areAccountsSo_113 rfl ?_
        refine ev_icmp_ne 131 dL_areAccountsSo_115 (by decide) (fun h115 => absurd (rfl) h115) (fun h115 => ?_)
        refine ev_aload_n 0 dL_areAccountsSo_118 rfl rfl ?_
        refine ev_iload dL_areAccountsSo_119 rfl ?_
        refine ev_h1 (K := 580) 1 S11 (q_soldOf S11 hk6) kX3_soldOf rfl rfl g710 rfl (by omega) rfl dL_areAccountsSo_121 (fun u12 S12 => ?_)
        refine ev_if_lt 131 dL_areAccountsSo_124 (by decide) (fun h124 => absurd h124 (sold_0 hA hB hk6)) (fun h124 => ?_)
        refine ev_iconst (nI 1) dL_areAccountsSo_127 rfl ?_
        refine ev_goto 132 dL_areAccountsSo_128 (by decide) ?_
        refine ev_istore dL_areAccountsSo_132 (Nat.le_of_ble_eq_true rfl) rfl ?_
        refine ev_iinc (nI (k + 1)) dL_areAccountsSo_134 rfl (nI_add k 1) (Nat.le_of_ble_eq_true rfl) rfl ?_
        refine ev_goto 63 dL_areAccountsSo_137 (by decide) ?_
        exact ev_sub [0, 1, 4, 5, 6, 7] rfl (ev_kk (by omega) (ih (k + 1) _ (by omega) S12))
      | succ N ih2 =>
        intro j u hj hS
        have hj8 : j < 8 := by omega
        refine ev_iload dL_areAccountsSo_76 rfl ?_
        refine ev_bipush (nI 8) dL_areAccountsSo_78 rfl ?_
        refine ev_icmp_ge 102 dL_areAccountsSo_80 (by decide) (fun h80 => absurd h80 (nI_nlb hj8 (by omega))) (fun h80 => ?_)
        refine ev_iload dL_areAccountsSo_83 rfl ?_
        refine ev_aload_n 0 dL_areAccountsSo_85 rfl rfl ?_
        refine ev_iload dL_areAccountsSo_86 rfl ?_
        refine ev_iload dL_areAccountsSo_88 rfl ?_
        refine ev_h2 (K := 580) 2 hS (q_piecesOf hS hj8 hk6) kX3_piecesOf rfl rfl g393 rfl (by omega) rfl dL_areAccountsSo_90 (fun u13 S13 => ?_)
        refine ev_iadd dL_areAccountsSo_93 ?_
        refine ev_istore dL_areAccountsSo_94 (Nat.le_of_ble_eq_true rfl) rfl ?_
        refine ev_iinc (nI (j + 1)) dL_areAccountsSo_96 rfl (nI_add j 1) (Nat.le_of_ble_eq_true rfl) rfl ?_
        exact ev_goto 76 dL_areAccountsSo_99 (by decide) (ev_kk (by omega) (ih2 (j + 1) _ (by omega) S13))
    refine ev_iload dL_areAccountsSo_63 rfl ?_
    refine ev_bipush (nI 6) dL_areAccountsSo_65 rfl ?_
    refine ev_icmp_ge 140 dL_areAccountsSo_67 (by decide) (fun h67 => absurd h67 (nI_nlb hk6 (by omega))) (fun h67 => ?_)
    refine ev_iconst (nI 0) dL_areAccountsSo_70 rfl ?_
    refine ev_istore dL_areAccountsSo_71 (Nat.le_of_ble_eq_true rfl) rfl ?_
    refine ev_iconst (nI 0) dL_areAccountsSo_73 rfl ?_
    refine ev_istore dL_areAccountsSo_74 (Nat.le_of_ble_eq_true rfl) rfl ?_
    exact ev_kk (by omega) (H 8 0 _ rfl hS)
set_option maxHeartbeats 2000000 in
theorem c_acc {σ : Nat → Int32} {B : Nat} {w : PW} (hS : SW σ w) (hI : INV σ) (hA : AS B σ) (hB : B < 2 ^ 31) : Ct mL_areAccountsSo [.ref 7] w (pV (.int (nI 1)) σ) nx := by
  refine ct_of 1 kL_areAccountsSo.1 rfl (Nat.le_of_ble_eq_true rfl) (fun v u h => by obtain ⟨rfl, -⟩ := h; exact rfl) ?_
  show Ev _ _ _ 0 0 [(0, .ref 7)] [] _
  have H : ∀ (N j : Nat) (u : PW), j + N = 8 → SW σ u → Ev mL_areAccountsSo (pV (.int (nI 1)) σ) nx (3 * j) 12 [(5, .int (nI j)), (4, .int (nI 1)), (3, .int (cvS σ j)), (2, .int (allS σ j)), (1, .int (dbS σ j)), (0, .ref 7)] [] u := by
    intro N
    induction N with
    | zero =>
      intro j u hj hS
      obtain rfl : j = 8 := by omega
      refine ev_iload dL_areAccountsSo_12 rfl ?_
      refine ev_bipush (nI 8) dL_areAccountsSo_14 rfl ?_
      refine ev_icmp_ge 60 dL_areAccountsSo_16 (by decide) (fun h16 => ?_) (fun h16 => absurd (Int32.le_refl _) h16)
      refine ev_iconst (nI 0) dL_areAccountsSo_60 rfl ?_
      refine ev_istore dL_areAccountsSo_61 (Nat.le_of_ble_eq_true rfl) rfl ?_
      exact ev_kk (by omega) (acc_k hI hA hB 6 0 _ rfl hS)
    | succ N ih =>
      intro j u hj hS
      have hj8 : j < 8 := by omega
      refine ev_iload dL_areAccountsSo_12 rfl ?_
      refine ev_bipush (nI 8) dL_areAccountsSo_14 rfl ?_
      refine ev_icmp_ge 60 dL_areAccountsSo_16 (by decide) (fun h16 => absurd h16 (nI_nlb hj8 (by omega))) (fun h16 => ?_)
      refine ev_iload_n 1 dL_areAccountsSo_19 rfl rfl ?_
      refine ev_aload_n 0 dL_areAccountsSo_20 rfl rfl ?_
      refine ev_iload dL_areAccountsSo_21 rfl ?_
      refine ev_h1 (K := 580) 1 hS (q_debtOf hS hj8) kX3_debtOf rfl rfl g449 rfl (by omega) rfl dL_areAccountsSo_23 (fun u14 S14 => ?_)
      refine ev_iadd dL_areAccountsSo_26 ?_
      refine ev_istore_n 1 dL_areAccountsSo_27 rfl (Nat.le_of_ble_eq_true rfl) rfl ?_
      refine ev_iload_n 2 dL_areAccountsSo_28 rfl rfl ?_
      refine ev_aload_n 0 dL_areAccountsSo_29 rfl rfl ?_
      refine ev_iload dL_areAccountsSo_30 rfl ?_
      refine ev_h1 (K := 580) 1 S14 (q_isCalled S14 hj8) kX3_isCalled rfl rfl g461 rfl (by omega) rfl dL_areAccountsSo_32 (fun u15 S15 => ?_)
      suffices J43 : Ev mL_areAccountsSo (pV (.int (nI 1)) σ) nx (3 * j + 1 + 1) 43 [(1, .int (dbS σ (j + 1))), (5, .int (nI j)), (4, .int (nI 1)), (3, .int (cvS σ j)), (2, .int (allS σ j)), (0, .ref 7)] [.int (bI (isK σ j)), .int (allS σ j)] u15 by
        cases hk : isK σ j with
        | true =>
          rw [hk] at J43
          refine ev_top (nI 1) rfl ?_
          refine ev_if_eq 42 dL_areAccountsSo_35 (by decide) (fun h35 => absurd h35 (by decide)) (fun h35 => ?_)
          refine ev_iconst (nI 1) dL_areAccountsSo_38 rfl ?_
          refine ev_goto 43 dL_areAccountsSo_39 (by decide) ?_
          exact J43
        | false =>
          rw [hk] at J43
          refine ev_top (nI 0) rfl ?_
          refine ev_if_eq 42 dL_areAccountsSo_35 (by decide) (fun h35 => ?_) (fun h35 => absurd (rfl) h35)
          refine ev_iconst (nI 0) dL_areAccountsSo_42 rfl ?_
          exact J43
      refine ev_iadd dL_areAccountsSo_43 ?_
      refine ev_istore_n 2 dL_areAccountsSo_44 rfl (Nat.le_of_ble_eq_true rfl) rfl ?_
      refine ev_iload_n 3 dL_areAccountsSo_45 rfl rfl ?_
      refine ev_aload_n 0 dL_areAccountsSo_46 rfl rfl ?_
      refine ev_iload dL_areAccountsSo_47 rfl ?_
      refine ev_h1 (K := 580) 1 S15 (q_coverOf S15 hj8) kX3_coverOf rfl rfl g401 rfl (by omega) rfl dL_areAccountsSo_49 (fun u16 S16 => ?_)
      refine ev_iadd dL_areAccountsSo_52 ?_
      refine ev_istore_n 3 dL_areAccountsSo_53 rfl (Nat.le_of_ble_eq_true rfl) rfl ?_
      refine ev_iinc (nI (j + 1)) dL_areAccountsSo_54 rfl (nI_add j 1) (Nat.le_of_ble_eq_true rfl) rfl ?_
      refine ev_goto 12 dL_areAccountsSo_57 (by decide) ?_
      exact ev_sub [0, 4, 1, 2, 3, 5] rfl (ev_kk (by omega) (ih (j + 1) _ (by omega) S16))
  refine ev_iconst (nI 0) dL_areAccountsSo_0 rfl ?_
  refine ev_istore_n 1 dL_areAccountsSo_1 rfl (Nat.le_of_ble_eq_true rfl) rfl ?_
  refine ev_iconst (nI 0) dL_areAccountsSo_2 rfl ?_
  refine ev_istore_n 2 dL_areAccountsSo_3 rfl (Nat.le_of_ble_eq_true rfl) rfl ?_
  refine ev_iconst (nI 0) dL_areAccountsSo_4 rfl ?_
  refine ev_istore_n 3 dL_areAccountsSo_5 rfl (Nat.le_of_ble_eq_true rfl) rfl ?_
  refine ev_iconst (nI 1) dL_areAccountsSo_6 rfl ?_
  refine ev_istore dL_areAccountsSo_7 (Nat.le_of_ble_eq_true rfl) rfl ?_
  refine ev_iconst (nI 0) dL_areAccountsSo_9 rfl ?_
  refine ev_istore dL_areAccountsSo_10 (Nat.le_of_ble_eq_true rfl) rfl ?_
  exact H 8 0 _ rfl hS
