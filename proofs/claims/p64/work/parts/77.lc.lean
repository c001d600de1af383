/-! ===== the law: the order of risk ===== -/
theorem ev_topL {M : MT} {po : PO} {px : PX} {k pc : Nat} {L : LV} {x : Int64} (y : Int64) {st : List Value} {w : PW} (h : x = y) (kk : Ev M po px k pc L (.long y :: st) w) : Ev M po px k pc L (.long x :: st) w := by rw [h]; exact kk
theorem bit_0 : bitN (fun _ => false) 8 = nI 0 := by decide
theorem rk_f0 {σ : Nat → Int32} (h : INV σ) {p a c : Nat} (hp : p + 1 < 8) (ea : (tkN σ (p + 1)).2 = a) (ec : (tkN σ (p + 1 + 1)).2 = c) (hz : σ (ix a 7) = 0) : σ (ix c 7) = 0 ∧ ¬ nI c ≤ nI a := by
  obtain ⟨ha, hc, hn⟩ := rk_next h hp ea ec
  rw [if_pos ((d0_iff h ha).mp hz)] at hn
  exact ⟨(d0_iff h hc).mpr hn.1, nI_nlb hn.2 (by omega)⟩
theorem rk_f1 {σ : Nat → Int32} (h : INV σ) {p a c : Nat} (hp : p + 1 < 8) (ea : (tkN σ (p + 1)).2 = a) (ec : (tkN σ (p + 1 + 1)).2 = c) (hz : ¬ σ (ix a 7) = 0) (hy : ¬ σ (ix c 7) = 0) (hl : ¬ lg_cmp (lN (vN9 σ a * dN9 σ c) - lN (vN9 σ c * dN9 σ a)) (lN 0) < 0) : lg_cmp (lN (vN9 σ a * dN9 σ c) - lN (vN9 σ c * dN9 σ a)) (lN 0) = 0 ∧ ¬ nI c ≤ nI a := by
  obtain ⟨ha, hc, hn⟩ := rk_next h hp ea ec
  rw [if_neg (fun q => hz ((d0_iff h ha).mpr q))] at hn
  obtain ⟨l1, l2⟩ := lsub_0 (vd_le h ha hc) (vd_le h hc ha)
  rcases hn with q | q | q
  · exact absurd ((d0_iff h hc).mpr q) hy
  · exact absurd ((lg_cmp_lt _ _).mpr (l1.mpr q)) hl
  · exact ⟨(lg_cmp_eq _ _).mpr (l2.mpr q.1), nI_nlb q.2 (by omega)⟩
set_option maxHeartbeats 2000000 in
theorem c_risk {σ : Nat → Int32} {w : PW} (hS : SW σ w) (hI : INV σ) : Ct mL_isRiskSo [.ref 7] w (pV (.int (nI 1)) σ) nx := by
  refine ct_of 1 kL_isRiskSo.1 rfl (Nat.le_of_ble_eq_true rfl) (fun v u h => by obtain ⟨rfl, -⟩ := h; exact rfl) ?_
  show Ev _ _ _ 0 0 [(0, .ref 7)] [] _
  have H : ∀ (N p : Nat) (u : PW), p + N = 8 → SW σ u → Ev mL_isRiskSo (pV (.int (nI 1)) σ) nx (10 * p) 6 [(3, .int (nI p)), (2, .int (nI 1)), (1, .int (bitN (tkN σ p).1 8)), (0, .ref 7)] [] u := by
    intro N
    induction N with
    | zero =>
      intro p u hj hS
      obtain rfl : p = 8 := by omega
      refine ev_iload_n 3 dL_isRiskSo_6 rfl rfl ?_
      refine ev_bipush (nI 8) dL_isRiskSo_7 rfl ?_
      refine ev_icmp_ge 176 dL_isRiskSo_9 (by decide) (fun h9 => ?_) (fun h9 => absurd (Int32.le_refl _) h9)
      refine ev_iload_n 2 dL_isRiskSo_176 rfl rfl ?_
      refine ev_if_eq 191 dL_isRiskSo_177 (by decide) (fun h177 => absurd h177 (by decide)) (fun h177 => ?_)
      refine ev_iload_n 1 dL_isRiskSo_180 rfl rfl ?_
      refine ev_sipush (nI 255) dL_isRiskSo_181 rfl ?_
      refine ev_icmp_ne 191 dL_isRiskSo_184 (by decide) (fun h184 => absurd (rk_255 hI) h184) (fun h184 => ?_)
      refine ev_iconst (nI 1) dL_isRiskSo_187 rfl ?_
      refine ev_goto 192 dL_isRiskSo_188 (by decide) ?_
      exact ev_ireturn dL_isRiskSo_192 (by show _ ≤ 600; omega) ⟨rfl, hS⟩
    | succ N ih =>
      intro p u hj hS
      have hp8 : p < 8 := by omega
      have J170 : ∀ u, SW σ u → Ev mL_isRiskSo (pV (.int (nI 1)) σ) nx (10 * p + 10) 170 [(2, .int (nI 1)), (1, .int (bitN (tkN σ (p + 1)).1 8)), (3, .int (nI p)), (0, .ref 7)] [] u := by
        intro u hS
        refine ev_iinc (nI (p + 1)) dL_isRiskSo_170 rfl (nI_add p 1) (Nat.le_of_ble_eq_true rfl) rfl ?_
        exact ev_goto 6 dL_isRiskSo_173 (by decide) (ev_kk (by omega) (ih (p + 1) _ (by omega) hS))
      refine ev_iload_n 3 dL_isRiskSo_6 rfl rfl ?_
      refine ev_bipush (nI 8) dL_isRiskSo_7 rfl ?_
      refine ev_icmp_ge 176 dL_isRiskSo_9 (by decide) (fun h9 => absurd h9 (nI_nlb hp8 (by omega))) (fun h9 => ?_)
      refine ev_aload_n 0 dL_isRiskSo_12 rfl rfl ?_
      refine ev_iload_n 3 dL_isRiskSo_13 rfl rfl ?_
      refine ev_h1 (K := 580) 1 hS (q_riskyBySorting hS hI hp8) kX3_riskyBySorting rfl rfl g664 rfl (by omega) rfl dL_isRiskSo_14 (fun u1 S1 => ?_)
      refine ev_istore dL_isRiskSo_17 (Nat.le_of_ble_eq_true rfl) rfl ?_
      refine ev_iload_n 1 dL_isRiskSo_19 rfl rfl ?_
      refine ev_iconst (nI 1) dL_isRiskSo_20 rfl ?_
      refine ev_iload dL_isRiskSo_21 rfl ?_
      refine ev_ishl dL_isRiskSo_23 ?_
      refine ev_ior dL_isRiskSo_24 ?_
      refine ev_top (bitN (tkN σ (p + 1)).1 8) (bit_or _ (rk_at hI hp8).1) ?_
      refine ev_istore_n 1 dL_isRiskSo_25 rfl (Nat.le_of_ble_eq_true rfl) rfl ?_
      refine ev_iload_n 2 dL_isRiskSo_26 rfl rfl ?_
      refine ev_if_eq 54 dL_isRiskSo_27 (by decide) (fun h27 => absurd h27 (by decide)) (fun h27 => ?_)
      refine ev_aload_n 0 dL_isRiskSo_30 rfl rfl ?_
      refine ev_iload_n 3 dL_isRiskSo_31 rfl rfl ?_
      refine ev_h1 (K := 580) 1 S1 (q_riskyByTaking S1 hp8) kX3_riskyByTaking rfl rfl g679 rfl (by omega) rfl dL_isRiskSo_32 (fun u2 S2 => ?_)
      refine ev_iload dL_isRiskSo_35 rfl ?_
      refine ev_icmp_ne 54 dL_isRiskSo_37 (by decide) (fun h37 => absurd (rfl) h37) (fun h37 => ?_)
      refine ev_aload_n 0 dL_isRiskSo_40 rfl rfl ?_
      refine ev_iload dL_isRiskSo_41 rfl ?_
      refine ev_h1 (K := 580) 1 S2 (q_rankOf S2 (rk_at hI hp8).1) kX3_rankOf rfl rfl g691 rfl (by omega) rfl dL_isRiskSo_43 (fun u3 S3 => ?_)
      refine ev_top (nI p) (rk_rank hI hp8) ?_
      refine ev_iload_n 3 dL_isRiskSo_46 rfl rfl ?_
      refine ev_icmp_ne 54 dL_isRiskSo_47 (by decide) (fun h47 => absurd (rfl) h47) (fun h47 => ?_)
      refine ev_iconst (nI 1) dL_isRiskSo_50 rfl ?_
      refine ev_goto 55 dL_isRiskSo_51 (by decide) ?_
      refine ev_istore_n 2 dL_isRiskSo_55 rfl (Nat.le_of_ble_eq_true rfl) rfl ?_
      rcases p with _ | q
      · refine ev_iload_n 3 dL_isRiskSo_56 rfl rfl ?_
        refine ev_if_le 170 dL_isRiskSo_57 (by decide) (fun h57 => ?_) (fun h57 => absurd (by decide) h57)
        exact ev_sub [0, 1, 3, 4] rfl (ev_up (by omega) (J170 _ S3))
      · refine ev_iload_n 3 dL_isRiskSo_56 rfl rfl ?_
        refine ev_if_le 170 dL_isRiskSo_57 (by decide) (fun h57 => absurd h57 (Int32.not_le.mpr (nI_lt (a := 0) (b := q + 1) (by omega) (by omega)))) (fun h57 => ?_)
        refine ev_aload_n 0 dL_isRiskSo_60 rfl rfl ?_
        refine ev_iload_n 3 dL_isRiskSo_61 rfl rfl ?_
        refine ev_iconst (nI 1) dL_isRiskSo_62 rfl ?_
        refine ev_isub dL_isRiskSo_63 ?_
        refine ev_top (nI q) (pk_sub (by omega)) ?_
        refine ev_h1 (K := 580) 1 S3 (q_riskyBySorting S3 hI (c := q) (by omega)) kX3_riskyBySorting rfl rfl g664 rfl (by omega) rfl dL_isRiskSo_64 (fun u4 S4 => ?_)
        refine ev_istore dL_isRiskSo_67 (Nat.le_of_ble_eq_true rfl) rfl ?_
        refine ev_aload_n 0 dL_isRiskSo_69 rfl rfl ?_
        refine ev_iload dL_isRiskSo_70 rfl ?_
        refine ev_h1 (K := 580) 1 S4 (q_coverOf S4 (rk_at hI (p := q) (by omega)).1) kX3_coverOf rfl rfl g401 rfl (by omega) rfl dL_isRiskSo_72 (fun u5 S5 => ?_)
        refine ev_i2l dL_isRiskSo_75 ?_
        refine ev_aload_n 0 dL_isRiskSo_76 rfl rfl ?_
        refine ev_iload dL_isRiskSo_77 rfl ?_
        refine ev_h1 (K := 580) 1 S5 (q_debtOf S5 (rk_at hI hp8).1) kX3_debtOf rfl rfl g449 rfl (by omega) rfl dL_isRiskSo_79 (fun u6 S6 => ?_)
        refine ev_i2l dL_isRiskSo_82 ?_
        refine ev_lmul dL_isRiskSo_83 ?_
        refine ev_aload_n 0 dL_isRiskSo_84 rfl rfl ?_
        refine ev_iload dL_isRiskSo_85 rfl ?_
        refine ev_h1 (K := 580) 1 S6 (q_coverOf S6 (rk_at hI hp8).1) kX3_coverOf rfl rfl g401 rfl (by omega) rfl dL_isRiskSo_87 (fun u7 S7 => ?_)
        refine ev_i2l dL_isRiskSo_90 ?_
        refine ev_aload_n 0 dL_isRiskSo_91 rfl rfl ?_
        refine ev_iload dL_isRiskSo_92 rfl ?_
        refine ev_h1 (K := 580) 1 S7 (q_debtOf S7 (rk_at hI (p := q) (by omega)).1) kX3_debtOf rfl rfl g449 rfl (by omega) rfl dL_isRiskSo_94 (fun u8 S8 => ?_)
        refine ev_i2l dL_isRiskSo_97 ?_
        refine ev_lmul dL_isRiskSo_98 ?_
        refine ev_lsub dL_isRiskSo_99 ?_
        refine ev_topL (lN (vN9 σ (tkN σ (q + 1)).2 * dN9 σ (tkN σ (q + 1 + 1)).2) - lN (vN9 σ (tkN σ (q + 1 + 1)).2 * dN9 σ (tkN σ (q + 1)).2)) (rk_by hI (rk_at hI (p := q) (by omega)).1 (rk_at hI hp8).1) ?_
        refine ev_lstore dL_isRiskSo_100 (Nat.le_of_ble_eq_true rfl) rfl ?_
        refine ev_iload_n 2 dL_isRiskSo_102 rfl rfl ?_
        refine ev_if_eq 168 dL_isRiskSo_103 (by decide) (fun h103 => absurd h103 (by decide)) (fun h103 => ?_)
        refine ev_aload_n 0 dL_isRiskSo_106 rfl rfl ?_
        refine ev_iload dL_isRiskSo_107 rfl ?_
        refine ev_h1 (K := 580) 1 S8 (q_debtOf S8 (rk_at hI (p := q) (by omega)).1) kX3_debtOf rfl rfl g449 rfl (by omega) rfl dL_isRiskSo_109 (fun u9 S9 => ?_)
        refine ev_if_ne 134 dL_isRiskSo_112 (by decide) (fun h112 => ?_) (fun h112 => ?_)
        · refine ev_aload_n 0 dL_isRiskSo_134 rfl rfl ?_
          refine ev_iload dL_isRiskSo_135 rfl ?_
          refine ev_h1 (K := 580) 1 S9 (q_debtOf S9 (rk_at hI hp8).1) kX3_debtOf rfl rfl g449 rfl (by omega) rfl dL_isRiskSo_137 (fun u10 S10 => ?_)
          refine ev_if_eq 164 dL_isRiskSo_140 (by decide) (fun h140 => ?_) (fun h140 => ?_)
          · refine ev_iconst (nI 1) dL_isRiskSo_164 rfl ?_
            refine ev_goto 169 dL_isRiskSo_165 (by decide) ?_
            refine ev_istore_n 2 dL_isRiskSo_169 rfl (Nat.le_of_ble_eq_true rfl) rfl ?_
            exact ev_sub [0, 3, 5, 6] rfl (ev_up (by omega) (J170 _ S10))
          · refine ev_lload dL_isRiskSo_143 rfl ?_
            refine ev_lconst (lN 0) dL_isRiskSo_145 rfl ?_
            refine ev_lcmp dL_isRiskSo_146 ?_
            refine ev_if_lt 164 dL_isRiskSo_147 (by decide) (fun h147 => ?_) (fun h147 => ?_)
            · refine ev_iconst (nI 1) dL_isRiskSo_164 rfl ?_
              refine ev_goto 169 dL_isRiskSo_165 (by decide) ?_
              refine ev_istore_n 2 dL_isRiskSo_169 rfl (Nat.le_of_ble_eq_true rfl) rfl ?_
              exact ev_sub [0, 3, 5, 6] rfl (ev_up (by omega) (J170 _ S10))
            · refine ev_lload dL_isRiskSo_150 rfl ?_
              refine ev_lconst (lN 0) dL_isRiskSo_152 rfl ?_
              refine ev_lcmp dL_isRiskSo_153 ?_
              refine ev_if_ne 168 dL_isRiskSo_154 (by decide) (fun h154 => absurd ((rk_f1 hI hp8 rfl rfl h112 h140 h147).1) h154) (fun h154 => ?_)
              refine ev_iload dL_isRiskSo_157 rfl ?_
              refine ev_iload dL_isRiskSo_159 rfl ?_
              refine ev_icmp_ge 168 dL_isRiskSo_161 (by decide) (fun h161 => absurd h161 ((rk_f1 hI hp8 rfl rfl h112 h140 h147).2)) (fun h161 => ?_)
              refine ev_iconst (nI 1) dL_isRiskSo_164 rfl ?_
              refine ev_goto 169 dL_isRiskSo_165 (by decide) ?_
              refine ev_istore_n 2 dL_isRiskSo_169 rfl (Nat.le_of_ble_eq_true rfl) rfl ?_
              exact ev_sub [0, 3, 5, 6] rfl (ev_up (by omega) (J170 _ S10))
        · refine ev_aload_n 0 dL_isRiskSo_115 rfl rfl ?_
          refine ev_iload dL_isRiskSo_116 rfl ?_
          refine ev_h1 (K := 580) 1 S9 (q_debtOf S9 (rk_at hI hp8).1) kX3_debtOf rfl rfl g449 rfl (by omega) rfl dL_isRiskSo_118 (fun u11 S11 => ?_)
          refine ev_if_ne 168 dL_isRiskSo_121 (by decide) (fun h121 => absurd ((rk_f0 hI hp8 rfl rfl h112).1) h121) (fun h121 => ?_)
          refine ev_iload dL_isRiskSo_124 rfl ?_
          refine ev_iload dL_isRiskSo_126 rfl ?_
          refine ev_icmp_ge 168 dL_isRiskSo_128 (by decide) (fun h128 => absurd h128 ((rk_f0 hI hp8 rfl rfl h112).2)) (fun h128 => ?_)
          refine ev_goto 164 dL_isRiskSo_131 (by decide) ?_
          refine ev_iconst (nI 1) dL_isRiskSo_164 rfl ?_
          refine ev_goto 169 dL_isRiskSo_165 (by decide) ?_
          refine ev_istore_n 2 dL_isRiskSo_169 rfl (Nat.le_of_ble_eq_true rfl) rfl ?_
          exact ev_sub [0, 3, 5, 6] rfl (ev_up (by omega) (J170 _ S11))
  refine ev_iconst (nI 0) dL_isRiskSo_0 rfl ?_
  refine ev_istore_n 1 dL_isRiskSo_1 rfl (Nat.le_of_ble_eq_true rfl) rfl ?_
  refine ev_iconst (nI 1) dL_isRiskSo_2 rfl ?_
  refine ev_istore_n 2 dL_isRiskSo_3 rfl (Nat.le_of_ble_eq_true rfl) rfl ?_
  refine ev_iconst (nI 0) dL_isRiskSo_4 rfl ?_
  refine ev_istore_n 3 dL_isRiskSo_5 rfl (Nat.le_of_ble_eq_true rfl) rfl ?_
  refine ev_LL [(3, .int (nI 0)), (2, .int (nI 1)), (1, .int (bitN (tkN σ 0).1 8)), (0, .ref 7)] (by rw [show bitN (tkN σ 0).1 8 = nI 0 from bit_0]; rfl) ?_
  exact H 8 0 _ rfl hS
