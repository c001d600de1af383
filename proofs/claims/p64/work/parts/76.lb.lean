/-! ===== the law: a client ===== -/
theorem opn_K {σ : Nat → Int32} (h : INV σ) {c : Nat} (hc : c < 8) (hk : isK σ c = true) : covI σ c (nI 0) (nI 1) < σ (ix c 7) ∧ opnS σ c = nI 0 := by
  have hC : isC σ c = false := by
    have := K_C h hc
    rw [hk] at this
    cases hz : isC σ c with
    | false => rfl
    | true => rw [hz] at this; cases this
  have hlt : covI σ c (nI 0) (nI 1) < σ (ix c 7) := Int32.not_le.mp (of_decide_eq_false hC)
  refine ⟨hlt, ?_⟩
  unfold opnS
  rw [if_pos (Or.inr ?_)]
  unfold romD
  obtain ⟨N, hN, e⟩ := cov_of h hc
  obtain ⟨de, hd, ed⟩ := deb_of h hc
  rw [e, ed] at hlt ⊢
  rw [nI_ltI (by omega) (by omega)] at hlt
  exact pk_sneg (by omega) hlt
theorem opn_C {σ : Nat → Int32} (h : INV σ) {c : Nat} (hc : c < 8) (hk : isK σ c = false) : σ (ix c 7) ≤ covI σ c (nI 0) (nI 1) ∧ (σ (ix c 9) = 0 → opnS σ c = covI σ c (nI 0) (nI 1) - σ (ix c 7)) := by
  have hC := unc_cov h hc hk
  have hle : σ (ix c 7) ≤ covI σ c (nI 0) (nI 1) := of_decide_eq_true hC
  refine ⟨hle, fun hb => ?_⟩
  unfold opnS romD
  obtain ⟨N, hN, e⟩ := cov_of h hc
  obtain ⟨de, hd, ed⟩ := deb_of h hc
  rw [e, ed] at hle ⊢
  have hl := nI_ge9 hle (by omega) (by omega)
  rw [if_neg (fun y => y.elim (fun z => z hb) (fun z => nI_pos (by omega) (pk_sub hl ▸ z)))]
theorem opn_b {σ : Nat → Int32} {c : Nat} (hb : ¬ σ (ix c 9) = 0) : opnS σ c = nI 0 := if_pos (Or.inl hb)
set_option maxHeartbeats 2000000 in
theorem client_T {σ : Nat → Int32} {w : PW} (hS : SW σ w) (hI : INV σ) {c : Nat} (hc : c < 8) (hk : isK σ c = true) : Ev mL_isClientSo (pV (.int (nI 1)) σ) nx 60 109 [(7, .int (nI 1)), (6, .int (σ (ix c 7))), (5, .int (covI σ c (nI 0) (nI 1))), (4, .int (nI (nP σ c 6))), (3, .int (csS σ c 6)), (2, .int (worS σ c 6)), (0, .ref 7), (1, .int (nI c))] [] w := by
  obtain ⟨de, hd, ed⟩ := deb_of hI hc
  obtain ⟨co, hco, ec⟩ := coi_of hI hc
  have hnp := np_of hI c hc
  obtain ⟨n, l, w1, w2, w3, w4, w5⟩ := would hI hc ed hd ec hco
  have w6 : ¬ σ (ix c 6) < σ (ix c 7) → n = 0 ∧ l = 0 := fun y => w5 (nI_ge9 (Int32.not_lt.mp (by rw [← ec, ← ed]; exact y)) (by omega) (by omega))
  obtain ⟨hlt, ho⟩ := opn_K hI hc hk
  obtain ⟨hh, q1, q2, q3⟩ := cl_hours hI hc hk
  refine ev_aload_n 0 dL_isClientSo_109 rfl rfl ?_
  refine ev_iload_n 1 dL_isClientSo_110 rfl rfl ?_
  refine ev_h1 (K := 580) 1 hS (q_worthOf hS hc) kX3_worthOf rfl rfl g609 rfl (Nat.le_of_ble_eq_true rfl) rfl dL_isClientSo_111 (fun u1 S1 => ?_)
  refine ev_iload_n 2 dL_isClientSo_114 rfl rfl ?_
  refine ev_icmp_ne 181 dL_isClientSo_115 (by decide) (fun h115 => absurd (rfl) h115) (fun h115 => ?_)
  refine ev_aload_n 0 dL_isClientSo_118 rfl rfl ?_
  refine ev_iload_n 1 dL_isClientSo_119 rfl rfl ?_
  refine ev_h1 (K := 580) 1 S1 (q_coverOf S1 hc) kX3_coverOf rfl rfl g401 rfl (Nat.le_of_ble_eq_true rfl) rfl dL_isClientSo_120 (fun u2 S2 => ?_)
  refine ev_iload dL_isClientSo_123 rfl ?_
  refine ev_icmp_ne 181 dL_isClientSo_125 (by decide) (fun h125 => absurd (rfl) h125) (fun h125 => ?_)
  refine ev_iload dL_isClientSo_128 rfl ?_
  refine ev_iload dL_isClientSo_130 rfl ?_
  refine ev_iload dL_isClientSo_132 rfl ?_
  refine ev_icmp_le 141 dL_isClientSo_134 (by decide) (fun h134 => absurd h134 (Int32.not_le.mpr hlt)) (fun h134 => ?_)
  refine ev_iconst (nI 1) dL_isClientSo_137 rfl ?_
  refine ev_goto 142 dL_isClientSo_138 (by decide) ?_
  refine ev_icmp_ne 181 dL_isClientSo_142 (by decide) (fun h142 => absurd (rfl) h142) (fun h142 => ?_)
  refine ev_aload_n 0 dL_isClientSo_145 rfl rfl ?_
  refine ev_iload_n 1 dL_isClientSo_146 rfl rfl ?_
  refine ev_h1 (K := 580) 1 S2 (q_roomOf S2 hc) kX3_roomOf rfl rfl g468 rfl (Nat.le_of_ble_eq_true rfl) rfl dL_isClientSo_147 (fun u3 S3 => ?_)
  refine ev_aload_n 0 dL_isClientSo_150 rfl rfl ?_
  refine ev_iload_n 1 dL_isClientSo_151 rfl rfl ?_
  refine ev_h1 (K := 580) 1 S3 (q_isBarred S3 hc hI) kX3_isBarred rfl rfl g617 rfl (Nat.le_of_ble_eq_true rfl) rfl dL_isClientSo_152 (fun u4 S4 => ?_)
  suffices J174 : ∀ u, SW σ u → Ev mL_isClientSo (pV (.int (nI 1)) σ) nx 64 174 [(7, .int (nI 1)), (6, .int (σ (ix c 7))), (5, .int (covI σ c (nI 0) (nI 1))), (4, .int (nI (nP σ c 6))), (3, .int (csS σ c 6)), (2, .int (worS σ c 6)), (0, .ref 7), (1, .int (nI c))] [.int (nI 0), .int (opnS σ c)] u by
    refine ev_if_ne 165 dL_isClientSo_155 (by decide) (fun h155 => ?_) (fun h155 => ?_)
    · refine ev_iconst (nI 0) dL_isClientSo_165 rfl ?_
      refine ev_goto 174 dL_isClientSo_166 (by decide) ?_
      exact J174 _ S4
    · refine ev_iload dL_isClientSo_158 rfl ?_
      refine ev_iload dL_isClientSo_160 rfl ?_
      refine ev_icmp_le 169 dL_isClientSo_162 (by decide) (fun h162 => absurd h162 (Int32.not_le.mpr hlt)) (fun h162 => ?_)
      refine ev_iconst (nI 0) dL_isClientSo_165 rfl ?_
      refine ev_goto 174 dL_isClientSo_166 (by decide) ?_
      exact J174 _ S4
  intro u hS
  refine ev_icmp_ne 181 dL_isClientSo_174 (by decide) (fun h174 => absurd (ho) h174) (fun h174 => ?_)
  refine ev_iconst (nI 1) dL_isClientSo_177 rfl ?_
  refine ev_goto 182 dL_isClientSo_178 (by decide) ?_
  refine ev_istore dL_isClientSo_182 (Nat.le_of_ble_eq_true rfl) rfl ?_
  refine ev_iload dL_isClientSo_184 rfl ?_
  refine ev_if_eq 232 dL_isClientSo_186 (by decide) (fun h186 => absurd h186 (by decide)) (fun h186 => ?_)
  refine ev_iload dL_isClientSo_189 rfl ?_
  refine ev_if_eq 228 dL_isClientSo_191 (by decide) (fun h191 => absurd h191 (by decide)) (fun h191 => ?_)
  refine ev_aload_n 0 dL_isClientSo_194 rfl rfl ?_
  refine ev_iload_n 1 dL_isClientSo_195 rfl rfl ?_
  refine ev_h1 (K := 580) 2 hS (q_hoursLeft hS hc hk) kX3_hoursLeft rfl rfl g621 rfl (Nat.le_of_ble_eq_true rfl) rfl dL_isClientSo_196 (fun u5 S5 => ?_)
  refine ev_top (nI hh) (q3) ?_
  refine ev_if_le 232 dL_isClientSo_199 (by decide) (fun h199 => absurd h199 (Int32.not_le.mpr (nI_lt (a := 0) (b := hh) (by omega) (by omega)))) (fun h199 => ?_)
  refine ev_aload_n 0 dL_isClientSo_202 rfl rfl ?_
  refine ev_iload_n 1 dL_isClientSo_203 rfl rfl ?_
  refine ev_h1 (K := 580) 2 S5 (q_hoursLeft S5 hc hk) kX3_hoursLeft rfl rfl g621 rfl (Nat.le_of_ble_eq_true rfl) rfl dL_isClientSo_204 (fun u6 S6 => ?_)
  refine ev_top (nI hh) (q3) ?_
  refine ev_bipush (nI 25) dL_isClientSo_207 rfl ?_
  refine ev_icmp_ge 232 dL_isClientSo_209 (by decide) (fun h209 => absurd h209 (nI_nlb (b := 25) (by omega) (by omega))) (fun h209 => ?_)
  refine ev_aload_n 0 dL_isClientSo_212 rfl rfl ?_
  refine ev_iload_n 1 dL_isClientSo_213 rfl rfl ?_
  refine ev_h1 (K := 580) 2 S6 (q_fallToCallByTrying S6 hc (by rw [try_K hk]; decide)) kX3_fallToCallByTrying rfl rfl g625 rfl (Nat.le_of_ble_eq_true rfl) rfl dL_isClientSo_214 (fun u7 S7 => ?_)
  refine ev_top (nI 0) (try_K hk) ?_
  refine ev_if_ne 232 dL_isClientSo_217 (by decide) (fun h217 => absurd (rfl) h217) (fun h217 => ?_)
  refine ev_aload_n 0 dL_isClientSo_220 rfl rfl ?_
  refine ev_iload_n 1 dL_isClientSo_221 rfl rfl ?_
  refine ev_h1 (K := 580) 2 S7 (q_hoursToCall S7 hc (by rw [hucK hk]; decide)) kX3_hoursToCall rfl rfl g633 rfl (Nat.le_of_ble_eq_true rfl) rfl dL_isClientSo_222 (fun u8 S8 => ?_)
  refine ev_top (nI 0) (hucK hk) ?_
  refine ev_if_ne 232 dL_isClientSo_225 (by decide) (fun h225 => absurd (rfl) h225) (fun h225 => ?_)
  refine ev_iconst (nI 1) dL_isClientSo_228 rfl ?_
  refine ev_goto 233 dL_isClientSo_229 (by decide) ?_
  refine ev_istore dL_isClientSo_233 (Nat.le_of_ble_eq_true rfl) rfl ?_
  refine ev_aload_n 0 dL_isClientSo_235 rfl rfl ?_
  refine ev_iload_n 1 dL_isClientSo_236 rfl rfl ?_
  refine ev_h1 (K := 580) 1 S8 (q_wouldSell S8 hI hc) kX3_wouldSell rfl rfl g641 rfl (Nat.le_of_ble_eq_true rfl) rfl dL_isClientSo_237 (fun u9 S9 => ?_)
  refine ev_top (nI n) (w1) ?_
  refine ev_istore dL_isClientSo_240 (Nat.le_of_ble_eq_true rfl) rfl ?_
  refine ev_aload_n 0 dL_isClientSo_242 rfl rfl ?_
  refine ev_iload_n 1 dL_isClientSo_243 rfl rfl ?_
  refine ev_h1 (K := 580) 1 S9 (q_wouldLose S9 hI hc) kX3_wouldLose rfl rfl g646 rfl (Nat.le_of_ble_eq_true rfl) rfl dL_isClientSo_244 (fun u10 S10 => ?_)
  refine ev_top (nI l) (w2) ?_
  refine ev_istore dL_isClientSo_247 (Nat.le_of_ble_eq_true rfl) rfl ?_
  refine ev_iload dL_isClientSo_249 rfl ?_
  refine ev_if_eq 302 dL_isClientSo_251 (by decide) (fun h251 => absurd h251 (by decide)) (fun h251 => ?_)
  refine ev_iload dL_isClientSo_254 rfl ?_
  refine ev_if_lt 302 dL_isClientSo_256 (by decide) (fun h256 => absurd h256 (nI_pos (by omega))) (fun h256 => ?_)
  refine ev_iload dL_isClientSo_259 rfl ?_
  refine ev_iload dL_isClientSo_261 rfl ?_
  refine ev_icmp_gt 302 dL_isClientSo_263 (by decide) (fun h263 => absurd h263 (nI_nlt w3 (by omega))) (fun h263 => ?_)
  refine ev_iload dL_isClientSo_266 rfl ?_
  refine ev_if_lt 302 dL_isClientSo_268 (by decide) (fun h268 => absurd h268 (nI_pos (by omega))) (fun h268 => ?_)
  refine ev_iload dL_isClientSo_271 rfl ?_
  refine ev_iload dL_isClientSo_273 rfl ?_
  refine ev_icmp_gt 302 dL_isClientSo_275 (by decide) (fun h275 => absurd h275 (by rw [ed]; exact nI_nlt w4 (by omega))) (fun h275 => ?_)
  refine ev_aload_n 0 dL_isClientSo_278 rfl rfl ?_
  refine ev_iload_n 1 dL_isClientSo_279 rfl rfl ?_
  refine ev_h1 (K := 580) 1 S10 (q_coinsOf S10 hc) kX3_coinsOf rfl rfl g432 rfl (Nat.le_of_ble_eq_true rfl) rfl dL_isClientSo_280 (fun u11 S11 => ?_)
  refine ev_iload dL_isClientSo_283 rfl ?_
  suffices J298 : Ev mL_isClientSo (pV (.int (nI 1)) σ) nx (75) 298 [(10, .int (nI l)), (9, .int (nI n)), (8, .int (nI 1)), (7, .int (nI 1)), (6, .int (σ (ix c 7))), (5, .int (covI σ c (nI 0) (nI 1))), (4, .int (nI (nP σ c 6))), (3, .int (csS σ c 6)), (2, .int (worS σ c 6)), (0, .ref 7), (1, .int (nI c))] [] u11 by
    refine ev_icmp_lt 298 dL_isClientSo_285 (by decide) (fun h285 => ?_) (fun h285 => ?_)
    · exact J298
    · refine ev_iload dL_isClientSo_288 rfl ?_
      refine ev_if_ne 302 dL_isClientSo_290 (by decide) (fun h290 => absurd (by rw [(w6 h285).1]; rfl) h290) (fun h290 => ?_)
      refine ev_iload dL_isClientSo_293 rfl ?_
      refine ev_if_ne 302 dL_isClientSo_295 (by decide) (fun h295 => absurd (by rw [(w6 h285).2]; rfl) h295) (fun h295 => ?_)
      exact J298
  refine ev_iconst (nI 1) dL_isClientSo_298 rfl ?_
  refine ev_goto 303 dL_isClientSo_299 (by decide) ?_
  refine ev_istore dL_isClientSo_303 (Nat.le_of_ble_eq_true rfl) rfl ?_
  refine ev_iload dL_isClientSo_305 rfl ?_
  refine ev_if_ne 393 dL_isClientSo_307 (by decide) (fun h307 => ?_) (fun h307 => absurd h307 (by decide))
  refine ev_iload dL_isClientSo_393 rfl ?_
  exact ev_ireturn dL_isClientSo_395 (Nat.le_of_ble_eq_true rfl) ⟨rfl, S11⟩
set_option maxHeartbeats 2000000 in
theorem client_F {σ : Nat → Int32} {w : PW} (hS : SW σ w) (hI : INV σ) {c : Nat} (hc : c < 8) (hk : isK σ c = false) : Ev mL_isClientSo (pV (.int (nI 1)) σ) nx 60 109 [(7, .int (nI 0)), (6, .int (σ (ix c 7))), (5, .int (covI σ c (nI 0) (nI 1))), (4, .int (nI (nP σ c 6))), (3, .int (csS σ c 6)), (2, .int (worS σ c 6)), (0, .ref 7), (1, .int (nI c))] [] w := by
  obtain ⟨de, hd, ed⟩ := deb_of hI hc
  obtain ⟨co, hco, ec⟩ := coi_of hI hc
  have hnp := np_of hI c hc
  obtain ⟨n, l, w1, w2, w3, w4, w5⟩ := would hI hc ed hd ec hco
  have w6 : ¬ σ (ix c 6) < σ (ix c 7) → n = 0 ∧ l = 0 := fun y => w5 (nI_ge9 (Int32.not_lt.mp (by rw [← ec, ← ed]; exact y)) (by omega) (by omega))
  obtain ⟨hle, ho⟩ := opn_C hI hc hk
  refine ev_aload_n 0 dL_isClientSo_109 rfl rfl ?_
  refine ev_iload_n 1 dL_isClientSo_110 rfl rfl ?_
  refine ev_h1 (K := 580) 1 hS (q_worthOf hS hc) kX3_worthOf rfl rfl g609 rfl (Nat.le_of_ble_eq_true rfl) rfl dL_isClientSo_111 (fun u12 S12 => ?_)
  refine ev_iload_n 2 dL_isClientSo_114 rfl rfl ?_
  refine ev_icmp_ne 181 dL_isClientSo_115 (by decide) (fun h115 => absurd (rfl) h115) (fun h115 => ?_)
  refine ev_aload_n 0 dL_isClientSo_118 rfl rfl ?_
  refine ev_iload_n 1 dL_isClientSo_119 rfl rfl ?_
  refine ev_h1 (K := 580) 1 S12 (q_coverOf S12 hc) kX3_coverOf rfl rfl g401 rfl (Nat.le_of_ble_eq_true rfl) rfl dL_isClientSo_120 (fun u13 S13 => ?_)
  refine ev_iload dL_isClientSo_123 rfl ?_
  refine ev_icmp_ne 181 dL_isClientSo_125 (by decide) (fun h125 => absurd (rfl) h125) (fun h125 => ?_)
  refine ev_iload dL_isClientSo_128 rfl ?_
  refine ev_iload dL_isClientSo_130 rfl ?_
  refine ev_iload dL_isClientSo_132 rfl ?_
  refine ev_icmp_le 141 dL_isClientSo_134 (by decide) (fun h134 => ?_) (fun h134 => absurd (hle) h134)
  refine ev_iconst (nI 0) dL_isClientSo_141 rfl ?_
  refine ev_icmp_ne 181 dL_isClientSo_142 (by decide) (fun h142 => absurd (rfl) h142) (fun h142 => ?_)
  refine ev_aload_n 0 dL_isClientSo_145 rfl rfl ?_
  refine ev_iload_n 1 dL_isClientSo_146 rfl rfl ?_
  refine ev_h1 (K := 580) 1 S13 (q_roomOf S13 hc) kX3_roomOf rfl rfl g468 rfl (Nat.le_of_ble_eq_true rfl) rfl dL_isClientSo_147 (fun u14 S14 => ?_)
  refine ev_aload_n 0 dL_isClientSo_150 rfl rfl ?_
  refine ev_iload_n 1 dL_isClientSo_151 rfl rfl ?_
  refine ev_h1 (K := 580) 1 S14 (q_isBarred S14 hc hI) kX3_isBarred rfl rfl g617 rfl (Nat.le_of_ble_eq_true rfl) rfl dL_isClientSo_152 (fun u15 S15 => ?_)
  suffices J177 : ∀ u, SW σ u → Ev mL_isClientSo (pV (.int (nI 1)) σ) nx 64 177 [(7, .int (nI 0)), (6, .int (σ (ix c 7))), (5, .int (covI σ c (nI 0) (nI 1))), (4, .int (nI (nP σ c 6))), (3, .int (csS σ c 6)), (2, .int (worS σ c 6)), (0, .ref 7), (1, .int (nI c))] [] u by
    refine ev_if_ne 165 dL_isClientSo_155 (by decide) (fun h155 => ?_) (fun h155 => ?_)
    · refine ev_iconst (nI 0) dL_isClientSo_165 rfl ?_
      refine ev_goto 174 dL_isClientSo_166 (by decide) ?_
      refine ev_icmp_ne 181 dL_isClientSo_174 (by decide) (fun h174 => absurd (opn_b h155) h174) (fun h174 => ?_)
      exact J177 _ S15
    · refine ev_iload dL_isClientSo_158 rfl ?_
      refine ev_iload dL_isClientSo_160 rfl ?_
      refine ev_icmp_le 169 dL_isClientSo_162 (by decide) (fun h162 => ?_) (fun h162 => absurd (hle) h162)
      refine ev_iload dL_isClientSo_169 rfl ?_
      refine ev_iload dL_isClientSo_171 rfl ?_
      refine ev_isub dL_isClientSo_173 ?_
      refine ev_icmp_ne 181 dL_isClientSo_174 (by decide) (fun h174 => absurd (ho h155) h174) (fun h174 => ?_)
      exact J177 _ S15
  intro u hS
  refine ev_iconst (nI 1) dL_isClientSo_177 rfl ?_
  refine ev_goto 182 dL_isClientSo_178 (by decide) ?_
  refine ev_istore dL_isClientSo_182 (Nat.le_of_ble_eq_true rfl) rfl ?_
  refine ev_iload dL_isClientSo_184 rfl ?_
  refine ev_if_eq 232 dL_isClientSo_186 (by decide) (fun h186 => absurd h186 (by decide)) (fun h186 => ?_)
  refine ev_iload dL_isClientSo_189 rfl ?_
  refine ev_if_eq 228 dL_isClientSo_191 (by decide) (fun h191 => ?_) (fun h191 => absurd (rfl) h191)
  refine ev_iconst (nI 1) dL_isClientSo_228 rfl ?_
  refine ev_goto 233 dL_isClientSo_229 (by decide) ?_
  refine ev_istore dL_isClientSo_233 (Nat.le_of_ble_eq_true rfl) rfl ?_
  refine ev_aload_n 0 dL_isClientSo_235 rfl rfl ?_
  refine ev_iload_n 1 dL_isClientSo_236 rfl rfl ?_
  refine ev_h1 (K := 580) 1 hS (q_wouldSell hS hI hc) kX3_wouldSell rfl rfl g641 rfl (Nat.le_of_ble_eq_true rfl) rfl dL_isClientSo_237 (fun u16 S16 => ?_)
  refine ev_top (nI n) (w1) ?_
  refine ev_istore dL_isClientSo_240 (Nat.le_of_ble_eq_true rfl) rfl ?_
  refine ev_aload_n 0 dL_isClientSo_242 rfl rfl ?_
  refine ev_iload_n 1 dL_isClientSo_243 rfl rfl ?_
  refine ev_h1 (K := 580) 1 S16 (q_wouldLose S16 hI hc) kX3_wouldLose rfl rfl g646 rfl (Nat.le_of_ble_eq_true rfl) rfl dL_isClientSo_244 (fun u17 S17 => ?_)
  refine ev_top (nI l) (w2) ?_
  refine ev_istore dL_isClientSo_247 (Nat.le_of_ble_eq_true rfl) rfl ?_
  refine ev_iload dL_isClientSo_249 rfl ?_
  refine ev_if_eq 302 dL_isClientSo_251 (by decide) (fun h251 => absurd h251 (by decide)) (fun h251 => ?_)
  refine ev_iload dL_isClientSo_254 rfl ?_
  refine ev_if_lt 302 dL_isClientSo_256 (by decide) (fun h256 => absurd h256 (nI_pos (by omega))) (fun h256 => ?_)
  refine ev_iload dL_isClientSo_259 rfl ?_
  refine ev_iload dL_isClientSo_261 rfl ?_
  refine ev_icmp_gt 302 dL_isClientSo_263 (by decide) (fun h263 => absurd h263 (nI_nlt w3 (by omega))) (fun h263 => ?_)
  refine ev_iload dL_isClientSo_266 rfl ?_
  refine ev_if_lt 302 dL_isClientSo_268 (by decide) (fun h268 => absurd h268 (nI_pos (by omega))) (fun h268 => ?_)
  refine ev_iload dL_isClientSo_271 rfl ?_
  refine ev_iload dL_isClientSo_273 rfl ?_
  refine ev_icmp_gt 302 dL_isClientSo_275 (by decide) (fun h275 => absurd h275 (by rw [ed]; exact nI_nlt w4 (by omega))) (fun h275 => ?_)
  refine ev_aload_n 0 dL_isClientSo_278 rfl rfl ?_
  refine ev_iload_n 1 dL_isClientSo_279 rfl rfl ?_
  refine ev_h1 (K := 580) 1 S17 (q_coinsOf S17 hc) kX3_coinsOf rfl rfl g432 rfl (Nat.le_of_ble_eq_true rfl) rfl dL_isClientSo_280 (fun u18 S18 => ?_)
  refine ev_iload dL_isClientSo_283 rfl ?_
  suffices J298 : Ev mL_isClientSo (pV (.int (nI 1)) σ) nx (67) 298 [(10, .int (nI l)), (9, .int (nI n)), (8, .int (nI 1)), (7, .int (nI 0)), (6, .int (σ (ix c 7))), (5, .int (covI σ c (nI 0) (nI 1))), (4, .int (nI (nP σ c 6))), (3, .int (csS σ c 6)), (2, .int (worS σ c 6)), (0, .ref 7), (1, .int (nI c))] [] u18 by
    refine ev_icmp_lt 298 dL_isClientSo_285 (by decide) (fun h285 => ?_) (fun h285 => ?_)
    · exact J298
    · refine ev_iload dL_isClientSo_288 rfl ?_
      refine ev_if_ne 302 dL_isClientSo_290 (by decide) (fun h290 => absurd (by rw [(w6 h285).1]; rfl) h290) (fun h290 => ?_)
      refine ev_iload dL_isClientSo_293 rfl ?_
      refine ev_if_ne 302 dL_isClientSo_295 (by decide) (fun h295 => absurd (by rw [(w6 h285).2]; rfl) h295) (fun h295 => ?_)
      exact J298
  refine ev_iconst (nI 1) dL_isClientSo_298 rfl ?_
  refine ev_goto 303 dL_isClientSo_299 (by decide) ?_
  refine ev_istore dL_isClientSo_303 (Nat.le_of_ble_eq_true rfl) rfl ?_
  refine ev_iload dL_isClientSo_305 rfl ?_
  refine ev_if_ne 393 dL_isClientSo_307 (by decide) (fun h307 => absurd (rfl) h307) (fun h307 => ?_)
  refine ev_iload dL_isClientSo_310 rfl ?_
  refine ev_aload_n 0 dL_isClientSo_312 rfl rfl ?_
  refine ev_iload_n 1 dL_isClientSo_313 rfl rfl ?_
  refine ev_h1 (K := 580) 1 S18 (q_coinsOf S18 hc) kX3_coinsOf rfl rfl g432 rfl (Nat.le_of_ble_eq_true rfl) rfl dL_isClientSo_314 (fun u19 S19 => ?_)
  by_cases hq : σ (ix c 7) ≤ σ (ix c 6)
  · refine ev_icmp_le 393 dL_isClientSo_317 (by decide) (fun h317 => ?_) (fun h317 => absurd (hq) h317)
    refine ev_iload dL_isClientSo_393 rfl ?_
    exact ev_ireturn dL_isClientSo_395 (Nat.le_of_ble_eq_true rfl) ⟨rfl, S19⟩
  · obtain ⟨p, p1, p2, t1, t2, t3, t4⟩ := cl_fall hI hc hk (Int32.not_le.mp hq)
    refine ev_icmp_le 393 dL_isClientSo_317 (by decide) (fun h317 => absurd h317 (hq)) (fun h317 => ?_)
    refine ev_aload_n 0 dL_isClientSo_320 rfl rfl ?_
    refine ev_iload_n 1 dL_isClientSo_321 rfl rfl ?_
    refine ev_h1 (K := 580) 2 S19 (q_fallToCallByTrying S19 hc (by rw [t1]; exact m1_n (by omega))) kX3_fallToCallByTrying rfl rfl g625 rfl (Nat.le_of_ble_eq_true rfl) rfl dL_isClientSo_322 (fun u20 S20 => ?_)
    refine ev_top (nI p) (t1) ?_
    refine ev_istore dL_isClientSo_325 (Nat.le_of_ble_eq_true rfl) rfl ?_
    refine ev_iload dL_isClientSo_327 rfl ?_
    refine ev_if_eq 390 dL_isClientSo_329 (by decide) (fun h329 => absurd h329 (by decide)) (fun h329 => ?_)
    refine ev_aload_n 0 dL_isClientSo_332 rfl rfl ?_
    refine ev_iload_n 1 dL_isClientSo_333 rfl rfl ?_
    refine ev_h1 (K := 580) 2 S20 (q_fallToCallByHalving S20 hc (by rw [t2]; exact m1_n (by omega))) kX3_fallToCallByHalving rfl rfl g650 rfl (Nat.le_of_ble_eq_true rfl) rfl dL_isClientSo_334 (fun u21 S21 => ?_)
    refine ev_top (nI p) (t2) ?_
    refine ev_iload dL_isClientSo_337 rfl ?_
    refine ev_icmp_ne 390 dL_isClientSo_339 (by decide) (fun h339 => absurd (rfl) h339) (fun h339 => ?_)
    refine ev_iload dL_isClientSo_342 rfl ?_
    refine ev_if_le 390 dL_isClientSo_344 (by decide) (fun h344 => absurd h344 (Int32.not_le.mpr (nI_lt (a := 0) (b := p) (by omega) (by omega)))) (fun h344 => ?_)
    refine ev_iload dL_isClientSo_347 rfl ?_
    refine ev_bipush (nI 101) dL_isClientSo_349 rfl ?_
    refine ev_icmp_ge 390 dL_isClientSo_351 (by decide) (fun h351 => absurd h351 (nI_nlb (b := 101) (by omega) (by omega))) (fun h351 => ?_)
    refine ev_aload_n 0 dL_isClientSo_354 rfl rfl ?_
    refine ev_iload_n 1 dL_isClientSo_355 rfl rfl ?_
    refine ev_iload dL_isClientSo_356 rfl ?_
    refine ev_m3 (K := 500) 100 (c_ifF S21 hI hc p2) kL_ifFallen rfl g658 rfl (Nat.le_of_ble_eq_true rfl) rfl dL_isClientSo_358 (fun u22 S22 => ?_)
    refine ev_iload dL_isClientSo_361 rfl ?_
    refine ev_icmp_ge 390 dL_isClientSo_363 (by decide) (fun h363 => absurd h363 (Int32.not_le.mpr t3)) (fun h363 => ?_)
    by_cases hp1 : p = 1
    · refine ev_iload dL_isClientSo_366 rfl ?_
      refine ev_iconst (nI 1) dL_isClientSo_368 rfl ?_
      refine ev_icmp_eq 386 dL_isClientSo_369 (by decide) (fun h369 => ?_) (fun h369 => absurd (by rw [hp1]) h369)
      refine ev_iconst (nI 1) dL_isClientSo_386 rfl ?_
      refine ev_goto 391 dL_isClientSo_387 (by decide) ?_
      refine ev_istore dL_isClientSo_391 (Nat.le_of_ble_eq_true rfl) rfl ?_
      refine ev_iload dL_isClientSo_393 rfl ?_
      exact ev_ireturn dL_isClientSo_395 (Nat.le_of_ble_eq_true rfl) ⟨rfl, S22⟩
    · refine ev_iload dL_isClientSo_366 rfl ?_
      refine ev_iconst (nI 1) dL_isClientSo_368 rfl ?_
      refine ev_icmp_eq 386 dL_isClientSo_369 (by decide) (fun h369 => absurd h369 (fun y => hp1 (by have := congrArg Int32.toInt y; rw [nI_toInt (by omega), nI_toInt (by omega)] at this; omega))) (fun h369 => ?_)
      refine ev_aload_n 0 dL_isClientSo_372 rfl rfl ?_
      refine ev_iload_n 1 dL_isClientSo_373 rfl rfl ?_
      refine ev_iload dL_isClientSo_374 rfl ?_
      refine ev_iconst (nI 1) dL_isClientSo_376 rfl ?_
      refine ev_isub dL_isClientSo_377 ?_
      refine ev_top (nI (p - 1)) (pk_sub p1) ?_
      refine ev_m3 (K := 500) 100 (c_ifF S22 hI hc (p := p - 1) (by omega)) kL_ifFallen rfl g658 rfl (Nat.le_of_ble_eq_true rfl) rfl dL_isClientSo_378 (fun u23 S23 => ?_)
      refine ev_iload dL_isClientSo_381 rfl ?_
      refine ev_icmp_lt 390 dL_isClientSo_383 (by decide) (fun h383 => absurd h383 (t4 hp1)) (fun h383 => ?_)
      refine ev_iconst (nI 1) dL_isClientSo_386 rfl ?_
      refine ev_goto 391 dL_isClientSo_387 (by decide) ?_
      refine ev_istore dL_isClientSo_391 (Nat.le_of_ble_eq_true rfl) rfl ?_
      refine ev_iload dL_isClientSo_393 rfl ?_
      exact ev_ireturn dL_isClientSo_395 (Nat.le_of_ble_eq_true rfl) ⟨rfl, S23⟩
set_option maxHeartbeats 2000000 in
theorem c_client {σ : Nat → Int32} {w : PW} (hS : SW σ w) (hI : INV σ) {c : Nat} (hc : c < 8) : Ct mL_isClientSo [.ref 7, .int (nI c)] w (pV (.int (nI 1)) σ) nx := by
  refine ct_of 2 kL_isClientSo.1 rfl (Nat.le_of_ble_eq_true rfl) (fun v u h => by obtain ⟨rfl, -⟩ := h; exact rfl) ?_
  show Ev _ _ _ 0 0 [(0, .ref 7), (1, .int (nI c))] [] _
  have H : ∀ (N j : Nat) (u : PW), j + N = 6 → SW σ u → Ev mL_isClientSo (pV (.int (nI 1)) σ) nx (1 + 9 * j) 14 [(5, .int (nI j)), (4, .int (spS σ c j)), (3, .int (csS σ c j)), (2, .int (worS σ c j)), (0, .ref 7), (1, .int (nI c))] [] u := by
    intro N
    induction N with
    | zero =>
      intro j u hj hS
      obtain rfl : j = 6 := by omega
      refine ev_iload dL_isClientSo_14 rfl ?_
      refine ev_bipush (nI 6) dL_isClientSo_16 rfl ?_
      refine ev_icmp_ge 83 dL_isClientSo_18 (by decide) (fun h18 => ?_) (fun h18 => absurd (Int32.le_refl _) h18)
      refine ev_aload_n 0 dL_isClientSo_83 rfl rfl ?_
      refine ev_iload_n 1 dL_isClientSo_84 rfl rfl ?_
      refine ev_h1 (K := 580) 1 hS (q_coinsOf hS hc) kX3_coinsOf rfl rfl g432 rfl (by omega) rfl dL_isClientSo_85 (fun u24 S24 => ?_)
      refine ev_iload_n 3 dL_isClientSo_88 rfl rfl ?_
      refine ev_bipush (nI 100) dL_isClientSo_89 rfl ?_
      refine ev_idiv dL_isClientSo_91 (by decide) ?_
      refine ev_iadd dL_isClientSo_92 ?_
      refine ev_top (covI σ c (nI 0) (nI 1)) (by rw [cs_cov hI c 6 (Nat.le_refl 6)]; rfl) ?_
      refine ev_istore dL_isClientSo_93 (Nat.le_of_ble_eq_true rfl) rfl ?_
      refine ev_aload_n 0 dL_isClientSo_95 rfl rfl ?_
      refine ev_iload_n 1 dL_isClientSo_96 rfl rfl ?_
      refine ev_h1 (K := 580) 1 S24 (q_debtOf S24 hc) kX3_debtOf rfl rfl g449 rfl (by omega) rfl dL_isClientSo_97 (fun u25 S25 => ?_)
      refine ev_istore dL_isClientSo_100 (Nat.le_of_ble_eq_true rfl) rfl ?_
      refine ev_aload_n 0 dL_isClientSo_102 rfl rfl ?_
      refine ev_iload_n 1 dL_isClientSo_103 rfl rfl ?_
      refine ev_h1 (K := 580) 1 S25 (q_isCalled S25 hc) kX3_isCalled rfl rfl g461 rfl (by omega) rfl dL_isClientSo_104 (fun u26 S26 => ?_)
      cases hk : isK σ c with
      | true =>
        refine ev_top (nI 1) rfl ?_
        refine ev_istore dL_isClientSo_107 (Nat.le_of_ble_eq_true rfl) rfl ?_
        refine ev_LL [(7, .int (nI 1)), (6, .int (σ (ix c 7))), (5, .int (covI σ c (nI 0) (nI 1))), (4, .int (nI (nP σ c 6))), (3, .int (csS σ c 6)), (2, .int (worS σ c 6)), (0, .ref 7), (1, .int (nI c))] (by rw [sp_nP hI hc]; rfl) ?_
        exact ev_up (by omega) (client_T S26 hI hc hk)
      | false =>
        refine ev_top (nI 0) rfl ?_
        refine ev_istore dL_isClientSo_107 (Nat.le_of_ble_eq_true rfl) rfl ?_
        refine ev_LL [(7, .int (nI 0)), (6, .int (σ (ix c 7))), (5, .int (covI σ c (nI 0) (nI 1))), (4, .int (nI (nP σ c 6))), (3, .int (csS σ c 6)), (2, .int (worS σ c 6)), (0, .ref 7), (1, .int (nI c))] (by rw [sp_nP hI hc]; rfl) ?_
        exact ev_up (by omega) (client_F S26 hI hc hk)
    | succ N ih =>
      intro j u hj hS
      have hj6 : j < 6 := by omega
      refine ev_iload dL_isClientSo_14 rfl ?_
      refine ev_bipush (nI 6) dL_isClientSo_16 rfl ?_
      refine ev_icmp_ge 83 dL_isClientSo_18 (by decide) (fun h18 => absurd h18 (nI_nlb hj6 (by omega))) (fun h18 => ?_)
      refine ev_iload_n 2 dL_isClientSo_21 rfl rfl ?_
      refine ev_aload_n 0 dL_isClientSo_22 rfl rfl ?_
      refine ev_iload_n 1 dL_isClientSo_23 rfl rfl ?_
      refine ev_iload dL_isClientSo_24 rfl ?_
      refine ev_h2 (K := 580) 2 hS (q_piecesOf hS hc hj6) kX3_piecesOf rfl rfl g393 rfl (by omega) rfl dL_isClientSo_26 (fun u27 S27 => ?_)
      refine ev_aload_n 0 dL_isClientSo_29 rfl rfl ?_
      refine ev_iload dL_isClientSo_30 rfl ?_
      refine ev_h1 (K := 580) 1 S27 (q_priceOf S27 hj6) kX3_priceOf rfl rfl g349 rfl (by omega) rfl dL_isClientSo_32 (fun u28 S28 => ?_)
      refine ev_imul dL_isClientSo_35 ?_
      refine ev_iadd dL_isClientSo_36 ?_
      refine ev_istore_n 2 dL_isClientSo_37 rfl (Nat.le_of_ble_eq_true rfl) rfl ?_
      refine ev_iload_n 3 dL_isClientSo_38 rfl rfl ?_
      refine ev_aload_n 0 dL_isClientSo_39 rfl rfl ?_
      refine ev_iload_n 1 dL_isClientSo_40 rfl rfl ?_
      refine ev_iload dL_isClientSo_41 rfl ?_
      refine ev_h2 (K := 580) 2 S28 (q_piecesOf S28 hc hj6) kX3_piecesOf rfl rfl g393 rfl (by omega) rfl dL_isClientSo_43 (fun u29 S29 => ?_)
      refine ev_aload_n 0 dL_isClientSo_46 rfl rfl ?_
      refine ev_iload dL_isClientSo_47 rfl ?_
      refine ev_h1 (K := 580) 1 S29 (q_priceOf S29 hj6) kX3_priceOf rfl rfl g349 rfl (by omega) rfl dL_isClientSo_49 (fun u30 S30 => ?_)
      refine ev_imul dL_isClientSo_52 ?_
      refine ev_bipush (nI 100) dL_isClientSo_53 rfl ?_
      refine ev_aload_n 0 dL_isClientSo_55 rfl rfl ?_
      refine ev_iload dL_isClientSo_56 rfl ?_
      refine ev_h1 (K := 580) 1 S30 (q_cutOf S30 hj6) kX3_cutOf rfl rfl g361 rfl (by omega) rfl dL_isClientSo_58 (fun u31 S31 => ?_)
      refine ev_isub dL_isClientSo_61 ?_
      refine ev_imul dL_isClientSo_62 ?_
      refine ev_iadd dL_isClientSo_63 ?_
      refine ev_istore_n 3 dL_isClientSo_64 rfl (Nat.le_of_ble_eq_true rfl) rfl ?_
      refine ev_iload dL_isClientSo_65 rfl ?_
      refine ev_aload_n 0 dL_isClientSo_67 rfl rfl ?_
      refine ev_iload_n 1 dL_isClientSo_68 rfl rfl ?_
      refine ev_iload dL_isClientSo_69 rfl ?_
      refine ev_h2 (K := 580) 2 S31 (q_piecesOf S31 hc hj6) kX3_piecesOf rfl rfl g393 rfl (by omega) rfl dL_isClientSo_71 (fun u32 S32 => ?_)
      refine ev_iadd dL_isClientSo_74 ?_
      refine ev_istore dL_isClientSo_75 (Nat.le_of_ble_eq_true rfl) rfl ?_
      refine ev_iinc (nI (j + 1)) dL_isClientSo_77 rfl (nI_add j 1) (Nat.le_of_ble_eq_true rfl) rfl ?_
      exact ev_goto 14 dL_isClientSo_80 (by decide) (ev_kk (by omega) (ih (j + 1) _ (by omega) S32))
  refine ev_aload_n 0 dL_isClientSo_0 rfl rfl ?_
  refine ev_iload_n 1 dL_isClientSo_1 rfl rfl ?_
  refine ev_h1 (K := 580) 1 hS (q_coinsOf hS hc) kX3_coinsOf rfl rfl g432 rfl (Nat.le_of_ble_eq_true rfl) rfl dL_isClientSo_2 (fun u33 S33 => ?_)
  refine ev_istore_n 2 dL_isClientSo_5 rfl (Nat.le_of_ble_eq_true rfl) rfl ?_
  refine ev_iconst (nI 0) dL_isClientSo_6 rfl ?_
  refine ev_istore_n 3 dL_isClientSo_7 rfl (Nat.le_of_ble_eq_true rfl) rfl ?_
  refine ev_iconst (nI 0) dL_isClientSo_8 rfl ?_
  refine ev_istore dL_isClientSo_9 (Nat.le_of_ble_eq_true rfl) rfl ?_
  refine ev_iconst (nI 0) dL_isClientSo_11 rfl ?_
  refine ev_istore dL_isClientSo_12 (Nat.le_of_ble_eq_true rfl) rfl ?_
  exact H 6 0 _ rfl S33
