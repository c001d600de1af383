/-! ===== the law: a step ===== -/
theorem AS_57 {B : Nat} {σ : Nat → Int32} (h : AS B σ) : AS (B + 57024) σ := ⟨h.1, SLD_up h.2 (by omega)⟩
theorem lkF_107 {σ : Nat → Int32} {i : Nat} {x : Int32} (h : i ≠ 107) : lkF (upd σ i x) 8 = lookN (upd σ i x) 8 107 - σ 107 := by
  unfold lkF
  rw [upd_n (k := i) (j := 107) σ x (Ne.symm h)]
theorem lkF_drp {σ : Nat → Int32} {q : Int32} : lkF (drpN σ q 6) 8 = lookN (drpN σ q 6) 8 107 - σ 107 := by
  unfold lkF
  rw [drp_o (by omega)]
theorem ix_7 {c w : Nat} (hc : c < 8) (hw : w < 10) : ix c w ≠ 107 := by simp only [ix]; omega
set_option maxHeartbeats 2000000 in
theorem ds_0 {σ : Nat → Int32} {B c k : Nat} {v x : Int32} {w : PW} (hS : SW σ w) (hI : INV σ) (hA : AS B σ) (hc : c < 8) (hk : k < 6) : Ev mL_does (pE (B + 57024)) nx 0 100 [(5, .int (σ 107)), (4, .int (nI k)), (3, .int (nI c)), (0, .ref 7), (1, .int v), (2, .int x)] [] w := by
  have hl := low_lt x (n := 300) (by decide)
  refine ev_aload_n 0 dL_does_100 rfl rfl ?_
  refine ev_iload dL_does_101 rfl ?_
  refine ev_iconst (nI 1) dL_does_103 rfl ?_
  refine ev_iload_n 2 dL_does_104 rfl rfl ?_
  refine ev_sipush (nI 300) dL_does_105 rfl ?_
  refine ev_cS2 (c_low _ x (n := 300) (by decide) (by decide)) kL_low rfl g213 rfl rfl dL_does_108 ?_
  refine ev_iadd dL_does_111 ?_
  refine ev_top (nI (1 + lowN x 300)) (nI_add _ _) ?_
  refine ev_h2 (K := 180) 2 hS (q_setPrice hS hI hk (p := 1 + lowN x 300) (by omega) (by omega)) kX3_setPrice rfl rfl g224 rfl (Nat.le_of_ble_eq_true rfl) rfl dL_does_112 (fun u1 S1 => ?_)
  refine ev_aload_n 0 dL_does_115 rfl rfl ?_
  refine ev_h0 (K := 180) 0 S1 (q_calls S1 ) kX3_calls rfl rfl g220 rfl (Nat.le_of_ble_eq_true rfl) rfl dL_does_116 (fun u2 S2 => ?_)
  refine ev_iload dL_does_119 rfl ?_
  refine ev_isub dL_does_121 ?_
  refine ev_icmp_ne 147 dL_does_122 (by decide) (fun h122 => absurd (lkF_107 (by omega)) h122) (fun h122 => ?_)
  refine ev_aload_n 0 dL_does_125 rfl rfl ?_
  refine ev_iload dL_does_126 rfl ?_
  refine ev_h1 (K := 180) 1 S2 (q_priceOf S2 hk) kX3_priceOf rfl rfl g349 rfl (Nat.le_of_ble_eq_true rfl) rfl dL_does_128 (fun u3 S3 => ?_)
  refine ev_top (nI (1 + lowN x 300)) (by rw [look_lo (by omega), upd_s]) ?_
  refine ev_iconst (nI 1) dL_does_131 rfl ?_
  refine ev_iload_n 2 dL_does_132 rfl rfl ?_
  refine ev_sipush (nI 300) dL_does_133 rfl ?_
  refine ev_cS2 (c_low _ x (n := 300) (by decide) (by decide)) kL_low rfl g213 rfl rfl dL_does_136 ?_
  refine ev_iadd dL_does_139 ?_
  refine ev_top (nI (1 + lowN x 300)) (nI_add _ _) ?_
  refine ev_icmp_ne 147 dL_does_140 (by decide) (fun h140 => absurd (rfl) h140) (fun h140 => ?_)
  refine ev_iconst (nI 1) dL_does_143 rfl ?_
  refine ev_goto 148 dL_does_144 (by decide) ?_
  exact ev_ireturn dL_does_148 (Nat.le_of_ble_eq_true rfl) ⟨rfl, _, S3, set_price hI hk (by omega) (by omega), AS_57 (AS_look (AS_upd hA (by omega) (fun c' h' => by simp only [ix]; omega) (by omega)))⟩
set_option maxHeartbeats 2000000 in
theorem ds_1 {σ : Nat → Int32} {B c k : Nat} {v x : Int32} {w : PW} (hS : SW σ w) (hI : INV σ) (hA : AS B σ) (hc : c < 8) (hk : k < 6) : Ev mL_does (pE (B + 57024)) nx 0 149 [(5, .int (σ 107)), (4, .int (nI k)), (3, .int (nI c)), (0, .ref 7), (1, .int v), (2, .int x)] [] w := by
  have hl := low_lt x (n := 91) (by decide)
  refine ev_aload_n 0 dL_does_149 rfl rfl ?_
  refine ev_iload dL_does_150 rfl ?_
  refine ev_iload_n 2 dL_does_152 rfl rfl ?_
  refine ev_bipush (nI 91) dL_does_153 rfl ?_
  refine ev_cS2 (c_low _ x (n := 91) (by decide) (by decide)) kL_low rfl g213 rfl rfl dL_does_155 ?_
  refine ev_h2 (K := 180) 2 hS (q_setCut hS hI hk (p := lowN x 91) (by omega)) kX3_setCut rfl rfl g353 rfl (Nat.le_of_ble_eq_true rfl) rfl dL_does_158 (fun u4 S4 => ?_)
  refine ev_aload_n 0 dL_does_161 rfl rfl ?_
  refine ev_h0 (K := 180) 0 S4 (q_calls S4 ) kX3_calls rfl rfl g220 rfl (Nat.le_of_ble_eq_true rfl) rfl dL_does_162 (fun u5 S5 => ?_)
  refine ev_iload dL_does_165 rfl ?_
  refine ev_isub dL_does_167 ?_
  refine ev_icmp_ne 190 dL_does_168 (by decide) (fun h168 => absurd (lkF_107 (by omega)) h168) (fun h168 => ?_)
  refine ev_aload_n 0 dL_does_171 rfl rfl ?_
  refine ev_iload dL_does_172 rfl ?_
  refine ev_h1 (K := 180) 1 S5 (q_cutOf S5 hk) kX3_cutOf rfl rfl g361 rfl (Nat.le_of_ble_eq_true rfl) rfl dL_does_174 (fun u6 S6 => ?_)
  refine ev_top (nI (lowN x 91)) (by rw [look_lo (by omega), upd_s]) ?_
  refine ev_iload_n 2 dL_does_177 rfl rfl ?_
  refine ev_bipush (nI 91) dL_does_178 rfl ?_
  refine ev_cS2 (c_low _ x (n := 91) (by decide) (by decide)) kL_low rfl g213 rfl rfl dL_does_180 ?_
  refine ev_icmp_ne 190 dL_does_183 (by decide) (fun h183 => absurd (rfl) h183) (fun h183 => ?_)
  refine ev_iconst (nI 1) dL_does_186 rfl ?_
  refine ev_goto 191 dL_does_187 (by decide) ?_
  exact ev_ireturn dL_does_191 (Nat.le_of_ble_eq_true rfl) ⟨rfl, _, S6, set_cut hI hk (by omega), AS_57 (AS_look (AS_upd hA (by omega) (fun c' h' => by simp only [ix]; omega) (by omega)))⟩
set_option maxHeartbeats 2000000 in
theorem ds_2 {σ : Nat → Int32} {B c k : Nat} {v x : Int32} {w : PW} (hS : SW σ w) (hI : INV σ) (hA : AS B σ) (hc : c < 8) (hk : k < 6) : Ev mL_does (pE (B + 57024)) nx 0 192 [(5, .int (σ 107)), (4, .int (nI k)), (3, .int (nI c)), (0, .ref 7), (1, .int v), (2, .int x)] [] w := by
  have hl := low_lt x (n := 90) (by decide)
  refine ev_iconst (nI 1) dL_does_192 rfl ?_
  refine ev_iload_n 2 dL_does_193 rfl rfl ?_
  refine ev_bipush (nI 90) dL_does_194 rfl ?_
  refine ev_cS2 (c_low _ x (n := 90) (by decide) (by decide)) kL_low rfl g213 rfl rfl dL_does_196 ?_
  refine ev_iadd dL_does_199 ?_
  refine ev_top (nI (1 + lowN x 90)) (nI_add _ _) ?_
  refine ev_istore dL_does_200 (Nat.le_of_ble_eq_true rfl) rfl ?_
  refine ev_aload_n 0 dL_does_202 rfl rfl ?_
  refine ev_iload dL_does_203 rfl ?_
  refine ev_h1 (K := 180) 1 hS (q_calledIfFallen hS (v := 1 + lowN x 90) (by omega) (by omega)) kX3_calledIfFallen rfl rfl g365 rfl (Nat.le_of_ble_eq_true rfl) rfl dL_does_205 (fun u7 S7 => ?_)
  refine ev_istore dL_does_208 (Nat.le_of_ble_eq_true rfl) rfl ?_
  refine ev_aload_n 0 dL_does_210 rfl rfl ?_
  refine ev_iload dL_does_211 rfl ?_
  refine ev_h1 (K := 180) 1 S7 (q_fall S7 hI (p := 1 + lowN x 90) (by omega) (by omega)) kX3_fall rfl rfl g377 rfl (Nat.le_of_ble_eq_true rfl) rfl dL_does_213 (fun u8 S8 => ?_)
  refine ev_aload_n 0 dL_does_216 rfl rfl ?_
  refine ev_h0 (K := 180) 0 S8 (q_calls S8 ) kX3_calls rfl rfl g220 rfl (Nat.le_of_ble_eq_true rfl) rfl dL_does_217 (fun u9 S9 => ?_)
  refine ev_iload dL_does_220 rfl ?_
  refine ev_isub dL_does_222 ?_
  refine ev_icmp_ne 239 dL_does_223 (by decide) (fun h223 => absurd (lkF_drp) h223) (fun h223 => ?_)
  refine ev_aload_n 0 dL_does_226 rfl rfl ?_
  refine ev_h0 (K := 180) 0 S9 (q_calledNow S9 ) kX3_calledNow rfl rfl g385 rfl (Nat.le_of_ble_eq_true rfl) rfl dL_does_227 (fun u10 S10 => ?_)
  refine ev_top (ifFS σ (nI (1 + lowN x 90)) 8) (ck_fall hI (by omega)) ?_
  refine ev_iload dL_does_230 rfl ?_
  refine ev_icmp_ne 239 dL_does_232 (by decide) (fun h232 => absurd (rfl) h232) (fun h232 => ?_)
  refine ev_iconst (nI 1) dL_does_235 rfl ?_
  refine ev_goto 240 dL_does_236 (by decide) ?_
  exact ev_ireturn dL_does_240 (Nat.le_of_ble_eq_true rfl) ⟨rfl, _, S10, set_fall hI (by omega), AS_57 (AS_fall hA)⟩
set_option maxHeartbeats 2000000 in
theorem ds_3 {σ : Nat → Int32} {B c k : Nat} {v x : Int32} {w : PW} (hS : SW σ w) (hI : INV σ) (hA : AS B σ) (hc : c < 8) (hk : k < 6) : Ev mL_does (pE (B + 57024)) nx 0 241 [(5, .int (σ 107)), (4, .int (nI k)), (3, .int (nI c)), (0, .ref 7), (1, .int v), (2, .int x)] [] w := by
  have hl := low_lt x (n := 20) (by decide)
  by_cases hq : nI 99 < σ (ix c k) + nI (1 + lowN x 20)
  · refine ev_iconst (nI 1) dL_does_241 rfl ?_
    refine ev_iload_n 2 dL_does_242 rfl rfl ?_
    refine ev_bipush (nI 20) dL_does_243 rfl ?_
    refine ev_cS2 (c_low _ x (n := 20) (by decide) (by decide)) kL_low rfl g213 rfl rfl dL_does_245 ?_
    refine ev_iadd dL_does_248 ?_
    refine ev_top (nI (1 + lowN x 20)) (nI_add _ _) ?_
    refine ev_istore dL_does_249 (Nat.le_of_ble_eq_true rfl) rfl ?_
    refine ev_aload_n 0 dL_does_251 rfl rfl ?_
    refine ev_iload_n 3 dL_does_252 rfl rfl ?_
    refine ev_iload dL_does_253 rfl ?_
    refine ev_h2 (K := 180) 2 hS (q_piecesOf hS hc hk) kX3_piecesOf rfl rfl g393 rfl (Nat.le_of_ble_eq_true rfl) rfl dL_does_255 (fun u11 S11 => ?_)
    refine ev_istore dL_does_258 (Nat.le_of_ble_eq_true rfl) rfl ?_
    refine ev_aload_n 0 dL_does_260 rfl rfl ?_
    refine ev_iload_n 3 dL_does_261 rfl rfl ?_
    refine ev_h1 (K := 180) 1 S11 (q_coverOf S11 hc) kX3_coverOf rfl rfl g401 rfl (Nat.le_of_ble_eq_true rfl) rfl dL_does_262 (fun u12 S12 => ?_)
    refine ev_istore dL_does_265 (Nat.le_of_ble_eq_true rfl) rfl ?_
    refine ev_iload dL_does_267 rfl ?_
    refine ev_iload dL_does_269 rfl ?_
    refine ev_iadd dL_does_271 ?_
    refine ev_bipush (nI 99) dL_does_272 rfl ?_
    refine ev_icmp_gt 304 dL_does_274 (by decide) (fun h274 => ?_) (fun h274 => absurd (hq) h274)
    refine ev_iconst (nI 1) dL_does_304 rfl ?_
    refine ev_goto 309 dL_does_305 (by decide) ?_
    exact ev_ireturn dL_does_309 (Nat.le_of_ble_eq_true rfl) ⟨rfl, σ, S12, hI, AS_57 hA⟩
  · have hm := Int32.not_lt.mp hq
    refine ev_iconst (nI 1) dL_does_241 rfl ?_
    refine ev_iload_n 2 dL_does_242 rfl rfl ?_
    refine ev_bipush (nI 20) dL_does_243 rfl ?_
    refine ev_cS2 (c_low _ x (n := 20) (by decide) (by decide)) kL_low rfl g213 rfl rfl dL_does_245 ?_
    refine ev_iadd dL_does_248 ?_
    refine ev_top (nI (1 + lowN x 20)) (nI_add _ _) ?_
    refine ev_istore dL_does_249 (Nat.le_of_ble_eq_true rfl) rfl ?_
    refine ev_aload_n 0 dL_does_251 rfl rfl ?_
    refine ev_iload_n 3 dL_does_252 rfl rfl ?_
    refine ev_iload dL_does_253 rfl ?_
    refine ev_h2 (K := 180) 2 hS (q_piecesOf hS hc hk) kX3_piecesOf rfl rfl g393 rfl (Nat.le_of_ble_eq_true rfl) rfl dL_does_255 (fun u13 S13 => ?_)
    refine ev_istore dL_does_258 (Nat.le_of_ble_eq_true rfl) rfl ?_
    refine ev_aload_n 0 dL_does_260 rfl rfl ?_
    refine ev_iload_n 3 dL_does_261 rfl rfl ?_
    refine ev_h1 (K := 180) 1 S13 (q_coverOf S13 hc) kX3_coverOf rfl rfl g401 rfl (Nat.le_of_ble_eq_true rfl) rfl dL_does_262 (fun u14 S14 => ?_)
    refine ev_istore dL_does_265 (Nat.le_of_ble_eq_true rfl) rfl ?_
    refine ev_iload dL_does_267 rfl ?_
    refine ev_iload dL_does_269 rfl ?_
    refine ev_iadd dL_does_271 ?_
    refine ev_bipush (nI 99) dL_does_272 rfl ?_
    refine ev_icmp_gt 304 dL_does_274 (by decide) (fun h274 => absurd h274 (hq)) (fun h274 => ?_)
    refine ev_aload_n 0 dL_does_277 rfl rfl ?_
    refine ev_iload_n 3 dL_does_278 rfl rfl ?_
    refine ev_iload dL_does_279 rfl ?_
    refine ev_iload dL_does_281 rfl ?_
    refine ev_h3 (K := 180) 4 S14 (q_pledge S14 hI hc hk (m := 1 + lowN x 20) (by omega) (by omega) hm) kX3_pledge rfl rfl g406 rfl (Nat.le_of_ble_eq_true rfl) rfl dL_does_283 (fun u15 S15 => ?_)
    refine ev_top (σ (ix c k) + nI (1 + lowN x 20)) (by rw [look_w hc (by omega) (by omega), upd_s]) ?_
    refine ev_iload dL_does_286 rfl ?_
    refine ev_iload dL_does_288 rfl ?_
    refine ev_iadd dL_does_290 ?_
    refine ev_icmp_ne 308 dL_does_291 (by decide) (fun h291 => absurd (rfl) h291) (fun h291 => ?_)
    refine ev_aload_n 0 dL_does_294 rfl rfl ?_
    refine ev_iload_n 3 dL_does_295 rfl rfl ?_
    refine ev_h1 (K := 180) 1 S15 (q_coverOf S15 hc) kX3_coverOf rfl rfl g401 rfl (Nat.le_of_ble_eq_true rfl) rfl dL_does_296 (fun u16 S16 => ?_)
    refine ev_iload dL_does_299 rfl ?_
    refine ev_icmp_lt 308 dL_does_301 (by decide) (fun h301 => absurd h301 (Int32.not_lt.mpr (ck_pledge hI hc hk (by omega) hm))) (fun h301 => ?_)
    refine ev_iconst (nI 1) dL_does_304 rfl ?_
    refine ev_goto 309 dL_does_305 (by decide) ?_
    exact ev_ireturn dL_does_309 (Nat.le_of_ble_eq_true rfl) ⟨rfl, _, S16, do_pledge hI hc hk (by omega) hm, AS_57 (AS_look (AS_upd hA (by simp only [ix]; omega) (fun c' h' => by simp only [ix]; omega) (by simp only [ix]; omega)))⟩
set_option maxHeartbeats 2000000 in
theorem ds_6 {σ : Nat → Int32} {B c k : Nat} {v x : Int32} {w : PW} (hS : SW σ w) (hI : INV σ) (hA : AS B σ) (hc : c < 8) (hk : k < 6) : Ev mL_does (pE (B + 57024)) nx 0 310 [(5, .int (σ 107)), (4, .int (nI k)), (3, .int (nI c)), (0, .ref 7), (1, .int v), (2, .int x)] [] w := by
  obtain ⟨m1, m2⟩ := much_b x
  by_cases hq : nI 99999 < σ (ix c 6) + nI (muchN x)
  · refine ev_aload_n 0 dL_does_310 rfl rfl ?_
    refine ev_iload_n 3 dL_does_311 rfl rfl ?_
    refine ev_h1 (K := 180) 1 hS (q_coinsOf hS hc) kX3_coinsOf rfl rfl g432 rfl (Nat.le_of_ble_eq_true rfl) rfl dL_does_312 (fun u17 S17 => ?_)
    refine ev_istore dL_does_315 (Nat.le_of_ble_eq_true rfl) rfl ?_
    refine ev_iload dL_does_317 rfl ?_
    refine ev_iload_n 2 dL_does_319 rfl rfl ?_
    refine ev_cS1 (c_much _ x) kL_much rfl g436 rfl rfl dL_does_320 ?_
    refine ev_iadd dL_does_323 ?_
    refine ev_ldc (nI 99999) dL_does_324 g439 ?_
    refine ev_icmp_gt 348 dL_does_326 (by decide) (fun h326 => ?_) (fun h326 => absurd (hq) h326)
    refine ev_iconst (nI 1) dL_does_348 rfl ?_
    refine ev_goto 353 dL_does_349 (by decide) ?_
    exact ev_ireturn dL_does_353 (Nat.le_of_ble_eq_true rfl) ⟨rfl, σ, S17, hI, AS_57 hA⟩
  · have hm := Int32.not_lt.mp hq
    refine ev_aload_n 0 dL_does_310 rfl rfl ?_
    refine ev_iload_n 3 dL_does_311 rfl rfl ?_
    refine ev_h1 (K := 180) 1 hS (q_coinsOf hS hc) kX3_coinsOf rfl rfl g432 rfl (Nat.le_of_ble_eq_true rfl) rfl dL_does_312 (fun u18 S18 => ?_)
    refine ev_istore dL_does_315 (Nat.le_of_ble_eq_true rfl) rfl ?_
    refine ev_iload dL_does_317 rfl ?_
    refine ev_iload_n 2 dL_does_319 rfl rfl ?_
    refine ev_cS1 (c_much _ x) kL_much rfl g436 rfl rfl dL_does_320 ?_
    refine ev_iadd dL_does_323 ?_
    refine ev_ldc (nI 99999) dL_does_324 g439 ?_
    refine ev_icmp_gt 348 dL_does_326 (by decide) (fun h326 => absurd h326 (hq)) (fun h326 => ?_)
    refine ev_aload_n 0 dL_does_329 rfl rfl ?_
    refine ev_iload_n 3 dL_does_330 rfl rfl ?_
    refine ev_iload_n 2 dL_does_331 rfl rfl ?_
    refine ev_cS1 (c_much _ x) kL_much rfl g436 rfl rfl dL_does_332 ?_
    refine ev_h2 (K := 180) 3 S18 (q_deposit S18 hI hc m1 m2 hm) kX3_deposit rfl rfl g440 rfl (Nat.le_of_ble_eq_true rfl) rfl dL_does_335 (fun u19 S19 => ?_)
    refine ev_top (σ (ix c 6) + nI (muchN x)) (by rw [look_w hc (by omega) (by omega), upd_s]) ?_
    refine ev_iload dL_does_338 rfl ?_
    refine ev_iload_n 2 dL_does_340 rfl rfl ?_
    refine ev_cS1 (c_much _ x) kL_much rfl g436 rfl rfl dL_does_341 ?_
    refine ev_iadd dL_does_344 ?_
    refine ev_icmp_ne 352 dL_does_345 (by decide) (fun h345 => absurd (rfl) h345) (fun h345 => ?_)
    refine ev_iconst (nI 1) dL_does_348 rfl ?_
    refine ev_goto 353 dL_does_349 (by decide) ?_
    exact ev_ireturn dL_does_353 (Nat.le_of_ble_eq_true rfl) ⟨rfl, _, S19, do_deposit hI hc m2 hm, AS_57 (AS_look (AS_upd hA (by simp only [ix]; omega) (fun c' h' => by simp only [ix]; omega) (by simp only [ix]; omega)))⟩
set_option maxHeartbeats 2000000 in
theorem ds_7 {σ : Nat → Int32} {B c k : Nat} {v x : Int32} {w : PW} (hS : SW σ w) (hI : INV σ) (hA : AS B σ) (hc : c < 8) (hk : k < 6) : Ev mL_does (pE (B + 57024)) nx 0 354 [(5, .int (σ 107)), (4, .int (nI k)), (3, .int (nI c)), (0, .ref 7), (1, .int v), (2, .int x)] [] w := by
  have hl := low_lt x (n := 4) (by decide)
  by_cases hq : σ (ix c k) < nI (1 + lowN x 4)
  · refine ev_iconst (nI 1) dL_does_354 rfl ?_
    refine ev_iload_n 2 dL_does_355 rfl rfl ?_
    refine ev_iconst (nI 4) dL_does_356 rfl ?_
    refine ev_cS2 (c_low _ x (n := 4) (by decide) (by decide)) kL_low rfl g213 rfl rfl dL_does_357 ?_
    refine ev_iadd dL_does_360 ?_
    refine ev_top (nI (1 + lowN x 4)) (nI_add _ _) ?_
    refine ev_istore dL_does_361 (Nat.le_of_ble_eq_true rfl) rfl ?_
    refine ev_aload_n 0 dL_does_363 rfl rfl ?_
    refine ev_iload_n 3 dL_does_364 rfl rfl ?_
    refine ev_iload dL_does_365 rfl ?_
    refine ev_h2 (K := 180) 2 hS (q_piecesOf hS hc hk) kX3_piecesOf rfl rfl g393 rfl (Nat.le_of_ble_eq_true rfl) rfl dL_does_367 (fun u20 S20 => ?_)
    refine ev_istore dL_does_370 (Nat.le_of_ble_eq_true rfl) rfl ?_
    refine ev_iload dL_does_372 rfl ?_
    refine ev_iload dL_does_374 rfl ?_
    refine ev_icmp_lt 412 dL_does_376 (by decide) (fun h376 => ?_) (fun h376 => absurd (hq) h376)
    refine ev_iconst (nI 1) dL_does_412 rfl ?_
    refine ev_goto 417 dL_does_413 (by decide) ?_
    exact ev_ireturn dL_does_417 (Nat.le_of_ble_eq_true rfl) ⟨rfl, σ, S20, hI, AS_57 hA⟩
  · by_cases hd : 0 < σ (ix c 7)
    · refine ev_iconst (nI 1) dL_does_354 rfl ?_
      refine ev_iload_n 2 dL_does_355 rfl rfl ?_
      refine ev_iconst (nI 4) dL_does_356 rfl ?_
      refine ev_cS2 (c_low _ x (n := 4) (by decide) (by decide)) kL_low rfl g213 rfl rfl dL_does_357 ?_
      refine ev_iadd dL_does_360 ?_
      refine ev_top (nI (1 + lowN x 4)) (nI_add _ _) ?_
      refine ev_istore dL_does_361 (Nat.le_of_ble_eq_true rfl) rfl ?_
      refine ev_aload_n 0 dL_does_363 rfl rfl ?_
      refine ev_iload_n 3 dL_does_364 rfl rfl ?_
      refine ev_iload dL_does_365 rfl ?_
      refine ev_h2 (K := 180) 2 hS (q_piecesOf hS hc hk) kX3_piecesOf rfl rfl g393 rfl (Nat.le_of_ble_eq_true rfl) rfl dL_does_367 (fun u21 S21 => ?_)
      refine ev_istore dL_does_370 (Nat.le_of_ble_eq_true rfl) rfl ?_
      refine ev_iload dL_does_372 rfl ?_
      refine ev_iload dL_does_374 rfl ?_
      refine ev_icmp_lt 412 dL_does_376 (by decide) (fun h376 => absurd h376 (hq)) (fun h376 => ?_)
      refine ev_aload_n 0 dL_does_379 rfl rfl ?_
      refine ev_iload_n 3 dL_does_380 rfl rfl ?_
      refine ev_h1 (K := 180) 1 S21 (q_debtOf S21 hc) kX3_debtOf rfl rfl g449 rfl (Nat.le_of_ble_eq_true rfl) rfl dL_does_381 (fun u22 S22 => ?_)
      refine ev_if_gt 412 dL_does_384 (by decide) (fun h384 => ?_) (fun h384 => absurd (hd) h384)
      refine ev_iconst (nI 1) dL_does_412 rfl ?_
      refine ev_goto 417 dL_does_413 (by decide) ?_
      exact ev_ireturn dL_does_417 (Nat.le_of_ble_eq_true rfl) ⟨rfl, σ, S22, hI, AS_57 hA⟩
    · have hd0 : σ (ix c 7) = nI 0 := by
        obtain ⟨d, d1, d2⟩ := deb_of hI hc
        rw [d2] at hd ⊢
        rcases Nat.eq_zero_or_pos d with z | z
        · rw [z]
        · exact absurd (nI_lt (a := 0) (b := d) z (by omega)) hd
      obtain ⟨r1, r2⟩ := ck_rel hI hc hk (m := 1 + lowN x 4) (by omega) (Int32.not_lt.mp hq) hd0
      refine ev_iconst (nI 1) dL_does_354 rfl ?_
      refine ev_iload_n 2 dL_does_355 rfl rfl ?_
      refine ev_iconst (nI 4) dL_does_356 rfl ?_
      refine ev_cS2 (c_low _ x (n := 4) (by decide) (by decide)) kL_low rfl g213 rfl rfl dL_does_357 ?_
      refine ev_iadd dL_does_360 ?_
      refine ev_top (nI (1 + lowN x 4)) (nI_add _ _) ?_
      refine ev_istore dL_does_361 (Nat.le_of_ble_eq_true rfl) rfl ?_
      refine ev_aload_n 0 dL_does_363 rfl rfl ?_
      refine ev_iload_n 3 dL_does_364 rfl rfl ?_
      refine ev_iload dL_does_365 rfl ?_
      refine ev_h2 (K := 180) 2 hS (q_piecesOf hS hc hk) kX3_piecesOf rfl rfl g393 rfl (Nat.le_of_ble_eq_true rfl) rfl dL_does_367 (fun u23 S23 => ?_)
      refine ev_istore dL_does_370 (Nat.le_of_ble_eq_true rfl) rfl ?_
      refine ev_iload dL_does_372 rfl ?_
      refine ev_iload dL_does_374 rfl ?_
      refine ev_icmp_lt 412 dL_does_376 (by decide) (fun h376 => absurd h376 (hq)) (fun h376 => ?_)
      refine ev_aload_n 0 dL_does_379 rfl rfl ?_
      refine ev_iload_n 3 dL_does_380 rfl rfl ?_
      refine ev_h1 (K := 180) 1 S23 (q_debtOf S23 hc) kX3_debtOf rfl rfl g449 rfl (Nat.le_of_ble_eq_true rfl) rfl dL_does_381 (fun u24 S24 => ?_)
      refine ev_if_gt 412 dL_does_384 (by decide) (fun h384 => absurd h384 (hd)) (fun h384 => ?_)
      refine ev_aload_n 0 dL_does_387 rfl rfl ?_
      refine ev_iload_n 3 dL_does_388 rfl rfl ?_
      refine ev_iload dL_does_389 rfl ?_
      refine ev_iload dL_does_391 rfl ?_
      refine ev_h3 (K := 180) 4 S24 (q_release S24 hI hc hk (m := 1 + lowN x 4) (by omega) (by omega) (Int32.not_lt.mp hq) r1) kX3_release rfl rfl g453 rfl (Nat.le_of_ble_eq_true rfl) rfl dL_does_393 (fun u25 S25 => ?_)
      refine ev_top (σ (ix c k) - nI (1 + lowN x 4)) (by rw [look_w hc (by omega) (by omega)]; unfold canTk; rw [upd_s]) ?_
      refine ev_iload dL_does_396 rfl ?_
      refine ev_iload dL_does_398 rfl ?_
      refine ev_isub dL_does_400 ?_
      refine ev_icmp_ne 416 dL_does_401 (by decide) (fun h401 => absurd (rfl) h401) (fun h401 => ?_)
      refine ev_aload_n 0 dL_does_404 rfl rfl ?_
      refine ev_iload_n 3 dL_does_405 rfl rfl ?_
      refine ev_h1 (K := 180) 1 S25 (q_isCalled S25 hc) kX3_isCalled rfl rfl g461 rfl (Nat.le_of_ble_eq_true rfl) rfl dL_does_406 (fun u26 S26 => ?_)
      refine ev_top (nI 0) (by rw [r2]; rfl) ?_
      refine ev_if_ne 416 dL_does_409 (by decide) (fun h409 => absurd (rfl) h409) (fun h409 => ?_)
      refine ev_iconst (nI 1) dL_does_412 rfl ?_
      refine ev_goto 417 dL_does_413 (by decide) ?_
      exact ev_ireturn dL_does_417 (Nat.le_of_ble_eq_true rfl) ⟨rfl, _, S26, do_release hI hc hk (by omega) (Int32.not_lt.mp hq), AS_57 (AS_look (AS_upd hA (by simp only [ix]; omega) (fun c' h' => by simp only [ix]; omega) (by simp only [ix]; omega)))⟩
theorem ds_8 {σ : Nat → Int32} {B c k : Nat} {v x : Int32} {w : PW} (hS : SW σ w) (hI : INV σ) (hA : AS B σ) (hc : c < 8) (hk : k < 6) : Ev mL_does (pE (B + 57024)) nx 0 418 [(5, .int (σ 107)), (4, .int (nI k)), (3, .int (nI c)), (0, .ref 7), (1, .int v), (2, .int x)] [] w := by
  refine ev_aload_n 0 dL_does_418 rfl rfl ?_
  refine ev_iload_n 3 dL_does_419 rfl rfl ?_
  refine ev_iload_n 2 dL_does_420 rfl rfl ?_
  refine ev_l3 (K := 100) 50 (c_lent hS hI hA hc x) kL_isLent rfl g465 rfl (Nat.le_of_ble_eq_true rfl) rfl dL_does_421 (fun v u h => ?_)
  obtain ⟨rfl, σ1, s1, s2, s3⟩ := h
  exact ev_ireturn dL_does_424 (Nat.le_of_ble_eq_true rfl) ⟨rfl, σ1, s1, s2, AS_57 s3⟩
set_option maxHeartbeats 2000000 in
theorem ds_b {σ : Nat → Int32} {B c k : Nat} {v x : Int32} {w : PW} (hS : SW σ w) (hI : INV σ) (hA : AS B σ) (hc : c < 8) (hk : k < 6) : Ev mL_does (pE (B + 57024)) nx 0 425 [(5, .int (σ 107)), (4, .int (nI k)), (3, .int (nI c)), (0, .ref 7), (1, .int v), (2, .int x)] [] w := by
  obtain ⟨m1, m2⟩ := much_b x
  refine ev_aload_n 0 dL_does_425 rfl rfl ?_
  refine ev_iload_n 3 dL_does_426 rfl rfl ?_
  refine ev_h1 (K := 180) 1 hS (q_debtOf hS hc) kX3_debtOf rfl rfl g449 rfl (Nat.le_of_ble_eq_true rfl) rfl dL_does_427 (fun u27 S27 => ?_)
  refine ev_istore dL_does_430 (Nat.le_of_ble_eq_true rfl) rfl ?_
  suffices J450 : Ev mL_does (pE (B + 57024)) nx 1 450 [(14, .int (σ (ix c 7))), (5, .int (σ 107)), (4, .int (nI k)), (3, .int (nI c)), (0, .ref 7), (1, .int v), (2, .int x)] [.int (paid σ c (nI (muchN x)))] u27 by
    refine ev_iload_n 2 dL_does_432 rfl rfl ?_
    refine ev_cS1 (c_much _ x) kL_much rfl g436 rfl rfl dL_does_433 ?_
    refine ev_iload dL_does_436 rfl ?_
    refine ev_icmp_ge 448 dL_does_438 (by decide) (fun h438 => ?_) (fun h438 => ?_)
    · refine ev_iload dL_does_448 rfl ?_
      exact ev_top (paid σ c (nI (muchN x))) (if_neg (Int32.not_lt.mpr h438)).symm J450
    · refine ev_iload_n 2 dL_does_441 rfl rfl ?_
      refine ev_cS1 (c_much _ x) kL_much rfl g436 rfl rfl dL_does_442 ?_
      refine ev_goto 450 dL_does_445 (by decide) ?_
      exact ev_top (paid σ c (nI (muchN x))) (if_pos (Int32.not_le.mp h438)).symm J450
  by_cases hq : σ (ix c 7) = 0
  · refine ev_istore dL_does_450 (Nat.le_of_ble_eq_true rfl) rfl ?_
    refine ev_iload dL_does_452 rfl ?_
    refine ev_if_eq 484 dL_does_454 (by decide) (fun h454 => ?_) (fun h454 => absurd (hq) h454)
    refine ev_iconst (nI 1) dL_does_484 rfl ?_
    refine ev_goto 489 dL_does_485 (by decide) ?_
    exact ev_ireturn dL_does_489 (Nat.le_of_ble_eq_true rfl) ⟨rfl, σ, S27, hI, AS_57 hA⟩
  · have hp : ¬ paid σ c (nI (muchN x)) = -1 := by
      obtain ⟨d, d1, d2⟩ := deb_of hI hc
      rw [paid_n (by omega) d2 d1]
      exact m1_n (by omega)
    have hI2 := do_payBack hI hc m2
    rw [← pay_eq] at hI2
    refine ev_istore dL_does_450 (Nat.le_of_ble_eq_true rfl) rfl ?_
    refine ev_iload dL_does_452 rfl ?_
    refine ev_if_eq 484 dL_does_454 (by decide) (fun h454 => absurd h454 (hq)) (fun h454 => ?_)
    refine ev_aload_n 0 dL_does_457 rfl rfl ?_
    refine ev_iload_n 3 dL_does_458 rfl rfl ?_
    refine ev_iload_n 2 dL_does_459 rfl rfl ?_
    refine ev_cS1 (c_much _ x) kL_much rfl g436 rfl rfl dL_does_460 ?_
    refine ev_h2 (K := 180) 3 S27 (q_payBack S27 hI hc m1 m2 hq hp) kX3_payBack rfl rfl g488 rfl (Nat.le_of_ble_eq_true rfl) rfl dL_does_463 (fun u28 S28 => ?_)
    refine ev_iload dL_does_466 rfl ?_
    refine ev_icmp_ne 488 dL_does_468 (by decide) (fun h468 => absurd (rfl) h468) (fun h468 => ?_)
    refine ev_aload_n 0 dL_does_471 rfl rfl ?_
    refine ev_iload_n 3 dL_does_472 rfl rfl ?_
    refine ev_h1 (K := 180) 1 S28 (q_debtOf S28 hc) kX3_debtOf rfl rfl g449 rfl (Nat.le_of_ble_eq_true rfl) rfl dL_does_473 (fun u29 S29 => ?_)
    refine ev_top (σ (ix c 7) - paid σ c (nI (muchN x))) (ck_back hc) ?_
    refine ev_iload dL_does_476 rfl ?_
    refine ev_iload dL_does_478 rfl ?_
    refine ev_isub dL_does_480 ?_
    refine ev_icmp_ne 488 dL_does_481 (by decide) (fun h481 => absurd (rfl) h481) (fun h481 => ?_)
    refine ev_iconst (nI 1) dL_does_484 rfl ?_
    refine ev_goto 489 dL_does_485 (by decide) ?_
    exact ev_ireturn dL_does_489 (Nat.le_of_ble_eq_true rfl) ⟨rfl, _, S29, hI2, AS_57 (AS_back hc hA)⟩
set_option maxHeartbeats 2000000 in
theorem ds_c {σ : Nat → Int32} {B c k : Nat} {v x : Int32} {w : PW} (hS : SW σ w) (hI : INV σ) (hA : AS B σ) (hc : c < 8) (hk : k < 6) : Ev mL_does (pE (B + 57024)) nx 0 490 [(5, .int (σ 107)), (4, .int (nI k)), (3, .int (nI c)), (0, .ref 7), (1, .int v), (2, .int x)] [] w := by
  have l1 := low_lt (x >>> (nI 1 &&& 31)) (n := 101) (by decide)
  have l2 := low_lt (x >>> (nI 1 &&& 31)) (n := 8) (by decide)
  obtain ⟨r, r1, r2⟩ := hI.1.2.2.2.2.1
  obtain ⟨gg, g1, g2, g3⟩ := hI.1.2.2.2.2.2
  refine ev_iload_n 2 dL_does_490 rfl rfl ?_
  refine ev_iconst (nI 1) dL_does_491 rfl ?_
  refine ev_iand dL_does_492 ?_
  refine ev_if_ne 519 dL_does_493 (by decide) (fun h493 => ?_) (fun h493 => ?_)
  · refine ev_aload_n 0 dL_does_519 rfl rfl ?_
    refine ev_iconst (nI 1) dL_does_520 rfl ?_
    refine ev_iload_n 2 dL_does_521 rfl rfl ?_
    refine ev_iconst (nI 1) dL_does_522 rfl ?_
    refine ev_ishr dL_does_523 ?_
    refine ev_bipush (nI 8) dL_does_524 rfl ?_
    refine ev_cS2 (c_low _ (x >>> (nI 1 &&& 31)) (n := 8) (by decide) (by decide)) kL_low rfl g213 rfl rfl dL_does_526 ?_
    refine ev_iadd dL_does_529 ?_
    refine ev_top (nI (1 + lowN (x >>> (nI 1 &&& 31)) 8)) (nI_add _ _) ?_
    refine ev_h1 (K := 180) 1 hS (q_changeGrace hS hI (p := 1 + lowN (x >>> (nI 1 &&& 31)) 8) (by omega) (by omega)) kX3_changeGrace rfl rfl g500 rfl (Nat.le_of_ble_eq_true rfl) rfl dL_does_530 (fun u30 S30 => ?_)
    refine ev_top (nI gg) (g3) ?_
    refine ev_if_le 540 dL_does_533 (by decide) (fun h533 => absurd h533 (Int32.not_le.mpr (nI_lt (a := 0) (b := gg) (by omega) (by omega)))) (fun h533 => ?_)
    refine ev_iconst (nI 1) dL_does_536 rfl ?_
    refine ev_goto 541 dL_does_537 (by decide) ?_
    exact ev_ireturn dL_does_541 (Nat.le_of_ble_eq_true rfl) ⟨rfl, _, S30, set_grace hI (by omega) (by omega), AS_57 (AS_upd hA (by omega) (fun c' h' => by simp only [ix]; omega) (by omega))⟩
  · refine ev_aload_n 0 dL_does_496 rfl rfl ?_
    refine ev_iload_n 2 dL_does_497 rfl rfl ?_
    refine ev_iconst (nI 1) dL_does_498 rfl ?_
    refine ev_ishr dL_does_499 ?_
    refine ev_bipush (nI 101) dL_does_500 rfl ?_
    refine ev_cS2 (c_low _ (x >>> (nI 1 &&& 31)) (n := 101) (by decide) (by decide)) kL_low rfl g213 rfl rfl dL_does_502 ?_
    refine ev_h1 (K := 180) 1 hS (q_changeRate hS hI (p := lowN (x >>> (nI 1 &&& 31)) 101) (by omega)) kX3_changeRate rfl rfl g496 rfl (Nat.le_of_ble_eq_true rfl) rfl dL_does_505 (fun u31 S31 => ?_)
    refine ev_top (nI r) (r2) ?_
    refine ev_if_lt 515 dL_does_508 (by decide) (fun h508 => absurd h508 (nI_pos (by omega))) (fun h508 => ?_)
    refine ev_iconst (nI 1) dL_does_511 rfl ?_
    refine ev_goto 541 dL_does_512 (by decide) ?_
    exact ev_ireturn dL_does_541 (Nat.le_of_ble_eq_true rfl) ⟨rfl, _, S31, set_rate hI (by omega), AS_57 (AS_upd hA (by omega) (fun c' h' => by simp only [ix]; omega) (by omega))⟩
set_option maxHeartbeats 2000000 in
theorem ds_d {σ : Nat → Int32} {B c k : Nat} {v x : Int32} {w : PW} (hS : SW σ w) (hI : INV σ) (hA : AS B σ) (hc : c < 8) (hk : k < 6) : Ev mL_does (pE (B + 57024)) nx 0 542 [(5, .int (σ 107)), (4, .int (nI k)), (3, .int (nI c)), (0, .ref 7), (1, .int v), (2, .int x)] [] w := by
  have l1 := low_lt (x >>> (nI 1 &&& 31)) (n := 51) (by decide)
  obtain ⟨r, r1, r2⟩ := hI.1.2.2.2.1
  refine ev_iload_n 2 dL_does_542 rfl rfl ?_
  refine ev_iconst (nI 1) dL_does_543 rfl ?_
  refine ev_iand dL_does_544 ?_
  refine ev_if_ne 571 dL_does_545 (by decide) (fun h545 => ?_) (fun h545 => ?_)
  · refine ev_aload_n 0 dL_does_571 rfl rfl ?_
    refine ev_h0 (K := 180) 0 hS (q_turnOrder hS hI) kX3_turnOrder rfl rfl g508 rfl (Nat.le_of_ble_eq_true rfl) rfl dL_does_572 (fun u32 S32 => ?_)
    refine ev_aload_n 0 dL_does_575 rfl rfl ?_
    refine ev_h0 (K := 180) 0 S32 (q_order S32 ) kX3_order rfl rfl g512 rfl (Nat.le_of_ble_eq_true rfl) rfl dL_does_576 (fun u33 S33 => ?_)
    refine ev_top ((σ 101 + nI 1) - (σ 101 + nI 1) / nI 3 * nI 3) (upd_s _ _ _) ?_
    refine ev_icmp_ne 586 dL_does_579 (by decide) (fun h579 => absurd (rfl) h579) (fun h579 => ?_)
    refine ev_iconst (nI 1) dL_does_582 rfl ?_
    refine ev_goto 587 dL_does_583 (by decide) ?_
    exact ev_ireturn dL_does_587 (Nat.le_of_ble_eq_true rfl) ⟨rfl, _, S33, set_turn hI, AS_57 (AS_upd hA (by omega) (fun c' h' => by simp only [ix]; omega) (by omega))⟩
  · refine ev_aload_n 0 dL_does_548 rfl rfl ?_
    refine ev_iload_n 2 dL_does_549 rfl rfl ?_
    refine ev_iconst (nI 1) dL_does_550 rfl ?_
    refine ev_ishr dL_does_551 ?_
    refine ev_bipush (nI 51) dL_does_552 rfl ?_
    refine ev_cS2 (c_low _ (x >>> (nI 1 &&& 31)) (n := 51) (by decide) (by decide)) kL_low rfl g213 rfl rfl dL_does_554 ?_
    refine ev_h1 (K := 180) 1 hS (q_changeSlip hS hI (p := lowN (x >>> (nI 1 &&& 31)) 51) (by omega)) kX3_changeSlip rfl rfl g504 rfl (Nat.le_of_ble_eq_true rfl) rfl dL_does_557 (fun u34 S34 => ?_)
    refine ev_top (nI r) (r2) ?_
    refine ev_if_lt 567 dL_does_560 (by decide) (fun h560 => absurd h560 (nI_pos (by omega))) (fun h560 => ?_)
    refine ev_iconst (nI 1) dL_does_563 rfl ?_
    refine ev_goto 587 dL_does_564 (by decide) ?_
    exact ev_ireturn dL_does_587 (Nat.le_of_ble_eq_true rfl) ⟨rfl, _, S34, set_slip hI (by omega), AS_57 (AS_upd hA (by omega) (fun c' h' => by simp only [ix]; omega) (by omega))⟩
theorem ds_p {σ : Nat → Int32} {B c k : Nat} {v x : Int32} {w : PW} (hS : SW σ w) (hI : INV σ) (hA : AS B σ) (hc : c < 8) (hk : k < 6) : Ev mL_does (pE (B + 57024)) nx 0 588 [(5, .int (σ 107)), (4, .int (nI k)), (3, .int (nI c)), (0, .ref 7), (1, .int v), (2, .int x)] [] w := by
  have hl := low_lt x (n := 12) (by decide)
  refine ev_aload_n 0 dL_does_588 rfl rfl ?_
  refine ev_iconst (nI 1) dL_does_589 rfl ?_
  refine ev_iload_n 2 dL_does_590 rfl rfl ?_
  refine ev_bipush (nI 12) dL_does_591 rfl ?_
  refine ev_cS2 (c_low _ x (n := 12) (by decide) (by decide)) kL_low rfl g213 rfl rfl dL_does_593 ?_
  refine ev_iadd dL_does_596 ?_
  refine ev_top (nI (1 + lowN x 12)) (nI_add _ _) ?_
  refine ev_l2 (K := 100) 50 (c_passed hS hI hA (p := 1 + lowN x 12) (by omega) (by omega)) kL_isPassed rfl g516 rfl (Nat.le_of_ble_eq_true rfl) rfl dL_does_597 (fun v u h => ?_)
  obtain ⟨rfl, σ1, s1, s2, s3⟩ := h
  exact ev_ireturn dL_does_600 (Nat.le_of_ble_eq_true rfl) ⟨rfl, σ1, s1, s2, s3⟩
theorem ds_sw {σ : Nat → Int32} {B c k : Nat} {v x : Int32} {w : PW} (hS : SW σ w) (hI : INV σ) (hA : AS B σ) (hc : c < 8) (hk : k < 6) : ∀ j, j < 16 → Ev mL_does (pE (B + 57024)) nx 0 28 [(5, .int (σ 107)), (4, .int (nI k)), (3, .int (nI c)), (0, .ref 7), (1, .int v), (2, .int x)] [.int (nI j)] w := by
  intro j hj
  match j, hj with
  | 0, _ => exact ev_tableIn 100 dL_does_28 (by decide) (by decide) rfl (by decide) (ds_0 hS hI hA hc hk)
  | 1, _ => exact ev_tableIn 149 dL_does_28 (by decide) (by decide) rfl (by decide) (ds_1 hS hI hA hc hk)
  | 2, _ => exact ev_tableIn 192 dL_does_28 (by decide) (by decide) rfl (by decide) (ds_2 hS hI hA hc hk)
  | 3, _ => exact ev_tableIn 241 dL_does_28 (by decide) (by decide) rfl (by decide) (ds_3 hS hI hA hc hk)
  | 4, _ => exact ev_tableIn 241 dL_does_28 (by decide) (by decide) rfl (by decide) (ds_3 hS hI hA hc hk)
  | 5, _ => exact ev_tableIn 241 dL_does_28 (by decide) (by decide) rfl (by decide) (ds_3 hS hI hA hc hk)
  | 6, _ => exact ev_tableIn 310 dL_does_28 (by decide) (by decide) rfl (by decide) (ds_6 hS hI hA hc hk)
  | 7, _ => exact ev_tableIn 354 dL_does_28 (by decide) (by decide) rfl (by decide) (ds_7 hS hI hA hc hk)
  | 8, _ => exact ev_tableIn 418 dL_does_28 (by decide) (by decide) rfl (by decide) (ds_8 hS hI hA hc hk)
  | 9, _ => exact ev_tableIn 418 dL_does_28 (by decide) (by decide) rfl (by decide) (ds_8 hS hI hA hc hk)
  | 10, _ => exact ev_tableIn 418 dL_does_28 (by decide) (by decide) rfl (by decide) (ds_8 hS hI hA hc hk)
  | 11, _ => exact ev_tableIn 425 dL_does_28 (by decide) (by decide) rfl (by decide) (ds_b hS hI hA hc hk)
  | 12, _ => exact ev_tableIn 490 dL_does_28 (by decide) (by decide) rfl (by decide) (ds_c hS hI hA hc hk)
  | 13, _ => exact ev_tableIn 542 dL_does_28 (by decide) (by decide) rfl (by decide) (ds_d hS hI hA hc hk)
  | 14, _ => exact ev_tableOut 588 dL_does_28 (Or.inr (by decide)) (by decide) (ds_p hS hI hA hc hk)
  | 15, _ => exact ev_tableOut 588 dL_does_28 (Or.inr (by decide)) (by decide) (ds_p hS hI hA hc hk)
  | j + 16, h => exact absurd h (by omega)
set_option maxHeartbeats 2000000 in
theorem c_does {σ : Nat → Int32} {B : Nat} {w : PW} (hS : SW σ w) (hI : INV σ) (hA : AS B σ) (v x : Int32) : Ct mL_does [.ref 7, .int v, .int x] w (pE (B + 57024)) nx := by
  refine ct_of 3 kL_does.1 rfl (Nat.le_of_ble_eq_true rfl) (fun v u h => by obtain ⟨rfl, -⟩ := h; exact rfl) ?_
  show Ev _ _ _ 0 0 [(0, .ref 7), (1, .int v), (2, .int x)] [] _
  have l1 := low_lt (v >>> (nI 4 &&& 31)) (n := 3) (by decide)
  have l2 := low_lt (v >>> (nI 6 &&& 31)) (n := 3) (by decide)
  refine ev_iload_n 1 dL_does_0 rfl rfl ?_
  refine ev_iconst (nI 4) dL_does_1 rfl ?_
  refine ev_ishr dL_does_2 ?_
  refine ev_iconst (nI 3) dL_does_3 rfl ?_
  refine ev_cS2 (c_low _ (v >>> (nI 4 &&& 31)) (n := 3) (by decide) (by decide)) kL_low rfl g213 rfl rfl dL_does_4 ?_
  refine ev_istore_n 3 dL_does_7 rfl (Nat.le_of_ble_eq_true rfl) rfl ?_
  refine ev_iload_n 1 dL_does_8 rfl rfl ?_
  refine ev_bipush (nI 6) dL_does_9 rfl ?_
  refine ev_ishr dL_does_11 ?_
  refine ev_iconst (nI 3) dL_does_12 rfl ?_
  refine ev_cS2 (c_low _ (v >>> (nI 6 &&& 31)) (n := 3) (by decide) (by decide)) kL_low rfl g213 rfl rfl dL_does_13 ?_
  refine ev_istore dL_does_16 (Nat.le_of_ble_eq_true rfl) rfl ?_
  refine ev_aload_n 0 dL_does_18 rfl rfl ?_
  refine ev_h0 (K := 180) 0 hS (q_calls hS ) kX3_calls rfl rfl g220 rfl (Nat.le_of_ble_eq_true rfl) rfl dL_does_19 (fun u35 S35 => ?_)
  refine ev_istore dL_does_22 (Nat.le_of_ble_eq_true rfl) rfl ?_
  refine ev_iload_n 1 dL_does_24 rfl rfl ?_
  refine ev_bipush (nI 15) dL_does_25 rfl ?_
  refine ev_iand dL_does_27 ?_
  obtain ⟨j, hj, ej⟩ := pk_andE v (m := nI 15) 4 (by decide)
  refine ev_top (nI j) ej ?_
  exact ds_sw S35 hI hA (by omega) (by omega) j hj
