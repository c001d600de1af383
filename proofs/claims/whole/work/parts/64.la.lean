/-! ===== the law: its cases ===== -/
abbrev mLw (nm : String) (HT : List (Nat × Nat × Nat × Nat)) (LL : Nat) (xs : Nat → Int32) : MT := (⟨"PledgeHouseLaw", nm, ""⟩, (some .boolean), cL_law, 9, { frames := 13, cells := 601024, slots := 7293034, locals := 518 }, HT, 100000, some (LL, xs))
abbrev pT : PO := fun v _ => v = some (.int (nI 1))
abbrev L0 (i : Nat) : LV := [(4, .int (nI i)), (3, .ref 107), (2, .ref 0), (1, .ref 7), (0, .ref 999)]
/-- behind a case -/
abbrev KN (nm : String) (HT : List (Nat × Nat × Nat × Nat)) (LL : Nat) (xs : Nat → Int32) (i k : Nat) : Prop := ∀ w', SR w' → Ev (mLw nm HT LL xs) pT nx (k + 24) 2923 (L0 i) [] w'
theorem ev_up {M : MT} {po : PO} {px : PX} {k k' pc : Nat} {L : LV} {st : List Value} {w : PW} (h : k ≤ k') (kk : Ev M po px k' pc L st w) : Ev M po px k pc L st w := by
  intro p l e s m args below meth c dC dI dA as A Q H locs ls hX hE hD hl
  exact W.widen h (Nat.mul_le_mul (Nat.le_refl 6) h) (kk p l e s m args below meth c dC dI dA as A Q H locs ls hX hE hD hl)
theorem lg_0 {a b : Int64} (h : a = b) : lg_cmp a b = 0 := (lg_cmp_eq a b).mpr h
section LAW
variable {nm : String} {HT : List (Nat × Nat × Nat × Nat)} {LL : Nat} {xs : Nat → Int32} {i k k' pc idx : Nat} {w u : PW} {Lv : LV} {st stk : List Value}
theorem lw_rd {z : Int} (j : Nat) (hj : j ≤ 3) (hi : i + 3 < LL) (hL : LL ≤ 2048) (d0 : decode cL_law pc = .ok (.aload_n 0, 1)) (d1 : decode cL_law (pc + 1) = .ok (.iload 4, 2)) (d2 : decode cL_law (pc + 1 + 2) = .ok (.iconst z, 1)) (hz : Int32.ofInt z = nI j) (d3 : decode cL_law (pc + 1 + 2 + 1) = .ok (.iadd, 1)) (d4 : decode cL_law (pc + 1 + 2 + 1 + 1) = .ok (.iaload, 1)) (h0 : Lv.lookup 0 = some (.ref 999)) (h4 : Lv.lookup 4 = some (.int (nI i))) (kk : Ev (mLw nm HT LL xs) pT nx k (pc + 1 + 2 + 1 + 1 + 1) Lv (.int (xs (i + j)) :: st) w) : Ev (mLw nm HT LL xs) pT nx k pc Lv st w := by
  refine ev_aload_n 0 d0 rfl h0 ?_
  refine ev_iload d1 h4 ?_
  refine ev_iconst (nI j) d2 hz ?_
  refine ev_iadd d3 ?_
  rw [nI_add]
  refine ev_sld d4 rfl (vpi (show i + j < LL by omega) (by omega)) ?_
  rw [cl_nI (show i + j < LL by omega) (by omega)]
  exact kk
def lwB (M' : MT) : Bool := Nat.ble ((mR M').frames + 1) 13 && (Nat.ble (8 + (mN M' + 11) + (mR M').locals) 518 && Nat.ble (mK M') 8)
theorem lw_RF {M' : MT} (hB : lwB M' = true) (hk : k + 8 ≤ k') (hk' : k' ≤ 100000) : RF (mLw nm HT LL xs) M' k ∧ k + mK M' ≤ k' := by
  simp only [lwB, Bool.and_eq_true, Nat.ble_eq] at hB
  obtain ⟨h1, h2, h3⟩ := hB
  refine ⟨⟨h1, h2, ?_, ?_⟩, by omega⟩
  · show k + mK M' ≤ 601024; omega
  · show 6 * (k + mK M') ≤ 7293034; omega
/-- a static method with a table -/
theorem lw_cW {M' : MT} {n : Nat} {As : List Value} {r : Value} (hc : Ct M' As w (d1 (some r) u) nx) (hM : MKW M' n) (hn : As.length = n) (hlw : Cond.methodLink "PledgeHouseLaw" idx (mY M') ∈ Gw) (hB : lwB M' = true) (hk : k + 8 ≤ k') (hk' : k' ≤ 100000) (hs : stB st = true) (d : decode cL_law pc = .ok (.invokestatic idx, 3)) (hst : stk = As.reverse ++ st) (kk : Ev (mLw nm HT LL xs) pT nx k' (pc + 3) Lv (r :: st) u) : Ev (mLw nm HT LL xs) pT nx k pc Lv stk w := by
  subst hst
  obtain ⟨hF, hle⟩ := lw_RF (nm := nm) (HT := HT) (LL := LL) (xs := xs) hB hk hk'
  exact ev_run (rn_W hc hM.1 hM.2.1 hM.2.2 hlw hF hn (Nat.le_of_ble_eq_true hs) d) (fun v u' h => by obtain ⟨rfl, rfl⟩ := h; exact ev_up hle kk) (fun E u' h => h.elim)
theorem lw_cV {M' : MT} {n b ci : Nat} {As fs : List Value} {r : Value} (hc : Ct M' (.ref b :: As) w (d1 (some r) u) nx) (hM : MKV M' n) (hn : As.length = n) (hlw : Cond.methodLink "PledgeHouseLaw" idx (mY M') ∈ Gw) (hB : lwB M' = true) (hk : k + 8 ≤ k') (hk' : k' ≤ 100000) (hs : stB st = true) (hw : w[b]? = some (.inr (ci, fs))) (hci : (vwC8[ci]?).map (fun q => q.1) = some (mY M').cls) (d : decode cL_law pc = .ok (.invokevirtual idx, 3)) (hst : stk = As.reverse ++ .ref b :: st) (kk : Ev (mLw nm HT LL xs) pT nx k' (pc + 3) Lv (r :: st) u) : Ev (mLw nm HT LL xs) pT nx k pc Lv stk w := by
  subst hst
  obtain ⟨hF, hle⟩ := lw_RF (nm := nm) (HT := HT) (LL := LL) (xs := xs) hB hk hk'
  exact ev_run (rn_V hc hM.1 hM.2.1 hM.2.2 hlw hF hn hw hci (Nat.le_of_ble_eq_true hs) d) (fun v u' h => by obtain ⟨rfl, rfl⟩ := h; exact ev_up hle kk) (fun E u' h => h.elim)
theorem lw_cVv {M' : MT} {n b ci : Nat} {As fs : List Value} (hc : Ct M' (.ref b :: As) w (d1 none u) nx) (hM : MKV M' n) (hn : As.length = n) (hlw : Cond.methodLink "PledgeHouseLaw" idx (mY M') ∈ Gw) (hB : lwB M' = true) (hk : k + 8 ≤ k') (hk' : k' ≤ 100000) (hs : stB st = true) (hw : w[b]? = some (.inr (ci, fs))) (hci : (vwC8[ci]?).map (fun q => q.1) = some (mY M').cls) (d : decode cL_law pc = .ok (.invokevirtual idx, 3)) (hst : stk = As.reverse ++ .ref b :: st) (kk : Ev (mLw nm HT LL xs) pT nx k' (pc + 3) Lv st u) : Ev (mLw nm HT LL xs) pT nx k pc Lv stk w := by
  subst hst
  obtain ⟨hF, hle⟩ := lw_RF (nm := nm) (HT := HT) (LL := LL) (xs := xs) hB hk hk'
  exact ev_run (rn_V hc hM.1 hM.2.1 hM.2.2 hlw hF hn hw hci (Nat.le_of_ble_eq_true hs) d) (fun v u' h => by obtain ⟨rfl, rfl⟩ := h; exact ev_up hle kk) (fun E u' h => h.elim)
theorem cs_setPrice (hi : i + 3 < LL) (hL : LL ≤ 2048) (hk : k + 24 ≤ 100000) (hS : SR w) (kN : KN nm HT LL xs i k) : Ev (mLw nm HT LL xs) pT nx k 296 (L0 i) [] w := by
  obtain ⟨kk, rb, u, v, fo, c1, c2, c3, ⟨fs1, e1⟩, ⟨fs2, e2⟩, e3, e4, hS'⟩ := s_setPrice hS (xs (i + 1)) (xs (i + 2))
  refine ev_aload_n 1 dL_law_296 rfl rfl ?_
  refine lw_rd 1 (by decide) hi hL dL_law_297 dL_law_298 dL_law_300 rfl dL_law_301 dL_law_302 rfl rfl ?_
  refine lw_rd 2 (by decide) hi hL dL_law_303 dL_law_304 dL_law_306 rfl dL_law_307 dL_law_308 rfl rfl ?_
  refine ev_aload_n 3 dL_law_309 rfl rfl ?_
  refine lw_cW (k' := k + 8) c1 kL_setPrice rfl g622 rfl (by omega) (by omega) rfl dL_law_310 rfl ?_
  refine ev_istore dL_law_313 (Nat.le_of_ble_eq_true rfl) (L' := (5, .int kk) :: L0 i) rfl ?_
  refine ev_aload_n 2 dL_law_315 rfl rfl ?_
  refine lw_rd 1 (by decide) hi hL dL_law_316 dL_law_317 dL_law_319 rfl dL_law_320 dL_law_321 rfl rfl ?_
  refine lw_rd 2 (by decide) hi hL dL_law_322 dL_law_323 dL_law_325 rfl dL_law_326 dL_law_327 rfl rfl ?_
  refine lw_cV (k' := k + 16) c2 kX4_setPrice rfl g1158 rfl (by omega) (by omega) rfl e1 rfl dL_law_328 rfl ?_
  refine ev_istore dL_law_331 (Nat.le_of_ble_eq_true rfl) (L' := (6, .int rb) :: (5, .int kk) :: L0 i) rfl ?_
  refine ev_aload_n 2 dL_law_333 rfl rfl ?_
  refine lw_cV (k' := k + 24) c3 kX4_thrown rfl g1154 rfl (by omega) (by omega) rfl e2 rfl dL_law_334 rfl ?_
  refine ev_iload dL_law_337 rfl ?_
  refine ev_icmp_eq 344 dL_law_339 (by decide) (fun _ => ?_) (fun h => absurd rfl h)
  refine ev_iload dL_law_344 rfl ?_
  refine ev_if_ne 361 dL_law_346 (by decide) (fun _ => ?_) (fun hz => ?_)
  · refine ev_goto 2923 dL_law_361 (by decide) ?_
    exact ev_sub [2, 3, 4, 5, 6] rfl (kN _ hS')
  refine ev_aload_n 3 dL_law_349 rfl rfl ?_
  refine ev_iconst (nI 0) dL_law_350 rfl ?_
  refine ev_lld dL_law_351 e3 ?_
  refine ev_iload dL_law_352 rfl ?_
  refine ev_i2l dL_law_354 ?_
  refine ev_lcmp dL_law_355 ?_
  refine ev_if_eq 361 dL_law_356 (by decide) (fun _ => ?_) (fun h => absurd (lg_0 (e4 hz)) h)
  refine ev_goto 2923 dL_law_361 (by decide) ?_
  exact ev_sub [2, 3, 4, 5, 6] rfl (kN _ hS')
theorem cs_setCut (hi : i + 3 < LL) (hL : LL ≤ 2048) (hk : k + 24 ≤ 100000) (hS : SR w) (kN : KN nm HT LL xs i k) : Ev (mLw nm HT LL xs) pT nx k 364 (L0 i) [] w := by
  obtain ⟨kk, rb, u, v, fo, c1, c2, c3, ⟨fs1, e1⟩, ⟨fs2, e2⟩, e3, e4, hS'⟩ := s_setCut hS (xs (i + 1)) (xs (i + 2))
  refine ev_aload_n 1 dL_law_364 rfl rfl ?_
  refine lw_rd 1 (by decide) hi hL dL_law_365 dL_law_366 dL_law_368 rfl dL_law_369 dL_law_370 rfl rfl ?_
  refine lw_rd 2 (by decide) hi hL dL_law_371 dL_law_372 dL_law_374 rfl dL_law_375 dL_law_376 rfl rfl ?_
  refine ev_aload_n 3 dL_law_377 rfl rfl ?_
  refine lw_cW (k' := k + 8) c1 kL_setCut rfl g723 rfl (by omega) (by omega) rfl dL_law_378 rfl ?_
  refine ev_istore dL_law_381 (Nat.le_of_ble_eq_true rfl) (L' := (5, .int kk) :: L0 i) rfl ?_
  refine ev_aload_n 2 dL_law_383 rfl rfl ?_
  refine lw_rd 1 (by decide) hi hL dL_law_384 dL_law_385 dL_law_387 rfl dL_law_388 dL_law_389 rfl rfl ?_
  refine lw_rd 2 (by decide) hi hL dL_law_390 dL_law_391 dL_law_393 rfl dL_law_394 dL_law_395 rfl rfl ?_
  refine lw_cV (k' := k + 16) c2 kX4_setCut rfl g1212 rfl (by omega) (by omega) rfl e1 rfl dL_law_396 rfl ?_
  refine ev_istore dL_law_399 (Nat.le_of_ble_eq_true rfl) (L' := (6, .int rb) :: (5, .int kk) :: L0 i) rfl ?_
  refine ev_aload_n 2 dL_law_401 rfl rfl ?_
  refine lw_cV (k' := k + 24) c3 kX4_thrown rfl g1154 rfl (by omega) (by omega) rfl e2 rfl dL_law_402 rfl ?_
  refine ev_iload dL_law_405 rfl ?_
  refine ev_icmp_eq 412 dL_law_407 (by decide) (fun _ => ?_) (fun h => absurd rfl h)
  refine ev_iload dL_law_412 rfl ?_
  refine ev_if_ne 429 dL_law_414 (by decide) (fun _ => ?_) (fun hz => ?_)
  · refine ev_goto 2923 dL_law_429 (by decide) ?_
    exact ev_sub [2, 3, 4, 5, 6] rfl (kN _ hS')
  refine ev_aload_n 3 dL_law_417 rfl rfl ?_
  refine ev_iconst (nI 0) dL_law_418 rfl ?_
  refine ev_lld dL_law_419 e3 ?_
  refine ev_iload dL_law_420 rfl ?_
  refine ev_i2l dL_law_422 ?_
  refine ev_lcmp dL_law_423 ?_
  refine ev_if_eq 429 dL_law_424 (by decide) (fun _ => ?_) (fun h => absurd (lg_0 (e4 hz)) h)
  refine ev_goto 2923 dL_law_429 (by decide) ?_
  exact ev_sub [2, 3, 4, 5, 6] rfl (kN _ hS')
theorem cs_fall (hi : i + 3 < LL) (hL : LL ≤ 2048) (hk : k + 24 ≤ 100000) (hS : SR w) (kN : KN nm HT LL xs i k) : Ev (mLw nm HT LL xs) pT nx k 432 (L0 i) [] w := by
  obtain ⟨kk, rb, u, v, fo, c1, c2, c3, ⟨fs1, e1⟩, ⟨fs2, e2⟩, e3, e4, hS'⟩ := s_fall hS (xs (i + 1))
  refine ev_aload_n 1 dL_law_432 rfl rfl ?_
  refine lw_rd 1 (by decide) hi hL dL_law_433 dL_law_434 dL_law_436 rfl dL_law_437 dL_law_438 rfl rfl ?_
  refine ev_aload_n 3 dL_law_439 rfl rfl ?_
  refine lw_cW (k' := k + 8) c1 kL_fall rfl g734 rfl (by omega) (by omega) rfl dL_law_440 rfl ?_
  refine ev_istore dL_law_443 (Nat.le_of_ble_eq_true rfl) (L' := (5, .int kk) :: L0 i) rfl ?_
  refine ev_aload_n 2 dL_law_445 rfl rfl ?_
  refine lw_rd 1 (by decide) hi hL dL_law_446 dL_law_447 dL_law_449 rfl dL_law_450 dL_law_451 rfl rfl ?_
  refine lw_cV (k' := k + 16) c2 kX4_fall rfl g1216 rfl (by omega) (by omega) rfl e1 rfl dL_law_452 rfl ?_
  refine ev_istore dL_law_455 (Nat.le_of_ble_eq_true rfl) (L' := (6, .int rb) :: (5, .int kk) :: L0 i) rfl ?_
  refine ev_aload_n 2 dL_law_457 rfl rfl ?_
  refine lw_cV (k' := k + 24) c3 kX4_thrown rfl g1154 rfl (by omega) (by omega) rfl e2 rfl dL_law_458 rfl ?_
  refine ev_iload dL_law_461 rfl ?_
  refine ev_icmp_eq 468 dL_law_463 (by decide) (fun _ => ?_) (fun h => absurd rfl h)
  refine ev_iload dL_law_468 rfl ?_
  refine ev_if_ne 485 dL_law_470 (by decide) (fun _ => ?_) (fun hz => ?_)
  · refine ev_goto 2923 dL_law_485 (by decide) ?_
    exact ev_sub [2, 3, 4, 5, 6] rfl (kN _ hS')
  refine ev_aload_n 3 dL_law_473 rfl rfl ?_
  refine ev_iconst (nI 0) dL_law_474 rfl ?_
  refine ev_lld dL_law_475 e3 ?_
  refine ev_iload dL_law_476 rfl ?_
  refine ev_i2l dL_law_478 ?_
  refine ev_lcmp dL_law_479 ?_
  refine ev_if_eq 485 dL_law_480 (by decide) (fun _ => ?_) (fun h => absurd (lg_0 (e4 hz)) h)
  refine ev_goto 2923 dL_law_485 (by decide) ?_
  exact ev_sub [2, 3, 4, 5, 6] rfl (kN _ hS')
theorem cs_pledge (hi : i + 3 < LL) (hL : LL ≤ 2048) (hk : k + 24 ≤ 100000) (hS : SR w) (kN : KN nm HT LL xs i k) : Ev (mLw nm HT LL xs) pT nx k 488 (L0 i) [] w := by
  obtain ⟨kk, rb, u, v, fo, c1, c2, c3, ⟨fs1, e1⟩, ⟨fs2, e2⟩, e3, e4, hS'⟩ := s_pledge hS (xs (i + 1)) (xs (i + 2)) (xs (i + 3))
  refine ev_aload_n 1 dL_law_488 rfl rfl ?_
  refine lw_rd 1 (by decide) hi hL dL_law_489 dL_law_490 dL_law_492 rfl dL_law_493 dL_law_494 rfl rfl ?_
  refine lw_rd 2 (by decide) hi hL dL_law_495 dL_law_496 dL_law_498 rfl dL_law_499 dL_law_500 rfl rfl ?_
  refine lw_rd 3 (by decide) hi hL dL_law_501 dL_law_502 dL_law_504 rfl dL_law_505 dL_law_506 rfl rfl ?_
  refine ev_aload_n 3 dL_law_507 rfl rfl ?_
  refine lw_cW (k' := k + 8) c1 kL_pledge rfl g745 rfl (by omega) (by omega) rfl dL_law_508 rfl ?_
  refine ev_istore dL_law_511 (Nat.le_of_ble_eq_true rfl) (L' := (5, .int kk) :: L0 i) rfl ?_
  refine ev_aload_n 2 dL_law_513 rfl rfl ?_
  refine lw_rd 1 (by decide) hi hL dL_law_514 dL_law_515 dL_law_517 rfl dL_law_518 dL_law_519 rfl rfl ?_
  refine lw_rd 2 (by decide) hi hL dL_law_520 dL_law_521 dL_law_523 rfl dL_law_524 dL_law_525 rfl rfl ?_
  refine lw_rd 3 (by decide) hi hL dL_law_526 dL_law_527 dL_law_529 rfl dL_law_530 dL_law_531 rfl rfl ?_
  refine lw_cV (k' := k + 16) c2 kX4_pledge rfl g1220 rfl (by omega) (by omega) rfl e1 rfl dL_law_532 rfl ?_
  refine ev_istore dL_law_535 (Nat.le_of_ble_eq_true rfl) (L' := (6, .int rb) :: (5, .int kk) :: L0 i) rfl ?_
  refine ev_aload_n 2 dL_law_537 rfl rfl ?_
  refine lw_cV (k' := k + 24) c3 kX4_thrown rfl g1154 rfl (by omega) (by omega) rfl e2 rfl dL_law_538 rfl ?_
  refine ev_iload dL_law_541 rfl ?_
  refine ev_icmp_eq 548 dL_law_543 (by decide) (fun _ => ?_) (fun h => absurd rfl h)
  refine ev_iload dL_law_548 rfl ?_
  refine ev_if_ne 565 dL_law_550 (by decide) (fun _ => ?_) (fun hz => ?_)
  · refine ev_goto 2923 dL_law_565 (by decide) ?_
    exact ev_sub [2, 3, 4, 5, 6] rfl (kN _ hS')
  refine ev_aload_n 3 dL_law_553 rfl rfl ?_
  refine ev_iconst (nI 0) dL_law_554 rfl ?_
  refine ev_lld dL_law_555 e3 ?_
  refine ev_iload dL_law_556 rfl ?_
  refine ev_i2l dL_law_558 ?_
  refine ev_lcmp dL_law_559 ?_
  refine ev_if_eq 565 dL_law_560 (by decide) (fun _ => ?_) (fun h => absurd (lg_0 (e4 hz)) h)
  refine ev_goto 2923 dL_law_565 (by decide) ?_
  exact ev_sub [2, 3, 4, 5, 6] rfl (kN _ hS')
theorem cs_release (hi : i + 3 < LL) (hL : LL ≤ 2048) (hk : k + 24 ≤ 100000) (hS : SR w) (kN : KN nm HT LL xs i k) : Ev (mLw nm HT LL xs) pT nx k 568 (L0 i) [] w := by
  obtain ⟨kk, rb, u, v, fo, c1, c2, c3, ⟨fs1, e1⟩, ⟨fs2, e2⟩, e3, e4, hS'⟩ := s_release hS (xs (i + 1)) (xs (i + 2)) (xs (i + 3))
  refine ev_aload_n 1 dL_law_568 rfl rfl ?_
  refine lw_rd 1 (by decide) hi hL dL_law_569 dL_law_570 dL_law_572 rfl dL_law_573 dL_law_574 rfl rfl ?_
  refine lw_rd 2 (by decide) hi hL dL_law_575 dL_law_576 dL_law_578 rfl dL_law_579 dL_law_580 rfl rfl ?_
  refine lw_rd 3 (by decide) hi hL dL_law_581 dL_law_582 dL_law_584 rfl dL_law_585 dL_law_586 rfl rfl ?_
  refine ev_aload_n 3 dL_law_587 rfl rfl ?_
  refine lw_cW (k' := k + 8) c1 kL_release rfl g778 rfl (by omega) (by omega) rfl dL_law_588 rfl ?_
  refine ev_istore dL_law_591 (Nat.le_of_ble_eq_true rfl) (L' := (5, .int kk) :: L0 i) rfl ?_
  refine ev_aload_n 2 dL_law_593 rfl rfl ?_
  refine lw_rd 1 (by decide) hi hL dL_law_594 dL_law_595 dL_law_597 rfl dL_law_598 dL_law_599 rfl rfl ?_
  refine lw_rd 2 (by decide) hi hL dL_law_600 dL_law_601 dL_law_603 rfl dL_law_604 dL_law_605 rfl rfl ?_
  refine lw_rd 3 (by decide) hi hL dL_law_606 dL_law_607 dL_law_609 rfl dL_law_610 dL_law_611 rfl rfl ?_
  refine lw_cV (k' := k + 16) c2 kX4_release rfl g1239 rfl (by omega) (by omega) rfl e1 rfl dL_law_612 rfl ?_
  refine ev_istore dL_law_615 (Nat.le_of_ble_eq_true rfl) (L' := (6, .int rb) :: (5, .int kk) :: L0 i) rfl ?_
  refine ev_aload_n 2 dL_law_617 rfl rfl ?_
  refine lw_cV (k' := k + 24) c3 kX4_thrown rfl g1154 rfl (by omega) (by omega) rfl e2 rfl dL_law_618 rfl ?_
  refine ev_iload dL_law_621 rfl ?_
  refine ev_icmp_eq 628 dL_law_623 (by decide) (fun _ => ?_) (fun h => absurd rfl h)
  refine ev_iload dL_law_628 rfl ?_
  refine ev_if_ne 645 dL_law_630 (by decide) (fun _ => ?_) (fun hz => ?_)
  · refine ev_goto 2923 dL_law_645 (by decide) ?_
    exact ev_sub [2, 3, 4, 5, 6] rfl (kN _ hS')
  refine ev_aload_n 3 dL_law_633 rfl rfl ?_
  refine ev_iconst (nI 0) dL_law_634 rfl ?_
  refine ev_lld dL_law_635 e3 ?_
  refine ev_iload dL_law_636 rfl ?_
  refine ev_i2l dL_law_638 ?_
  refine ev_lcmp dL_law_639 ?_
  refine ev_if_eq 645 dL_law_640 (by decide) (fun _ => ?_) (fun h => absurd (lg_0 (e4 hz)) h)
  refine ev_goto 2923 dL_law_645 (by decide) ?_
  exact ev_sub [2, 3, 4, 5, 6] rfl (kN _ hS')
theorem cs_deposit (hi : i + 3 < LL) (hL : LL ≤ 2048) (hk : k + 24 ≤ 100000) (hS : SR w) (kN : KN nm HT LL xs i k) : Ev (mLw nm HT LL xs) pT nx k 648 (L0 i) [] w := by
  obtain ⟨kk, rb, u, v, fo, c1, c2, c3, ⟨fs1, e1⟩, ⟨fs2, e2⟩, e3, e4, hS'⟩ := s_deposit hS (xs (i + 1)) (xs (i + 2))
  refine ev_aload_n 1 dL_law_648 rfl rfl ?_
  refine lw_rd 1 (by decide) hi hL dL_law_649 dL_law_650 dL_law_652 rfl dL_law_653 dL_law_654 rfl rfl ?_
  refine lw_rd 2 (by decide) hi hL dL_law_655 dL_law_656 dL_law_658 rfl dL_law_659 dL_law_660 rfl rfl ?_
  refine ev_aload_n 3 dL_law_661 rfl rfl ?_
  refine lw_cW (k' := k + 8) c1 kL_deposit rfl g789 rfl (by omega) (by omega) rfl dL_law_662 rfl ?_
  refine ev_istore dL_law_665 (Nat.le_of_ble_eq_true rfl) (L' := (5, .int kk) :: L0 i) rfl ?_
  refine ev_aload_n 2 dL_law_667 rfl rfl ?_
  refine lw_rd 1 (by decide) hi hL dL_law_668 dL_law_669 dL_law_671 rfl dL_law_672 dL_law_673 rfl rfl ?_
  refine lw_rd 2 (by decide) hi hL dL_law_674 dL_law_675 dL_law_677 rfl dL_law_678 dL_law_679 rfl rfl ?_
  refine lw_cV (k' := k + 16) c2 kX4_deposit rfl g1247 rfl (by omega) (by omega) rfl e1 rfl dL_law_680 rfl ?_
  refine ev_istore dL_law_683 (Nat.le_of_ble_eq_true rfl) (L' := (6, .int rb) :: (5, .int kk) :: L0 i) rfl ?_
  refine ev_aload_n 2 dL_law_685 rfl rfl ?_
  refine lw_cV (k' := k + 24) c3 kX4_thrown rfl g1154 rfl (by omega) (by omega) rfl e2 rfl dL_law_686 rfl ?_
  refine ev_iload dL_law_689 rfl ?_
  refine ev_icmp_eq 696 dL_law_691 (by decide) (fun _ => ?_) (fun h => absurd rfl h)
  refine ev_iload dL_law_696 rfl ?_
  refine ev_if_ne 713 dL_law_698 (by decide) (fun _ => ?_) (fun hz => ?_)
  · refine ev_goto 2923 dL_law_713 (by decide) ?_
    exact ev_sub [2, 3, 4, 5, 6] rfl (kN _ hS')
  refine ev_aload_n 3 dL_law_701 rfl rfl ?_
  refine ev_iconst (nI 0) dL_law_702 rfl ?_
  refine ev_lld dL_law_703 e3 ?_
  refine ev_iload dL_law_704 rfl ?_
  refine ev_i2l dL_law_706 ?_
  refine ev_lcmp dL_law_707 ?_
  refine ev_if_eq 713 dL_law_708 (by decide) (fun _ => ?_) (fun h => absurd (lg_0 (e4 hz)) h)
  refine ev_goto 2923 dL_law_713 (by decide) ?_
  exact ev_sub [2, 3, 4, 5, 6] rfl (kN _ hS')
theorem cs_withdraw (hi : i + 3 < LL) (hL : LL ≤ 2048) (hk : k + 24 ≤ 100000) (hS : SR w) (kN : KN nm HT LL xs i k) : Ev (mLw nm HT LL xs) pT nx k 716 (L0 i) [] w := by
  obtain ⟨kk, rb, u, v, fo, c1, c2, c3, ⟨fs1, e1⟩, ⟨fs2, e2⟩, e3, e4, hS'⟩ := s_withdraw hS (xs (i + 1)) (xs (i + 2))
  refine ev_aload_n 1 dL_law_716 rfl rfl ?_
  refine lw_rd 1 (by decide) hi hL dL_law_717 dL_law_718 dL_law_720 rfl dL_law_721 dL_law_722 rfl rfl ?_
  refine lw_rd 2 (by decide) hi hL dL_law_723 dL_law_724 dL_law_726 rfl dL_law_727 dL_law_728 rfl rfl ?_
  refine ev_aload_n 3 dL_law_729 rfl rfl ?_
  refine lw_cW (k' := k + 8) c1 kL_withdraw rfl g801 rfl (by omega) (by omega) rfl dL_law_730 rfl ?_
  refine ev_istore dL_law_733 (Nat.le_of_ble_eq_true rfl) (L' := (5, .int kk) :: L0 i) rfl ?_
  refine ev_aload_n 2 dL_law_735 rfl rfl ?_
  refine lw_rd 1 (by decide) hi hL dL_law_736 dL_law_737 dL_law_739 rfl dL_law_740 dL_law_741 rfl rfl ?_
  refine lw_rd 2 (by decide) hi hL dL_law_742 dL_law_743 dL_law_745 rfl dL_law_746 dL_law_747 rfl rfl ?_
  refine lw_cV (k' := k + 16) c2 kX4_withdraw rfl g1256 rfl (by omega) (by omega) rfl e1 rfl dL_law_748 rfl ?_
  refine ev_istore dL_law_751 (Nat.le_of_ble_eq_true rfl) (L' := (6, .int rb) :: (5, .int kk) :: L0 i) rfl ?_
  refine ev_aload_n 2 dL_law_753 rfl rfl ?_
  refine lw_cV (k' := k + 24) c3 kX4_thrown rfl g1154 rfl (by omega) (by omega) rfl e2 rfl dL_law_754 rfl ?_
  refine ev_iload dL_law_757 rfl ?_
  refine ev_icmp_eq 764 dL_law_759 (by decide) (fun _ => ?_) (fun h => absurd rfl h)
  refine ev_iload dL_law_764 rfl ?_
  refine ev_if_ne 781 dL_law_766 (by decide) (fun _ => ?_) (fun hz => ?_)
  · refine ev_goto 2923 dL_law_781 (by decide) ?_
    exact ev_sub [2, 3, 4, 5, 6] rfl (kN _ hS')
  refine ev_aload_n 3 dL_law_769 rfl rfl ?_
  refine ev_iconst (nI 0) dL_law_770 rfl ?_
  refine ev_lld dL_law_771 e3 ?_
  refine ev_iload dL_law_772 rfl ?_
  refine ev_i2l dL_law_774 ?_
  refine ev_lcmp dL_law_775 ?_
  refine ev_if_eq 781 dL_law_776 (by decide) (fun _ => ?_) (fun h => absurd (lg_0 (e4 hz)) h)
  refine ev_goto 2923 dL_law_781 (by decide) ?_
  exact ev_sub [2, 3, 4, 5, 6] rfl (kN _ hS')
theorem cs_lend (hi : i + 3 < LL) (hL : LL ≤ 2048) (hk : k + 24 ≤ 100000) (hS : SR w) (kN : KN nm HT LL xs i k) : Ev (mLw nm HT LL xs) pT nx k 784 (L0 i) [] w := by
  obtain ⟨kk, rb, u, v, fo, c1, c2, c3, ⟨fs1, e1⟩, ⟨fs2, e2⟩, e3, e4, hS'⟩ := s_lend hS (xs (i + 1)) (xs (i + 2))
  refine ev_aload_n 1 dL_law_784 rfl rfl ?_
  refine lw_rd 1 (by decide) hi hL dL_law_785 dL_law_786 dL_law_788 rfl dL_law_789 dL_law_790 rfl rfl ?_
  refine lw_rd 2 (by decide) hi hL dL_law_791 dL_law_792 dL_law_794 rfl dL_law_795 dL_law_796 rfl rfl ?_
  refine ev_aload_n 3 dL_law_797 rfl rfl ?_
  refine lw_cW (k' := k + 8) c1 kL_lend rfl g812 rfl (by omega) (by omega) rfl dL_law_798 rfl ?_
  refine ev_istore dL_law_801 (Nat.le_of_ble_eq_true rfl) (L' := (5, .int kk) :: L0 i) rfl ?_
  refine ev_aload_n 2 dL_law_803 rfl rfl ?_
  refine lw_rd 1 (by decide) hi hL dL_law_804 dL_law_805 dL_law_807 rfl dL_law_808 dL_law_809 rfl rfl ?_
  refine lw_rd 2 (by decide) hi hL dL_law_810 dL_law_811 dL_law_813 rfl dL_law_814 dL_law_815 rfl rfl ?_
  refine lw_cV (k' := k + 16) c2 kX4_lend rfl g1260 rfl (by omega) (by omega) rfl e1 rfl dL_law_816 rfl ?_
  refine ev_istore dL_law_819 (Nat.le_of_ble_eq_true rfl) (L' := (6, .int rb) :: (5, .int kk) :: L0 i) rfl ?_
  refine ev_aload_n 2 dL_law_821 rfl rfl ?_
  refine lw_cV (k' := k + 24) c3 kX4_thrown rfl g1154 rfl (by omega) (by omega) rfl e2 rfl dL_law_822 rfl ?_
  refine ev_iload dL_law_825 rfl ?_
  refine ev_icmp_eq 832 dL_law_827 (by decide) (fun _ => ?_) (fun h => absurd rfl h)
  refine ev_iload dL_law_832 rfl ?_
  refine ev_if_ne 849 dL_law_834 (by decide) (fun _ => ?_) (fun hz => ?_)
  · refine ev_goto 2923 dL_law_849 (by decide) ?_
    exact ev_sub [2, 3, 4, 5, 6] rfl (kN _ hS')
  refine ev_aload_n 3 dL_law_837 rfl rfl ?_
  refine ev_iconst (nI 0) dL_law_838 rfl ?_
  refine ev_lld dL_law_839 e3 ?_
  refine ev_iload dL_law_840 rfl ?_
  refine ev_i2l dL_law_842 ?_
  refine ev_lcmp dL_law_843 ?_
  refine ev_if_eq 849 dL_law_844 (by decide) (fun _ => ?_) (fun h => absurd (lg_0 (e4 hz)) h)
  refine ev_goto 2923 dL_law_849 (by decide) ?_
  exact ev_sub [2, 3, 4, 5, 6] rfl (kN _ hS')
theorem cs_payBack (hi : i + 3 < LL) (hL : LL ≤ 2048) (hk : k + 24 ≤ 100000) (hS : SR w) (kN : KN nm HT LL xs i k) : Ev (mLw nm HT LL xs) pT nx k 852 (L0 i) [] w := by
  obtain ⟨kk, rb, u, v, fo, c1, c2, c3, ⟨fs1, e1⟩, ⟨fs2, e2⟩, e3, e4, hS'⟩ := s_payBack hS (xs (i + 1)) (xs (i + 2))
  refine ev_aload_n 1 dL_law_852 rfl rfl ?_
  refine lw_rd 1 (by decide) hi hL dL_law_853 dL_law_854 dL_law_856 rfl dL_law_857 dL_law_858 rfl rfl ?_
  refine lw_rd 2 (by decide) hi hL dL_law_859 dL_law_860 dL_law_862 rfl dL_law_863 dL_law_864 rfl rfl ?_
  refine ev_aload_n 3 dL_law_865 rfl rfl ?_
  refine lw_cW (k' := k + 8) c1 kL_payBack rfl g823 rfl (by omega) (by omega) rfl dL_law_866 rfl ?_
  refine ev_istore dL_law_869 (Nat.le_of_ble_eq_true rfl) (L' := (5, .int kk) :: L0 i) rfl ?_
  refine ev_aload_n 2 dL_law_871 rfl rfl ?_
  refine lw_rd 1 (by decide) hi hL dL_law_872 dL_law_873 dL_law_875 rfl dL_law_876 dL_law_877 rfl rfl ?_
  refine lw_rd 2 (by decide) hi hL dL_law_878 dL_law_879 dL_law_881 rfl dL_law_882 dL_law_883 rfl rfl ?_
  refine lw_cV (k' := k + 16) c2 kX4_payBack rfl g1272 rfl (by omega) (by omega) rfl e1 rfl dL_law_884 rfl ?_
  refine ev_istore dL_law_887 (Nat.le_of_ble_eq_true rfl) (L' := (6, .int rb) :: (5, .int kk) :: L0 i) rfl ?_
  refine ev_aload_n 2 dL_law_889 rfl rfl ?_
  refine lw_cV (k' := k + 24) c3 kX4_thrown rfl g1154 rfl (by omega) (by omega) rfl e2 rfl dL_law_890 rfl ?_
  refine ev_iload dL_law_893 rfl ?_
  refine ev_icmp_eq 900 dL_law_895 (by decide) (fun _ => ?_) (fun h => absurd rfl h)
  refine ev_iload dL_law_900 rfl ?_
  refine ev_if_ne 917 dL_law_902 (by decide) (fun _ => ?_) (fun hz => ?_)
  · refine ev_goto 2923 dL_law_917 (by decide) ?_
    exact ev_sub [2, 3, 4, 5, 6] rfl (kN _ hS')
  refine ev_aload_n 3 dL_law_905 rfl rfl ?_
  refine ev_iconst (nI 0) dL_law_906 rfl ?_
  refine ev_lld dL_law_907 e3 ?_
  refine ev_iload dL_law_908 rfl ?_
  refine ev_i2l dL_law_910 ?_
  refine ev_lcmp dL_law_911 ?_
  refine ev_if_eq 917 dL_law_912 (by decide) (fun _ => ?_) (fun h => absurd (lg_0 (e4 hz)) h)
  refine ev_goto 2923 dL_law_917 (by decide) ?_
  exact ev_sub [2, 3, 4, 5, 6] rfl (kN _ hS')
theorem cs_readmit (hi : i + 3 < LL) (hL : LL ≤ 2048) (hk : k + 24 ≤ 100000) (hS : SR w) (kN : KN nm HT LL xs i k) : Ev (mLw nm HT LL xs) pT nx k 920 (L0 i) [] w := by
  obtain ⟨kk, u, v, c1, c2, c3, ⟨fs1, e1⟩, ⟨fs2, e2⟩, hS'⟩ := s_readmit hS (xs (i + 1))
  refine ev_aload_n 1 dL_law_920 rfl rfl ?_
  refine lw_rd 1 (by decide) hi hL dL_law_921 dL_law_922 dL_law_924 rfl dL_law_925 dL_law_926 rfl rfl ?_
  refine lw_cW (k' := k + 8) c1 kL_readmit rfl g834 rfl (by omega) (by omega) rfl dL_law_927 rfl ?_
  refine ev_istore dL_law_930 (Nat.le_of_ble_eq_true rfl) (L' := (5, .int kk) :: L0 i) rfl ?_
  refine ev_aload_n 2 dL_law_932 rfl rfl ?_
  refine lw_rd 1 (by decide) hi hL dL_law_933 dL_law_934 dL_law_936 rfl dL_law_937 dL_law_938 rfl rfl ?_
  refine lw_cVv (k' := k + 16) c2 kX4_readmit rfl g1280 rfl (by omega) (by omega) rfl e1 rfl dL_law_939 rfl ?_
  refine ev_aload_n 2 dL_law_942 rfl rfl ?_
  refine lw_cV (k' := k + 24) c3 kX4_thrown rfl g1154 rfl (by omega) (by omega) rfl e2 rfl dL_law_943 rfl ?_
  refine ev_iload dL_law_946 rfl ?_
  refine ev_icmp_eq 953 dL_law_948 (by decide) (fun _ => ?_) (fun h => absurd rfl h)
  refine ev_goto 2923 dL_law_953 (by decide) ?_
  exact ev_sub [1, 2, 3, 4, 5] rfl (kN _ hS')
theorem cs_pass (hi : i + 3 < LL) (hL : LL ≤ 2048) (hk : k + 24 ≤ 100000) (hS : SR w) (kN : KN nm HT LL xs i k) : Ev (mLw nm HT LL xs) pT nx k 956 (L0 i) [] w := by
  obtain ⟨kk, rb, u, v, fo, c1, c2, c3, ⟨fs1, e1⟩, ⟨fs2, e2⟩, e3, e4, hS'⟩ := s_pass hS (xs (i + 1))
  refine ev_aload_n 1 dL_law_956 rfl rfl ?_
  refine lw_rd 1 (by decide) hi hL dL_law_957 dL_law_958 dL_law_960 rfl dL_law_961 dL_law_962 rfl rfl ?_
  refine ev_aload_n 3 dL_law_963 rfl rfl ?_
  refine lw_cW (k' := k + 8) c1 kL_pass rfl g845 rfl (by omega) (by omega) rfl dL_law_964 rfl ?_
  refine ev_istore dL_law_967 (Nat.le_of_ble_eq_true rfl) (L' := (5, .int kk) :: L0 i) rfl ?_
  refine ev_aload_n 2 dL_law_969 rfl rfl ?_
  refine lw_rd 1 (by decide) hi hL dL_law_970 dL_law_971 dL_law_973 rfl dL_law_974 dL_law_975 rfl rfl ?_
  refine lw_cV (k' := k + 16) c2 kX4_pass rfl g1284 rfl (by omega) (by omega) rfl e1 rfl dL_law_976 rfl ?_
  refine ev_istore dL_law_979 (Nat.le_of_ble_eq_true rfl) (L' := (6, .int rb) :: (5, .int kk) :: L0 i) rfl ?_
  refine ev_aload_n 2 dL_law_981 rfl rfl ?_
  refine lw_cV (k' := k + 24) c3 kX4_thrown rfl g1154 rfl (by omega) (by omega) rfl e2 rfl dL_law_982 rfl ?_
  refine ev_iload dL_law_985 rfl ?_
  refine ev_icmp_eq 992 dL_law_987 (by decide) (fun _ => ?_) (fun h => absurd rfl h)
  refine ev_iload dL_law_992 rfl ?_
  refine ev_if_ne 1009 dL_law_994 (by decide) (fun _ => ?_) (fun hz => ?_)
  · refine ev_goto 2923 dL_law_1009 (by decide) ?_
    exact ev_sub [2, 3, 4, 5, 6] rfl (kN _ hS')
  refine ev_aload_n 3 dL_law_997 rfl rfl ?_
  refine ev_iconst (nI 0) dL_law_998 rfl ?_
  refine ev_lld dL_law_999 e3 ?_
  refine ev_iload dL_law_1000 rfl ?_
  refine ev_i2l dL_law_1002 ?_
  refine ev_lcmp dL_law_1003 ?_
  refine ev_if_eq 1009 dL_law_1004 (by decide) (fun _ => ?_) (fun h => absurd (lg_0 (e4 hz)) h)
  refine ev_goto 2923 dL_law_1009 (by decide) ?_
  exact ev_sub [2, 3, 4, 5, 6] rfl (kN _ hS')
theorem cs_changeRate (hi : i + 3 < LL) (hL : LL ≤ 2048) (hk : k + 24 ≤ 100000) (hS : SR w) (kN : KN nm HT LL xs i k) : Ev (mLw nm HT LL xs) pT nx k 1012 (L0 i) [] w := by
  obtain ⟨kk, rb, u, v, fo, c1, c2, c3, ⟨fs1, e1⟩, ⟨fs2, e2⟩, e3, e4, hS'⟩ := s_changeRate hS (xs (i + 1))
  refine ev_aload_n 1 dL_law_1012 rfl rfl ?_
  refine lw_rd 1 (by decide) hi hL dL_law_1013 dL_law_1014 dL_law_1016 rfl dL_law_1017 dL_law_1018 rfl rfl ?_
  refine ev_aload_n 3 dL_law_1019 rfl rfl ?_
  refine lw_cW (k' := k + 8) c1 kL_changeRate rfl g879 rfl (by omega) (by omega) rfl dL_law_1020 rfl ?_
  refine ev_istore dL_law_1023 (Nat.le_of_ble_eq_true rfl) (L' := (5, .int kk) :: L0 i) rfl ?_
  refine ev_aload_n 2 dL_law_1025 rfl rfl ?_
  refine lw_rd 1 (by decide) hi hL dL_law_1026 dL_law_1027 dL_law_1029 rfl dL_law_1030 dL_law_1031 rfl rfl ?_
  refine lw_cV (k' := k + 16) c2 kX4_changeRate rfl g1315 rfl (by omega) (by omega) rfl e1 rfl dL_law_1032 rfl ?_
  refine ev_istore dL_law_1035 (Nat.le_of_ble_eq_true rfl) (L' := (6, .int rb) :: (5, .int kk) :: L0 i) rfl ?_
  refine ev_aload_n 2 dL_law_1037 rfl rfl ?_
  refine lw_cV (k' := k + 24) c3 kX4_thrown rfl g1154 rfl (by omega) (by omega) rfl e2 rfl dL_law_1038 rfl ?_
  refine ev_iload dL_law_1041 rfl ?_
  refine ev_icmp_eq 1048 dL_law_1043 (by decide) (fun _ => ?_) (fun h => absurd rfl h)
  refine ev_iload dL_law_1048 rfl ?_
  refine ev_if_ne 1065 dL_law_1050 (by decide) (fun _ => ?_) (fun hz => ?_)
  · refine ev_goto 2923 dL_law_1065 (by decide) ?_
    exact ev_sub [2, 3, 4, 5, 6] rfl (kN _ hS')
  refine ev_aload_n 3 dL_law_1053 rfl rfl ?_
  refine ev_iconst (nI 0) dL_law_1054 rfl ?_
  refine ev_lld dL_law_1055 e3 ?_
  refine ev_iload dL_law_1056 rfl ?_
  refine ev_i2l dL_law_1058 ?_
  refine ev_lcmp dL_law_1059 ?_
  refine ev_if_eq 1065 dL_law_1060 (by decide) (fun _ => ?_) (fun h => absurd (lg_0 (e4 hz)) h)
  refine ev_goto 2923 dL_law_1065 (by decide) ?_
  exact ev_sub [2, 3, 4, 5, 6] rfl (kN _ hS')
theorem cs_changeGrace (hi : i + 3 < LL) (hL : LL ≤ 2048) (hk : k + 24 ≤ 100000) (hS : SR w) (kN : KN nm HT LL xs i k) : Ev (mLw nm HT LL xs) pT nx k 1068 (L0 i) [] w := by
  obtain ⟨kk, rb, u, v, fo, c1, c2, c3, ⟨fs1, e1⟩, ⟨fs2, e2⟩, e3, e4, hS'⟩ := s_changeGrace hS (xs (i + 1))
  refine ev_aload_n 1 dL_law_1068 rfl rfl ?_
  refine lw_rd 1 (by decide) hi hL dL_law_1069 dL_law_1070 dL_law_1072 rfl dL_law_1073 dL_law_1074 rfl rfl ?_
  refine ev_aload_n 3 dL_law_1075 rfl rfl ?_
  refine lw_cW (k' := k + 8) c1 kL_changeGrace rfl g886 rfl (by omega) (by omega) rfl dL_law_1076 rfl ?_
  refine ev_istore dL_law_1079 (Nat.le_of_ble_eq_true rfl) (L' := (5, .int kk) :: L0 i) rfl ?_
  refine ev_aload_n 2 dL_law_1081 rfl rfl ?_
  refine lw_rd 1 (by decide) hi hL dL_law_1082 dL_law_1083 dL_law_1085 rfl dL_law_1086 dL_law_1087 rfl rfl ?_
  refine lw_cV (k' := k + 16) c2 kX4_changeGrace rfl g1323 rfl (by omega) (by omega) rfl e1 rfl dL_law_1088 rfl ?_
  refine ev_istore dL_law_1091 (Nat.le_of_ble_eq_true rfl) (L' := (6, .int rb) :: (5, .int kk) :: L0 i) rfl ?_
  refine ev_aload_n 2 dL_law_1093 rfl rfl ?_
  refine lw_cV (k' := k + 24) c3 kX4_thrown rfl g1154 rfl (by omega) (by omega) rfl e2 rfl dL_law_1094 rfl ?_
  refine ev_iload dL_law_1097 rfl ?_
  refine ev_icmp_eq 1104 dL_law_1099 (by decide) (fun _ => ?_) (fun h => absurd rfl h)
  refine ev_iload dL_law_1104 rfl ?_
  refine ev_if_ne 1121 dL_law_1106 (by decide) (fun _ => ?_) (fun hz => ?_)
  · refine ev_goto 2923 dL_law_1121 (by decide) ?_
    exact ev_sub [2, 3, 4, 5, 6] rfl (kN _ hS')
  refine ev_aload_n 3 dL_law_1109 rfl rfl ?_
  refine ev_iconst (nI 0) dL_law_1110 rfl ?_
  refine ev_lld dL_law_1111 e3 ?_
  refine ev_iload dL_law_1112 rfl ?_
  refine ev_i2l dL_law_1114 ?_
  refine ev_lcmp dL_law_1115 ?_
  refine ev_if_eq 1121 dL_law_1116 (by decide) (fun _ => ?_) (fun h => absurd (lg_0 (e4 hz)) h)
  refine ev_goto 2923 dL_law_1121 (by decide) ?_
  exact ev_sub [2, 3, 4, 5, 6] rfl (kN _ hS')
theorem cs_changeSlip (hi : i + 3 < LL) (hL : LL ≤ 2048) (hk : k + 24 ≤ 100000) (hS : SR w) (kN : KN nm HT LL xs i k) : Ev (mLw nm HT LL xs) pT nx k 1124 (L0 i) [] w := by
  obtain ⟨kk, rb, u, v, fo, c1, c2, c3, ⟨fs1, e1⟩, ⟨fs2, e2⟩, e3, e4, hS'⟩ := s_changeSlip hS (xs (i + 1))
  refine ev_aload_n 1 dL_law_1124 rfl rfl ?_
  refine lw_rd 1 (by decide) hi hL dL_law_1125 dL_law_1126 dL_law_1128 rfl dL_law_1129 dL_law_1130 rfl rfl ?_
  refine ev_aload_n 3 dL_law_1131 rfl rfl ?_
  refine lw_cW (k' := k + 8) c1 kL_changeSlip rfl g893 rfl (by omega) (by omega) rfl dL_law_1132 rfl ?_
  refine ev_istore dL_law_1135 (Nat.le_of_ble_eq_true rfl) (L' := (5, .int kk) :: L0 i) rfl ?_
  refine ev_aload_n 2 dL_law_1137 rfl rfl ?_
  refine lw_rd 1 (by decide) hi hL dL_law_1138 dL_law_1139 dL_law_1141 rfl dL_law_1142 dL_law_1143 rfl rfl ?_
  refine lw_cV (k' := k + 16) c2 kX4_changeSlip rfl g1327 rfl (by omega) (by omega) rfl e1 rfl dL_law_1144 rfl ?_
  refine ev_istore dL_law_1147 (Nat.le_of_ble_eq_true rfl) (L' := (6, .int rb) :: (5, .int kk) :: L0 i) rfl ?_
  refine ev_aload_n 2 dL_law_1149 rfl rfl ?_
  refine lw_cV (k' := k + 24) c3 kX4_thrown rfl g1154 rfl (by omega) (by omega) rfl e2 rfl dL_law_1150 rfl ?_
  refine ev_iload dL_law_1153 rfl ?_
  refine ev_icmp_eq 1160 dL_law_1155 (by decide) (fun _ => ?_) (fun h => absurd rfl h)
  refine ev_iload dL_law_1160 rfl ?_
  refine ev_if_ne 1177 dL_law_1162 (by decide) (fun _ => ?_) (fun hz => ?_)
  · refine ev_goto 2923 dL_law_1177 (by decide) ?_
    exact ev_sub [2, 3, 4, 5, 6] rfl (kN _ hS')
  refine ev_aload_n 3 dL_law_1165 rfl rfl ?_
  refine ev_iconst (nI 0) dL_law_1166 rfl ?_
  refine ev_lld dL_law_1167 e3 ?_
  refine ev_iload dL_law_1168 rfl ?_
  refine ev_i2l dL_law_1170 ?_
  refine ev_lcmp dL_law_1171 ?_
  refine ev_if_eq 1177 dL_law_1172 (by decide) (fun _ => ?_) (fun h => absurd (lg_0 (e4 hz)) h)
  refine ev_goto 2923 dL_law_1177 (by decide) ?_
  exact ev_sub [2, 3, 4, 5, 6] rfl (kN _ hS')
theorem cs_turnOrder (hi : i + 3 < LL) (hL : LL ≤ 2048) (hk : k + 24 ≤ 100000) (hS : SR w) (kN : KN nm HT LL xs i k) : Ev (mLw nm HT LL xs) pT nx k 1180 (L0 i) [] w := by
  obtain ⟨r, u, v, c1, c2, ⟨fs1, e1⟩, ⟨fs2, e2⟩, hS'⟩ := t_turnOrder hS
  refine ev_aload_n 1 dL_law_1180 rfl rfl ?_
  refine lw_cV (k' := k + 8) c1 kX3_turnOrder rfl g284 rfl (by omega) (by omega) rfl e1 rfl dL_law_1181 rfl ?_
  refine ev_aload_n 2 dL_law_1184 rfl rfl ?_
  refine lw_cV (k' := k + 24) c2 kX4_turnOrder rfl g1331 rfl (by omega) (by omega) rfl e2 rfl dL_law_1185 rfl ?_
  refine ev_icmp_eq 2923 dL_law_1188 (by decide) (fun _ => ?_) (fun h => absurd rfl h)
  exact (kN _ hS')
theorem cs_append (hi : i + 3 < LL) (hL : LL ≤ 2048) (hk : k + 24 ≤ 100000) (hS : SR w) (kN : KN nm HT LL xs i k) : Ev (mLw nm HT LL xs) pT nx k 1193 (L0 i) [] w := by
  obtain ⟨kk, rb, u, v, fo, c1, c2, c3, ⟨fs1, e1⟩, ⟨fs2, e2⟩, e3, e4, hS'⟩ := s_append hS (xs (i + 1))
  refine ev_aload_n 1 dL_law_1193 rfl rfl ?_
  refine lw_rd 1 (by decide) hi hL dL_law_1194 dL_law_1195 dL_law_1197 rfl dL_law_1198 dL_law_1199 rfl rfl ?_
  refine ev_aload_n 3 dL_law_1200 rfl rfl ?_
  refine lw_cW (k' := k + 8) c1 kL_append rfl g900 rfl (by omega) (by omega) rfl dL_law_1201 rfl ?_
  refine ev_istore dL_law_1204 (Nat.le_of_ble_eq_true rfl) (L' := (5, .int kk) :: L0 i) rfl ?_
  refine ev_aload_n 2 dL_law_1206 rfl rfl ?_
  refine lw_rd 1 (by decide) hi hL dL_law_1207 dL_law_1208 dL_law_1210 rfl dL_law_1211 dL_law_1212 rfl rfl ?_
  refine lw_cV (k' := k + 16) c2 kX4_append rfl g1335 rfl (by omega) (by omega) rfl e1 rfl dL_law_1213 rfl ?_
  refine ev_istore dL_law_1216 (Nat.le_of_ble_eq_true rfl) (L' := (6, .int rb) :: (5, .int kk) :: L0 i) rfl ?_
  refine ev_aload_n 2 dL_law_1218 rfl rfl ?_
  refine lw_cV (k' := k + 24) c3 kX4_thrown rfl g1154 rfl (by omega) (by omega) rfl e2 rfl dL_law_1219 rfl ?_
  refine ev_iload dL_law_1222 rfl ?_
  refine ev_icmp_eq 1229 dL_law_1224 (by decide) (fun _ => ?_) (fun h => absurd rfl h)
  refine ev_iload dL_law_1229 rfl ?_
  refine ev_if_ne 1246 dL_law_1231 (by decide) (fun _ => ?_) (fun hz => ?_)
  · refine ev_goto 2923 dL_law_1246 (by decide) ?_
    exact ev_sub [2, 3, 4, 5, 6] rfl (kN _ hS')
  refine ev_aload_n 3 dL_law_1234 rfl rfl ?_
  refine ev_iconst (nI 0) dL_law_1235 rfl ?_
  refine ev_lld dL_law_1236 e3 ?_
  refine ev_iload dL_law_1237 rfl ?_
  refine ev_i2l dL_law_1239 ?_
  refine ev_lcmp dL_law_1240 ?_
  refine ev_if_eq 1246 dL_law_1241 (by decide) (fun _ => ?_) (fun h => absurd (lg_0 (e4 hz)) h)
  refine ev_goto 2923 dL_law_1246 (by decide) ?_
  exact ev_sub [2, 3, 4, 5, 6] rfl (kN _ hS')
theorem cs_clearBuffer (hi : i + 3 < LL) (hL : LL ≤ 2048) (hk : k + 24 ≤ 100000) (hS : SR w) (kN : KN nm HT LL xs i k) : Ev (mLw nm HT LL xs) pT nx k 1249 (L0 i) [] w := by
  obtain ⟨r, u, v, c1, c2, ⟨fs1, e1⟩, ⟨fs2, e2⟩, hS'⟩ := t_clearBuffer hS
  refine ev_aload_n 1 dL_law_1249 rfl rfl ?_
  refine lw_cV (k' := k + 8) c1 kX3_clearBuffer rfl g303 rfl (by omega) (by omega) rfl e1 rfl dL_law_1250 rfl ?_
  refine ev_aload_n 2 dL_law_1253 rfl rfl ?_
  refine lw_cV (k' := k + 24) c2 kX4_clearBuffer rfl g1339 rfl (by omega) (by omega) rfl e2 rfl dL_law_1254 rfl ?_
  refine ev_icmp_eq 2923 dL_law_1257 (by decide) (fun _ => ?_) (fun h => absurd rfl h)
  exact (kN _ hS')
theorem cs_firstError (hi : i + 3 < LL) (hL : LL ≤ 2048) (hk : k + 24 ≤ 100000) (hS : SR w) (kN : KN nm HT LL xs i k) : Ev (mLw nm HT LL xs) pT nx k 1262 (L0 i) [] w := by
  obtain ⟨r, u, v, c1, c2, ⟨fs1, e1⟩, ⟨fs2, e2⟩, hS'⟩ := t_firstError hS
  refine ev_aload_n 1 dL_law_1262 rfl rfl ?_
  refine lw_cV (k' := k + 8) c1 kX3_firstError rfl g307 rfl (by omega) (by omega) rfl e1 rfl dL_law_1263 rfl ?_
  refine ev_aload_n 2 dL_law_1266 rfl rfl ?_
  refine lw_cV (k' := k + 24) c2 kX4_firstError rfl g1343 rfl (by omega) (by omega) rfl e2 rfl dL_law_1267 rfl ?_
  refine ev_icmp_eq 2923 dL_law_1270 (by decide) (fun _ => ?_) (fun h => absurd rfl h)
  exact (kN _ hS')
theorem cs_follow (hi : i + 3 < LL) (hL : LL ≤ 2048) (hk : k + 24 ≤ 100000) (hS : SR w) (kN : KN nm HT LL xs i k) : Ev (mLw nm HT LL xs) pT nx k 1275 (L0 i) [] w := by
  obtain ⟨kk, rb, u, v, fo, c1, c2, c3, ⟨fs1, e1⟩, ⟨fs2, e2⟩, e3, e4, hS'⟩ := s_follow hS
  refine ev_aload_n 1 dL_law_1275 rfl rfl ?_
  refine ev_aload_n 3 dL_law_1276 rfl rfl ?_
  refine lw_cW (k' := k + 8) c1 kL_follow rfl g907 rfl (by omega) (by omega) rfl dL_law_1277 rfl ?_
  refine ev_istore dL_law_1280 (Nat.le_of_ble_eq_true rfl) (L' := (5, .int kk) :: L0 i) rfl ?_
  refine ev_aload_n 2 dL_law_1282 rfl rfl ?_
  refine lw_cV (k' := k + 16) c2 kX4_follow rfl g1367 rfl (by omega) (by omega) rfl e1 rfl dL_law_1283 rfl ?_
  refine ev_istore dL_law_1286 (Nat.le_of_ble_eq_true rfl) (L' := (6, .int rb) :: (5, .int kk) :: L0 i) rfl ?_
  refine ev_aload_n 2 dL_law_1288 rfl rfl ?_
  refine lw_cV (k' := k + 24) c3 kX4_thrown rfl g1154 rfl (by omega) (by omega) rfl e2 rfl dL_law_1289 rfl ?_
  refine ev_iload dL_law_1292 rfl ?_
  refine ev_icmp_eq 1299 dL_law_1294 (by decide) (fun _ => ?_) (fun h => absurd rfl h)
  refine ev_iload dL_law_1299 rfl ?_
  refine ev_if_ne 1316 dL_law_1301 (by decide) (fun _ => ?_) (fun hz => ?_)
  · refine ev_goto 2923 dL_law_1316 (by decide) ?_
    exact ev_sub [2, 3, 4, 5, 6] rfl (kN _ hS')
  refine ev_aload_n 3 dL_law_1304 rfl rfl ?_
  refine ev_iconst (nI 0) dL_law_1305 rfl ?_
  refine ev_lld dL_law_1306 e3 ?_
  refine ev_iload dL_law_1307 rfl ?_
  refine ev_i2l dL_law_1309 ?_
  refine ev_lcmp dL_law_1310 ?_
  refine ev_if_eq 1316 dL_law_1311 (by decide) (fun _ => ?_) (fun h => absurd (lg_0 (e4 hz)) h)
  refine ev_goto 2923 dL_law_1316 (by decide) ?_
  exact ev_sub [2, 3, 4, 5, 6] rfl (kN _ hS')
theorem cs_keep (hi : i + 3 < LL) (hL : LL ≤ 2048) (hk : k + 24 ≤ 100000) (hS : SR w) (kN : KN nm HT LL xs i k) : Ev (mLw nm HT LL xs) pT nx k 1319 (L0 i) [] w := by
  obtain ⟨kk, u, v, c1, c2, c3, ⟨fs1, e1⟩, ⟨fs2, e2⟩, hS'⟩ := s_keep hS (xs (i + 1))
  refine ev_aload_n 1 dL_law_1319 rfl rfl ?_
  refine lw_rd 1 (by decide) hi hL dL_law_1320 dL_law_1321 dL_law_1323 rfl dL_law_1324 dL_law_1325 rfl rfl ?_
  refine lw_cW (k' := k + 8) c1 kL_keep rfl g929 rfl (by omega) (by omega) rfl dL_law_1326 rfl ?_
  refine ev_istore dL_law_1329 (Nat.le_of_ble_eq_true rfl) (L' := (5, .int kk) :: L0 i) rfl ?_
  refine ev_aload_n 2 dL_law_1331 rfl rfl ?_
  refine lw_rd 1 (by decide) hi hL dL_law_1332 dL_law_1333 dL_law_1335 rfl dL_law_1336 dL_law_1337 rfl rfl ?_
  refine lw_cVv (k' := k + 16) c2 kX4_keep rfl g1383 rfl (by omega) (by omega) rfl e1 rfl dL_law_1338 rfl ?_
  refine ev_aload_n 2 dL_law_1341 rfl rfl ?_
  refine lw_cV (k' := k + 24) c3 kX4_thrown rfl g1154 rfl (by omega) (by omega) rfl e2 rfl dL_law_1342 rfl ?_
  refine ev_iload dL_law_1345 rfl ?_
  refine ev_icmp_eq 1352 dL_law_1347 (by decide) (fun _ => ?_) (fun h => absurd rfl h)
  refine ev_goto 2923 dL_law_1352 (by decide) ?_
  exact ev_sub [1, 2, 3, 4, 5] rfl (kN _ hS')
theorem cs_goBack (hi : i + 3 < LL) (hL : LL ≤ 2048) (hk : k + 24 ≤ 100000) (hS : SR w) (kN : KN nm HT LL xs i k) : Ev (mLw nm HT LL xs) pT nx k 1355 (L0 i) [] w := by
  obtain ⟨kk, u, v, c1, c2, c3, ⟨fs1, e1⟩, ⟨fs2, e2⟩, hS'⟩ := s_goBack hS (xs (i + 1))
  refine ev_aload_n 1 dL_law_1355 rfl rfl ?_
  refine lw_rd 1 (by decide) hi hL dL_law_1356 dL_law_1357 dL_law_1359 rfl dL_law_1360 dL_law_1361 rfl rfl ?_
  refine lw_cW (k' := k + 8) c1 kL_goBack rfl g936 rfl (by omega) (by omega) rfl dL_law_1362 rfl ?_
  refine ev_istore dL_law_1365 (Nat.le_of_ble_eq_true rfl) (L' := (5, .int kk) :: L0 i) rfl ?_
  refine ev_aload_n 2 dL_law_1367 rfl rfl ?_
  refine lw_rd 1 (by decide) hi hL dL_law_1368 dL_law_1369 dL_law_1371 rfl dL_law_1372 dL_law_1373 rfl rfl ?_
  refine lw_cVv (k' := k + 16) c2 kX4_goBack rfl g1387 rfl (by omega) (by omega) rfl e1 rfl dL_law_1374 rfl ?_
  refine ev_aload_n 2 dL_law_1377 rfl rfl ?_
  refine lw_cV (k' := k + 24) c3 kX4_thrown rfl g1154 rfl (by omega) (by omega) rfl e2 rfl dL_law_1378 rfl ?_
  refine ev_iload dL_law_1381 rfl ?_
  refine ev_icmp_eq 1388 dL_law_1383 (by decide) (fun _ => ?_) (fun h => absurd rfl h)
  refine ev_goto 2923 dL_law_1388 (by decide) ?_
  exact ev_sub [1, 2, 3, 4, 5] rfl (kN _ hS')
theorem cs_undo (hi : i + 3 < LL) (hL : LL ≤ 2048) (hk : k + 24 ≤ 100000) (hS : SR w) (kN : KN nm HT LL xs i k) : Ev (mLw nm HT LL xs) pT nx k 1391 (L0 i) [] w := by
  obtain ⟨kk, u, v, c1, c2, c3, ⟨fs1, e1⟩, ⟨fs2, e2⟩, hS'⟩ := s_undo hS
  refine ev_aload_n 1 dL_law_1391 rfl rfl ?_
  refine lw_cW (k' := k + 8) c1 kL_undo rfl g943 rfl (by omega) (by omega) rfl dL_law_1392 rfl ?_
  refine ev_istore dL_law_1395 (Nat.le_of_ble_eq_true rfl) (L' := (5, .int kk) :: L0 i) rfl ?_
  refine ev_aload_n 2 dL_law_1397 rfl rfl ?_
  refine lw_cVv (k' := k + 16) c2 kX4_undo rfl g1391 rfl (by omega) (by omega) rfl e1 rfl dL_law_1398 rfl ?_
  refine ev_aload_n 2 dL_law_1401 rfl rfl ?_
  refine lw_cV (k' := k + 24) c3 kX4_thrown rfl g1154 rfl (by omega) (by omega) rfl e2 rfl dL_law_1402 rfl ?_
  refine ev_iload dL_law_1405 rfl ?_
  refine ev_icmp_eq 1412 dL_law_1407 (by decide) (fun _ => ?_) (fun h => absurd rfl h)
  refine ev_goto 2923 dL_law_1412 (by decide) ?_
  exact ev_sub [1, 2, 3, 4, 5] rfl (kN _ hS')
theorem cs_savedStates (hi : i + 3 < LL) (hL : LL ≤ 2048) (hk : k + 24 ≤ 100000) (hS : SR w) (kN : KN nm HT LL xs i k) : Ev (mLw nm HT LL xs) pT nx k 1415 (L0 i) [] w := by
  obtain ⟨r, u, v, c1, c2, ⟨fs1, e1⟩, ⟨fs2, e2⟩, hS'⟩ := t_savedStates hS
  refine ev_aload_n 1 dL_law_1415 rfl rfl ?_
  refine lw_cV (k' := k + 8) c1 kX3_savedStates rfl g404 rfl (by omega) (by omega) rfl e1 rfl dL_law_1416 rfl ?_
  refine ev_aload_n 2 dL_law_1419 rfl rfl ?_
  refine lw_cV (k' := k + 24) c2 kX4_savedStates rfl g1395 rfl (by omega) (by omega) rfl e2 rfl dL_law_1420 rfl ?_
  refine ev_icmp_eq 2923 dL_law_1423 (by decide) (fun _ => ?_) (fun h => absurd rfl h)
  exact (kN _ hS')
theorem cs_priceOf (hi : i + 3 < LL) (hL : LL ≤ 2048) (hk : k + 24 ≤ 100000) (hS : SR w) (kN : KN nm HT LL xs i k) : Ev (mLw nm HT LL xs) pT nx k 1428 (L0 i) [] w := by
  obtain ⟨kk, rb, u, v, fo, c1, c2, c3, ⟨fs1, e1⟩, ⟨fs2, e2⟩, e3, e4, hS'⟩ := s_priceOf hS (xs (i + 1))
  refine ev_aload_n 1 dL_law_1428 rfl rfl ?_
  refine lw_rd 1 (by decide) hi hL dL_law_1429 dL_law_1430 dL_law_1432 rfl dL_law_1433 dL_law_1434 rfl rfl ?_
  refine ev_aload_n 3 dL_law_1435 rfl rfl ?_
  refine lw_cW (k' := k + 8) c1 kL_priceOf rfl g950 rfl (by omega) (by omega) rfl dL_law_1436 rfl ?_
  refine ev_istore dL_law_1439 (Nat.le_of_ble_eq_true rfl) (L' := (5, .int kk) :: L0 i) rfl ?_
  refine ev_aload_n 2 dL_law_1441 rfl rfl ?_
  refine lw_rd 1 (by decide) hi hL dL_law_1442 dL_law_1443 dL_law_1445 rfl dL_law_1446 dL_law_1447 rfl rfl ?_
  refine lw_cV (k' := k + 16) c2 kX4_priceOf rfl g1399 rfl (by omega) (by omega) rfl e1 rfl dL_law_1448 rfl ?_
  refine ev_istore dL_law_1451 (Nat.le_of_ble_eq_true rfl) (L' := (6, .int rb) :: (5, .int kk) :: L0 i) rfl ?_
  refine ev_aload_n 2 dL_law_1453 rfl rfl ?_
  refine lw_cV (k' := k + 24) c3 kX4_thrown rfl g1154 rfl (by omega) (by omega) rfl e2 rfl dL_law_1454 rfl ?_
  refine ev_iload dL_law_1457 rfl ?_
  refine ev_icmp_eq 1464 dL_law_1459 (by decide) (fun _ => ?_) (fun h => absurd rfl h)
  refine ev_iload dL_law_1464 rfl ?_
  refine ev_if_ne 1481 dL_law_1466 (by decide) (fun _ => ?_) (fun hz => ?_)
  · refine ev_goto 2923 dL_law_1481 (by decide) ?_
    exact ev_sub [2, 3, 4, 5, 6] rfl (kN _ hS')
  refine ev_aload_n 3 dL_law_1469 rfl rfl ?_
  refine ev_iconst (nI 0) dL_law_1470 rfl ?_
  refine ev_lld dL_law_1471 e3 ?_
  refine ev_iload dL_law_1472 rfl ?_
  refine ev_i2l dL_law_1474 ?_
  refine ev_lcmp dL_law_1475 ?_
  refine ev_if_eq 1481 dL_law_1476 (by decide) (fun _ => ?_) (fun h => absurd (lg_0 (e4 hz)) h)
  refine ev_goto 2923 dL_law_1481 (by decide) ?_
  exact ev_sub [2, 3, 4, 5, 6] rfl (kN _ hS')
end LAW
