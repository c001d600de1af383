/-! ===== the law: its switch, its loop ===== -/
section LAW
variable {nm : String} {HT : List (Nat × Nat × Nat × Nat)} {LL : Nat} {xs : Nat → Int32} {i k : Nat} {w : PW}
theorem lw_sw (hi : i + 3 < LL) (hL : LL ≤ 2048) (hk : k + 24 ≤ 100000) (hS : SR w) (kN : KN nm HT LL xs i k) : ∀ j, j < 64 → Ev (mLw nm HT LL xs) pT nx k 39 (L0 i) [.int (nI j)] w := by
  intro j hj
  match j, hj with
  | 0, _ => exact ev_tableIn 296 dL_law_39 (by decide) (by decide) rfl (by decide) (cs_setPrice hi hL hk hS kN)
  | 1, _ => exact ev_tableIn 364 dL_law_39 (by decide) (by decide) rfl (by decide) (cs_setCut hi hL hk hS kN)
  | 2, _ => exact ev_tableIn 432 dL_law_39 (by decide) (by decide) rfl (by decide) (cs_fall hi hL hk hS kN)
  | 3, _ => exact ev_tableIn 488 dL_law_39 (by decide) (by decide) rfl (by decide) (cs_pledge hi hL hk hS kN)
  | 4, _ => exact ev_tableIn 568 dL_law_39 (by decide) (by decide) rfl (by decide) (cs_release hi hL hk hS kN)
  | 5, _ => exact ev_tableIn 648 dL_law_39 (by decide) (by decide) rfl (by decide) (cs_deposit hi hL hk hS kN)
  | 6, _ => exact ev_tableIn 716 dL_law_39 (by decide) (by decide) rfl (by decide) (cs_withdraw hi hL hk hS kN)
  | 7, _ => exact ev_tableIn 784 dL_law_39 (by decide) (by decide) rfl (by decide) (cs_lend hi hL hk hS kN)
  | 8, _ => exact ev_tableIn 852 dL_law_39 (by decide) (by decide) rfl (by decide) (cs_payBack hi hL hk hS kN)
  | 9, _ => exact ev_tableIn 920 dL_law_39 (by decide) (by decide) rfl (by decide) (cs_readmit hi hL hk hS kN)
  | 10, _ => exact ev_tableIn 956 dL_law_39 (by decide) (by decide) rfl (by decide) (cs_pass hi hL hk hS kN)
  | 11, _ => exact ev_tableIn 1012 dL_law_39 (by decide) (by decide) rfl (by decide) (cs_changeRate hi hL hk hS kN)
  | 12, _ => exact ev_tableIn 1068 dL_law_39 (by decide) (by decide) rfl (by decide) (cs_changeGrace hi hL hk hS kN)
  | 13, _ => exact ev_tableIn 1124 dL_law_39 (by decide) (by decide) rfl (by decide) (cs_changeSlip hi hL hk hS kN)
  | 14, _ => exact ev_tableIn 1180 dL_law_39 (by decide) (by decide) rfl (by decide) (cs_turnOrder hi hL hk hS kN)
  | 15, _ => exact ev_tableIn 1193 dL_law_39 (by decide) (by decide) rfl (by decide) (cs_append hi hL hk hS kN)
  | 16, _ => exact ev_tableIn 1249 dL_law_39 (by decide) (by decide) rfl (by decide) (cs_clearBuffer hi hL hk hS kN)
  | 17, _ => exact ev_tableIn 1262 dL_law_39 (by decide) (by decide) rfl (by decide) (cs_firstError hi hL hk hS kN)
  | 18, _ => exact ev_tableIn 1275 dL_law_39 (by decide) (by decide) rfl (by decide) (cs_follow hi hL hk hS kN)
  | 19, _ => exact ev_tableIn 1319 dL_law_39 (by decide) (by decide) rfl (by decide) (cs_keep hi hL hk hS kN)
  | 20, _ => exact ev_tableIn 1355 dL_law_39 (by decide) (by decide) rfl (by decide) (cs_goBack hi hL hk hS kN)
  | 21, _ => exact ev_tableIn 1391 dL_law_39 (by decide) (by decide) rfl (by decide) (cs_undo hi hL hk hS kN)
  | 22, _ => exact ev_tableIn 1415 dL_law_39 (by decide) (by decide) rfl (by decide) (cs_savedStates hi hL hk hS kN)
  | 23, _ => exact ev_tableIn 1428 dL_law_39 (by decide) (by decide) rfl (by decide) (cs_priceOf hi hL hk hS kN)
  | 24, _ => exact ev_tableIn 1484 dL_law_39 (by decide) (by decide) rfl (by decide) (cs_cutOf hi hL hk hS kN)
  | 25, _ => exact ev_tableIn 1540 dL_law_39 (by decide) (by decide) rfl (by decide) (cs_pledgedOf hi hL hk hS kN)
  | 26, _ => exact ev_tableIn 1596 dL_law_39 (by decide) (by decide) rfl (by decide) (cs_soldOf hi hL hk hS kN)
  | 27, _ => exact ev_tableIn 1652 dL_law_39 (by decide) (by decide) rfl (by decide) (cs_piecesOf hi hL hk hS kN)
  | 28, _ => exact ev_tableIn 1720 dL_law_39 (by decide) (by decide) rfl (by decide) (cs_coinsOf hi hL hk hS kN)
  | 29, _ => exact ev_tableIn 1776 dL_law_39 (by decide) (by decide) rfl (by decide) (cs_debtOf hi hL hk hS kN)
  | 30, _ => exact ev_tableIn 1832 dL_law_39 (by decide) (by decide) rfl (by decide) (cs_worthOf hi hL hk hS kN)
  | 31, _ => exact ev_tableIn 1888 dL_law_39 (by decide) (by decide) rfl (by decide) (cs_coverOf hi hL hk hS kN)
  | 32, _ => exact ev_tableIn 1944 dL_law_39 (by decide) (by decide) rfl (by decide) (cs_roomOf hi hL hk hS kN)
  | 33, _ => exact ev_tableIn 2000 dL_law_39 (by decide) (by decide) rfl (by decide) (cs_isCalled hi hL hk hS kN)
  | 34, _ => exact ev_tableIn 2063 dL_law_39 (by decide) (by decide) rfl (by decide) (cs_hoursLeft hi hL hk hS kN)
  | 35, _ => exact ev_tableIn 2119 dL_law_39 (by decide) (by decide) rfl (by decide) (cs_isBarred hi hL hk hS kN)
  | 36, _ => exact ev_tableIn 2182 dL_law_39 (by decide) (by decide) rfl (by decide) (cs_rankOf hi hL hk hS kN)
  | 37, _ => exact ev_tableIn 2238 dL_law_39 (by decide) (by decide) rfl (by decide) (cs_riskyBySorting hi hL hk hS kN)
  | 38, _ => exact ev_tableIn 2294 dL_law_39 (by decide) (by decide) rfl (by decide) (cs_riskyByTaking hi hL hk hS kN)
  | 39, _ => exact ev_tableIn 2350 dL_law_39 (by decide) (by decide) rfl (by decide) (cs_calledNow hi hL hk hS kN)
  | 40, _ => exact ev_tableIn 2363 dL_law_39 (by decide) (by decide) rfl (by decide) (cs_rate hi hL hk hS kN)
  | 41, _ => exact ev_tableIn 2376 dL_law_39 (by decide) (by decide) rfl (by decide) (cs_grace hi hL hk hS kN)
  | 42, _ => exact ev_tableIn 2389 dL_law_39 (by decide) (by decide) rfl (by decide) (cs_slip hi hL hk hS kN)
  | 43, _ => exact ev_tableIn 2402 dL_law_39 (by decide) (by decide) rfl (by decide) (cs_order hi hL hk hS kN)
  | 44, _ => exact ev_tableIn 2415 dL_law_39 (by decide) (by decide) rfl (by decide) (cs_fallToCallByTrying hi hL hk hS kN)
  | 45, _ => exact ev_tableIn 2471 dL_law_39 (by decide) (by decide) rfl (by decide) (cs_fallToCallByHalving hi hL hk hS kN)
  | 46, _ => exact ev_tableIn 2527 dL_law_39 (by decide) (by decide) rfl (by decide) (cs_hoursToCall hi hL hk hS kN)
  | 47, _ => exact ev_tableIn 2583 dL_law_39 (by decide) (by decide) rfl (by decide) (cs_wouldSell hi hL hk hS kN)
  | 48, _ => exact ev_tableIn 2639 dL_law_39 (by decide) (by decide) rfl (by decide) (cs_wouldLose hi hL hk hS kN)
  | 49, _ => exact ev_tableIn 2695 dL_law_39 (by decide) (by decide) rfl (by decide) (cs_calledIfFallen hi hL hk hS kN)
  | 50, _ => exact ev_tableIn 2751 dL_law_39 (by decide) (by decide) rfl (by decide) (cs_hours hi hL hk hS kN)
  | 51, _ => exact ev_tableIn 2764 dL_law_39 (by decide) (by decide) rfl (by decide) (cs_debtsByClients hi hL hk hS kN)
  | 52, _ => exact ev_tableIn 2777 dL_law_39 (by decide) (by decide) rfl (by decide) (cs_debtsByAccount hi hL hk hS kN)
  | 53, _ => exact ev_tableIn 2790 dL_law_39 (by decide) (by decide) rfl (by decide) (cs_lent hi hL hk hS kN)
  | 54, _ => exact ev_tableIn 2803 dL_law_39 (by decide) (by decide) rfl (by decide) (cs_interest hi hL hk hS kN)
  | 55, _ => exact ev_tableIn 2816 dL_law_39 (by decide) (by decide) rfl (by decide) (cs_repaid hi hL hk hS kN)
  | 56, _ => exact ev_tableIn 2829 dL_law_39 (by decide) (by decide) rfl (by decide) (cs_lost hi hL hk hS kN)
  | 57, _ => exact ev_tableIn 2842 dL_law_39 (by decide) (by decide) rfl (by decide) (cs_calls hi hL hk hS kN)
  | 58, _ => exact ev_tableIn 2855 dL_law_39 (by decide) (by decide) rfl (by decide) (cs_soldOut hi hL hk hS kN)
  | 59, _ => exact ev_tableIn 2868 dL_law_39 (by decide) (by decide) rfl (by decide) (cs_usedShare hi hL hk hS kN)
  | 60, _ => exact ev_tableIn 2909 dL_law_39 (by decide) (by decide) rfl (by decide) (cs_digest hi hL hk hS kN)
  | 61, _ => exact ev_tableOut 2923 dL_law_39 (Or.inr (by decide)) (by decide) (ev_up (by omega) (kN _ hS))
  | 62, _ => exact ev_tableOut 2923 dL_law_39 (Or.inr (by decide)) (by decide) (ev_up (by omega) (kN _ hS))
  | 63, _ => exact ev_tableOut 2923 dL_law_39 (Or.inr (by decide)) (by decide) (ev_up (by omega) (kN _ hS))
  | j + 64, h => exact absurd h (by omega)
/-- a step -/
theorem lw_st (hi : i + 3 < LL) (hL : LL ≤ 2048) (hk : k + 24 ≤ 100000) (hS : SR w) (kN : KN nm HT LL xs i k) : Ev (mLw nm HT LL xs) pT nx k 32 (L0 i) [] w := by
  refine ev_aload_n 0 dL_law_32 rfl rfl ?_
  refine ev_iload dL_law_33 rfl ?_
  refine ev_sld dL_law_35 rfl (vpi (show i < LL by omega) (by omega)) ?_
  rw [cl_nI (show i < LL by omega) (by omega)]
  refine ev_bipush (nI 63) dL_law_36 rfl ?_
  refine ev_iand dL_law_38 ?_
  obtain ⟨j, hj, e⟩ := pk_andE (xs i) (m := nI 63) 6 (by decide)
  rw [e]
  exact lw_sw hi hL hk hS kN j hj
theorem lw_loop (hL : LL ≤ 2048) : ∀ (n i k : Nat) (w : PW), LL < i + 4 * (n + 1) → i ≤ 4000 → k + 24 * n ≤ 100000 → SR w → Ev (mLw nm HT LL xs) pT nx k 23 (L0 i) [] w := by
  intro n
  induction n with
  | zero =>
    intro i k w h1 h2 h3 hS
    refine ev_iload dL_law_23 rfl ?_
    refine ev_aload_n 0 dL_law_25 rfl rfl ?_
    refine ev_slen dL_law_26 rfl ?_
    refine ev_iconst (nI 4) dL_law_27 rfl ?_
    refine ev_isub dL_law_28 ?_
    refine ev_icmp_gt 2929 dL_law_29 (by decide) (fun _ => ?_) (fun h => absurd ?_ h)
    · refine ev_iconst (nI 1) dL_law_2929 rfl ?_
      exact ev_ireturn dL_law_2930 (show k ≤ 100000 by omega) rfl
    · show nI LL - nI 4 < nI i
      rw [Int32.lt_iff_toInt_lt, pk_sub_toInt (by omega) (by omega), nI_toInt (by omega)]
      omega
  | succ n ih =>
    intro i k w h1 h2 h3 hS
    refine ev_iload dL_law_23 rfl ?_
    refine ev_aload_n 0 dL_law_25 rfl rfl ?_
    refine ev_slen dL_law_26 rfl ?_
    refine ev_iconst (nI 4) dL_law_27 rfl ?_
    refine ev_isub dL_law_28 ?_
    refine ev_icmp_gt 2929 dL_law_29 (by decide) (fun _ => ?_) (fun h => ?_)
    · refine ev_iconst (nI 1) dL_law_2929 rfl ?_
      exact ev_ireturn dL_law_2930 (show k ≤ 100000 by omega) rfl
    · have h : ¬ nI LL - nI 4 < nI i := h
      rw [Int32.lt_iff_toInt_lt, pk_sub_toInt (by omega) (by omega), nI_toInt (by omega)] at h
      refine lw_st (by omega) hL (by omega) hS (fun w' hS' => ?_)
      refine ev_iinc (nI (i + 4)) dL_law_2923 rfl (nI_add i 4) (Nat.le_of_ble_eq_true rfl) (L' := L0 (i + 4)) rfl ?_
      exact ev_goto 23 dL_law_2926 (by decide) (ih (i + 4) (k + 24) w' (by omega) (by omega) (by omega) hS')
end LAW
