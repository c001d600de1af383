/-! ===== constructors: the reference, the house ===== -/
def m4 (b : Nat) (F : Nat → Int32) : PW := [.inr (4, [.ref (b + 1), .ref (b + 2), .int (nI 0), .ref (b + 3), .ref (b + 4), .ref (b + 5), .ref (b + 6), .int (nI 0), .int (nI 0), .int (nI 0), .int (nI 0), .long 0]), .inl (0, 109, .inl (tr 109 F)), .inl (0, 654, .inl (tr 654 (fun _ => nI 0))), .inl (0, 218, .inl (tr 218 (fun _ => nI 0))), .inl (1, 2, .inl (tr 2 (fun _ => nI 0))), .inl (0, 109, .inl (tr 109 (fun _ => nI 0))), .inl (0, 60, .inl (tr 60 (fun _ => nI 0)))]
theorem a4_step {n0 : Nat} {X : XT} {k q : Nat} (b i : Nat) (F : Nat → Int32) (hi : i < 6) (hlt : ¬ nI 6 ≤ nI i) (h6 : nI 6 + nI i = nI (6 + i)) (hin : nI i + Int32.ofInt 1 = nI (i + 1)) (kk : EvA iX4 n0 b X k q 55 [(1, .int (nI (i + 1))), (0, .ref b)] [] (m4 b (upd (upd F i (nI 100)) (6 + i) (nI 20)))) : EvA iX4 n0 b X k q 55 [(1, .int (nI i)), (0, .ref b)] [] (m4 b F) := by
  refine ea_iload_n 1 dX4_init_55 rfl rfl ?_
  refine ea_bipush (nI 6) dX4_init_56 rfl ?_
  refine ea_ge_f 86 dX4_init_58 (by decide) hlt ?_
  refine ea_aload_n 0 dX4_init_61 rfl rfl ?_
  refine ea_getfield 0 0 (Nat.zero_add b).symm dX4_init_62 foX4_7 rfl rfl ?_
  refine ea_iload_n 1 dX4_init_65 rfl rfl ?_
  refine ea_bipush (nI 100) dX4_init_66 rfl ?_
  refine ea_iast (w' := m4 b (upd F i (nI 100))) i 1 (Nat.add_comm b 1) dX4_init_68 rfl rfl (by omega) (by decide) rfl ?_
  refine ea_aload_n 0 dX4_init_69 rfl rfl ?_
  refine ea_getfield 0 0 (Nat.zero_add b).symm dX4_init_70 foX4_7 rfl rfl ?_
  refine ea_bipush (nI 6) dX4_init_73 rfl ?_
  refine ea_iload_n 1 dX4_init_75 rfl rfl ?_
  refine ea_iadd dX4_init_76 ?_
  refine ea_bipush (nI 20) dX4_init_77 rfl ?_
  refine ea_iast (w' := m4 b (upd (upd F i (nI 100)) (6 + i) (nI 20))) (6 + i) 1 (Nat.add_comm b 1) dX4_init_79 rfl h6 (by omega) (by decide) rfl ?_
  refine ea_iinc (nI (i + 1)) dX4_init_80 rfl hin (Nat.le_of_ble_eq_true rfl) rfl ?_
  exact ea_goto 55 dX4_init_83 (by decide) kk
theorem aX4_init (b : Nat) (hb : b + 7 ≤ 998) : CtA iX4 b [.inr (4, [.null, .null, .int (nI 0), .null, .null, .null, .null, .int (nI 0), .int (nI 0), .int (nI 0), .int (nI 0), .long 0])] (m4 b σ0) := by
  refine cta_of 112 jX4_init (by decide) ⟨Nat.le_refl _, by show b + 1 ≤ 998; omega, rw_1 _ (noR_of rfl), fun x hx => by rw [List.mem_singleton.mp hx]; exact RfV_ref (Nat.lt_succ_self b), fun _ h => absurd h List.not_mem_nil⟩ dX4_init_112 ?_
  refine ea_aload_n 0 dX4_init_0 rfl rfl ?_
  refine ea_objInit dX4_init_1 g1116 g83 g84 (Nat.le_of_ble_eq_true rfl) (Nat.le_of_ble_eq_true rfl) rfl ?_
  refine ea_aload_n 0 dX4_init_4 rfl rfl ?_
  refine ea_bipush (nI 109) dX4_init_5 rfl ?_
  refine ea_nwI (w' := [.inr (4, [.null, .null, .int (nI 0), .null, .null, .null, .null, .int (nI 0), .int (nI 0), .int (nI 0), .int (nI 0), .long 0]), .inl (0, 109, .inl (tr 109 (fun _ => nI 0)))]) (b + 1) rfl (by omega) dX4_init_7 rfl ⟨(Nat.le_of_ble_eq_true rfl), (Nat.le_of_ble_eq_true rfl)⟩ rfl ?_
  refine ea_putF (w' := [.inr (4, [.ref (b + 1), .null, .int (nI 0), .null, .null, .null, .null, .int (nI 0), .int (nI 0), .int (nI 0), .int (nI 0), .long 0]), .inl (0, 109, .inl (tr 109 (fun _ => nI 0)))]) 0 0 (Nat.zero_add b).symm rfl dX4_init_9 fFX4_7 rfl (Nat.le_of_ble_eq_true rfl) (fun _ => rfl) (fun _ => rfl) rfl ?_
  refine ea_aload_n 0 dX4_init_12 rfl rfl ?_
  refine ea_sipush (nI 654) dX4_init_13 rfl ?_
  refine ea_nwI (w' := [.inr (4, [.ref (b + 1), .null, .int (nI 0), .null, .null, .null, .null, .int (nI 0), .int (nI 0), .int (nI 0), .int (nI 0), .long 0]), .inl (0, 109, .inl (tr 109 (fun _ => nI 0))), .inl (0, 654, .inl (tr 654 (fun _ => nI 0)))]) (b + 2) rfl (by omega) dX4_init_16 rfl ⟨(Nat.le_of_ble_eq_true rfl), (Nat.le_of_ble_eq_true rfl)⟩ rfl ?_
  refine ea_putF (w' := [.inr (4, [.ref (b + 1), .ref (b + 2), .int (nI 0), .null, .null, .null, .null, .int (nI 0), .int (nI 0), .int (nI 0), .int (nI 0), .long 0]), .inl (0, 109, .inl (tr 109 (fun _ => nI 0))), .inl (0, 654, .inl (tr 654 (fun _ => nI 0)))]) 1 0 (Nat.zero_add b).symm rfl dX4_init_18 fFX4_13 rfl (Nat.le_of_ble_eq_true rfl) (fun _ => rfl) (fun _ => rfl) rfl ?_
  refine ea_aload_n 0 dX4_init_21 rfl rfl ?_
  refine ea_sipush (nI 218) dX4_init_22 rfl ?_
  refine ea_nwI (w' := [.inr (4, [.ref (b + 1), .ref (b + 2), .int (nI 0), .null, .null, .null, .null, .int (nI 0), .int (nI 0), .int (nI 0), .int (nI 0), .long 0]), .inl (0, 109, .inl (tr 109 (fun _ => nI 0))), .inl (0, 654, .inl (tr 654 (fun _ => nI 0))), .inl (0, 218, .inl (tr 218 (fun _ => nI 0)))]) (b + 3) rfl (by omega) dX4_init_25 rfl ⟨(Nat.le_of_ble_eq_true rfl), (Nat.le_of_ble_eq_true rfl)⟩ rfl ?_
  refine ea_putF (w' := [.inr (4, [.ref (b + 1), .ref (b + 2), .int (nI 0), .ref (b + 3), .null, .null, .null, .int (nI 0), .int (nI 0), .int (nI 0), .int (nI 0), .long 0]), .inl (0, 109, .inl (tr 109 (fun _ => nI 0))), .inl (0, 654, .inl (tr 654 (fun _ => nI 0))), .inl (0, 218, .inl (tr 218 (fun _ => nI 0)))]) 3 0 (Nat.zero_add b).symm rfl dX4_init_27 fFX4_16 rfl (Nat.le_of_ble_eq_true rfl) (fun _ => rfl) (fun _ => rfl) rfl ?_
  refine ea_aload_n 0 dX4_init_30 rfl rfl ?_
  refine ea_iconst (nI 2) dX4_init_31 rfl ?_
  refine ea_nwZ (w' := [.inr (4, [.ref (b + 1), .ref (b + 2), .int (nI 0), .ref (b + 3), .null, .null, .null, .int (nI 0), .int (nI 0), .int (nI 0), .int (nI 0), .long 0]), .inl (0, 109, .inl (tr 109 (fun _ => nI 0))), .inl (0, 654, .inl (tr 654 (fun _ => nI 0))), .inl (0, 218, .inl (tr 218 (fun _ => nI 0))), .inl (1, 2, .inl (tr 2 (fun _ => nI 0)))]) (b + 4) rfl (by omega) dX4_init_32 rfl ⟨(Nat.le_of_ble_eq_true rfl), (Nat.le_of_ble_eq_true rfl)⟩ rfl ?_
  refine ea_putF (w' := [.inr (4, [.ref (b + 1), .ref (b + 2), .int (nI 0), .ref (b + 3), .ref (b + 4), .null, .null, .int (nI 0), .int (nI 0), .int (nI 0), .int (nI 0), .long 0]), .inl (0, 109, .inl (tr 109 (fun _ => nI 0))), .inl (0, 654, .inl (tr 654 (fun _ => nI 0))), .inl (0, 218, .inl (tr 218 (fun _ => nI 0))), .inl (1, 2, .inl (tr 2 (fun _ => nI 0)))]) 4 0 (Nat.zero_add b).symm rfl dX4_init_34 fFX4_19 rfl (Nat.le_of_ble_eq_true rfl) (fun _ => rfl) (fun _ => rfl) rfl ?_
  refine ea_aload_n 0 dX4_init_37 rfl rfl ?_
  refine ea_bipush (nI 109) dX4_init_38 rfl ?_
  refine ea_nwI (w' := [.inr (4, [.ref (b + 1), .ref (b + 2), .int (nI 0), .ref (b + 3), .ref (b + 4), .null, .null, .int (nI 0), .int (nI 0), .int (nI 0), .int (nI 0), .long 0]), .inl (0, 109, .inl (tr 109 (fun _ => nI 0))), .inl (0, 654, .inl (tr 654 (fun _ => nI 0))), .inl (0, 218, .inl (tr 218 (fun _ => nI 0))), .inl (1, 2, .inl (tr 2 (fun _ => nI 0))), .inl (0, 109, .inl (tr 109 (fun _ => nI 0)))]) (b + 5) rfl (by omega) dX4_init_40 rfl ⟨(Nat.le_of_ble_eq_true rfl), (Nat.le_of_ble_eq_true rfl)⟩ rfl ?_
  refine ea_putF (w' := [.inr (4, [.ref (b + 1), .ref (b + 2), .int (nI 0), .ref (b + 3), .ref (b + 4), .ref (b + 5), .null, .int (nI 0), .int (nI 0), .int (nI 0), .int (nI 0), .long 0]), .inl (0, 109, .inl (tr 109 (fun _ => nI 0))), .inl (0, 654, .inl (tr 654 (fun _ => nI 0))), .inl (0, 218, .inl (tr 218 (fun _ => nI 0))), .inl (1, 2, .inl (tr 2 (fun _ => nI 0))), .inl (0, 109, .inl (tr 109 (fun _ => nI 0)))]) 5 0 (Nat.zero_add b).symm rfl dX4_init_42 fFX4_23 rfl (Nat.le_of_ble_eq_true rfl) (fun _ => rfl) (fun _ => rfl) rfl ?_
  refine ea_aload_n 0 dX4_init_45 rfl rfl ?_
  refine ea_bipush (nI 60) dX4_init_46 rfl ?_
  refine ea_nwI (w' := [.inr (4, [.ref (b + 1), .ref (b + 2), .int (nI 0), .ref (b + 3), .ref (b + 4), .ref (b + 5), .null, .int (nI 0), .int (nI 0), .int (nI 0), .int (nI 0), .long 0]), .inl (0, 109, .inl (tr 109 (fun _ => nI 0))), .inl (0, 654, .inl (tr 654 (fun _ => nI 0))), .inl (0, 218, .inl (tr 218 (fun _ => nI 0))), .inl (1, 2, .inl (tr 2 (fun _ => nI 0))), .inl (0, 109, .inl (tr 109 (fun _ => nI 0))), .inl (0, 60, .inl (tr 60 (fun _ => nI 0)))]) (b + 6) rfl (by omega) dX4_init_48 rfl ⟨(Nat.le_of_ble_eq_true rfl), (Nat.le_of_ble_eq_true rfl)⟩ rfl ?_
  refine ea_putF (w' := [.inr (4, [.ref (b + 1), .ref (b + 2), .int (nI 0), .ref (b + 3), .ref (b + 4), .ref (b + 5), .ref (b + 6), .int (nI 0), .int (nI 0), .int (nI 0), .int (nI 0), .long 0]), .inl (0, 109, .inl (tr 109 (fun _ => nI 0))), .inl (0, 654, .inl (tr 654 (fun _ => nI 0))), .inl (0, 218, .inl (tr 218 (fun _ => nI 0))), .inl (1, 2, .inl (tr 2 (fun _ => nI 0))), .inl (0, 109, .inl (tr 109 (fun _ => nI 0))), .inl (0, 60, .inl (tr 60 (fun _ => nI 0)))]) 6 0 (Nat.zero_add b).symm rfl dX4_init_50 fFX4_26 rfl (Nat.le_of_ble_eq_true rfl) (fun _ => rfl) (fun _ => rfl) rfl ?_
  refine ea_iconst (nI 0) dX4_init_53 rfl ?_
  refine ea_istore_n 1 dX4_init_54 rfl (Nat.le_of_ble_eq_true rfl) (L' := [(1, .int (nI 0)), (0, .ref b)]) rfl ?_
  refine ea_w (w' := m4 b (fun _ => nI 0)) rfl ?_
  refine a4_step b 0 _ (by decide) (by decide +kernel) (by decide +kernel) (by decide +kernel) ?_
  refine a4_step b 1 _ (by decide) (by decide +kernel) (by decide +kernel) (by decide +kernel) ?_
  refine a4_step b 2 _ (by decide) (by decide +kernel) (by decide +kernel) (by decide +kernel) ?_
  refine a4_step b 3 _ (by decide) (by decide +kernel) (by decide +kernel) (by decide +kernel) ?_
  refine a4_step b 4 _ (by decide) (by decide +kernel) (by decide +kernel) (by decide +kernel) ?_
  refine a4_step b 5 _ (by decide) (by decide +kernel) (by decide +kernel) (by decide +kernel) ?_
  refine ea_iload_n 1 dX4_init_55 rfl rfl ?_
  refine ea_bipush (nI 6) dX4_init_56 rfl ?_
  refine ea_ge_t 86 dX4_init_58 (by decide) (by decide +kernel) ?_
  generalize hF : upd (upd (upd (upd (upd (upd (upd (upd (upd (upd (upd (upd (fun _ => nI 0) 0 (nI 100)) (6 + 0) (nI 20)) 1 (nI 100)) (6 + 1) (nI 20)) 2 (nI 100)) (6 + 2) (nI 20)) 3 (nI 100)) (6 + 3) (nI 20)) 4 (nI 100)) (6 + 4) (nI 20)) 5 (nI 100)) (6 + 5) (nI 20) = F
  refine ea_aload_n 0 dX4_init_86 rfl rfl ?_
  refine ea_getfield 0 0 (Nat.zero_add b).symm dX4_init_87 foX4_7 rfl rfl ?_
  refine ea_bipush (nI 98) dX4_init_90 rfl ?_
  refine ea_bipush (nI 10) dX4_init_92 rfl ?_
  refine ea_iast (w' := m4 b (upd F 98 (nI 10))) 98 1 (Nat.add_comm b 1) dX4_init_94 rfl rfl (by decide) (by decide) rfl ?_
  refine ea_aload_n 0 dX4_init_95 rfl rfl ?_
  refine ea_getfield 0 0 (Nat.zero_add b).symm dX4_init_96 foX4_7 rfl rfl ?_
  refine ea_bipush (nI 99) dX4_init_99 rfl ?_
  refine ea_bipush (nI 6) dX4_init_101 rfl ?_
  refine ea_iast (w' := m4 b (upd (upd F 98 (nI 10)) 99 (nI 6))) 99 1 (Nat.add_comm b 1) dX4_init_103 rfl rfl (by decide) (by decide) rfl ?_
  refine ea_aload_n 0 dX4_init_104 rfl rfl ?_
  refine ea_getfield 0 0 (Nat.zero_add b).symm dX4_init_105 foX4_7 rfl rfl ?_
  refine ea_bipush (nI 100) dX4_init_108 rfl ?_
  refine ea_iconst (nI 5) dX4_init_110 rfl ?_
  refine ea_iast (w' := m4 b (upd (upd (upd F 98 (nI 10)) 99 (nI 6)) 100 (nI 5))) 100 1 (Nat.add_comm b 1) dX4_init_111 rfl rfl (by decide) (by decide) rfl ?_
  refine ea_w (w' := m4 b σ0) ?_ (ea_exit0 (Nat.le_of_ble_eq_true rfl) (Nat.le_of_ble_eq_true rfl))
  have e : tr 109 (upd (upd (upd F 98 (nI 10)) 99 (nI 6)) 100 (nI 5)) = tr 109 σ0 := tr_ext (by rw [← hF]; decide +kernel)
  unfold m4
  rw [e]
def ldg : List Nat → PW → PW
  | [], g => g
  | b :: bs, g => ledC b σ0 (ldg bs g)
abbrev q0 : Nat → Option Nat := fun _ => none
def h3 (fs : List Value) (f7 f9 : Nat → Option Nat) (g : PW) : PW := .inr (3, fs) :: .inr (1, [.ref 2, .int (nI 0), .int (nI 0), .int (nI 0), .int (nI 0), .int (nI 0), .int (nI 0), .int (nI 0)]) :: .inl (0, 60, .inl (tr 60 (fun _ => nI 0))) :: .inr (2, [.ref 4, .ref 5, .int (nI 0), .int (nI 0), .int (nI 0), .int (nI 0), .int (nI 0), .int (nI 0)]) :: .inl (0, 6, .inl (tr 6 (fun _ => nI 0))) :: .inl (0, 6, .inl (tr 6 (fun _ => nI 0))) :: .inl (0, 8, .inl (tr 8 (fun _ => nI 0))) :: .inl (3, 2, .inr (.inr (.inr (.inr f7)))) :: .inl (1, 2, .inl (tr 2 (fun _ => nI 0))) :: .inl (3, 6, .inr (.inr (.inr (.inr f9)))) :: g
abbrev l0 : va_E := .inr (0, [.null, .null, .null, .null, .null, .null, .null, .null, .int (nI 0), .int (nI 0), .int (nI 0), .int (nI 0), .int (nI 0), .int (nI 0), .int (nI 0), .int (nI 0), .int (nI 0), .int (nI 0), .int (nI 0)])
theorem aX3_init : CtA iX3 0 [.inr (3, [.null, .null, .null, .null, .null, .null, .int (nI 0), .null, .null])] (h3 [.ref 1, .ref 3, .ref 6, .ref 7, .ref 8, .ref 9, .int (nI 0), .ref 10, .ref 19] (va_up (va_up q0 0 (some 28)) 1 (some 37)) (va_up (va_up (va_up (va_up (va_up (va_up q0 0 (some 46)) 1 (some 55)) 2 (some 64)) 3 (some 73)) 4 (some 82)) 5 (some 91)) (ldg [10, 19, 28, 37, 46, 55, 64, 73, 82, 91] [])) := by
  refine cta_of 133 jX3_init (by decide) ⟨Nat.le_refl _, by show 0 + 1 ≤ 998; omega, rw_1 _ (noR_of rfl), fun x hx => by rw [List.mem_singleton.mp hx]; exact RfV_ref (Nat.lt_succ_self 0), fun _ h => absurd h List.not_mem_nil⟩ dX3_init_133 ?_
  refine ea_aload_n 0 dX3_init_0 rfl rfl ?_
  refine ea_objInit dX3_init_1 g82 g83 g84 (Nat.le_of_ble_eq_true rfl) (Nat.le_of_ble_eq_true rfl) rfl ?_
  refine ea_aload_n 0 dX3_init_4 rfl rfl ?_
  refine ea_nw (w' := [.inr (3, [.null, .null, .null, .null, .null, .null, .int (nI 0), .null, .null]), .inr (1, [.null, .int (nI 0), .int (nI 0), .int (nI 0), .int (nI 0), .int (nI 0), .int (nI 0), .int (nI 0)])]) [.null, .int (nI 0), .int (nI 0), .int (nI 0), .int (nI 0), .int (nI 0), .int (nI 0), .int (nI 0)] 1 rfl (by decide) dX3_init_5 cf1 g85 g86 g61 (by decide +kernel) rfl ⟨(Nat.le_of_ble_eq_true rfl), (Nat.le_of_ble_eq_true rfl)⟩ rfl ?_
  refine ea_dup dX3_init_8 rfl ?_
  refine ea_initN (w0 := [.inr (3, [.null, .null, .null, .null, .null, .null, .int (nI 0), .null, .null])]) (w' := [.inr (3, [.null, .null, .null, .null, .null, .null, .int (nI 0), .null, .null]), .inr (1, [.ref 2, .int (nI 0), .int (nI 0), .int (nI 0), .int (nI 0), .int (nI 0), .int (nI 0), .int (nI 0)]), .inl (0, 60, .inl (tr 60 (fun _ => nI 0)))]) (host := RX3) rfl (aX1_init 1 (by decide)) jX1_init (fun as A U H hG => hG.1.2.2.2.2) ⟨(Nat.le_of_ble_eq_true rfl), (Nat.le_of_ble_eq_true rfl)⟩ ⟨(Nat.le_of_ble_eq_true rfl), (Nat.le_of_ble_eq_true rfl)⟩ rfl (by decide) (by decide) rfl rfl dX3_init_9 ?_
  refine ea_putF (w' := [.inr (3, [.ref 1, .null, .null, .null, .null, .null, .int (nI 0), .null, .null]), .inr (1, [.ref 2, .int (nI 0), .int (nI 0), .int (nI 0), .int (nI 0), .int (nI 0), .int (nI 0), .int (nI 0)]), .inl (0, 60, .inl (tr 60 (fun _ => nI 0)))]) 0 0 rfl rfl dX3_init_12 fFX3_10 rfl (Nat.le_of_ble_eq_true rfl) (fun _ => rfl) (fun _ => rfl) rfl ?_
  refine ea_aload_n 0 dX3_init_15 rfl rfl ?_
  refine ea_nw (w' := [.inr (3, [.ref 1, .null, .null, .null, .null, .null, .int (nI 0), .null, .null]), .inr (1, [.ref 2, .int (nI 0), .int (nI 0), .int (nI 0), .int (nI 0), .int (nI 0), .int (nI 0), .int (nI 0)]), .inl (0, 60, .inl (tr 60 (fun _ => nI 0))), .inr (2, [.null, .null, .int (nI 0), .int (nI 0), .int (nI 0), .int (nI 0), .int (nI 0), .int (nI 0)])]) [.null, .null, .int (nI 0), .int (nI 0), .int (nI 0), .int (nI 0), .int (nI 0), .int (nI 0)] 3 rfl (by decide) dX3_init_16 cf2 g123 g124 g62 (by decide +kernel) rfl ⟨(Nat.le_of_ble_eq_true rfl), (Nat.le_of_ble_eq_true rfl)⟩ rfl ?_
  refine ea_dup dX3_init_19 rfl ?_
  refine ea_initN (w0 := [.inr (3, [.ref 1, .null, .null, .null, .null, .null, .int (nI 0), .null, .null]), .inr (1, [.ref 2, .int (nI 0), .int (nI 0), .int (nI 0), .int (nI 0), .int (nI 0), .int (nI 0), .int (nI 0)]), .inl (0, 60, .inl (tr 60 (fun _ => nI 0)))]) (w' := [.inr (3, [.ref 1, .null, .null, .null, .null, .null, .int (nI 0), .null, .null]), .inr (1, [.ref 2, .int (nI 0), .int (nI 0), .int (nI 0), .int (nI 0), .int (nI 0), .int (nI 0), .int (nI 0)]), .inl (0, 60, .inl (tr 60 (fun _ => nI 0))), .inr (2, [.ref 4, .ref 5, .int (nI 0), .int (nI 0), .int (nI 0), .int (nI 0), .int (nI 0), .int (nI 0)]), .inl (0, 6, .inl (tr 6 (fun _ => nI 0))), .inl (0, 6, .inl (tr 6 (fun _ => nI 0)))]) (host := RX3) rfl (aX2_init 3 (by decide)) jX2_init (fun as A U H hG => hG.1.2.2.2.1) ⟨(Nat.le_of_ble_eq_true rfl), (Nat.le_of_ble_eq_true rfl)⟩ ⟨(Nat.le_of_ble_eq_true rfl), (Nat.le_of_ble_eq_true rfl)⟩ rfl (by decide) (by decide) rfl rfl dX3_init_20 ?_
  refine ea_putF (w' := [.inr (3, [.ref 1, .ref 3, .null, .null, .null, .null, .int (nI 0), .null, .null]), .inr (1, [.ref 2, .int (nI 0), .int (nI 0), .int (nI 0), .int (nI 0), .int (nI 0), .int (nI 0), .int (nI 0)]), .inl (0, 60, .inl (tr 60 (fun _ => nI 0))), .inr (2, [.ref 4, .ref 5, .int (nI 0), .int (nI 0), .int (nI 0), .int (nI 0), .int (nI 0), .int (nI 0)]), .inl (0, 6, .inl (tr 6 (fun _ => nI 0))), .inl (0, 6, .inl (tr 6 (fun _ => nI 0)))]) 1 0 rfl rfl dX3_init_23 fFX3_19 rfl (Nat.le_of_ble_eq_true rfl) (fun _ => rfl) (fun _ => rfl) rfl ?_
  refine ea_aload_n 0 dX3_init_26 rfl rfl ?_
  refine ea_bipush (nI 8) dX3_init_27 rfl ?_
  refine ea_nwI (w' := [.inr (3, [.ref 1, .ref 3, .null, .null, .null, .null, .int (nI 0), .null, .null]), .inr (1, [.ref 2, .int (nI 0), .int (nI 0), .int (nI 0), .int (nI 0), .int (nI 0), .int (nI 0), .int (nI 0)]), .inl (0, 60, .inl (tr 60 (fun _ => nI 0))), .inr (2, [.ref 4, .ref 5, .int (nI 0), .int (nI 0), .int (nI 0), .int (nI 0), .int (nI 0), .int (nI 0)]), .inl (0, 6, .inl (tr 6 (fun _ => nI 0))), .inl (0, 6, .inl (tr 6 (fun _ => nI 0))), .inl (0, 8, .inl (tr 8 (fun _ => nI 0)))]) 6 rfl (by decide) dX3_init_29 rfl ⟨(Nat.le_of_ble_eq_true rfl), (Nat.le_of_ble_eq_true rfl)⟩ rfl ?_
  refine ea_putF (w' := [.inr (3, [.ref 1, .ref 3, .ref 6, .null, .null, .null, .int (nI 0), .null, .null]), .inr (1, [.ref 2, .int (nI 0), .int (nI 0), .int (nI 0), .int (nI 0), .int (nI 0), .int (nI 0), .int (nI 0)]), .inl (0, 60, .inl (tr 60 (fun _ => nI 0))), .inr (2, [.ref 4, .ref 5, .int (nI 0), .int (nI 0), .int (nI 0), .int (nI 0), .int (nI 0), .int (nI 0)]), .inl (0, 6, .inl (tr 6 (fun _ => nI 0))), .inl (0, 6, .inl (tr 6 (fun _ => nI 0))), .inl (0, 8, .inl (tr 8 (fun _ => nI 0)))]) 2 0 rfl rfl dX3_init_31 fFX3_23 rfl (Nat.le_of_ble_eq_true rfl) (fun _ => rfl) (fun _ => rfl) rfl ?_
  refine ea_aload_n 0 dX3_init_34 rfl rfl ?_
  refine ea_iconst (nI 2) dX3_init_35 rfl ?_
  refine ea_nwQ (w' := [.inr (3, [.ref 1, .ref 3, .ref 6, .null, .null, .null, .int (nI 0), .null, .null]), .inr (1, [.ref 2, .int (nI 0), .int (nI 0), .int (nI 0), .int (nI 0), .int (nI 0), .int (nI 0), .int (nI 0)]), .inl (0, 60, .inl (tr 60 (fun _ => nI 0))), .inr (2, [.ref 4, .ref 5, .int (nI 0), .int (nI 0), .int (nI 0), .int (nI 0), .int (nI 0), .int (nI 0)]), .inl (0, 6, .inl (tr 6 (fun _ => nI 0))), .inl (0, 6, .inl (tr 6 (fun _ => nI 0))), .inl (0, 8, .inl (tr 8 (fun _ => nI 0))), .inl (3, 2, .inr (.inr (.inr (.inr (q0)))))]) 7 rfl (by decide) dX3_init_36 g161 rfl ⟨(Nat.le_of_ble_eq_true rfl), (Nat.le_of_ble_eq_true rfl)⟩ rfl ?_
  refine ea_putF (w' := [.inr (3, [.ref 1, .ref 3, .ref 6, .ref 7, .null, .null, .int (nI 0), .null, .null]), .inr (1, [.ref 2, .int (nI 0), .int (nI 0), .int (nI 0), .int (nI 0), .int (nI 0), .int (nI 0), .int (nI 0)]), .inl (0, 60, .inl (tr 60 (fun _ => nI 0))), .inr (2, [.ref 4, .ref 5, .int (nI 0), .int (nI 0), .int (nI 0), .int (nI 0), .int (nI 0), .int (nI 0)]), .inl (0, 6, .inl (tr 6 (fun _ => nI 0))), .inl (0, 6, .inl (tr 6 (fun _ => nI 0))), .inl (0, 8, .inl (tr 8 (fun _ => nI 0))), .inl (3, 2, .inr (.inr (.inr (.inr (q0)))))]) 3 0 rfl rfl dX3_init_39 fFX3_29 rfl (Nat.le_of_ble_eq_true rfl) (fun _ => rfl) (fun _ => rfl) rfl ?_
  refine ea_aload_n 0 dX3_init_42 rfl rfl ?_
  refine ea_iconst (nI 2) dX3_init_43 rfl ?_
  refine ea_nwZ (w' := [.inr (3, [.ref 1, .ref 3, .ref 6, .ref 7, .null, .null, .int (nI 0), .null, .null]), .inr (1, [.ref 2, .int (nI 0), .int (nI 0), .int (nI 0), .int (nI 0), .int (nI 0), .int (nI 0), .int (nI 0)]), .inl (0, 60, .inl (tr 60 (fun _ => nI 0))), .inr (2, [.ref 4, .ref 5, .int (nI 0), .int (nI 0), .int (nI 0), .int (nI 0), .int (nI 0), .int (nI 0)]), .inl (0, 6, .inl (tr 6 (fun _ => nI 0))), .inl (0, 6, .inl (tr 6 (fun _ => nI 0))), .inl (0, 8, .inl (tr 8 (fun _ => nI 0))), .inl (3, 2, .inr (.inr (.inr (.inr (q0))))), .inl (1, 2, .inl (tr 2 (fun _ => nI 0)))]) 8 rfl (by decide) dX3_init_44 rfl ⟨(Nat.le_of_ble_eq_true rfl), (Nat.le_of_ble_eq_true rfl)⟩ rfl ?_
  refine ea_putF (w' := [.inr (3, [.ref 1, .ref 3, .ref 6, .ref 7, .ref 8, .null, .int (nI 0), .null, .null]), .inr (1, [.ref 2, .int (nI 0), .int (nI 0), .int (nI 0), .int (nI 0), .int (nI 0), .int (nI 0), .int (nI 0)]), .inl (0, 60, .inl (tr 60 (fun _ => nI 0))), .inr (2, [.ref 4, .ref 5, .int (nI 0), .int (nI 0), .int (nI 0), .int (nI 0), .int (nI 0), .int (nI 0)]), .inl (0, 6, .inl (tr 6 (fun _ => nI 0))), .inl (0, 6, .inl (tr 6 (fun _ => nI 0))), .inl (0, 8, .inl (tr 8 (fun _ => nI 0))), .inl (3, 2, .inr (.inr (.inr (.inr (q0))))), .inl (1, 2, .inl (tr 2 (fun _ => nI 0)))]) 4 0 rfl rfl dX3_init_46 fFX3_33 rfl (Nat.le_of_ble_eq_true rfl) (fun _ => rfl) (fun _ => rfl) rfl ?_
  refine ea_aload_n 0 dX3_init_49 rfl rfl ?_
  refine ea_bipush (nI 6) dX3_init_50 rfl ?_
  refine ea_nwQ (w' := [.inr (3, [.ref 1, .ref 3, .ref 6, .ref 7, .ref 8, .null, .int (nI 0), .null, .null]), .inr (1, [.ref 2, .int (nI 0), .int (nI 0), .int (nI 0), .int (nI 0), .int (nI 0), .int (nI 0), .int (nI 0)]), .inl (0, 60, .inl (tr 60 (fun _ => nI 0))), .inr (2, [.ref 4, .ref 5, .int (nI 0), .int (nI 0), .int (nI 0), .int (nI 0), .int (nI 0), .int (nI 0)]), .inl (0, 6, .inl (tr 6 (fun _ => nI 0))), .inl (0, 6, .inl (tr 6 (fun _ => nI 0))), .inl (0, 8, .inl (tr 8 (fun _ => nI 0))), .inl (3, 2, .inr (.inr (.inr (.inr (q0))))), .inl (1, 2, .inl (tr 2 (fun _ => nI 0))), .inl (3, 6, .inr (.inr (.inr (.inr (q0)))))]) 9 rfl (by decide) dX3_init_52 g161 rfl ⟨(Nat.le_of_ble_eq_true rfl), (Nat.le_of_ble_eq_true rfl)⟩ rfl ?_
  refine ea_putF (w' := [.inr (3, [.ref 1, .ref 3, .ref 6, .ref 7, .ref 8, .ref 9, .int (nI 0), .null, .null]), .inr (1, [.ref 2, .int (nI 0), .int (nI 0), .int (nI 0), .int (nI 0), .int (nI 0), .int (nI 0), .int (nI 0)]), .inl (0, 60, .inl (tr 60 (fun _ => nI 0))), .inr (2, [.ref 4, .ref 5, .int (nI 0), .int (nI 0), .int (nI 0), .int (nI 0), .int (nI 0), .int (nI 0)]), .inl (0, 6, .inl (tr 6 (fun _ => nI 0))), .inl (0, 6, .inl (tr 6 (fun _ => nI 0))), .inl (0, 8, .inl (tr 8 (fun _ => nI 0))), .inl (3, 2, .inr (.inr (.inr (.inr (q0))))), .inl (1, 2, .inl (tr 2 (fun _ => nI 0))), .inl (3, 6, .inr (.inr (.inr (.inr (q0)))))]) 5 0 rfl rfl dX3_init_55 fFX3_37 rfl (Nat.le_of_ble_eq_true rfl) (fun _ => rfl) (fun _ => rfl) rfl ?_
  refine ea_w (w' := h3 [.ref 1, .ref 3, .ref 6, .ref 7, .ref 8, .ref 9, .int (nI 0), .null, .null] q0 q0 (ldg [] [])) rfl ?_
  refine ea_aload_n 0 dX3_init_58 rfl rfl ?_
  refine ea_nw (w' := (h3 [.ref 1, .ref 3, .ref 6, .ref 7, .ref 8, .ref 9, .int (nI 0), .null, .null] q0 q0 (ldg [] [l0]))) [.null, .null, .null, .null, .null, .null, .null, .null, .int (nI 0), .int (nI 0), .int (nI 0), .int (nI 0), .int (nI 0), .int (nI 0), .int (nI 0), .int (nI 0), .int (nI 0), .int (nI 0), .int (nI 0)] 10 rfl (by decide) dX3_init_59 cf0 g161 g163 g63 (by decide +kernel) rfl ⟨(Nat.le_of_ble_eq_true rfl), (Nat.le_of_ble_eq_true rfl)⟩ rfl ?_
  refine ea_dup dX3_init_62 rfl ?_
  refine ea_init (w0 := (h3 [.ref 1, .ref 3, .ref 6, .ref 7, .ref 8, .ref 9, .int (nI 0), .null, .null] q0 q0 (ldg [] []))) (w' := (h3 [.ref 1, .ref 3, .ref 6, .ref 7, .ref 8, .ref 9, .int (nI 0), .null, .null] q0 q0 (ldg [10] []))) rfl (aX0_init 10 (by decide)) jX0_init g164 ⟨(Nat.le_of_ble_eq_true rfl), (Nat.le_of_ble_eq_true rfl)⟩ ⟨(Nat.le_of_ble_eq_true rfl), (Nat.le_of_ble_eq_true rfl)⟩ rfl (by decide) (by decide) rfl rfl dX3_init_63 ?_
  refine ea_putfield (w' := (h3 [.ref 1, .ref 3, .ref 6, .ref 7, .ref 8, .ref 9, .int (nI 0), .ref 10, .null] q0 q0 (ldg [10] []))) 7 0 rfl dX3_init_66 fpX3_41 rfl (Nat.le_of_ble_eq_true rfl) (fun _ => rfl) (fun _ => rfl) rfl ?_
  refine ea_aload_n 0 dX3_init_69 rfl rfl ?_
  refine ea_nw (w' := (h3 [.ref 1, .ref 3, .ref 6, .ref 7, .ref 8, .ref 9, .int (nI 0), .ref 10, .null] q0 q0 (ldg [10] [l0]))) [.null, .null, .null, .null, .null, .null, .null, .null, .int (nI 0), .int (nI 0), .int (nI 0), .int (nI 0), .int (nI 0), .int (nI 0), .int (nI 0), .int (nI 0), .int (nI 0), .int (nI 0), .int (nI 0)] 19 rfl (by decide) dX3_init_70 cf0 g161 g163 g63 (by decide +kernel) rfl ⟨(Nat.le_of_ble_eq_true rfl), (Nat.le_of_ble_eq_true rfl)⟩ rfl ?_
  refine ea_dup dX3_init_73 rfl ?_
  refine ea_init (w0 := (h3 [.ref 1, .ref 3, .ref 6, .ref 7, .ref 8, .ref 9, .int (nI 0), .ref 10, .null] q0 q0 (ldg [10] []))) (w' := (h3 [.ref 1, .ref 3, .ref 6, .ref 7, .ref 8, .ref 9, .int (nI 0), .ref 10, .null] q0 q0 (ldg [10, 19] []))) rfl (aX0_init 19 (by decide)) jX0_init g164 ⟨(Nat.le_of_ble_eq_true rfl), (Nat.le_of_ble_eq_true rfl)⟩ ⟨(Nat.le_of_ble_eq_true rfl), (Nat.le_of_ble_eq_true rfl)⟩ rfl (by decide) (by decide) rfl rfl dX3_init_74 ?_
  refine ea_putfield (w' := (h3 [.ref 1, .ref 3, .ref 6, .ref 7, .ref 8, .ref 9, .int (nI 0), .ref 10, .ref 19] q0 q0 (ldg [10, 19] []))) 8 0 rfl dX3_init_77 fpX3_45 rfl (Nat.le_of_ble_eq_true rfl) (fun _ => rfl) (fun _ => rfl) rfl ?_
  refine ea_iconst (nI 0) dX3_init_80 rfl ?_
  refine ea_istore_n 1 dX3_init_81 rfl (Nat.le_of_ble_eq_true rfl) (L' := [(1, .int (nI 0)), (0, .ref 0)]) rfl ?_
  refine ea_iload_n 1 dX3_init_82 rfl rfl ?_
  refine ea_iconst (nI 2) dX3_init_83 rfl ?_
  refine ea_ge_f 106 dX3_init_84 (by decide) (by decide +kernel) ?_
  refine ea_aload_n 0 dX3_init_87 rfl rfl ?_
  refine ea_getfield 3 0 rfl dX3_init_88 foX3_29 rfl rfl ?_
  refine ea_iload_n 1 dX3_init_91 rfl rfl ?_
  refine ea_nw (w' := (h3 [.ref 1, .ref 3, .ref 6, .ref 7, .ref 8, .ref 9, .int (nI 0), .ref 10, .ref 19] q0 q0 (ldg [10, 19] [l0]))) [.null, .null, .null, .null, .null, .null, .null, .null, .int (nI 0), .int (nI 0), .int (nI 0), .int (nI 0), .int (nI 0), .int (nI 0), .int (nI 0), .int (nI 0), .int (nI 0), .int (nI 0), .int (nI 0)] 28 rfl (by decide) dX3_init_92 cf0 g161 g163 g63 (by decide +kernel) rfl ⟨(Nat.le_of_ble_eq_true rfl), (Nat.le_of_ble_eq_true rfl)⟩ rfl ?_
  refine ea_dup dX3_init_95 rfl ?_
  refine ea_init (w0 := (h3 [.ref 1, .ref 3, .ref 6, .ref 7, .ref 8, .ref 9, .int (nI 0), .ref 10, .ref 19] q0 q0 (ldg [10, 19] []))) (w' := (h3 [.ref 1, .ref 3, .ref 6, .ref 7, .ref 8, .ref 9, .int (nI 0), .ref 10, .ref 19] q0 q0 (ldg [10, 19, 28] []))) rfl (aX0_init 28 (by decide)) jX0_init g164 ⟨(Nat.le_of_ble_eq_true rfl), (Nat.le_of_ble_eq_true rfl)⟩ ⟨(Nat.le_of_ble_eq_true rfl), (Nat.le_of_ble_eq_true rfl)⟩ rfl (by decide) (by decide) rfl rfl dX3_init_96 ?_
  refine ea_aast (ci := 0) (w' := (h3 [.ref 1, .ref 3, .ref 6, .ref 7, .ref 8, .ref 9, .int (nI 0), .ref 10, .ref 19] (va_up q0 0 (some 28)) q0 (ldg [10, 19, 28] []))) 0 7 28 rfl rfl dX3_init_99 rfl rfl rfl (by decide) (by decide) rfl ?_
  refine ea_iinc (nI 1) dX3_init_100 rfl (by decide +kernel) (Nat.le_of_ble_eq_true rfl) (L' := [(1, .int (nI 1)), (0, .ref 0)]) rfl ?_
  refine ea_goto 82 dX3_init_103 (by decide) ?_
  refine ea_iload_n 1 dX3_init_82 rfl rfl ?_
  refine ea_iconst (nI 2) dX3_init_83 rfl ?_
  refine ea_ge_f 106 dX3_init_84 (by decide) (by decide +kernel) ?_
  refine ea_aload_n 0 dX3_init_87 rfl rfl ?_
  refine ea_getfield 3 0 rfl dX3_init_88 foX3_29 rfl rfl ?_
  refine ea_iload_n 1 dX3_init_91 rfl rfl ?_
  refine ea_nw (w' := (h3 [.ref 1, .ref 3, .ref 6, .ref 7, .ref 8, .ref 9, .int (nI 0), .ref 10, .ref 19] (va_up q0 0 (some 28)) q0 (ldg [10, 19, 28] [l0]))) [.null, .null, .null, .null, .null, .null, .null, .null, .int (nI 0), .int (nI 0), .int (nI 0), .int (nI 0), .int (nI 0), .int (nI 0), .int (nI 0), .int (nI 0), .int (nI 0), .int (nI 0), .int (nI 0)] 37 rfl (by decide) dX3_init_92 cf0 g161 g163 g63 (by decide +kernel) rfl ⟨(Nat.le_of_ble_eq_true rfl), (Nat.le_of_ble_eq_true rfl)⟩ rfl ?_
  refine ea_dup dX3_init_95 rfl ?_
  refine ea_init (w0 := (h3 [.ref 1, .ref 3, .ref 6, .ref 7, .ref 8, .ref 9, .int (nI 0), .ref 10, .ref 19] (va_up q0 0 (some 28)) q0 (ldg [10, 19, 28] []))) (w' := (h3 [.ref 1, .ref 3, .ref 6, .ref 7, .ref 8, .ref 9, .int (nI 0), .ref 10, .ref 19] (va_up q0 0 (some 28)) q0 (ldg [10, 19, 28, 37] []))) rfl (aX0_init 37 (by decide)) jX0_init g164 ⟨(Nat.le_of_ble_eq_true rfl), (Nat.le_of_ble_eq_true rfl)⟩ ⟨(Nat.le_of_ble_eq_true rfl), (Nat.le_of_ble_eq_true rfl)⟩ rfl (by decide) (by decide) rfl rfl dX3_init_96 ?_
  refine ea_aast (ci := 0) (w' := (h3 [.ref 1, .ref 3, .ref 6, .ref 7, .ref 8, .ref 9, .int (nI 0), .ref 10, .ref 19] (va_up (va_up q0 0 (some 28)) 1 (some 37)) q0 (ldg [10, 19, 28, 37] []))) 1 7 37 rfl rfl dX3_init_99 rfl rfl rfl (by decide) (by decide) rfl ?_
  refine ea_iinc (nI 2) dX3_init_100 rfl (by decide +kernel) (Nat.le_of_ble_eq_true rfl) (L' := [(1, .int (nI 2)), (0, .ref 0)]) rfl ?_
  refine ea_goto 82 dX3_init_103 (by decide) ?_
  refine ea_iload_n 1 dX3_init_82 rfl rfl ?_
  refine ea_iconst (nI 2) dX3_init_83 rfl ?_
  refine ea_ge_t 106 dX3_init_84 (by decide) (by decide +kernel) ?_
  refine ea_iconst (nI 0) dX3_init_106 rfl ?_
  refine ea_istore_n 1 dX3_init_107 rfl (Nat.le_of_ble_eq_true rfl) (L' := [(1, .int (nI 0)), (0, .ref 0)]) rfl ?_
  refine ea_iload_n 1 dX3_init_108 rfl rfl ?_
  refine ea_bipush (nI 6) dX3_init_109 rfl ?_
  refine ea_ge_f 133 dX3_init_111 (by decide) (by decide +kernel) ?_
  refine ea_aload_n 0 dX3_init_114 rfl rfl ?_
  refine ea_getfield 5 0 rfl dX3_init_115 foX3_37 rfl rfl ?_
  refine ea_iload_n 1 dX3_init_118 rfl rfl ?_
  refine ea_nw (w' := (h3 [.ref 1, .ref 3, .ref 6, .ref 7, .ref 8, .ref 9, .int (nI 0), .ref 10, .ref 19] (va_up (va_up q0 0 (some 28)) 1 (some 37)) q0 (ldg [10, 19, 28, 37] [l0]))) [.null, .null, .null, .null, .null, .null, .null, .null, .int (nI 0), .int (nI 0), .int (nI 0), .int (nI 0), .int (nI 0), .int (nI 0), .int (nI 0), .int (nI 0), .int (nI 0), .int (nI 0), .int (nI 0)] 46 rfl (by decide) dX3_init_119 cf0 g161 g163 g63 (by decide +kernel) rfl ⟨(Nat.le_of_ble_eq_true rfl), (Nat.le_of_ble_eq_true rfl)⟩ rfl ?_
  refine ea_dup dX3_init_122 rfl ?_
  refine ea_init (w0 := (h3 [.ref 1, .ref 3, .ref 6, .ref 7, .ref 8, .ref 9, .int (nI 0), .ref 10, .ref 19] (va_up (va_up q0 0 (some 28)) 1 (some 37)) q0 (ldg [10, 19, 28, 37] []))) (w' := (h3 [.ref 1, .ref 3, .ref 6, .ref 7, .ref 8, .ref 9, .int (nI 0), .ref 10, .ref 19] (va_up (va_up q0 0 (some 28)) 1 (some 37)) q0 (ldg [10, 19, 28, 37, 46] []))) rfl (aX0_init 46 (by decide)) jX0_init g164 ⟨(Nat.le_of_ble_eq_true rfl), (Nat.le_of_ble_eq_true rfl)⟩ ⟨(Nat.le_of_ble_eq_true rfl), (Nat.le_of_ble_eq_true rfl)⟩ rfl (by decide) (by decide) rfl rfl dX3_init_123 ?_
  refine ea_aast (ci := 0) (w' := (h3 [.ref 1, .ref 3, .ref 6, .ref 7, .ref 8, .ref 9, .int (nI 0), .ref 10, .ref 19] (va_up (va_up q0 0 (some 28)) 1 (some 37)) (va_up q0 0 (some 46)) (ldg [10, 19, 28, 37, 46] []))) 0 9 46 rfl rfl dX3_init_126 rfl rfl rfl (by decide) (by decide) rfl ?_
  refine ea_iinc (nI 1) dX3_init_127 rfl (by decide +kernel) (Nat.le_of_ble_eq_true rfl) (L' := [(1, .int (nI 1)), (0, .ref 0)]) rfl ?_
  refine ea_goto 108 dX3_init_130 (by decide) ?_
  refine ea_iload_n 1 dX3_init_108 rfl rfl ?_
  refine ea_bipush (nI 6) dX3_init_109 rfl ?_
  refine ea_ge_f 133 dX3_init_111 (by decide) (by decide +kernel) ?_
  refine ea_aload_n 0 dX3_init_114 rfl rfl ?_
  refine ea_getfield 5 0 rfl dX3_init_115 foX3_37 rfl rfl ?_
  refine ea_iload_n 1 dX3_init_118 rfl rfl ?_
  refine ea_nw (w' := (h3 [.ref 1, .ref 3, .ref 6, .ref 7, .ref 8, .ref 9, .int (nI 0), .ref 10, .ref 19] (va_up (va_up q0 0 (some 28)) 1 (some 37)) (va_up q0 0 (some 46)) (ldg [10, 19, 28, 37, 46] [l0]))) [.null, .null, .null, .null, .null, .null, .null, .null, .int (nI 0), .int (nI 0), .int (nI 0), .int (nI 0), .int (nI 0), .int (nI 0), .int (nI 0), .int (nI 0), .int (nI 0), .int (nI 0), .int (nI 0)] 55 rfl (by decide) dX3_init_119 cf0 g161 g163 g63 (by decide +kernel) rfl ⟨(Nat.le_of_ble_eq_true rfl), (Nat.le_of_ble_eq_true rfl)⟩ rfl ?_
  refine ea_dup dX3_init_122 rfl ?_
  refine ea_init (w0 := (h3 [.ref 1, .ref 3, .ref 6, .ref 7, .ref 8, .ref 9, .int (nI 0), .ref 10, .ref 19] (va_up (va_up q0 0 (some 28)) 1 (some 37)) (va_up q0 0 (some 46)) (ldg [10, 19, 28, 37, 46] []))) (w' := (h3 [.ref 1, .ref 3, .ref 6, .ref 7, .ref 8, .ref 9, .int (nI 0), .ref 10, .ref 19] (va_up (va_up q0 0 (some 28)) 1 (some 37)) (va_up q0 0 (some 46)) (ldg [10, 19, 28, 37, 46, 55] []))) rfl (aX0_init 55 (by decide)) jX0_init g164 ⟨(Nat.le_of_ble_eq_true rfl), (Nat.le_of_ble_eq_true rfl)⟩ ⟨(Nat.le_of_ble_eq_true rfl), (Nat.le_of_ble_eq_true rfl)⟩ rfl (by decide) (by decide) rfl rfl dX3_init_123 ?_
  refine ea_aast (ci := 0) (w' := (h3 [.ref 1, .ref 3, .ref 6, .ref 7, .ref 8, .ref 9, .int (nI 0), .ref 10, .ref 19] (va_up (va_up q0 0 (some 28)) 1 (some 37)) (va_up (va_up q0 0 (some 46)) 1 (some 55)) (ldg [10, 19, 28, 37, 46, 55] []))) 1 9 55 rfl rfl dX3_init_126 rfl rfl rfl (by decide) (by decide) rfl ?_
  refine ea_iinc (nI 2) dX3_init_127 rfl (by decide +kernel) (Nat.le_of_ble_eq_true rfl) (L' := [(1, .int (nI 2)), (0, .ref 0)]) rfl ?_
  refine ea_goto 108 dX3_init_130 (by decide) ?_
  refine ea_iload_n 1 dX3_init_108 rfl rfl ?_
  refine ea_bipush (nI 6) dX3_init_109 rfl ?_
  refine ea_ge_f 133 dX3_init_111 (by decide) (by decide +kernel) ?_
  refine ea_aload_n 0 dX3_init_114 rfl rfl ?_
  refine ea_getfield 5 0 rfl dX3_init_115 foX3_37 rfl rfl ?_
  refine ea_iload_n 1 dX3_init_118 rfl rfl ?_
  refine ea_nw (w' := (h3 [.ref 1, .ref 3, .ref 6, .ref 7, .ref 8, .ref 9, .int (nI 0), .ref 10, .ref 19] (va_up (va_up q0 0 (some 28)) 1 (some 37)) (va_up (va_up q0 0 (some 46)) 1 (some 55)) (ldg [10, 19, 28, 37, 46, 55] [l0]))) [.null, .null, .null, .null, .null, .null, .null, .null, .int (nI 0), .int (nI 0), .int (nI 0), .int (nI 0), .int (nI 0), .int (nI 0), .int (nI 0), .int (nI 0), .int (nI 0), .int (nI 0), .int (nI 0)] 64 rfl (by decide) dX3_init_119 cf0 g161 g163 g63 (by decide +kernel) rfl ⟨(Nat.le_of_ble_eq_true rfl), (Nat.le_of_ble_eq_true rfl)⟩ rfl ?_
  refine ea_dup dX3_init_122 rfl ?_
  refine ea_init (w0 := (h3 [.ref 1, .ref 3, .ref 6, .ref 7, .ref 8, .ref 9, .int (nI 0), .ref 10, .ref 19] (va_up (va_up q0 0 (some 28)) 1 (some 37)) (va_up (va_up q0 0 (some 46)) 1 (some 55)) (ldg [10, 19, 28, 37, 46, 55] []))) (w' := (h3 [.ref 1, .ref 3, .ref 6, .ref 7, .ref 8, .ref 9, .int (nI 0), .ref 10, .ref 19] (va_up (va_up q0 0 (some 28)) 1 (some 37)) (va_up (va_up q0 0 (some 46)) 1 (some 55)) (ldg [10, 19, 28, 37, 46, 55, 64] []))) rfl (aX0_init 64 (by decide)) jX0_init g164 ⟨(Nat.le_of_ble_eq_true rfl), (Nat.le_of_ble_eq_true rfl)⟩ ⟨(Nat.le_of_ble_eq_true rfl), (Nat.le_of_ble_eq_true rfl)⟩ rfl (by decide) (by decide) rfl rfl dX3_init_123 ?_
  refine ea_aast (ci := 0) (w' := (h3 [.ref 1, .ref 3, .ref 6, .ref 7, .ref 8, .ref 9, .int (nI 0), .ref 10, .ref 19] (va_up (va_up q0 0 (some 28)) 1 (some 37)) (va_up (va_up (va_up q0 0 (some 46)) 1 (some 55)) 2 (some 64)) (ldg [10, 19, 28, 37, 46, 55, 64] []))) 2 9 64 rfl rfl dX3_init_126 rfl rfl rfl (by decide) (by decide) rfl ?_
  refine ea_iinc (nI 3) dX3_init_127 rfl (by decide +kernel) (Nat.le_of_ble_eq_true rfl) (L' := [(1, .int (nI 3)), (0, .ref 0)]) rfl ?_
  refine ea_goto 108 dX3_init_130 (by decide) ?_
  refine ea_iload_n 1 dX3_init_108 rfl rfl ?_
  refine ea_bipush (nI 6) dX3_init_109 rfl ?_
  refine ea_ge_f 133 dX3_init_111 (by decide) (by decide +kernel) ?_
  refine ea_aload_n 0 dX3_init_114 rfl rfl ?_
  refine ea_getfield 5 0 rfl dX3_init_115 foX3_37 rfl rfl ?_
  refine ea_iload_n 1 dX3_init_118 rfl rfl ?_
  refine ea_nw (w' := (h3 [.ref 1, .ref 3, .ref 6, .ref 7, .ref 8, .ref 9, .int (nI 0), .ref 10, .ref 19] (va_up (va_up q0 0 (some 28)) 1 (some 37)) (va_up (va_up (va_up q0 0 (some 46)) 1 (some 55)) 2 (some 64)) (ldg [10, 19, 28, 37, 46, 55, 64] [l0]))) [.null, .null, .null, .null, .null, .null, .null, .null, .int (nI 0), .int (nI 0), .int (nI 0), .int (nI 0), .int (nI 0), .int (nI 0), .int (nI 0), .int (nI 0), .int (nI 0), .int (nI 0), .int (nI 0)] 73 rfl (by decide) dX3_init_119 cf0 g161 g163 g63 (by decide +kernel) rfl ⟨(Nat.le_of_ble_eq_true rfl), (Nat.le_of_ble_eq_true rfl)⟩ rfl ?_
  refine ea_dup dX3_init_122 rfl ?_
  refine ea_init (w0 := (h3 [.ref 1, .ref 3, .ref 6, .ref 7, .ref 8, .ref 9, .int (nI 0), .ref 10, .ref 19] (va_up (va_up q0 0 (some 28)) 1 (some 37)) (va_up (va_up (va_up q0 0 (some 46)) 1 (some 55)) 2 (some 64)) (ldg [10, 19, 28, 37, 46, 55, 64] []))) (w' := (h3 [.ref 1, .ref 3, .ref 6, .ref 7, .ref 8, .ref 9, .int (nI 0), .ref 10, .ref 19] (va_up (va_up q0 0 (some 28)) 1 (some 37)) (va_up (va_up (va_up q0 0 (some 46)) 1 (some 55)) 2 (some 64)) (ldg [10, 19, 28, 37, 46, 55, 64, 73] []))) rfl (aX0_init 73 (by decide)) jX0_init g164 ⟨(Nat.le_of_ble_eq_true rfl), (Nat.le_of_ble_eq_true rfl)⟩ ⟨(Nat.le_of_ble_eq_true rfl), (Nat.le_of_ble_eq_true rfl)⟩ rfl (by decide) (by decide) rfl rfl dX3_init_123 ?_
  refine ea_aast (ci := 0) (w' := (h3 [.ref 1, .ref 3, .ref 6, .ref 7, .ref 8, .ref 9, .int (nI 0), .ref 10, .ref 19] (va_up (va_up q0 0 (some 28)) 1 (some 37)) (va_up (va_up (va_up (va_up q0 0 (some 46)) 1 (some 55)) 2 (some 64)) 3 (some 73)) (ldg [10, 19, 28, 37, 46, 55, 64, 73] []))) 3 9 73 rfl rfl dX3_init_126 rfl rfl rfl (by decide) (by decide) rfl ?_
  refine ea_iinc (nI 4) dX3_init_127 rfl (by decide +kernel) (Nat.le_of_ble_eq_true rfl) (L' := [(1, .int (nI 4)), (0, .ref 0)]) rfl ?_
  refine ea_goto 108 dX3_init_130 (by decide) ?_
  refine ea_iload_n 1 dX3_init_108 rfl rfl ?_
  refine ea_bipush (nI 6) dX3_init_109 rfl ?_
  refine ea_ge_f 133 dX3_init_111 (by decide) (by decide +kernel) ?_
  refine ea_aload_n 0 dX3_init_114 rfl rfl ?_
  refine ea_getfield 5 0 rfl dX3_init_115 foX3_37 rfl rfl ?_
  refine ea_iload_n 1 dX3_init_118 rfl rfl ?_
  refine ea_nw (w' := (h3 [.ref 1, .ref 3, .ref 6, .ref 7, .ref 8, .ref 9, .int (nI 0), .ref 10, .ref 19] (va_up (va_up q0 0 (some 28)) 1 (some 37)) (va_up (va_up (va_up (va_up q0 0 (some 46)) 1 (some 55)) 2 (some 64)) 3 (some 73)) (ldg [10, 19, 28, 37, 46, 55, 64, 73] [l0]))) [.null, .null, .null, .null, .null, .null, .null, .null, .int (nI 0), .int (nI 0), .int (nI 0), .int (nI 0), .int (nI 0), .int (nI 0), .int (nI 0), .int (nI 0), .int (nI 0), .int (nI 0), .int (nI 0)] 82 rfl (by decide) dX3_init_119 cf0 g161 g163 g63 (by decide +kernel) rfl ⟨(Nat.le_of_ble_eq_true rfl), (Nat.le_of_ble_eq_true rfl)⟩ rfl ?_
  refine ea_dup dX3_init_122 rfl ?_
  refine ea_init (w0 := (h3 [.ref 1, .ref 3, .ref 6, .ref 7, .ref 8, .ref 9, .int (nI 0), .ref 10, .ref 19] (va_up (va_up q0 0 (some 28)) 1 (some 37)) (va_up (va_up (va_up (va_up q0 0 (some 46)) 1 (some 55)) 2 (some 64)) 3 (some 73)) (ldg [10, 19, 28, 37, 46, 55, 64, 73] []))) (w' := (h3 [.ref 1, .ref 3, .ref 6, .ref 7, .ref 8, .ref 9, .int (nI 0), .ref 10, .ref 19] (va_up (va_up q0 0 (some 28)) 1 (some 37)) (va_up (va_up (va_up (va_up q0 0 (some 46)) 1 (some 55)) 2 (some 64)) 3 (some 73)) (ldg [10, 19, 28, 37, 46, 55, 64, 73, 82] []))) rfl (aX0_init 82 (by decide)) jX0_init g164 ⟨(Nat.le_of_ble_eq_true rfl), (Nat.le_of_ble_eq_true rfl)⟩ ⟨(Nat.le_of_ble_eq_true rfl), (Nat.le_of_ble_eq_true rfl)⟩ rfl (by decide) (by decide) rfl rfl dX3_init_123 ?_
  refine ea_aast (ci := 0) (w' := (h3 [.ref 1, .ref 3, .ref 6, .ref 7, .ref 8, .ref 9, .int (nI 0), .ref 10, .ref 19] (va_up (va_up q0 0 (some 28)) 1 (some 37)) (va_up (va_up (va_up (va_up (va_up q0 0 (some 46)) 1 (some 55)) 2 (some 64)) 3 (some 73)) 4 (some 82)) (ldg [10, 19, 28, 37, 46, 55, 64, 73, 82] []))) 4 9 82 rfl rfl dX3_init_126 rfl rfl rfl (by decide) (by decide) rfl ?_
  refine ea_iinc (nI 5) dX3_init_127 rfl (by decide +kernel) (Nat.le_of_ble_eq_true rfl) (L' := [(1, .int (nI 5)), (0, .ref 0)]) rfl ?_
  refine ea_goto 108 dX3_init_130 (by decide) ?_
  refine ea_iload_n 1 dX3_init_108 rfl rfl ?_
  refine ea_bipush (nI 6) dX3_init_109 rfl ?_
  refine ea_ge_f 133 dX3_init_111 (by decide) (by decide +kernel) ?_
  refine ea_aload_n 0 dX3_init_114 rfl rfl ?_
  refine ea_getfield 5 0 rfl dX3_init_115 foX3_37 rfl rfl ?_
  refine ea_iload_n 1 dX3_init_118 rfl rfl ?_
  refine ea_nw (w' := (h3 [.ref 1, .ref 3, .ref 6, .ref 7, .ref 8, .ref 9, .int (nI 0), .ref 10, .ref 19] (va_up (va_up q0 0 (some 28)) 1 (some 37)) (va_up (va_up (va_up (va_up (va_up q0 0 (some 46)) 1 (some 55)) 2 (some 64)) 3 (some 73)) 4 (some 82)) (ldg [10, 19, 28, 37, 46, 55, 64, 73, 82] [l0]))) [.null, .null, .null, .null, .null, .null, .null, .null, .int (nI 0), .int (nI 0), .int (nI 0), .int (nI 0), .int (nI 0), .int (nI 0), .int (nI 0), .int (nI 0), .int (nI 0), .int (nI 0), .int (nI 0)] 91 rfl (by decide) dX3_init_119 cf0 g161 g163 g63 (by decide +kernel) rfl ⟨(Nat.le_of_ble_eq_true rfl), (Nat.le_of_ble_eq_true rfl)⟩ rfl ?_
  refine ea_dup dX3_init_122 rfl ?_
  refine ea_init (w0 := (h3 [.ref 1, .ref 3, .ref 6, .ref 7, .ref 8, .ref 9, .int (nI 0), .ref 10, .ref 19] (va_up (va_up q0 0 (some 28)) 1 (some 37)) (va_up (va_up (va_up (va_up (va_up q0 0 (some 46)) 1 (some 55)) 2 (some 64)) 3 (some 73)) 4 (some 82)) (ldg [10, 19, 28, 37, 46, 55, 64, 73, 82] []))) (w' := (h3 [.ref 1, .ref 3, .ref 6, .ref 7, .ref 8, .ref 9, .int (nI 0), .ref 10, .ref 19] (va_up (va_up q0 0 (some 28)) 1 (some 37)) (va_up (va_up (va_up (va_up (va_up q0 0 (some 46)) 1 (some 55)) 2 (some 64)) 3 (some 73)) 4 (some 82)) (ldg [10, 19, 28, 37, 46, 55, 64, 73, 82, 91] []))) rfl (aX0_init 91 (by decide)) jX0_init g164 ⟨(Nat.le_of_ble_eq_true rfl), (Nat.le_of_ble_eq_true rfl)⟩ ⟨(Nat.le_of_ble_eq_true rfl), (Nat.le_of_ble_eq_true rfl)⟩ rfl (by decide) (by decide) rfl rfl dX3_init_123 ?_
  refine ea_aast (ci := 0) (w' := (h3 [.ref 1, .ref 3, .ref 6, .ref 7, .ref 8, .ref 9, .int (nI 0), .ref 10, .ref 19] (va_up (va_up q0 0 (some 28)) 1 (some 37)) (va_up (va_up (va_up (va_up (va_up (va_up q0 0 (some 46)) 1 (some 55)) 2 (some 64)) 3 (some 73)) 4 (some 82)) 5 (some 91)) (ldg [10, 19, 28, 37, 46, 55, 64, 73, 82, 91] []))) 5 9 91 rfl rfl dX3_init_126 rfl rfl rfl (by decide) (by decide) rfl ?_
  refine ea_iinc (nI 6) dX3_init_127 rfl (by decide +kernel) (Nat.le_of_ble_eq_true rfl) (L' := [(1, .int (nI 6)), (0, .ref 0)]) rfl ?_
  refine ea_goto 108 dX3_init_130 (by decide) ?_
  refine ea_iload_n 1 dX3_init_108 rfl rfl ?_
  refine ea_bipush (nI 6) dX3_init_109 rfl ?_
  refine ea_ge_t 133 dX3_init_111 (by decide) (by decide +kernel) ?_
  exact ea_exit0 (Nat.le_of_ble_eq_true rfl) (Nat.le_of_ble_eq_true rfl)
