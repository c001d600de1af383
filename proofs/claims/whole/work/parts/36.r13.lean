/-! ===== the reference: an order is read ===== -/
theorem c4_signS (σ z : Nat → Int32) (Y : RY) (g : PW) {ℓ : Nat} (hℓ : ℓ ≤ 60) (hl : z 1 = nI ℓ) (s : Nat × Bool) (hp : s.1 ≤ ℓ) (lo hi : Int32) : Ct mX4_sign [.ref 0, .int lo, .int hi] (rw9 σ (zE z s) Y g) (d1 (some (.int (sc Y.2.2.2.2.1 ℓ s))) (rw9 σ (zE z (sg Y.2.2.2.2.1 ℓ lo hi s)) Y g)) nx := c4_sign σ z Y g hℓ hl (p := s.1) hp s.2 lo hi
theorem c4_numberS (σ z : Nat → Int32) (Y : RY) (g : PW) {ℓ : Nat} (hℓ : ℓ ≤ 60) (hl : z 1 = nI ℓ) (s : Nat × Bool) (hp : s.1 ≤ ℓ) {lo : Int32} (most : Int32) (h0 : ¬ nI 48 + lo ≤ nI 0) : Ct mX4_number [.ref 0, .int lo, .int most] (rw9 σ (zE z s) Y g) (d1 (some (.int (nmR Y.2.2.2.2.1 ℓ lo most s).2)) (rw9 σ (zE z (nmR Y.2.2.2.2.1 ℓ lo most s).1) Y g)) nx := c4_number σ z Y g hℓ hl (p := s.1) hp s.2 most h0
/-- what is read: the state behind it, one, kind, number -/
abbrev OR : Type := (Nat × Bool) × (Int32 × (Int32 × Int32))
def orS (bu : Nat → Int32) (ℓ : Nat) (hi lo most : Int32) (s : Nat × Bool) : OR :=
  ((nmR bu ℓ lo most (sg bu ℓ (nI 61) (nI 61) (sg bu ℓ (nI 48) hi s))).1, (sc bu ℓ s - nI 48, (nI 0, (nmR bu ℓ lo most (sg bu ℓ (nI 61) (nI 61) (sg bu ℓ (nI 48) hi s))).2)))
def orP2 (bu : Nat → Int32) (ℓ : Nat) (s : Nat × Bool) : Nat × Bool := sg bu ℓ (nI 58) (nI 58) (sg bu ℓ (nI 48) (nI 55) s)
def orP4 (bu : Nat → Int32) (ℓ : Nat) (s : Nat × Bool) : Nat × Bool := sg bu ℓ (nI 42) (nI 42) (sg bu ℓ (nI 48) (nI 53) (orP2 bu ℓ s))
def orP (bu : Nat → Int32) (ℓ : Nat) (s : Nat × Bool) : OR :=
  ((nmR bu ℓ (nI 1) (nI 50) (orP4 bu ℓ s)).1, (sc bu ℓ s - nI 48, (sc bu ℓ (orP2 bu ℓ s) - nI 48, (nmR bu ℓ (nI 1) (nI 50) (orP4 bu ℓ s)).2)))
def orH (bu : Nat → Int32) (ℓ : Nat) (s : Nat × Bool) : OR := ((nmR bu ℓ (nI 1) (nI 100) s).1, (nI 0, (nI 0, (nmR bu ℓ (nI 1) (nI 100) s).2)))
def orL (bu : Nat → Int32) (ℓ l : Nat) (s : Nat × Bool) : OR :=
  if l = 112 then orS bu ℓ (nI 53) (nI 1) (nI 500) s else if l = 99 then orS bu ℓ (nI 53) (nI 0) (nI 90) s else if l = 43 then orP bu ℓ s else if l = 45 then orP bu ℓ s
  else if l = 108 then orS bu ℓ (nI 55) (nI 1) (nI 9999) s else if l = 98 then orS bu ℓ (nI 55) (nI 1) (nI 9999) s else orH bu ℓ s
set_option maxHeartbeats 1000000 in
theorem o4_112 (σ z : Nat → Int32) (Y : RY) (g : PW) {ℓ : Nat} (hℓ : ℓ ≤ 60) (hl : z 1 = nI ℓ) {p : Nat} (hp : p < ℓ) (hb : Y.2.2.2.2.1 p = nI 112) (d : Int32) {po : PO} (H : Ev mX4_isOrdered po nx 0 310 [(8, .int (orS Y.2.2.2.2.1 ℓ (nI 53) (nI 1) (nI 500) (p + 1, false)).2.2.2), (7, .int (orS Y.2.2.2.2.1 ℓ (nI 53) (nI 1) (nI 500) (p + 1, false)).2.2.1), (6, .int (orS Y.2.2.2.2.1 ℓ (nI 53) (nI 1) (nI 500) (p + 1, false)).2.1), (2, .int (nI 112)), (0, .ref 0), (1, .int d)] [] (rw9 σ (zE z (orS Y.2.2.2.2.1 ℓ (nI 53) (nI 1) (nI 500) (p + 1, false)).1) Y g)) : Ev mX4_isOrdered po nx 0 0 [(0, .ref 0), (1, .int d)] [] (rw9 σ (zE z (p, false)) Y g) := by
  refine ev_aload_n 0 dX4_isOrdered_0 rfl rfl ?_
  refine ev_getfield 9 dX4_isOrdered_1 foX4_140 rfl rfl ?_
  refine ev_top (nI p) rfl ?_
  refine ev_aload_n 0 dX4_isOrdered_4 rfl rfl ?_
  refine ev_getfield 7 dX4_isOrdered_5 foX4_137 rfl rfl ?_
  refine ev_top (nI ℓ) ((zE_n _ _ (by decide) (by decide)).trans hl) ?_
  refine ev_icmp_ge 30 dX4_isOrdered_8 (by decide) (fun h8 => absurd h8 (nI_ge hp (by omega))) (fun h8 => ?_)
  refine ev_aload_n 0 dX4_isOrdered_11 rfl rfl ?_
  refine ev_getfield 10 dX4_isOrdered_12 foX4_143 rfl rfl ?_
  refine ev_top (bI false) rfl ?_
  refine ev_if_ne 30 dX4_isOrdered_15 (by decide) (fun h15 => absurd rfl h15) (fun h15 => ?_)
  refine ev_aload_n 0 dX4_isOrdered_18 rfl rfl ?_
  refine ev_getfield 6 dX4_isOrdered_19 foX4_26 rfl rfl ?_
  refine ev_aload_n 0 dX4_isOrdered_22 rfl rfl ?_
  refine ev_getfield 9 dX4_isOrdered_23 foX4_140 rfl rfl ?_
  refine ev_top (nI p) rfl ?_
  refine ev_ild p dX4_isOrdered_26 rfl rfl (by omega) rfl ?_
  refine ev_top (nI 112) hb ?_
  refine ev_goto 31 dX4_isOrdered_27 (by decide) ?_
  refine ev_istore_n 2 dX4_isOrdered_31 rfl (Nat.le_of_ble_eq_true rfl) rfl ?_
  refine ev_iload_n 2 dX4_isOrdered_32 rfl rfl ?_
  refine ev_bipush (nI 112) dX4_isOrdered_33 rfl ?_
  refine ev_icmp_eq 44 dX4_isOrdered_35 (by decide) (fun h35 => ?_) (fun h35 => absurd (by decide) h35)
  refine ev_iconst (nI 1) dX4_isOrdered_44 rfl ?_
  refine ev_goto 49 dX4_isOrdered_45 (by decide) ?_
  refine ev_istore_n 3 dX4_isOrdered_49 rfl (Nat.le_of_ble_eq_true rfl) rfl ?_
  refine ev_iload_n 2 dX4_isOrdered_50 rfl rfl ?_
  refine ev_bipush (nI 43) dX4_isOrdered_51 rfl ?_
  refine ev_icmp_eq 62 dX4_isOrdered_53 (by decide) (fun h53 => absurd h53 (by decide)) (fun h53 => ?_)
  refine ev_iload_n 2 dX4_isOrdered_56 rfl rfl ?_
  refine ev_bipush (nI 45) dX4_isOrdered_57 rfl ?_
  refine ev_icmp_ne 66 dX4_isOrdered_59 (by decide) (fun h59 => ?_) (fun h59 => absurd h59 (by decide))
  refine ev_iconst (nI 0) dX4_isOrdered_66 rfl ?_
  refine ev_istore dX4_isOrdered_67 (Nat.le_of_ble_eq_true rfl) rfl ?_
  refine ev_iload_n 2 dX4_isOrdered_69 rfl rfl ?_
  refine ev_bipush (nI 108) dX4_isOrdered_70 rfl ?_
  refine ev_icmp_eq 81 dX4_isOrdered_72 (by decide) (fun h72 => absurd h72 (by decide)) (fun h72 => ?_)
  refine ev_iload_n 2 dX4_isOrdered_75 rfl rfl ?_
  refine ev_bipush (nI 98) dX4_isOrdered_76 rfl ?_
  refine ev_icmp_ne 85 dX4_isOrdered_78 (by decide) (fun h78 => ?_) (fun h78 => absurd h78 (by decide))
  refine ev_iconst (nI 0) dX4_isOrdered_85 rfl ?_
  refine ev_istore dX4_isOrdered_86 (Nat.le_of_ble_eq_true rfl) rfl ?_
  refine ev_aload_n 0 dX4_isOrdered_88 rfl rfl ?_
  refine ev_aload_n 0 dX4_isOrdered_89 rfl rfl ?_
  refine ev_getfield 10 dX4_isOrdered_90 foX4_143 rfl rfl ?_
  refine ev_top (bI false) rfl ?_
  refine ev_if_ne 116 dX4_isOrdered_93 (by decide) (fun h93 => absurd rfl h93) (fun h93 => ?_)
  refine ev_iload_n 3 dX4_isOrdered_96 rfl rfl ?_
  refine ev_if_ne 120 dX4_isOrdered_97 (by decide) (fun h97 => ?_) (fun h97 => absurd h97 (by decide))
  refine ev_iconst (nI 0) dX4_isOrdered_120 rfl ?_
  refine ev_top (bI false) rfl ?_
  refine ev_putfield 10 dX4_isOrdered_121 fpX4_143 rfl (Nat.le_of_ble_eq_true rfl) (fun _ => bI_nar _) (fun _ => bI_fit _) (rz4 _ _ _ _ _) ?_
  refine ev_w (w' := rw9 σ (zE z (p, false)) Y g) (congrArg (fun q => rw9 σ q Y g) (zE_4 _ _ _)) ?_
  refine ev_aload_n 0 dX4_isOrdered_124 rfl rfl ?_
  refine ev_dup dX4_isOrdered_125 rfl ?_
  refine ev_getfield 9 dX4_isOrdered_126 foX4_140 rfl rfl ?_
  refine ev_top (nI p) rfl ?_
  refine ev_aload_n 0 dX4_isOrdered_129 rfl rfl ?_
  refine ev_getfield 10 dX4_isOrdered_130 foX4_143 rfl rfl ?_
  refine ev_top (bI false) rfl ?_
  refine ev_if_eq 140 dX4_isOrdered_133 (by decide) (fun h133 => ?_) (fun h133 => absurd (by decide) h133)
  refine ev_iconst (nI 1) dX4_isOrdered_140 rfl ?_
  refine ev_iadd dX4_isOrdered_141 ?_
  refine ev_top (nI (p + 1)) (nI_add p 1) ?_
  refine ev_putfield 9 dX4_isOrdered_142 fpX4_140 rfl (Nat.le_of_ble_eq_true rfl) (fun _ => rfl) (fun _ => rfl) (rz3 _ _ _ _ _) ?_
  refine ev_w (w' := rw9 σ (zE z (p + 1, false)) Y g) (congrArg (fun q => rw9 σ q Y g) (zE_3 _ _ _)) ?_
  refine ev_iload_n 2 dX4_isOrdered_145 rfl rfl ?_
  refine ev_bipush (nI 104) dX4_isOrdered_146 rfl ?_
  refine ev_icmp_ne 155 dX4_isOrdered_148 (by decide) (fun h148 => ?_) (fun h148 => absurd h148 (by decide))
  refine ev_aload_n 0 dX4_isOrdered_155 rfl rfl ?_
  refine ev_bipush (nI 48) dX4_isOrdered_156 rfl ?_
  refine ev_iload_n 3 dX4_isOrdered_158 rfl rfl ?_
  refine ev_if_eq 167 dX4_isOrdered_159 (by decide) (fun h159 => absurd h159 (by decide)) (fun h159 => ?_)
  refine ev_bipush (nI 53) dX4_isOrdered_162 rfl ?_
  refine ev_goto 169 dX4_isOrdered_164 (by decide) ?_
  refine ev_cV2 (c4_signS σ z Y g hℓ hl (p + 1, false) hp _ _) kX4_sign rfl g1355 rfl rfl rfl rfl dX4_isOrdered_169 ?_
  refine ev_bipush (nI 48) dX4_isOrdered_172 rfl ?_
  refine ev_isub dX4_isOrdered_174 ?_
  refine ev_istore dX4_isOrdered_175 (Nat.le_of_ble_eq_true rfl) rfl ?_
  refine ev_iconst (nI 0) dX4_isOrdered_177 rfl ?_
  refine ev_istore dX4_isOrdered_178 (Nat.le_of_ble_eq_true rfl) rfl ?_
  refine ev_iload dX4_isOrdered_180 rfl ?_
  refine ev_if_eq 221 dX4_isOrdered_182 (by decide) (fun h182 => ?_) (fun h182 => absurd (by decide) h182)
  refine ev_iload_n 2 dX4_isOrdered_221 rfl rfl ?_
  refine ev_bipush (nI 104) dX4_isOrdered_222 rfl ?_
  refine ev_icmp_eq 237 dX4_isOrdered_224 (by decide) (fun h224 => absurd h224 (by decide)) (fun h224 => ?_)
  refine ev_aload_n 0 dX4_isOrdered_227 rfl rfl ?_
  refine ev_bipush (nI 61) dX4_isOrdered_228 rfl ?_
  refine ev_bipush (nI 61) dX4_isOrdered_230 rfl ?_
  refine ev_cV2 (c4_signS σ z Y g hℓ hl (sg Y.2.2.2.2.1 ℓ (nI 48) (nI 53) (p + 1, false)) (sg_le hp (by decide)) _ _) kX4_sign rfl g1355 rfl rfl rfl rfl dX4_isOrdered_232 ?_
  refine ev_istore dX4_isOrdered_235 (Nat.le_of_ble_eq_true rfl) rfl ?_
  refine ev_iload_n 2 dX4_isOrdered_237 rfl rfl ?_
  refine ev_bipush (nI 112) dX4_isOrdered_238 rfl ?_
  refine ev_icmp_ne 254 dX4_isOrdered_240 (by decide) (fun h240 => absurd (by decide) h240) (fun h240 => ?_)
  refine ev_aload_n 0 dX4_isOrdered_243 rfl rfl ?_
  refine ev_iconst (nI 1) dX4_isOrdered_244 rfl ?_
  refine ev_sipush (nI 500) dX4_isOrdered_245 rfl ?_
  refine ev_cV2 (c4_numberS σ z Y g hℓ hl (sg Y.2.2.2.2.1 ℓ (nI 61) (nI 61) (sg Y.2.2.2.2.1 ℓ (nI 48) (nI 53) (p + 1, false))) (sg_le (sg_le hp (by decide)) (by decide)) (lo := nI 1) (nI 500) (by decide)) kX4_number rfl g1359 rfl rfl rfl rfl dX4_isOrdered_248 ?_
  refine ev_goto 308 dX4_isOrdered_251 (by decide) ?_
  refine ev_istore dX4_isOrdered_308 (Nat.le_of_ble_eq_true rfl) rfl ?_
  refine ev_w (w' := rw9 σ (zE z (orS Y.2.2.2.2.1 ℓ (nI 53) (nI 1) (nI 500) (p + 1, false)).1) Y g) rfl ?_
  exact ev_sub [0, 1, 2, 6, 7, 8] rfl H
set_option maxHeartbeats 1000000 in
theorem o4_99 (σ z : Nat → Int32) (Y : RY) (g : PW) {ℓ : Nat} (hℓ : ℓ ≤ 60) (hl : z 1 = nI ℓ) {p : Nat} (hp : p < ℓ) (hb : Y.2.2.2.2.1 p = nI 99) (d : Int32) {po : PO} (H : Ev mX4_isOrdered po nx 0 310 [(8, .int (orS Y.2.2.2.2.1 ℓ (nI 53) (nI 0) (nI 90) (p + 1, false)).2.2.2), (7, .int (orS Y.2.2.2.2.1 ℓ (nI 53) (nI 0) (nI 90) (p + 1, false)).2.2.1), (6, .int (orS Y.2.2.2.2.1 ℓ (nI 53) (nI 0) (nI 90) (p + 1, false)).2.1), (2, .int (nI 99)), (0, .ref 0), (1, .int d)] [] (rw9 σ (zE z (orS Y.2.2.2.2.1 ℓ (nI 53) (nI 0) (nI 90) (p + 1, false)).1) Y g)) : Ev mX4_isOrdered po nx 0 0 [(0, .ref 0), (1, .int d)] [] (rw9 σ (zE z (p, false)) Y g) := by
  refine ev_aload_n 0 dX4_isOrdered_0 rfl rfl ?_
  refine ev_getfield 9 dX4_isOrdered_1 foX4_140 rfl rfl ?_
  refine ev_top (nI p) rfl ?_
  refine ev_aload_n 0 dX4_isOrdered_4 rfl rfl ?_
  refine ev_getfield 7 dX4_isOrdered_5 foX4_137 rfl rfl ?_
  refine ev_top (nI ℓ) ((zE_n _ _ (by decide) (by decide)).trans hl) ?_
  refine ev_icmp_ge 30 dX4_isOrdered_8 (by decide) (fun h8 => absurd h8 (nI_ge hp (by omega))) (fun h8 => ?_)
  refine ev_aload_n 0 dX4_isOrdered_11 rfl rfl ?_
  refine ev_getfield 10 dX4_isOrdered_12 foX4_143 rfl rfl ?_
  refine ev_top (bI false) rfl ?_
  refine ev_if_ne 30 dX4_isOrdered_15 (by decide) (fun h15 => absurd rfl h15) (fun h15 => ?_)
  refine ev_aload_n 0 dX4_isOrdered_18 rfl rfl ?_
  refine ev_getfield 6 dX4_isOrdered_19 foX4_26 rfl rfl ?_
  refine ev_aload_n 0 dX4_isOrdered_22 rfl rfl ?_
  refine ev_getfield 9 dX4_isOrdered_23 foX4_140 rfl rfl ?_
  refine ev_top (nI p) rfl ?_
  refine ev_ild p dX4_isOrdered_26 rfl rfl (by omega) rfl ?_
  refine ev_top (nI 99) hb ?_
  refine ev_goto 31 dX4_isOrdered_27 (by decide) ?_
  refine ev_istore_n 2 dX4_isOrdered_31 rfl (Nat.le_of_ble_eq_true rfl) rfl ?_
  refine ev_iload_n 2 dX4_isOrdered_32 rfl rfl ?_
  refine ev_bipush (nI 112) dX4_isOrdered_33 rfl ?_
  refine ev_icmp_eq 44 dX4_isOrdered_35 (by decide) (fun h35 => absurd h35 (by decide)) (fun h35 => ?_)
  refine ev_iload_n 2 dX4_isOrdered_38 rfl rfl ?_
  refine ev_bipush (nI 99) dX4_isOrdered_39 rfl ?_
  refine ev_icmp_ne 48 dX4_isOrdered_41 (by decide) (fun h41 => absurd (by decide) h41) (fun h41 => ?_)
  refine ev_iconst (nI 1) dX4_isOrdered_44 rfl ?_
  refine ev_goto 49 dX4_isOrdered_45 (by decide) ?_
  refine ev_istore_n 3 dX4_isOrdered_49 rfl (Nat.le_of_ble_eq_true rfl) rfl ?_
  refine ev_iload_n 2 dX4_isOrdered_50 rfl rfl ?_
  refine ev_bipush (nI 43) dX4_isOrdered_51 rfl ?_
  refine ev_icmp_eq 62 dX4_isOrdered_53 (by decide) (fun h53 => absurd h53 (by decide)) (fun h53 => ?_)
  refine ev_iload_n 2 dX4_isOrdered_56 rfl rfl ?_
  refine ev_bipush (nI 45) dX4_isOrdered_57 rfl ?_
  refine ev_icmp_ne 66 dX4_isOrdered_59 (by decide) (fun h59 => ?_) (fun h59 => absurd h59 (by decide))
  refine ev_iconst (nI 0) dX4_isOrdered_66 rfl ?_
  refine ev_istore dX4_isOrdered_67 (Nat.le_of_ble_eq_true rfl) rfl ?_
  refine ev_iload_n 2 dX4_isOrdered_69 rfl rfl ?_
  refine ev_bipush (nI 108) dX4_isOrdered_70 rfl ?_
  refine ev_icmp_eq 81 dX4_isOrdered_72 (by decide) (fun h72 => absurd h72 (by decide)) (fun h72 => ?_)
  refine ev_iload_n 2 dX4_isOrdered_75 rfl rfl ?_
  refine ev_bipush (nI 98) dX4_isOrdered_76 rfl ?_
  refine ev_icmp_ne 85 dX4_isOrdered_78 (by decide) (fun h78 => ?_) (fun h78 => absurd h78 (by decide))
  refine ev_iconst (nI 0) dX4_isOrdered_85 rfl ?_
  refine ev_istore dX4_isOrdered_86 (Nat.le_of_ble_eq_true rfl) rfl ?_
  refine ev_aload_n 0 dX4_isOrdered_88 rfl rfl ?_
  refine ev_aload_n 0 dX4_isOrdered_89 rfl rfl ?_
  refine ev_getfield 10 dX4_isOrdered_90 foX4_143 rfl rfl ?_
  refine ev_top (bI false) rfl ?_
  refine ev_if_ne 116 dX4_isOrdered_93 (by decide) (fun h93 => absurd rfl h93) (fun h93 => ?_)
  refine ev_iload_n 3 dX4_isOrdered_96 rfl rfl ?_
  refine ev_if_ne 120 dX4_isOrdered_97 (by decide) (fun h97 => ?_) (fun h97 => absurd h97 (by decide))
  refine ev_iconst (nI 0) dX4_isOrdered_120 rfl ?_
  refine ev_top (bI false) rfl ?_
  refine ev_putfield 10 dX4_isOrdered_121 fpX4_143 rfl (Nat.le_of_ble_eq_true rfl) (fun _ => bI_nar _) (fun _ => bI_fit _) (rz4 _ _ _ _ _) ?_
  refine ev_w (w' := rw9 σ (zE z (p, false)) Y g) (congrArg (fun q => rw9 σ q Y g) (zE_4 _ _ _)) ?_
  refine ev_aload_n 0 dX4_isOrdered_124 rfl rfl ?_
  refine ev_dup dX4_isOrdered_125 rfl ?_
  refine ev_getfield 9 dX4_isOrdered_126 foX4_140 rfl rfl ?_
  refine ev_top (nI p) rfl ?_
  refine ev_aload_n 0 dX4_isOrdered_129 rfl rfl ?_
  refine ev_getfield 10 dX4_isOrdered_130 foX4_143 rfl rfl ?_
  refine ev_top (bI false) rfl ?_
  refine ev_if_eq 140 dX4_isOrdered_133 (by decide) (fun h133 => ?_) (fun h133 => absurd (by decide) h133)
  refine ev_iconst (nI 1) dX4_isOrdered_140 rfl ?_
  refine ev_iadd dX4_isOrdered_141 ?_
  refine ev_top (nI (p + 1)) (nI_add p 1) ?_
  refine ev_putfield 9 dX4_isOrdered_142 fpX4_140 rfl (Nat.le_of_ble_eq_true rfl) (fun _ => rfl) (fun _ => rfl) (rz3 _ _ _ _ _) ?_
  refine ev_w (w' := rw9 σ (zE z (p + 1, false)) Y g) (congrArg (fun q => rw9 σ q Y g) (zE_3 _ _ _)) ?_
  refine ev_iload_n 2 dX4_isOrdered_145 rfl rfl ?_
  refine ev_bipush (nI 104) dX4_isOrdered_146 rfl ?_
  refine ev_icmp_ne 155 dX4_isOrdered_148 (by decide) (fun h148 => ?_) (fun h148 => absurd h148 (by decide))
  refine ev_aload_n 0 dX4_isOrdered_155 rfl rfl ?_
  refine ev_bipush (nI 48) dX4_isOrdered_156 rfl ?_
  refine ev_iload_n 3 dX4_isOrdered_158 rfl rfl ?_
  refine ev_if_eq 167 dX4_isOrdered_159 (by decide) (fun h159 => absurd h159 (by decide)) (fun h159 => ?_)
  refine ev_bipush (nI 53) dX4_isOrdered_162 rfl ?_
  refine ev_goto 169 dX4_isOrdered_164 (by decide) ?_
  refine ev_cV2 (c4_signS σ z Y g hℓ hl (p + 1, false) hp _ _) kX4_sign rfl g1355 rfl rfl rfl rfl dX4_isOrdered_169 ?_
  refine ev_bipush (nI 48) dX4_isOrdered_172 rfl ?_
  refine ev_isub dX4_isOrdered_174 ?_
  refine ev_istore dX4_isOrdered_175 (Nat.le_of_ble_eq_true rfl) rfl ?_
  refine ev_iconst (nI 0) dX4_isOrdered_177 rfl ?_
  refine ev_istore dX4_isOrdered_178 (Nat.le_of_ble_eq_true rfl) rfl ?_
  refine ev_iload dX4_isOrdered_180 rfl ?_
  refine ev_if_eq 221 dX4_isOrdered_182 (by decide) (fun h182 => ?_) (fun h182 => absurd (by decide) h182)
  refine ev_iload_n 2 dX4_isOrdered_221 rfl rfl ?_
  refine ev_bipush (nI 104) dX4_isOrdered_222 rfl ?_
  refine ev_icmp_eq 237 dX4_isOrdered_224 (by decide) (fun h224 => absurd h224 (by decide)) (fun h224 => ?_)
  refine ev_aload_n 0 dX4_isOrdered_227 rfl rfl ?_
  refine ev_bipush (nI 61) dX4_isOrdered_228 rfl ?_
  refine ev_bipush (nI 61) dX4_isOrdered_230 rfl ?_
  refine ev_cV2 (c4_signS σ z Y g hℓ hl (sg Y.2.2.2.2.1 ℓ (nI 48) (nI 53) (p + 1, false)) (sg_le hp (by decide)) _ _) kX4_sign rfl g1355 rfl rfl rfl rfl dX4_isOrdered_232 ?_
  refine ev_istore dX4_isOrdered_235 (Nat.le_of_ble_eq_true rfl) rfl ?_
  refine ev_iload_n 2 dX4_isOrdered_237 rfl rfl ?_
  refine ev_bipush (nI 112) dX4_isOrdered_238 rfl ?_
  refine ev_icmp_ne 254 dX4_isOrdered_240 (by decide) (fun h240 => ?_) (fun h240 => absurd h240 (by decide))
  refine ev_iload_n 2 dX4_isOrdered_254 rfl rfl ?_
  refine ev_bipush (nI 99) dX4_isOrdered_255 rfl ?_
  refine ev_icmp_ne 270 dX4_isOrdered_257 (by decide) (fun h257 => absurd (by decide) h257) (fun h257 => ?_)
  refine ev_aload_n 0 dX4_isOrdered_260 rfl rfl ?_
  refine ev_iconst (nI 0) dX4_isOrdered_261 rfl ?_
  refine ev_bipush (nI 90) dX4_isOrdered_262 rfl ?_
  refine ev_cV2 (c4_numberS σ z Y g hℓ hl (sg Y.2.2.2.2.1 ℓ (nI 61) (nI 61) (sg Y.2.2.2.2.1 ℓ (nI 48) (nI 53) (p + 1, false))) (sg_le (sg_le hp (by decide)) (by decide)) (lo := nI 0) (nI 90) (by decide)) kX4_number rfl g1359 rfl rfl rfl rfl dX4_isOrdered_264 ?_
  refine ev_goto 308 dX4_isOrdered_267 (by decide) ?_
  refine ev_istore dX4_isOrdered_308 (Nat.le_of_ble_eq_true rfl) rfl ?_
  refine ev_w (w' := rw9 σ (zE z (orS Y.2.2.2.2.1 ℓ (nI 53) (nI 0) (nI 90) (p + 1, false)).1) Y g) rfl ?_
  exact ev_sub [0, 1, 2, 6, 7, 8] rfl H
set_option maxHeartbeats 1000000 in
theorem o4_43 (σ z : Nat → Int32) (Y : RY) (g : PW) {ℓ : Nat} (hℓ : ℓ ≤ 60) (hl : z 1 = nI ℓ) {p : Nat} (hp : p < ℓ) (hb : Y.2.2.2.2.1 p = nI 43) (d : Int32) {po : PO} (H : Ev mX4_isOrdered po nx 0 310 [(8, .int (orP Y.2.2.2.2.1 ℓ (p + 1, false)).2.2.2), (7, .int (orP Y.2.2.2.2.1 ℓ (p + 1, false)).2.2.1), (6, .int (orP Y.2.2.2.2.1 ℓ (p + 1, false)).2.1), (2, .int (nI 43)), (0, .ref 0), (1, .int d)] [] (rw9 σ (zE z (orP Y.2.2.2.2.1 ℓ (p + 1, false)).1) Y g)) : Ev mX4_isOrdered po nx 0 0 [(0, .ref 0), (1, .int d)] [] (rw9 σ (zE z (p, false)) Y g) := by
  refine ev_aload_n 0 dX4_isOrdered_0 rfl rfl ?_
  refine ev_getfield 9 dX4_isOrdered_1 foX4_140 rfl rfl ?_
  refine ev_top (nI p) rfl ?_
  refine ev_aload_n 0 dX4_isOrdered_4 rfl rfl ?_
  refine ev_getfield 7 dX4_isOrdered_5 foX4_137 rfl rfl ?_
  refine ev_top (nI ℓ) ((zE_n _ _ (by decide) (by decide)).trans hl) ?_
  refine ev_icmp_ge 30 dX4_isOrdered_8 (by decide) (fun h8 => absurd h8 (nI_ge hp (by omega))) (fun h8 => ?_)
  refine ev_aload_n 0 dX4_isOrdered_11 rfl rfl ?_
  refine ev_getfield 10 dX4_isOrdered_12 foX4_143 rfl rfl ?_
  refine ev_top (bI false) rfl ?_
  refine ev_if_ne 30 dX4_isOrdered_15 (by decide) (fun h15 => absurd rfl h15) (fun h15 => ?_)
  refine ev_aload_n 0 dX4_isOrdered_18 rfl rfl ?_
  refine ev_getfield 6 dX4_isOrdered_19 foX4_26 rfl rfl ?_
  refine ev_aload_n 0 dX4_isOrdered_22 rfl rfl ?_
  refine ev_getfield 9 dX4_isOrdered_23 foX4_140 rfl rfl ?_
  refine ev_top (nI p) rfl ?_
  refine ev_ild p dX4_isOrdered_26 rfl rfl (by omega) rfl ?_
  refine ev_top (nI 43) hb ?_
  refine ev_goto 31 dX4_isOrdered_27 (by decide) ?_
  refine ev_istore_n 2 dX4_isOrdered_31 rfl (Nat.le_of_ble_eq_true rfl) rfl ?_
  refine ev_iload_n 2 dX4_isOrdered_32 rfl rfl ?_
  refine ev_bipush (nI 112) dX4_isOrdered_33 rfl ?_
  refine ev_icmp_eq 44 dX4_isOrdered_35 (by decide) (fun h35 => absurd h35 (by decide)) (fun h35 => ?_)
  refine ev_iload_n 2 dX4_isOrdered_38 rfl rfl ?_
  refine ev_bipush (nI 99) dX4_isOrdered_39 rfl ?_
  refine ev_icmp_ne 48 dX4_isOrdered_41 (by decide) (fun h41 => ?_) (fun h41 => absurd h41 (by decide))
  refine ev_iconst (nI 0) dX4_isOrdered_48 rfl ?_
  refine ev_istore_n 3 dX4_isOrdered_49 rfl (Nat.le_of_ble_eq_true rfl) rfl ?_
  refine ev_iload_n 2 dX4_isOrdered_50 rfl rfl ?_
  refine ev_bipush (nI 43) dX4_isOrdered_51 rfl ?_
  refine ev_icmp_eq 62 dX4_isOrdered_53 (by decide) (fun h53 => ?_) (fun h53 => absurd (by decide) h53)
  refine ev_iconst (nI 1) dX4_isOrdered_62 rfl ?_
  refine ev_goto 67 dX4_isOrdered_63 (by decide) ?_
  refine ev_istore dX4_isOrdered_67 (Nat.le_of_ble_eq_true rfl) rfl ?_
  refine ev_iload_n 2 dX4_isOrdered_69 rfl rfl ?_
  refine ev_bipush (nI 108) dX4_isOrdered_70 rfl ?_
  refine ev_icmp_eq 81 dX4_isOrdered_72 (by decide) (fun h72 => absurd h72 (by decide)) (fun h72 => ?_)
  refine ev_iload_n 2 dX4_isOrdered_75 rfl rfl ?_
  refine ev_bipush (nI 98) dX4_isOrdered_76 rfl ?_
  refine ev_icmp_ne 85 dX4_isOrdered_78 (by decide) (fun h78 => ?_) (fun h78 => absurd h78 (by decide))
  refine ev_iconst (nI 0) dX4_isOrdered_85 rfl ?_
  refine ev_istore dX4_isOrdered_86 (Nat.le_of_ble_eq_true rfl) rfl ?_
  refine ev_aload_n 0 dX4_isOrdered_88 rfl rfl ?_
  refine ev_aload_n 0 dX4_isOrdered_89 rfl rfl ?_
  refine ev_getfield 10 dX4_isOrdered_90 foX4_143 rfl rfl ?_
  refine ev_top (bI false) rfl ?_
  refine ev_if_ne 116 dX4_isOrdered_93 (by decide) (fun h93 => absurd rfl h93) (fun h93 => ?_)
  refine ev_iload_n 3 dX4_isOrdered_96 rfl rfl ?_
  refine ev_if_ne 120 dX4_isOrdered_97 (by decide) (fun h97 => absurd (by decide) h97) (fun h97 => ?_)
  refine ev_iload dX4_isOrdered_100 rfl ?_
  refine ev_if_ne 120 dX4_isOrdered_102 (by decide) (fun h102 => ?_) (fun h102 => absurd h102 (by decide))
  refine ev_iconst (nI 0) dX4_isOrdered_120 rfl ?_
  refine ev_top (bI false) rfl ?_
  refine ev_putfield 10 dX4_isOrdered_121 fpX4_143 rfl (Nat.le_of_ble_eq_true rfl) (fun _ => bI_nar _) (fun _ => bI_fit _) (rz4 _ _ _ _ _) ?_
  refine ev_w (w' := rw9 σ (zE z (p, false)) Y g) (congrArg (fun q => rw9 σ q Y g) (zE_4 _ _ _)) ?_
  refine ev_aload_n 0 dX4_isOrdered_124 rfl rfl ?_
  refine ev_dup dX4_isOrdered_125 rfl ?_
  refine ev_getfield 9 dX4_isOrdered_126 foX4_140 rfl rfl ?_
  refine ev_top (nI p) rfl ?_
  refine ev_aload_n 0 dX4_isOrdered_129 rfl rfl ?_
  refine ev_getfield 10 dX4_isOrdered_130 foX4_143 rfl rfl ?_
  refine ev_top (bI false) rfl ?_
  refine ev_if_eq 140 dX4_isOrdered_133 (by decide) (fun h133 => ?_) (fun h133 => absurd (by decide) h133)
  refine ev_iconst (nI 1) dX4_isOrdered_140 rfl ?_
  refine ev_iadd dX4_isOrdered_141 ?_
  refine ev_top (nI (p + 1)) (nI_add p 1) ?_
  refine ev_putfield 9 dX4_isOrdered_142 fpX4_140 rfl (Nat.le_of_ble_eq_true rfl) (fun _ => rfl) (fun _ => rfl) (rz3 _ _ _ _ _) ?_
  refine ev_w (w' := rw9 σ (zE z (p + 1, false)) Y g) (congrArg (fun q => rw9 σ q Y g) (zE_3 _ _ _)) ?_
  refine ev_iload_n 2 dX4_isOrdered_145 rfl rfl ?_
  refine ev_bipush (nI 104) dX4_isOrdered_146 rfl ?_
  refine ev_icmp_ne 155 dX4_isOrdered_148 (by decide) (fun h148 => ?_) (fun h148 => absurd h148 (by decide))
  refine ev_aload_n 0 dX4_isOrdered_155 rfl rfl ?_
  refine ev_bipush (nI 48) dX4_isOrdered_156 rfl ?_
  refine ev_iload_n 3 dX4_isOrdered_158 rfl rfl ?_
  refine ev_if_eq 167 dX4_isOrdered_159 (by decide) (fun h159 => ?_) (fun h159 => absurd (by decide) h159)
  refine ev_bipush (nI 55) dX4_isOrdered_167 rfl ?_
  refine ev_cV2 (c4_signS σ z Y g hℓ hl (p + 1, false) hp _ _) kX4_sign rfl g1355 rfl rfl rfl rfl dX4_isOrdered_169 ?_
  refine ev_bipush (nI 48) dX4_isOrdered_172 rfl ?_
  refine ev_isub dX4_isOrdered_174 ?_
  refine ev_istore dX4_isOrdered_175 (Nat.le_of_ble_eq_true rfl) rfl ?_
  refine ev_iconst (nI 0) dX4_isOrdered_177 rfl ?_
  refine ev_istore dX4_isOrdered_178 (Nat.le_of_ble_eq_true rfl) rfl ?_
  refine ev_iload dX4_isOrdered_180 rfl ?_
  refine ev_if_eq 221 dX4_isOrdered_182 (by decide) (fun h182 => absurd h182 (by decide)) (fun h182 => ?_)
  refine ev_aload_n 0 dX4_isOrdered_185 rfl rfl ?_
  refine ev_bipush (nI 58) dX4_isOrdered_186 rfl ?_
  refine ev_bipush (nI 58) dX4_isOrdered_188 rfl ?_
  refine ev_cV2 (c4_signS σ z Y g hℓ hl (sg Y.2.2.2.2.1 ℓ (nI 48) (nI 55) (p + 1, false)) (sg_le hp (by decide)) _ _) kX4_sign rfl g1355 rfl rfl rfl rfl dX4_isOrdered_190 ?_
  refine ev_istore dX4_isOrdered_193 (Nat.le_of_ble_eq_true rfl) rfl ?_
  refine ev_aload_n 0 dX4_isOrdered_195 rfl rfl ?_
  refine ev_bipush (nI 48) dX4_isOrdered_196 rfl ?_
  refine ev_bipush (nI 53) dX4_isOrdered_198 rfl ?_
  refine ev_w (w' := rw9 σ (zE z (orP2 Y.2.2.2.2.1 ℓ (p + 1, false))) Y g) rfl ?_
  refine ev_cV2 (c4_signS σ z Y g hℓ hl (orP2 Y.2.2.2.2.1 ℓ (p + 1, false)) (sg_le (sg_le hp (by decide)) (by decide)) _ _) kX4_sign rfl g1355 rfl rfl rfl rfl dX4_isOrdered_200 ?_
  refine ev_bipush (nI 48) dX4_isOrdered_203 rfl ?_
  refine ev_isub dX4_isOrdered_205 ?_
  refine ev_istore dX4_isOrdered_206 (Nat.le_of_ble_eq_true rfl) rfl ?_
  refine ev_aload_n 0 dX4_isOrdered_208 rfl rfl ?_
  refine ev_bipush (nI 42) dX4_isOrdered_209 rfl ?_
  refine ev_bipush (nI 42) dX4_isOrdered_211 rfl ?_
  refine ev_cV2 (c4_signS σ z Y g hℓ hl (sg Y.2.2.2.2.1 ℓ (nI 48) (nI 53) (orP2 Y.2.2.2.2.1 ℓ (p + 1, false))) (sg_le (sg_le (sg_le hp (by decide)) (by decide)) (by decide)) _ _) kX4_sign rfl g1355 rfl rfl rfl rfl dX4_isOrdered_213 ?_
  refine ev_w (w' := rw9 σ (zE z (orP4 Y.2.2.2.2.1 ℓ (p + 1, false))) Y g) rfl ?_
  refine ev_istore dX4_isOrdered_216 (Nat.le_of_ble_eq_true rfl) rfl ?_
  refine ev_goto 237 dX4_isOrdered_218 (by decide) ?_
  refine ev_iload_n 2 dX4_isOrdered_237 rfl rfl ?_
  refine ev_bipush (nI 112) dX4_isOrdered_238 rfl ?_
  refine ev_icmp_ne 254 dX4_isOrdered_240 (by decide) (fun h240 => ?_) (fun h240 => absurd h240 (by decide))
  refine ev_iload_n 2 dX4_isOrdered_254 rfl rfl ?_
  refine ev_bipush (nI 99) dX4_isOrdered_255 rfl ?_
  refine ev_icmp_ne 270 dX4_isOrdered_257 (by decide) (fun h257 => ?_) (fun h257 => absurd h257 (by decide))
  refine ev_iload dX4_isOrdered_270 rfl ?_
  refine ev_if_eq 285 dX4_isOrdered_272 (by decide) (fun h272 => absurd h272 (by decide)) (fun h272 => ?_)
  refine ev_aload_n 0 dX4_isOrdered_275 rfl rfl ?_
  refine ev_iconst (nI 1) dX4_isOrdered_276 rfl ?_
  refine ev_bipush (nI 50) dX4_isOrdered_277 rfl ?_
  refine ev_cV2 (c4_numberS σ z Y g hℓ hl (orP4 Y.2.2.2.2.1 ℓ (p + 1, false)) (sg_le (sg_le (sg_le (sg_le hp (by decide)) (by decide)) (by decide)) (by decide)) (lo := nI 1) (nI 50) (by decide)) kX4_number rfl g1359 rfl rfl rfl rfl dX4_isOrdered_279 ?_
  refine ev_goto 308 dX4_isOrdered_282 (by decide) ?_
  refine ev_istore dX4_isOrdered_308 (Nat.le_of_ble_eq_true rfl) rfl ?_
  refine ev_w (w' := rw9 σ (zE z (orP Y.2.2.2.2.1 ℓ (p + 1, false)).1) Y g) rfl ?_
  exact ev_sub [0, 1, 2, 6, 7, 8] rfl H
set_option maxHeartbeats 1000000 in
theorem o4_45 (σ z : Nat → Int32) (Y : RY) (g : PW) {ℓ : Nat} (hℓ : ℓ ≤ 60) (hl : z 1 = nI ℓ) {p : Nat} (hp : p < ℓ) (hb : Y.2.2.2.2.1 p = nI 45) (d : Int32) {po : PO} (H : Ev mX4_isOrdered po nx 0 310 [(8, .int (orP Y.2.2.2.2.1 ℓ (p + 1, false)).2.2.2), (7, .int (orP Y.2.2.2.2.1 ℓ (p + 1, false)).2.2.1), (6, .int (orP Y.2.2.2.2.1 ℓ (p + 1, false)).2.1), (2, .int (nI 45)), (0, .ref 0), (1, .int d)] [] (rw9 σ (zE z (orP Y.2.2.2.2.1 ℓ (p + 1, false)).1) Y g)) : Ev mX4_isOrdered po nx 0 0 [(0, .ref 0), (1, .int d)] [] (rw9 σ (zE z (p, false)) Y g) := by
  refine ev_aload_n 0 dX4_isOrdered_0 rfl rfl ?_
  refine ev_getfield 9 dX4_isOrdered_1 foX4_140 rfl rfl ?_
  refine ev_top (nI p) rfl ?_
  refine ev_aload_n 0 dX4_isOrdered_4 rfl rfl ?_
  refine ev_getfield 7 dX4_isOrdered_5 foX4_137 rfl rfl ?_
  refine ev_top (nI ℓ) ((zE_n _ _ (by decide) (by decide)).trans hl) ?_
  refine ev_icmp_ge 30 dX4_isOrdered_8 (by decide) (fun h8 => absurd h8 (nI_ge hp (by omega))) (fun h8 => ?_)
  refine ev_aload_n 0 dX4_isOrdered_11 rfl rfl ?_
  refine ev_getfield 10 dX4_isOrdered_12 foX4_143 rfl rfl ?_
  refine ev_top (bI false) rfl ?_
  refine ev_if_ne 30 dX4_isOrdered_15 (by decide) (fun h15 => absurd rfl h15) (fun h15 => ?_)
  refine ev_aload_n 0 dX4_isOrdered_18 rfl rfl ?_
  refine ev_getfield 6 dX4_isOrdered_19 foX4_26 rfl rfl ?_
  refine ev_aload_n 0 dX4_isOrdered_22 rfl rfl ?_
  refine ev_getfield 9 dX4_isOrdered_23 foX4_140 rfl rfl ?_
  refine ev_top (nI p) rfl ?_
  refine ev_ild p dX4_isOrdered_26 rfl rfl (by omega) rfl ?_
  refine ev_top (nI 45) hb ?_
  refine ev_goto 31 dX4_isOrdered_27 (by decide) ?_
  refine ev_istore_n 2 dX4_isOrdered_31 rfl (Nat.le_of_ble_eq_true rfl) rfl ?_
  refine ev_iload_n 2 dX4_isOrdered_32 rfl rfl ?_
  refine ev_bipush (nI 112) dX4_isOrdered_33 rfl ?_
  refine ev_icmp_eq 44 dX4_isOrdered_35 (by decide) (fun h35 => absurd h35 (by decide)) (fun h35 => ?_)
  refine ev_iload_n 2 dX4_isOrdered_38 rfl rfl ?_
  refine ev_bipush (nI 99) dX4_isOrdered_39 rfl ?_
  refine ev_icmp_ne 48 dX4_isOrdered_41 (by decide) (fun h41 => ?_) (fun h41 => absurd h41 (by decide))
  refine ev_iconst (nI 0) dX4_isOrdered_48 rfl ?_
  refine ev_istore_n 3 dX4_isOrdered_49 rfl (Nat.le_of_ble_eq_true rfl) rfl ?_
  refine ev_iload_n 2 dX4_isOrdered_50 rfl rfl ?_
  refine ev_bipush (nI 43) dX4_isOrdered_51 rfl ?_
  refine ev_icmp_eq 62 dX4_isOrdered_53 (by decide) (fun h53 => absurd h53 (by decide)) (fun h53 => ?_)
  refine ev_iload_n 2 dX4_isOrdered_56 rfl rfl ?_
  refine ev_bipush (nI 45) dX4_isOrdered_57 rfl ?_
  refine ev_icmp_ne 66 dX4_isOrdered_59 (by decide) (fun h59 => absurd (by decide) h59) (fun h59 => ?_)
  refine ev_iconst (nI 1) dX4_isOrdered_62 rfl ?_
  refine ev_goto 67 dX4_isOrdered_63 (by decide) ?_
  refine ev_istore dX4_isOrdered_67 (Nat.le_of_ble_eq_true rfl) rfl ?_
  refine ev_iload_n 2 dX4_isOrdered_69 rfl rfl ?_
  refine ev_bipush (nI 108) dX4_isOrdered_70 rfl ?_
  refine ev_icmp_eq 81 dX4_isOrdered_72 (by decide) (fun h72 => absurd h72 (by decide)) (fun h72 => ?_)
  refine ev_iload_n 2 dX4_isOrdered_75 rfl rfl ?_
  refine ev_bipush (nI 98) dX4_isOrdered_76 rfl ?_
  refine ev_icmp_ne 85 dX4_isOrdered_78 (by decide) (fun h78 => ?_) (fun h78 => absurd h78 (by decide))
  refine ev_iconst (nI 0) dX4_isOrdered_85 rfl ?_
  refine ev_istore dX4_isOrdered_86 (Nat.le_of_ble_eq_true rfl) rfl ?_
  refine ev_aload_n 0 dX4_isOrdered_88 rfl rfl ?_
  refine ev_aload_n 0 dX4_isOrdered_89 rfl rfl ?_
  refine ev_getfield 10 dX4_isOrdered_90 foX4_143 rfl rfl ?_
  refine ev_top (bI false) rfl ?_
  refine ev_if_ne 116 dX4_isOrdered_93 (by decide) (fun h93 => absurd rfl h93) (fun h93 => ?_)
  refine ev_iload_n 3 dX4_isOrdered_96 rfl rfl ?_
  refine ev_if_ne 120 dX4_isOrdered_97 (by decide) (fun h97 => absurd (by decide) h97) (fun h97 => ?_)
  refine ev_iload dX4_isOrdered_100 rfl ?_
  refine ev_if_ne 120 dX4_isOrdered_102 (by decide) (fun h102 => ?_) (fun h102 => absurd h102 (by decide))
  refine ev_iconst (nI 0) dX4_isOrdered_120 rfl ?_
  refine ev_top (bI false) rfl ?_
  refine ev_putfield 10 dX4_isOrdered_121 fpX4_143 rfl (Nat.le_of_ble_eq_true rfl) (fun _ => bI_nar _) (fun _ => bI_fit _) (rz4 _ _ _ _ _) ?_
  refine ev_w (w' := rw9 σ (zE z (p, false)) Y g) (congrArg (fun q => rw9 σ q Y g) (zE_4 _ _ _)) ?_
  refine ev_aload_n 0 dX4_isOrdered_124 rfl rfl ?_
  refine ev_dup dX4_isOrdered_125 rfl ?_
  refine ev_getfield 9 dX4_isOrdered_126 foX4_140 rfl rfl ?_
  refine ev_top (nI p) rfl ?_
  refine ev_aload_n 0 dX4_isOrdered_129 rfl rfl ?_
  refine ev_getfield 10 dX4_isOrdered_130 foX4_143 rfl rfl ?_
  refine ev_top (bI false) rfl ?_
  refine ev_if_eq 140 dX4_isOrdered_133 (by decide) (fun h133 => ?_) (fun h133 => absurd (by decide) h133)
  refine ev_iconst (nI 1) dX4_isOrdered_140 rfl ?_
  refine ev_iadd dX4_isOrdered_141 ?_
  refine ev_top (nI (p + 1)) (nI_add p 1) ?_
  refine ev_putfield 9 dX4_isOrdered_142 fpX4_140 rfl (Nat.le_of_ble_eq_true rfl) (fun _ => rfl) (fun _ => rfl) (rz3 _ _ _ _ _) ?_
  refine ev_w (w' := rw9 σ (zE z (p + 1, false)) Y g) (congrArg (fun q => rw9 σ q Y g) (zE_3 _ _ _)) ?_
  refine ev_iload_n 2 dX4_isOrdered_145 rfl rfl ?_
  refine ev_bipush (nI 104) dX4_isOrdered_146 rfl ?_
  refine ev_icmp_ne 155 dX4_isOrdered_148 (by decide) (fun h148 => ?_) (fun h148 => absurd h148 (by decide))
  refine ev_aload_n 0 dX4_isOrdered_155 rfl rfl ?_
  refine ev_bipush (nI 48) dX4_isOrdered_156 rfl ?_
  refine ev_iload_n 3 dX4_isOrdered_158 rfl rfl ?_
  refine ev_if_eq 167 dX4_isOrdered_159 (by decide) (fun h159 => ?_) (fun h159 => absurd (by decide) h159)
  refine ev_bipush (nI 55) dX4_isOrdered_167 rfl ?_
  refine ev_cV2 (c4_signS σ z Y g hℓ hl (p + 1, false) hp _ _) kX4_sign rfl g1355 rfl rfl rfl rfl dX4_isOrdered_169 ?_
  refine ev_bipush (nI 48) dX4_isOrdered_172 rfl ?_
  refine ev_isub dX4_isOrdered_174 ?_
  refine ev_istore dX4_isOrdered_175 (Nat.le_of_ble_eq_true rfl) rfl ?_
  refine ev_iconst (nI 0) dX4_isOrdered_177 rfl ?_
  refine ev_istore dX4_isOrdered_178 (Nat.le_of_ble_eq_true rfl) rfl ?_
  refine ev_iload dX4_isOrdered_180 rfl ?_
  refine ev_if_eq 221 dX4_isOrdered_182 (by decide) (fun h182 => absurd h182 (by decide)) (fun h182 => ?_)
  refine ev_aload_n 0 dX4_isOrdered_185 rfl rfl ?_
  refine ev_bipush (nI 58) dX4_isOrdered_186 rfl ?_
  refine ev_bipush (nI 58) dX4_isOrdered_188 rfl ?_
  refine ev_cV2 (c4_signS σ z Y g hℓ hl (sg Y.2.2.2.2.1 ℓ (nI 48) (nI 55) (p + 1, false)) (sg_le hp (by decide)) _ _) kX4_sign rfl g1355 rfl rfl rfl rfl dX4_isOrdered_190 ?_
  refine ev_istore dX4_isOrdered_193 (Nat.le_of_ble_eq_true rfl) rfl ?_
  refine ev_aload_n 0 dX4_isOrdered_195 rfl rfl ?_
  refine ev_bipush (nI 48) dX4_isOrdered_196 rfl ?_
  refine ev_bipush (nI 53) dX4_isOrdered_198 rfl ?_
  refine ev_w (w' := rw9 σ (zE z (orP2 Y.2.2.2.2.1 ℓ (p + 1, false))) Y g) rfl ?_
  refine ev_cV2 (c4_signS σ z Y g hℓ hl (orP2 Y.2.2.2.2.1 ℓ (p + 1, false)) (sg_le (sg_le hp (by decide)) (by decide)) _ _) kX4_sign rfl g1355 rfl rfl rfl rfl dX4_isOrdered_200 ?_
  refine ev_bipush (nI 48) dX4_isOrdered_203 rfl ?_
  refine ev_isub dX4_isOrdered_205 ?_
  refine ev_istore dX4_isOrdered_206 (Nat.le_of_ble_eq_true rfl) rfl ?_
  refine ev_aload_n 0 dX4_isOrdered_208 rfl rfl ?_
  refine ev_bipush (nI 42) dX4_isOrdered_209 rfl ?_
  refine ev_bipush (nI 42) dX4_isOrdered_211 rfl ?_
  refine ev_cV2 (c4_signS σ z Y g hℓ hl (sg Y.2.2.2.2.1 ℓ (nI 48) (nI 53) (orP2 Y.2.2.2.2.1 ℓ (p + 1, false))) (sg_le (sg_le (sg_le hp (by decide)) (by decide)) (by decide)) _ _) kX4_sign rfl g1355 rfl rfl rfl rfl dX4_isOrdered_213 ?_
  refine ev_w (w' := rw9 σ (zE z (orP4 Y.2.2.2.2.1 ℓ (p + 1, false))) Y g) rfl ?_
  refine ev_istore dX4_isOrdered_216 (Nat.le_of_ble_eq_true rfl) rfl ?_
  refine ev_goto 237 dX4_isOrdered_218 (by decide) ?_
  refine ev_iload_n 2 dX4_isOrdered_237 rfl rfl ?_
  refine ev_bipush (nI 112) dX4_isOrdered_238 rfl ?_
  refine ev_icmp_ne 254 dX4_isOrdered_240 (by decide) (fun h240 => ?_) (fun h240 => absurd h240 (by decide))
  refine ev_iload_n 2 dX4_isOrdered_254 rfl rfl ?_
  refine ev_bipush (nI 99) dX4_isOrdered_255 rfl ?_
  refine ev_icmp_ne 270 dX4_isOrdered_257 (by decide) (fun h257 => ?_) (fun h257 => absurd h257 (by decide))
  refine ev_iload dX4_isOrdered_270 rfl ?_
  refine ev_if_eq 285 dX4_isOrdered_272 (by decide) (fun h272 => absurd h272 (by decide)) (fun h272 => ?_)
  refine ev_aload_n 0 dX4_isOrdered_275 rfl rfl ?_
  refine ev_iconst (nI 1) dX4_isOrdered_276 rfl ?_
  refine ev_bipush (nI 50) dX4_isOrdered_277 rfl ?_
  refine ev_cV2 (c4_numberS σ z Y g hℓ hl (orP4 Y.2.2.2.2.1 ℓ (p + 1, false)) (sg_le (sg_le (sg_le (sg_le hp (by decide)) (by decide)) (by decide)) (by decide)) (lo := nI 1) (nI 50) (by decide)) kX4_number rfl g1359 rfl rfl rfl rfl dX4_isOrdered_279 ?_
  refine ev_goto 308 dX4_isOrdered_282 (by decide) ?_
  refine ev_istore dX4_isOrdered_308 (Nat.le_of_ble_eq_true rfl) rfl ?_
  refine ev_w (w' := rw9 σ (zE z (orP Y.2.2.2.2.1 ℓ (p + 1, false)).1) Y g) rfl ?_
  exact ev_sub [0, 1, 2, 6, 7, 8] rfl H
set_option maxHeartbeats 1000000 in
theorem o4_108 (σ z : Nat → Int32) (Y : RY) (g : PW) {ℓ : Nat} (hℓ : ℓ ≤ 60) (hl : z 1 = nI ℓ) {p : Nat} (hp : p < ℓ) (hb : Y.2.2.2.2.1 p = nI 108) (d : Int32) {po : PO} (H : Ev mX4_isOrdered po nx 0 310 [(8, .int (orS Y.2.2.2.2.1 ℓ (nI 55) (nI 1) (nI 9999) (p + 1, false)).2.2.2), (7, .int (orS Y.2.2.2.2.1 ℓ (nI 55) (nI 1) (nI 9999) (p + 1, false)).2.2.1), (6, .int (orS Y.2.2.2.2.1 ℓ (nI 55) (nI 1) (nI 9999) (p + 1, false)).2.1), (2, .int (nI 108)), (0, .ref 0), (1, .int d)] [] (rw9 σ (zE z (orS Y.2.2.2.2.1 ℓ (nI 55) (nI 1) (nI 9999) (p + 1, false)).1) Y g)) : Ev mX4_isOrdered po nx 0 0 [(0, .ref 0), (1, .int d)] [] (rw9 σ (zE z (p, false)) Y g) := by
  refine ev_aload_n 0 dX4_isOrdered_0 rfl rfl ?_
  refine ev_getfield 9 dX4_isOrdered_1 foX4_140 rfl rfl ?_
  refine ev_top (nI p) rfl ?_
  refine ev_aload_n 0 dX4_isOrdered_4 rfl rfl ?_
  refine ev_getfield 7 dX4_isOrdered_5 foX4_137 rfl rfl ?_
  refine ev_top (nI ℓ) ((zE_n _ _ (by decide) (by decide)).trans hl) ?_
  refine ev_icmp_ge 30 dX4_isOrdered_8 (by decide) (fun h8 => absurd h8 (nI_ge hp (by omega))) (fun h8 => ?_)
  refine ev_aload_n 0 dX4_isOrdered_11 rfl rfl ?_
  refine ev_getfield 10 dX4_isOrdered_12 foX4_143 rfl rfl ?_
  refine ev_top (bI false) rfl ?_
  refine ev_if_ne 30 dX4_isOrdered_15 (by decide) (fun h15 => absurd rfl h15) (fun h15 => ?_)
  refine ev_aload_n 0 dX4_isOrdered_18 rfl rfl ?_
  refine ev_getfield 6 dX4_isOrdered_19 foX4_26 rfl rfl ?_
  refine ev_aload_n 0 dX4_isOrdered_22 rfl rfl ?_
  refine ev_getfield 9 dX4_isOrdered_23 foX4_140 rfl rfl ?_
  refine ev_top (nI p) rfl ?_
  refine ev_ild p dX4_isOrdered_26 rfl rfl (by omega) rfl ?_
  refine ev_top (nI 108) hb ?_
  refine ev_goto 31 dX4_isOrdered_27 (by decide) ?_
  refine ev_istore_n 2 dX4_isOrdered_31 rfl (Nat.le_of_ble_eq_true rfl) rfl ?_
  refine ev_iload_n 2 dX4_isOrdered_32 rfl rfl ?_
  refine ev_bipush (nI 112) dX4_isOrdered_33 rfl ?_
  refine ev_icmp_eq 44 dX4_isOrdered_35 (by decide) (fun h35 => absurd h35 (by decide)) (fun h35 => ?_)
  refine ev_iload_n 2 dX4_isOrdered_38 rfl rfl ?_
  refine ev_bipush (nI 99) dX4_isOrdered_39 rfl ?_
  refine ev_icmp_ne 48 dX4_isOrdered_41 (by decide) (fun h41 => ?_) (fun h41 => absurd h41 (by decide))
  refine ev_iconst (nI 0) dX4_isOrdered_48 rfl ?_
  refine ev_istore_n 3 dX4_isOrdered_49 rfl (Nat.le_of_ble_eq_true rfl) rfl ?_
  refine ev_iload_n 2 dX4_isOrdered_50 rfl rfl ?_
  refine ev_bipush (nI 43) dX4_isOrdered_51 rfl ?_
  refine ev_icmp_eq 62 dX4_isOrdered_53 (by decide) (fun h53 => absurd h53 (by decide)) (fun h53 => ?_)
  refine ev_iload_n 2 dX4_isOrdered_56 rfl rfl ?_
  refine ev_bipush (nI 45) dX4_isOrdered_57 rfl ?_
  refine ev_icmp_ne 66 dX4_isOrdered_59 (by decide) (fun h59 => ?_) (fun h59 => absurd h59 (by decide))
  refine ev_iconst (nI 0) dX4_isOrdered_66 rfl ?_
  refine ev_istore dX4_isOrdered_67 (Nat.le_of_ble_eq_true rfl) rfl ?_
  refine ev_iload_n 2 dX4_isOrdered_69 rfl rfl ?_
  refine ev_bipush (nI 108) dX4_isOrdered_70 rfl ?_
  refine ev_icmp_eq 81 dX4_isOrdered_72 (by decide) (fun h72 => ?_) (fun h72 => absurd (by decide) h72)
  refine ev_iconst (nI 1) dX4_isOrdered_81 rfl ?_
  refine ev_goto 86 dX4_isOrdered_82 (by decide) ?_
  refine ev_istore dX4_isOrdered_86 (Nat.le_of_ble_eq_true rfl) rfl ?_
  refine ev_aload_n 0 dX4_isOrdered_88 rfl rfl ?_
  refine ev_aload_n 0 dX4_isOrdered_89 rfl rfl ?_
  refine ev_getfield 10 dX4_isOrdered_90 foX4_143 rfl rfl ?_
  refine ev_top (bI false) rfl ?_
  refine ev_if_ne 116 dX4_isOrdered_93 (by decide) (fun h93 => absurd rfl h93) (fun h93 => ?_)
  refine ev_iload_n 3 dX4_isOrdered_96 rfl rfl ?_
  refine ev_if_ne 120 dX4_isOrdered_97 (by decide) (fun h97 => absurd (by decide) h97) (fun h97 => ?_)
  refine ev_iload dX4_isOrdered_100 rfl ?_
  refine ev_if_ne 120 dX4_isOrdered_102 (by decide) (fun h102 => absurd (by decide) h102) (fun h102 => ?_)
  refine ev_iload dX4_isOrdered_105 rfl ?_
  refine ev_if_ne 120 dX4_isOrdered_107 (by decide) (fun h107 => ?_) (fun h107 => absurd h107 (by decide))
  refine ev_iconst (nI 0) dX4_isOrdered_120 rfl ?_
  refine ev_top (bI false) rfl ?_
  refine ev_putfield 10 dX4_isOrdered_121 fpX4_143 rfl (Nat.le_of_ble_eq_true rfl) (fun _ => bI_nar _) (fun _ => bI_fit _) (rz4 _ _ _ _ _) ?_
  refine ev_w (w' := rw9 σ (zE z (p, false)) Y g) (congrArg (fun q => rw9 σ q Y g) (zE_4 _ _ _)) ?_
  refine ev_aload_n 0 dX4_isOrdered_124 rfl rfl ?_
  refine ev_dup dX4_isOrdered_125 rfl ?_
  refine ev_getfield 9 dX4_isOrdered_126 foX4_140 rfl rfl ?_
  refine ev_top (nI p) rfl ?_
  refine ev_aload_n 0 dX4_isOrdered_129 rfl rfl ?_
  refine ev_getfield 10 dX4_isOrdered_130 foX4_143 rfl rfl ?_
  refine ev_top (bI false) rfl ?_
  refine ev_if_eq 140 dX4_isOrdered_133 (by decide) (fun h133 => ?_) (fun h133 => absurd (by decide) h133)
  refine ev_iconst (nI 1) dX4_isOrdered_140 rfl ?_
  refine ev_iadd dX4_isOrdered_141 ?_
  refine ev_top (nI (p + 1)) (nI_add p 1) ?_
  refine ev_putfield 9 dX4_isOrdered_142 fpX4_140 rfl (Nat.le_of_ble_eq_true rfl) (fun _ => rfl) (fun _ => rfl) (rz3 _ _ _ _ _) ?_
  refine ev_w (w' := rw9 σ (zE z (p + 1, false)) Y g) (congrArg (fun q => rw9 σ q Y g) (zE_3 _ _ _)) ?_
  refine ev_iload_n 2 dX4_isOrdered_145 rfl rfl ?_
  refine ev_bipush (nI 104) dX4_isOrdered_146 rfl ?_
  refine ev_icmp_ne 155 dX4_isOrdered_148 (by decide) (fun h148 => ?_) (fun h148 => absurd h148 (by decide))
  refine ev_aload_n 0 dX4_isOrdered_155 rfl rfl ?_
  refine ev_bipush (nI 48) dX4_isOrdered_156 rfl ?_
  refine ev_iload_n 3 dX4_isOrdered_158 rfl rfl ?_
  refine ev_if_eq 167 dX4_isOrdered_159 (by decide) (fun h159 => ?_) (fun h159 => absurd (by decide) h159)
  refine ev_bipush (nI 55) dX4_isOrdered_167 rfl ?_
  refine ev_cV2 (c4_signS σ z Y g hℓ hl (p + 1, false) hp _ _) kX4_sign rfl g1355 rfl rfl rfl rfl dX4_isOrdered_169 ?_
  refine ev_bipush (nI 48) dX4_isOrdered_172 rfl ?_
  refine ev_isub dX4_isOrdered_174 ?_
  refine ev_istore dX4_isOrdered_175 (Nat.le_of_ble_eq_true rfl) rfl ?_
  refine ev_iconst (nI 0) dX4_isOrdered_177 rfl ?_
  refine ev_istore dX4_isOrdered_178 (Nat.le_of_ble_eq_true rfl) rfl ?_
  refine ev_iload dX4_isOrdered_180 rfl ?_
  refine ev_if_eq 221 dX4_isOrdered_182 (by decide) (fun h182 => ?_) (fun h182 => absurd (by decide) h182)
  refine ev_iload_n 2 dX4_isOrdered_221 rfl rfl ?_
  refine ev_bipush (nI 104) dX4_isOrdered_222 rfl ?_
  refine ev_icmp_eq 237 dX4_isOrdered_224 (by decide) (fun h224 => absurd h224 (by decide)) (fun h224 => ?_)
  refine ev_aload_n 0 dX4_isOrdered_227 rfl rfl ?_
  refine ev_bipush (nI 61) dX4_isOrdered_228 rfl ?_
  refine ev_bipush (nI 61) dX4_isOrdered_230 rfl ?_
  refine ev_cV2 (c4_signS σ z Y g hℓ hl (sg Y.2.2.2.2.1 ℓ (nI 48) (nI 55) (p + 1, false)) (sg_le hp (by decide)) _ _) kX4_sign rfl g1355 rfl rfl rfl rfl dX4_isOrdered_232 ?_
  refine ev_istore dX4_isOrdered_235 (Nat.le_of_ble_eq_true rfl) rfl ?_
  refine ev_iload_n 2 dX4_isOrdered_237 rfl rfl ?_
  refine ev_bipush (nI 112) dX4_isOrdered_238 rfl ?_
  refine ev_icmp_ne 254 dX4_isOrdered_240 (by decide) (fun h240 => ?_) (fun h240 => absurd h240 (by decide))
  refine ev_iload_n 2 dX4_isOrdered_254 rfl rfl ?_
  refine ev_bipush (nI 99) dX4_isOrdered_255 rfl ?_
  refine ev_icmp_ne 270 dX4_isOrdered_257 (by decide) (fun h257 => ?_) (fun h257 => absurd h257 (by decide))
  refine ev_iload dX4_isOrdered_270 rfl ?_
  refine ev_if_eq 285 dX4_isOrdered_272 (by decide) (fun h272 => ?_) (fun h272 => absurd (by decide) h272)
  refine ev_iload dX4_isOrdered_285 rfl ?_
  refine ev_if_eq 301 dX4_isOrdered_287 (by decide) (fun h287 => absurd h287 (by decide)) (fun h287 => ?_)
  refine ev_aload_n 0 dX4_isOrdered_290 rfl rfl ?_
  refine ev_iconst (nI 1) dX4_isOrdered_291 rfl ?_
  refine ev_sipush (nI 9999) dX4_isOrdered_292 rfl ?_
  refine ev_cV2 (c4_numberS σ z Y g hℓ hl (sg Y.2.2.2.2.1 ℓ (nI 61) (nI 61) (sg Y.2.2.2.2.1 ℓ (nI 48) (nI 55) (p + 1, false))) (sg_le (sg_le hp (by decide)) (by decide)) (lo := nI 1) (nI 9999) (by decide)) kX4_number rfl g1359 rfl rfl rfl rfl dX4_isOrdered_295 ?_
  refine ev_goto 308 dX4_isOrdered_298 (by decide) ?_
  refine ev_istore dX4_isOrdered_308 (Nat.le_of_ble_eq_true rfl) rfl ?_
  refine ev_w (w' := rw9 σ (zE z (orS Y.2.2.2.2.1 ℓ (nI 55) (nI 1) (nI 9999) (p + 1, false)).1) Y g) rfl ?_
  exact ev_sub [0, 1, 2, 6, 7, 8] rfl H
set_option maxHeartbeats 1000000 in
theorem o4_98 (σ z : Nat → Int32) (Y : RY) (g : PW) {ℓ : Nat} (hℓ : ℓ ≤ 60) (hl : z 1 = nI ℓ) {p : Nat} (hp : p < ℓ) (hb : Y.2.2.2.2.1 p = nI 98) (d : Int32) {po : PO} (H : Ev mX4_isOrdered po nx 0 310 [(8, .int (orS Y.2.2.2.2.1 ℓ (nI 55) (nI 1) (nI 9999) (p + 1, false)).2.2.2), (7, .int (orS Y.2.2.2.2.1 ℓ (nI 55) (nI 1) (nI 9999) (p + 1, false)).2.2.1), (6, .int (orS Y.2.2.2.2.1 ℓ (nI 55) (nI 1) (nI 9999) (p + 1, false)).2.1), (2, .int (nI 98)), (0, .ref 0), (1, .int d)] [] (rw9 σ (zE z (orS Y.2.2.2.2.1 ℓ (nI 55) (nI 1) (nI 9999) (p + 1, false)).1) Y g)) : Ev mX4_isOrdered po nx 0 0 [(0, .ref 0), (1, .int d)] [] (rw9 σ (zE z (p, false)) Y g) := by
  refine ev_aload_n 0 dX4_isOrdered_0 rfl rfl ?_
  refine ev_getfield 9 dX4_isOrdered_1 foX4_140 rfl rfl ?_
  refine ev_top (nI p) rfl ?_
  refine ev_aload_n 0 dX4_isOrdered_4 rfl rfl ?_
  refine ev_getfield 7 dX4_isOrdered_5 foX4_137 rfl rfl ?_
  refine ev_top (nI ℓ) ((zE_n _ _ (by decide) (by decide)).trans hl) ?_
  refine ev_icmp_ge 30 dX4_isOrdered_8 (by decide) (fun h8 => absurd h8 (nI_ge hp (by omega))) (fun h8 => ?_)
  refine ev_aload_n 0 dX4_isOrdered_11 rfl rfl ?_
  refine ev_getfield 10 dX4_isOrdered_12 foX4_143 rfl rfl ?_
  refine ev_top (bI false) rfl ?_
  refine ev_if_ne 30 dX4_isOrdered_15 (by decide) (fun h15 => absurd rfl h15) (fun h15 => ?_)
  refine ev_aload_n 0 dX4_isOrdered_18 rfl rfl ?_
  refine ev_getfield 6 dX4_isOrdered_19 foX4_26 rfl rfl ?_
  refine ev_aload_n 0 dX4_isOrdered_22 rfl rfl ?_
  refine ev_getfield 9 dX4_isOrdered_23 foX4_140 rfl rfl ?_
  refine ev_top (nI p) rfl ?_
  refine ev_ild p dX4_isOrdered_26 rfl rfl (by omega) rfl ?_
  refine ev_top (nI 98) hb ?_
  refine ev_goto 31 dX4_isOrdered_27 (by decide) ?_
  refine ev_istore_n 2 dX4_isOrdered_31 rfl (Nat.le_of_ble_eq_true rfl) rfl ?_
  refine ev_iload_n 2 dX4_isOrdered_32 rfl rfl ?_
  refine ev_bipush (nI 112) dX4_isOrdered_33 rfl ?_
  refine ev_icmp_eq 44 dX4_isOrdered_35 (by decide) (fun h35 => absurd h35 (by decide)) (fun h35 => ?_)
  refine ev_iload_n 2 dX4_isOrdered_38 rfl rfl ?_
  refine ev_bipush (nI 99) dX4_isOrdered_39 rfl ?_
  refine ev_icmp_ne 48 dX4_isOrdered_41 (by decide) (fun h41 => ?_) (fun h41 => absurd h41 (by decide))
  refine ev_iconst (nI 0) dX4_isOrdered_48 rfl ?_
  refine ev_istore_n 3 dX4_isOrdered_49 rfl (Nat.le_of_ble_eq_true rfl) rfl ?_
  refine ev_iload_n 2 dX4_isOrdered_50 rfl rfl ?_
  refine ev_bipush (nI 43) dX4_isOrdered_51 rfl ?_
  refine ev_icmp_eq 62 dX4_isOrdered_53 (by decide) (fun h53 => absurd h53 (by decide)) (fun h53 => ?_)
  refine ev_iload_n 2 dX4_isOrdered_56 rfl rfl ?_
  refine ev_bipush (nI 45) dX4_isOrdered_57 rfl ?_
  refine ev_icmp_ne 66 dX4_isOrdered_59 (by decide) (fun h59 => ?_) (fun h59 => absurd h59 (by decide))
  refine ev_iconst (nI 0) dX4_isOrdered_66 rfl ?_
  refine ev_istore dX4_isOrdered_67 (Nat.le_of_ble_eq_true rfl) rfl ?_
  refine ev_iload_n 2 dX4_isOrdered_69 rfl rfl ?_
  refine ev_bipush (nI 108) dX4_isOrdered_70 rfl ?_
  refine ev_icmp_eq 81 dX4_isOrdered_72 (by decide) (fun h72 => absurd h72 (by decide)) (fun h72 => ?_)
  refine ev_iload_n 2 dX4_isOrdered_75 rfl rfl ?_
  refine ev_bipush (nI 98) dX4_isOrdered_76 rfl ?_
  refine ev_icmp_ne 85 dX4_isOrdered_78 (by decide) (fun h78 => absurd (by decide) h78) (fun h78 => ?_)
  refine ev_iconst (nI 1) dX4_isOrdered_81 rfl ?_
  refine ev_goto 86 dX4_isOrdered_82 (by decide) ?_
  refine ev_istore dX4_isOrdered_86 (Nat.le_of_ble_eq_true rfl) rfl ?_
  refine ev_aload_n 0 dX4_isOrdered_88 rfl rfl ?_
  refine ev_aload_n 0 dX4_isOrdered_89 rfl rfl ?_
  refine ev_getfield 10 dX4_isOrdered_90 foX4_143 rfl rfl ?_
  refine ev_top (bI false) rfl ?_
  refine ev_if_ne 116 dX4_isOrdered_93 (by decide) (fun h93 => absurd rfl h93) (fun h93 => ?_)
  refine ev_iload_n 3 dX4_isOrdered_96 rfl rfl ?_
  refine ev_if_ne 120 dX4_isOrdered_97 (by decide) (fun h97 => absurd (by decide) h97) (fun h97 => ?_)
  refine ev_iload dX4_isOrdered_100 rfl ?_
  refine ev_if_ne 120 dX4_isOrdered_102 (by decide) (fun h102 => absurd (by decide) h102) (fun h102 => ?_)
  refine ev_iload dX4_isOrdered_105 rfl ?_
  refine ev_if_ne 120 dX4_isOrdered_107 (by decide) (fun h107 => ?_) (fun h107 => absurd h107 (by decide))
  refine ev_iconst (nI 0) dX4_isOrdered_120 rfl ?_
  refine ev_top (bI false) rfl ?_
  refine ev_putfield 10 dX4_isOrdered_121 fpX4_143 rfl (Nat.le_of_ble_eq_true rfl) (fun _ => bI_nar _) (fun _ => bI_fit _) (rz4 _ _ _ _ _) ?_
  refine ev_w (w' := rw9 σ (zE z (p, false)) Y g) (congrArg (fun q => rw9 σ q Y g) (zE_4 _ _ _)) ?_
  refine ev_aload_n 0 dX4_isOrdered_124 rfl rfl ?_
  refine ev_dup dX4_isOrdered_125 rfl ?_
  refine ev_getfield 9 dX4_isOrdered_126 foX4_140 rfl rfl ?_
  refine ev_top (nI p) rfl ?_
  refine ev_aload_n 0 dX4_isOrdered_129 rfl rfl ?_
  refine ev_getfield 10 dX4_isOrdered_130 foX4_143 rfl rfl ?_
  refine ev_top (bI false) rfl ?_
  refine ev_if_eq 140 dX4_isOrdered_133 (by decide) (fun h133 => ?_) (fun h133 => absurd (by decide) h133)
  refine ev_iconst (nI 1) dX4_isOrdered_140 rfl ?_
  refine ev_iadd dX4_isOrdered_141 ?_
  refine ev_top (nI (p + 1)) (nI_add p 1) ?_
  refine ev_putfield 9 dX4_isOrdered_142 fpX4_140 rfl (Nat.le_of_ble_eq_true rfl) (fun _ => rfl) (fun _ => rfl) (rz3 _ _ _ _ _) ?_
  refine ev_w (w' := rw9 σ (zE z (p + 1, false)) Y g) (congrArg (fun q => rw9 σ q Y g) (zE_3 _ _ _)) ?_
  refine ev_iload_n 2 dX4_isOrdered_145 rfl rfl ?_
  refine ev_bipush (nI 104) dX4_isOrdered_146 rfl ?_
  refine ev_icmp_ne 155 dX4_isOrdered_148 (by decide) (fun h148 => ?_) (fun h148 => absurd h148 (by decide))
  refine ev_aload_n 0 dX4_isOrdered_155 rfl rfl ?_
  refine ev_bipush (nI 48) dX4_isOrdered_156 rfl ?_
  refine ev_iload_n 3 dX4_isOrdered_158 rfl rfl ?_
  refine ev_if_eq 167 dX4_isOrdered_159 (by decide) (fun h159 => ?_) (fun h159 => absurd (by decide) h159)
  refine ev_bipush (nI 55) dX4_isOrdered_167 rfl ?_
  refine ev_cV2 (c4_signS σ z Y g hℓ hl (p + 1, false) hp _ _) kX4_sign rfl g1355 rfl rfl rfl rfl dX4_isOrdered_169 ?_
  refine ev_bipush (nI 48) dX4_isOrdered_172 rfl ?_
  refine ev_isub dX4_isOrdered_174 ?_
  refine ev_istore dX4_isOrdered_175 (Nat.le_of_ble_eq_true rfl) rfl ?_
  refine ev_iconst (nI 0) dX4_isOrdered_177 rfl ?_
  refine ev_istore dX4_isOrdered_178 (Nat.le_of_ble_eq_true rfl) rfl ?_
  refine ev_iload dX4_isOrdered_180 rfl ?_
  refine ev_if_eq 221 dX4_isOrdered_182 (by decide) (fun h182 => ?_) (fun h182 => absurd (by decide) h182)
  refine ev_iload_n 2 dX4_isOrdered_221 rfl rfl ?_
  refine ev_bipush (nI 104) dX4_isOrdered_222 rfl ?_
  refine ev_icmp_eq 237 dX4_isOrdered_224 (by decide) (fun h224 => absurd h224 (by decide)) (fun h224 => ?_)
  refine ev_aload_n 0 dX4_isOrdered_227 rfl rfl ?_
  refine ev_bipush (nI 61) dX4_isOrdered_228 rfl ?_
  refine ev_bipush (nI 61) dX4_isOrdered_230 rfl ?_
  refine ev_cV2 (c4_signS σ z Y g hℓ hl (sg Y.2.2.2.2.1 ℓ (nI 48) (nI 55) (p + 1, false)) (sg_le hp (by decide)) _ _) kX4_sign rfl g1355 rfl rfl rfl rfl dX4_isOrdered_232 ?_
  refine ev_istore dX4_isOrdered_235 (Nat.le_of_ble_eq_true rfl) rfl ?_
  refine ev_iload_n 2 dX4_isOrdered_237 rfl rfl ?_
  refine ev_bipush (nI 112) dX4_isOrdered_238 rfl ?_
  refine ev_icmp_ne 254 dX4_isOrdered_240 (by decide) (fun h240 => ?_) (fun h240 => absurd h240 (by decide))
  refine ev_iload_n 2 dX4_isOrdered_254 rfl rfl ?_
  refine ev_bipush (nI 99) dX4_isOrdered_255 rfl ?_
  refine ev_icmp_ne 270 dX4_isOrdered_257 (by decide) (fun h257 => ?_) (fun h257 => absurd h257 (by decide))
  refine ev_iload dX4_isOrdered_270 rfl ?_
  refine ev_if_eq 285 dX4_isOrdered_272 (by decide) (fun h272 => ?_) (fun h272 => absurd (by decide) h272)
  refine ev_iload dX4_isOrdered_285 rfl ?_
  refine ev_if_eq 301 dX4_isOrdered_287 (by decide) (fun h287 => absurd h287 (by decide)) (fun h287 => ?_)
  refine ev_aload_n 0 dX4_isOrdered_290 rfl rfl ?_
  refine ev_iconst (nI 1) dX4_isOrdered_291 rfl ?_
  refine ev_sipush (nI 9999) dX4_isOrdered_292 rfl ?_
  refine ev_cV2 (c4_numberS σ z Y g hℓ hl (sg Y.2.2.2.2.1 ℓ (nI 61) (nI 61) (sg Y.2.2.2.2.1 ℓ (nI 48) (nI 55) (p + 1, false))) (sg_le (sg_le hp (by decide)) (by decide)) (lo := nI 1) (nI 9999) (by decide)) kX4_number rfl g1359 rfl rfl rfl rfl dX4_isOrdered_295 ?_
  refine ev_goto 308 dX4_isOrdered_298 (by decide) ?_
  refine ev_istore dX4_isOrdered_308 (Nat.le_of_ble_eq_true rfl) rfl ?_
  refine ev_w (w' := rw9 σ (zE z (orS Y.2.2.2.2.1 ℓ (nI 55) (nI 1) (nI 9999) (p + 1, false)).1) Y g) rfl ?_
  exact ev_sub [0, 1, 2, 6, 7, 8] rfl H
set_option maxHeartbeats 1000000 in
theorem o4_104 (σ z : Nat → Int32) (Y : RY) (g : PW) {ℓ : Nat} (hℓ : ℓ ≤ 60) (hl : z 1 = nI ℓ) {p : Nat} (hp : p < ℓ) (hb : Y.2.2.2.2.1 p = nI 104) (d : Int32) {po : PO} (H : Ev mX4_isOrdered po nx 0 310 [(8, .int (orH Y.2.2.2.2.1 ℓ (p + 1, false)).2.2.2), (7, .int (orH Y.2.2.2.2.1 ℓ (p + 1, false)).2.2.1), (6, .int (orH Y.2.2.2.2.1 ℓ (p + 1, false)).2.1), (2, .int (nI 104)), (0, .ref 0), (1, .int d)] [] (rw9 σ (zE z (orH Y.2.2.2.2.1 ℓ (p + 1, false)).1) Y g)) : Ev mX4_isOrdered po nx 0 0 [(0, .ref 0), (1, .int d)] [] (rw9 σ (zE z (p, false)) Y g) := by
  refine ev_aload_n 0 dX4_isOrdered_0 rfl rfl ?_
  refine ev_getfield 9 dX4_isOrdered_1 foX4_140 rfl rfl ?_
  refine ev_top (nI p) rfl ?_
  refine ev_aload_n 0 dX4_isOrdered_4 rfl rfl ?_
  refine ev_getfield 7 dX4_isOrdered_5 foX4_137 rfl rfl ?_
  refine ev_top (nI ℓ) ((zE_n _ _ (by decide) (by decide)).trans hl) ?_
  refine ev_icmp_ge 30 dX4_isOrdered_8 (by decide) (fun h8 => absurd h8 (nI_ge hp (by omega))) (fun h8 => ?_)
  refine ev_aload_n 0 dX4_isOrdered_11 rfl rfl ?_
  refine ev_getfield 10 dX4_isOrdered_12 foX4_143 rfl rfl ?_
  refine ev_top (bI false) rfl ?_
  refine ev_if_ne 30 dX4_isOrdered_15 (by decide) (fun h15 => absurd rfl h15) (fun h15 => ?_)
  refine ev_aload_n 0 dX4_isOrdered_18 rfl rfl ?_
  refine ev_getfield 6 dX4_isOrdered_19 foX4_26 rfl rfl ?_
  refine ev_aload_n 0 dX4_isOrdered_22 rfl rfl ?_
  refine ev_getfield 9 dX4_isOrdered_23 foX4_140 rfl rfl ?_
  refine ev_top (nI p) rfl ?_
  refine ev_ild p dX4_isOrdered_26 rfl rfl (by omega) rfl ?_
  refine ev_top (nI 104) hb ?_
  refine ev_goto 31 dX4_isOrdered_27 (by decide) ?_
  refine ev_istore_n 2 dX4_isOrdered_31 rfl (Nat.le_of_ble_eq_true rfl) rfl ?_
  refine ev_iload_n 2 dX4_isOrdered_32 rfl rfl ?_
  refine ev_bipush (nI 112) dX4_isOrdered_33 rfl ?_
  refine ev_icmp_eq 44 dX4_isOrdered_35 (by decide) (fun h35 => absurd h35 (by decide)) (fun h35 => ?_)
  refine ev_iload_n 2 dX4_isOrdered_38 rfl rfl ?_
  refine ev_bipush (nI 99) dX4_isOrdered_39 rfl ?_
  refine ev_icmp_ne 48 dX4_isOrdered_41 (by decide) (fun h41 => ?_) (fun h41 => absurd h41 (by decide))
  refine ev_iconst (nI 0) dX4_isOrdered_48 rfl ?_
  refine ev_istore_n 3 dX4_isOrdered_49 rfl (Nat.le_of_ble_eq_true rfl) rfl ?_
  refine ev_iload_n 2 dX4_isOrdered_50 rfl rfl ?_
  refine ev_bipush (nI 43) dX4_isOrdered_51 rfl ?_
  refine ev_icmp_eq 62 dX4_isOrdered_53 (by decide) (fun h53 => absurd h53 (by decide)) (fun h53 => ?_)
  refine ev_iload_n 2 dX4_isOrdered_56 rfl rfl ?_
  refine ev_bipush (nI 45) dX4_isOrdered_57 rfl ?_
  refine ev_icmp_ne 66 dX4_isOrdered_59 (by decide) (fun h59 => ?_) (fun h59 => absurd h59 (by decide))
  refine ev_iconst (nI 0) dX4_isOrdered_66 rfl ?_
  refine ev_istore dX4_isOrdered_67 (Nat.le_of_ble_eq_true rfl) rfl ?_
  refine ev_iload_n 2 dX4_isOrdered_69 rfl rfl ?_
  refine ev_bipush (nI 108) dX4_isOrdered_70 rfl ?_
  refine ev_icmp_eq 81 dX4_isOrdered_72 (by decide) (fun h72 => absurd h72 (by decide)) (fun h72 => ?_)
  refine ev_iload_n 2 dX4_isOrdered_75 rfl rfl ?_
  refine ev_bipush (nI 98) dX4_isOrdered_76 rfl ?_
  refine ev_icmp_ne 85 dX4_isOrdered_78 (by decide) (fun h78 => ?_) (fun h78 => absurd h78 (by decide))
  refine ev_iconst (nI 0) dX4_isOrdered_85 rfl ?_
  refine ev_istore dX4_isOrdered_86 (Nat.le_of_ble_eq_true rfl) rfl ?_
  refine ev_aload_n 0 dX4_isOrdered_88 rfl rfl ?_
  refine ev_aload_n 0 dX4_isOrdered_89 rfl rfl ?_
  refine ev_getfield 10 dX4_isOrdered_90 foX4_143 rfl rfl ?_
  refine ev_top (bI false) rfl ?_
  refine ev_if_ne 116 dX4_isOrdered_93 (by decide) (fun h93 => absurd rfl h93) (fun h93 => ?_)
  refine ev_iload_n 3 dX4_isOrdered_96 rfl rfl ?_
  refine ev_if_ne 120 dX4_isOrdered_97 (by decide) (fun h97 => absurd (by decide) h97) (fun h97 => ?_)
  refine ev_iload dX4_isOrdered_100 rfl ?_
  refine ev_if_ne 120 dX4_isOrdered_102 (by decide) (fun h102 => absurd (by decide) h102) (fun h102 => ?_)
  refine ev_iload dX4_isOrdered_105 rfl ?_
  refine ev_if_ne 120 dX4_isOrdered_107 (by decide) (fun h107 => absurd (by decide) h107) (fun h107 => ?_)
  refine ev_iload_n 2 dX4_isOrdered_110 rfl rfl ?_
  refine ev_bipush (nI 104) dX4_isOrdered_111 rfl ?_
  refine ev_icmp_eq 120 dX4_isOrdered_113 (by decide) (fun h113 => ?_) (fun h113 => absurd (by decide) h113)
  refine ev_iconst (nI 0) dX4_isOrdered_120 rfl ?_
  refine ev_top (bI false) rfl ?_
  refine ev_putfield 10 dX4_isOrdered_121 fpX4_143 rfl (Nat.le_of_ble_eq_true rfl) (fun _ => bI_nar _) (fun _ => bI_fit _) (rz4 _ _ _ _ _) ?_
  refine ev_w (w' := rw9 σ (zE z (p, false)) Y g) (congrArg (fun q => rw9 σ q Y g) (zE_4 _ _ _)) ?_
  refine ev_aload_n 0 dX4_isOrdered_124 rfl rfl ?_
  refine ev_dup dX4_isOrdered_125 rfl ?_
  refine ev_getfield 9 dX4_isOrdered_126 foX4_140 rfl rfl ?_
  refine ev_top (nI p) rfl ?_
  refine ev_aload_n 0 dX4_isOrdered_129 rfl rfl ?_
  refine ev_getfield 10 dX4_isOrdered_130 foX4_143 rfl rfl ?_
  refine ev_top (bI false) rfl ?_
  refine ev_if_eq 140 dX4_isOrdered_133 (by decide) (fun h133 => ?_) (fun h133 => absurd (by decide) h133)
  refine ev_iconst (nI 1) dX4_isOrdered_140 rfl ?_
  refine ev_iadd dX4_isOrdered_141 ?_
  refine ev_top (nI (p + 1)) (nI_add p 1) ?_
  refine ev_putfield 9 dX4_isOrdered_142 fpX4_140 rfl (Nat.le_of_ble_eq_true rfl) (fun _ => rfl) (fun _ => rfl) (rz3 _ _ _ _ _) ?_
  refine ev_w (w' := rw9 σ (zE z (p + 1, false)) Y g) (congrArg (fun q => rw9 σ q Y g) (zE_3 _ _ _)) ?_
  refine ev_iload_n 2 dX4_isOrdered_145 rfl rfl ?_
  refine ev_bipush (nI 104) dX4_isOrdered_146 rfl ?_
  refine ev_icmp_ne 155 dX4_isOrdered_148 (by decide) (fun h148 => absurd (by decide) h148) (fun h148 => ?_)
  refine ev_iconst (nI 0) dX4_isOrdered_151 rfl ?_
  refine ev_goto 175 dX4_isOrdered_152 (by decide) ?_
  refine ev_istore dX4_isOrdered_175 (Nat.le_of_ble_eq_true rfl) rfl ?_
  refine ev_iconst (nI 0) dX4_isOrdered_177 rfl ?_
  refine ev_istore dX4_isOrdered_178 (Nat.le_of_ble_eq_true rfl) rfl ?_
  refine ev_iload dX4_isOrdered_180 rfl ?_
  refine ev_if_eq 221 dX4_isOrdered_182 (by decide) (fun h182 => ?_) (fun h182 => absurd (by decide) h182)
  refine ev_iload_n 2 dX4_isOrdered_221 rfl rfl ?_
  refine ev_bipush (nI 104) dX4_isOrdered_222 rfl ?_
  refine ev_icmp_eq 237 dX4_isOrdered_224 (by decide) (fun h224 => ?_) (fun h224 => absurd (by decide) h224)
  refine ev_iload_n 2 dX4_isOrdered_237 rfl rfl ?_
  refine ev_bipush (nI 112) dX4_isOrdered_238 rfl ?_
  refine ev_icmp_ne 254 dX4_isOrdered_240 (by decide) (fun h240 => ?_) (fun h240 => absurd h240 (by decide))
  refine ev_iload_n 2 dX4_isOrdered_254 rfl rfl ?_
  refine ev_bipush (nI 99) dX4_isOrdered_255 rfl ?_
  refine ev_icmp_ne 270 dX4_isOrdered_257 (by decide) (fun h257 => ?_) (fun h257 => absurd h257 (by decide))
  refine ev_iload dX4_isOrdered_270 rfl ?_
  refine ev_if_eq 285 dX4_isOrdered_272 (by decide) (fun h272 => ?_) (fun h272 => absurd (by decide) h272)
  refine ev_iload dX4_isOrdered_285 rfl ?_
  refine ev_if_eq 301 dX4_isOrdered_287 (by decide) (fun h287 => ?_) (fun h287 => absurd (by decide) h287)
  refine ev_aload_n 0 dX4_isOrdered_301 rfl rfl ?_
  refine ev_iconst (nI 1) dX4_isOrdered_302 rfl ?_
  refine ev_bipush (nI 100) dX4_isOrdered_303 rfl ?_
  refine ev_cV2 (c4_numberS σ z Y g hℓ hl (p + 1, false) hp (lo := nI 1) (nI 100) (by decide)) kX4_number rfl g1359 rfl rfl rfl rfl dX4_isOrdered_305 ?_
  refine ev_istore dX4_isOrdered_308 (Nat.le_of_ble_eq_true rfl) rfl ?_
  refine ev_w (w' := rw9 σ (zE z (orH Y.2.2.2.2.1 ℓ (p + 1, false)).1) Y g) rfl ?_
  exact ev_sub [0, 1, 2, 6, 7, 8] rfl H
set_option maxHeartbeats 1000000 in
theorem o4_x (σ z : Nat → Int32) (Y : RY) (g : PW) {ℓ : Nat} (hℓ : ℓ ≤ 60) (hl : z 1 = nI ℓ) {p : Nat} (hp : p < ℓ) (hpl : p ≤ ℓ) {x : Int32} (hb : Y.2.2.2.2.1 p = x) (h112 : ¬ x = nI 112) (h99 : ¬ x = nI 99) (h43 : ¬ x = nI 43) (h45 : ¬ x = nI 45) (h108 : ¬ x = nI 108) (h98 : ¬ x = nI 98) (h104 : ¬ x = nI 104) (d : Int32) {po : PO} (H : Ev mX4_isOrdered po nx 0 310 [(8, .int (orS Y.2.2.2.2.1 ℓ (nI 55) (nI 1) (nI 100) (p, true)).2.2.2), (7, .int (orS Y.2.2.2.2.1 ℓ (nI 55) (nI 1) (nI 100) (p, true)).2.2.1), (6, .int (orS Y.2.2.2.2.1 ℓ (nI 55) (nI 1) (nI 100) (p, true)).2.1), (2, .int (x)), (0, .ref 0), (1, .int d)] [] (rw9 σ (zE z (orS Y.2.2.2.2.1 ℓ (nI 55) (nI 1) (nI 100) (p, true)).1) Y g)) : Ev mX4_isOrdered po nx 0 0 [(0, .ref 0), (1, .int d)] [] (rw9 σ (zE z (p, false)) Y g) := by
  refine ev_aload_n 0 dX4_isOrdered_0 rfl rfl ?_
  refine ev_getfield 9 dX4_isOrdered_1 foX4_140 rfl rfl ?_
  refine ev_top (nI p) rfl ?_
  refine ev_aload_n 0 dX4_isOrdered_4 rfl rfl ?_
  refine ev_getfield 7 dX4_isOrdered_5 foX4_137 rfl rfl ?_
  refine ev_top (nI ℓ) ((zE_n _ _ (by decide) (by decide)).trans hl) ?_
  refine ev_icmp_ge 30 dX4_isOrdered_8 (by decide) (fun h8 => absurd h8 (nI_ge hp (by omega))) (fun h8 => ?_)
  refine ev_aload_n 0 dX4_isOrdered_11 rfl rfl ?_
  refine ev_getfield 10 dX4_isOrdered_12 foX4_143 rfl rfl ?_
  refine ev_top (bI false) rfl ?_
  refine ev_if_ne 30 dX4_isOrdered_15 (by decide) (fun h15 => absurd rfl h15) (fun h15 => ?_)
  refine ev_aload_n 0 dX4_isOrdered_18 rfl rfl ?_
  refine ev_getfield 6 dX4_isOrdered_19 foX4_26 rfl rfl ?_
  refine ev_aload_n 0 dX4_isOrdered_22 rfl rfl ?_
  refine ev_getfield 9 dX4_isOrdered_23 foX4_140 rfl rfl ?_
  refine ev_top (nI p) rfl ?_
  refine ev_ild p dX4_isOrdered_26 rfl rfl (by omega) rfl ?_
  refine ev_top (x) hb ?_
  refine ev_goto 31 dX4_isOrdered_27 (by decide) ?_
  refine ev_istore_n 2 dX4_isOrdered_31 rfl (Nat.le_of_ble_eq_true rfl) rfl ?_
  refine ev_iload_n 2 dX4_isOrdered_32 rfl rfl ?_
  refine ev_bipush (nI 112) dX4_isOrdered_33 rfl ?_
  refine ev_icmp_eq 44 dX4_isOrdered_35 (by decide) (fun h35 => absurd h35 h112) (fun h35 => ?_)
  refine ev_iload_n 2 dX4_isOrdered_38 rfl rfl ?_
  refine ev_bipush (nI 99) dX4_isOrdered_39 rfl ?_
  refine ev_icmp_ne 48 dX4_isOrdered_41 (by decide) (fun h41 => ?_) (fun h41 => absurd h41 h99)
  refine ev_iconst (nI 0) dX4_isOrdered_48 rfl ?_
  refine ev_istore_n 3 dX4_isOrdered_49 rfl (Nat.le_of_ble_eq_true rfl) rfl ?_
  refine ev_iload_n 2 dX4_isOrdered_50 rfl rfl ?_
  refine ev_bipush (nI 43) dX4_isOrdered_51 rfl ?_
  refine ev_icmp_eq 62 dX4_isOrdered_53 (by decide) (fun h53 => absurd h53 h43) (fun h53 => ?_)
  refine ev_iload_n 2 dX4_isOrdered_56 rfl rfl ?_
  refine ev_bipush (nI 45) dX4_isOrdered_57 rfl ?_
  refine ev_icmp_ne 66 dX4_isOrdered_59 (by decide) (fun h59 => ?_) (fun h59 => absurd h59 h45)
  refine ev_iconst (nI 0) dX4_isOrdered_66 rfl ?_
  refine ev_istore dX4_isOrdered_67 (Nat.le_of_ble_eq_true rfl) rfl ?_
  refine ev_iload_n 2 dX4_isOrdered_69 rfl rfl ?_
  refine ev_bipush (nI 108) dX4_isOrdered_70 rfl ?_
  refine ev_icmp_eq 81 dX4_isOrdered_72 (by decide) (fun h72 => absurd h72 h108) (fun h72 => ?_)
  refine ev_iload_n 2 dX4_isOrdered_75 rfl rfl ?_
  refine ev_bipush (nI 98) dX4_isOrdered_76 rfl ?_
  refine ev_icmp_ne 85 dX4_isOrdered_78 (by decide) (fun h78 => ?_) (fun h78 => absurd h78 h98)
  refine ev_iconst (nI 0) dX4_isOrdered_85 rfl ?_
  refine ev_istore dX4_isOrdered_86 (Nat.le_of_ble_eq_true rfl) rfl ?_
  refine ev_aload_n 0 dX4_isOrdered_88 rfl rfl ?_
  refine ev_aload_n 0 dX4_isOrdered_89 rfl rfl ?_
  refine ev_getfield 10 dX4_isOrdered_90 foX4_143 rfl rfl ?_
  refine ev_top (bI false) rfl ?_
  refine ev_if_ne 116 dX4_isOrdered_93 (by decide) (fun h93 => absurd rfl h93) (fun h93 => ?_)
  refine ev_iload_n 3 dX4_isOrdered_96 rfl rfl ?_
  refine ev_if_ne 120 dX4_isOrdered_97 (by decide) (fun h97 => absurd (by decide) h97) (fun h97 => ?_)
  refine ev_iload dX4_isOrdered_100 rfl ?_
  refine ev_if_ne 120 dX4_isOrdered_102 (by decide) (fun h102 => absurd (by decide) h102) (fun h102 => ?_)
  refine ev_iload dX4_isOrdered_105 rfl ?_
  refine ev_if_ne 120 dX4_isOrdered_107 (by decide) (fun h107 => absurd (by decide) h107) (fun h107 => ?_)
  refine ev_iload_n 2 dX4_isOrdered_110 rfl rfl ?_
  refine ev_bipush (nI 104) dX4_isOrdered_111 rfl ?_
  refine ev_icmp_eq 120 dX4_isOrdered_113 (by decide) (fun h113 => absurd h113 h104) (fun h113 => ?_)
  refine ev_iconst (nI 1) dX4_isOrdered_116 rfl ?_
  refine ev_goto 121 dX4_isOrdered_117 (by decide) ?_
  refine ev_top (bI true) rfl ?_
  refine ev_putfield 10 dX4_isOrdered_121 fpX4_143 rfl (Nat.le_of_ble_eq_true rfl) (fun _ => bI_nar _) (fun _ => bI_fit _) (rz4 _ _ _ _ _) ?_
  refine ev_w (w' := rw9 σ (zE z (p, true)) Y g) (congrArg (fun q => rw9 σ q Y g) (zE_4 _ _ _)) ?_
  refine ev_aload_n 0 dX4_isOrdered_124 rfl rfl ?_
  refine ev_dup dX4_isOrdered_125 rfl ?_
  refine ev_getfield 9 dX4_isOrdered_126 foX4_140 rfl rfl ?_
  refine ev_top (nI p) rfl ?_
  refine ev_aload_n 0 dX4_isOrdered_129 rfl rfl ?_
  refine ev_getfield 10 dX4_isOrdered_130 foX4_143 rfl rfl ?_
  refine ev_top (bI true) rfl ?_
  refine ev_if_eq 140 dX4_isOrdered_133 (by decide) (fun h133 => absurd h133 (by decide)) (fun h133 => ?_)
  refine ev_iconst (nI 0) dX4_isOrdered_136 rfl ?_
  refine ev_goto 141 dX4_isOrdered_137 (by decide) ?_
  refine ev_iadd dX4_isOrdered_141 ?_
  refine ev_top (nI p) (nI_add p 0) ?_
  refine ev_putfield 9 dX4_isOrdered_142 fpX4_140 rfl (Nat.le_of_ble_eq_true rfl) (fun _ => rfl) (fun _ => rfl) (rz3 _ _ _ _ _) ?_
  refine ev_w (w' := rw9 σ (zE z (p, true)) Y g) (congrArg (fun q => rw9 σ q Y g) (zE_3 _ _ _)) ?_
  refine ev_iload_n 2 dX4_isOrdered_145 rfl rfl ?_
  refine ev_bipush (nI 104) dX4_isOrdered_146 rfl ?_
  refine ev_icmp_ne 155 dX4_isOrdered_148 (by decide) (fun h148 => ?_) (fun h148 => absurd h148 h104)
  refine ev_aload_n 0 dX4_isOrdered_155 rfl rfl ?_
  refine ev_bipush (nI 48) dX4_isOrdered_156 rfl ?_
  refine ev_iload_n 3 dX4_isOrdered_158 rfl rfl ?_
  refine ev_if_eq 167 dX4_isOrdered_159 (by decide) (fun h159 => ?_) (fun h159 => absurd (by decide) h159)
  refine ev_bipush (nI 55) dX4_isOrdered_167 rfl ?_
  refine ev_cV2 (c4_signS σ z Y g hℓ hl (p, true) hpl _ _) kX4_sign rfl g1355 rfl rfl rfl rfl dX4_isOrdered_169 ?_
  refine ev_bipush (nI 48) dX4_isOrdered_172 rfl ?_
  refine ev_isub dX4_isOrdered_174 ?_
  refine ev_istore dX4_isOrdered_175 (Nat.le_of_ble_eq_true rfl) rfl ?_
  refine ev_iconst (nI 0) dX4_isOrdered_177 rfl ?_
  refine ev_istore dX4_isOrdered_178 (Nat.le_of_ble_eq_true rfl) rfl ?_
  refine ev_iload dX4_isOrdered_180 rfl ?_
  refine ev_if_eq 221 dX4_isOrdered_182 (by decide) (fun h182 => ?_) (fun h182 => absurd (by decide) h182)
  refine ev_iload_n 2 dX4_isOrdered_221 rfl rfl ?_
  refine ev_bipush (nI 104) dX4_isOrdered_222 rfl ?_
  refine ev_icmp_eq 237 dX4_isOrdered_224 (by decide) (fun h224 => absurd h224 h104) (fun h224 => ?_)
  refine ev_aload_n 0 dX4_isOrdered_227 rfl rfl ?_
  refine ev_bipush (nI 61) dX4_isOrdered_228 rfl ?_
  refine ev_bipush (nI 61) dX4_isOrdered_230 rfl ?_
  refine ev_cV2 (c4_signS σ z Y g hℓ hl (sg Y.2.2.2.2.1 ℓ (nI 48) (nI 55) (p, true)) (sg_le hpl (by decide)) _ _) kX4_sign rfl g1355 rfl rfl rfl rfl dX4_isOrdered_232 ?_
  refine ev_istore dX4_isOrdered_235 (Nat.le_of_ble_eq_true rfl) rfl ?_
  refine ev_iload_n 2 dX4_isOrdered_237 rfl rfl ?_
  refine ev_bipush (nI 112) dX4_isOrdered_238 rfl ?_
  refine ev_icmp_ne 254 dX4_isOrdered_240 (by decide) (fun h240 => ?_) (fun h240 => absurd h240 h112)
  refine ev_iload_n 2 dX4_isOrdered_254 rfl rfl ?_
  refine ev_bipush (nI 99) dX4_isOrdered_255 rfl ?_
  refine ev_icmp_ne 270 dX4_isOrdered_257 (by decide) (fun h257 => ?_) (fun h257 => absurd h257 h99)
  refine ev_iload dX4_isOrdered_270 rfl ?_
  refine ev_if_eq 285 dX4_isOrdered_272 (by decide) (fun h272 => ?_) (fun h272 => absurd (by decide) h272)
  refine ev_iload dX4_isOrdered_285 rfl ?_
  refine ev_if_eq 301 dX4_isOrdered_287 (by decide) (fun h287 => ?_) (fun h287 => absurd (by decide) h287)
  refine ev_aload_n 0 dX4_isOrdered_301 rfl rfl ?_
  refine ev_iconst (nI 1) dX4_isOrdered_302 rfl ?_
  refine ev_bipush (nI 100) dX4_isOrdered_303 rfl ?_
  refine ev_cV2 (c4_numberS σ z Y g hℓ hl (sg Y.2.2.2.2.1 ℓ (nI 61) (nI 61) (sg Y.2.2.2.2.1 ℓ (nI 48) (nI 55) (p, true))) (sg_le (sg_le hpl (by decide)) (by decide)) (lo := nI 1) (nI 100) (by decide)) kX4_number rfl g1359 rfl rfl rfl rfl dX4_isOrdered_305 ?_
  refine ev_istore dX4_isOrdered_308 (Nat.le_of_ble_eq_true rfl) rfl ?_
  refine ev_w (w' := rw9 σ (zE z (orS Y.2.2.2.2.1 ℓ (nI 55) (nI 1) (nI 100) (p, true)).1) Y g) rfl ?_
  exact ev_sub [0, 1, 2, 6, 7, 8] rfl H
set_option maxHeartbeats 1000000 in
theorem o4_o (σ z : Nat → Int32) (Y : RY) (g : PW) {ℓ : Nat} (hℓ : ℓ ≤ 60) (hl : z 1 = nI ℓ) {p : Nat} (hpl : p ≤ ℓ) (hp2 : ℓ ≤ p) {x : Int32} (hx : x = nI 0) (d : Int32) {po : PO} (H : Ev mX4_isOrdered po nx 0 310 [(8, .int (orS Y.2.2.2.2.1 ℓ (nI 55) (nI 1) (nI 100) (p, true)).2.2.2), (7, .int (orS Y.2.2.2.2.1 ℓ (nI 55) (nI 1) (nI 100) (p, true)).2.2.1), (6, .int (orS Y.2.2.2.2.1 ℓ (nI 55) (nI 1) (nI 100) (p, true)).2.1), (2, .int (x)), (0, .ref 0), (1, .int d)] [] (rw9 σ (zE z (orS Y.2.2.2.2.1 ℓ (nI 55) (nI 1) (nI 100) (p, true)).1) Y g)) : Ev mX4_isOrdered po nx 0 0 [(0, .ref 0), (1, .int d)] [] (rw9 σ (zE z (p, false)) Y g) := by
  subst hx
  have h112 : ¬ nI 0 = nI 112 := by decide
  have h99 : ¬ nI 0 = nI 99 := by decide
  have h43 : ¬ nI 0 = nI 43 := by decide
  have h45 : ¬ nI 0 = nI 45 := by decide
  have h108 : ¬ nI 0 = nI 108 := by decide
  have h98 : ¬ nI 0 = nI 98 := by decide
  have h104 : ¬ nI 0 = nI 104 := by decide
  refine ev_aload_n 0 dX4_isOrdered_0 rfl rfl ?_
  refine ev_getfield 9 dX4_isOrdered_1 foX4_140 rfl rfl ?_
  refine ev_top (nI p) rfl ?_
  refine ev_aload_n 0 dX4_isOrdered_4 rfl rfl ?_
  refine ev_getfield 7 dX4_isOrdered_5 foX4_137 rfl rfl ?_
  refine ev_top (nI ℓ) ((zE_n _ _ (by decide) (by decide)).trans hl) ?_
  refine ev_icmp_ge 30 dX4_isOrdered_8 (by decide) (fun h8 => ?_) (fun h8 => absurd (nI_le hp2 (by omega)) h8)
  refine ev_iconst (nI 0) dX4_isOrdered_30 rfl ?_
  refine ev_top (nI 0) rfl ?_
  refine ev_istore_n 2 dX4_isOrdered_31 rfl (Nat.le_of_ble_eq_true rfl) rfl ?_
  refine ev_iload_n 2 dX4_isOrdered_32 rfl rfl ?_
  refine ev_bipush (nI 112) dX4_isOrdered_33 rfl ?_
  refine ev_icmp_eq 44 dX4_isOrdered_35 (by decide) (fun h35 => absurd h35 h112) (fun h35 => ?_)
  refine ev_iload_n 2 dX4_isOrdered_38 rfl rfl ?_
  refine ev_bipush (nI 99) dX4_isOrdered_39 rfl ?_
  refine ev_icmp_ne 48 dX4_isOrdered_41 (by decide) (fun h41 => ?_) (fun h41 => absurd h41 h99)
  refine ev_iconst (nI 0) dX4_isOrdered_48 rfl ?_
  refine ev_istore_n 3 dX4_isOrdered_49 rfl (Nat.le_of_ble_eq_true rfl) rfl ?_
  refine ev_iload_n 2 dX4_isOrdered_50 rfl rfl ?_
  refine ev_bipush (nI 43) dX4_isOrdered_51 rfl ?_
  refine ev_icmp_eq 62 dX4_isOrdered_53 (by decide) (fun h53 => absurd h53 h43) (fun h53 => ?_)
  refine ev_iload_n 2 dX4_isOrdered_56 rfl rfl ?_
  refine ev_bipush (nI 45) dX4_isOrdered_57 rfl ?_
  refine ev_icmp_ne 66 dX4_isOrdered_59 (by decide) (fun h59 => ?_) (fun h59 => absurd h59 h45)
  refine ev_iconst (nI 0) dX4_isOrdered_66 rfl ?_
  refine ev_istore dX4_isOrdered_67 (Nat.le_of_ble_eq_true rfl) rfl ?_
  refine ev_iload_n 2 dX4_isOrdered_69 rfl rfl ?_
  refine ev_bipush (nI 108) dX4_isOrdered_70 rfl ?_
  refine ev_icmp_eq 81 dX4_isOrdered_72 (by decide) (fun h72 => absurd h72 h108) (fun h72 => ?_)
  refine ev_iload_n 2 dX4_isOrdered_75 rfl rfl ?_
  refine ev_bipush (nI 98) dX4_isOrdered_76 rfl ?_
  refine ev_icmp_ne 85 dX4_isOrdered_78 (by decide) (fun h78 => ?_) (fun h78 => absurd h78 h98)
  refine ev_iconst (nI 0) dX4_isOrdered_85 rfl ?_
  refine ev_istore dX4_isOrdered_86 (Nat.le_of_ble_eq_true rfl) rfl ?_
  refine ev_aload_n 0 dX4_isOrdered_88 rfl rfl ?_
  refine ev_aload_n 0 dX4_isOrdered_89 rfl rfl ?_
  refine ev_getfield 10 dX4_isOrdered_90 foX4_143 rfl rfl ?_
  refine ev_top (bI false) rfl ?_
  refine ev_if_ne 116 dX4_isOrdered_93 (by decide) (fun h93 => absurd rfl h93) (fun h93 => ?_)
  refine ev_iload_n 3 dX4_isOrdered_96 rfl rfl ?_
  refine ev_if_ne 120 dX4_isOrdered_97 (by decide) (fun h97 => absurd (by decide) h97) (fun h97 => ?_)
  refine ev_iload dX4_isOrdered_100 rfl ?_
  refine ev_if_ne 120 dX4_isOrdered_102 (by decide) (fun h102 => absurd (by decide) h102) (fun h102 => ?_)
  refine ev_iload dX4_isOrdered_105 rfl ?_
  refine ev_if_ne 120 dX4_isOrdered_107 (by decide) (fun h107 => absurd (by decide) h107) (fun h107 => ?_)
  refine ev_iload_n 2 dX4_isOrdered_110 rfl rfl ?_
  refine ev_bipush (nI 104) dX4_isOrdered_111 rfl ?_
  refine ev_icmp_eq 120 dX4_isOrdered_113 (by decide) (fun h113 => absurd h113 h104) (fun h113 => ?_)
  refine ev_iconst (nI 1) dX4_isOrdered_116 rfl ?_
  refine ev_goto 121 dX4_isOrdered_117 (by decide) ?_
  refine ev_top (bI true) rfl ?_
  refine ev_putfield 10 dX4_isOrdered_121 fpX4_143 rfl (Nat.le_of_ble_eq_true rfl) (fun _ => bI_nar _) (fun _ => bI_fit _) (rz4 _ _ _ _ _) ?_
  refine ev_w (w' := rw9 σ (zE z (p, true)) Y g) (congrArg (fun q => rw9 σ q Y g) (zE_4 _ _ _)) ?_
  refine ev_aload_n 0 dX4_isOrdered_124 rfl rfl ?_
  refine ev_dup dX4_isOrdered_125 rfl ?_
  refine ev_getfield 9 dX4_isOrdered_126 foX4_140 rfl rfl ?_
  refine ev_top (nI p) rfl ?_
  refine ev_aload_n 0 dX4_isOrdered_129 rfl rfl ?_
  refine ev_getfield 10 dX4_isOrdered_130 foX4_143 rfl rfl ?_
  refine ev_top (bI true) rfl ?_
  refine ev_if_eq 140 dX4_isOrdered_133 (by decide) (fun h133 => absurd h133 (by decide)) (fun h133 => ?_)
  refine ev_iconst (nI 0) dX4_isOrdered_136 rfl ?_
  refine ev_goto 141 dX4_isOrdered_137 (by decide) ?_
  refine ev_iadd dX4_isOrdered_141 ?_
  refine ev_top (nI p) (nI_add p 0) ?_
  refine ev_putfield 9 dX4_isOrdered_142 fpX4_140 rfl (Nat.le_of_ble_eq_true rfl) (fun _ => rfl) (fun _ => rfl) (rz3 _ _ _ _ _) ?_
  refine ev_w (w' := rw9 σ (zE z (p, true)) Y g) (congrArg (fun q => rw9 σ q Y g) (zE_3 _ _ _)) ?_
  refine ev_iload_n 2 dX4_isOrdered_145 rfl rfl ?_
  refine ev_bipush (nI 104) dX4_isOrdered_146 rfl ?_
  refine ev_icmp_ne 155 dX4_isOrdered_148 (by decide) (fun h148 => ?_) (fun h148 => absurd h148 h104)
  refine ev_aload_n 0 dX4_isOrdered_155 rfl rfl ?_
  refine ev_bipush (nI 48) dX4_isOrdered_156 rfl ?_
  refine ev_iload_n 3 dX4_isOrdered_158 rfl rfl ?_
  refine ev_if_eq 167 dX4_isOrdered_159 (by decide) (fun h159 => ?_) (fun h159 => absurd (by decide) h159)
  refine ev_bipush (nI 55) dX4_isOrdered_167 rfl ?_
  refine ev_cV2 (c4_signS σ z Y g hℓ hl (p, true) hpl _ _) kX4_sign rfl g1355 rfl rfl rfl rfl dX4_isOrdered_169 ?_
  refine ev_bipush (nI 48) dX4_isOrdered_172 rfl ?_
  refine ev_isub dX4_isOrdered_174 ?_
  refine ev_istore dX4_isOrdered_175 (Nat.le_of_ble_eq_true rfl) rfl ?_
  refine ev_iconst (nI 0) dX4_isOrdered_177 rfl ?_
  refine ev_istore dX4_isOrdered_178 (Nat.le_of_ble_eq_true rfl) rfl ?_
  refine ev_iload dX4_isOrdered_180 rfl ?_
  refine ev_if_eq 221 dX4_isOrdered_182 (by decide) (fun h182 => ?_) (fun h182 => absurd (by decide) h182)
  refine ev_iload_n 2 dX4_isOrdered_221 rfl rfl ?_
  refine ev_bipush (nI 104) dX4_isOrdered_222 rfl ?_
  refine ev_icmp_eq 237 dX4_isOrdered_224 (by decide) (fun h224 => absurd h224 h104) (fun h224 => ?_)
  refine ev_aload_n 0 dX4_isOrdered_227 rfl rfl ?_
  refine ev_bipush (nI 61) dX4_isOrdered_228 rfl ?_
  refine ev_bipush (nI 61) dX4_isOrdered_230 rfl ?_
  refine ev_cV2 (c4_signS σ z Y g hℓ hl (sg Y.2.2.2.2.1 ℓ (nI 48) (nI 55) (p, true)) (sg_le hpl (by decide)) _ _) kX4_sign rfl g1355 rfl rfl rfl rfl dX4_isOrdered_232 ?_
  refine ev_istore dX4_isOrdered_235 (Nat.le_of_ble_eq_true rfl) rfl ?_
  refine ev_iload_n 2 dX4_isOrdered_237 rfl rfl ?_
  refine ev_bipush (nI 112) dX4_isOrdered_238 rfl ?_
  refine ev_icmp_ne 254 dX4_isOrdered_240 (by decide) (fun h240 => ?_) (fun h240 => absurd h240 h112)
  refine ev_iload_n 2 dX4_isOrdered_254 rfl rfl ?_
  refine ev_bipush (nI 99) dX4_isOrdered_255 rfl ?_
  refine ev_icmp_ne 270 dX4_isOrdered_257 (by decide) (fun h257 => ?_) (fun h257 => absurd h257 h99)
  refine ev_iload dX4_isOrdered_270 rfl ?_
  refine ev_if_eq 285 dX4_isOrdered_272 (by decide) (fun h272 => ?_) (fun h272 => absurd (by decide) h272)
  refine ev_iload dX4_isOrdered_285 rfl ?_
  refine ev_if_eq 301 dX4_isOrdered_287 (by decide) (fun h287 => ?_) (fun h287 => absurd (by decide) h287)
  refine ev_aload_n 0 dX4_isOrdered_301 rfl rfl ?_
  refine ev_iconst (nI 1) dX4_isOrdered_302 rfl ?_
  refine ev_bipush (nI 100) dX4_isOrdered_303 rfl ?_
  refine ev_cV2 (c4_numberS σ z Y g hℓ hl (sg Y.2.2.2.2.1 ℓ (nI 61) (nI 61) (sg Y.2.2.2.2.1 ℓ (nI 48) (nI 55) (p, true))) (sg_le (sg_le hpl (by decide)) (by decide)) (lo := nI 1) (nI 100) (by decide)) kX4_number rfl g1359 rfl rfl rfl rfl dX4_isOrdered_305 ?_
  refine ev_istore dX4_isOrdered_308 (Nat.le_of_ble_eq_true rfl) rfl ?_
  refine ev_w (w' := rw9 σ (zE z (orS Y.2.2.2.2.1 ℓ (nI 55) (nI 1) (nI 100) (p, true)).1) Y g) rfl ?_
  exact ev_sub [0, 1, 2, 6, 7, 8] rfl H
