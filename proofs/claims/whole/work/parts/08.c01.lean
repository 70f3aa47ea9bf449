/-! LuteTabs$Search.forget()V -/
theorem dX5_forget_0 : decode cX5_forget 0 = .ok (.iconst 0, 1) := by decide +kernel
theorem dX5_forget_1 : decode cX5_forget 1 = .ok (.istore_n 1, 1) := by decide +kernel
theorem dX5_forget_2 : decode cX5_forget 2 = .ok (.iload_n 1, 1) := by decide +kernel
theorem dX5_forget_3 : decode cX5_forget 3 = .ok (.aload_n 0, 1) := by decide +kernel
theorem dX5_forget_4 : decode cX5_forget 4 = .ok (.getfield 36, 3) := by decide +kernel
theorem dX5_forget_7 : decode cX5_forget 7 = .ok (.arraylength, 1) := by decide +kernel
theorem dX5_forget_8 : decode cX5_forget 8 = .ok (.if_icmp .ge 16, 3) := by decide +kernel
theorem dX5_forget_11 : decode cX5_forget 11 = .ok (.aload_n 0, 1) := by decide +kernel
theorem dX5_forget_12 : decode cX5_forget 12 = .ok (.getfield 36, 3) := by decide +kernel
theorem dX5_forget_15 : decode cX5_forget 15 = .ok (.iload_n 1, 1) := by decide +kernel
theorem dX5_forget_16 : decode cX5_forget 16 = .ok (.iconst 0, 1) := by decide +kernel
theorem dX5_forget_17 : decode cX5_forget 17 = .ok (.bastore, 1) := by decide +kernel
theorem dX5_forget_18 : decode cX5_forget 18 = .ok (.iinc 1 1, 3) := by decide +kernel
theorem dX5_forget_21 : decode cX5_forget 21 = .ok (.goto (-19), 3) := by decide +kernel
theorem dX5_forget_24 : decode cX5_forget 24 = .ok (.return_, 1) := by decide +kernel
abbrev rm_X5_forget : Room := { frames := 0, cells := 0, slots := 0, locals := 0 }
def f_X5_forget_L2  (x0 : Nat) (rec2 : Int32 × Sg → Option (Unit × Sg)) (s : Int32 × Sg) : Option (Unit × Sg) := (if (Int32.ofNat (aL (gR (s.2) x0 8))) ≤ (s.1) then some ((), (s.2)) else ck (inb (s.1) (aL (gR (s.2) x0 8))) (ck (b01 (0 : Int32)) (lB (pI (s.2) (gR (s.2) x0 8) (s.1).toNatClampNeg (0 : Int32)) fun s3 => lB ((s.1) + (1 : Int32)) fun v4 => rec2 (v4, s3))))
def f_X5_forget (x0 : Nat) (σ : Sg) : Option (Unit × Sg) := fx (f_X5_forget_L2 x0) FU ((0 : Int32), σ)
theorem t_X5_forget_L2 {K : Cx} (h : Ok K cX5_forget RX5 2 rm_X5_forget none) (hs : kiv K = St) (x0 : Nat)  (hk0 : kd x0 5) (rec2 : Int32 × Sg → Option (Unit × Sg)) (hr2 : ∀ u, T K (QV K) 2 [(0, .ref x0), (1, .int (u.1))] [] 0 0 (u.2) (rec2 u)) (s : Int32 × Sg) : T K (QV K) 2 [(0, .ref x0), (1, .int (s.1))] [] 0 0 (s.2) (f_X5_forget_L2 x0 rec2 s) := by
  unfold f_X5_forget_L2
  refine T_iload_n (pc := 2) h dX5_forget_2 rfl 1 rfl ?_
  refine T_aload_n (pc := 3) h dX5_forget_3 rfl 0 rfl ?_
  refine T_gR (pc := 4) h hs hk0 fl_X5_36 rfl fk_5_8 dX5_forget_4 (fun hq1 => ?_)
  refine T_alen (c := 12) (pc := 7) h hs hq1 (by decide) dX5_forget_7 ?_
  refine T_icmp_ge (pc := 8) (tgt := 24) h dX5_forget_8 (by decide) ?_ ?_
  · exact T_return (pc := 24) h (Nat.zero_le _) (Nat.zero_le _) dX5_forget_24
  · refine T_aload_n (pc := 11) h dX5_forget_11 rfl 0 rfl ?_
    refine T_gR (pc := 12) h hs hk0 fl_X5_36 rfl fk_5_8 dX5_forget_12 (fun hq2 => ?_)
    refine T_iload_n (pc := 15) h dX5_forget_15 rfl 1 rfl ?_
    refine T_iconst (pc := 16) h dX5_forget_16 ki_0 ?_
    refine T_zast (pc := 17) h hs hq2 dX5_forget_17 ?_
    refine T_letS fun s3 => ?_
    refine T_iinc (fl := fun v4 => [(1, .int v4), (0, .ref x0)]) (pc := 18) h dX5_forget_18 1 rfl ki_1 (by decide) (fun _ => rfl) (fun v4 => ?_)
    refine T_goto (pc := 21) (tgt := 2) h dX5_forget_21 (by decide) ?_
    refine T_sub [1, 0] rfl ?_
    exact hr2 (v4, s3)
theorem t_X5_forget {K : Cx} (h : Ok K cX5_forget RX5 2 rm_X5_forget none) (hs : kiv K = St) (x0 : Nat) (σ : Sg) (hk0 : kd x0 5) : T K (QV K) 0 [(0, .ref x0)] [] 0 0 σ (f_X5_forget x0 σ) := by
  unfold f_X5_forget
  refine T_iconst (pc := 0) h dX5_forget_0 ki_0 ?_
  refine T_istore_n (lv' := [(1, .int (0 : Int32)), (0, .ref x0)]) (pc := 1) h dX5_forget_1 rfl (by decide) rfl ?_
  refine T_sub [1, 0] rfl ?_
  exact T_fx (B := f_X5_forget_L2 x0) (fl := fun u => [(0, .ref x0), (1, .int (u.1))]) (f := fun u => (u.2)) (fun rec2 hr2 u => t_X5_forget_L2 h hs x0 hk0 rec2 hr2 u) FU ((0 : Int32), σ)
theorem M_X5_forget (l : Launch) {iv : Sg → Prop} (hi : iv = St) (x0 : Nat) (σ : Sg) (hk0 : kd x0 5) : CTv l yX5_forget cX5_forget 2 none rm_X5_forget iv [.ref x0] σ (f_X5_forget x0 σ) := by
  subst hi
  exact CT_of (by decide) (Nat.le_of_ble_eq_true rfl) (fun K _ h _ hs _ _ => t_X5_forget h hs x0 σ hk0)
/-! LuteTabs$Search.bitsOf(I)I -/
theorem dX5_bitsOf_0 : decode cX5_bitsOf 0 = .ok (.iconst 3, 1) := by decide +kernel
theorem dX5_bitsOf_1 : decode cX5_bitsOf 1 = .ok (.bipush 13, 2) := by decide +kernel
theorem dX5_bitsOf_3 : decode cX5_bitsOf 3 = .ok (.iload_n 0, 1) := by decide +kernel
theorem dX5_bitsOf_4 : decode cX5_bitsOf 4 = .ok (.isub, 1) := by decide +kernel
theorem dX5_bitsOf_5 : decode cX5_bitsOf 5 = .ok (.imul, 1) := by decide +kernel
theorem dX5_bitsOf_6 : decode cX5_bitsOf 6 = .ok (.ireturn, 1) := by decide +kernel
abbrev rm_X5_bitsOf : Room := { frames := 0, cells := 0, slots := 0, locals := 0 }
def f_X5_bitsOf (x0 : Int32) (σ : Sg) : Option (Int32 × Sg) := some (((3 : Int32) * ((13 : Int32) - x0)), σ)
theorem t_X5_bitsOf {K : Cx} (h : Ok K cX5_bitsOf RX5 1 rm_X5_bitsOf (some .int)) (hs : kiv K = St) (x0 : Int32) (σ : Sg)  : T K (QI K) 0 [(0, .int x0)] [] 0 0 σ (f_X5_bitsOf x0 σ) := by
  unfold f_X5_bitsOf
  refine T_iconst (pc := 0) h dX5_bitsOf_0 ki_3 ?_
  refine T_bipush (pc := 1) h dX5_bitsOf_1 kb_13 ?_
  refine T_iload_n (pc := 3) h dX5_bitsOf_3 rfl 0 rfl ?_
  refine T_isub (pc := 4) h dX5_bitsOf_4 ?_
  refine T_imul (pc := 5) h dX5_bitsOf_5 ?_
  exact T_ireturn (pc := 6) h (Nat.zero_le _) (Nat.zero_le _) dX5_bitsOf_6
theorem M_X5_bitsOf (l : Launch) {iv : Sg → Prop} (hi : iv = St) (x0 : Int32) (σ : Sg)  : CTi l yX5_bitsOf cX5_bitsOf 1 (some .int) rm_X5_bitsOf iv [.int x0] σ (f_X5_bitsOf x0 σ) := by
  subst hi
  exact CT_of (by decide) (Nat.le_of_ble_eq_true rfl) (fun K _ h _ hs _ _ => t_X5_bitsOf h hs x0 σ )
/-! LuteTabs$Search.spread(III)V -/
theorem dX5_spread_0 : decode cX5_spread 0 = .ok (.aload_n 0, 1) := by decide +kernel
theorem dX5_spread_1 : decode cX5_spread 1 = .ok (.getfield 23, 3) := by decide +kernel
theorem dX5_spread_4 : decode cX5_spread 4 = .ok (.iconst 0, 1) := by decide +kernel
theorem dX5_spread_5 : decode cX5_spread 5 = .ok (.putfield 86, 3) := by decide +kernel
theorem dX5_spread_8 : decode cX5_spread 8 = .ok (.iconst 0, 1) := by decide +kernel
theorem dX5_spread_9 : decode cX5_spread 9 = .ok (.istore 4, 2) := by decide +kernel
theorem dX5_spread_11 : decode cX5_spread 11 = .ok (.iload 4, 2) := by decide +kernel
theorem dX5_spread_13 : decode cX5_spread 13 = .ok (.aload_n 0, 1) := by decide +kernel
theorem dX5_spread_14 : decode cX5_spread 14 = .ok (.getfield 20, 3) := by decide +kernel
theorem dX5_spread_17 : decode cX5_spread 17 = .ok (.getfield 86, 3) := by decide +kernel
theorem dX5_spread_20 : decode cX5_spread 20 = .ok (.if_icmp .ge 129, 3) := by decide +kernel
theorem dX5_spread_23 : decode cX5_spread 23 = .ok (.iconst 0, 1) := by decide +kernel
theorem dX5_spread_24 : decode cX5_spread 24 = .ok (.istore 5, 2) := by decide +kernel
theorem dX5_spread_26 : decode cX5_spread 26 = .ok (.iload 5, 2) := by decide +kernel
theorem dX5_spread_28 : decode cX5_spread 28 = .ok (.aload_n 0, 1) := by decide +kernel
theorem dX5_spread_29 : decode cX5_spread 29 = .ok (.getfield 40, 3) := by decide +kernel
theorem dX5_spread_32 : decode cX5_spread 32 = .ok (.getfield 93, 3) := by decide +kernel
theorem dX5_spread_35 : decode cX5_spread 35 = .ok (.if_icmp .ge 108, 3) := by decide +kernel
theorem dX5_spread_38 : decode cX5_spread 38 = .ok (.iload 5, 2) := by decide +kernel
theorem dX5_spread_40 : decode cX5_spread 40 = .ok (.iload_n 3, 1) := by decide +kernel
theorem dX5_spread_41 : decode cX5_spread 41 = .ok (.if_icmp .eq 25, 3) := by decide +kernel
theorem dX5_spread_44 : decode cX5_spread 44 = .ok (.aload_n 0, 1) := by decide +kernel
theorem dX5_spread_45 : decode cX5_spread 45 = .ok (.getfield 20, 3) := by decide +kernel
theorem dX5_spread_48 : decode cX5_spread 48 = .ok (.getfield 94, 3) := by decide +kernel
theorem dX5_spread_51 : decode cX5_spread 51 = .ok (.iload 4, 2) := by decide +kernel
theorem dX5_spread_53 : decode cX5_spread 53 = .ok (.iaload, 1) := by decide +kernel
theorem dX5_spread_54 : decode cX5_spread 54 = .ok (.iload 5, 2) := by decide +kernel
theorem dX5_spread_56 : decode cX5_spread 56 = .ok (.ishr, 1) := by decide +kernel
theorem dX5_spread_57 : decode cX5_spread 57 = .ok (.iconst 1, 1) := by decide +kernel
theorem dX5_spread_58 : decode cX5_spread 58 = .ok (.iand, 1) := by decide +kernel
theorem dX5_spread_59 : decode cX5_spread 59 = .ok (.ifCond .ne 7, 3) := by decide +kernel
theorem dX5_spread_62 : decode cX5_spread 62 = .ok (.iconst 1, 1) := by decide +kernel
theorem dX5_spread_63 : decode cX5_spread 63 = .ok (.goto 4, 3) := by decide +kernel
theorem dX5_spread_66 : decode cX5_spread 66 = .ok (.iconst 0, 1) := by decide +kernel
theorem dX5_spread_67 : decode cX5_spread 67 = .ok (.istore 6, 2) := by decide +kernel
theorem dX5_spread_69 : decode cX5_spread 69 = .ok (.iload 6, 2) := by decide +kernel
theorem dX5_spread_71 : decode cX5_spread 71 = .ok (.ifCond .eq 66, 3) := by decide +kernel
theorem dX5_spread_74 : decode cX5_spread 74 = .ok (.aload_n 0, 1) := by decide +kernel
theorem dX5_spread_75 : decode cX5_spread 75 = .ok (.getfield 40, 3) := by decide +kernel
theorem dX5_spread_78 : decode cX5_spread 78 = .ok (.iload_n 2, 1) := by decide +kernel
theorem dX5_spread_79 : decode cX5_spread 79 = .ok (.aload_n 0, 1) := by decide +kernel
theorem dX5_spread_80 : decode cX5_spread 80 = .ok (.getfield 40, 3) := by decide +kernel
theorem dX5_spread_83 : decode cX5_spread 83 = .ok (.getfield 97, 3) := by decide +kernel
theorem dX5_spread_86 : decode cX5_spread 86 = .ok (.iload 5, 2) := by decide +kernel
theorem dX5_spread_88 : decode cX5_spread 88 = .ok (.iaload, 1) := by decide +kernel
theorem dX5_spread_89 : decode cX5_spread 89 = .ok (.isub, 1) := by decide +kernel
theorem dX5_spread_90 : decode cX5_spread 90 = .ok (.invokevirtual 100, 3) := by decide +kernel
theorem dX5_spread_93 : decode cX5_spread 93 = .ok (.ifCond .eq 44, 3) := by decide +kernel
theorem dX5_spread_96 : decode cX5_spread 96 = .ok (.aload_n 0, 1) := by decide +kernel
theorem dX5_spread_97 : decode cX5_spread 97 = .ok (.getfield 23, 3) := by decide +kernel
theorem dX5_spread_100 : decode cX5_spread 100 = .ok (.aload_n 0, 1) := by decide +kernel
theorem dX5_spread_101 : decode cX5_spread 101 = .ok (.getfield 20, 3) := by decide +kernel
theorem dX5_spread_104 : decode cX5_spread 104 = .ok (.getfield 104, 3) := by decide +kernel
theorem dX5_spread_107 : decode cX5_spread 107 = .ok (.iload 4, 2) := by decide +kernel
theorem dX5_spread_109 : decode cX5_spread 109 = .ok (.laload, 1) := by decide +kernel
theorem dX5_spread_110 : decode cX5_spread 110 = .ok (.iload 5, 2) := by decide +kernel
theorem dX5_spread_112 : decode cX5_spread 112 = .ok (.i2l, 1) := by decide +kernel
theorem dX5_spread_113 : decode cX5_spread 113 = .ok (.iload_n 1, 1) := by decide +kernel
theorem dX5_spread_114 : decode cX5_spread 114 = .ok (.invokestatic 52, 3) := by decide +kernel
theorem dX5_spread_117 : decode cX5_spread 117 = .ok (.lshl, 1) := by decide +kernel
theorem dX5_spread_118 : decode cX5_spread 118 = .ok (.lor, 1) := by decide +kernel
theorem dX5_spread_119 : decode cX5_spread 119 = .ok (.aload_n 0, 1) := by decide +kernel
theorem dX5_spread_120 : decode cX5_spread 120 = .ok (.getfield 20, 3) := by decide +kernel
theorem dX5_spread_123 : decode cX5_spread 123 = .ok (.getfield 94, 3) := by decide +kernel
theorem dX5_spread_126 : decode cX5_spread 126 = .ok (.iload 4, 2) := by decide +kernel
theorem dX5_spread_128 : decode cX5_spread 128 = .ok (.iaload, 1) := by decide +kernel
theorem dX5_spread_129 : decode cX5_spread 129 = .ok (.iconst 1, 1) := by decide +kernel
theorem dX5_spread_130 : decode cX5_spread 130 = .ok (.iload 5, 2) := by decide +kernel
theorem dX5_spread_132 : decode cX5_spread 132 = .ok (.ishl, 1) := by decide +kernel
theorem dX5_spread_133 : decode cX5_spread 133 = .ok (.ior, 1) := by decide +kernel
theorem dX5_spread_134 : decode cX5_spread 134 = .ok (.invokevirtual 107, 3) := by decide +kernel
theorem dX5_spread_137 : decode cX5_spread 137 = .ok (.iinc 5 1, 3) := by decide +kernel
theorem dX5_spread_140 : decode cX5_spread 140 = .ok (.goto (-114), 3) := by decide +kernel
theorem dX5_spread_143 : decode cX5_spread 143 = .ok (.iinc 4 1, 3) := by decide +kernel
theorem dX5_spread_146 : decode cX5_spread 146 = .ok (.goto (-135), 3) := by decide +kernel
theorem dX5_spread_149 : decode cX5_spread 149 = .ok (.aload_n 0, 1) := by decide +kernel
theorem dX5_spread_150 : decode cX5_spread 150 = .ok (.getfield 20, 3) := by decide +kernel
theorem dX5_spread_153 : decode cX5_spread 153 = .ok (.astore 4, 2) := by decide +kernel
theorem dX5_spread_155 : decode cX5_spread 155 = .ok (.aload_n 0, 1) := by decide +kernel
theorem dX5_spread_156 : decode cX5_spread 156 = .ok (.aload_n 0, 1) := by decide +kernel
theorem dX5_spread_157 : decode cX5_spread 157 = .ok (.getfield 23, 3) := by decide +kernel
theorem dX5_spread_160 : decode cX5_spread 160 = .ok (.putfield 20, 3) := by decide +kernel
theorem dX5_spread_163 : decode cX5_spread 163 = .ok (.aload_n 0, 1) := by decide +kernel
theorem dX5_spread_164 : decode cX5_spread 164 = .ok (.aload 4, 2) := by decide +kernel
theorem dX5_spread_166 : decode cX5_spread 166 = .ok (.putfield 23, 3) := by decide +kernel
theorem dX5_spread_169 : decode cX5_spread 169 = .ok (.return_, 1) := by decide +kernel
abbrev rm_X5_spread : Room := { frames := 1, cells := 0, slots := 0, locals := 23 }
def f_X5_spread_L137 (rec11 : Int32 × Sg → Option (Unit × Sg)) (rec26 : Int32 × Sg → Option (Unit × Sg)) (x0 : Nat) (x1 : Int32) (x2 : Int32) (x3 : Int32) (x4 : Int32) (x5 : Int32)  (σ : Sg) : Option (Unit × Sg) := lB (x5 + (1 : Int32)) fun v1 => rec26 (v1, σ)
def f_X5_spread_L67 (rec11 : Int32 × Sg → Option (Unit × Sg)) (rec26 : Int32 × Sg → Option (Unit × Sg)) (x0 : Nat) (x1 : Int32) (x2 : Int32) (x3 : Int32) (x4 : Int32) (x5 : Int32) (y0 : Int32) (σ : Sg) : Option (Unit × Sg) := (if y0 = 0 then f_X5_spread_L137 rec11 rec26 x0 x1 x2 x3 x4 x5 σ else ck (inb x5 (aL (gR σ (gR σ x0 0) 1))) (bd (f_X1_hasFret (gR σ x0 0) (x2 - (gI σ (gR σ (gR σ x0 0) 1) x5.toNatClampNeg)) σ) fun r5 s4 => (if r5 = 0 then f_X5_spread_L137 rec11 rec26 x0 x1 x2 x3 x4 x5 s4 else ck (inb x4 (aL (gR s4 (gR s4 x0 4) 0))) (bd (f_X5_bitsOf x1 s4) fun r10 s9 => ck (inb x4 (aL (gR s9 (gR s9 x0 4) 1))) (bd (f_X7_add (gR s4 x0 5) ((gL s4 (gR s4 (gR s4 x0 4) 0) x4.toNatClampNeg) ||| (x5.toInt64 <<< (r10.toInt64 &&& 63))) ((gI s9 (gR s9 (gR s9 x0 4) 1) x4.toNatClampNeg) ||| ((1 : Int32) <<< (x5 &&& 31))) s9) fun _ s13 => f_X5_spread_L137 rec11 rec26 x0 x1 x2 x3 x4 x5 s13)))))
def f_X5_spread_L66 (rec11 : Int32 × Sg → Option (Unit × Sg)) (rec26 : Int32 × Sg → Option (Unit × Sg)) (x0 : Nat) (x1 : Int32) (x2 : Int32) (x3 : Int32) (x4 : Int32) (x5 : Int32)  (σ : Sg) : Option (Unit × Sg) := f_X5_spread_L67 rec11 rec26 x0 x1 x2 x3 x4 x5 (0 : Int32) σ
def f_X5_spread_L26 (rec11 : Int32 × Sg → Option (Unit × Sg)) (x0 : Nat) (x1 : Int32) (x2 : Int32) (x3 : Int32) (x4 : Int32) (rec26 : Int32 × Sg → Option (Unit × Sg)) (s : Int32 × Sg) : Option (Unit × Sg) := (if (gI (s.2) (gR (s.2) x0 0) 0) ≤ (s.1) then lB (x4 + (1 : Int32)) fun v2 => rec11 (v2, (s.2)) else (if (s.1) = x3 then f_X5_spread_L66 rec11 rec26 x0 x1 x2 x3 x4 (s.1) (s.2) else ck (inb x4 (aL (gR (s.2) (gR (s.2) x0 4) 1))) ((if (((gI (s.2) (gR (s.2) (gR (s.2) x0 4) 1) x4.toNatClampNeg) >>> ((s.1) &&& 31)) &&& (1 : Int32)) = 0 then f_X5_spread_L67 rec11 rec26 x0 x1 x2 x3 x4 (s.1) (1 : Int32) (s.2) else f_X5_spread_L66 rec11 rec26 x0 x1 x2 x3 x4 (s.1) (s.2)))))
def f_X5_spread_L11  (x0 : Nat) (x1 : Int32) (x2 : Int32) (x3 : Int32) (rec11 : Int32 × Sg → Option (Unit × Sg)) (s : Int32 × Sg) : Option (Unit × Sg) := (if (gI (s.2) (gR (s.2) x0 4) 4) ≤ (s.1) then lB (pR (s.2) x0 4 (gR (s.2) x0 5)) fun s4 => lB (pR s4 x0 5 (gR (s.2) x0 4)) fun s5 => some ((), s5) else fx (f_X5_spread_L26 rec11 x0 x1 x2 x3 (s.1)) FU ((0 : Int32), (s.2)))
def f_X5_spread (x0 : Nat) (x1 : Int32) (x2 : Int32) (x3 : Int32) (σ : Sg) : Option (Unit × Sg) := lB (pI σ (gR σ x0 5) 4 (0 : Int32)) fun s2 => fx (f_X5_spread_L11 x0 x1 x2 x3) FU ((0 : Int32), s2)
theorem t_X5_spread_L137 {K : Cx} (h : Ok K cX5_spread RX5 7 rm_X5_spread none) (hs : kiv K = St) (x0 : Nat) (x1 : Int32) (x2 : Int32) (x3 : Int32) (x4 : Int32) (x5 : Int32)  (σ : Sg) (rec11 : Int32 × Sg → Option (Unit × Sg)) (hr11 : ∀ u, T K (QV K) 11 [(0, .ref x0), (1, .int x1), (2, .int x2), (3, .int x3), (4, .int (u.1))] [] 0 0 (u.2) (rec11 u)) (rec26 : Int32 × Sg → Option (Unit × Sg)) (hr26 : ∀ u, T K (QV K) 26 [(0, .ref x0), (1, .int x1), (2, .int x2), (3, .int x3), (4, .int x4), (5, .int (u.1))] [] 0 0 (u.2) (rec26 u)) (hk0 : kd x0 5)  : T K (QV K) 137 [(0, .ref x0), (1, .int x1), (2, .int x2), (3, .int x3), (4, .int x4), (5, .int x5)] [] 0 0 σ (f_X5_spread_L137 rec11 rec26 x0 x1 x2 x3 x4 x5 σ) := by
  unfold f_X5_spread_L137
  refine T_iinc (fl := fun v1 => [(5, .int v1), (0, .ref x0), (1, .int x1), (2, .int x2), (3, .int x3), (4, .int x4)]) (pc := 137) h dX5_spread_137 5 rfl ki_1 (by decide) (fun _ => rfl) (fun v1 => ?_)
  refine T_goto (pc := 140) (tgt := 26) h dX5_spread_140 (by decide) ?_
  refine T_sub [1, 2, 3, 4, 5, 0] rfl ?_
  exact hr26 (v1, σ)
theorem t_X5_spread_L67 {K : Cx} (h : Ok K cX5_spread RX5 7 rm_X5_spread none) (hs : kiv K = St) (x0 : Nat) (x1 : Int32) (x2 : Int32) (x3 : Int32) (x4 : Int32) (x5 : Int32) (y0 : Int32) (σ : Sg) (rec11 : Int32 × Sg → Option (Unit × Sg)) (hr11 : ∀ u, T K (QV K) 11 [(0, .ref x0), (1, .int x1), (2, .int x2), (3, .int x3), (4, .int (u.1))] [] 0 0 (u.2) (rec11 u)) (rec26 : Int32 × Sg → Option (Unit × Sg)) (hr26 : ∀ u, T K (QV K) 26 [(0, .ref x0), (1, .int x1), (2, .int x2), (3, .int x3), (4, .int x4), (5, .int (u.1))] [] 0 0 (u.2) (rec26 u)) (hk0 : kd x0 5)  : T K (QV K) 67 [(0, .ref x0), (1, .int x1), (2, .int x2), (3, .int x3), (4, .int x4), (5, .int x5)] [.int y0] 0 0 σ (f_X5_spread_L67 rec11 rec26 x0 x1 x2 x3 x4 x5 y0 σ) := by
  unfold f_X5_spread_L67
  refine T_istore (lv' := [(6, .int y0), (0, .ref x0), (1, .int x1), (2, .int x2), (3, .int x3), (4, .int x4), (5, .int x5)]) (pc := 67) h dX5_spread_67 (by decide) rfl ?_
  refine T_iload (pc := 69) h dX5_spread_69 0 rfl ?_
  refine T_if_eq (pc := 71) (tgt := 137) h dX5_spread_71 (by decide) ?_ ?_
  · refine T_sub [1, 2, 3, 4, 5, 6] rfl ?_
    exact t_X5_spread_L137 h hs x0 x1 x2 x3 x4 x5 σ rec11 hr11 rec26 hr26 hk0
  · refine T_aload_n (pc := 74) h dX5_spread_74 rfl 1 rfl ?_
    refine T_gR (pc := 75) h hs hk0 fl_X5_40 rfl fk_5_0 dX5_spread_75 (fun hq1 => ?_)
    refine T_iload_n (pc := 78) h dX5_spread_78 rfl 3 rfl ?_
    refine T_aload_n (pc := 79) h dX5_spread_79 rfl 1 rfl ?_
    refine T_gR (pc := 80) h hs hk0 fl_X5_40 rfl fk_5_0 dX5_spread_80 (fun hq2 => ?_)
    refine T_gR (pc := 83) h hs hq2 fl_X5_97 rfl fk_1_1 dX5_spread_83 (fun hq3 => ?_)
    refine T_iload (pc := 86) h dX5_spread_86 6 rfl ?_
    refine T_iald (pc := 88) h hs hq3 dX5_spread_88 ?_
    refine T_isub (pc := 89) h dX5_spread_89 ?_
    refine T_callVi (pc := 90) h (M_X1_hasFret (kl K) hs (gR σ x0 0) (x2 - (gI σ (gR σ (gR σ x0 0) 1) x5.toNatClampNeg)) σ hq1) mv_X1_hasFret hs hq1 ml_X5_100 rfl ⟨Nat.le_of_ble_eq_true rfl, Nat.le_of_ble_eq_true rfl⟩ ⟨Nat.le_refl 0, Nat.le_refl 0⟩ (Nat.le_of_ble_eq_true rfl) dX5_spread_90 rfl (fun r5 s4 => ?_)
    refine T_if_eq (pc := 93) (tgt := 137) h dX5_spread_93 (by decide) ?_ ?_
    · refine T_sub [1, 2, 3, 4, 5, 6] rfl ?_
      exact t_X5_spread_L137 h hs x0 x1 x2 x3 x4 x5 s4 rec11 hr11 rec26 hr26 hk0
    · refine T_aload_n (pc := 96) h dX5_spread_96 rfl 1 rfl ?_
      refine T_gR (pc := 97) h hs hk0 fl_X5_23 rfl fk_5_5 dX5_spread_97 (fun hq6 => ?_)
      refine T_aload_n (pc := 100) h dX5_spread_100 rfl 1 rfl ?_
      refine T_gR (pc := 101) h hs hk0 fl_X5_20 rfl fk_5_4 dX5_spread_101 (fun hq7 => ?_)
      refine T_gR (pc := 104) h hs hq7 fl_X5_104 rfl fk_7_0 dX5_spread_104 (fun hq8 => ?_)
      refine T_iload (pc := 107) h dX5_spread_107 5 rfl ?_
      refine T_lald (pc := 109) h hs hq8 dX5_spread_109 ?_
      refine T_iload (pc := 110) h dX5_spread_110 6 rfl ?_
      refine T_i2l (pc := 112) h dX5_spread_112 ?_
      refine T_iload_n (pc := 113) h dX5_spread_113 rfl 2 rfl ?_
      refine T_callSi (pc := 114) h (M_X5_bitsOf (kl K) hs x1 s4 ) mst_X5_bitsOf ml_X5_52 rfl ⟨Nat.le_of_ble_eq_true rfl, Nat.le_of_ble_eq_true rfl⟩ ⟨Nat.le_refl 0, Nat.le_refl 0⟩ (Nat.le_of_ble_eq_true rfl) dX5_spread_114 rfl (fun r10 s9 => ?_)
      refine T_lshl (pc := 117) h dX5_spread_117 ?_
      refine T_lor (pc := 118) h dX5_spread_118 ?_
      refine T_aload_n (pc := 119) h dX5_spread_119 rfl 1 rfl ?_
      refine T_gR (pc := 120) h hs hk0 fl_X5_20 rfl fk_5_4 dX5_spread_120 (fun hq11 => ?_)
      refine T_gR (pc := 123) h hs hq11 fl_X5_94 rfl fk_7_1 dX5_spread_123 (fun hq12 => ?_)
      refine T_iload (pc := 126) h dX5_spread_126 5 rfl ?_
      refine T_iald (pc := 128) h hs hq12 dX5_spread_128 ?_
      refine T_iconst (pc := 129) h dX5_spread_129 ki_1 ?_
      refine T_iload (pc := 130) h dX5_spread_130 6 rfl ?_
      refine T_ishl (pc := 132) h dX5_spread_132 ?_
      refine T_ior (pc := 133) h dX5_spread_133 ?_
      refine T_callVv (pc := 134) h (M_X7_add (kl K) hs (gR s4 x0 5) ((gL s4 (gR s4 (gR s4 x0 4) 0) x4.toNatClampNeg) ||| (x5.toInt64 <<< (r10.toInt64 &&& 63))) ((gI s9 (gR s9 (gR s9 x0 4) 1) x4.toNatClampNeg) ||| ((1 : Int32) <<< (x5 &&& 31))) s9 hq6) mv_X7_add hs hq6 ml_X5_107 rfl ⟨Nat.le_of_ble_eq_true rfl, Nat.le_of_ble_eq_true rfl⟩ ⟨Nat.le_refl 0, Nat.le_refl 0⟩ (Nat.le_of_ble_eq_true rfl) dX5_spread_134 rfl (fun _ s13 => ?_)
      refine T_sub [1, 2, 3, 4, 5, 6] rfl ?_
      exact t_X5_spread_L137 h hs x0 x1 x2 x3 x4 x5 s13 rec11 hr11 rec26 hr26 hk0
theorem t_X5_spread_L66 {K : Cx} (h : Ok K cX5_spread RX5 7 rm_X5_spread none) (hs : kiv K = St) (x0 : Nat) (x1 : Int32) (x2 : Int32) (x3 : Int32) (x4 : Int32) (x5 : Int32)  (σ : Sg) (rec11 : Int32 × Sg → Option (Unit × Sg)) (hr11 : ∀ u, T K (QV K) 11 [(0, .ref x0), (1, .int x1), (2, .int x2), (3, .int x3), (4, .int (u.1))] [] 0 0 (u.2) (rec11 u)) (rec26 : Int32 × Sg → Option (Unit × Sg)) (hr26 : ∀ u, T K (QV K) 26 [(0, .ref x0), (1, .int x1), (2, .int x2), (3, .int x3), (4, .int x4), (5, .int (u.1))] [] 0 0 (u.2) (rec26 u)) (hk0 : kd x0 5)  : T K (QV K) 66 [(0, .ref x0), (1, .int x1), (2, .int x2), (3, .int x3), (4, .int x4), (5, .int x5)] [] 0 0 σ (f_X5_spread_L66 rec11 rec26 x0 x1 x2 x3 x4 x5 σ) := by
  unfold f_X5_spread_L66
  refine T_iconst (pc := 66) h dX5_spread_66 ki_0 ?_
  refine T_sub [0, 1, 2, 3, 4, 5] rfl ?_
  exact t_X5_spread_L67 h hs x0 x1 x2 x3 x4 x5 (0 : Int32) σ rec11 hr11 rec26 hr26 hk0
theorem t_X5_spread_L26 {K : Cx} (h : Ok K cX5_spread RX5 7 rm_X5_spread none) (hs : kiv K = St) (x0 : Nat) (x1 : Int32) (x2 : Int32) (x3 : Int32) (x4 : Int32) (rec11 : Int32 × Sg → Option (Unit × Sg)) (hr11 : ∀ u, T K (QV K) 11 [(0, .ref x0), (1, .int x1), (2, .int x2), (3, .int x3), (4, .int (u.1))] [] 0 0 (u.2) (rec11 u)) (hk0 : kd x0 5) (rec26 : Int32 × Sg → Option (Unit × Sg)) (hr26 : ∀ u, T K (QV K) 26 [(0, .ref x0), (1, .int x1), (2, .int x2), (3, .int x3), (4, .int x4), (5, .int (u.1))] [] 0 0 (u.2) (rec26 u)) (s : Int32 × Sg) : T K (QV K) 26 [(0, .ref x0), (1, .int x1), (2, .int x2), (3, .int x3), (4, .int x4), (5, .int (s.1))] [] 0 0 (s.2) (f_X5_spread_L26 rec11 x0 x1 x2 x3 x4 rec26 s) := by
  unfold f_X5_spread_L26
  refine T_iload (pc := 26) h dX5_spread_26 5 rfl ?_
  refine T_aload_n (pc := 28) h dX5_spread_28 rfl 0 rfl ?_
  refine T_gR (pc := 29) h hs hk0 fl_X5_40 rfl fk_5_0 dX5_spread_29 (fun hq1 => ?_)
  refine T_getI (pc := 32) h hs hq1 fl_X5_93 rfl dX5_spread_32 ?_
  refine T_icmp_ge (pc := 35) (tgt := 143) h dX5_spread_35 (by decide) ?_ ?_
  · refine T_iinc (fl := fun v2 => [(4, .int v2), (0, .ref x0), (1, .int x1), (2, .int x2), (3, .int x3), (5, .int (s.1))]) (pc := 143) h dX5_spread_143 4 rfl ki_1 (by decide) (fun _ => rfl) (fun v2 => ?_)
    refine T_goto (pc := 146) (tgt := 11) h dX5_spread_146 (by decide) ?_
    refine T_sub [1, 2, 3, 4, 0] rfl ?_
    exact hr11 (v2, (s.2))
  · refine T_iload (pc := 38) h dX5_spread_38 5 rfl ?_
    refine T_iload_n (pc := 40) h dX5_spread_40 rfl 3 rfl ?_
    refine T_icmp_eq (pc := 41) (tgt := 66) h dX5_spread_41 (by decide) ?_ ?_
    · refine T_sub [0, 1, 2, 3, 4, 5] rfl ?_
      exact t_X5_spread_L66 h hs x0 x1 x2 x3 x4 (s.1) (s.2) rec11 hr11 rec26 hr26 hk0
    · refine T_aload_n (pc := 44) h dX5_spread_44 rfl 0 rfl ?_
      refine T_gR (pc := 45) h hs hk0 fl_X5_20 rfl fk_5_4 dX5_spread_45 (fun hq3 => ?_)
      refine T_gR (pc := 48) h hs hq3 fl_X5_94 rfl fk_7_1 dX5_spread_48 (fun hq4 => ?_)
      refine T_iload (pc := 51) h dX5_spread_51 4 rfl ?_
      refine T_iald (pc := 53) h hs hq4 dX5_spread_53 ?_
      refine T_iload (pc := 54) h dX5_spread_54 5 rfl ?_
      refine T_ishr (pc := 56) h dX5_spread_56 ?_
      refine T_iconst (pc := 57) h dX5_spread_57 ki_1 ?_
      refine T_iand (pc := 58) h dX5_spread_58 ?_
      refine T_if_ne (pc := 59) (tgt := 66) h dX5_spread_59 (by decide) ?_ ?_
      · refine T_sub [0, 1, 2, 3, 4, 5] rfl ?_
        exact t_X5_spread_L66 h hs x0 x1 x2 x3 x4 (s.1) (s.2) rec11 hr11 rec26 hr26 hk0
      · refine T_iconst (pc := 62) h dX5_spread_62 ki_1 ?_
        refine T_goto (pc := 63) (tgt := 67) h dX5_spread_63 (by decide) ?_
        refine T_sub [0, 1, 2, 3, 4, 5] rfl ?_
        exact t_X5_spread_L67 h hs x0 x1 x2 x3 x4 (s.1) (1 : Int32) (s.2) rec11 hr11 rec26 hr26 hk0
theorem t_X5_spread_L11 {K : Cx} (h : Ok K cX5_spread RX5 7 rm_X5_spread none) (hs : kiv K = St) (x0 : Nat) (x1 : Int32) (x2 : Int32) (x3 : Int32)  (hk0 : kd x0 5) (rec11 : Int32 × Sg → Option (Unit × Sg)) (hr11 : ∀ u, T K (QV K) 11 [(0, .ref x0), (1, .int x1), (2, .int x2), (3, .int x3), (4, .int (u.1))] [] 0 0 (u.2) (rec11 u)) (s : Int32 × Sg) : T K (QV K) 11 [(0, .ref x0), (1, .int x1), (2, .int x2), (3, .int x3), (4, .int (s.1))] [] 0 0 (s.2) (f_X5_spread_L11 x0 x1 x2 x3 rec11 s) := by
  unfold f_X5_spread_L11
  refine T_iload (pc := 11) h dX5_spread_11 4 rfl ?_
  refine T_aload_n (pc := 13) h dX5_spread_13 rfl 0 rfl ?_
  refine T_gR (pc := 14) h hs hk0 fl_X5_20 rfl fk_5_4 dX5_spread_14 (fun hq1 => ?_)
  refine T_getI (pc := 17) h hs hq1 fl_X5_86 rfl dX5_spread_17 ?_
  refine T_icmp_ge (pc := 20) (tgt := 149) h dX5_spread_20 (by decide) ?_ ?_
  · refine T_aload_n (pc := 149) h dX5_spread_149 rfl 0 rfl ?_
    refine T_gR (pc := 150) h hs hk0 fl_X5_20 rfl fk_5_4 dX5_spread_150 (fun hq2 => ?_)
    refine T_astore (lv' := [(4, .ref (gR (s.2) x0 4)), (0, .ref x0), (1, .int x1), (2, .int x2), (3, .int x3)]) (pc := 153) h dX5_spread_153 (by decide) rfl ?_
    refine T_aload_n (pc := 155) h dX5_spread_155 rfl 1 rfl ?_
    refine T_aload_n (pc := 156) h dX5_spread_156 rfl 1 rfl ?_
    refine T_gR (pc := 157) h hs hk0 fl_X5_23 rfl fk_5_5 dX5_spread_157 (fun hq3 => ?_)
    refine T_putR (pc := 160) h hs hk0 fl_X5_20 rfl rfl fk_5_4 hq3 dX5_spread_160 ?_
    refine T_letS fun s4 => ?_
    refine T_aload_n (pc := 163) h dX5_spread_163 rfl 1 rfl ?_
    refine T_aload (pc := 164) h dX5_spread_164 0 rfl ?_
    refine T_putR (pc := 166) h hs hk0 fl_X5_23 rfl rfl fk_5_5 hq2 dX5_spread_166 ?_
    refine T_letS fun s5 => ?_
    exact T_return (pc := 169) h (Nat.zero_le _) (Nat.zero_le _) dX5_spread_169
  · refine T_iconst (pc := 23) h dX5_spread_23 ki_0 ?_
    refine T_istore (lv' := [(5, .int (0 : Int32)), (0, .ref x0), (1, .int x1), (2, .int x2), (3, .int x3), (4, .int (s.1))]) (pc := 24) h dX5_spread_24 (by decide) rfl ?_
    refine T_sub [1, 2, 3, 4, 5, 0] rfl ?_
    exact T_fx (B := f_X5_spread_L26 rec11 x0 x1 x2 x3 (s.1)) (fl := fun u => [(0, .ref x0), (1, .int x1), (2, .int x2), (3, .int x3), (4, .int (s.1)), (5, .int (u.1))]) (f := fun u => (u.2)) (fun rec26 hr26 u => t_X5_spread_L26 h hs x0 x1 x2 x3 (s.1) rec11 hr11 hk0 rec26 hr26 u) FU ((0 : Int32), (s.2))
theorem t_X5_spread {K : Cx} (h : Ok K cX5_spread RX5 7 rm_X5_spread none) (hs : kiv K = St) (x0 : Nat) (x1 : Int32) (x2 : Int32) (x3 : Int32) (σ : Sg) (hk0 : kd x0 5) : T K (QV K) 0 [(0, .ref x0), (1, .int x1), (2, .int x2), (3, .int x3)] [] 0 0 σ (f_X5_spread x0 x1 x2 x3 σ) := by
  unfold f_X5_spread
  refine T_aload_n (pc := 0) h dX5_spread_0 rfl 0 rfl ?_
  refine T_gR (pc := 1) h hs hk0 fl_X5_23 rfl fk_5_5 dX5_spread_1 (fun hq1 => ?_)
  refine T_iconst (pc := 4) h dX5_spread_4 ki_0 ?_
  refine T_putI (pc := 5) h hs hq1 fl_X5_86 rfl rfl dX5_spread_5 ?_
  refine T_letS fun s2 => ?_
  refine T_iconst (pc := 8) h dX5_spread_8 ki_0 ?_
  refine T_istore (lv' := [(4, .int (0 : Int32)), (0, .ref x0), (1, .int x1), (2, .int x2), (3, .int x3)]) (pc := 9) h dX5_spread_9 (by decide) rfl ?_
  refine T_sub [1, 2, 3, 4, 0] rfl ?_
  exact T_fx (B := f_X5_spread_L11 x0 x1 x2 x3) (fl := fun u => [(0, .ref x0), (1, .int x1), (2, .int x2), (3, .int x3), (4, .int (u.1))]) (f := fun u => (u.2)) (fun rec11 hr11 u => t_X5_spread_L11 h hs x0 x1 x2 x3 hk0 rec11 hr11 u) FU ((0 : Int32), s2)
theorem M_X5_spread (l : Launch) {iv : Sg → Prop} (hi : iv = St) (x0 : Nat) (x1 : Int32) (x2 : Int32) (x3 : Int32) (σ : Sg) (hk0 : kd x0 5) : CTv l yX5_spread cX5_spread 7 none rm_X5_spread iv [.ref x0, .int x1, .int x2, .int x3] σ (f_X5_spread x0 x1 x2 x3 σ) := by
  subst hi
  exact CT_of (by decide) (Nat.le_of_ble_eq_true rfl) (fun K _ h _ hs _ _ => t_X5_spread h hs x0 x1 x2 x3 σ hk0)
/-! LuteTabs$Search.heldBits(I)J -/
theorem dX5_heldBits_0 : decode cX5_heldBits 0 = .ok (.lconst 0, 1) := by decide +kernel
theorem dX5_heldBits_1 : decode cX5_heldBits 1 = .ok (.lstore_n 2, 1) := by decide +kernel
theorem dX5_heldBits_2 : decode cX5_heldBits 2 = .ok (.iconst 0, 1) := by decide +kernel
theorem dX5_heldBits_3 : decode cX5_heldBits 3 = .ok (.istore 4, 2) := by decide +kernel
theorem dX5_heldBits_5 : decode cX5_heldBits 5 = .ok (.iload 4, 2) := by decide +kernel
theorem dX5_heldBits_7 : decode cX5_heldBits 7 = .ok (.aload_n 0, 1) := by decide +kernel
theorem dX5_heldBits_8 : decode cX5_heldBits 8 = .ok (.getfield 44, 3) := by decide +kernel
theorem dX5_heldBits_11 : decode cX5_heldBits 11 = .ok (.getfield 69, 3) := by decide +kernel
theorem dX5_heldBits_14 : decode cX5_heldBits 14 = .ok (.iload_n 1, 1) := by decide +kernel
theorem dX5_heldBits_15 : decode cX5_heldBits 15 = .ok (.iaload, 1) := by decide +kernel
theorem dX5_heldBits_16 : decode cX5_heldBits 16 = .ok (.if_icmp .ge 39, 3) := by decide +kernel
theorem dX5_heldBits_19 : decode cX5_heldBits 19 = .ok (.aload_n 0, 1) := by decide +kernel
theorem dX5_heldBits_20 : decode cX5_heldBits 20 = .ok (.getfield 44, 3) := by decide +kernel
theorem dX5_heldBits_23 : decode cX5_heldBits 23 = .ok (.getfield 72, 3) := by decide +kernel
theorem dX5_heldBits_26 : decode cX5_heldBits 26 = .ok (.iload_n 1, 1) := by decide +kernel
theorem dX5_heldBits_27 : decode cX5_heldBits 27 = .ok (.iaload, 1) := by decide +kernel
theorem dX5_heldBits_28 : decode cX5_heldBits 28 = .ok (.iload 4, 2) := by decide +kernel
theorem dX5_heldBits_30 : decode cX5_heldBits 30 = .ok (.ishr, 1) := by decide +kernel
theorem dX5_heldBits_31 : decode cX5_heldBits 31 = .ok (.iconst 1, 1) := by decide +kernel
theorem dX5_heldBits_32 : decode cX5_heldBits 32 = .ok (.iand, 1) := by decide +kernel
theorem dX5_heldBits_33 : decode cX5_heldBits 33 = .ok (.iconst 1, 1) := by decide +kernel
theorem dX5_heldBits_34 : decode cX5_heldBits 34 = .ok (.if_icmp .ne 15, 3) := by decide +kernel
theorem dX5_heldBits_37 : decode cX5_heldBits 37 = .ok (.lload_n 2, 1) := by decide +kernel
theorem dX5_heldBits_38 : decode cX5_heldBits 38 = .ok (.ldc2_w 144, 3) := by decide +kernel
theorem dX5_heldBits_41 : decode cX5_heldBits 41 = .ok (.iload 4, 2) := by decide +kernel
theorem dX5_heldBits_43 : decode cX5_heldBits 43 = .ok (.invokestatic 52, 3) := by decide +kernel
theorem dX5_heldBits_46 : decode cX5_heldBits 46 = .ok (.lshl, 1) := by decide +kernel
theorem dX5_heldBits_47 : decode cX5_heldBits 47 = .ok (.lor, 1) := by decide +kernel
theorem dX5_heldBits_48 : decode cX5_heldBits 48 = .ok (.lstore_n 2, 1) := by decide +kernel
theorem dX5_heldBits_49 : decode cX5_heldBits 49 = .ok (.iinc 4 1, 3) := by decide +kernel
theorem dX5_heldBits_52 : decode cX5_heldBits 52 = .ok (.goto (-47), 3) := by decide +kernel
theorem dX5_heldBits_55 : decode cX5_heldBits 55 = .ok (.lload_n 2, 1) := by decide +kernel
theorem dX5_heldBits_56 : decode cX5_heldBits 56 = .ok (.lreturn, 1) := by decide +kernel
abbrev rm_X5_heldBits : Room := { frames := 1, cells := 0, slots := 0, locals := 20 }
def f_X5_heldBits_L49 (rec5 : Int64 × Int32 × Sg → Option (Int64 × Sg)) (x0 : Nat) (x1 : Int32) (x2 : Int64) (x4 : Int32)  (σ : Sg) : Option (Int64 × Sg) := lB (x4 + (1 : Int32)) fun v1 => rec5 (x2, v1, σ)
def f_X5_heldBits_L5  (x0 : Nat) (x1 : Int32) (rec5 : Int64 × Int32 × Sg → Option (Int64 × Sg)) (s : Int64 × Int32 × Sg) : Option (Int64 × Sg) := ck (inb x1 (aL (gR (s.2.2) (gR (s.2.2) x0 1) 4))) ((if (gI (s.2.2) (gR (s.2.2) (gR (s.2.2) x0 1) 4) x1.toNatClampNeg) ≤ (s.2.1) then some ((s.1), (s.2.2)) else ck (inb x1 (aL (gR (s.2.2) (gR (s.2.2) x0 1) 5))) ((if (((gI (s.2.2) (gR (s.2.2) (gR (s.2.2) x0 1) 5) x1.toNatClampNeg) >>> ((s.2.1) &&& 31)) &&& (1 : Int32)) = (1 : Int32) then bd (f_X5_bitsOf (s.2.1) (s.2.2)) fun r6 s5 => lB (((s.1) ||| ((7 : Int64) <<< (r6.toInt64 &&& 63)))) fun v7 => f_X5_heldBits_L49 rec5 x0 x1 v7 (s.2.1) s5 else f_X5_heldBits_L49 rec5 x0 x1 (s.1) (s.2.1) (s.2.2)))))
def f_X5_heldBits (x0 : Nat) (x1 : Int32) (σ : Sg) : Option (Int64 × Sg) := fx (f_X5_heldBits_L5 x0 x1) FU ((0 : Int64), (0 : Int32), σ)
theorem t_X5_heldBits_L49 {K : Cx} (h : Ok K cX5_heldBits RX5 5 rm_X5_heldBits (some .long)) (hs : kiv K = St) (x0 : Nat) (x1 : Int32) (x2 : Int64) (x4 : Int32)  (σ : Sg) (rec5 : Int64 × Int32 × Sg → Option (Int64 × Sg)) (hr5 : ∀ u, T K (QL K) 5 [(0, .ref x0), (1, .int x1), (2, .long (u.1)), (4, .int (u.2.1))] [] 0 0 (u.2.2) (rec5 u)) (hk0 : kd x0 5)  : T K (QL K) 49 [(0, .ref x0), (1, .int x1), (2, .long x2), (4, .int x4)] [] 0 0 σ (f_X5_heldBits_L49 rec5 x0 x1 x2 x4 σ) := by
  unfold f_X5_heldBits_L49
  refine T_iinc (fl := fun v1 => [(4, .int v1), (0, .ref x0), (1, .int x1), (2, .long x2)]) (pc := 49) h dX5_heldBits_49 3 rfl ki_1 (by decide) (fun _ => rfl) (fun v1 => ?_)
  refine T_goto (pc := 52) (tgt := 5) h dX5_heldBits_52 (by decide) ?_
  refine T_sub [1, 2, 3, 0] rfl ?_
  exact hr5 (x2, v1, σ)
theorem t_X5_heldBits_L5 {K : Cx} (h : Ok K cX5_heldBits RX5 5 rm_X5_heldBits (some .long)) (hs : kiv K = St) (x0 : Nat) (x1 : Int32)  (hk0 : kd x0 5) (rec5 : Int64 × Int32 × Sg → Option (Int64 × Sg)) (hr5 : ∀ u, T K (QL K) 5 [(0, .ref x0), (1, .int x1), (2, .long (u.1)), (4, .int (u.2.1))] [] 0 0 (u.2.2) (rec5 u)) (s : Int64 × Int32 × Sg) : T K (QL K) 5 [(0, .ref x0), (1, .int x1), (2, .long (s.1)), (4, .int (s.2.1))] [] 0 0 (s.2.2) (f_X5_heldBits_L5 x0 x1 rec5 s) := by
  unfold f_X5_heldBits_L5
  refine T_iload (pc := 5) h dX5_heldBits_5 3 rfl ?_
  refine T_aload_n (pc := 7) h dX5_heldBits_7 rfl 0 rfl ?_
  refine T_gR (pc := 8) h hs hk0 fl_X5_44 rfl fk_5_1 dX5_heldBits_8 (fun hq1 => ?_)
  refine T_gR (pc := 11) h hs hq1 fl_X5_69 rfl fk_2_4 dX5_heldBits_11 (fun hq2 => ?_)
  refine T_iload_n (pc := 14) h dX5_heldBits_14 rfl 1 rfl ?_
  refine T_iald (pc := 15) h hs hq2 dX5_heldBits_15 ?_
  refine T_icmp_ge (pc := 16) (tgt := 55) h dX5_heldBits_16 (by decide) ?_ ?_
  · refine T_lload_n (pc := 55) h dX5_heldBits_55 rfl 2 rfl ?_
    exact T_lreturn (pc := 56) h (Nat.zero_le _) (Nat.zero_le _) dX5_heldBits_56
  · refine T_aload_n (pc := 19) h dX5_heldBits_19 rfl 0 rfl ?_
    refine T_gR (pc := 20) h hs hk0 fl_X5_44 rfl fk_5_1 dX5_heldBits_20 (fun hq3 => ?_)
    refine T_gR (pc := 23) h hs hq3 fl_X5_72 rfl fk_2_5 dX5_heldBits_23 (fun hq4 => ?_)
    refine T_iload_n (pc := 26) h dX5_heldBits_26 rfl 1 rfl ?_
    refine T_iald (pc := 27) h hs hq4 dX5_heldBits_27 ?_
    refine T_iload (pc := 28) h dX5_heldBits_28 3 rfl ?_
    refine T_ishr (pc := 30) h dX5_heldBits_30 ?_
    refine T_iconst (pc := 31) h dX5_heldBits_31 ki_1 ?_
    refine T_iand (pc := 32) h dX5_heldBits_32 ?_
    refine T_iconst (pc := 33) h dX5_heldBits_33 ki_1 ?_
    refine T_icmp_ne (pc := 34) (tgt := 49) h dX5_heldBits_34 (by decide) ?_ ?_
    · refine T_sub [0, 1, 2, 3] rfl ?_
      exact t_X5_heldBits_L49 h hs x0 x1 (s.1) (s.2.1) (s.2.2) rec5 hr5 hk0
    · refine T_lload_n (pc := 37) h dX5_heldBits_37 rfl 2 rfl ?_
      refine T_ldc2 (pc := 38) h kc_X5_144 dX5_heldBits_38 ?_
      refine T_iload (pc := 41) h dX5_heldBits_41 3 rfl ?_
      refine T_callSi (pc := 43) h (M_X5_bitsOf (kl K) hs (s.2.1) (s.2.2) ) mst_X5_bitsOf ml_X5_52 rfl ⟨Nat.le_of_ble_eq_true rfl, Nat.le_of_ble_eq_true rfl⟩ ⟨Nat.le_refl 0, Nat.le_refl 0⟩ (Nat.le_of_ble_eq_true rfl) dX5_heldBits_43 rfl (fun r6 s5 => ?_)
      refine T_lshl (pc := 46) h dX5_heldBits_46 ?_
      refine T_lor (pc := 47) h dX5_heldBits_47 ?_
      refine T_letL fun v7 => ?_
      refine T_lstore_n (lv' := [(2, .long v7), (0, .ref x0), (1, .int x1), (4, .int (s.2.1))]) (pc := 48) h dX5_heldBits_48 rfl (by decide) rfl ?_
      refine T_sub [1, 2, 0, 3] rfl ?_
      exact t_X5_heldBits_L49 h hs x0 x1 v7 (s.2.1) s5 rec5 hr5 hk0
theorem t_X5_heldBits {K : Cx} (h : Ok K cX5_heldBits RX5 5 rm_X5_heldBits (some .long)) (hs : kiv K = St) (x0 : Nat) (x1 : Int32) (σ : Sg) (hk0 : kd x0 5) : T K (QL K) 0 [(0, .ref x0), (1, .int x1)] [] 0 0 σ (f_X5_heldBits x0 x1 σ) := by
  unfold f_X5_heldBits
  refine T_lconst (pc := 0) h dX5_heldBits_0 kl_0 ?_
  refine T_lstore_n (lv' := [(2, .long (0 : Int64)), (0, .ref x0), (1, .int x1)]) (pc := 1) h dX5_heldBits_1 rfl (by decide) rfl ?_
  refine T_iconst (pc := 2) h dX5_heldBits_2 ki_0 ?_
  refine T_istore (lv' := [(4, .int (0 : Int32)), (2, .long (0 : Int64)), (0, .ref x0), (1, .int x1)]) (pc := 3) h dX5_heldBits_3 (by decide) rfl ?_
  refine T_sub [2, 3, 1, 0] rfl ?_
  exact T_fx (B := f_X5_heldBits_L5 x0 x1) (fl := fun u => [(0, .ref x0), (1, .int x1), (2, .long (u.1)), (4, .int (u.2.1))]) (f := fun u => (u.2.2)) (fun rec5 hr5 u => t_X5_heldBits_L5 h hs x0 x1 hk0 rec5 hr5 u) FU ((0 : Int64), (0 : Int32), σ)
theorem M_X5_heldBits (l : Launch) {iv : Sg → Prop} (hi : iv = St) (x0 : Nat) (x1 : Int32) (σ : Sg) (hk0 : kd x0 5) : CTl l yX5_heldBits cX5_heldBits 5 (some .long) rm_X5_heldBits iv [.ref x0, .int x1] σ (f_X5_heldBits x0 x1 σ) := by
  subst hi
  exact CT_of (by decide) (Nat.le_of_ble_eq_true rfl) (fun K _ h _ hs _ _ => t_X5_heldBits h hs x0 x1 σ hk0)
/-! LuteTabs$Search.courseIn(JI)I -/
theorem dX5_courseIn_0 : decode cX5_courseIn 0 = .ok (.lload_n 0, 1) := by decide +kernel
theorem dX5_courseIn_1 : decode cX5_courseIn 1 = .ok (.iload_n 2, 1) := by decide +kernel
theorem dX5_courseIn_2 : decode cX5_courseIn 2 = .ok (.invokestatic 52, 3) := by decide +kernel
theorem dX5_courseIn_5 : decode cX5_courseIn 5 = .ok (.lshr, 1) := by decide +kernel
theorem dX5_courseIn_6 : decode cX5_courseIn 6 = .ok (.l2i, 1) := by decide +kernel
theorem dX5_courseIn_7 : decode cX5_courseIn 7 = .ok (.bipush 7, 2) := by decide +kernel
theorem dX5_courseIn_9 : decode cX5_courseIn 9 = .ok (.iand, 1) := by decide +kernel
theorem dX5_courseIn_10 : decode cX5_courseIn 10 = .ok (.ireturn, 1) := by decide +kernel
abbrev rm_X5_courseIn : Room := { frames := 1, cells := 0, slots := 0, locals := 20 }
def f_X5_courseIn (x0 : Int64) (x2 : Int32) (σ : Sg) : Option (Int32 × Sg) := bd (f_X5_bitsOf x2 σ) fun r2 s1 => some (((x0 >>> (r2.toInt64 &&& 63)).toInt32 &&& (7 : Int32)), s1)
theorem t_X5_courseIn {K : Cx} (h : Ok K cX5_courseIn RX5 3 rm_X5_courseIn (some .int)) (hs : kiv K = St) (x0 : Int64) (x2 : Int32) (σ : Sg)  : T K (QI K) 0 [(0, .long x0), (2, .int x2)] [] 0 0 σ (f_X5_courseIn x0 x2 σ) := by
  unfold f_X5_courseIn
  refine T_lload_n (pc := 0) h dX5_courseIn_0 rfl 0 rfl ?_
  refine T_iload_n (pc := 1) h dX5_courseIn_1 rfl 1 rfl ?_
  refine T_callSi (pc := 2) h (M_X5_bitsOf (kl K) hs x2 σ ) mst_X5_bitsOf ml_X5_52 rfl ⟨Nat.le_of_ble_eq_true rfl, Nat.le_of_ble_eq_true rfl⟩ ⟨Nat.le_refl 0, Nat.le_refl 0⟩ (Nat.le_of_ble_eq_true rfl) dX5_courseIn_2 rfl (fun r2 s1 => ?_)
  refine T_lshr (pc := 5) h dX5_courseIn_5 ?_
  refine T_l2i (pc := 6) h dX5_courseIn_6 ?_
  refine T_bipush (pc := 7) h dX5_courseIn_7 kb_7 ?_
  refine T_iand (pc := 9) h dX5_courseIn_9 ?_
  exact T_ireturn (pc := 10) h (Nat.zero_le _) (Nat.zero_le _) dX5_courseIn_10
theorem M_X5_courseIn (l : Launch) {iv : Sg → Prop} (hi : iv = St) (x0 : Int64) (x2 : Int32) (σ : Sg)  : CTi l yX5_courseIn cX5_courseIn 3 (some .int) rm_X5_courseIn iv [.long x0, .int x2] σ (f_X5_courseIn x0 x2 σ) := by
  subst hi
  exact CT_of (by decide) (Nat.le_of_ble_eq_true rfl) (fun K _ h _ hs _ _ => t_X5_courseIn h hs x0 x2 σ )
/-! LuteTabs$Search.bestAhead(JJI)J -/
theorem dX5_bestAhead_0 : decode cX5_bestAhead 0 = .ok (.ldc2_w 56, 3) := by decide +kernel
theorem dX5_bestAhead_3 : decode cX5_bestAhead 3 = .ok (.lstore 6, 2) := by decide +kernel
theorem dX5_bestAhead_5 : decode cX5_bestAhead 5 = .ok (.iconst 0, 1) := by decide +kernel
theorem dX5_bestAhead_6 : decode cX5_bestAhead 6 = .ok (.istore 8, 2) := by decide +kernel
theorem dX5_bestAhead_8 : decode cX5_bestAhead 8 = .ok (.iload 8, 2) := by decide +kernel
theorem dX5_bestAhead_10 : decode cX5_bestAhead 10 = .ok (.aload_n 0, 1) := by decide +kernel
theorem dX5_bestAhead_11 : decode cX5_bestAhead 11 = .ok (.getfield 16, 3) := by decide +kernel
theorem dX5_bestAhead_14 : decode cX5_bestAhead 14 = .ok (.getfield 86, 3) := by decide +kernel
theorem dX5_bestAhead_17 : decode cX5_bestAhead 17 = .ok (.if_icmp .ge 89, 3) := by decide +kernel
theorem dX5_bestAhead_20 : decode cX5_bestAhead 20 = .ok (.aload_n 0, 1) := by decide +kernel
theorem dX5_bestAhead_21 : decode cX5_bestAhead 21 = .ok (.getfield 16, 3) := by decide +kernel
theorem dX5_bestAhead_24 : decode cX5_bestAhead 24 = .ok (.getfield 104, 3) := by decide +kernel
theorem dX5_bestAhead_27 : decode cX5_bestAhead 27 = .ok (.iload 8, 2) := by decide +kernel
theorem dX5_bestAhead_29 : decode cX5_bestAhead 29 = .ok (.laload, 1) := by decide +kernel
theorem dX5_bestAhead_30 : decode cX5_bestAhead 30 = .ok (.lload_n 1, 1) := by decide +kernel
theorem dX5_bestAhead_31 : decode cX5_bestAhead 31 = .ok (.lxor, 1) := by decide +kernel
theorem dX5_bestAhead_32 : decode cX5_bestAhead 32 = .ok (.lload_n 3, 1) := by decide +kernel
theorem dX5_bestAhead_33 : decode cX5_bestAhead 33 = .ok (.land, 1) := by decide +kernel
theorem dX5_bestAhead_34 : decode cX5_bestAhead 34 = .ok (.lconst 0, 1) := by decide +kernel
theorem dX5_bestAhead_35 : decode cX5_bestAhead 35 = .ok (.lcmp, 1) := by decide +kernel
theorem dX5_bestAhead_36 : decode cX5_bestAhead 36 = .ok (.ifCond .ne 64, 3) := by decide +kernel
theorem dX5_bestAhead_39 : decode cX5_bestAhead 39 = .ok (.aload_n 0, 1) := by decide +kernel
theorem dX5_bestAhead_40 : decode cX5_bestAhead 40 = .ok (.getfield 40, 3) := by decide +kernel
theorem dX5_bestAhead_43 : decode cX5_bestAhead 43 = .ok (.aload_n 0, 1) := by decide +kernel
theorem dX5_bestAhead_44 : decode cX5_bestAhead 44 = .ok (.getfield 16, 3) := by decide +kernel
theorem dX5_bestAhead_47 : decode cX5_bestAhead 47 = .ok (.getfield 136, 3) := by decide +kernel
theorem dX5_bestAhead_50 : decode cX5_bestAhead 50 = .ok (.iload 8, 2) := by decide +kernel
theorem dX5_bestAhead_52 : decode cX5_bestAhead 52 = .ok (.iaload, 1) := by decide +kernel
theorem dX5_bestAhead_53 : decode cX5_bestAhead 53 = .ok (.iload 5, 2) := by decide +kernel
theorem dX5_bestAhead_55 : decode cX5_bestAhead 55 = .ok (.invokevirtual 146, 3) := by decide +kernel
theorem dX5_bestAhead_58 : decode cX5_bestAhead 58 = .ok (.i2l, 1) := by decide +kernel
theorem dX5_bestAhead_59 : decode cX5_bestAhead 59 = .ok (.lstore 9, 2) := by decide +kernel
theorem dX5_bestAhead_61 : decode cX5_bestAhead 61 = .ok (.aload_n 0, 1) := by decide +kernel
theorem dX5_bestAhead_62 : decode cX5_bestAhead 62 = .ok (.getfield 16, 3) := by decide +kernel
theorem dX5_bestAhead_65 : decode cX5_bestAhead 65 = .ok (.getfield 138, 3) := by decide +kernel
theorem dX5_bestAhead_68 : decode cX5_bestAhead 68 = .ok (.iload 8, 2) := by decide +kernel
theorem dX5_bestAhead_70 : decode cX5_bestAhead 70 = .ok (.laload, 1) := by decide +kernel
theorem dX5_bestAhead_71 : decode cX5_bestAhead 71 = .ok (.lload 9, 2) := by decide +kernel
theorem dX5_bestAhead_73 : decode cX5_bestAhead 73 = .ok (.bipush 42, 2) := by decide +kernel
theorem dX5_bestAhead_75 : decode cX5_bestAhead 75 = .ok (.lshl, 1) := by decide +kernel
theorem dX5_bestAhead_76 : decode cX5_bestAhead 76 = .ok (.ladd, 1) := by decide +kernel
theorem dX5_bestAhead_77 : decode cX5_bestAhead 77 = .ok (.lstore 11, 2) := by decide +kernel
theorem dX5_bestAhead_79 : decode cX5_bestAhead 79 = .ok (.lload 6, 2) := by decide +kernel
theorem dX5_bestAhead_81 : decode cX5_bestAhead 81 = .ok (.ldc2_w 56, 3) := by decide +kernel
theorem dX5_bestAhead_84 : decode cX5_bestAhead 84 = .ok (.lcmp, 1) := by decide +kernel
theorem dX5_bestAhead_85 : decode cX5_bestAhead 85 = .ok (.ifCond .eq 11, 3) := by decide +kernel
theorem dX5_bestAhead_88 : decode cX5_bestAhead 88 = .ok (.lload 11, 2) := by decide +kernel
theorem dX5_bestAhead_90 : decode cX5_bestAhead 90 = .ok (.lload 6, 2) := by decide +kernel
theorem dX5_bestAhead_92 : decode cX5_bestAhead 92 = .ok (.lcmp, 1) := by decide +kernel
theorem dX5_bestAhead_93 : decode cX5_bestAhead 93 = .ok (.ifCond .ge 7, 3) := by decide +kernel
theorem dX5_bestAhead_96 : decode cX5_bestAhead 96 = .ok (.lload 11, 2) := by decide +kernel
theorem dX5_bestAhead_98 : decode cX5_bestAhead 98 = .ok (.lstore 6, 2) := by decide +kernel
theorem dX5_bestAhead_100 : decode cX5_bestAhead 100 = .ok (.iinc 8 1, 3) := by decide +kernel
theorem dX5_bestAhead_103 : decode cX5_bestAhead 103 = .ok (.goto (-95), 3) := by decide +kernel
theorem dX5_bestAhead_106 : decode cX5_bestAhead 106 = .ok (.lload 6, 2) := by decide +kernel
theorem dX5_bestAhead_108 : decode cX5_bestAhead 108 = .ok (.lreturn, 1) := by decide +kernel
abbrev rm_X5_bestAhead : Room := { frames := 2, cells := 0, slots := 0, locals := 45 }
def f_X5_bestAhead_L100 (rec8 : Int64 × Int32 × Sg → Option (Int64 × Sg)) (x0 : Nat) (x1 : Int64) (x3 : Int64) (x5 : Int32) (x6 : Int64) (x8 : Int32)  (σ : Sg) : Option (Int64 × Sg) := lB (x8 + (1 : Int32)) fun v1 => rec8 (x6, v1, σ)
def f_X5_bestAhead_L96 (rec8 : Int64 × Int32 × Sg → Option (Int64 × Sg)) (x0 : Nat) (x1 : Int64) (x3 : Int64) (x5 : Int32) (x8 : Int32) (x11 : Int64)  (σ : Sg) : Option (Int64 × Sg) := f_X5_bestAhead_L100 rec8 x0 x1 x3 x5 x11 x8 σ
def f_X5_bestAhead_L8  (x0 : Nat) (x1 : Int64) (x3 : Int64) (x5 : Int32) (rec8 : Int64 × Int32 × Sg → Option (Int64 × Sg)) (s : Int64 × Int32 × Sg) : Option (Int64 × Sg) := (if (gI (s.2.2) (gR (s.2.2) x0 3) 4) ≤ (s.2.1) then some ((s.1), (s.2.2)) else ck (inb (s.2.1) (aL (gR (s.2.2) (gR (s.2.2) x0 3) 0))) ((if (lg_cmp (((gL (s.2.2) (gR (s.2.2) (gR (s.2.2) x0 3) 0) (s.2.1).toNatClampNeg) ^^^ x1) &&& x3) (0 : Int64)) = 0 then ck (inb (s.2.1) (aL (gR (s.2.2) (gR (s.2.2) x0 3) 2))) (bd (f_X1_chargeOfShift (gR (s.2.2) x0 0) (gI (s.2.2) (gR (s.2.2) (gR (s.2.2) x0 3) 2) (s.2.1).toNatClampNeg) x5 (s.2.2)) fun r8 s7 => lB (r8.toInt64) fun v9 => ck (inb (s.2.1) (aL (gR s7 (gR s7 x0 3) 3))) (lB (((gL s7 (gR s7 (gR s7 x0 3) 3) (s.2.1).toNatClampNeg) + (v9 <<< ((42 : Int32).toInt64 &&& 63)))) fun v12 => (if (lg_cmp (s.1) (-1 : Int64)) = 0 then f_X5_bestAhead_L96 rec8 x0 x1 x3 x5 (s.2.1) v12 s7 else (if 0 ≤ (lg_cmp v12 (s.1)) then f_X5_bestAhead_L100 rec8 x0 x1 x3 x5 (s.1) (s.2.1) s7 else f_X5_bestAhead_L96 rec8 x0 x1 x3 x5 (s.2.1) v12 s7)))) else f_X5_bestAhead_L100 rec8 x0 x1 x3 x5 (s.1) (s.2.1) (s.2.2))))
def f_X5_bestAhead (x0 : Nat) (x1 : Int64) (x3 : Int64) (x5 : Int32) (σ : Sg) : Option (Int64 × Sg) := fx (f_X5_bestAhead_L8 x0 x1 x3 x5) FU ((-1 : Int64), (0 : Int32), σ)
theorem t_X5_bestAhead_L100 {K : Cx} (h : Ok K cX5_bestAhead RX5 13 rm_X5_bestAhead (some .long)) (hs : kiv K = St) (x0 : Nat) (x1 : Int64) (x3 : Int64) (x5 : Int32) (x6 : Int64) (x8 : Int32)  (σ : Sg) (rec8 : Int64 × Int32 × Sg → Option (Int64 × Sg)) (hr8 : ∀ u, T K (QL K) 8 [(0, .ref x0), (1, .long x1), (3, .long x3), (5, .int x5), (6, .long (u.1)), (8, .int (u.2.1))] [] 0 0 (u.2.2) (rec8 u)) (hk0 : kd x0 5)  : T K (QL K) 100 [(0, .ref x0), (1, .long x1), (3, .long x3), (5, .int x5), (6, .long x6), (8, .int x8)] [] 0 0 σ (f_X5_bestAhead_L100 rec8 x0 x1 x3 x5 x6 x8 σ) := by
  unfold f_X5_bestAhead_L100
  refine T_iinc (fl := fun v1 => [(8, .int v1), (0, .ref x0), (1, .long x1), (3, .long x3), (5, .int x5), (6, .long x6)]) (pc := 100) h dX5_bestAhead_100 5 rfl ki_1 (by decide) (fun _ => rfl) (fun v1 => ?_)
  refine T_goto (pc := 103) (tgt := 8) h dX5_bestAhead_103 (by decide) ?_
  refine T_sub [1, 2, 3, 4, 5, 0] rfl ?_
  exact hr8 (x6, v1, σ)
theorem t_X5_bestAhead_L96 {K : Cx} (h : Ok K cX5_bestAhead RX5 13 rm_X5_bestAhead (some .long)) (hs : kiv K = St) (x0 : Nat) (x1 : Int64) (x3 : Int64) (x5 : Int32) (x8 : Int32) (x11 : Int64)  (σ : Sg) (rec8 : Int64 × Int32 × Sg → Option (Int64 × Sg)) (hr8 : ∀ u, T K (QL K) 8 [(0, .ref x0), (1, .long x1), (3, .long x3), (5, .int x5), (6, .long (u.1)), (8, .int (u.2.1))] [] 0 0 (u.2.2) (rec8 u)) (hk0 : kd x0 5)  : T K (QL K) 96 [(0, .ref x0), (1, .long x1), (3, .long x3), (5, .int x5), (8, .int x8), (11, .long x11)] [] 0 0 σ (f_X5_bestAhead_L96 rec8 x0 x1 x3 x5 x8 x11 σ) := by
  unfold f_X5_bestAhead_L96
  refine T_lload (pc := 96) h dX5_bestAhead_96 5 rfl ?_
  refine T_lstore (lv' := [(6, .long x11), (0, .ref x0), (1, .long x1), (3, .long x3), (5, .int x5), (8, .int x8), (11, .long x11)]) (pc := 98) h dX5_bestAhead_98 (by decide) rfl ?_
  refine T_sub [1, 2, 3, 4, 0, 5] rfl ?_
  exact t_X5_bestAhead_L100 h hs x0 x1 x3 x5 x11 x8 σ rec8 hr8 hk0
theorem t_X5_bestAhead_L8 {K : Cx} (h : Ok K cX5_bestAhead RX5 13 rm_X5_bestAhead (some .long)) (hs : kiv K = St) (x0 : Nat) (x1 : Int64) (x3 : Int64) (x5 : Int32)  (hk0 : kd x0 5) (rec8 : Int64 × Int32 × Sg → Option (Int64 × Sg)) (hr8 : ∀ u, T K (QL K) 8 [(0, .ref x0), (1, .long x1), (3, .long x3), (5, .int x5), (6, .long (u.1)), (8, .int (u.2.1))] [] 0 0 (u.2.2) (rec8 u)) (s : Int64 × Int32 × Sg) : T K (QL K) 8 [(0, .ref x0), (1, .long x1), (3, .long x3), (5, .int x5), (6, .long (s.1)), (8, .int (s.2.1))] [] 0 0 (s.2.2) (f_X5_bestAhead_L8 x0 x1 x3 x5 rec8 s) := by
  unfold f_X5_bestAhead_L8
  refine T_iload (pc := 8) h dX5_bestAhead_8 5 rfl ?_
  refine T_aload_n (pc := 10) h dX5_bestAhead_10 rfl 0 rfl ?_
  refine T_gR (pc := 11) h hs hk0 fl_X5_16 rfl fk_5_3 dX5_bestAhead_11 (fun hq1 => ?_)
  refine T_getI (pc := 14) h hs hq1 fl_X5_86 rfl dX5_bestAhead_14 ?_
  refine T_icmp_ge (pc := 17) (tgt := 106) h dX5_bestAhead_17 (by decide) ?_ ?_
  · refine T_lload (pc := 106) h dX5_bestAhead_106 4 rfl ?_
    exact T_lreturn (pc := 108) h (Nat.zero_le _) (Nat.zero_le _) dX5_bestAhead_108
  · refine T_aload_n (pc := 20) h dX5_bestAhead_20 rfl 0 rfl ?_
    refine T_gR (pc := 21) h hs hk0 fl_X5_16 rfl fk_5_3 dX5_bestAhead_21 (fun hq2 => ?_)
    refine T_gR (pc := 24) h hs hq2 fl_X5_104 rfl fk_7_0 dX5_bestAhead_24 (fun hq3 => ?_)
    refine T_iload (pc := 27) h dX5_bestAhead_27 5 rfl ?_
    refine T_lald (pc := 29) h hs hq3 dX5_bestAhead_29 ?_
    refine T_lload_n (pc := 30) h dX5_bestAhead_30 rfl 1 rfl ?_
    refine T_lxor (pc := 31) h dX5_bestAhead_31 ?_
    refine T_lload_n (pc := 32) h dX5_bestAhead_32 rfl 2 rfl ?_
    refine T_land (pc := 33) h dX5_bestAhead_33 ?_
    refine T_lconst (pc := 34) h dX5_bestAhead_34 kl_0 ?_
    refine T_lcmp (pc := 35) h dX5_bestAhead_35 ?_
    refine T_if_ne (pc := 36) (tgt := 100) h dX5_bestAhead_36 (by decide) ?_ ?_
    · refine T_sub [0, 1, 2, 3, 4, 5] rfl ?_
      exact t_X5_bestAhead_L100 h hs x0 x1 x3 x5 (s.1) (s.2.1) (s.2.2) rec8 hr8 hk0
    · refine T_aload_n (pc := 39) h dX5_bestAhead_39 rfl 0 rfl ?_
      refine T_gR (pc := 40) h hs hk0 fl_X5_40 rfl fk_5_0 dX5_bestAhead_40 (fun hq4 => ?_)
      refine T_aload_n (pc := 43) h dX5_bestAhead_43 rfl 0 rfl ?_
      refine T_gR (pc := 44) h hs hk0 fl_X5_16 rfl fk_5_3 dX5_bestAhead_44 (fun hq5 => ?_)
      refine T_gR (pc := 47) h hs hq5 fl_X5_136 rfl fk_7_2 dX5_bestAhead_47 (fun hq6 => ?_)
      refine T_iload (pc := 50) h dX5_bestAhead_50 5 rfl ?_
      refine T_iald (pc := 52) h hs hq6 dX5_bestAhead_52 ?_
      refine T_iload (pc := 53) h dX5_bestAhead_53 3 rfl ?_
      refine T_callVi (pc := 55) h (M_X1_chargeOfShift (kl K) hs (gR (s.2.2) x0 0) (gI (s.2.2) (gR (s.2.2) (gR (s.2.2) x0 3) 2) (s.2.1).toNatClampNeg) x5 (s.2.2) hq4) mv_X1_chargeOfShift hs hq4 ml_X5_146 rfl ⟨Nat.le_of_ble_eq_true rfl, Nat.le_of_ble_eq_true rfl⟩ ⟨Nat.le_refl 0, Nat.le_refl 0⟩ (Nat.le_of_ble_eq_true rfl) dX5_bestAhead_55 rfl (fun r8 s7 => ?_)
      refine T_i2l (pc := 58) h dX5_bestAhead_58 ?_
      refine T_letL fun v9 => ?_
      refine T_lstore (lv' := [(9, .long v9), (0, .ref x0), (1, .long x1), (3, .long x3), (5, .int x5), (6, .long (s.1)), (8, .int (s.2.1))]) (pc := 59) h dX5_bestAhead_59 (by decide) rfl ?_
      refine T_aload_n (pc := 61) h dX5_bestAhead_61 rfl 1 rfl ?_
      refine T_gR (pc := 62) h hs hk0 fl_X5_16 rfl fk_5_3 dX5_bestAhead_62 (fun hq10 => ?_)
      refine T_gR (pc := 65) h hs hq10 fl_X5_138 rfl fk_7_3 dX5_bestAhead_65 (fun hq11 => ?_)
      refine T_iload (pc := 68) h dX5_bestAhead_68 6 rfl ?_
      refine T_lald (pc := 70) h hs hq11 dX5_bestAhead_70 ?_
      refine T_lload (pc := 71) h dX5_bestAhead_71 0 rfl ?_
      refine T_bipush (pc := 73) h dX5_bestAhead_73 kb_42 ?_
      refine T_lshl (pc := 75) h dX5_bestAhead_75 ?_
      refine T_ladd (pc := 76) h dX5_bestAhead_76 ?_
      refine T_letL fun v12 => ?_
      refine T_lstore (lv' := [(11, .long v12), (9, .long v9), (0, .ref x0), (1, .long x1), (3, .long x3), (5, .int x5), (6, .long (s.1)), (8, .int (s.2.1))]) (pc := 77) h dX5_bestAhead_77 (by decide) rfl ?_
      refine T_lload (pc := 79) h dX5_bestAhead_79 6 rfl ?_
      refine T_ldc2 (pc := 81) h kc_X5_56 dX5_bestAhead_81 ?_
      refine T_lcmp (pc := 84) h dX5_bestAhead_84 ?_
      refine T_if_eq (pc := 85) (tgt := 96) h dX5_bestAhead_85 (by decide) ?_ ?_
      · refine T_sub [2, 3, 4, 5, 7, 0] rfl ?_
        exact t_X5_bestAhead_L96 h hs x0 x1 x3 x5 (s.2.1) v12 s7 rec8 hr8 hk0
      · refine T_lload (pc := 88) h dX5_bestAhead_88 0 rfl ?_
        refine T_lload (pc := 90) h dX5_bestAhead_90 6 rfl ?_
        refine T_lcmp (pc := 92) h dX5_bestAhead_92 ?_
        refine T_if_ge (pc := 93) (tgt := 100) h dX5_bestAhead_93 (by decide) ?_ ?_
        · refine T_sub [2, 3, 4, 5, 6, 7] rfl ?_
          exact t_X5_bestAhead_L100 h hs x0 x1 x3 x5 (s.1) (s.2.1) s7 rec8 hr8 hk0
        · refine T_sub [2, 3, 4, 5, 7, 0] rfl ?_
          exact t_X5_bestAhead_L96 h hs x0 x1 x3 x5 (s.2.1) v12 s7 rec8 hr8 hk0
theorem t_X5_bestAhead {K : Cx} (h : Ok K cX5_bestAhead RX5 13 rm_X5_bestAhead (some .long)) (hs : kiv K = St) (x0 : Nat) (x1 : Int64) (x3 : Int64) (x5 : Int32) (σ : Sg) (hk0 : kd x0 5) : T K (QL K) 0 [(0, .ref x0), (1, .long x1), (3, .long x3), (5, .int x5)] [] 0 0 σ (f_X5_bestAhead x0 x1 x3 x5 σ) := by
  unfold f_X5_bestAhead
  refine T_ldc2 (pc := 0) h kc_X5_56 dX5_bestAhead_0 ?_
  refine T_lstore (lv' := [(6, .long (-1 : Int64)), (0, .ref x0), (1, .long x1), (3, .long x3), (5, .int x5)]) (pc := 3) h dX5_bestAhead_3 (by decide) rfl ?_
  refine T_iconst (pc := 5) h dX5_bestAhead_5 ki_0 ?_
  refine T_istore (lv' := [(8, .int (0 : Int32)), (6, .long (-1 : Int64)), (0, .ref x0), (1, .long x1), (3, .long x3), (5, .int x5)]) (pc := 6) h dX5_bestAhead_6 (by decide) rfl ?_
  refine T_sub [2, 3, 4, 5, 1, 0] rfl ?_
  exact T_fx (B := f_X5_bestAhead_L8 x0 x1 x3 x5) (fl := fun u => [(0, .ref x0), (1, .long x1), (3, .long x3), (5, .int x5), (6, .long (u.1)), (8, .int (u.2.1))]) (f := fun u => (u.2.2)) (fun rec8 hr8 u => t_X5_bestAhead_L8 h hs x0 x1 x3 x5 hk0 rec8 hr8 u) FU ((-1 : Int64), (0 : Int32), σ)
theorem M_X5_bestAhead (l : Launch) {iv : Sg → Prop} (hi : iv = St) (x0 : Nat) (x1 : Int64) (x3 : Int64) (x5 : Int32) (σ : Sg) (hk0 : kd x0 5) : CTl l yX5_bestAhead cX5_bestAhead 13 (some .long) rm_X5_bestAhead iv [.ref x0, .long x1, .long x3, .int x5] σ (f_X5_bestAhead x0 x1 x3 x5 σ) := by
  subst hi
  exact CT_of (by decide) (Nat.le_of_ble_eq_true rfl) (fun K _ h _ hs _ _ => t_X5_bestAhead h hs x0 x1 x3 x5 σ hk0)
/-! LuteTabs$Search.keepGood(II)V -/
theorem dX5_keepGood_0 : decode cX5_keepGood 0 = .ok (.aload_n 0, 1) := by decide +kernel
theorem dX5_keepGood_1 : decode cX5_keepGood 1 = .ok (.iload_n 1, 1) := by decide +kernel
theorem dX5_keepGood_2 : decode cX5_keepGood 2 = .ok (.invokevirtual 111, 3) := by decide +kernel
theorem dX5_keepGood_5 : decode cX5_keepGood 5 = .ok (.lstore_n 3, 1) := by decide +kernel
theorem dX5_keepGood_6 : decode cX5_keepGood 6 = .ok (.iconst 0, 1) := by decide +kernel
theorem dX5_keepGood_7 : decode cX5_keepGood 7 = .ok (.istore 5, 2) := by decide +kernel
theorem dX5_keepGood_9 : decode cX5_keepGood 9 = .ok (.iconst 0, 1) := by decide +kernel
theorem dX5_keepGood_10 : decode cX5_keepGood 10 = .ok (.istore 6, 2) := by decide +kernel
theorem dX5_keepGood_12 : decode cX5_keepGood 12 = .ok (.iload 6, 2) := by decide +kernel
theorem dX5_keepGood_14 : decode cX5_keepGood 14 = .ok (.aload_n 0, 1) := by decide +kernel
theorem dX5_keepGood_15 : decode cX5_keepGood 15 = .ok (.getfield 20, 3) := by decide +kernel
theorem dX5_keepGood_18 : decode cX5_keepGood 18 = .ok (.getfield 86, 3) := by decide +kernel
theorem dX5_keepGood_21 : decode cX5_keepGood 21 = .ok (.if_icmp .ge 173, 3) := by decide +kernel
theorem dX5_keepGood_24 : decode cX5_keepGood 24 = .ok (.aload_n 0, 1) := by decide +kernel
theorem dX5_keepGood_25 : decode cX5_keepGood 25 = .ok (.getfield 20, 3) := by decide +kernel
theorem dX5_keepGood_28 : decode cX5_keepGood 28 = .ok (.getfield 104, 3) := by decide +kernel
theorem dX5_keepGood_31 : decode cX5_keepGood 31 = .ok (.iload 6, 2) := by decide +kernel
theorem dX5_keepGood_33 : decode cX5_keepGood 33 = .ok (.laload, 1) := by decide +kernel
theorem dX5_keepGood_34 : decode cX5_keepGood 34 = .ok (.lstore 7, 2) := by decide +kernel
theorem dX5_keepGood_36 : decode cX5_keepGood 36 = .ok (.iconst 0, 1) := by decide +kernel
theorem dX5_keepGood_37 : decode cX5_keepGood 37 = .ok (.istore 9, 2) := by decide +kernel
theorem dX5_keepGood_39 : decode cX5_keepGood 39 = .ok (.iload 9, 2) := by decide +kernel
theorem dX5_keepGood_41 : decode cX5_keepGood 41 = .ok (.aload_n 0, 1) := by decide +kernel
theorem dX5_keepGood_42 : decode cX5_keepGood 42 = .ok (.getfield 44, 3) := by decide +kernel
theorem dX5_keepGood_45 : decode cX5_keepGood 45 = .ok (.getfield 69, 3) := by decide +kernel
theorem dX5_keepGood_48 : decode cX5_keepGood 48 = .ok (.iload_n 1, 1) := by decide +kernel
theorem dX5_keepGood_49 : decode cX5_keepGood 49 = .ok (.iconst 1, 1) := by decide +kernel
theorem dX5_keepGood_50 : decode cX5_keepGood 50 = .ok (.iadd, 1) := by decide +kernel
theorem dX5_keepGood_51 : decode cX5_keepGood 51 = .ok (.iaload, 1) := by decide +kernel
theorem dX5_keepGood_52 : decode cX5_keepGood 52 = .ok (.if_icmp .ge 23, 3) := by decide +kernel
theorem dX5_keepGood_55 : decode cX5_keepGood 55 = .ok (.aload_n 0, 1) := by decide +kernel
theorem dX5_keepGood_56 : decode cX5_keepGood 56 = .ok (.getfield 26, 3) := by decide +kernel
theorem dX5_keepGood_59 : decode cX5_keepGood 59 = .ok (.iload 9, 2) := by decide +kernel
theorem dX5_keepGood_61 : decode cX5_keepGood 61 = .ok (.lload 7, 2) := by decide +kernel
theorem dX5_keepGood_63 : decode cX5_keepGood 63 = .ok (.iload 9, 2) := by decide +kernel
theorem dX5_keepGood_65 : decode cX5_keepGood 65 = .ok (.invokestatic 115, 3) := by decide +kernel
theorem dX5_keepGood_68 : decode cX5_keepGood 68 = .ok (.iastore, 1) := by decide +kernel
theorem dX5_keepGood_69 : decode cX5_keepGood 69 = .ok (.iinc 9 1, 3) := by decide +kernel
theorem dX5_keepGood_72 : decode cX5_keepGood 72 = .ok (.goto (-33), 3) := by decide +kernel
theorem dX5_keepGood_75 : decode cX5_keepGood 75 = .ok (.aload_n 0, 1) := by decide +kernel
theorem dX5_keepGood_76 : decode cX5_keepGood 76 = .ok (.getfield 48, 3) := by decide +kernel
theorem dX5_keepGood_79 : decode cX5_keepGood 79 = .ok (.iload_n 1, 1) := by decide +kernel
theorem dX5_keepGood_80 : decode cX5_keepGood 80 = .ok (.aload_n 0, 1) := by decide +kernel
theorem dX5_keepGood_81 : decode cX5_keepGood 81 = .ok (.getfield 26, 3) := by decide +kernel
theorem dX5_keepGood_84 : decode cX5_keepGood 84 = .ok (.iload_n 2, 1) := by decide +kernel
theorem dX5_keepGood_85 : decode cX5_keepGood 85 = .ok (.invokevirtual 119, 3) := by decide +kernel
theorem dX5_keepGood_88 : decode cX5_keepGood 88 = .ok (.aload_n 0, 1) := by decide +kernel
theorem dX5_keepGood_89 : decode cX5_keepGood 89 = .ok (.getfield 48, 3) := by decide +kernel
theorem dX5_keepGood_92 : decode cX5_keepGood 92 = .ok (.invokevirtual 125, 3) := by decide +kernel
theorem dX5_keepGood_95 : decode cX5_keepGood 95 = .ok (.ifCond .ne 20, 3) := by decide +kernel
theorem dX5_keepGood_98 : decode cX5_keepGood 98 = .ok (.aload_n 0, 1) := by decide +kernel
theorem dX5_keepGood_99 : decode cX5_keepGood 99 = .ok (.lload 7, 2) := by decide +kernel
theorem dX5_keepGood_101 : decode cX5_keepGood 101 = .ok (.lload_n 3, 1) := by decide +kernel
theorem dX5_keepGood_102 : decode cX5_keepGood 102 = .ok (.aload_n 0, 1) := by decide +kernel
theorem dX5_keepGood_103 : decode cX5_keepGood 103 = .ok (.getfield 48, 3) := by decide +kernel
theorem dX5_keepGood_106 : decode cX5_keepGood 106 = .ok (.getfield 129, 3) := by decide +kernel
theorem dX5_keepGood_109 : decode cX5_keepGood 109 = .ok (.invokevirtual 132, 3) := by decide +kernel
theorem dX5_keepGood_112 : decode cX5_keepGood 112 = .ok (.goto 6, 3) := by decide +kernel
theorem dX5_keepGood_115 : decode cX5_keepGood 115 = .ok (.ldc2_w 56, 3) := by decide +kernel
theorem dX5_keepGood_118 : decode cX5_keepGood 118 = .ok (.lstore 9, 2) := by decide +kernel
theorem dX5_keepGood_120 : decode cX5_keepGood 120 = .ok (.lload 9, 2) := by decide +kernel
theorem dX5_keepGood_122 : decode cX5_keepGood 122 = .ok (.ldc2_w 56, 3) := by decide +kernel
theorem dX5_keepGood_125 : decode cX5_keepGood 125 = .ok (.lcmp, 1) := by decide +kernel
theorem dX5_keepGood_126 : decode cX5_keepGood 126 = .ok (.ifCond .eq 62, 3) := by decide +kernel
theorem dX5_keepGood_129 : decode cX5_keepGood 129 = .ok (.aload_n 0, 1) := by decide +kernel
theorem dX5_keepGood_130 : decode cX5_keepGood 130 = .ok (.getfield 20, 3) := by decide +kernel
theorem dX5_keepGood_133 : decode cX5_keepGood 133 = .ok (.getfield 104, 3) := by decide +kernel
theorem dX5_keepGood_136 : decode cX5_keepGood 136 = .ok (.iload 5, 2) := by decide +kernel
theorem dX5_keepGood_138 : decode cX5_keepGood 138 = .ok (.lload 7, 2) := by decide +kernel
theorem dX5_keepGood_140 : decode cX5_keepGood 140 = .ok (.lastore, 1) := by decide +kernel
theorem dX5_keepGood_141 : decode cX5_keepGood 141 = .ok (.aload_n 0, 1) := by decide +kernel
theorem dX5_keepGood_142 : decode cX5_keepGood 142 = .ok (.getfield 20, 3) := by decide +kernel
theorem dX5_keepGood_145 : decode cX5_keepGood 145 = .ok (.getfield 136, 3) := by decide +kernel
theorem dX5_keepGood_148 : decode cX5_keepGood 148 = .ok (.iload 5, 2) := by decide +kernel
theorem dX5_keepGood_150 : decode cX5_keepGood 150 = .ok (.aload_n 0, 1) := by decide +kernel
theorem dX5_keepGood_151 : decode cX5_keepGood 151 = .ok (.getfield 48, 3) := by decide +kernel
theorem dX5_keepGood_154 : decode cX5_keepGood 154 = .ok (.getfield 129, 3) := by decide +kernel
theorem dX5_keepGood_157 : decode cX5_keepGood 157 = .ok (.iastore, 1) := by decide +kernel
theorem dX5_keepGood_158 : decode cX5_keepGood 158 = .ok (.aload_n 0, 1) := by decide +kernel
theorem dX5_keepGood_159 : decode cX5_keepGood 159 = .ok (.getfield 20, 3) := by decide +kernel
theorem dX5_keepGood_162 : decode cX5_keepGood 162 = .ok (.getfield 138, 3) := by decide +kernel
theorem dX5_keepGood_165 : decode cX5_keepGood 165 = .ok (.iload 5, 2) := by decide +kernel
theorem dX5_keepGood_167 : decode cX5_keepGood 167 = .ok (.lload 9, 2) := by decide +kernel
theorem dX5_keepGood_169 : decode cX5_keepGood 169 = .ok (.aload_n 0, 1) := by decide +kernel
theorem dX5_keepGood_170 : decode cX5_keepGood 170 = .ok (.getfield 48, 3) := by decide +kernel
theorem dX5_keepGood_173 : decode cX5_keepGood 173 = .ok (.invokevirtual 141, 3) := by decide +kernel
theorem dX5_keepGood_176 : decode cX5_keepGood 176 = .ok (.i2l, 1) := by decide +kernel
theorem dX5_keepGood_177 : decode cX5_keepGood 177 = .ok (.bipush 42, 2) := by decide +kernel
theorem dX5_keepGood_179 : decode cX5_keepGood 179 = .ok (.lshl, 1) := by decide +kernel
theorem dX5_keepGood_180 : decode cX5_keepGood 180 = .ok (.ladd, 1) := by decide +kernel
theorem dX5_keepGood_181 : decode cX5_keepGood 181 = .ok (.lload 7, 2) := by decide +kernel
theorem dX5_keepGood_183 : decode cX5_keepGood 183 = .ok (.lor, 1) := by decide +kernel
theorem dX5_keepGood_184 : decode cX5_keepGood 184 = .ok (.lastore, 1) := by decide +kernel
theorem dX5_keepGood_185 : decode cX5_keepGood 185 = .ok (.iinc 5 1, 3) := by decide +kernel
theorem dX5_keepGood_188 : decode cX5_keepGood 188 = .ok (.iinc 6 1, 3) := by decide +kernel
theorem dX5_keepGood_191 : decode cX5_keepGood 191 = .ok (.goto (-179), 3) := by decide +kernel
theorem dX5_keepGood_194 : decode cX5_keepGood 194 = .ok (.aload_n 0, 1) := by decide +kernel
theorem dX5_keepGood_195 : decode cX5_keepGood 195 = .ok (.getfield 20, 3) := by decide +kernel
theorem dX5_keepGood_198 : decode cX5_keepGood 198 = .ok (.iload 5, 2) := by decide +kernel
theorem dX5_keepGood_200 : decode cX5_keepGood 200 = .ok (.putfield 86, 3) := by decide +kernel
theorem dX5_keepGood_203 : decode cX5_keepGood 203 = .ok (.return_, 1) := by decide +kernel
abbrev rm_X5_keepGood : Room := { frames := 3, cells := 0, slots := 0, locals := 77 }
def f_X5_keepGood_L188 (rec12 : Int32 × Int32 × Sg → Option (Unit × Sg)) (x0 : Nat) (x1 : Int32) (x2 : Int32) (x3 : Int64) (x5 : Int32) (x6 : Int32)  (σ : Sg) : Option (Unit × Sg) := lB (x6 + (1 : Int32)) fun v1 => rec12 (x5, v1, σ)
def f_X5_keepGood_L118 (rec12 : Int32 × Int32 × Sg → Option (Unit × Sg)) (x0 : Nat) (x1 : Int32) (x2 : Int32) (x3 : Int64) (x5 : Int32) (x6 : Int32) (x7 : Int64) (y0 : Int64) (σ : Sg) : Option (Unit × Sg) := (if (lg_cmp y0 (-1 : Int64)) = 0 then f_X5_keepGood_L188 rec12 x0 x1 x2 x3 x5 x6 σ else ck (inb x5 (aL (gR σ (gR σ x0 4) 0))) (lB (pL σ (gR σ (gR σ x0 4) 0) x5.toNatClampNeg x7) fun s3 => ck (inb x5 (aL (gR s3 (gR s3 x0 4) 2))) (lB (pI s3 (gR s3 (gR s3 x0 4) 2) x5.toNatClampNeg (gI s3 (gR s3 x0 2) 2)) fun s7 => bd (f_X0_charge (gR s7 x0 2) s7) fun r12 s11 => ck (inb x5 (aL (gR s7 (gR s7 x0 4) 3))) (lB (pL s11 (gR s7 (gR s7 x0 4) 3) x5.toNatClampNeg ((y0 + (r12.toInt64 <<< ((42 : Int32).toInt64 &&& 63))) ||| x7)) fun s13 => lB (x5 + (1 : Int32)) fun v14 => f_X5_keepGood_L188 rec12 x0 x1 x2 x3 v14 x6 s13))))
def f_X5_keepGood_L39 (rec12 : Int32 × Int32 × Sg → Option (Unit × Sg)) (x0 : Nat) (x1 : Int32) (x2 : Int32) (x3 : Int64) (x5 : Int32) (x6 : Int32) (x7 : Int64) (rec39 : Int32 × Sg → Option (Unit × Sg)) (s : Int32 × Sg) : Option (Unit × Sg) := ck (inb (x1 + (1 : Int32)) (aL (gR (s.2) (gR (s.2) x0 1) 4))) ((if (gI (s.2) (gR (s.2) (gR (s.2) x0 1) 4) (x1 + (1 : Int32)).toNatClampNeg) ≤ (s.1) then bd (f_X0_look (gR (s.2) x0 2) x1 (gR (s.2) x0 6) x2 (s.2)) fun _ s5 => bd (f_X0_wrongs (gR s5 x0 2) s5) fun r8 s7 => (if r8 = 0 then bd (f_X5_bestAhead x0 x7 x3 (gI s7 (gR s7 x0 2) 2) s7) fun r11 s10 => f_X5_keepGood_L118 rec12 x0 x1 x2 x3 x5 x6 x7 r11 s10 else f_X5_keepGood_L118 rec12 x0 x1 x2 x3 x5 x6 x7 (-1 : Int64) s7) else bd (f_X5_courseIn x7 (s.1) (s.2)) fun r14 s13 => ck (inb (s.1) (aL (gR (s.2) x0 6))) (lB (pI s13 (gR (s.2) x0 6) (s.1).toNatClampNeg r14) fun s15 => lB ((s.1) + (1 : Int32)) fun v16 => rec39 (v16, s15))))
def f_X5_keepGood_L12  (x0 : Nat) (x1 : Int32) (x2 : Int32) (x3 : Int64) (rec12 : Int32 × Int32 × Sg → Option (Unit × Sg)) (s : Int32 × Int32 × Sg) : Option (Unit × Sg) := (if (gI (s.2.2) (gR (s.2.2) x0 4) 4) ≤ (s.2.1) then lB (pI (s.2.2) (gR (s.2.2) x0 4) 4 (s.1)) fun s3 => some ((), s3) else ck (inb (s.2.1) (aL (gR (s.2.2) (gR (s.2.2) x0 4) 0))) (lB ((gL (s.2.2) (gR (s.2.2) (gR (s.2.2) x0 4) 0) (s.2.1).toNatClampNeg)) fun v6 => fx (f_X5_keepGood_L39 rec12 x0 x1 x2 x3 (s.1) (s.2.1) v6) FU ((0 : Int32), (s.2.2))))
def f_X5_keepGood (x0 : Nat) (x1 : Int32) (x2 : Int32) (σ : Sg) : Option (Unit × Sg) := bd (f_X5_heldBits x0 x1 σ) fun r2 s1 => fx (f_X5_keepGood_L12 x0 x1 x2 r2) FU ((0 : Int32), (0 : Int32), s1)
theorem t_X5_keepGood_L188 {K : Cx} (h : Ok K cX5_keepGood RX5 11 rm_X5_keepGood none) (hs : kiv K = St) (x0 : Nat) (x1 : Int32) (x2 : Int32) (x3 : Int64) (x5 : Int32) (x6 : Int32)  (σ : Sg) (rec12 : Int32 × Int32 × Sg → Option (Unit × Sg)) (hr12 : ∀ u, T K (QV K) 12 [(0, .ref x0), (1, .int x1), (2, .int x2), (3, .long x3), (5, .int (u.1)), (6, .int (u.2.1))] [] 0 0 (u.2.2) (rec12 u)) (hk0 : kd x0 5)  : T K (QV K) 188 [(0, .ref x0), (1, .int x1), (2, .int x2), (3, .long x3), (5, .int x5), (6, .int x6)] [] 0 0 σ (f_X5_keepGood_L188 rec12 x0 x1 x2 x3 x5 x6 σ) := by
  unfold f_X5_keepGood_L188
  refine T_iinc (fl := fun v1 => [(6, .int v1), (0, .ref x0), (1, .int x1), (2, .int x2), (3, .long x3), (5, .int x5)]) (pc := 188) h dX5_keepGood_188 5 rfl ki_1 (by decide) (fun _ => rfl) (fun v1 => ?_)
  refine T_goto (pc := 191) (tgt := 12) h dX5_keepGood_191 (by decide) ?_
  refine T_sub [1, 2, 3, 4, 5, 0] rfl ?_
  exact hr12 (x5, v1, σ)
theorem t_X5_keepGood_L118 {K : Cx} (h : Ok K cX5_keepGood RX5 11 rm_X5_keepGood none) (hs : kiv K = St) (x0 : Nat) (x1 : Int32) (x2 : Int32) (x3 : Int64) (x5 : Int32) (x6 : Int32) (x7 : Int64) (y0 : Int64) (σ : Sg) (rec12 : Int32 × Int32 × Sg → Option (Unit × Sg)) (hr12 : ∀ u, T K (QV K) 12 [(0, .ref x0), (1, .int x1), (2, .int x2), (3, .long x3), (5, .int (u.1)), (6, .int (u.2.1))] [] 0 0 (u.2.2) (rec12 u)) (hk0 : kd x0 5)  : T K (QV K) 118 [(0, .ref x0), (1, .int x1), (2, .int x2), (3, .long x3), (5, .int x5), (6, .int x6), (7, .long x7)] [.long y0] 0 0 σ (f_X5_keepGood_L118 rec12 x0 x1 x2 x3 x5 x6 x7 y0 σ) := by
  unfold f_X5_keepGood_L118
  refine T_lstore (lv' := [(9, .long y0), (0, .ref x0), (1, .int x1), (2, .int x2), (3, .long x3), (5, .int x5), (6, .int x6), (7, .long x7)]) (pc := 118) h dX5_keepGood_118 (by decide) rfl ?_
  refine T_lload (pc := 120) h dX5_keepGood_120 0 rfl ?_
  refine T_ldc2 (pc := 122) h kc_X5_56 dX5_keepGood_122 ?_
  refine T_lcmp (pc := 125) h dX5_keepGood_125 ?_
  refine T_if_eq (pc := 126) (tgt := 188) h dX5_keepGood_126 (by decide) ?_ ?_
  · refine T_sub [1, 2, 3, 4, 5, 6] rfl ?_
    exact t_X5_keepGood_L188 h hs x0 x1 x2 x3 x5 x6 σ rec12 hr12 hk0
  · refine T_aload_n (pc := 129) h dX5_keepGood_129 rfl 1 rfl ?_
    refine T_gR (pc := 130) h hs hk0 fl_X5_20 rfl fk_5_4 dX5_keepGood_130 (fun hq1 => ?_)
    refine T_gR (pc := 133) h hs hq1 fl_X5_104 rfl fk_7_0 dX5_keepGood_133 (fun hq2 => ?_)
    refine T_iload (pc := 136) h dX5_keepGood_136 5 rfl ?_
    refine T_lload (pc := 138) h dX5_keepGood_138 7 rfl ?_
    refine T_last (pc := 140) h hs hq2 dX5_keepGood_140 ?_
    refine T_letS fun s3 => ?_
    refine T_aload_n (pc := 141) h dX5_keepGood_141 rfl 1 rfl ?_
    refine T_gR (pc := 142) h hs hk0 fl_X5_20 rfl fk_5_4 dX5_keepGood_142 (fun hq4 => ?_)
    refine T_gR (pc := 145) h hs hq4 fl_X5_136 rfl fk_7_2 dX5_keepGood_145 (fun hq5 => ?_)
    refine T_iload (pc := 148) h dX5_keepGood_148 5 rfl ?_
    refine T_aload_n (pc := 150) h dX5_keepGood_150 rfl 1 rfl ?_
    refine T_gR (pc := 151) h hs hk0 fl_X5_48 rfl fk_5_2 dX5_keepGood_151 (fun hq6 => ?_)
    refine T_getI (pc := 154) h hs hq6 fl_X5_129 rfl dX5_keepGood_154 ?_
    refine T_iast (pc := 157) h hs hq5 dX5_keepGood_157 ?_
    refine T_letS fun s7 => ?_
    refine T_aload_n (pc := 158) h dX5_keepGood_158 rfl 1 rfl ?_
    refine T_gR (pc := 159) h hs hk0 fl_X5_20 rfl fk_5_4 dX5_keepGood_159 (fun hq8 => ?_)
    refine T_gR (pc := 162) h hs hq8 fl_X5_138 rfl fk_7_3 dX5_keepGood_162 (fun hq9 => ?_)
    refine T_iload (pc := 165) h dX5_keepGood_165 5 rfl ?_
    refine T_lload (pc := 167) h dX5_keepGood_167 0 rfl ?_
    refine T_aload_n (pc := 169) h dX5_keepGood_169 rfl 1 rfl ?_
    refine T_gR (pc := 170) h hs hk0 fl_X5_48 rfl fk_5_2 dX5_keepGood_170 (fun hq10 => ?_)
    refine T_callVi (pc := 173) h (M_X0_charge (kl K) hs (gR s7 x0 2) s7 hq10) mv_X0_charge hs hq10 ml_X5_141 rfl ⟨Nat.le_of_ble_eq_true rfl, Nat.le_of_ble_eq_true rfl⟩ ⟨Nat.le_refl 0, Nat.le_refl 0⟩ (Nat.le_of_ble_eq_true rfl) dX5_keepGood_173 rfl (fun r12 s11 => ?_)
    refine T_i2l (pc := 176) h dX5_keepGood_176 ?_
    refine T_bipush (pc := 177) h dX5_keepGood_177 kb_42 ?_
    refine T_lshl (pc := 179) h dX5_keepGood_179 ?_
    refine T_ladd (pc := 180) h dX5_keepGood_180 ?_
    refine T_lload (pc := 181) h dX5_keepGood_181 7 rfl ?_
    refine T_lor (pc := 183) h dX5_keepGood_183 ?_
    refine T_last (pc := 184) h hs hq9 dX5_keepGood_184 ?_
    refine T_letS fun s13 => ?_
    refine T_iinc (fl := fun v14 => [(5, .int v14), (9, .long y0), (0, .ref x0), (1, .int x1), (2, .int x2), (3, .long x3), (6, .int x6), (7, .long x7)]) (pc := 185) h dX5_keepGood_185 5 rfl ki_1 (by decide) (fun _ => rfl) (fun v14 => ?_)
    refine T_sub [2, 3, 4, 5, 0, 6] rfl ?_
    exact t_X5_keepGood_L188 h hs x0 x1 x2 x3 v14 x6 s13 rec12 hr12 hk0
theorem t_X5_keepGood_L39 {K : Cx} (h : Ok K cX5_keepGood RX5 11 rm_X5_keepGood none) (hs : kiv K = St) (x0 : Nat) (x1 : Int32) (x2 : Int32) (x3 : Int64) (x5 : Int32) (x6 : Int32) (x7 : Int64) (rec12 : Int32 × Int32 × Sg → Option (Unit × Sg)) (hr12 : ∀ u, T K (QV K) 12 [(0, .ref x0), (1, .int x1), (2, .int x2), (3, .long x3), (5, .int (u.1)), (6, .int (u.2.1))] [] 0 0 (u.2.2) (rec12 u)) (hk0 : kd x0 5) (rec39 : Int32 × Sg → Option (Unit × Sg)) (hr39 : ∀ u, T K (QV K) 39 [(0, .ref x0), (1, .int x1), (2, .int x2), (3, .long x3), (5, .int x5), (6, .int x6), (7, .long x7), (9, .int (u.1))] [] 0 0 (u.2) (rec39 u)) (s : Int32 × Sg) : T K (QV K) 39 [(0, .ref x0), (1, .int x1), (2, .int x2), (3, .long x3), (5, .int x5), (6, .int x6), (7, .long x7), (9, .int (s.1))] [] 0 0 (s.2) (f_X5_keepGood_L39 rec12 x0 x1 x2 x3 x5 x6 x7 rec39 s) := by
  unfold f_X5_keepGood_L39
  refine T_iload (pc := 39) h dX5_keepGood_39 7 rfl ?_
  refine T_aload_n (pc := 41) h dX5_keepGood_41 rfl 0 rfl ?_
  refine T_gR (pc := 42) h hs hk0 fl_X5_44 rfl fk_5_1 dX5_keepGood_42 (fun hq1 => ?_)
  refine T_gR (pc := 45) h hs hq1 fl_X5_69 rfl fk_2_4 dX5_keepGood_45 (fun hq2 => ?_)
  refine T_iload_n (pc := 48) h dX5_keepGood_48 rfl 1 rfl ?_
  refine T_iconst (pc := 49) h dX5_keepGood_49 ki_1 ?_
  refine T_iadd (pc := 50) h dX5_keepGood_50 ?_
  refine T_iald (pc := 51) h hs hq2 dX5_keepGood_51 ?_
  refine T_icmp_ge (pc := 52) (tgt := 75) h dX5_keepGood_52 (by decide) ?_ ?_
  · refine T_aload_n (pc := 75) h dX5_keepGood_75 rfl 0 rfl ?_
    refine T_gR (pc := 76) h hs hk0 fl_X5_48 rfl fk_5_2 dX5_keepGood_76 (fun hq3 => ?_)
    refine T_iload_n (pc := 79) h dX5_keepGood_79 rfl 1 rfl ?_
    refine T_aload_n (pc := 80) h dX5_keepGood_80 rfl 0 rfl ?_
    refine T_gR (pc := 81) h hs hk0 fl_X5_26 rfl fk_5_6 dX5_keepGood_81 (fun hq4 => ?_)
    refine T_iload_n (pc := 84) h dX5_keepGood_84 rfl 2 rfl ?_
    refine T_callVv (pc := 85) h (M_X0_look (kl K) hs (gR (s.2) x0 2) x1 (gR (s.2) x0 6) x2 (s.2) hq3 hq4) mv_X0_look hs hq3 ml_X5_119 rfl ⟨Nat.le_of_ble_eq_true rfl, Nat.le_of_ble_eq_true rfl⟩ ⟨Nat.le_refl 0, Nat.le_refl 0⟩ (Nat.le_of_ble_eq_true rfl) dX5_keepGood_85 rfl (fun _ s5 => ?_)
    refine T_aload_n (pc := 88) h dX5_keepGood_88 rfl 0 rfl ?_
    refine T_gR (pc := 89) h hs hk0 fl_X5_48 rfl fk_5_2 dX5_keepGood_89 (fun hq6 => ?_)
    refine T_callVi (pc := 92) h (M_X0_wrongs (kl K) hs (gR s5 x0 2) s5 hq6) mv_X0_wrongs hs hq6 ml_X5_125 rfl ⟨Nat.le_of_ble_eq_true rfl, Nat.le_of_ble_eq_true rfl⟩ ⟨Nat.le_refl 0, Nat.le_refl 0⟩ (Nat.le_of_ble_eq_true rfl) dX5_keepGood_92 rfl (fun r8 s7 => ?_)
    refine T_if_ne (pc := 95) (tgt := 115) h dX5_keepGood_95 (by decide) ?_ ?_
    · refine T_ldc2 (pc := 115) h kc_X5_56 dX5_keepGood_115 ?_
      refine T_sub [0, 1, 2, 3, 4, 5, 6] rfl ?_
      exact t_X5_keepGood_L118 h hs x0 x1 x2 x3 x5 x6 x7 (-1 : Int64) s7 rec12 hr12 hk0
    · refine T_aload_n (pc := 98) h dX5_keepGood_98 rfl 0 rfl ?_
      refine T_lload (pc := 99) h dX5_keepGood_99 6 rfl ?_
      refine T_lload_n (pc := 101) h dX5_keepGood_101 rfl 3 rfl ?_
      refine T_aload_n (pc := 102) h dX5_keepGood_102 rfl 0 rfl ?_
      refine T_gR (pc := 103) h hs hk0 fl_X5_48 rfl fk_5_2 dX5_keepGood_103 (fun hq9 => ?_)
      refine T_getI (pc := 106) h hs hq9 fl_X5_129 rfl dX5_keepGood_106 ?_
      refine T_callVl (pc := 109) h (M_X5_bestAhead (kl K) hs x0 x7 x3 (gI s7 (gR s7 x0 2) 2) s7 hk0) mv_X5_bestAhead hs hk0 ml_X5_132 rfl ⟨Nat.le_of_ble_eq_true rfl, Nat.le_of_ble_eq_true rfl⟩ ⟨Nat.le_refl 0, Nat.le_refl 0⟩ (Nat.le_of_ble_eq_true rfl) dX5_keepGood_109 rfl (fun r11 s10 => ?_)
      refine T_goto (pc := 112) (tgt := 118) h dX5_keepGood_112 (by decide) ?_
      refine T_sub [0, 1, 2, 3, 4, 5, 6] rfl ?_
      exact t_X5_keepGood_L118 h hs x0 x1 x2 x3 x5 x6 x7 r11 s10 rec12 hr12 hk0
  · refine T_aload_n (pc := 55) h dX5_keepGood_55 rfl 0 rfl ?_
    refine T_gR (pc := 56) h hs hk0 fl_X5_26 rfl fk_5_6 dX5_keepGood_56 (fun hq12 => ?_)
    refine T_iload (pc := 59) h dX5_keepGood_59 7 rfl ?_
    refine T_lload (pc := 61) h dX5_keepGood_61 6 rfl ?_
    refine T_iload (pc := 63) h dX5_keepGood_63 7 rfl ?_
    refine T_callSi (pc := 65) h (M_X5_courseIn (kl K) hs x7 (s.1) (s.2) ) mst_X5_courseIn ml_X5_115 rfl ⟨Nat.le_of_ble_eq_true rfl, Nat.le_of_ble_eq_true rfl⟩ ⟨Nat.le_refl 0, Nat.le_refl 0⟩ (Nat.le_of_ble_eq_true rfl) dX5_keepGood_65 rfl (fun r14 s13 => ?_)
    refine T_iast (pc := 68) h hs hq12 dX5_keepGood_68 ?_
    refine T_letS fun s15 => ?_
    refine T_iinc (fl := fun v16 => [(9, .int v16), (0, .ref x0), (1, .int x1), (2, .int x2), (3, .long x3), (5, .int x5), (6, .int x6), (7, .long x7)]) (pc := 69) h dX5_keepGood_69 7 rfl ki_1 (by decide) (fun _ => rfl) (fun v16 => ?_)
    refine T_goto (pc := 72) (tgt := 39) h dX5_keepGood_72 (by decide) ?_
    refine T_sub [1, 2, 3, 4, 5, 6, 7, 0] rfl ?_
    exact hr39 (v16, s15)
theorem t_X5_keepGood_L12 {K : Cx} (h : Ok K cX5_keepGood RX5 11 rm_X5_keepGood none) (hs : kiv K = St) (x0 : Nat) (x1 : Int32) (x2 : Int32) (x3 : Int64)  (hk0 : kd x0 5) (rec12 : Int32 × Int32 × Sg → Option (Unit × Sg)) (hr12 : ∀ u, T K (QV K) 12 [(0, .ref x0), (1, .int x1), (2, .int x2), (3, .long x3), (5, .int (u.1)), (6, .int (u.2.1))] [] 0 0 (u.2.2) (rec12 u)) (s : Int32 × Int32 × Sg) : T K (QV K) 12 [(0, .ref x0), (1, .int x1), (2, .int x2), (3, .long x3), (5, .int (s.1)), (6, .int (s.2.1))] [] 0 0 (s.2.2) (f_X5_keepGood_L12 x0 x1 x2 x3 rec12 s) := by
  unfold f_X5_keepGood_L12
  refine T_iload (pc := 12) h dX5_keepGood_12 5 rfl ?_
  refine T_aload_n (pc := 14) h dX5_keepGood_14 rfl 0 rfl ?_
  refine T_gR (pc := 15) h hs hk0 fl_X5_20 rfl fk_5_4 dX5_keepGood_15 (fun hq1 => ?_)
  refine T_getI (pc := 18) h hs hq1 fl_X5_86 rfl dX5_keepGood_18 ?_
  refine T_icmp_ge (pc := 21) (tgt := 194) h dX5_keepGood_21 (by decide) ?_ ?_
  · refine T_aload_n (pc := 194) h dX5_keepGood_194 rfl 0 rfl ?_
    refine T_gR (pc := 195) h hs hk0 fl_X5_20 rfl fk_5_4 dX5_keepGood_195 (fun hq2 => ?_)
    refine T_iload (pc := 198) h dX5_keepGood_198 4 rfl ?_
    refine T_putI (pc := 200) h hs hq2 fl_X5_86 rfl rfl dX5_keepGood_200 ?_
    refine T_letS fun s3 => ?_
    exact T_return (pc := 203) h (Nat.zero_le _) (Nat.zero_le _) dX5_keepGood_203
  · refine T_aload_n (pc := 24) h dX5_keepGood_24 rfl 0 rfl ?_
    refine T_gR (pc := 25) h hs hk0 fl_X5_20 rfl fk_5_4 dX5_keepGood_25 (fun hq4 => ?_)
    refine T_gR (pc := 28) h hs hq4 fl_X5_104 rfl fk_7_0 dX5_keepGood_28 (fun hq5 => ?_)
    refine T_iload (pc := 31) h dX5_keepGood_31 5 rfl ?_
    refine T_lald (pc := 33) h hs hq5 dX5_keepGood_33 ?_
    refine T_letL fun v6 => ?_
    refine T_lstore (lv' := [(7, .long v6), (0, .ref x0), (1, .int x1), (2, .int x2), (3, .long x3), (5, .int (s.1)), (6, .int (s.2.1))]) (pc := 34) h dX5_keepGood_34 (by decide) rfl ?_
    refine T_iconst (pc := 36) h dX5_keepGood_36 ki_0 ?_
    refine T_istore (lv' := [(9, .int (0 : Int32)), (7, .long v6), (0, .ref x0), (1, .int x1), (2, .int x2), (3, .long x3), (5, .int (s.1)), (6, .int (s.2.1))]) (pc := 37) h dX5_keepGood_37 (by decide) rfl ?_
    refine T_sub [2, 3, 4, 5, 6, 7, 1, 0] rfl ?_
    exact T_fx (B := f_X5_keepGood_L39 rec12 x0 x1 x2 x3 (s.1) (s.2.1) v6) (fl := fun u => [(0, .ref x0), (1, .int x1), (2, .int x2), (3, .long x3), (5, .int (s.1)), (6, .int (s.2.1)), (7, .long v6), (9, .int (u.1))]) (f := fun u => (u.2)) (fun rec39 hr39 u => t_X5_keepGood_L39 h hs x0 x1 x2 x3 (s.1) (s.2.1) v6 rec12 hr12 hk0 rec39 hr39 u) FU ((0 : Int32), (s.2.2))
theorem t_X5_keepGood {K : Cx} (h : Ok K cX5_keepGood RX5 11 rm_X5_keepGood none) (hs : kiv K = St) (x0 : Nat) (x1 : Int32) (x2 : Int32) (σ : Sg) (hk0 : kd x0 5) : T K (QV K) 0 [(0, .ref x0), (1, .int x1), (2, .int x2)] [] 0 0 σ (f_X5_keepGood x0 x1 x2 σ) := by
  unfold f_X5_keepGood
  refine T_aload_n (pc := 0) h dX5_keepGood_0 rfl 0 rfl ?_
  refine T_iload_n (pc := 1) h dX5_keepGood_1 rfl 1 rfl ?_
  refine T_callVl (pc := 2) h (M_X5_heldBits (kl K) hs x0 x1 σ hk0) mv_X5_heldBits hs hk0 ml_X5_111 rfl ⟨Nat.le_of_ble_eq_true rfl, Nat.le_of_ble_eq_true rfl⟩ ⟨Nat.le_refl 0, Nat.le_refl 0⟩ (Nat.le_of_ble_eq_true rfl) dX5_keepGood_2 rfl (fun r2 s1 => ?_)
  refine T_lstore_n (lv' := [(3, .long r2), (0, .ref x0), (1, .int x1), (2, .int x2)]) (pc := 5) h dX5_keepGood_5 rfl (by decide) rfl ?_
  refine T_iconst (pc := 6) h dX5_keepGood_6 ki_0 ?_
  refine T_istore (lv' := [(5, .int (0 : Int32)), (3, .long r2), (0, .ref x0), (1, .int x1), (2, .int x2)]) (pc := 7) h dX5_keepGood_7 (by decide) rfl ?_
  refine T_iconst (pc := 9) h dX5_keepGood_9 ki_0 ?_
  refine T_istore (lv' := [(6, .int (0 : Int32)), (5, .int (0 : Int32)), (3, .long r2), (0, .ref x0), (1, .int x1), (2, .int x2)]) (pc := 10) h dX5_keepGood_10 (by decide) rfl ?_
  refine T_sub [3, 4, 5, 2, 1, 0] rfl ?_
  exact T_fx (B := f_X5_keepGood_L12 x0 x1 x2 r2) (fl := fun u => [(0, .ref x0), (1, .int x1), (2, .int x2), (3, .long r2), (5, .int (u.1)), (6, .int (u.2.1))]) (f := fun u => (u.2.2)) (fun rec12 hr12 u => t_X5_keepGood_L12 h hs x0 x1 x2 r2 hk0 rec12 hr12 u) FU ((0 : Int32), (0 : Int32), s1)
theorem M_X5_keepGood (l : Launch) {iv : Sg → Prop} (hi : iv = St) (x0 : Nat) (x1 : Int32) (x2 : Int32) (σ : Sg) (hk0 : kd x0 5) : CTv l yX5_keepGood cX5_keepGood 11 none rm_X5_keepGood iv [.ref x0, .int x1, .int x2] σ (f_X5_keepGood x0 x1 x2 σ) := by
  subst hi
  exact CT_of (by decide) (Nat.le_of_ble_eq_true rfl) (fun K _ h _ hs _ _ => t_X5_keepGood h hs x0 x1 x2 σ hk0)
/-! LuteTabs$Search.find(II)J -/
theorem dX5_find_0 : decode cX5_find 0 = .ok (.aload_n 0, 1) := by decide +kernel
theorem dX5_find_1 : decode cX5_find 1 = .ok (.getfield 16, 3) := by decide +kernel
theorem dX5_find_4 : decode cX5_find 4 = .ok (.invokevirtual 62, 3) := by decide +kernel
theorem dX5_find_7 : decode cX5_find 7 = .ok (.iconst 0, 1) := by decide +kernel
theorem dX5_find_8 : decode cX5_find 8 = .ok (.istore_n 3, 1) := by decide +kernel
theorem dX5_find_9 : decode cX5_find 9 = .ok (.iload_n 3, 1) := by decide +kernel
theorem dX5_find_10 : decode cX5_find 10 = .ok (.aload_n 0, 1) := by decide +kernel
theorem dX5_find_11 : decode cX5_find 11 = .ok (.getfield 44, 3) := by decide +kernel
theorem dX5_find_14 : decode cX5_find 14 = .ok (.getfield 65, 3) := by decide +kernel
theorem dX5_find_17 : decode cX5_find 17 = .ok (.if_icmp .ge 119, 3) := by decide +kernel
theorem dX5_find_20 : decode cX5_find 20 = .ok (.aload_n 0, 1) := by decide +kernel
theorem dX5_find_21 : decode cX5_find 21 = .ok (.getfield 20, 3) := by decide +kernel
theorem dX5_find_24 : decode cX5_find 24 = .ok (.invokevirtual 62, 3) := by decide +kernel
theorem dX5_find_27 : decode cX5_find 27 = .ok (.iconst 0, 1) := by decide +kernel
theorem dX5_find_28 : decode cX5_find 28 = .ok (.istore 4, 2) := by decide +kernel
theorem dX5_find_30 : decode cX5_find 30 = .ok (.iload 4, 2) := by decide +kernel
theorem dX5_find_32 : decode cX5_find 32 = .ok (.aload_n 0, 1) := by decide +kernel
theorem dX5_find_33 : decode cX5_find 33 = .ok (.getfield 44, 3) := by decide +kernel
theorem dX5_find_36 : decode cX5_find 36 = .ok (.getfield 69, 3) := by decide +kernel
theorem dX5_find_39 : decode cX5_find 39 = .ok (.iload_n 3, 1) := by decide +kernel
theorem dX5_find_40 : decode cX5_find 40 = .ok (.iconst 1, 1) := by decide +kernel
theorem dX5_find_41 : decode cX5_find 41 = .ok (.iadd, 1) := by decide +kernel
theorem dX5_find_42 : decode cX5_find 42 = .ok (.iaload, 1) := by decide +kernel
theorem dX5_find_43 : decode cX5_find 43 = .ok (.if_icmp .ge 46, 3) := by decide +kernel
theorem dX5_find_46 : decode cX5_find 46 = .ok (.aload_n 0, 1) := by decide +kernel
theorem dX5_find_47 : decode cX5_find 47 = .ok (.getfield 44, 3) := by decide +kernel
theorem dX5_find_50 : decode cX5_find 50 = .ok (.getfield 72, 3) := by decide +kernel
theorem dX5_find_53 : decode cX5_find 53 = .ok (.iload_n 3, 1) := by decide +kernel
theorem dX5_find_54 : decode cX5_find 54 = .ok (.iaload, 1) := by decide +kernel
theorem dX5_find_55 : decode cX5_find 55 = .ok (.iload 4, 2) := by decide +kernel
theorem dX5_find_57 : decode cX5_find 57 = .ok (.ishr, 1) := by decide +kernel
theorem dX5_find_58 : decode cX5_find 58 = .ok (.iconst 1, 1) := by decide +kernel
theorem dX5_find_59 : decode cX5_find 59 = .ok (.iand, 1) := by decide +kernel
theorem dX5_find_60 : decode cX5_find 60 = .ok (.iconst 1, 1) := by decide +kernel
theorem dX5_find_61 : decode cX5_find 61 = .ok (.if_icmp .ne 22, 3) := by decide +kernel
theorem dX5_find_64 : decode cX5_find 64 = .ok (.aload_n 0, 1) := by decide +kernel
theorem dX5_find_65 : decode cX5_find 65 = .ok (.iload 4, 2) := by decide +kernel
theorem dX5_find_67 : decode cX5_find 67 = .ok (.aload_n 0, 1) := by decide +kernel
theorem dX5_find_68 : decode cX5_find 68 = .ok (.getfield 44, 3) := by decide +kernel
theorem dX5_find_71 : decode cX5_find 71 = .ok (.getfield 75, 3) := by decide +kernel
theorem dX5_find_74 : decode cX5_find 74 = .ok (.iload 4, 2) := by decide +kernel
theorem dX5_find_76 : decode cX5_find 76 = .ok (.iaload, 1) := by decide +kernel
theorem dX5_find_77 : decode cX5_find 77 = .ok (.iload_n 1, 1) := by decide +kernel
theorem dX5_find_78 : decode cX5_find 78 = .ok (.iadd, 1) := by decide +kernel
theorem dX5_find_79 : decode cX5_find 79 = .ok (.iload_n 2, 1) := by decide +kernel
theorem dX5_find_80 : decode cX5_find 80 = .ok (.invokevirtual 78, 3) := by decide +kernel
theorem dX5_find_83 : decode cX5_find 83 = .ok (.iinc 4 1, 3) := by decide +kernel
theorem dX5_find_86 : decode cX5_find 86 = .ok (.goto (-56), 3) := by decide +kernel
theorem dX5_find_89 : decode cX5_find 89 = .ok (.aload_n 0, 1) := by decide +kernel
theorem dX5_find_90 : decode cX5_find 90 = .ok (.iload_n 3, 1) := by decide +kernel
theorem dX5_find_91 : decode cX5_find 91 = .ok (.iload_n 1, 1) := by decide +kernel
theorem dX5_find_92 : decode cX5_find 92 = .ok (.invokevirtual 82, 3) := by decide +kernel
theorem dX5_find_95 : decode cX5_find 95 = .ok (.aload_n 0, 1) := by decide +kernel
theorem dX5_find_96 : decode cX5_find 96 = .ok (.getfield 20, 3) := by decide +kernel
theorem dX5_find_99 : decode cX5_find 99 = .ok (.getfield 86, 3) := by decide +kernel
theorem dX5_find_102 : decode cX5_find 102 = .ok (.ifCond .ne 8, 3) := by decide +kernel
theorem dX5_find_105 : decode cX5_find 105 = .ok (.iconst (-1), 1) := by decide +kernel
theorem dX5_find_106 : decode cX5_find 106 = .ok (.iload_n 3, 1) := by decide +kernel
theorem dX5_find_107 : decode cX5_find 107 = .ok (.isub, 1) := by decide +kernel
theorem dX5_find_108 : decode cX5_find 108 = .ok (.i2l, 1) := by decide +kernel
theorem dX5_find_109 : decode cX5_find 109 = .ok (.lreturn, 1) := by decide +kernel
theorem dX5_find_110 : decode cX5_find 110 = .ok (.aload_n 0, 1) := by decide +kernel
theorem dX5_find_111 : decode cX5_find 111 = .ok (.getfield 16, 3) := by decide +kernel
theorem dX5_find_114 : decode cX5_find 114 = .ok (.astore 4, 2) := by decide +kernel
theorem dX5_find_116 : decode cX5_find 116 = .ok (.aload_n 0, 1) := by decide +kernel
theorem dX5_find_117 : decode cX5_find 117 = .ok (.aload_n 0, 1) := by decide +kernel
theorem dX5_find_118 : decode cX5_find 118 = .ok (.getfield 20, 3) := by decide +kernel
theorem dX5_find_121 : decode cX5_find 121 = .ok (.putfield 16, 3) := by decide +kernel
theorem dX5_find_124 : decode cX5_find 124 = .ok (.aload_n 0, 1) := by decide +kernel
theorem dX5_find_125 : decode cX5_find 125 = .ok (.aload 4, 2) := by decide +kernel
theorem dX5_find_127 : decode cX5_find 127 = .ok (.putfield 20, 3) := by decide +kernel
theorem dX5_find_130 : decode cX5_find 130 = .ok (.iinc 3 1, 3) := by decide +kernel
theorem dX5_find_133 : decode cX5_find 133 = .ok (.goto (-124), 3) := by decide +kernel
theorem dX5_find_136 : decode cX5_find 136 = .ok (.aload_n 0, 1) := by decide +kernel
theorem dX5_find_137 : decode cX5_find 137 = .ok (.getfield 16, 3) := by decide +kernel
theorem dX5_find_140 : decode cX5_find 140 = .ok (.invokevirtual 89, 3) := by decide +kernel
theorem dX5_find_143 : decode cX5_find 143 = .ok (.lreturn, 1) := by decide +kernel
abbrev rm_X5_find : Room := { frames := 4, cells := 0, slots := 0, locals := 107 }
def f_X5_find_L83 (rec9 : Int32 × Sg → Option (Int64 × Sg)) (rec30 : Int32 × Sg → Option (Int64 × Sg)) (x0 : Nat) (x1 : Int32) (x2 : Int32) (x3 : Int32) (x4 : Int32)  (σ : Sg) : Option (Int64 × Sg) := lB (x4 + (1 : Int32)) fun v1 => rec30 (v1, σ)
def f_X5_find_L30 (rec9 : Int32 × Sg → Option (Int64 × Sg)) (x0 : Nat) (x1 : Int32) (x2 : Int32) (x3 : Int32) (rec30 : Int32 × Sg → Option (Int64 × Sg)) (s : Int32 × Sg) : Option (Int64 × Sg) := ck (inb (x3 + (1 : Int32)) (aL (gR (s.2) (gR (s.2) x0 1) 4))) ((if (gI (s.2) (gR (s.2) (gR (s.2) x0 1) 4) (x3 + (1 : Int32)).toNatClampNeg) ≤ (s.1) then bd (f_X5_keepGood x0 x3 x1 (s.2)) fun _ s3 => (if (gI s3 (gR s3 x0 4) 4) = 0 then some (((-1 : Int32) - x3).toInt64, s3) else lB (pR s3 x0 3 (gR s3 x0 4)) fun s7 => lB (pR s7 x0 4 (gR s3 x0 3)) fun s8 => lB (x3 + (1 : Int32)) fun v9 => rec9 (v9, s8)) else ck (inb x3 (aL (gR (s.2) (gR (s.2) x0 1) 5))) ((if (((gI (s.2) (gR (s.2) (gR (s.2) x0 1) 5) x3.toNatClampNeg) >>> ((s.1) &&& 31)) &&& (1 : Int32)) = (1 : Int32) then ck (inb (s.1) (aL (gR (s.2) (gR (s.2) x0 1) 1))) (bd (f_X5_spread x0 (s.1) ((gI (s.2) (gR (s.2) (gR (s.2) x0 1) 1) (s.1).toNatClampNeg) + x1) x2 (s.2)) fun _ s14 => f_X5_find_L83 rec9 rec30 x0 x1 x2 x3 (s.1) s14) else f_X5_find_L83 rec9 rec30 x0 x1 x2 x3 (s.1) (s.2)))))
def f_X5_find_L9  (x0 : Nat) (x1 : Int32) (x2 : Int32) (rec9 : Int32 × Sg → Option (Int64 × Sg)) (s : Int32 × Sg) : Option (Int64 × Sg) := (if (gI (s.2) (gR (s.2) x0 1) 7) ≤ (s.1) then bd (f_X7_leastBest (gR (s.2) x0 3) (s.2)) fun r4 s3 => some (r4, s3) else bd (f_X7_startWithNothingLaid (gR (s.2) x0 4) (s.2)) fun _ s6 => fx (f_X5_find_L30 rec9 x0 x1 x2 (s.1)) FU ((0 : Int32), s6))
def f_X5_find (x0 : Nat) (x1 : Int32) (x2 : Int32) (σ : Sg) : Option (Int64 × Sg) := bd (f_X7_startWithNothingLaid (gR σ x0 3) σ) fun _ s2 => fx (f_X5_find_L9 x0 x1 x2) FU ((0 : Int32), s2)
theorem t_X5_find_L83 {K : Cx} (h : Ok K cX5_find RX5 5 rm_X5_find (some .long)) (hs : kiv K = St) (x0 : Nat) (x1 : Int32) (x2 : Int32) (x3 : Int32) (x4 : Int32)  (σ : Sg) (rec9 : Int32 × Sg → Option (Int64 × Sg)) (hr9 : ∀ u, T K (QL K) 9 [(0, .ref x0), (1, .int x1), (2, .int x2), (3, .int (u.1))] [] 0 0 (u.2) (rec9 u)) (rec30 : Int32 × Sg → Option (Int64 × Sg)) (hr30 : ∀ u, T K (QL K) 30 [(0, .ref x0), (1, .int x1), (2, .int x2), (3, .int x3), (4, .int (u.1))] [] 0 0 (u.2) (rec30 u)) (hk0 : kd x0 5)  : T K (QL K) 83 [(0, .ref x0), (1, .int x1), (2, .int x2), (3, .int x3), (4, .int x4)] [] 0 0 σ (f_X5_find_L83 rec9 rec30 x0 x1 x2 x3 x4 σ) := by
  unfold f_X5_find_L83
  refine T_iinc (fl := fun v1 => [(4, .int v1), (0, .ref x0), (1, .int x1), (2, .int x2), (3, .int x3)]) (pc := 83) h dX5_find_83 4 rfl ki_1 (by decide) (fun _ => rfl) (fun v1 => ?_)
  refine T_goto (pc := 86) (tgt := 30) h dX5_find_86 (by decide) ?_
  refine T_sub [1, 2, 3, 4, 0] rfl ?_
  exact hr30 (v1, σ)
theorem t_X5_find_L30 {K : Cx} (h : Ok K cX5_find RX5 5 rm_X5_find (some .long)) (hs : kiv K = St) (x0 : Nat) (x1 : Int32) (x2 : Int32) (x3 : Int32) (rec9 : Int32 × Sg → Option (Int64 × Sg)) (hr9 : ∀ u, T K (QL K) 9 [(0, .ref x0), (1, .int x1), (2, .int x2), (3, .int (u.1))] [] 0 0 (u.2) (rec9 u)) (hk0 : kd x0 5) (rec30 : Int32 × Sg → Option (Int64 × Sg)) (hr30 : ∀ u, T K (QL K) 30 [(0, .ref x0), (1, .int x1), (2, .int x2), (3, .int x3), (4, .int (u.1))] [] 0 0 (u.2) (rec30 u)) (s : Int32 × Sg) : T K (QL K) 30 [(0, .ref x0), (1, .int x1), (2, .int x2), (3, .int x3), (4, .int (s.1))] [] 0 0 (s.2) (f_X5_find_L30 rec9 x0 x1 x2 x3 rec30 s) := by
  unfold f_X5_find_L30
  refine T_iload (pc := 30) h dX5_find_30 4 rfl ?_
  refine T_aload_n (pc := 32) h dX5_find_32 rfl 0 rfl ?_
  refine T_gR (pc := 33) h hs hk0 fl_X5_44 rfl fk_5_1 dX5_find_33 (fun hq1 => ?_)
  refine T_gR (pc := 36) h hs hq1 fl_X5_69 rfl fk_2_4 dX5_find_36 (fun hq2 => ?_)
  refine T_iload_n (pc := 39) h dX5_find_39 rfl 3 rfl ?_
  refine T_iconst (pc := 40) h dX5_find_40 ki_1 ?_
  refine T_iadd (pc := 41) h dX5_find_41 ?_
  refine T_iald (pc := 42) h hs hq2 dX5_find_42 ?_
  refine T_icmp_ge (pc := 43) (tgt := 89) h dX5_find_43 (by decide) ?_ ?_
  · refine T_aload_n (pc := 89) h dX5_find_89 rfl 0 rfl ?_
    refine T_iload_n (pc := 90) h dX5_find_90 rfl 3 rfl ?_
    refine T_iload_n (pc := 91) h dX5_find_91 rfl 1 rfl ?_
    refine T_callVv (pc := 92) h (M_X5_keepGood (kl K) hs x0 x3 x1 (s.2) hk0) mv_X5_keepGood hs hk0 ml_X5_82 rfl ⟨Nat.le_of_ble_eq_true rfl, Nat.le_of_ble_eq_true rfl⟩ ⟨Nat.le_refl 0, Nat.le_refl 0⟩ (Nat.le_of_ble_eq_true rfl) dX5_find_92 rfl (fun _ s3 => ?_)
    refine T_aload_n (pc := 95) h dX5_find_95 rfl 0 rfl ?_
    refine T_gR (pc := 96) h hs hk0 fl_X5_20 rfl fk_5_4 dX5_find_96 (fun hq4 => ?_)
    refine T_getI (pc := 99) h hs hq4 fl_X5_86 rfl dX5_find_99 ?_
    refine T_if_ne (pc := 102) (tgt := 110) h dX5_find_102 (by decide) ?_ ?_
    · refine T_aload_n (pc := 110) h dX5_find_110 rfl 0 rfl ?_
      refine T_gR (pc := 111) h hs hk0 fl_X5_16 rfl fk_5_3 dX5_find_111 (fun hq5 => ?_)
      refine T_astore (lv' := [(4, .ref (gR s3 x0 3)), (0, .ref x0), (1, .int x1), (2, .int x2), (3, .int x3)]) (pc := 114) h dX5_find_114 (by decide) rfl ?_
      refine T_aload_n (pc := 116) h dX5_find_116 rfl 1 rfl ?_
      refine T_aload_n (pc := 117) h dX5_find_117 rfl 1 rfl ?_
      refine T_gR (pc := 118) h hs hk0 fl_X5_20 rfl fk_5_4 dX5_find_118 (fun hq6 => ?_)
      refine T_putR (pc := 121) h hs hk0 fl_X5_16 rfl rfl fk_5_3 hq6 dX5_find_121 ?_
      refine T_letS fun s7 => ?_
      refine T_aload_n (pc := 124) h dX5_find_124 rfl 1 rfl ?_
      refine T_aload (pc := 125) h dX5_find_125 0 rfl ?_
      refine T_putR (pc := 127) h hs hk0 fl_X5_20 rfl rfl fk_5_4 hq5 dX5_find_127 ?_
      refine T_letS fun s8 => ?_
      refine T_iinc (fl := fun v9 => [(3, .int v9), (4, .ref (gR s3 x0 3)), (0, .ref x0), (1, .int x1), (2, .int x2)]) (pc := 130) h dX5_find_130 4 rfl ki_1 (by decide) (fun _ => rfl) (fun v9 => ?_)
      refine T_goto (pc := 133) (tgt := 9) h dX5_find_133 (by decide) ?_
      refine T_sub [2, 3, 4, 0] rfl ?_
      exact hr9 (v9, s8)
    · refine T_iconst (pc := 105) h dX5_find_105 ki_m1 ?_
      refine T_iload_n (pc := 106) h dX5_find_106 rfl 3 rfl ?_
      refine T_isub (pc := 107) h dX5_find_107 ?_
      refine T_i2l (pc := 108) h dX5_find_108 ?_
      exact T_lreturn (pc := 109) h (Nat.zero_le _) (Nat.zero_le _) dX5_find_109
  · refine T_aload_n (pc := 46) h dX5_find_46 rfl 0 rfl ?_
    refine T_gR (pc := 47) h hs hk0 fl_X5_44 rfl fk_5_1 dX5_find_47 (fun hq10 => ?_)
    refine T_gR (pc := 50) h hs hq10 fl_X5_72 rfl fk_2_5 dX5_find_50 (fun hq11 => ?_)
    refine T_iload_n (pc := 53) h dX5_find_53 rfl 3 rfl ?_
    refine T_iald (pc := 54) h hs hq11 dX5_find_54 ?_
    refine T_iload (pc := 55) h dX5_find_55 4 rfl ?_
    refine T_ishr (pc := 57) h dX5_find_57 ?_
    refine T_iconst (pc := 58) h dX5_find_58 ki_1 ?_
    refine T_iand (pc := 59) h dX5_find_59 ?_
    refine T_iconst (pc := 60) h dX5_find_60 ki_1 ?_
    refine T_icmp_ne (pc := 61) (tgt := 83) h dX5_find_61 (by decide) ?_ ?_
    · refine T_sub [0, 1, 2, 3, 4] rfl ?_
      exact t_X5_find_L83 h hs x0 x1 x2 x3 (s.1) (s.2) rec9 hr9 rec30 hr30 hk0
    · refine T_aload_n (pc := 64) h dX5_find_64 rfl 0 rfl ?_
      refine T_iload (pc := 65) h dX5_find_65 4 rfl ?_
      refine T_aload_n (pc := 67) h dX5_find_67 rfl 0 rfl ?_
      refine T_gR (pc := 68) h hs hk0 fl_X5_44 rfl fk_5_1 dX5_find_68 (fun hq12 => ?_)
      refine T_gR (pc := 71) h hs hq12 fl_X5_75 rfl fk_2_1 dX5_find_71 (fun hq13 => ?_)
      refine T_iload (pc := 74) h dX5_find_74 4 rfl ?_
      refine T_iald (pc := 76) h hs hq13 dX5_find_76 ?_
      refine T_iload_n (pc := 77) h dX5_find_77 rfl 1 rfl ?_
      refine T_iadd (pc := 78) h dX5_find_78 ?_
      refine T_iload_n (pc := 79) h dX5_find_79 rfl 2 rfl ?_
      refine T_callVv (pc := 80) h (M_X5_spread (kl K) hs x0 (s.1) ((gI (s.2) (gR (s.2) (gR (s.2) x0 1) 1) (s.1).toNatClampNeg) + x1) x2 (s.2) hk0) mv_X5_spread hs hk0 ml_X5_78 rfl ⟨Nat.le_of_ble_eq_true rfl, Nat.le_of_ble_eq_true rfl⟩ ⟨Nat.le_refl 0, Nat.le_refl 0⟩ (Nat.le_of_ble_eq_true rfl) dX5_find_80 rfl (fun _ s14 => ?_)
      refine T_sub [0, 1, 2, 3, 4] rfl ?_
      exact t_X5_find_L83 h hs x0 x1 x2 x3 (s.1) s14 rec9 hr9 rec30 hr30 hk0
theorem t_X5_find_L9 {K : Cx} (h : Ok K cX5_find RX5 5 rm_X5_find (some .long)) (hs : kiv K = St) (x0 : Nat) (x1 : Int32) (x2 : Int32)  (hk0 : kd x0 5) (rec9 : Int32 × Sg → Option (Int64 × Sg)) (hr9 : ∀ u, T K (QL K) 9 [(0, .ref x0), (1, .int x1), (2, .int x2), (3, .int (u.1))] [] 0 0 (u.2) (rec9 u)) (s : Int32 × Sg) : T K (QL K) 9 [(0, .ref x0), (1, .int x1), (2, .int x2), (3, .int (s.1))] [] 0 0 (s.2) (f_X5_find_L9 x0 x1 x2 rec9 s) := by
  unfold f_X5_find_L9
  refine T_iload_n (pc := 9) h dX5_find_9 rfl 3 rfl ?_
  refine T_aload_n (pc := 10) h dX5_find_10 rfl 0 rfl ?_
  refine T_gR (pc := 11) h hs hk0 fl_X5_44 rfl fk_5_1 dX5_find_11 (fun hq1 => ?_)
  refine T_getI (pc := 14) h hs hq1 fl_X5_65 rfl dX5_find_14 ?_
  refine T_icmp_ge (pc := 17) (tgt := 136) h dX5_find_17 (by decide) ?_ ?_
  · refine T_aload_n (pc := 136) h dX5_find_136 rfl 0 rfl ?_
    refine T_gR (pc := 137) h hs hk0 fl_X5_16 rfl fk_5_3 dX5_find_137 (fun hq2 => ?_)
    refine T_callVl (pc := 140) h (M_X7_leastBest (kl K) hs (gR (s.2) x0 3) (s.2) hq2) mv_X7_leastBest hs hq2 ml_X5_89 rfl ⟨Nat.le_of_ble_eq_true rfl, Nat.le_of_ble_eq_true rfl⟩ ⟨Nat.le_refl 0, Nat.le_refl 0⟩ (Nat.le_of_ble_eq_true rfl) dX5_find_140 rfl (fun r4 s3 => ?_)
    exact T_lreturn (pc := 143) h (Nat.zero_le _) (Nat.zero_le _) dX5_find_143
  · refine T_aload_n (pc := 20) h dX5_find_20 rfl 0 rfl ?_
    refine T_gR (pc := 21) h hs hk0 fl_X5_20 rfl fk_5_4 dX5_find_21 (fun hq5 => ?_)
    refine T_callVv (pc := 24) h (M_X7_startWithNothingLaid (kl K) hs (gR (s.2) x0 4) (s.2) hq5) mv_X7_startWithNothingLaid hs hq5 ml_X5_62 rfl ⟨Nat.le_of_ble_eq_true rfl, Nat.le_of_ble_eq_true rfl⟩ ⟨Nat.le_refl 0, Nat.le_refl 0⟩ (Nat.le_of_ble_eq_true rfl) dX5_find_24 rfl (fun _ s6 => ?_)
    refine T_iconst (pc := 27) h dX5_find_27 ki_0 ?_
    refine T_istore (lv' := [(4, .int (0 : Int32)), (0, .ref x0), (1, .int x1), (2, .int x2), (3, .int (s.1))]) (pc := 28) h dX5_find_28 (by decide) rfl ?_
    refine T_sub [1, 2, 3, 4, 0] rfl ?_
    exact T_fx (B := f_X5_find_L30 rec9 x0 x1 x2 (s.1)) (fl := fun u => [(0, .ref x0), (1, .int x1), (2, .int x2), (3, .int (s.1)), (4, .int (u.1))]) (f := fun u => (u.2)) (fun rec30 hr30 u => t_X5_find_L30 h hs x0 x1 x2 (s.1) rec9 hr9 hk0 rec30 hr30 u) FU ((0 : Int32), s6)
theorem t_X5_find {K : Cx} (h : Ok K cX5_find RX5 5 rm_X5_find (some .long)) (hs : kiv K = St) (x0 : Nat) (x1 : Int32) (x2 : Int32) (σ : Sg) (hk0 : kd x0 5) : T K (QL K) 0 [(0, .ref x0), (1, .int x1), (2, .int x2)] [] 0 0 σ (f_X5_find x0 x1 x2 σ) := by
  unfold f_X5_find
  refine T_aload_n (pc := 0) h dX5_find_0 rfl 0 rfl ?_
  refine T_gR (pc := 1) h hs hk0 fl_X5_16 rfl fk_5_3 dX5_find_1 (fun hq1 => ?_)
  refine T_callVv (pc := 4) h (M_X7_startWithNothingLaid (kl K) hs (gR σ x0 3) σ hq1) mv_X7_startWithNothingLaid hs hq1 ml_X5_62 rfl ⟨Nat.le_of_ble_eq_true rfl, Nat.le_of_ble_eq_true rfl⟩ ⟨Nat.le_refl 0, Nat.le_refl 0⟩ (Nat.le_of_ble_eq_true rfl) dX5_find_4 rfl (fun _ s2 => ?_)
  refine T_iconst (pc := 7) h dX5_find_7 ki_0 ?_
  refine T_istore_n (lv' := [(3, .int (0 : Int32)), (0, .ref x0), (1, .int x1), (2, .int x2)]) (pc := 8) h dX5_find_8 rfl (by decide) rfl ?_
  refine T_sub [1, 2, 3, 0] rfl ?_
  exact T_fx (B := f_X5_find_L9 x0 x1 x2) (fl := fun u => [(0, .ref x0), (1, .int x1), (2, .int x2), (3, .int (u.1))]) (f := fun u => (u.2)) (fun rec9 hr9 u => t_X5_find_L9 h hs x0 x1 x2 hk0 rec9 hr9 u) FU ((0 : Int32), s2)
theorem M_X5_find (l : Launch) {iv : Sg → Prop} (hi : iv = St) (x0 : Nat) (x1 : Int32) (x2 : Int32) (σ : Sg) (hk0 : kd x0 5) : CTl l yX5_find cX5_find 5 (some .long) rm_X5_find iv [.ref x0, .int x1, .int x2] σ (f_X5_find x0 x1 x2 σ) := by
  subst hi
  exact CT_of (by decide) (Nat.le_of_ble_eq_true rfl) (fun K _ h _ hs _ _ => t_X5_find h hs x0 x1 x2 σ hk0)
/-! LuteTabs$Search.inKey(I)J -/
theorem dX5_inKey_0 : decode cX5_inKey 0 = .ok (.iload_n 1, 1) := by decide +kernel
theorem dX5_inKey_1 : decode cX5_inKey 1 = .ok (.bipush 12, 2) := by decide +kernel
theorem dX5_inKey_3 : decode cX5_inKey 3 = .ok (.iadd, 1) := by decide +kernel
theorem dX5_inKey_4 : decode cX5_inKey 4 = .ok (.istore_n 2, 1) := by decide +kernel
theorem dX5_inKey_5 : decode cX5_inKey 5 = .ok (.aload_n 0, 1) := by decide +kernel
theorem dX5_inKey_6 : decode cX5_inKey 6 = .ok (.getfield 36, 3) := by decide +kernel
theorem dX5_inKey_9 : decode cX5_inKey 9 = .ok (.iload_n 2, 1) := by decide +kernel
theorem dX5_inKey_10 : decode cX5_inKey 10 = .ok (.baload, 1) := by decide +kernel
theorem dX5_inKey_11 : decode cX5_inKey 11 = .ok (.ifCond .ne 22, 3) := by decide +kernel
theorem dX5_inKey_14 : decode cX5_inKey 14 = .ok (.aload_n 0, 1) := by decide +kernel
theorem dX5_inKey_15 : decode cX5_inKey 15 = .ok (.getfield 32, 3) := by decide +kernel
theorem dX5_inKey_18 : decode cX5_inKey 18 = .ok (.iload_n 2, 1) := by decide +kernel
theorem dX5_inKey_19 : decode cX5_inKey 19 = .ok (.aload_n 0, 1) := by decide +kernel
theorem dX5_inKey_20 : decode cX5_inKey 20 = .ok (.iload_n 1, 1) := by decide +kernel
theorem dX5_inKey_21 : decode cX5_inKey 21 = .ok (.iconst (-1), 1) := by decide +kernel
theorem dX5_inKey_22 : decode cX5_inKey 22 = .ok (.invokevirtual 58, 3) := by decide +kernel
theorem dX5_inKey_25 : decode cX5_inKey 25 = .ok (.lastore, 1) := by decide +kernel
theorem dX5_inKey_26 : decode cX5_inKey 26 = .ok (.aload_n 0, 1) := by decide +kernel
theorem dX5_inKey_27 : decode cX5_inKey 27 = .ok (.getfield 36, 3) := by decide +kernel
theorem dX5_inKey_30 : decode cX5_inKey 30 = .ok (.iload_n 2, 1) := by decide +kernel
theorem dX5_inKey_31 : decode cX5_inKey 31 = .ok (.iconst 1, 1) := by decide +kernel
theorem dX5_inKey_32 : decode cX5_inKey 32 = .ok (.bastore, 1) := by decide +kernel
theorem dX5_inKey_33 : decode cX5_inKey 33 = .ok (.aload_n 0, 1) := by decide +kernel
theorem dX5_inKey_34 : decode cX5_inKey 34 = .ok (.getfield 32, 3) := by decide +kernel
theorem dX5_inKey_37 : decode cX5_inKey 37 = .ok (.iload_n 2, 1) := by decide +kernel
theorem dX5_inKey_38 : decode cX5_inKey 38 = .ok (.laload, 1) := by decide +kernel
theorem dX5_inKey_39 : decode cX5_inKey 39 = .ok (.lreturn, 1) := by decide +kernel
abbrev rm_X5_inKey : Room := { frames := 5, cells := 0, slots := 0, locals := 131 }
def f_X5_inKey_L33  (x0 : Nat) (x2 : Int32)  (σ : Sg) : Option (Int64 × Sg) := ck (inb x2 (aL (gR σ x0 7))) (some ((gL σ (gR σ x0 7) x2.toNatClampNeg), σ))
def f_X5_inKey (x0 : Nat) (x1 : Int32) (σ : Sg) : Option (Int64 × Sg) := lB ((x1 + (12 : Int32))) fun v1 => ck (inb v1 (aL (gR σ x0 8))) ((if (gI σ (gR σ x0 8) v1.toNatClampNeg) = 0 then bd (f_X5_find x0 x1 (-1 : Int32) σ) fun r5 s4 => ck (inb v1 (aL (gR σ x0 7))) (lB (pL s4 (gR σ x0 7) v1.toNatClampNeg r5) fun s6 => ck (inb v1 (aL (gR s6 x0 8))) (ck (b01 (1 : Int32)) (lB (pI s6 (gR s6 x0 8) v1.toNatClampNeg (1 : Int32)) fun s8 => f_X5_inKey_L33 x0 v1 s8))) else f_X5_inKey_L33 x0 v1 σ))
theorem t_X5_inKey_L33 {K : Cx} (h : Ok K cX5_inKey RX5 3 rm_X5_inKey (some .long)) (hs : kiv K = St) (x0 : Nat) (x2 : Int32)  (σ : Sg)  (hk0 : kd x0 5)  : T K (QL K) 33 [(0, .ref x0), (2, .int x2)] [] 0 0 σ (f_X5_inKey_L33 x0 x2 σ) := by
  unfold f_X5_inKey_L33
  refine T_aload_n (pc := 33) h dX5_inKey_33 rfl 0 rfl ?_
  refine T_gR (pc := 34) h hs hk0 fl_X5_32 rfl fk_5_7 dX5_inKey_34 (fun hq1 => ?_)
  refine T_iload_n (pc := 37) h dX5_inKey_37 rfl 1 rfl ?_
  refine T_lald (pc := 38) h hs hq1 dX5_inKey_38 ?_
  exact T_lreturn (pc := 39) h (Nat.zero_le _) (Nat.zero_le _) dX5_inKey_39
theorem t_X5_inKey {K : Cx} (h : Ok K cX5_inKey RX5 3 rm_X5_inKey (some .long)) (hs : kiv K = St) (x0 : Nat) (x1 : Int32) (σ : Sg) (hk0 : kd x0 5) : T K (QL K) 0 [(0, .ref x0), (1, .int x1)] [] 0 0 σ (f_X5_inKey x0 x1 σ) := by
  unfold f_X5_inKey
  refine T_iload_n (pc := 0) h dX5_inKey_0 rfl 1 rfl ?_
  refine T_bipush (pc := 1) h dX5_inKey_1 kb_12 ?_
  refine T_iadd (pc := 3) h dX5_inKey_3 ?_
  refine T_letI fun v1 => ?_
  refine T_istore_n (lv' := [(2, .int v1), (0, .ref x0), (1, .int x1)]) (pc := 4) h dX5_inKey_4 rfl (by decide) rfl ?_
  refine T_aload_n (pc := 5) h dX5_inKey_5 rfl 1 rfl ?_
  refine T_gR (pc := 6) h hs hk0 fl_X5_36 rfl fk_5_8 dX5_inKey_6 (fun hq2 => ?_)
  refine T_iload_n (pc := 9) h dX5_inKey_9 rfl 0 rfl ?_
  refine T_zald (pc := 10) h hs hq2 dX5_inKey_10 ?_
  refine T_if_ne (pc := 11) (tgt := 33) h dX5_inKey_11 (by decide) ?_ ?_
  · refine T_sub [1, 0] rfl ?_
    exact t_X5_inKey_L33 h hs x0 v1 σ hk0
  · refine T_aload_n (pc := 14) h dX5_inKey_14 rfl 1 rfl ?_
    refine T_gR (pc := 15) h hs hk0 fl_X5_32 rfl fk_5_7 dX5_inKey_15 (fun hq3 => ?_)
    refine T_iload_n (pc := 18) h dX5_inKey_18 rfl 0 rfl ?_
    refine T_aload_n (pc := 19) h dX5_inKey_19 rfl 1 rfl ?_
    refine T_iload_n (pc := 20) h dX5_inKey_20 rfl 2 rfl ?_
    refine T_iconst (pc := 21) h dX5_inKey_21 ki_m1 ?_
    refine T_callVl (pc := 22) h (M_X5_find (kl K) hs x0 x1 (-1 : Int32) σ hk0) mv_X5_find hs hk0 ml_X5_58 rfl ⟨Nat.le_of_ble_eq_true rfl, Nat.le_of_ble_eq_true rfl⟩ ⟨Nat.le_refl 0, Nat.le_refl 0⟩ (Nat.le_of_ble_eq_true rfl) dX5_inKey_22 rfl (fun r5 s4 => ?_)
    refine T_last (pc := 25) h hs hq3 dX5_inKey_25 ?_
    refine T_letS fun s6 => ?_
    refine T_aload_n (pc := 26) h dX5_inKey_26 rfl 1 rfl ?_
    refine T_gR (pc := 27) h hs hk0 fl_X5_36 rfl fk_5_8 dX5_inKey_27 (fun hq7 => ?_)
    refine T_iload_n (pc := 30) h dX5_inKey_30 rfl 0 rfl ?_
    refine T_iconst (pc := 31) h dX5_inKey_31 ki_1 ?_
    refine T_zast (pc := 32) h hs hq7 dX5_inKey_32 ?_
    refine T_letS fun s8 => ?_
    refine T_sub [1, 0] rfl ?_
    exact t_X5_inKey_L33 h hs x0 v1 s8 hk0
theorem M_X5_inKey (l : Launch) {iv : Sg → Prop} (hi : iv = St) (x0 : Nat) (x1 : Int32) (σ : Sg) (hk0 : kd x0 5) : CTl l yX5_inKey cX5_inKey 3 (some .long) rm_X5_inKey iv [.ref x0, .int x1] σ (f_X5_inKey x0 x1 σ) := by
  subst hi
  exact CT_of (by decide) (Nat.le_of_ble_eq_true rfl) (fun K _ h _ hs _ _ => t_X5_inKey h hs x0 x1 σ hk0)
/-! LuteTabs$Search.costOf(J)I -/
theorem dX5_costOf_0 : decode cX5_costOf 0 = .ok (.lload_n 0, 1) := by decide +kernel
theorem dX5_costOf_1 : decode cX5_costOf 1 = .ok (.bipush 42, 2) := by decide +kernel
theorem dX5_costOf_3 : decode cX5_costOf 3 = .ok (.lshr, 1) := by decide +kernel
theorem dX5_costOf_4 : decode cX5_costOf 4 = .ok (.l2i, 1) := by decide +kernel
theorem dX5_costOf_5 : decode cX5_costOf 5 = .ok (.ireturn, 1) := by decide +kernel
abbrev rm_X5_costOf : Room := { frames := 0, cells := 0, slots := 0, locals := 0 }
def f_X5_costOf (x0 : Int64) (σ : Sg) : Option (Int32 × Sg) := some ((x0 >>> ((42 : Int32).toInt64 &&& 63)).toInt32, σ)
theorem t_X5_costOf {K : Cx} (h : Ok K cX5_costOf RX5 2 rm_X5_costOf (some .int)) (hs : kiv K = St) (x0 : Int64) (σ : Sg)  : T K (QI K) 0 [(0, .long x0)] [] 0 0 σ (f_X5_costOf x0 σ) := by
  unfold f_X5_costOf
  refine T_lload_n (pc := 0) h dX5_costOf_0 rfl 0 rfl ?_
  refine T_bipush (pc := 1) h dX5_costOf_1 kb_42 ?_
  refine T_lshr (pc := 3) h dX5_costOf_3 ?_
  refine T_l2i (pc := 4) h dX5_costOf_4 ?_
  exact T_ireturn (pc := 5) h (Nat.zero_le _) (Nat.zero_le _) dX5_costOf_5
theorem M_X5_costOf (l : Launch) {iv : Sg → Prop} (hi : iv = St) (x0 : Int64) (σ : Sg)  : CTi l yX5_costOf cX5_costOf 2 (some .int) rm_X5_costOf iv [.long x0] σ (f_X5_costOf x0 σ) := by
  subst hi
  exact CT_of (by decide) (Nat.le_of_ble_eq_true rfl) (fun K _ h _ hs _ _ => t_X5_costOf h hs x0 σ )
/-! LuteTabs$Search.faultOf(J)I -/
theorem dX5_faultOf_0 : decode cX5_faultOf 0 = .ok (.ldc2_w 56, 3) := by decide +kernel
theorem dX5_faultOf_3 : decode cX5_faultOf 3 = .ok (.lload_n 0, 1) := by decide +kernel
theorem dX5_faultOf_4 : decode cX5_faultOf 4 = .ok (.lsub, 1) := by decide +kernel
theorem dX5_faultOf_5 : decode cX5_faultOf 5 = .ok (.l2i, 1) := by decide +kernel
theorem dX5_faultOf_6 : decode cX5_faultOf 6 = .ok (.ireturn, 1) := by decide +kernel
abbrev rm_X5_faultOf : Room := { frames := 0, cells := 0, slots := 0, locals := 0 }
def f_X5_faultOf (x0 : Int64) (σ : Sg) : Option (Int32 × Sg) := some (((-1 : Int64) - x0).toInt32, σ)
theorem t_X5_faultOf {K : Cx} (h : Ok K cX5_faultOf RX5 2 rm_X5_faultOf (some .int)) (hs : kiv K = St) (x0 : Int64) (σ : Sg)  : T K (QI K) 0 [(0, .long x0)] [] 0 0 σ (f_X5_faultOf x0 σ) := by
  unfold f_X5_faultOf
  refine T_ldc2 (pc := 0) h kc_X5_56 dX5_faultOf_0 ?_
  refine T_lload_n (pc := 3) h dX5_faultOf_3 rfl 0 rfl ?_
  refine T_lsub (pc := 4) h dX5_faultOf_4 ?_
  refine T_l2i (pc := 5) h dX5_faultOf_5 ?_
  exact T_ireturn (pc := 6) h (Nat.zero_le _) (Nat.zero_le _) dX5_faultOf_6
theorem M_X5_faultOf (l : Launch) {iv : Sg → Prop} (hi : iv = St) (x0 : Int64) (σ : Sg)  : CTi l yX5_faultOf cX5_faultOf 2 (some .int) rm_X5_faultOf iv [.long x0] σ (f_X5_faultOf x0 σ) := by
  subst hi
  exact CT_of (by decide) (Nat.le_of_ble_eq_true rfl) (fun K _ h _ hs _ _ => t_X5_faultOf h hs x0 σ )
/-! LuteTabs$Search.withoutCourse(I)J -/
theorem dX5_withoutCourse_0 : decode cX5_withoutCourse 0 = .ok (.bipush 25, 2) := by decide +kernel
theorem dX5_withoutCourse_2 : decode cX5_withoutCourse 2 = .ok (.iload_n 1, 1) := by decide +kernel
theorem dX5_withoutCourse_3 : decode cX5_withoutCourse 3 = .ok (.iadd, 1) := by decide +kernel
theorem dX5_withoutCourse_4 : decode cX5_withoutCourse 4 = .ok (.istore_n 2, 1) := by decide +kernel
theorem dX5_withoutCourse_5 : decode cX5_withoutCourse 5 = .ok (.aload_n 0, 1) := by decide +kernel
theorem dX5_withoutCourse_6 : decode cX5_withoutCourse 6 = .ok (.getfield 36, 3) := by decide +kernel
theorem dX5_withoutCourse_9 : decode cX5_withoutCourse 9 = .ok (.iload_n 2, 1) := by decide +kernel
theorem dX5_withoutCourse_10 : decode cX5_withoutCourse 10 = .ok (.baload, 1) := by decide +kernel
theorem dX5_withoutCourse_11 : decode cX5_withoutCourse 11 = .ok (.ifCond .ne 22, 3) := by decide +kernel
theorem dX5_withoutCourse_14 : decode cX5_withoutCourse 14 = .ok (.aload_n 0, 1) := by decide +kernel
theorem dX5_withoutCourse_15 : decode cX5_withoutCourse 15 = .ok (.getfield 32, 3) := by decide +kernel
theorem dX5_withoutCourse_18 : decode cX5_withoutCourse 18 = .ok (.iload_n 2, 1) := by decide +kernel
theorem dX5_withoutCourse_19 : decode cX5_withoutCourse 19 = .ok (.aload_n 0, 1) := by decide +kernel
theorem dX5_withoutCourse_20 : decode cX5_withoutCourse 20 = .ok (.iconst 0, 1) := by decide +kernel
theorem dX5_withoutCourse_21 : decode cX5_withoutCourse 21 = .ok (.iload_n 1, 1) := by decide +kernel
theorem dX5_withoutCourse_22 : decode cX5_withoutCourse 22 = .ok (.invokevirtual 58, 3) := by decide +kernel
theorem dX5_withoutCourse_25 : decode cX5_withoutCourse 25 = .ok (.lastore, 1) := by decide +kernel
theorem dX5_withoutCourse_26 : decode cX5_withoutCourse 26 = .ok (.aload_n 0, 1) := by decide +kernel
theorem dX5_withoutCourse_27 : decode cX5_withoutCourse 27 = .ok (.getfield 36, 3) := by decide +kernel
theorem dX5_withoutCourse_30 : decode cX5_withoutCourse 30 = .ok (.iload_n 2, 1) := by decide +kernel
theorem dX5_withoutCourse_31 : decode cX5_withoutCourse 31 = .ok (.iconst 1, 1) := by decide +kernel
theorem dX5_withoutCourse_32 : decode cX5_withoutCourse 32 = .ok (.bastore, 1) := by decide +kernel
theorem dX5_withoutCourse_33 : decode cX5_withoutCourse 33 = .ok (.aload_n 0, 1) := by decide +kernel
theorem dX5_withoutCourse_34 : decode cX5_withoutCourse 34 = .ok (.getfield 32, 3) := by decide +kernel
theorem dX5_withoutCourse_37 : decode cX5_withoutCourse 37 = .ok (.iload_n 2, 1) := by decide +kernel
theorem dX5_withoutCourse_38 : decode cX5_withoutCourse 38 = .ok (.laload, 1) := by decide +kernel
theorem dX5_withoutCourse_39 : decode cX5_withoutCourse 39 = .ok (.lreturn, 1) := by decide +kernel
abbrev rm_X5_withoutCourse : Room := { frames := 5, cells := 0, slots := 0, locals := 131 }
def f_X5_withoutCourse_L33  (x0 : Nat) (x2 : Int32)  (σ : Sg) : Option (Int64 × Sg) := ck (inb x2 (aL (gR σ x0 7))) (some ((gL σ (gR σ x0 7) x2.toNatClampNeg), σ))
def f_X5_withoutCourse (x0 : Nat) (x1 : Int32) (σ : Sg) : Option (Int64 × Sg) := lB (((25 : Int32) + x1)) fun v1 => ck (inb v1 (aL (gR σ x0 8))) ((if (gI σ (gR σ x0 8) v1.toNatClampNeg) = 0 then bd (f_X5_find x0 (0 : Int32) x1 σ) fun r5 s4 => ck (inb v1 (aL (gR σ x0 7))) (lB (pL s4 (gR σ x0 7) v1.toNatClampNeg r5) fun s6 => ck (inb v1 (aL (gR s6 x0 8))) (ck (b01 (1 : Int32)) (lB (pI s6 (gR s6 x0 8) v1.toNatClampNeg (1 : Int32)) fun s8 => f_X5_withoutCourse_L33 x0 v1 s8))) else f_X5_withoutCourse_L33 x0 v1 σ))
theorem t_X5_withoutCourse_L33 {K : Cx} (h : Ok K cX5_withoutCourse RX5 3 rm_X5_withoutCourse (some .long)) (hs : kiv K = St) (x0 : Nat) (x2 : Int32)  (σ : Sg)  (hk0 : kd x0 5)  : T K (QL K) 33 [(0, .ref x0), (2, .int x2)] [] 0 0 σ (f_X5_withoutCourse_L33 x0 x2 σ) := by
  unfold f_X5_withoutCourse_L33
  refine T_aload_n (pc := 33) h dX5_withoutCourse_33 rfl 0 rfl ?_
  refine T_gR (pc := 34) h hs hk0 fl_X5_32 rfl fk_5_7 dX5_withoutCourse_34 (fun hq1 => ?_)
  refine T_iload_n (pc := 37) h dX5_withoutCourse_37 rfl 1 rfl ?_
  refine T_lald (pc := 38) h hs hq1 dX5_withoutCourse_38 ?_
  exact T_lreturn (pc := 39) h (Nat.zero_le _) (Nat.zero_le _) dX5_withoutCourse_39
theorem t_X5_withoutCourse {K : Cx} (h : Ok K cX5_withoutCourse RX5 3 rm_X5_withoutCourse (some .long)) (hs : kiv K = St) (x0 : Nat) (x1 : Int32) (σ : Sg) (hk0 : kd x0 5) : T K (QL K) 0 [(0, .ref x0), (1, .int x1)] [] 0 0 σ (f_X5_withoutCourse x0 x1 σ) := by
  unfold f_X5_withoutCourse
  refine T_bipush (pc := 0) h dX5_withoutCourse_0 kb_25 ?_
  refine T_iload_n (pc := 2) h dX5_withoutCourse_2 rfl 1 rfl ?_
  refine T_iadd (pc := 3) h dX5_withoutCourse_3 ?_
  refine T_letI fun v1 => ?_
  refine T_istore_n (lv' := [(2, .int v1), (0, .ref x0), (1, .int x1)]) (pc := 4) h dX5_withoutCourse_4 rfl (by decide) rfl ?_
  refine T_aload_n (pc := 5) h dX5_withoutCourse_5 rfl 1 rfl ?_
  refine T_gR (pc := 6) h hs hk0 fl_X5_36 rfl fk_5_8 dX5_withoutCourse_6 (fun hq2 => ?_)
  refine T_iload_n (pc := 9) h dX5_withoutCourse_9 rfl 0 rfl ?_
  refine T_zald (pc := 10) h hs hq2 dX5_withoutCourse_10 ?_
  refine T_if_ne (pc := 11) (tgt := 33) h dX5_withoutCourse_11 (by decide) ?_ ?_
  · refine T_sub [1, 0] rfl ?_
    exact t_X5_withoutCourse_L33 h hs x0 v1 σ hk0
  · refine T_aload_n (pc := 14) h dX5_withoutCourse_14 rfl 1 rfl ?_
    refine T_gR (pc := 15) h hs hk0 fl_X5_32 rfl fk_5_7 dX5_withoutCourse_15 (fun hq3 => ?_)
    refine T_iload_n (pc := 18) h dX5_withoutCourse_18 rfl 0 rfl ?_
    refine T_aload_n (pc := 19) h dX5_withoutCourse_19 rfl 1 rfl ?_
    refine T_iconst (pc := 20) h dX5_withoutCourse_20 ki_0 ?_
    refine T_iload_n (pc := 21) h dX5_withoutCourse_21 rfl 2 rfl ?_
    refine T_callVl (pc := 22) h (M_X5_find (kl K) hs x0 (0 : Int32) x1 σ hk0) mv_X5_find hs hk0 ml_X5_58 rfl ⟨Nat.le_of_ble_eq_true rfl, Nat.le_of_ble_eq_true rfl⟩ ⟨Nat.le_refl 0, Nat.le_refl 0⟩ (Nat.le_of_ble_eq_true rfl) dX5_withoutCourse_22 rfl (fun r5 s4 => ?_)
    refine T_last (pc := 25) h hs hq3 dX5_withoutCourse_25 ?_
    refine T_letS fun s6 => ?_
    refine T_aload_n (pc := 26) h dX5_withoutCourse_26 rfl 1 rfl ?_
    refine T_gR (pc := 27) h hs hk0 fl_X5_36 rfl fk_5_8 dX5_withoutCourse_27 (fun hq7 => ?_)
    refine T_iload_n (pc := 30) h dX5_withoutCourse_30 rfl 0 rfl ?_
    refine T_iconst (pc := 31) h dX5_withoutCourse_31 ki_1 ?_
    refine T_zast (pc := 32) h hs hq7 dX5_withoutCourse_32 ?_
    refine T_letS fun s8 => ?_
    refine T_sub [1, 0] rfl ?_
    exact t_X5_withoutCourse_L33 h hs x0 v1 s8 hk0
theorem M_X5_withoutCourse (l : Launch) {iv : Sg → Prop} (hi : iv = St) (x0 : Nat) (x1 : Int32) (σ : Sg) (hk0 : kd x0 5) : CTl l yX5_withoutCourse cX5_withoutCourse 3 (some .long) rm_X5_withoutCourse iv [.ref x0, .int x1] σ (f_X5_withoutCourse x0 x1 σ) := by
  subst hi
  exact CT_of (by decide) (Nat.le_of_ble_eq_true rfl) (fun K _ h _ hs _ _ => t_X5_withoutCourse h hs x0 x1 σ hk0)
/-! LuteTabs$Reader.endChord()V -/
theorem dX3_endChord_0 : decode cX3_endChord 0 = .ok (.aload_n 0, 1) := by decide +kernel
theorem dX3_endChord_1 : decode cX3_endChord 1 = .ok (.aload_n 0, 1) := by decide +kernel
theorem dX3_endChord_2 : decode cX3_endChord 2 = .ok (.getfield 33, 3) := by decide +kernel
theorem dX3_endChord_5 : decode cX3_endChord 5 = .ok (.putfield 54, 3) := by decide +kernel
theorem dX3_endChord_8 : decode cX3_endChord 8 = .ok (.aload_n 0, 1) := by decide +kernel
theorem dX3_endChord_9 : decode cX3_endChord 9 = .ok (.iconst (-1), 1) := by decide +kernel
theorem dX3_endChord_10 : decode cX3_endChord 10 = .ok (.putfield 33, 3) := by decide +kernel
theorem dX3_endChord_13 : decode cX3_endChord 13 = .ok (.aload_n 0, 1) := by decide +kernel
theorem dX3_endChord_14 : decode cX3_endChord 14 = .ok (.iconst (-1), 1) := by decide +kernel
theorem dX3_endChord_15 : decode cX3_endChord 15 = .ok (.putfield 51, 3) := by decide +kernel
theorem dX3_endChord_18 : decode cX3_endChord 18 = .ok (.aload_n 0, 1) := by decide +kernel
theorem dX3_endChord_19 : decode cX3_endChord 19 = .ok (.iconst 0, 1) := by decide +kernel
theorem dX3_endChord_20 : decode cX3_endChord 20 = .ok (.putfield 57, 3) := by decide +kernel
theorem dX3_endChord_23 : decode cX3_endChord 23 = .ok (.return_, 1) := by decide +kernel
abbrev rm_X3_endChord : Room := { frames := 0, cells := 0, slots := 0, locals := 0 }
def f_X3_endChord (x0 : Nat) (σ : Sg) : Option (Unit × Sg) := lB (pI σ x0 5 (gI σ x0 6)) fun s1 => lB (pI s1 x0 6 (-1 : Int32)) fun s2 => lB (pI s2 x0 7 (-1 : Int32)) fun s3 => lB (pI s3 x0 8 (0 : Int32)) fun s4 => some ((), s4)
theorem t_X3_endChord {K : Cx} (h : Ok K cX3_endChord RX3 1 rm_X3_endChord none) (hs : kiv K = St) (x0 : Nat) (σ : Sg) (hk0 : kd x0 3) : T K (QV K) 0 [(0, .ref x0)] [] 0 0 σ (f_X3_endChord x0 σ) := by
  unfold f_X3_endChord
  refine T_aload_n (pc := 0) h dX3_endChord_0 rfl 0 rfl ?_
  refine T_aload_n (pc := 1) h dX3_endChord_1 rfl 0 rfl ?_
  refine T_getI (pc := 2) h hs hk0 fl_X3_33 rfl dX3_endChord_2 ?_
  refine T_putI (pc := 5) h hs hk0 fl_X3_54 rfl rfl dX3_endChord_5 ?_
  refine T_letS fun s1 => ?_
  refine T_aload_n (pc := 8) h dX3_endChord_8 rfl 0 rfl ?_
  refine T_iconst (pc := 9) h dX3_endChord_9 ki_m1 ?_
  refine T_putI (pc := 10) h hs hk0 fl_X3_33 rfl rfl dX3_endChord_10 ?_
  refine T_letS fun s2 => ?_
  refine T_aload_n (pc := 13) h dX3_endChord_13 rfl 0 rfl ?_
  refine T_iconst (pc := 14) h dX3_endChord_14 ki_m1 ?_
  refine T_putI (pc := 15) h hs hk0 fl_X3_51 rfl rfl dX3_endChord_15 ?_
  refine T_letS fun s3 => ?_
  refine T_aload_n (pc := 18) h dX3_endChord_18 rfl 0 rfl ?_
  refine T_iconst (pc := 19) h dX3_endChord_19 ki_0 ?_
  refine T_putI (pc := 20) h hs hk0 fl_X3_57 rfl rfl dX3_endChord_20 ?_
  refine T_letS fun s4 => ?_
  exact T_return (pc := 23) h (Nat.zero_le _) (Nat.zero_le _) dX3_endChord_23
theorem M_X3_endChord (l : Launch) {iv : Sg → Prop} (hi : iv = St) (x0 : Nat) (σ : Sg) (hk0 : kd x0 3) : CTv l yX3_endChord cX3_endChord 1 none rm_X3_endChord iv [.ref x0] σ (f_X3_endChord x0 σ) := by
  subst hi
  exact CT_of (by decide) (Nat.le_of_ble_eq_true rfl) (fun K _ h _ hs _ _ => t_X3_endChord h hs x0 σ hk0)
/-! LuteTabs$Reader.takesColon()Z -/
theorem dX3_takesColon_0 : decode cX3_takesColon 0 = .ok (.aload_n 0, 1) := by decide +kernel
theorem dX3_takesColon_1 : decode cX3_takesColon 1 = .ok (.getfield 33, 3) := by decide +kernel
theorem dX3_takesColon_4 : decode cX3_takesColon 4 = .ok (.aload_n 0, 1) := by decide +kernel
theorem dX3_takesColon_5 : decode cX3_takesColon 5 = .ok (.getfield 54, 3) := by decide +kernel
theorem dX3_takesColon_8 : decode cX3_takesColon 8 = .ok (.if_icmp .gt 5, 3) := by decide +kernel
theorem dX3_takesColon_11 : decode cX3_takesColon 11 = .ok (.iconst 0, 1) := by decide +kernel
theorem dX3_takesColon_12 : decode cX3_takesColon 12 = .ok (.ireturn, 1) := by decide +kernel
theorem dX3_takesColon_13 : decode cX3_takesColon 13 = .ok (.aload_n 0, 1) := by decide +kernel
theorem dX3_takesColon_14 : decode cX3_takesColon 14 = .ok (.iconst 0, 1) := by decide +kernel
theorem dX3_takesColon_15 : decode cX3_takesColon 15 = .ok (.putfield 51, 3) := by decide +kernel
theorem dX3_takesColon_18 : decode cX3_takesColon 18 = .ok (.iconst 1, 1) := by decide +kernel
theorem dX3_takesColon_19 : decode cX3_takesColon 19 = .ok (.ireturn, 1) := by decide +kernel
abbrev rm_X3_takesColon : Room := { frames := 0, cells := 0, slots := 0, locals := 0 }
def f_X3_takesColon (x0 : Nat) (σ : Sg) : Option (Int32 × Sg) := (if (gI σ x0 5) < (gI σ x0 6) then lB (pI σ x0 7 (0 : Int32)) fun s1 => ck (b01 (1 : Int32)) (some ((1 : Int32), s1)) else ck (b01 (0 : Int32)) (some ((0 : Int32), σ)))
theorem t_X3_takesColon {K : Cx} (h : Ok K cX3_takesColon RX3 1 rm_X3_takesColon (some .boolean)) (hs : kiv K = St) (x0 : Nat) (σ : Sg) (hk0 : kd x0 3) : T K (QI K) 0 [(0, .ref x0)] [] 0 0 σ (f_X3_takesColon x0 σ) := by
  unfold f_X3_takesColon
  refine T_aload_n (pc := 0) h dX3_takesColon_0 rfl 0 rfl ?_
  refine T_getI (pc := 1) h hs hk0 fl_X3_33 rfl dX3_takesColon_1 ?_
  refine T_aload_n (pc := 4) h dX3_takesColon_4 rfl 0 rfl ?_
  refine T_getI (pc := 5) h hs hk0 fl_X3_54 rfl dX3_takesColon_5 ?_
  refine T_icmp_gt (pc := 8) (tgt := 13) h dX3_takesColon_8 (by decide) ?_ ?_
  · refine T_aload_n (pc := 13) h dX3_takesColon_13 rfl 0 rfl ?_
    refine T_iconst (pc := 14) h dX3_takesColon_14 ki_0 ?_
    refine T_putI (pc := 15) h hs hk0 fl_X3_51 rfl rfl dX3_takesColon_15 ?_
    refine T_letS fun s1 => ?_
    refine T_iconst (pc := 18) h dX3_takesColon_18 ki_1 ?_
    exact T_zreturn (pc := 19) h (Nat.zero_le _) (Nat.zero_le _) dX3_takesColon_19
  · refine T_iconst (pc := 11) h dX3_takesColon_11 ki_0 ?_
    exact T_zreturn (pc := 12) h (Nat.zero_le _) (Nat.zero_le _) dX3_takesColon_12
theorem M_X3_takesColon (l : Launch) {iv : Sg → Prop} (hi : iv = St) (x0 : Nat) (σ : Sg) (hk0 : kd x0 3) : CTi l yX3_takesColon cX3_takesColon 1 (some .boolean) rm_X3_takesColon iv [.ref x0] σ (f_X3_takesColon x0 σ) := by
  subst hi
  exact CT_of (by decide) (Nat.le_of_ble_eq_true rfl) (fun K _ h _ hs _ _ => t_X3_takesColon h hs x0 σ hk0)
/-! LuteTabs$Reader.reachesPast(II)Z -/
theorem dX3_reachesPast_0 : decode cX3_reachesPast 0 = .ok (.iload_n 1, 1) := by decide +kernel
theorem dX3_reachesPast_1 : decode cX3_reachesPast 1 = .ok (.sipush 199, 3) := by decide +kernel
theorem dX3_reachesPast_4 : decode cX3_reachesPast 4 = .ok (.if_icmp .gt 23, 3) := by decide +kernel
theorem dX3_reachesPast_7 : decode cX3_reachesPast 7 = .ok (.iload_n 1, 1) := by decide +kernel
theorem dX3_reachesPast_8 : decode cX3_reachesPast 8 = .ok (.iload_n 2, 1) := by decide +kernel
theorem dX3_reachesPast_9 : decode cX3_reachesPast 9 = .ok (.iadd, 1) := by decide +kernel
theorem dX3_reachesPast_10 : decode cX3_reachesPast 10 = .ok (.sipush 199, 3) := by decide +kernel
theorem dX3_reachesPast_13 : decode cX3_reachesPast 13 = .ok (.invokestatic 81, 3) := by decide +kernel
theorem dX3_reachesPast_16 : decode cX3_reachesPast 16 = .ok (.aload_n 0, 1) := by decide +kernel
theorem dX3_reachesPast_17 : decode cX3_reachesPast 17 = .ok (.getfield 54, 3) := by decide +kernel
theorem dX3_reachesPast_20 : decode cX3_reachesPast 20 = .ok (.if_icmp .le 7, 3) := by decide +kernel
theorem dX3_reachesPast_23 : decode cX3_reachesPast 23 = .ok (.iconst 1, 1) := by decide +kernel
theorem dX3_reachesPast_24 : decode cX3_reachesPast 24 = .ok (.goto 4, 3) := by decide +kernel
theorem dX3_reachesPast_27 : decode cX3_reachesPast 27 = .ok (.iconst 0, 1) := by decide +kernel
theorem dX3_reachesPast_28 : decode cX3_reachesPast 28 = .ok (.ireturn, 1) := by decide +kernel
abbrev rm_X3_reachesPast : Room := { frames := 1, cells := 0, slots := 0, locals := 23 }
def f_X3_reachesPast_L28   (y0 : Int32) (σ : Sg) : Option (Int32 × Sg) := ck (b01 y0) (some (y0, σ))
def f_X3_reachesPast_L27    (σ : Sg) : Option (Int32 × Sg) := f_X3_reachesPast_L28 (0 : Int32) σ
def f_X3_reachesPast (x0 : Nat) (x1 : Int32) (x2 : Int32) (σ : Sg) : Option (Int32 × Sg) := (if (199 : Int32) < x1 then f_X3_reachesPast_L27 σ else (if (mnI (x1 + x2) (199 : Int32)) ≤ (gI σ x0 5) then f_X3_reachesPast_L27 σ else f_X3_reachesPast_L28 (1 : Int32) σ))
theorem t_X3_reachesPast_L28 {K : Cx} (h : Ok K cX3_reachesPast RX3 3 rm_X3_reachesPast (some .boolean)) (hs : kiv K = St)  (y0 : Int32) (σ : Sg)    : T K (QI K) 28 [] [.int y0] 0 0 σ (f_X3_reachesPast_L28 y0 σ) := by
  unfold f_X3_reachesPast_L28
  exact T_zreturn (pc := 28) h (Nat.zero_le _) (Nat.zero_le _) dX3_reachesPast_28
theorem t_X3_reachesPast_L27 {K : Cx} (h : Ok K cX3_reachesPast RX3 3 rm_X3_reachesPast (some .boolean)) (hs : kiv K = St)   (σ : Sg)    : T K (QI K) 27 [] [] 0 0 σ (f_X3_reachesPast_L27 σ) := by
  unfold f_X3_reachesPast_L27
  refine T_iconst (pc := 27) h dX3_reachesPast_27 ki_0 ?_
  refine T_sub [] rfl ?_
  exact t_X3_reachesPast_L28 h hs (0 : Int32) σ
theorem t_X3_reachesPast {K : Cx} (h : Ok K cX3_reachesPast RX3 3 rm_X3_reachesPast (some .boolean)) (hs : kiv K = St) (x0 : Nat) (x1 : Int32) (x2 : Int32) (σ : Sg) (hk0 : kd x0 3) : T K (QI K) 0 [(0, .ref x0), (1, .int x1), (2, .int x2)] [] 0 0 σ (f_X3_reachesPast x0 x1 x2 σ) := by
  unfold f_X3_reachesPast
  refine T_iload_n (pc := 0) h dX3_reachesPast_0 rfl 1 rfl ?_
  refine T_sipush (pc := 1) h dX3_reachesPast_1 ks_199 ?_
  refine T_icmp_gt (pc := 4) (tgt := 27) h dX3_reachesPast_4 (by decide) ?_ ?_
  · refine T_sub [] rfl ?_
    exact t_X3_reachesPast_L27 h hs σ
  · refine T_iload_n (pc := 7) h dX3_reachesPast_7 rfl 1 rfl ?_
    refine T_iload_n (pc := 8) h dX3_reachesPast_8 rfl 2 rfl ?_
    refine T_iadd (pc := 9) h dX3_reachesPast_9 ?_
    refine T_sipush (pc := 10) h dX3_reachesPast_10 ks_199 ?_
    refine T_mmin (pc := 13) h ml_X3_81 mm_min_s mm_i mm_min_c ⟨Nat.le_of_ble_eq_true rfl, Nat.le_of_ble_eq_true rfl⟩ ⟨Nat.zero_le _, Nat.zero_le _⟩ (Nat.le_of_ble_eq_true rfl) dX3_reachesPast_13 ?_
    refine T_aload_n (pc := 16) h dX3_reachesPast_16 rfl 0 rfl ?_
    refine T_getI (pc := 17) h hs hk0 fl_X3_54 rfl dX3_reachesPast_17 ?_
    refine T_icmp_le (pc := 20) (tgt := 27) h dX3_reachesPast_20 (by decide) ?_ ?_
    · refine T_sub [] rfl ?_
      exact t_X3_reachesPast_L27 h hs σ
    · refine T_iconst (pc := 23) h dX3_reachesPast_23 ki_1 ?_
      refine T_goto (pc := 24) (tgt := 28) h dX3_reachesPast_24 (by decide) ?_
      refine T_sub [] rfl ?_
      exact t_X3_reachesPast_L28 h hs (1 : Int32) σ
theorem M_X3_reachesPast (l : Launch) {iv : Sg → Prop} (hi : iv = St) (x0 : Nat) (x1 : Int32) (x2 : Int32) (σ : Sg) (hk0 : kd x0 3) : CTi l yX3_reachesPast cX3_reachesPast 3 (some .boolean) rm_X3_reachesPast iv [.ref x0, .int x1, .int x2] σ (f_X3_reachesPast x0 x1 x2 σ) := by
  subst hi
  exact CT_of (by decide) (Nat.le_of_ble_eq_true rfl) (fun K _ h _ hs _ _ => t_X3_reachesPast h hs x0 x1 x2 σ hk0)
/-! LuteTabs$Reader.mayBecomeTime(I)Z -/
theorem dX3_mayBecomeTime_0 : decode cX3_mayBecomeTime 0 = .ok (.iload_n 1, 1) := by decide +kernel
theorem dX3_mayBecomeTime_1 : decode cX3_mayBecomeTime 1 = .ok (.sipush 199, 3) := by decide +kernel
theorem dX3_mayBecomeTime_4 : decode cX3_mayBecomeTime 4 = .ok (.if_icmp .le 5, 3) := by decide +kernel
theorem dX3_mayBecomeTime_7 : decode cX3_mayBecomeTime 7 = .ok (.iconst 0, 1) := by decide +kernel
theorem dX3_mayBecomeTime_8 : decode cX3_mayBecomeTime 8 = .ok (.ireturn, 1) := by decide +kernel
theorem dX3_mayBecomeTime_9 : decode cX3_mayBecomeTime 9 = .ok (.iload_n 1, 1) := by decide +kernel
theorem dX3_mayBecomeTime_10 : decode cX3_mayBecomeTime 10 = .ok (.ifCond .eq 11, 3) := by decide +kernel
theorem dX3_mayBecomeTime_13 : decode cX3_mayBecomeTime 13 = .ok (.iload_n 1, 1) := by decide +kernel
theorem dX3_mayBecomeTime_14 : decode cX3_mayBecomeTime 14 = .ok (.aload_n 0, 1) := by decide +kernel
theorem dX3_mayBecomeTime_15 : decode cX3_mayBecomeTime 15 = .ok (.getfield 54, 3) := by decide +kernel
theorem dX3_mayBecomeTime_18 : decode cX3_mayBecomeTime 18 = .ok (.if_icmp .le 17, 3) := by decide +kernel
theorem dX3_mayBecomeTime_21 : decode cX3_mayBecomeTime 21 = .ok (.iload_n 1, 1) := by decide +kernel
theorem dX3_mayBecomeTime_22 : decode cX3_mayBecomeTime 22 = .ok (.aload_n 0, 1) := by decide +kernel
theorem dX3_mayBecomeTime_23 : decode cX3_mayBecomeTime 23 = .ok (.getfield 54, 3) := by decide +kernel
theorem dX3_mayBecomeTime_26 : decode cX3_mayBecomeTime 26 = .ok (.if_icmp .le 7, 3) := by decide +kernel
theorem dX3_mayBecomeTime_29 : decode cX3_mayBecomeTime 29 = .ok (.iconst 1, 1) := by decide +kernel
theorem dX3_mayBecomeTime_30 : decode cX3_mayBecomeTime 30 = .ok (.goto 4, 3) := by decide +kernel
theorem dX3_mayBecomeTime_33 : decode cX3_mayBecomeTime 33 = .ok (.iconst 0, 1) := by decide +kernel
theorem dX3_mayBecomeTime_34 : decode cX3_mayBecomeTime 34 = .ok (.ireturn, 1) := by decide +kernel
theorem dX3_mayBecomeTime_35 : decode cX3_mayBecomeTime 35 = .ok (.aload_n 0, 1) := by decide +kernel
theorem dX3_mayBecomeTime_36 : decode cX3_mayBecomeTime 36 = .ok (.bipush 10, 2) := by decide +kernel
theorem dX3_mayBecomeTime_38 : decode cX3_mayBecomeTime 38 = .ok (.iload_n 1, 1) := by decide +kernel
theorem dX3_mayBecomeTime_39 : decode cX3_mayBecomeTime 39 = .ok (.imul, 1) := by decide +kernel
theorem dX3_mayBecomeTime_40 : decode cX3_mayBecomeTime 40 = .ok (.bipush 9, 2) := by decide +kernel
theorem dX3_mayBecomeTime_42 : decode cX3_mayBecomeTime 42 = .ok (.invokevirtual 77, 3) := by decide +kernel
theorem dX3_mayBecomeTime_45 : decode cX3_mayBecomeTime 45 = .ok (.ifCond .ne 16, 3) := by decide +kernel
theorem dX3_mayBecomeTime_48 : decode cX3_mayBecomeTime 48 = .ok (.aload_n 0, 1) := by decide +kernel
theorem dX3_mayBecomeTime_49 : decode cX3_mayBecomeTime 49 = .ok (.bipush 100, 2) := by decide +kernel
theorem dX3_mayBecomeTime_51 : decode cX3_mayBecomeTime 51 = .ok (.iload_n 1, 1) := by decide +kernel
theorem dX3_mayBecomeTime_52 : decode cX3_mayBecomeTime 52 = .ok (.imul, 1) := by decide +kernel
theorem dX3_mayBecomeTime_53 : decode cX3_mayBecomeTime 53 = .ok (.bipush 99, 2) := by decide +kernel
theorem dX3_mayBecomeTime_55 : decode cX3_mayBecomeTime 55 = .ok (.invokevirtual 77, 3) := by decide +kernel
theorem dX3_mayBecomeTime_58 : decode cX3_mayBecomeTime 58 = .ok (.ifCond .eq 7, 3) := by decide +kernel
theorem dX3_mayBecomeTime_61 : decode cX3_mayBecomeTime 61 = .ok (.iconst 1, 1) := by decide +kernel
theorem dX3_mayBecomeTime_62 : decode cX3_mayBecomeTime 62 = .ok (.goto 4, 3) := by decide +kernel
theorem dX3_mayBecomeTime_65 : decode cX3_mayBecomeTime 65 = .ok (.iconst 0, 1) := by decide +kernel
theorem dX3_mayBecomeTime_66 : decode cX3_mayBecomeTime 66 = .ok (.ireturn, 1) := by decide +kernel
abbrev rm_X3_mayBecomeTime : Room := { frames := 2, cells := 0, slots := 0, locals := 45 }
def f_X3_mayBecomeTime_L34   (y0 : Int32) (σ : Sg) : Option (Int32 × Sg) := ck (b01 y0) (some (y0, σ))
def f_X3_mayBecomeTime_L21  (x0 : Nat) (x1 : Int32)  (σ : Sg) : Option (Int32 × Sg) := (if x1 ≤ (gI σ x0 5) then f_X3_mayBecomeTime_L34 (0 : Int32) σ else f_X3_mayBecomeTime_L34 (1 : Int32) σ)
def f_X3_mayBecomeTime_L66   (y0 : Int32) (σ : Sg) : Option (Int32 × Sg) := ck (b01 y0) (some (y0, σ))
def f_X3_mayBecomeTime_L61    (σ : Sg) : Option (Int32 × Sg) := f_X3_mayBecomeTime_L66 (1 : Int32) σ
def f_X3_mayBecomeTime (x0 : Nat) (x1 : Int32) (σ : Sg) : Option (Int32 × Sg) := (if x1 ≤ (199 : Int32) then (if x1 = 0 then f_X3_mayBecomeTime_L21 x0 x1 σ else (if x1 ≤ (gI σ x0 5) then bd (f_X3_reachesPast x0 ((10 : Int32) * x1) (9 : Int32) σ) fun r2 s1 => (if r2 = 0 then bd (f_X3_reachesPast x0 ((100 : Int32) * x1) (99 : Int32) s1) fun r4 s3 => (if r4 = 0 then f_X3_mayBecomeTime_L66 (0 : Int32) s3 else f_X3_mayBecomeTime_L61 s3) else f_X3_mayBecomeTime_L61 s1) else f_X3_mayBecomeTime_L21 x0 x1 σ)) else ck (b01 (0 : Int32)) (some ((0 : Int32), σ)))
theorem t_X3_mayBecomeTime_L34 {K : Cx} (h : Ok K cX3_mayBecomeTime RX3 2 rm_X3_mayBecomeTime (some .boolean)) (hs : kiv K = St)  (y0 : Int32) (σ : Sg)    : T K (QI K) 34 [] [.int y0] 0 0 σ (f_X3_mayBecomeTime_L34 y0 σ) := by
  unfold f_X3_mayBecomeTime_L34
  exact T_zreturn (pc := 34) h (Nat.zero_le _) (Nat.zero_le _) dX3_mayBecomeTime_34
theorem t_X3_mayBecomeTime_L21 {K : Cx} (h : Ok K cX3_mayBecomeTime RX3 2 rm_X3_mayBecomeTime (some .boolean)) (hs : kiv K = St) (x0 : Nat) (x1 : Int32)  (σ : Sg)  (hk0 : kd x0 3)  : T K (QI K) 21 [(0, .ref x0), (1, .int x1)] [] 0 0 σ (f_X3_mayBecomeTime_L21 x0 x1 σ) := by
  unfold f_X3_mayBecomeTime_L21
  refine T_iload_n (pc := 21) h dX3_mayBecomeTime_21 rfl 1 rfl ?_
  refine T_aload_n (pc := 22) h dX3_mayBecomeTime_22 rfl 0 rfl ?_
  refine T_getI (pc := 23) h hs hk0 fl_X3_54 rfl dX3_mayBecomeTime_23 ?_
  refine T_icmp_le (pc := 26) (tgt := 33) h dX3_mayBecomeTime_26 (by decide) ?_ ?_
  · refine T_iconst (pc := 33) h dX3_mayBecomeTime_33 ki_0 ?_
    refine T_sub [] rfl ?_
    exact t_X3_mayBecomeTime_L34 h hs (0 : Int32) σ
  · refine T_iconst (pc := 29) h dX3_mayBecomeTime_29 ki_1 ?_
    refine T_goto (pc := 30) (tgt := 34) h dX3_mayBecomeTime_30 (by decide) ?_
    refine T_sub [] rfl ?_
    exact t_X3_mayBecomeTime_L34 h hs (1 : Int32) σ
theorem t_X3_mayBecomeTime_L66 {K : Cx} (h : Ok K cX3_mayBecomeTime RX3 2 rm_X3_mayBecomeTime (some .boolean)) (hs : kiv K = St)  (y0 : Int32) (σ : Sg)    : T K (QI K) 66 [] [.int y0] 0 0 σ (f_X3_mayBecomeTime_L66 y0 σ) := by
  unfold f_X3_mayBecomeTime_L66
  exact T_zreturn (pc := 66) h (Nat.zero_le _) (Nat.zero_le _) dX3_mayBecomeTime_66
theorem t_X3_mayBecomeTime_L61 {K : Cx} (h : Ok K cX3_mayBecomeTime RX3 2 rm_X3_mayBecomeTime (some .boolean)) (hs : kiv K = St)   (σ : Sg)    : T K (QI K) 61 [] [] 0 0 σ (f_X3_mayBecomeTime_L61 σ) := by
  unfold f_X3_mayBecomeTime_L61
  refine T_iconst (pc := 61) h dX3_mayBecomeTime_61 ki_1 ?_
  refine T_goto (pc := 62) (tgt := 66) h dX3_mayBecomeTime_62 (by decide) ?_
  refine T_sub [] rfl ?_
  exact t_X3_mayBecomeTime_L66 h hs (1 : Int32) σ
theorem t_X3_mayBecomeTime {K : Cx} (h : Ok K cX3_mayBecomeTime RX3 2 rm_X3_mayBecomeTime (some .boolean)) (hs : kiv K = St) (x0 : Nat) (x1 : Int32) (σ : Sg) (hk0 : kd x0 3) : T K (QI K) 0 [(0, .ref x0), (1, .int x1)] [] 0 0 σ (f_X3_mayBecomeTime x0 x1 σ) := by
  unfold f_X3_mayBecomeTime
  refine T_iload_n (pc := 0) h dX3_mayBecomeTime_0 rfl 1 rfl ?_
  refine T_sipush (pc := 1) h dX3_mayBecomeTime_1 ks_199 ?_
  refine T_icmp_le (pc := 4) (tgt := 9) h dX3_mayBecomeTime_4 (by decide) ?_ ?_
  · refine T_iload_n (pc := 9) h dX3_mayBecomeTime_9 rfl 1 rfl ?_
    refine T_if_eq (pc := 10) (tgt := 21) h dX3_mayBecomeTime_10 (by decide) ?_ ?_
    · refine T_sub [0, 1] rfl ?_
      exact t_X3_mayBecomeTime_L21 h hs x0 x1 σ hk0
    · refine T_iload_n (pc := 13) h dX3_mayBecomeTime_13 rfl 1 rfl ?_
      refine T_aload_n (pc := 14) h dX3_mayBecomeTime_14 rfl 0 rfl ?_
      refine T_getI (pc := 15) h hs hk0 fl_X3_54 rfl dX3_mayBecomeTime_15 ?_
      refine T_icmp_le (pc := 18) (tgt := 35) h dX3_mayBecomeTime_18 (by decide) ?_ ?_
      · refine T_aload_n (pc := 35) h dX3_mayBecomeTime_35 rfl 0 rfl ?_
        refine T_bipush (pc := 36) h dX3_mayBecomeTime_36 kb_10 ?_
        refine T_iload_n (pc := 38) h dX3_mayBecomeTime_38 rfl 1 rfl ?_
        refine T_imul (pc := 39) h dX3_mayBecomeTime_39 ?_
        refine T_bipush (pc := 40) h dX3_mayBecomeTime_40 kb_9 ?_
        refine T_callVi (pc := 42) h (M_X3_reachesPast (kl K) hs x0 ((10 : Int32) * x1) (9 : Int32) σ hk0) mv_X3_reachesPast hs hk0 ml_X3_77 rfl ⟨Nat.le_of_ble_eq_true rfl, Nat.le_of_ble_eq_true rfl⟩ ⟨Nat.le_refl 0, Nat.le_refl 0⟩ (Nat.le_of_ble_eq_true rfl) dX3_mayBecomeTime_42 rfl (fun r2 s1 => ?_)
        refine T_if_ne (pc := 45) (tgt := 61) h dX3_mayBecomeTime_45 (by decide) ?_ ?_
        · refine T_sub [] rfl ?_
          exact t_X3_mayBecomeTime_L61 h hs s1
        · refine T_aload_n (pc := 48) h dX3_mayBecomeTime_48 rfl 0 rfl ?_
          refine T_bipush (pc := 49) h dX3_mayBecomeTime_49 kb_100 ?_
          refine T_iload_n (pc := 51) h dX3_mayBecomeTime_51 rfl 1 rfl ?_
          refine T_imul (pc := 52) h dX3_mayBecomeTime_52 ?_
          refine T_bipush (pc := 53) h dX3_mayBecomeTime_53 kb_99 ?_
          refine T_callVi (pc := 55) h (M_X3_reachesPast (kl K) hs x0 ((100 : Int32) * x1) (99 : Int32) s1 hk0) mv_X3_reachesPast hs hk0 ml_X3_77 rfl ⟨Nat.le_of_ble_eq_true rfl, Nat.le_of_ble_eq_true rfl⟩ ⟨Nat.le_refl 0, Nat.le_refl 0⟩ (Nat.le_of_ble_eq_true rfl) dX3_mayBecomeTime_55 rfl (fun r4 s3 => ?_)
          refine T_if_eq (pc := 58) (tgt := 65) h dX3_mayBecomeTime_58 (by decide) ?_ ?_
          · refine T_iconst (pc := 65) h dX3_mayBecomeTime_65 ki_0 ?_
            refine T_sub [] rfl ?_
            exact t_X3_mayBecomeTime_L66 h hs (0 : Int32) s3
          · refine T_sub [] rfl ?_
            exact t_X3_mayBecomeTime_L61 h hs s3
      · refine T_sub [0, 1] rfl ?_
        exact t_X3_mayBecomeTime_L21 h hs x0 x1 σ hk0
  · refine T_iconst (pc := 7) h dX3_mayBecomeTime_7 ki_0 ?_
    exact T_zreturn (pc := 8) h (Nat.zero_le _) (Nat.zero_le _) dX3_mayBecomeTime_8
theorem M_X3_mayBecomeTime (l : Launch) {iv : Sg → Prop} (hi : iv = St) (x0 : Nat) (x1 : Int32) (σ : Sg) (hk0 : kd x0 3) : CTi l yX3_mayBecomeTime cX3_mayBecomeTime 2 (some .boolean) rm_X3_mayBecomeTime iv [.ref x0, .int x1] σ (f_X3_mayBecomeTime x0 x1 σ) := by
  subst hi
  exact CT_of (by decide) (Nat.le_of_ble_eq_true rfl) (fun K _ h _ hs _ _ => t_X3_mayBecomeTime h hs x0 x1 σ hk0)
/-! LuteTabs$Reader.takesFigure(I)Z -/
theorem dX3_takesFigure_0 : decode cX3_takesFigure 0 = .ok (.iload_n 1, 1) := by decide +kernel
theorem dX3_takesFigure_1 : decode cX3_takesFigure 1 = .ok (.bipush 48, 2) := by decide +kernel
theorem dX3_takesFigure_3 : decode cX3_takesFigure 3 = .ok (.if_icmp .lt 16, 3) := by decide +kernel
theorem dX3_takesFigure_6 : decode cX3_takesFigure 6 = .ok (.iload_n 1, 1) := by decide +kernel
theorem dX3_takesFigure_7 : decode cX3_takesFigure 7 = .ok (.bipush 57, 2) := by decide +kernel
theorem dX3_takesFigure_9 : decode cX3_takesFigure 9 = .ok (.if_icmp .gt 10, 3) := by decide +kernel
theorem dX3_takesFigure_12 : decode cX3_takesFigure 12 = .ok (.aload_n 0, 1) := by decide +kernel
theorem dX3_takesFigure_13 : decode cX3_takesFigure 13 = .ok (.getfield 33, 3) := by decide +kernel
theorem dX3_takesFigure_16 : decode cX3_takesFigure 16 = .ok (.ifCond .ne 5, 3) := by decide +kernel
theorem dX3_takesFigure_19 : decode cX3_takesFigure 19 = .ok (.iconst 0, 1) := by decide +kernel
theorem dX3_takesFigure_20 : decode cX3_takesFigure 20 = .ok (.ireturn, 1) := by decide +kernel
theorem dX3_takesFigure_21 : decode cX3_takesFigure 21 = .ok (.aload_n 0, 1) := by decide +kernel
theorem dX3_takesFigure_22 : decode cX3_takesFigure 22 = .ok (.getfield 33, 3) := by decide +kernel
theorem dX3_takesFigure_25 : decode cX3_takesFigure 25 = .ok (.iconst (-1), 1) := by decide +kernel
theorem dX3_takesFigure_26 : decode cX3_takesFigure 26 = .ok (.if_icmp .ne 7, 3) := by decide +kernel
theorem dX3_takesFigure_29 : decode cX3_takesFigure 29 = .ok (.iconst 0, 1) := by decide +kernel
theorem dX3_takesFigure_30 : decode cX3_takesFigure 30 = .ok (.goto 10, 3) := by decide +kernel
theorem dX3_takesFigure_33 : decode cX3_takesFigure 33 = .ok (.bipush 10, 2) := by decide +kernel
theorem dX3_takesFigure_35 : decode cX3_takesFigure 35 = .ok (.aload_n 0, 1) := by decide +kernel
theorem dX3_takesFigure_36 : decode cX3_takesFigure 36 = .ok (.getfield 33, 3) := by decide +kernel
theorem dX3_takesFigure_39 : decode cX3_takesFigure 39 = .ok (.imul, 1) := by decide +kernel
theorem dX3_takesFigure_40 : decode cX3_takesFigure 40 = .ok (.iload_n 1, 1) := by decide +kernel
theorem dX3_takesFigure_41 : decode cX3_takesFigure 41 = .ok (.iadd, 1) := by decide +kernel
theorem dX3_takesFigure_42 : decode cX3_takesFigure 42 = .ok (.bipush 48, 2) := by decide +kernel
theorem dX3_takesFigure_44 : decode cX3_takesFigure 44 = .ok (.isub, 1) := by decide +kernel
theorem dX3_takesFigure_45 : decode cX3_takesFigure 45 = .ok (.istore_n 2, 1) := by decide +kernel
theorem dX3_takesFigure_46 : decode cX3_takesFigure 46 = .ok (.aload_n 0, 1) := by decide +kernel
theorem dX3_takesFigure_47 : decode cX3_takesFigure 47 = .ok (.iload_n 2, 1) := by decide +kernel
theorem dX3_takesFigure_48 : decode cX3_takesFigure 48 = .ok (.invokevirtual 74, 3) := by decide +kernel
theorem dX3_takesFigure_51 : decode cX3_takesFigure 51 = .ok (.ifCond .ne 5, 3) := by decide +kernel
theorem dX3_takesFigure_54 : decode cX3_takesFigure 54 = .ok (.iconst 0, 1) := by decide +kernel
theorem dX3_takesFigure_55 : decode cX3_takesFigure 55 = .ok (.ireturn, 1) := by decide +kernel
theorem dX3_takesFigure_56 : decode cX3_takesFigure 56 = .ok (.aload_n 0, 1) := by decide +kernel
theorem dX3_takesFigure_57 : decode cX3_takesFigure 57 = .ok (.iload_n 2, 1) := by decide +kernel
theorem dX3_takesFigure_58 : decode cX3_takesFigure 58 = .ok (.putfield 33, 3) := by decide +kernel
theorem dX3_takesFigure_61 : decode cX3_takesFigure 61 = .ok (.iconst 1, 1) := by decide +kernel
theorem dX3_takesFigure_62 : decode cX3_takesFigure 62 = .ok (.ireturn, 1) := by decide +kernel
abbrev rm_X3_takesFigure : Room := { frames := 3, cells := 0, slots := 0, locals := 66 }
def f_X3_takesFigure_L19    (σ : Sg) : Option (Int32 × Sg) := ck (b01 (0 : Int32)) (some ((0 : Int32), σ))
def f_X3_takesFigure_L40  (x0 : Nat) (x1 : Int32) (y0 : Int32) (σ : Sg) : Option (Int32 × Sg) := lB (((y0 + x1) - (48 : Int32))) fun v1 => bd (f_X3_mayBecomeTime x0 v1 σ) fun r3 s2 => (if r3 = 0 then ck (b01 (0 : Int32)) (some ((0 : Int32), s2)) else lB (pI s2 x0 6 v1) fun s4 => ck (b01 (1 : Int32)) (some ((1 : Int32), s4)))
def f_X3_takesFigure (x0 : Nat) (x1 : Int32) (σ : Sg) : Option (Int32 × Sg) := (if x1 < (48 : Int32) then f_X3_takesFigure_L19 σ else (if (57 : Int32) < x1 then f_X3_takesFigure_L19 σ else (if (gI σ x0 6) = 0 then f_X3_takesFigure_L19 σ else (if (gI σ x0 6) = (-1 : Int32) then f_X3_takesFigure_L40 x0 x1 (0 : Int32) σ else f_X3_takesFigure_L40 x0 x1 ((10 : Int32) * (gI σ x0 6)) σ))))
theorem t_X3_takesFigure_L19 {K : Cx} (h : Ok K cX3_takesFigure RX3 3 rm_X3_takesFigure (some .boolean)) (hs : kiv K = St)   (σ : Sg)    : T K (QI K) 19 [] [] 0 0 σ (f_X3_takesFigure_L19 σ) := by
  unfold f_X3_takesFigure_L19
  refine T_iconst (pc := 19) h dX3_takesFigure_19 ki_0 ?_
  exact T_zreturn (pc := 20) h (Nat.zero_le _) (Nat.zero_le _) dX3_takesFigure_20
theorem t_X3_takesFigure_L40 {K : Cx} (h : Ok K cX3_takesFigure RX3 3 rm_X3_takesFigure (some .boolean)) (hs : kiv K = St) (x0 : Nat) (x1 : Int32) (y0 : Int32) (σ : Sg)  (hk0 : kd x0 3)  : T K (QI K) 40 [(0, .ref x0), (1, .int x1)] [.int y0] 0 0 σ (f_X3_takesFigure_L40 x0 x1 y0 σ) := by
  unfold f_X3_takesFigure_L40
  refine T_iload_n (pc := 40) h dX3_takesFigure_40 rfl 1 rfl ?_
  refine T_iadd (pc := 41) h dX3_takesFigure_41 ?_
  refine T_bipush (pc := 42) h dX3_takesFigure_42 kb_48 ?_
  refine T_isub (pc := 44) h dX3_takesFigure_44 ?_
  refine T_letI fun v1 => ?_
  refine T_istore_n (lv' := [(2, .int v1), (0, .ref x0), (1, .int x1)]) (pc := 45) h dX3_takesFigure_45 rfl (by decide) rfl ?_
  refine T_aload_n (pc := 46) h dX3_takesFigure_46 rfl 1 rfl ?_
  refine T_iload_n (pc := 47) h dX3_takesFigure_47 rfl 0 rfl ?_
  refine T_callVi (pc := 48) h (M_X3_mayBecomeTime (kl K) hs x0 v1 σ hk0) mv_X3_mayBecomeTime hs hk0 ml_X3_74 rfl ⟨Nat.le_of_ble_eq_true rfl, Nat.le_of_ble_eq_true rfl⟩ ⟨Nat.le_refl 0, Nat.le_refl 0⟩ (Nat.le_of_ble_eq_true rfl) dX3_takesFigure_48 rfl (fun r3 s2 => ?_)
  refine T_if_ne (pc := 51) (tgt := 56) h dX3_takesFigure_51 (by decide) ?_ ?_
  · refine T_aload_n (pc := 56) h dX3_takesFigure_56 rfl 1 rfl ?_
    refine T_iload_n (pc := 57) h dX3_takesFigure_57 rfl 0 rfl ?_
    refine T_putI (pc := 58) h hs hk0 fl_X3_33 rfl rfl dX3_takesFigure_58 ?_
    refine T_letS fun s4 => ?_
    refine T_iconst (pc := 61) h dX3_takesFigure_61 ki_1 ?_
    exact T_zreturn (pc := 62) h (Nat.zero_le _) (Nat.zero_le _) dX3_takesFigure_62
  · refine T_iconst (pc := 54) h dX3_takesFigure_54 ki_0 ?_
    exact T_zreturn (pc := 55) h (Nat.zero_le _) (Nat.zero_le _) dX3_takesFigure_55
theorem t_X3_takesFigure {K : Cx} (h : Ok K cX3_takesFigure RX3 3 rm_X3_takesFigure (some .boolean)) (hs : kiv K = St) (x0 : Nat) (x1 : Int32) (σ : Sg) (hk0 : kd x0 3) : T K (QI K) 0 [(0, .ref x0), (1, .int x1)] [] 0 0 σ (f_X3_takesFigure x0 x1 σ) := by
  unfold f_X3_takesFigure
  refine T_iload_n (pc := 0) h dX3_takesFigure_0 rfl 1 rfl ?_
  refine T_bipush (pc := 1) h dX3_takesFigure_1 kb_48 ?_
  refine T_icmp_lt (pc := 3) (tgt := 19) h dX3_takesFigure_3 (by decide) ?_ ?_
  · refine T_sub [] rfl ?_
    exact t_X3_takesFigure_L19 h hs σ
  · refine T_iload_n (pc := 6) h dX3_takesFigure_6 rfl 1 rfl ?_
    refine T_bipush (pc := 7) h dX3_takesFigure_7 kb_57 ?_
    refine T_icmp_gt (pc := 9) (tgt := 19) h dX3_takesFigure_9 (by decide) ?_ ?_
    · refine T_sub [] rfl ?_
      exact t_X3_takesFigure_L19 h hs σ
    · refine T_aload_n (pc := 12) h dX3_takesFigure_12 rfl 0 rfl ?_
      refine T_getI (pc := 13) h hs hk0 fl_X3_33 rfl dX3_takesFigure_13 ?_
      refine T_if_ne (pc := 16) (tgt := 21) h dX3_takesFigure_16 (by decide) ?_ ?_
      · refine T_aload_n (pc := 21) h dX3_takesFigure_21 rfl 0 rfl ?_
        refine T_getI (pc := 22) h hs hk0 fl_X3_33 rfl dX3_takesFigure_22 ?_
        refine T_iconst (pc := 25) h dX3_takesFigure_25 ki_m1 ?_
        refine T_icmp_ne (pc := 26) (tgt := 33) h dX3_takesFigure_26 (by decide) ?_ ?_
        · refine T_bipush (pc := 33) h dX3_takesFigure_33 kb_10 ?_
          refine T_aload_n (pc := 35) h dX3_takesFigure_35 rfl 0 rfl ?_
          refine T_getI (pc := 36) h hs hk0 fl_X3_33 rfl dX3_takesFigure_36 ?_
          refine T_imul (pc := 39) h dX3_takesFigure_39 ?_
          refine T_sub [0, 1] rfl ?_
          exact t_X3_takesFigure_L40 h hs x0 x1 ((10 : Int32) * (gI σ x0 6)) σ hk0
        · refine T_iconst (pc := 29) h dX3_takesFigure_29 ki_0 ?_
          refine T_goto (pc := 30) (tgt := 40) h dX3_takesFigure_30 (by decide) ?_
          refine T_sub [0, 1] rfl ?_
          exact t_X3_takesFigure_L40 h hs x0 x1 (0 : Int32) σ hk0
      · refine T_sub [] rfl ?_
        exact t_X3_takesFigure_L19 h hs σ
theorem M_X3_takesFigure (l : Launch) {iv : Sg → Prop} (hi : iv = St) (x0 : Nat) (x1 : Int32) (σ : Sg) (hk0 : kd x0 3) : CTi l yX3_takesFigure cX3_takesFigure 3 (some .boolean) rm_X3_takesFigure iv [.ref x0, .int x1] σ (f_X3_takesFigure x0 x1 σ) := by
  subst hi
  exact CT_of (by decide) (Nat.le_of_ble_eq_true rfl) (fun K _ h _ hs _ _ => t_X3_takesFigure h hs x0 x1 σ hk0)
/-! LuteTabs$Reader.takesDash()Z -/
theorem dX3_takesDash_0 : decode cX3_takesDash 0 = .ok (.aload_n 0, 1) := by decide +kernel
theorem dX3_takesDash_1 : decode cX3_takesDash 1 = .ok (.getfield 51, 3) := by decide +kernel
theorem dX3_takesDash_4 : decode cX3_takesDash 4 = .ok (.aload_n 0, 1) := by decide +kernel
theorem dX3_takesDash_5 : decode cX3_takesDash 5 = .ok (.getfield 25, 3) := by decide +kernel
theorem dX3_takesDash_8 : decode cX3_takesDash 8 = .ok (.getfield 67, 3) := by decide +kernel
theorem dX3_takesDash_11 : decode cX3_takesDash 11 = .ok (.iconst 1, 1) := by decide +kernel
theorem dX3_takesDash_12 : decode cX3_takesDash 12 = .ok (.isub, 1) := by decide +kernel
theorem dX3_takesDash_13 : decode cX3_takesDash 13 = .ok (.if_icmp .ne 12, 3) := by decide +kernel
theorem dX3_takesDash_16 : decode cX3_takesDash 16 = .ok (.aload_n 0, 1) := by decide +kernel
theorem dX3_takesDash_17 : decode cX3_takesDash 17 = .ok (.getfield 57, 3) := by decide +kernel
theorem dX3_takesDash_20 : decode cX3_takesDash 20 = .ok (.ifCond .ne 5, 3) := by decide +kernel
theorem dX3_takesDash_23 : decode cX3_takesDash 23 = .ok (.iconst 0, 1) := by decide +kernel
theorem dX3_takesDash_24 : decode cX3_takesDash 24 = .ok (.ireturn, 1) := by decide +kernel
theorem dX3_takesDash_25 : decode cX3_takesDash 25 = .ok (.aload_n 0, 1) := by decide +kernel
theorem dX3_takesDash_26 : decode cX3_takesDash 26 = .ok (.dup, 1) := by decide +kernel
theorem dX3_takesDash_27 : decode cX3_takesDash 27 = .ok (.getfield 51, 3) := by decide +kernel
theorem dX3_takesDash_30 : decode cX3_takesDash 30 = .ok (.iconst 1, 1) := by decide +kernel
theorem dX3_takesDash_31 : decode cX3_takesDash 31 = .ok (.iadd, 1) := by decide +kernel
theorem dX3_takesDash_32 : decode cX3_takesDash 32 = .ok (.putfield 51, 3) := by decide +kernel
theorem dX3_takesDash_35 : decode cX3_takesDash 35 = .ok (.iconst 1, 1) := by decide +kernel
theorem dX3_takesDash_36 : decode cX3_takesDash 36 = .ok (.ireturn, 1) := by decide +kernel
abbrev rm_X3_takesDash : Room := { frames := 0, cells := 0, slots := 0, locals := 0 }
def f_X3_takesDash_L25  (x0 : Nat)  (σ : Sg) : Option (Int32 × Sg) := lB (pI σ x0 7 ((gI σ x0 7) + (1 : Int32))) fun s1 => ck (b01 (1 : Int32)) (some ((1 : Int32), s1))
def f_X3_takesDash (x0 : Nat) (σ : Sg) : Option (Int32 × Sg) := (if (gI σ x0 7) = ((gI σ (gR σ x0 0) 0) - (1 : Int32)) then (if (gI σ x0 8) = 0 then ck (b01 (0 : Int32)) (some ((0 : Int32), σ)) else f_X3_takesDash_L25 x0 σ) else f_X3_takesDash_L25 x0 σ)
theorem t_X3_takesDash_L25 {K : Cx} (h : Ok K cX3_takesDash RX3 1 rm_X3_takesDash (some .boolean)) (hs : kiv K = St) (x0 : Nat)  (σ : Sg)  (hk0 : kd x0 3)  : T K (QI K) 25 [(0, .ref x0)] [] 0 0 σ (f_X3_takesDash_L25 x0 σ) := by
  unfold f_X3_takesDash_L25
  refine T_aload_n (pc := 25) h dX3_takesDash_25 rfl 0 rfl ?_
  refine T_dup (pc := 26) h dX3_takesDash_26 rfl ?_
  refine T_getI (pc := 27) h hs hk0 fl_X3_51 rfl dX3_takesDash_27 ?_
  refine T_iconst (pc := 30) h dX3_takesDash_30 ki_1 ?_
  refine T_iadd (pc := 31) h dX3_takesDash_31 ?_
  refine T_putI (pc := 32) h hs hk0 fl_X3_51 rfl rfl dX3_takesDash_32 ?_
  refine T_letS fun s1 => ?_
  refine T_iconst (pc := 35) h dX3_takesDash_35 ki_1 ?_
  exact T_zreturn (pc := 36) h (Nat.zero_le _) (Nat.zero_le _) dX3_takesDash_36
theorem t_X3_takesDash {K : Cx} (h : Ok K cX3_takesDash RX3 1 rm_X3_takesDash (some .boolean)) (hs : kiv K = St) (x0 : Nat) (σ : Sg) (hk0 : kd x0 3) : T K (QI K) 0 [(0, .ref x0)] [] 0 0 σ (f_X3_takesDash x0 σ) := by
  unfold f_X3_takesDash
  refine T_aload_n (pc := 0) h dX3_takesDash_0 rfl 0 rfl ?_
  refine T_getI (pc := 1) h hs hk0 fl_X3_51 rfl dX3_takesDash_1 ?_
  refine T_aload_n (pc := 4) h dX3_takesDash_4 rfl 0 rfl ?_
  refine T_gR (pc := 5) h hs hk0 fl_X3_25 rfl fk_3_0 dX3_takesDash_5 (fun hq1 => ?_)
  refine T_getI (pc := 8) h hs hq1 fl_X3_67 rfl dX3_takesDash_8 ?_
  refine T_iconst (pc := 11) h dX3_takesDash_11 ki_1 ?_
  refine T_isub (pc := 12) h dX3_takesDash_12 ?_
  refine T_icmp_ne (pc := 13) (tgt := 25) h dX3_takesDash_13 (by decide) ?_ ?_
  · refine T_sub [0] rfl ?_
    exact t_X3_takesDash_L25 h hs x0 σ hk0
  · refine T_aload_n (pc := 16) h dX3_takesDash_16 rfl 0 rfl ?_
    refine T_getI (pc := 17) h hs hk0 fl_X3_57 rfl dX3_takesDash_17 ?_
    refine T_if_ne (pc := 20) (tgt := 25) h dX3_takesDash_20 (by decide) ?_ ?_
    · refine T_sub [0] rfl ?_
      exact t_X3_takesDash_L25 h hs x0 σ hk0
    · refine T_iconst (pc := 23) h dX3_takesDash_23 ki_0 ?_
      exact T_zreturn (pc := 24) h (Nat.zero_le _) (Nat.zero_le _) dX3_takesDash_24
theorem M_X3_takesDash (l : Launch) {iv : Sg → Prop} (hi : iv = St) (x0 : Nat) (σ : Sg) (hk0 : kd x0 3) : CTi l yX3_takesDash cX3_takesDash 1 (some .boolean) rm_X3_takesDash iv [.ref x0] σ (f_X3_takesDash x0 σ) := by
  subst hi
  exact CT_of (by decide) (Nat.le_of_ble_eq_true rfl) (fun K _ h _ hs _ _ => t_X3_takesDash h hs x0 σ hk0)
/-! LuteTabs$Reader.takesLetter(I)Z -/
theorem dX3_takesLetter_0 : decode cX3_takesLetter 0 = .ok (.aload_n 0, 1) := by decide +kernel
theorem dX3_takesLetter_1 : decode cX3_takesLetter 1 = .ok (.getfield 25, 3) := by decide +kernel
theorem dX3_takesLetter_4 : decode cX3_takesLetter 4 = .ok (.iload_n 1, 1) := by decide +kernel
theorem dX3_takesLetter_5 : decode cX3_takesLetter 5 = .ok (.invokevirtual 87, 3) := by decide +kernel
theorem dX3_takesLetter_8 : decode cX3_takesLetter 8 = .ok (.ifCond .eq 11, 3) := by decide +kernel
theorem dX3_takesLetter_11 : decode cX3_takesLetter 11 = .ok (.aload_n 0, 1) := by decide +kernel
theorem dX3_takesLetter_12 : decode cX3_takesLetter 12 = .ok (.getfield 57, 3) := by decide +kernel
theorem dX3_takesLetter_15 : decode cX3_takesLetter 15 = .ok (.iconst 3, 1) := by decide +kernel
theorem dX3_takesLetter_16 : decode cX3_takesLetter 16 = .ok (.if_icmp .ne 5, 3) := by decide +kernel
theorem dX3_takesLetter_19 : decode cX3_takesLetter 19 = .ok (.iconst 0, 1) := by decide +kernel
theorem dX3_takesLetter_20 : decode cX3_takesLetter 20 = .ok (.ireturn, 1) := by decide +kernel
theorem dX3_takesLetter_21 : decode cX3_takesLetter 21 = .ok (.aload_n 0, 1) := by decide +kernel
theorem dX3_takesLetter_22 : decode cX3_takesLetter 22 = .ok (.getfield 29, 3) := by decide +kernel
theorem dX3_takesLetter_25 : decode cX3_takesLetter 25 = .ok (.bipush 14, 2) := by decide +kernel
theorem dX3_takesLetter_27 : decode cX3_takesLetter 27 = .ok (.if_icmp .ge 39, 3) := by decide +kernel
theorem dX3_takesLetter_30 : decode cX3_takesLetter 30 = .ok (.aload_n 0, 1) := by decide +kernel
theorem dX3_takesLetter_31 : decode cX3_takesLetter 31 = .ok (.getfield 13, 3) := by decide +kernel
theorem dX3_takesLetter_34 : decode cX3_takesLetter 34 = .ok (.aload_n 0, 1) := by decide +kernel
theorem dX3_takesLetter_35 : decode cX3_takesLetter 35 = .ok (.getfield 29, 3) := by decide +kernel
theorem dX3_takesLetter_38 : decode cX3_takesLetter 38 = .ok (.aload_n 0, 1) := by decide +kernel
theorem dX3_takesLetter_39 : decode cX3_takesLetter 39 = .ok (.getfield 33, 3) := by decide +kernel
theorem dX3_takesLetter_42 : decode cX3_takesLetter 42 = .ok (.iastore, 1) := by decide +kernel
theorem dX3_takesLetter_43 : decode cX3_takesLetter 43 = .ok (.aload_n 0, 1) := by decide +kernel
theorem dX3_takesLetter_44 : decode cX3_takesLetter 44 = .ok (.getfield 19, 3) := by decide +kernel
theorem dX3_takesLetter_47 : decode cX3_takesLetter 47 = .ok (.aload_n 0, 1) := by decide +kernel
theorem dX3_takesLetter_48 : decode cX3_takesLetter 48 = .ok (.getfield 29, 3) := by decide +kernel
theorem dX3_takesLetter_51 : decode cX3_takesLetter 51 = .ok (.aload_n 0, 1) := by decide +kernel
theorem dX3_takesLetter_52 : decode cX3_takesLetter 52 = .ok (.getfield 51, 3) := by decide +kernel
theorem dX3_takesLetter_55 : decode cX3_takesLetter 55 = .ok (.iastore, 1) := by decide +kernel
theorem dX3_takesLetter_56 : decode cX3_takesLetter 56 = .ok (.aload_n 0, 1) := by decide +kernel
theorem dX3_takesLetter_57 : decode cX3_takesLetter 57 = .ok (.getfield 22, 3) := by decide +kernel
theorem dX3_takesLetter_60 : decode cX3_takesLetter 60 = .ok (.aload_n 0, 1) := by decide +kernel
theorem dX3_takesLetter_61 : decode cX3_takesLetter 61 = .ok (.getfield 29, 3) := by decide +kernel
theorem dX3_takesLetter_64 : decode cX3_takesLetter 64 = .ok (.iload_n 1, 1) := by decide +kernel
theorem dX3_takesLetter_65 : decode cX3_takesLetter 65 = .ok (.iastore, 1) := by decide +kernel
theorem dX3_takesLetter_66 : decode cX3_takesLetter 66 = .ok (.aload_n 0, 1) := by decide +kernel
theorem dX3_takesLetter_67 : decode cX3_takesLetter 67 = .ok (.dup, 1) := by decide +kernel
theorem dX3_takesLetter_68 : decode cX3_takesLetter 68 = .ok (.getfield 29, 3) := by decide +kernel
theorem dX3_takesLetter_71 : decode cX3_takesLetter 71 = .ok (.iconst 1, 1) := by decide +kernel
theorem dX3_takesLetter_72 : decode cX3_takesLetter 72 = .ok (.iadd, 1) := by decide +kernel
theorem dX3_takesLetter_73 : decode cX3_takesLetter 73 = .ok (.putfield 29, 3) := by decide +kernel
theorem dX3_takesLetter_76 : decode cX3_takesLetter 76 = .ok (.aload_n 0, 1) := by decide +kernel
theorem dX3_takesLetter_77 : decode cX3_takesLetter 77 = .ok (.dup, 1) := by decide +kernel
theorem dX3_takesLetter_78 : decode cX3_takesLetter 78 = .ok (.getfield 57, 3) := by decide +kernel
theorem dX3_takesLetter_81 : decode cX3_takesLetter 81 = .ok (.iconst 1, 1) := by decide +kernel
theorem dX3_takesLetter_82 : decode cX3_takesLetter 82 = .ok (.iadd, 1) := by decide +kernel
theorem dX3_takesLetter_83 : decode cX3_takesLetter 83 = .ok (.putfield 57, 3) := by decide +kernel
theorem dX3_takesLetter_86 : decode cX3_takesLetter 86 = .ok (.aload_n 0, 1) := by decide +kernel
theorem dX3_takesLetter_87 : decode cX3_takesLetter 87 = .ok (.dup, 1) := by decide +kernel
theorem dX3_takesLetter_88 : decode cX3_takesLetter 88 = .ok (.getfield 51, 3) := by decide +kernel
theorem dX3_takesLetter_91 : decode cX3_takesLetter 91 = .ok (.iconst 1, 1) := by decide +kernel
theorem dX3_takesLetter_92 : decode cX3_takesLetter 92 = .ok (.iadd, 1) := by decide +kernel
theorem dX3_takesLetter_93 : decode cX3_takesLetter 93 = .ok (.putfield 51, 3) := by decide +kernel
theorem dX3_takesLetter_96 : decode cX3_takesLetter 96 = .ok (.iconst 1, 1) := by decide +kernel
theorem dX3_takesLetter_97 : decode cX3_takesLetter 97 = .ok (.ireturn, 1) := by decide +kernel
abbrev rm_X3_takesLetter : Room := { frames := 1, cells := 0, slots := 0, locals := 21 }
def f_X3_takesLetter_L19    (σ : Sg) : Option (Int32 × Sg) := ck (b01 (0 : Int32)) (some ((0 : Int32), σ))
def f_X3_takesLetter_L66  (x0 : Nat)  (σ : Sg) : Option (Int32 × Sg) := lB (pI σ x0 1 ((gI σ x0 1) + (1 : Int32))) fun s1 => lB (pI s1 x0 8 ((gI s1 x0 8) + (1 : Int32))) fun s2 => lB (pI s2 x0 7 ((gI s2 x0 7) + (1 : Int32))) fun s3 => ck (b01 (1 : Int32)) (some ((1 : Int32), s3))
def f_X3_takesLetter (x0 : Nat) (x1 : Int32) (σ : Sg) : Option (Int32 × Sg) := bd (f_X1_hasFret (gR σ x0 0) x1 σ) fun r3 s2 => (if r3 = 0 then f_X3_takesLetter_L19 s2 else (if (gI s2 x0 8) = (3 : Int32) then f_X3_takesLetter_L19 s2 else (if (14 : Int32) ≤ (gI s2 x0 1) then f_X3_takesLetter_L66 x0 s2 else ck (inb (gI s2 x0 1) (aL (gR s2 x0 2))) (lB (pI s2 (gR s2 x0 2) (gI s2 x0 1).toNatClampNeg (gI s2 x0 6)) fun s5 => ck (inb (gI s5 x0 1) (aL (gR s5 x0 3))) (lB (pI s5 (gR s5 x0 3) (gI s5 x0 1).toNatClampNeg (gI s5 x0 7)) fun s7 => ck (inb (gI s7 x0 1) (aL (gR s7 x0 4))) (lB (pI s7 (gR s7 x0 4) (gI s7 x0 1).toNatClampNeg x1) fun s9 => f_X3_takesLetter_L66 x0 s9))))))
theorem t_X3_takesLetter_L19 {K : Cx} (h : Ok K cX3_takesLetter RX3 2 rm_X3_takesLetter (some .boolean)) (hs : kiv K = St)   (σ : Sg)    : T K (QI K) 19 [] [] 0 0 σ (f_X3_takesLetter_L19 σ) := by
  unfold f_X3_takesLetter_L19
  refine T_iconst (pc := 19) h dX3_takesLetter_19 ki_0 ?_
  exact T_zreturn (pc := 20) h (Nat.zero_le _) (Nat.zero_le _) dX3_takesLetter_20
theorem t_X3_takesLetter_L66 {K : Cx} (h : Ok K cX3_takesLetter RX3 2 rm_X3_takesLetter (some .boolean)) (hs : kiv K = St) (x0 : Nat)  (σ : Sg)  (hk0 : kd x0 3)  : T K (QI K) 66 [(0, .ref x0)] [] 0 0 σ (f_X3_takesLetter_L66 x0 σ) := by
  unfold f_X3_takesLetter_L66
  refine T_aload_n (pc := 66) h dX3_takesLetter_66 rfl 0 rfl ?_
  refine T_dup (pc := 67) h dX3_takesLetter_67 rfl ?_
  refine T_getI (pc := 68) h hs hk0 fl_X3_29 rfl dX3_takesLetter_68 ?_
  refine T_iconst (pc := 71) h dX3_takesLetter_71 ki_1 ?_
  refine T_iadd (pc := 72) h dX3_takesLetter_72 ?_
  refine T_putI (pc := 73) h hs hk0 fl_X3_29 rfl rfl dX3_takesLetter_73 ?_
  refine T_letS fun s1 => ?_
  refine T_aload_n (pc := 76) h dX3_takesLetter_76 rfl 0 rfl ?_
  refine T_dup (pc := 77) h dX3_takesLetter_77 rfl ?_
  refine T_getI (pc := 78) h hs hk0 fl_X3_57 rfl dX3_takesLetter_78 ?_
  refine T_iconst (pc := 81) h dX3_takesLetter_81 ki_1 ?_
  refine T_iadd (pc := 82) h dX3_takesLetter_82 ?_
  refine T_putI (pc := 83) h hs hk0 fl_X3_57 rfl rfl dX3_takesLetter_83 ?_
  refine T_letS fun s2 => ?_
  refine T_aload_n (pc := 86) h dX3_takesLetter_86 rfl 0 rfl ?_
  refine T_dup (pc := 87) h dX3_takesLetter_87 rfl ?_
  refine T_getI (pc := 88) h hs hk0 fl_X3_51 rfl dX3_takesLetter_88 ?_
  refine T_iconst (pc := 91) h dX3_takesLetter_91 ki_1 ?_
  refine T_iadd (pc := 92) h dX3_takesLetter_92 ?_
  refine T_putI (pc := 93) h hs hk0 fl_X3_51 rfl rfl dX3_takesLetter_93 ?_
  refine T_letS fun s3 => ?_
  refine T_iconst (pc := 96) h dX3_takesLetter_96 ki_1 ?_
  exact T_zreturn (pc := 97) h (Nat.zero_le _) (Nat.zero_le _) dX3_takesLetter_97
theorem t_X3_takesLetter {K : Cx} (h : Ok K cX3_takesLetter RX3 2 rm_X3_takesLetter (some .boolean)) (hs : kiv K = St) (x0 : Nat) (x1 : Int32) (σ : Sg) (hk0 : kd x0 3) : T K (QI K) 0 [(0, .ref x0), (1, .int x1)] [] 0 0 σ (f_X3_takesLetter x0 x1 σ) := by
  unfold f_X3_takesLetter
  refine T_aload_n (pc := 0) h dX3_takesLetter_0 rfl 0 rfl ?_
  refine T_gR (pc := 1) h hs hk0 fl_X3_25 rfl fk_3_0 dX3_takesLetter_1 (fun hq1 => ?_)
  refine T_iload_n (pc := 4) h dX3_takesLetter_4 rfl 1 rfl ?_
  refine T_callVi (pc := 5) h (M_X1_hasFret (kl K) hs (gR σ x0 0) x1 σ hq1) mv_X1_hasFret hs hq1 ml_X3_87 rfl ⟨Nat.le_of_ble_eq_true rfl, Nat.le_of_ble_eq_true rfl⟩ ⟨Nat.le_refl 0, Nat.le_refl 0⟩ (Nat.le_of_ble_eq_true rfl) dX3_takesLetter_5 rfl (fun r3 s2 => ?_)
  refine T_if_eq (pc := 8) (tgt := 19) h dX3_takesLetter_8 (by decide) ?_ ?_
  · refine T_sub [] rfl ?_
    exact t_X3_takesLetter_L19 h hs s2
  · refine T_aload_n (pc := 11) h dX3_takesLetter_11 rfl 0 rfl ?_
    refine T_getI (pc := 12) h hs hk0 fl_X3_57 rfl dX3_takesLetter_12 ?_
    refine T_iconst (pc := 15) h dX3_takesLetter_15 ki_3 ?_
    refine T_icmp_ne (pc := 16) (tgt := 21) h dX3_takesLetter_16 (by decide) ?_ ?_
    · refine T_aload_n (pc := 21) h dX3_takesLetter_21 rfl 0 rfl ?_
      refine T_getI (pc := 22) h hs hk0 fl_X3_29 rfl dX3_takesLetter_22 ?_
      refine T_bipush (pc := 25) h dX3_takesLetter_25 kb_14 ?_
      refine T_icmp_ge (pc := 27) (tgt := 66) h dX3_takesLetter_27 (by decide) ?_ ?_
      · refine T_sub [0] rfl ?_
        exact t_X3_takesLetter_L66 h hs x0 s2 hk0
      · refine T_aload_n (pc := 30) h dX3_takesLetter_30 rfl 0 rfl ?_
        refine T_gR (pc := 31) h hs hk0 fl_X3_13 rfl fk_3_2 dX3_takesLetter_31 (fun hq4 => ?_)
        refine T_aload_n (pc := 34) h dX3_takesLetter_34 rfl 0 rfl ?_
        refine T_getI (pc := 35) h hs hk0 fl_X3_29 rfl dX3_takesLetter_35 ?_
        refine T_aload_n (pc := 38) h dX3_takesLetter_38 rfl 0 rfl ?_
        refine T_getI (pc := 39) h hs hk0 fl_X3_33 rfl dX3_takesLetter_39 ?_
        refine T_iast (pc := 42) h hs hq4 dX3_takesLetter_42 ?_
        refine T_letS fun s5 => ?_
        refine T_aload_n (pc := 43) h dX3_takesLetter_43 rfl 0 rfl ?_
        refine T_gR (pc := 44) h hs hk0 fl_X3_19 rfl fk_3_3 dX3_takesLetter_44 (fun hq6 => ?_)
        refine T_aload_n (pc := 47) h dX3_takesLetter_47 rfl 0 rfl ?_
        refine T_getI (pc := 48) h hs hk0 fl_X3_29 rfl dX3_takesLetter_48 ?_
        refine T_aload_n (pc := 51) h dX3_takesLetter_51 rfl 0 rfl ?_
        refine T_getI (pc := 52) h hs hk0 fl_X3_51 rfl dX3_takesLetter_52 ?_
        refine T_iast (pc := 55) h hs hq6 dX3_takesLetter_55 ?_
        refine T_letS fun s7 => ?_
        refine T_aload_n (pc := 56) h dX3_takesLetter_56 rfl 0 rfl ?_
        refine T_gR (pc := 57) h hs hk0 fl_X3_22 rfl fk_3_4 dX3_takesLetter_57 (fun hq8 => ?_)
        refine T_aload_n (pc := 60) h dX3_takesLetter_60 rfl 0 rfl ?_
        refine T_getI (pc := 61) h hs hk0 fl_X3_29 rfl dX3_takesLetter_61 ?_
        refine T_iload_n (pc := 64) h dX3_takesLetter_64 rfl 1 rfl ?_
        refine T_iast (pc := 65) h hs hq8 dX3_takesLetter_65 ?_
        refine T_letS fun s9 => ?_
        refine T_sub [0] rfl ?_
        exact t_X3_takesLetter_L66 h hs x0 s9 hk0
    · refine T_sub [] rfl ?_
      exact t_X3_takesLetter_L19 h hs s2
theorem M_X3_takesLetter (l : Launch) {iv : Sg → Prop} (hi : iv = St) (x0 : Nat) (x1 : Int32) (σ : Sg) (hk0 : kd x0 3) : CTi l yX3_takesLetter cX3_takesLetter 2 (some .boolean) rm_X3_takesLetter iv [.ref x0, .int x1] σ (f_X3_takesLetter x0 x1 σ) := by
  subst hi
  exact CT_of (by decide) (Nat.le_of_ble_eq_true rfl) (fun K _ h _ hs _ _ => t_X3_takesLetter h hs x0 x1 σ hk0)
