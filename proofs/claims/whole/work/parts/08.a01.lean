/-! java/util/Arrays.fill([II)V -/
theorem dJ7_fill_53178_0 : decode cJ7_fill_53178 0 = .ok (.iconst 0, 1) := by decide +kernel
theorem dJ7_fill_53178_1 : decode cJ7_fill_53178 1 = .ok (.istore_n 2, 1) := by decide +kernel
theorem dJ7_fill_53178_2 : decode cJ7_fill_53178 2 = .ok (.aload_n 0, 1) := by decide +kernel
theorem dJ7_fill_53178_3 : decode cJ7_fill_53178 3 = .ok (.arraylength, 1) := by decide +kernel
theorem dJ7_fill_53178_4 : decode cJ7_fill_53178 4 = .ok (.istore_n 3, 1) := by decide +kernel
theorem dJ7_fill_53178_5 : decode cJ7_fill_53178 5 = .ok (.iload_n 2, 1) := by decide +kernel
theorem dJ7_fill_53178_6 : decode cJ7_fill_53178 6 = .ok (.iload_n 3, 1) := by decide +kernel
theorem dJ7_fill_53178_7 : decode cJ7_fill_53178 7 = .ok (.if_icmp .ge 13, 3) := by decide +kernel
theorem dJ7_fill_53178_10 : decode cJ7_fill_53178 10 = .ok (.aload_n 0, 1) := by decide +kernel
theorem dJ7_fill_53178_11 : decode cJ7_fill_53178 11 = .ok (.iload_n 2, 1) := by decide +kernel
theorem dJ7_fill_53178_12 : decode cJ7_fill_53178 12 = .ok (.iload_n 1, 1) := by decide +kernel
theorem dJ7_fill_53178_13 : decode cJ7_fill_53178 13 = .ok (.iastore, 1) := by decide +kernel
theorem dJ7_fill_53178_14 : decode cJ7_fill_53178 14 = .ok (.iinc 2 1, 3) := by decide +kernel
theorem dJ7_fill_53178_17 : decode cJ7_fill_53178 17 = .ok (.goto (-12), 3) := by decide +kernel
theorem dJ7_fill_53178_20 : decode cJ7_fill_53178 20 = .ok (.return_, 1) := by decide +kernel
abbrev rm_J7_fill_53178 : Room := { frames := 0, cells := 0, slots := 0, locals := 0 }
def f_J7_fill_53178_L5  (x0 : Nat) (x1 : Int32) (x3 : Int32) (rec5 : Int32 × Sg → Option (Unit × Sg)) (s : Int32 × Sg) : Option (Unit × Sg) := (if x3 ≤ (s.1) then some ((), (s.2)) else ck (inb (s.1) (aL x0)) (lB (pI (s.2) x0 (s.1).toNatClampNeg x1) fun s1 => lB ((s.1) + (1 : Int32)) fun v2 => rec5 (v2, s1)))
def f_J7_fill_53178 (x0 : Nat) (x1 : Int32) (σ : Sg) : Option (Unit × Sg) := lB ((Int32.ofNat (aL x0))) fun v1 => fx (f_J7_fill_53178_L5 x0 x1 v1) FU ((0 : Int32), σ)
theorem t_J7_fill_53178_L5 {K : Cx} (h : Ok K cJ7_fill_53178 RJ7 4 rm_J7_fill_53178 none) (hs : kiv K = St) (x0 : Nat) (x1 : Int32) (x3 : Int32)  (hk0 : kd x0 10) (rec5 : Int32 × Sg → Option (Unit × Sg)) (hr5 : ∀ u, T K (QV K) 5 [(0, .ref x0), (1, .int x1), (2, .int (u.1)), (3, .int x3)] [] 0 0 (u.2) (rec5 u)) (s : Int32 × Sg) : T K (QV K) 5 [(0, .ref x0), (1, .int x1), (2, .int (s.1)), (3, .int x3)] [] 0 0 (s.2) (f_J7_fill_53178_L5 x0 x1 x3 rec5 s) := by
  unfold f_J7_fill_53178_L5
  refine T_iload_n (pc := 5) h dJ7_fill_53178_5 rfl 2 rfl ?_
  refine T_iload_n (pc := 6) h dJ7_fill_53178_6 rfl 3 rfl ?_
  refine T_icmp_ge (pc := 7) (tgt := 20) h dJ7_fill_53178_7 (by decide) ?_ ?_
  · exact T_return (pc := 20) h (Nat.zero_le _) (Nat.zero_le _) dJ7_fill_53178_20
  · refine T_aload_n (pc := 10) h dJ7_fill_53178_10 rfl 0 rfl ?_
    refine T_iload_n (pc := 11) h dJ7_fill_53178_11 rfl 2 rfl ?_
    refine T_iload_n (pc := 12) h dJ7_fill_53178_12 rfl 1 rfl ?_
    refine T_iast (pc := 13) h hs hk0 dJ7_fill_53178_13 ?_
    refine T_letS fun s1 => ?_
    refine T_iinc (fl := fun v2 => [(2, .int v2), (0, .ref x0), (1, .int x1), (3, .int x3)]) (pc := 14) h dJ7_fill_53178_14 2 rfl ki_1 (by decide) (fun _ => rfl) (fun v2 => ?_)
    refine T_goto (pc := 17) (tgt := 5) h dJ7_fill_53178_17 (by decide) ?_
    refine T_sub [1, 2, 0, 3] rfl ?_
    exact hr5 (v2, s1)
theorem t_J7_fill_53178 {K : Cx} (h : Ok K cJ7_fill_53178 RJ7 4 rm_J7_fill_53178 none) (hs : kiv K = St) (x0 : Nat) (x1 : Int32) (σ : Sg) (hk0 : kd x0 10) : T K (QV K) 0 [(0, .ref x0), (1, .int x1)] [] 0 0 σ (f_J7_fill_53178 x0 x1 σ) := by
  unfold f_J7_fill_53178
  refine T_iconst (pc := 0) h dJ7_fill_53178_0 ki_0 ?_
  refine T_istore_n (lv' := [(2, .int (0 : Int32)), (0, .ref x0), (1, .int x1)]) (pc := 1) h dJ7_fill_53178_1 rfl (by decide) rfl ?_
  refine T_aload_n (pc := 2) h dJ7_fill_53178_2 rfl 1 rfl ?_
  refine T_alen (c := 10) (pc := 3) h hs hk0 (by decide) dJ7_fill_53178_3 ?_
  refine T_letI fun v1 => ?_
  refine T_istore_n (lv' := [(3, .int v1), (2, .int (0 : Int32)), (0, .ref x0), (1, .int x1)]) (pc := 4) h dJ7_fill_53178_4 rfl (by decide) rfl ?_
  refine T_sub [2, 3, 1, 0] rfl ?_
  exact T_fx (B := f_J7_fill_53178_L5 x0 x1 v1) (fl := fun u => [(0, .ref x0), (1, .int x1), (2, .int (u.1)), (3, .int v1)]) (f := fun u => (u.2)) (fun rec5 hr5 u => t_J7_fill_53178_L5 h hs x0 x1 v1 hk0 rec5 hr5 u) FU ((0 : Int32), σ)
theorem M_J7_fill_53178 (l : Launch) {iv : Sg → Prop} (hi : iv = St) (x0 : Nat) (x1 : Int32) (σ : Sg) (hk0 : kd x0 10) : CTv l yJ7_fill_53178 cJ7_fill_53178 4 none rm_J7_fill_53178 iv [.ref x0, .int x1] σ (f_J7_fill_53178 x0 x1 σ) := by
  subst hi
  exact CT_of (by decide) (Nat.le_of_ble_eq_true rfl) (fun K _ h _ hs _ _ => t_J7_fill_53178 h hs x0 x1 σ hk0)
/-! java/lang/Integer.bitCount(I)I -/
theorem dJ6_bitCount_0f7a4_0 : decode cJ6_bitCount_0f7a4 0 = .ok (.iload_n 0, 1) := by decide +kernel
theorem dJ6_bitCount_0f7a4_1 : decode cJ6_bitCount_0f7a4 1 = .ok (.iload_n 0, 1) := by decide +kernel
theorem dJ6_bitCount_0f7a4_2 : decode cJ6_bitCount_0f7a4 2 = .ok (.iconst 1, 1) := by decide +kernel
theorem dJ6_bitCount_0f7a4_3 : decode cJ6_bitCount_0f7a4 3 = .ok (.iushr, 1) := by decide +kernel
theorem dJ6_bitCount_0f7a4_4 : decode cJ6_bitCount_0f7a4 4 = .ok (.ldc_w 265, 3) := by decide +kernel
theorem dJ6_bitCount_0f7a4_7 : decode cJ6_bitCount_0f7a4 7 = .ok (.iand, 1) := by decide +kernel
theorem dJ6_bitCount_0f7a4_8 : decode cJ6_bitCount_0f7a4 8 = .ok (.isub, 1) := by decide +kernel
theorem dJ6_bitCount_0f7a4_9 : decode cJ6_bitCount_0f7a4 9 = .ok (.istore_n 0, 1) := by decide +kernel
theorem dJ6_bitCount_0f7a4_10 : decode cJ6_bitCount_0f7a4 10 = .ok (.iload_n 0, 1) := by decide +kernel
theorem dJ6_bitCount_0f7a4_11 : decode cJ6_bitCount_0f7a4 11 = .ok (.ldc_w 266, 3) := by decide +kernel
theorem dJ6_bitCount_0f7a4_14 : decode cJ6_bitCount_0f7a4 14 = .ok (.iand, 1) := by decide +kernel
theorem dJ6_bitCount_0f7a4_15 : decode cJ6_bitCount_0f7a4 15 = .ok (.iload_n 0, 1) := by decide +kernel
theorem dJ6_bitCount_0f7a4_16 : decode cJ6_bitCount_0f7a4 16 = .ok (.iconst 2, 1) := by decide +kernel
theorem dJ6_bitCount_0f7a4_17 : decode cJ6_bitCount_0f7a4 17 = .ok (.iushr, 1) := by decide +kernel
theorem dJ6_bitCount_0f7a4_18 : decode cJ6_bitCount_0f7a4 18 = .ok (.ldc_w 266, 3) := by decide +kernel
theorem dJ6_bitCount_0f7a4_21 : decode cJ6_bitCount_0f7a4 21 = .ok (.iand, 1) := by decide +kernel
theorem dJ6_bitCount_0f7a4_22 : decode cJ6_bitCount_0f7a4 22 = .ok (.iadd, 1) := by decide +kernel
theorem dJ6_bitCount_0f7a4_23 : decode cJ6_bitCount_0f7a4 23 = .ok (.istore_n 0, 1) := by decide +kernel
theorem dJ6_bitCount_0f7a4_24 : decode cJ6_bitCount_0f7a4 24 = .ok (.iload_n 0, 1) := by decide +kernel
theorem dJ6_bitCount_0f7a4_25 : decode cJ6_bitCount_0f7a4 25 = .ok (.iload_n 0, 1) := by decide +kernel
theorem dJ6_bitCount_0f7a4_26 : decode cJ6_bitCount_0f7a4 26 = .ok (.iconst 4, 1) := by decide +kernel
theorem dJ6_bitCount_0f7a4_27 : decode cJ6_bitCount_0f7a4 27 = .ok (.iushr, 1) := by decide +kernel
theorem dJ6_bitCount_0f7a4_28 : decode cJ6_bitCount_0f7a4 28 = .ok (.iadd, 1) := by decide +kernel
theorem dJ6_bitCount_0f7a4_29 : decode cJ6_bitCount_0f7a4 29 = .ok (.ldc_w 267, 3) := by decide +kernel
theorem dJ6_bitCount_0f7a4_32 : decode cJ6_bitCount_0f7a4 32 = .ok (.iand, 1) := by decide +kernel
theorem dJ6_bitCount_0f7a4_33 : decode cJ6_bitCount_0f7a4 33 = .ok (.istore_n 0, 1) := by decide +kernel
theorem dJ6_bitCount_0f7a4_34 : decode cJ6_bitCount_0f7a4 34 = .ok (.iload_n 0, 1) := by decide +kernel
theorem dJ6_bitCount_0f7a4_35 : decode cJ6_bitCount_0f7a4 35 = .ok (.iload_n 0, 1) := by decide +kernel
theorem dJ6_bitCount_0f7a4_36 : decode cJ6_bitCount_0f7a4 36 = .ok (.bipush 8, 2) := by decide +kernel
theorem dJ6_bitCount_0f7a4_38 : decode cJ6_bitCount_0f7a4 38 = .ok (.iushr, 1) := by decide +kernel
theorem dJ6_bitCount_0f7a4_39 : decode cJ6_bitCount_0f7a4 39 = .ok (.iadd, 1) := by decide +kernel
theorem dJ6_bitCount_0f7a4_40 : decode cJ6_bitCount_0f7a4 40 = .ok (.istore_n 0, 1) := by decide +kernel
theorem dJ6_bitCount_0f7a4_41 : decode cJ6_bitCount_0f7a4 41 = .ok (.iload_n 0, 1) := by decide +kernel
theorem dJ6_bitCount_0f7a4_42 : decode cJ6_bitCount_0f7a4 42 = .ok (.iload_n 0, 1) := by decide +kernel
theorem dJ6_bitCount_0f7a4_43 : decode cJ6_bitCount_0f7a4 43 = .ok (.bipush 16, 2) := by decide +kernel
theorem dJ6_bitCount_0f7a4_45 : decode cJ6_bitCount_0f7a4 45 = .ok (.iushr, 1) := by decide +kernel
theorem dJ6_bitCount_0f7a4_46 : decode cJ6_bitCount_0f7a4 46 = .ok (.iadd, 1) := by decide +kernel
theorem dJ6_bitCount_0f7a4_47 : decode cJ6_bitCount_0f7a4 47 = .ok (.istore_n 0, 1) := by decide +kernel
theorem dJ6_bitCount_0f7a4_48 : decode cJ6_bitCount_0f7a4 48 = .ok (.iload_n 0, 1) := by decide +kernel
theorem dJ6_bitCount_0f7a4_49 : decode cJ6_bitCount_0f7a4 49 = .ok (.bipush 63, 2) := by decide +kernel
theorem dJ6_bitCount_0f7a4_51 : decode cJ6_bitCount_0f7a4 51 = .ok (.iand, 1) := by decide +kernel
theorem dJ6_bitCount_0f7a4_52 : decode cJ6_bitCount_0f7a4 52 = .ok (.ireturn, 1) := by decide +kernel
abbrev rm_J6_bitCount_0f7a4 : Room := { frames := 0, cells := 0, slots := 0, locals := 0 }
def f_J6_bitCount_0f7a4 (x0 : Int32) (σ : Sg) : Option (Int32 × Sg) := lB ((x0 - ((x0.toUInt32 >>> ((1 : Int32).toUInt32 &&& Int32.toUInt32 31)).toInt32 &&& (1431655765 : Int32)))) fun v1 => lB (((v1 &&& (858993459 : Int32)) + ((v1.toUInt32 >>> ((2 : Int32).toUInt32 &&& Int32.toUInt32 31)).toInt32 &&& (858993459 : Int32)))) fun v2 => lB (((v2 + (v2.toUInt32 >>> ((4 : Int32).toUInt32 &&& Int32.toUInt32 31)).toInt32) &&& (252645135 : Int32))) fun v3 => lB ((v3 + (v3.toUInt32 >>> ((8 : Int32).toUInt32 &&& Int32.toUInt32 31)).toInt32)) fun v4 => lB ((v4 + (v4.toUInt32 >>> ((16 : Int32).toUInt32 &&& Int32.toUInt32 31)).toInt32)) fun v5 => some ((v5 &&& (63 : Int32)), σ)
theorem t_J6_bitCount_0f7a4 {K : Cx} (h : Ok K cJ6_bitCount_0f7a4 RJ6 1 rm_J6_bitCount_0f7a4 (some .int)) (hs : kiv K = St) (x0 : Int32) (σ : Sg)  : T K (QI K) 0 [(0, .int x0)] [] 0 0 σ (f_J6_bitCount_0f7a4 x0 σ) := by
  unfold f_J6_bitCount_0f7a4
  refine T_iload_n (pc := 0) h dJ6_bitCount_0f7a4_0 rfl 0 rfl ?_
  refine T_iload_n (pc := 1) h dJ6_bitCount_0f7a4_1 rfl 0 rfl ?_
  refine T_iconst (pc := 2) h dJ6_bitCount_0f7a4_2 ki_1 ?_
  refine T_iushr (pc := 3) h dJ6_bitCount_0f7a4_3 ?_
  refine T_ldcw (pc := 4) h kc_J6_265 dJ6_bitCount_0f7a4_4 ?_
  refine T_iand (pc := 7) h dJ6_bitCount_0f7a4_7 ?_
  refine T_isub (pc := 8) h dJ6_bitCount_0f7a4_8 ?_
  refine T_letI fun v1 => ?_
  refine T_istore_n (lv' := [(0, .int v1)]) (pc := 9) h dJ6_bitCount_0f7a4_9 rfl (by decide) rfl ?_
  refine T_iload_n (pc := 10) h dJ6_bitCount_0f7a4_10 rfl 0 rfl ?_
  refine T_ldcw (pc := 11) h kc_J6_266 dJ6_bitCount_0f7a4_11 ?_
  refine T_iand (pc := 14) h dJ6_bitCount_0f7a4_14 ?_
  refine T_iload_n (pc := 15) h dJ6_bitCount_0f7a4_15 rfl 0 rfl ?_
  refine T_iconst (pc := 16) h dJ6_bitCount_0f7a4_16 ki_2 ?_
  refine T_iushr (pc := 17) h dJ6_bitCount_0f7a4_17 ?_
  refine T_ldcw (pc := 18) h kc_J6_266 dJ6_bitCount_0f7a4_18 ?_
  refine T_iand (pc := 21) h dJ6_bitCount_0f7a4_21 ?_
  refine T_iadd (pc := 22) h dJ6_bitCount_0f7a4_22 ?_
  refine T_letI fun v2 => ?_
  refine T_istore_n (lv' := [(0, .int v2)]) (pc := 23) h dJ6_bitCount_0f7a4_23 rfl (by decide) rfl ?_
  refine T_iload_n (pc := 24) h dJ6_bitCount_0f7a4_24 rfl 0 rfl ?_
  refine T_iload_n (pc := 25) h dJ6_bitCount_0f7a4_25 rfl 0 rfl ?_
  refine T_iconst (pc := 26) h dJ6_bitCount_0f7a4_26 ki_4 ?_
  refine T_iushr (pc := 27) h dJ6_bitCount_0f7a4_27 ?_
  refine T_iadd (pc := 28) h dJ6_bitCount_0f7a4_28 ?_
  refine T_ldcw (pc := 29) h kc_J6_267 dJ6_bitCount_0f7a4_29 ?_
  refine T_iand (pc := 32) h dJ6_bitCount_0f7a4_32 ?_
  refine T_letI fun v3 => ?_
  refine T_istore_n (lv' := [(0, .int v3)]) (pc := 33) h dJ6_bitCount_0f7a4_33 rfl (by decide) rfl ?_
  refine T_iload_n (pc := 34) h dJ6_bitCount_0f7a4_34 rfl 0 rfl ?_
  refine T_iload_n (pc := 35) h dJ6_bitCount_0f7a4_35 rfl 0 rfl ?_
  refine T_bipush (pc := 36) h dJ6_bitCount_0f7a4_36 kb_8 ?_
  refine T_iushr (pc := 38) h dJ6_bitCount_0f7a4_38 ?_
  refine T_iadd (pc := 39) h dJ6_bitCount_0f7a4_39 ?_
  refine T_letI fun v4 => ?_
  refine T_istore_n (lv' := [(0, .int v4)]) (pc := 40) h dJ6_bitCount_0f7a4_40 rfl (by decide) rfl ?_
  refine T_iload_n (pc := 41) h dJ6_bitCount_0f7a4_41 rfl 0 rfl ?_
  refine T_iload_n (pc := 42) h dJ6_bitCount_0f7a4_42 rfl 0 rfl ?_
  refine T_bipush (pc := 43) h dJ6_bitCount_0f7a4_43 kb_16 ?_
  refine T_iushr (pc := 45) h dJ6_bitCount_0f7a4_45 ?_
  refine T_iadd (pc := 46) h dJ6_bitCount_0f7a4_46 ?_
  refine T_letI fun v5 => ?_
  refine T_istore_n (lv' := [(0, .int v5)]) (pc := 47) h dJ6_bitCount_0f7a4_47 rfl (by decide) rfl ?_
  refine T_iload_n (pc := 48) h dJ6_bitCount_0f7a4_48 rfl 0 rfl ?_
  refine T_bipush (pc := 49) h dJ6_bitCount_0f7a4_49 kb_63 ?_
  refine T_iand (pc := 51) h dJ6_bitCount_0f7a4_51 ?_
  exact T_ireturn (pc := 52) h (Nat.zero_le _) (Nat.zero_le _) dJ6_bitCount_0f7a4_52
theorem M_J6_bitCount_0f7a4 (l : Launch) {iv : Sg → Prop} (hi : iv = St) (x0 : Int32) (σ : Sg)  : CTi l yJ6_bitCount_0f7a4 cJ6_bitCount_0f7a4 1 (some .int) rm_J6_bitCount_0f7a4 iv [.int x0] σ (f_J6_bitCount_0f7a4 x0 σ) := by
  subst hi
  exact CT_of (by decide) (Nat.le_of_ble_eq_true rfl) (fun K _ h _ hs _ _ => t_J6_bitCount_0f7a4 h hs x0 σ )
/-! java/util/Arrays.fill([JJ)V -/
theorem dJ7_fill_d0a16_0 : decode cJ7_fill_d0a16 0 = .ok (.iconst 0, 1) := by decide +kernel
theorem dJ7_fill_d0a16_1 : decode cJ7_fill_d0a16 1 = .ok (.istore_n 3, 1) := by decide +kernel
theorem dJ7_fill_d0a16_2 : decode cJ7_fill_d0a16 2 = .ok (.aload_n 0, 1) := by decide +kernel
theorem dJ7_fill_d0a16_3 : decode cJ7_fill_d0a16 3 = .ok (.arraylength, 1) := by decide +kernel
theorem dJ7_fill_d0a16_4 : decode cJ7_fill_d0a16 4 = .ok (.istore 4, 2) := by decide +kernel
theorem dJ7_fill_d0a16_6 : decode cJ7_fill_d0a16 6 = .ok (.iload_n 3, 1) := by decide +kernel
theorem dJ7_fill_d0a16_7 : decode cJ7_fill_d0a16 7 = .ok (.iload 4, 2) := by decide +kernel
theorem dJ7_fill_d0a16_9 : decode cJ7_fill_d0a16 9 = .ok (.if_icmp .ge 13, 3) := by decide +kernel
theorem dJ7_fill_d0a16_12 : decode cJ7_fill_d0a16 12 = .ok (.aload_n 0, 1) := by decide +kernel
theorem dJ7_fill_d0a16_13 : decode cJ7_fill_d0a16 13 = .ok (.iload_n 3, 1) := by decide +kernel
theorem dJ7_fill_d0a16_14 : decode cJ7_fill_d0a16 14 = .ok (.lload_n 1, 1) := by decide +kernel
theorem dJ7_fill_d0a16_15 : decode cJ7_fill_d0a16 15 = .ok (.lastore, 1) := by decide +kernel
theorem dJ7_fill_d0a16_16 : decode cJ7_fill_d0a16 16 = .ok (.iinc 3 1, 3) := by decide +kernel
theorem dJ7_fill_d0a16_19 : decode cJ7_fill_d0a16 19 = .ok (.goto (-13), 3) := by decide +kernel
theorem dJ7_fill_d0a16_22 : decode cJ7_fill_d0a16 22 = .ok (.return_, 1) := by decide +kernel
abbrev rm_J7_fill_d0a16 : Room := { frames := 0, cells := 0, slots := 0, locals := 0 }
def f_J7_fill_d0a16_L6  (x0 : Nat) (x1 : Int64) (x4 : Int32) (rec6 : Int32 × Sg → Option (Unit × Sg)) (s : Int32 × Sg) : Option (Unit × Sg) := (if x4 ≤ (s.1) then some ((), (s.2)) else ck (inb (s.1) (aL x0)) (lB (pL (s.2) x0 (s.1).toNatClampNeg x1) fun s1 => lB ((s.1) + (1 : Int32)) fun v2 => rec6 (v2, s1)))
def f_J7_fill_d0a16 (x0 : Nat) (x1 : Int64) (σ : Sg) : Option (Unit × Sg) := lB ((Int32.ofNat (aL x0))) fun v1 => fx (f_J7_fill_d0a16_L6 x0 x1 v1) FU ((0 : Int32), σ)
theorem t_J7_fill_d0a16_L6 {K : Cx} (h : Ok K cJ7_fill_d0a16 RJ7 5 rm_J7_fill_d0a16 none) (hs : kiv K = St) (x0 : Nat) (x1 : Int64) (x4 : Int32)  (hk0 : kd x0 11) (rec6 : Int32 × Sg → Option (Unit × Sg)) (hr6 : ∀ u, T K (QV K) 6 [(0, .ref x0), (1, .long x1), (3, .int (u.1)), (4, .int x4)] [] 0 0 (u.2) (rec6 u)) (s : Int32 × Sg) : T K (QV K) 6 [(0, .ref x0), (1, .long x1), (3, .int (s.1)), (4, .int x4)] [] 0 0 (s.2) (f_J7_fill_d0a16_L6 x0 x1 x4 rec6 s) := by
  unfold f_J7_fill_d0a16_L6
  refine T_iload_n (pc := 6) h dJ7_fill_d0a16_6 rfl 2 rfl ?_
  refine T_iload (pc := 7) h dJ7_fill_d0a16_7 3 rfl ?_
  refine T_icmp_ge (pc := 9) (tgt := 22) h dJ7_fill_d0a16_9 (by decide) ?_ ?_
  · exact T_return (pc := 22) h (Nat.zero_le _) (Nat.zero_le _) dJ7_fill_d0a16_22
  · refine T_aload_n (pc := 12) h dJ7_fill_d0a16_12 rfl 0 rfl ?_
    refine T_iload_n (pc := 13) h dJ7_fill_d0a16_13 rfl 2 rfl ?_
    refine T_lload_n (pc := 14) h dJ7_fill_d0a16_14 rfl 1 rfl ?_
    refine T_last (pc := 15) h hs hk0 dJ7_fill_d0a16_15 ?_
    refine T_letS fun s1 => ?_
    refine T_iinc (fl := fun v2 => [(3, .int v2), (0, .ref x0), (1, .long x1), (4, .int x4)]) (pc := 16) h dJ7_fill_d0a16_16 2 rfl ki_1 (by decide) (fun _ => rfl) (fun v2 => ?_)
    refine T_goto (pc := 19) (tgt := 6) h dJ7_fill_d0a16_19 (by decide) ?_
    refine T_sub [1, 2, 0, 3] rfl ?_
    exact hr6 (v2, s1)
theorem t_J7_fill_d0a16 {K : Cx} (h : Ok K cJ7_fill_d0a16 RJ7 5 rm_J7_fill_d0a16 none) (hs : kiv K = St) (x0 : Nat) (x1 : Int64) (σ : Sg) (hk0 : kd x0 11) : T K (QV K) 0 [(0, .ref x0), (1, .long x1)] [] 0 0 σ (f_J7_fill_d0a16 x0 x1 σ) := by
  unfold f_J7_fill_d0a16
  refine T_iconst (pc := 0) h dJ7_fill_d0a16_0 ki_0 ?_
  refine T_istore_n (lv' := [(3, .int (0 : Int32)), (0, .ref x0), (1, .long x1)]) (pc := 1) h dJ7_fill_d0a16_1 rfl (by decide) rfl ?_
  refine T_aload_n (pc := 2) h dJ7_fill_d0a16_2 rfl 1 rfl ?_
  refine T_alen (c := 11) (pc := 3) h hs hk0 (by decide) dJ7_fill_d0a16_3 ?_
  refine T_letI fun v1 => ?_
  refine T_istore (lv' := [(4, .int v1), (3, .int (0 : Int32)), (0, .ref x0), (1, .long x1)]) (pc := 4) h dJ7_fill_d0a16_4 (by decide) rfl ?_
  refine T_sub [2, 3, 1, 0] rfl ?_
  exact T_fx (B := f_J7_fill_d0a16_L6 x0 x1 v1) (fl := fun u => [(0, .ref x0), (1, .long x1), (3, .int (u.1)), (4, .int v1)]) (f := fun u => (u.2)) (fun rec6 hr6 u => t_J7_fill_d0a16_L6 h hs x0 x1 v1 hk0 rec6 hr6 u) FU ((0 : Int32), σ)
theorem M_J7_fill_d0a16 (l : Launch) {iv : Sg → Prop} (hi : iv = St) (x0 : Nat) (x1 : Int64) (σ : Sg) (hk0 : kd x0 11) : CTv l yJ7_fill_d0a16 cJ7_fill_d0a16 5 none rm_J7_fill_d0a16 iv [.ref x0, .long x1] σ (f_J7_fill_d0a16 x0 x1 σ) := by
  subst hi
  exact CT_of (by decide) (Nat.le_of_ble_eq_true rfl) (fun K _ h _ hs _ _ => t_J7_fill_d0a16 h hs x0 x1 σ hk0)
