/-! constructors: words of the tables -/
theorem ob_in : Cond.instanceMethod Lib.objectInit ∈ gw_tbl := mw (i := 21) (by decide +kernel) (by decide +kernel)
theorem ob_cd : Cond.code Lib.objectInit ⟨#[0xb1]⟩ 1 none ∈ gw_tbl := mw (i := 22) (by decide +kernel) (by decide +kernel)
theorem ckb_11 : (Int8.ofInt (11)).toInt32 = (11 : Int32) := by decide +kernel
theorem ckb_15 : (Int8.ofInt (15)).toInt32 = (15 : Int32) := by decide +kernel
theorem ckb_20 : (Int8.ofInt (20)).toInt32 = (20 : Int32) := by decide +kernel
theorem ckb_30 : (Int8.ofInt (30)).toInt32 = (30 : Int32) := by decide +kernel
theorem ckb_56 : (Int8.ofInt (56)).toInt32 = (56 : Int32) := by decide +kernel
theorem cks_140 : (Int16.ofInt (140)).toInt32 = (140 : Int32) := by decide +kernel
theorem cks_192 : (Int16.ofInt (192)).toInt32 = (192 : Int32) := by decide +kernel
theorem cks_196 : (Int16.ofInt (196)).toInt32 = (196 : Int32) := by decide +kernel
theorem cks_256 : (Int16.ofInt (256)).toInt32 = (256 : Int32) := by decide +kernel
theorem cks_1792 : (Int16.ofInt (1792)).toInt32 = (1792 : Int32) := by decide +kernel
theorem ml_X8_1 : Cond.methodLink RX8 1 Lib.objectInit ∈ gw_tbl := mw (i := 20) (by decide +kernel) (by decide +kernel)
theorem cl_X8_7 : Cond.classLink RX8 7 (clT 1).1 ∈ gw_tbl := mw (i := 23) (by decide +kernel) (by decide +kernel)
theorem ins_1 : Cond.instantiable (clT 1).1 (clT 1).2.2 ∈ gw_tbl := mw (i := 24) (by decide +kernel) (by decide +kernel)
theorem ini_1 : Cond.initialized (clT 1).1 ∈ gw_tbl := mw (i := 2) (by decide +kernel) (by decide +kernel)
theorem ml_X1_1 : Cond.methodLink RX1 1 Lib.objectInit ∈ gw_tbl := mw (i := 28) (by decide +kernel) (by decide +kernel)
theorem arc_int : Cond.arrayClass .int ∈ gw_tbl := mw (i := 47) (by decide +kernel) (by decide +kernel)
theorem fl_X1_13 : FL RX1 13 1 1 := ⟨by decide, by decide, mw (i := 33) (by decide +kernel) (by decide +kernel)⟩
theorem mi_X1_init : MI yX1_init cX1_init 1 0 := ⟨rfl, ⟨by decide, by decide, by decide +kernel⟩, mw (i := 26) (by decide +kernel) (by decide +kernel), mw (i := 2) (by decide +kernel) (by decide +kernel), mw (i := 27) (by decide +kernel) (by decide +kernel)⟩
theorem cl_X8_16 : Cond.classLink RX8 16 (clT 2).1 ∈ gw_tbl := mw (i := 48) (by decide +kernel) (by decide +kernel)
theorem ins_2 : Cond.instantiable (clT 2).1 (clT 2).2.2 ∈ gw_tbl := mw (i := 49) (by decide +kernel) (by decide +kernel)
theorem ini_2 : Cond.initialized (clT 2).1 ∈ gw_tbl := mw (i := 3) (by decide +kernel) (by decide +kernel)
theorem ml_X2_1 : Cond.methodLink RX2 1 Lib.objectInit ∈ gw_tbl := mw (i := 53) (by decide +kernel) (by decide +kernel)
theorem mi_X2_init : MI yX2_init cX2_init 1 0 := ⟨rfl, ⟨by decide, by decide, by decide +kernel⟩, mw (i := 51) (by decide +kernel) (by decide +kernel), mw (i := 3) (by decide +kernel) (by decide +kernel), mw (i := 52) (by decide +kernel) (by decide +kernel)⟩
theorem cl_X8_23 : Cond.classLink RX8 23 (clT 0).1 ∈ gw_tbl := mw (i := 94) (by decide +kernel) (by decide +kernel)
theorem ins_0 : Cond.instantiable (clT 0).1 (clT 0).2.2 ∈ gw_tbl := mw (i := 95) (by decide +kernel) (by decide +kernel)
theorem ini_0 : Cond.initialized (clT 0).1 ∈ gw_tbl := mw (i := 4) (by decide +kernel) (by decide +kernel)
theorem ml_X0_1 : Cond.methodLink RX0 1 Lib.objectInit ∈ gw_tbl := mw (i := 99) (by decide +kernel) (by decide +kernel)
theorem ml_X8_25 : Cond.methodLink RX8 25 yX0_init ∈ gw_tbl := mw (i := 96) (by decide +kernel) (by decide +kernel)
theorem mi_X0_init : MI yX0_init cX0_init 3 2 := ⟨rfl, ⟨by decide, by decide, by decide +kernel⟩, mw (i := 97) (by decide +kernel) (by decide +kernel), mw (i := 4) (by decide +kernel) (by decide +kernel), mw (i := 98) (by decide +kernel) (by decide +kernel)⟩
theorem cl_X8_32 : Cond.classLink RX8 32 (clT 5).1 ∈ gw_tbl := mw (i := 144) (by decide +kernel) (by decide +kernel)
theorem ins_5 : Cond.instantiable (clT 5).1 (clT 5).2.2 ∈ gw_tbl := mw (i := 145) (by decide +kernel) (by decide +kernel)
theorem ini_5 : Cond.initialized (clT 5).1 ∈ gw_tbl := mw (i := 5) (by decide +kernel) (by decide +kernel)
theorem ml_X5_7 : Cond.methodLink RX5 7 Lib.objectInit ∈ gw_tbl := mw (i := 149) (by decide +kernel) (by decide +kernel)
theorem cl_X5_13 : Cond.classLink RX5 13 (clT 7).1 ∈ gw_tbl := mw (i := 150) (by decide +kernel) (by decide +kernel)
theorem ins_7 : Cond.instantiable (clT 7).1 (clT 7).2.2 ∈ gw_tbl := mw (i := 151) (by decide +kernel) (by decide +kernel)
theorem ini_7 : Cond.initialized (clT 7).1 ∈ gw_tbl := mw (i := 6) (by decide +kernel) (by decide +kernel)
theorem ml_X7_1 : Cond.methodLink RX7 1 Lib.objectInit ∈ gw_tbl := mw (i := 155) (by decide +kernel) (by decide +kernel)
theorem arc_long : Cond.arrayClass .long ∈ gw_tbl := mw (i := 177) (by decide +kernel) (by decide +kernel)
theorem mi_X7_init : MI yX7_init cX7_init 1 0 := ⟨rfl, ⟨by decide, by decide, by decide +kernel⟩, mw (i := 153) (by decide +kernel) (by decide +kernel), mw (i := 6) (by decide +kernel) (by decide +kernel), mw (i := 154) (by decide +kernel) (by decide +kernel)⟩
theorem arc_boolean : Cond.arrayClass .boolean ∈ gw_tbl := mw (i := 206) (by decide +kernel) (by decide +kernel)
theorem ml_X8_34 : Cond.methodLink RX8 34 yX5_init ∈ gw_tbl := mw (i := 146) (by decide +kernel) (by decide +kernel)
theorem mi_X5_init : MI yX5_init cX5_init 4 3 := ⟨rfl, ⟨by decide, by decide, by decide +kernel⟩, mw (i := 147) (by decide +kernel) (by decide +kernel), mw (i := 5) (by decide +kernel) (by decide +kernel), mw (i := 148) (by decide +kernel) (by decide +kernel)⟩
theorem cl_X8_41 : Cond.classLink RX8 41 (clT 4).1 ∈ gw_tbl := mw (i := 207) (by decide +kernel) (by decide +kernel)
theorem ins_4 : Cond.instantiable (clT 4).1 (clT 4).2.2 ∈ gw_tbl := mw (i := 208) (by decide +kernel) (by decide +kernel)
theorem ini_4 : Cond.initialized (clT 4).1 ∈ gw_tbl := mw (i := 7) (by decide +kernel) (by decide +kernel)
theorem ml_X4_1 : Cond.methodLink RX4 1 Lib.objectInit ∈ gw_tbl := mw (i := 212) (by decide +kernel) (by decide +kernel)
theorem ml_X8_45 : Cond.methodLink RX8 45 yX4_init ∈ gw_tbl := mw (i := 209) (by decide +kernel) (by decide +kernel)
theorem mi_X4_init : MI yX4_init cX4_init 2 1 := ⟨rfl, ⟨by decide, by decide, by decide +kernel⟩, mw (i := 210) (by decide +kernel) (by decide +kernel), mw (i := 7) (by decide +kernel) (by decide +kernel), mw (i := 211) (by decide +kernel) (by decide +kernel)⟩
theorem cl_X8_43 : Cond.classLink RX8 43 (clT 3).1 ∈ gw_tbl := mw (i := 224) (by decide +kernel) (by decide +kernel)
theorem ins_3 : Cond.instantiable (clT 3).1 (clT 3).2.2 ∈ gw_tbl := mw (i := 225) (by decide +kernel) (by decide +kernel)
theorem ini_3 : Cond.initialized (clT 3).1 ∈ gw_tbl := mw (i := 8) (by decide +kernel) (by decide +kernel)
theorem ml_X3_5 : Cond.methodLink RX3 5 Lib.objectInit ∈ gw_tbl := mw (i := 229) (by decide +kernel) (by decide +kernel)
theorem ml_X8_52 : Cond.methodLink RX8 52 yX3_init ∈ gw_tbl := mw (i := 226) (by decide +kernel) (by decide +kernel)
theorem mi_X3_init : MI yX3_init cX3_init 2 1 := ⟨rfl, ⟨by decide, by decide, by decide +kernel⟩, mw (i := 227) (by decide +kernel) (by decide +kernel), mw (i := 8) (by decide +kernel) (by decide +kernel), mw (i := 228) (by decide +kernel) (by decide +kernel)⟩
theorem cl_X8_62 : Cond.classLink RX8 62 (clT 6).1 ∈ gw_tbl := mw (i := 262) (by decide +kernel) (by decide +kernel)
theorem ins_6 : Cond.instantiable (clT 6).1 (clT 6).2.2 ∈ gw_tbl := mw (i := 266) (by decide +kernel) (by decide +kernel)
theorem ini_6 : Cond.initialized (clT 6).1 ∈ gw_tbl := mw (i := 9) (by decide +kernel) (by decide +kernel)
theorem cl_mm : Cond.classLink RX8 68 "[[I" ∈ gw_tbl := mw (i := 264) (by decide +kernel) (by decide +kernel)
theorem ml_X6_1 : Cond.methodLink RX6 1 Lib.objectInit ∈ gw_tbl := mw (i := 270) (by decide +kernel) (by decide +kernel)
theorem mi_X6_init : MI yX6_init cX6_init 1 0 := ⟨rfl, ⟨by decide, by decide, by decide +kernel⟩, mw (i := 268) (by decide +kernel) (by decide +kernel), mw (i := 9) (by decide +kernel) (by decide +kernel), mw (i := 269) (by decide +kernel) (by decide +kernel)⟩
theorem ml_X9_1 : Cond.methodLink RX9 1 Lib.objectInit ∈ gw_tbl := mw (i := 823) (by decide +kernel) (by decide +kernel)
/-! LuteTabs$Lute.<init>()V [] -/
theorem dX1_init_0 : decode cX1_init 0 = .ok (.aload_n 0, 1) := by decide +kernel
theorem dX1_init_1 : decode cX1_init 1 = .ok (.invokespecial 1, 3) := by decide +kernel
theorem dX1_init_4 : decode cX1_init 4 = .ok (.aload_n 0, 1) := by decide +kernel
theorem dX1_init_5 : decode cX1_init 5 = .ok (.iconst 5, 1) := by decide +kernel
theorem dX1_init_6 : decode cX1_init 6 = .ok (.putfield 9, 3) := by decide +kernel
theorem dX1_init_9 : decode cX1_init 9 = .ok (.aload_n 0, 1) := by decide +kernel
theorem dX1_init_10 : decode cX1_init 10 = .ok (.iconst 5, 1) := by decide +kernel
theorem dX1_init_11 : decode cX1_init 11 = .ok (.newarray .int, 2) := by decide +kernel
theorem dX1_init_13 : decode cX1_init 13 = .ok (.dup, 1) := by decide +kernel
theorem dX1_init_14 : decode cX1_init 14 = .ok (.iconst 0, 1) := by decide +kernel
theorem dX1_init_15 : decode cX1_init 15 = .ok (.bipush 20, 2) := by decide +kernel
theorem dX1_init_17 : decode cX1_init 17 = .ok (.iastore, 1) := by decide +kernel
theorem dX1_init_18 : decode cX1_init 18 = .ok (.dup, 1) := by decide +kernel
theorem dX1_init_19 : decode cX1_init 19 = .ok (.iconst 1, 1) := by decide +kernel
theorem dX1_init_20 : decode cX1_init 20 = .ok (.bipush 15, 2) := by decide +kernel
theorem dX1_init_22 : decode cX1_init 22 = .ok (.iastore, 1) := by decide +kernel
theorem dX1_init_23 : decode cX1_init 23 = .ok (.dup, 1) := by decide +kernel
theorem dX1_init_24 : decode cX1_init 24 = .ok (.iconst 2, 1) := by decide +kernel
theorem dX1_init_25 : decode cX1_init 25 = .ok (.bipush 11, 2) := by decide +kernel
theorem dX1_init_27 : decode cX1_init 27 = .ok (.iastore, 1) := by decide +kernel
theorem dX1_init_28 : decode cX1_init 28 = .ok (.dup, 1) := by decide +kernel
theorem dX1_init_29 : decode cX1_init 29 = .ok (.iconst 3, 1) := by decide +kernel
theorem dX1_init_30 : decode cX1_init 30 = .ok (.bipush 6, 2) := by decide +kernel
theorem dX1_init_32 : decode cX1_init 32 = .ok (.iastore, 1) := by decide +kernel
theorem dX1_init_33 : decode cX1_init 33 = .ok (.dup, 1) := by decide +kernel
theorem dX1_init_34 : decode cX1_init 34 = .ok (.iconst 4, 1) := by decide +kernel
theorem dX1_init_35 : decode cX1_init 35 = .ok (.iconst 0, 1) := by decide +kernel
theorem dX1_init_36 : decode cX1_init 36 = .ok (.iastore, 1) := by decide +kernel
theorem dX1_init_37 : decode cX1_init 37 = .ok (.putfield 13, 3) := by decide +kernel
theorem dX1_init_40 : decode cX1_init 40 = .ok (.aload_n 0, 1) := by decide +kernel
theorem dX1_init_41 : decode cX1_init 41 = .ok (.iconst 5, 1) := by decide +kernel
theorem dX1_init_42 : decode cX1_init 42 = .ok (.newarray .int, 2) := by decide +kernel
theorem dX1_init_44 : decode cX1_init 44 = .ok (.dup, 1) := by decide +kernel
theorem dX1_init_45 : decode cX1_init 45 = .ok (.iconst 0, 1) := by decide +kernel
theorem dX1_init_46 : decode cX1_init 46 = .ok (.bipush 7, 2) := by decide +kernel
theorem dX1_init_48 : decode cX1_init 48 = .ok (.iastore, 1) := by decide +kernel
theorem dX1_init_49 : decode cX1_init 49 = .ok (.dup, 1) := by decide +kernel
theorem dX1_init_50 : decode cX1_init 50 = .ok (.iconst 1, 1) := by decide +kernel
theorem dX1_init_51 : decode cX1_init 51 = .ok (.iconst 3, 1) := by decide +kernel
theorem dX1_init_52 : decode cX1_init 52 = .ok (.iastore, 1) := by decide +kernel
theorem dX1_init_53 : decode cX1_init 53 = .ok (.dup, 1) := by decide +kernel
theorem dX1_init_54 : decode cX1_init 54 = .ok (.iconst 2, 1) := by decide +kernel
theorem dX1_init_55 : decode cX1_init 55 = .ok (.iconst 2, 1) := by decide +kernel
theorem dX1_init_56 : decode cX1_init 56 = .ok (.iastore, 1) := by decide +kernel
theorem dX1_init_57 : decode cX1_init 57 = .ok (.dup, 1) := by decide +kernel
theorem dX1_init_58 : decode cX1_init 58 = .ok (.iconst 3, 1) := by decide +kernel
theorem dX1_init_59 : decode cX1_init 59 = .ok (.iconst 1, 1) := by decide +kernel
theorem dX1_init_60 : decode cX1_init 60 = .ok (.iastore, 1) := by decide +kernel
theorem dX1_init_61 : decode cX1_init 61 = .ok (.dup, 1) := by decide +kernel
theorem dX1_init_62 : decode cX1_init 62 = .ok (.iconst 4, 1) := by decide +kernel
theorem dX1_init_63 : decode cX1_init 63 = .ok (.iconst 1, 1) := by decide +kernel
theorem dX1_init_64 : decode cX1_init 64 = .ok (.iastore, 1) := by decide +kernel
theorem dX1_init_65 : decode cX1_init 65 = .ok (.putfield 17, 3) := by decide +kernel
theorem dX1_init_68 : decode cX1_init 68 = .ok (.return_, 1) := by decide +kernel
abbrev rm_X1_init : Room := { frames := 1, cells := 2, slots := 10, locals := 20 }
def f_X1_init (x0 : Nat) (σ : Sg) : Option (Unit × Sg) := ck (gk σ x0 1) (lB (pI σ x0 0 (5 : Int32)) fun s1 => ck (gnew s1) (lB (newS s1 (10, 5)) fun s2 => ck (gi s2 (s1.1.length) (0 : Int32)) (lB (pI s2 (s1.1.length) (0 : Int32).toNatClampNeg (20 : Int32)) fun s3 => ck (gi s3 (s1.1.length) (1 : Int32)) (lB (pI s3 (s1.1.length) (1 : Int32).toNatClampNeg (15 : Int32)) fun s4 => ck (gi s4 (s1.1.length) (2 : Int32)) (lB (pI s4 (s1.1.length) (2 : Int32).toNatClampNeg (11 : Int32)) fun s5 => ck (gi s5 (s1.1.length) (3 : Int32)) (lB (pI s5 (s1.1.length) (3 : Int32).toNatClampNeg (6 : Int32)) fun s6 => ck (gi s6 (s1.1.length) (4 : Int32)) (lB (pI s6 (s1.1.length) (4 : Int32).toNatClampNeg (0 : Int32)) fun s7 => ck (gk s7 x0 1) (ck (glt s7 (s1.1.length)) (lB (pR s7 x0 1 (s1.1.length)) fun s8 => ck (gnew s8) (lB (newS s8 (10, 5)) fun s9 => ck (gi s9 (s8.1.length) (0 : Int32)) (lB (pI s9 (s8.1.length) (0 : Int32).toNatClampNeg (7 : Int32)) fun s10 => ck (gi s10 (s8.1.length) (1 : Int32)) (lB (pI s10 (s8.1.length) (1 : Int32).toNatClampNeg (3 : Int32)) fun s11 => ck (gi s11 (s8.1.length) (2 : Int32)) (lB (pI s11 (s8.1.length) (2 : Int32).toNatClampNeg (2 : Int32)) fun s12 => ck (gi s12 (s8.1.length) (3 : Int32)) (lB (pI s12 (s8.1.length) (3 : Int32).toNatClampNeg (1 : Int32)) fun s13 => ck (gi s13 (s8.1.length) (4 : Int32)) (lB (pI s13 (s8.1.length) (4 : Int32).toNatClampNeg (1 : Int32)) fun s14 => ck (gk s14 x0 1) (ck (glt s14 (s8.1.length)) (lB (pR s14 x0 2 (s8.1.length)) fun s15 => some ((), s15))))))))))))))))))
theorem t_X1_init {K : Cx} (h : Ok K cX1_init RX1 1 rm_X1_init none) (hg : kiv K = Gr) (hin : (kme K).name = "<init>") (hc1 : kmc K = rm_X1_init.cells) (hc2 : kms K = rm_X1_init.slots) (x0 : Nat) (σ : Sg) : T K (QV K) 0 [(0, .ref x0)] [] 0 0 σ (f_X1_init x0 σ) := by
  unfold f_X1_init
  refine T_aload_n (pc := 0) h dX1_init_0 rfl 0 rfl ?_
  refine T_objI (pc := 1) h ml_X1_1 ob_in ob_cd ⟨Nat.le_of_ble_eq_true rfl, Nat.le_of_ble_eq_true rfl⟩ (Nat.le_of_ble_eq_true rfl) dX1_init_1 ?_
  refine T_aload_n (pc := 4) h dX1_init_4 rfl 0 rfl ?_
  refine T_iconst (pc := 5) h dX1_init_5 ki_5 ?_
  refine T_putXG (c := 1) (ty := .int) (pc := 6) h hg fl_X1_9 (Or.inl rfl) rfl rfl rfl rfl dX1_init_6 ?_
  refine T_letS fun s1 => ?_
  refine T_aload_n (pc := 9) h dX1_init_9 rfl 0 rfl ?_
  refine T_iconst (pc := 10) h dX1_init_10 ki_5 ?_
  refine T_newI (N := 5) (pc := 11) h hg arc_int (by decide) (by decide) (by decide) ⟨Nat.le_of_ble_eq_true rfl, Nat.le_of_ble_eq_true rfl⟩ dX1_init_11 ?_
  refine T_letS fun s2 => ?_
  refine T_dup (pc := 13) h dX1_init_13 rfl ?_
  refine T_iconst (pc := 14) h dX1_init_14 ki_0 ?_
  refine T_bipush (pc := 15) h dX1_init_15 ckb_20 ?_
  refine T_iastG (pc := 17) h hg dX1_init_17 ?_
  refine T_letS fun s3 => ?_
  refine T_dup (pc := 18) h dX1_init_18 rfl ?_
  refine T_iconst (pc := 19) h dX1_init_19 ki_1 ?_
  refine T_bipush (pc := 20) h dX1_init_20 ckb_15 ?_
  refine T_iastG (pc := 22) h hg dX1_init_22 ?_
  refine T_letS fun s4 => ?_
  refine T_dup (pc := 23) h dX1_init_23 rfl ?_
  refine T_iconst (pc := 24) h dX1_init_24 ki_2 ?_
  refine T_bipush (pc := 25) h dX1_init_25 ckb_11 ?_
  refine T_iastG (pc := 27) h hg dX1_init_27 ?_
  refine T_letS fun s5 => ?_
  refine T_dup (pc := 28) h dX1_init_28 rfl ?_
  refine T_iconst (pc := 29) h dX1_init_29 ki_3 ?_
  refine T_bipush (pc := 30) h dX1_init_30 kb_6 ?_
  refine T_iastG (pc := 32) h hg dX1_init_32 ?_
  refine T_letS fun s6 => ?_
  refine T_dup (pc := 33) h dX1_init_33 rfl ?_
  refine T_iconst (pc := 34) h dX1_init_34 ki_4 ?_
  refine T_iconst (pc := 35) h dX1_init_35 ki_0 ?_
  refine T_iastG (pc := 36) h hg dX1_init_36 ?_
  refine T_letS fun s7 => ?_
  refine T_putRG (c := 1) (pc := 37) h hg fl_X1_13 (Or.inr ⟨rfl, hin, rfl⟩) rfl rfl (fun _ => rfl) (fun _ => rfl) dX1_init_37 ?_
  refine T_letS fun s8 => ?_
  refine T_aload_n (pc := 40) h dX1_init_40 rfl 0 rfl ?_
  refine T_iconst (pc := 41) h dX1_init_41 ki_5 ?_
  refine T_newI (N := 5) (pc := 42) h hg arc_int (by decide) (by decide) (by decide) ⟨Nat.le_of_ble_eq_true rfl, Nat.le_of_ble_eq_true rfl⟩ dX1_init_42 ?_
  refine T_letS fun s9 => ?_
  refine T_dup (pc := 44) h dX1_init_44 rfl ?_
  refine T_iconst (pc := 45) h dX1_init_45 ki_0 ?_
  refine T_bipush (pc := 46) h dX1_init_46 kb_7 ?_
  refine T_iastG (pc := 48) h hg dX1_init_48 ?_
  refine T_letS fun s10 => ?_
  refine T_dup (pc := 49) h dX1_init_49 rfl ?_
  refine T_iconst (pc := 50) h dX1_init_50 ki_1 ?_
  refine T_iconst (pc := 51) h dX1_init_51 ki_3 ?_
  refine T_iastG (pc := 52) h hg dX1_init_52 ?_
  refine T_letS fun s11 => ?_
  refine T_dup (pc := 53) h dX1_init_53 rfl ?_
  refine T_iconst (pc := 54) h dX1_init_54 ki_2 ?_
  refine T_iconst (pc := 55) h dX1_init_55 ki_2 ?_
  refine T_iastG (pc := 56) h hg dX1_init_56 ?_
  refine T_letS fun s12 => ?_
  refine T_dup (pc := 57) h dX1_init_57 rfl ?_
  refine T_iconst (pc := 58) h dX1_init_58 ki_3 ?_
  refine T_iconst (pc := 59) h dX1_init_59 ki_1 ?_
  refine T_iastG (pc := 60) h hg dX1_init_60 ?_
  refine T_letS fun s13 => ?_
  refine T_dup (pc := 61) h dX1_init_61 rfl ?_
  refine T_iconst (pc := 62) h dX1_init_62 ki_4 ?_
  refine T_iconst (pc := 63) h dX1_init_63 ki_1 ?_
  refine T_iastG (pc := 64) h hg dX1_init_64 ?_
  refine T_letS fun s14 => ?_
  refine T_putRG (c := 1) (pc := 65) h hg fl_X1_17 (Or.inr ⟨rfl, hin, rfl⟩) rfl rfl (fun _ => rfl) (fun _ => rfl) dX1_init_65 ?_
  refine T_letS fun s15 => ?_
  exact T_return (pc := 68) h (by rw [hc1]; exact Nat.le_of_ble_eq_true rfl) (by rw [hc2]; exact Nat.le_of_ble_eq_true rfl) dX1_init_68
theorem M_X1_init (l : Launch) {iv : Sg → Prop} (hi : iv = Gr) (x0 : Nat) (σ : Sg) : CTv l yX1_init cX1_init 1 none rm_X1_init iv [.ref x0] σ (f_X1_init x0 σ) := by
  subst hi
  exact CT_of (by decide) (Nat.le_of_ble_eq_true rfl) (fun K _ h hin hg hc1 hc2 => t_X1_init h hg (hin rfl) hc1 hc2 x0 σ)
/-! LuteTabs$Notes.<init>()V [] -/
theorem dX2_init_0 : decode cX2_init 0 = .ok (.aload_n 0, 1) := by decide +kernel
theorem dX2_init_1 : decode cX2_init 1 = .ok (.invokespecial 1, 3) := by decide +kernel
theorem dX2_init_4 : decode cX2_init 4 = .ok (.aload_n 0, 1) := by decide +kernel
theorem dX2_init_5 : decode cX2_init 5 = .ok (.bipush 14, 2) := by decide +kernel
theorem dX2_init_7 : decode cX2_init 7 = .ok (.newarray .int, 2) := by decide +kernel
theorem dX2_init_9 : decode cX2_init 9 = .ok (.putfield 9, 3) := by decide +kernel
theorem dX2_init_12 : decode cX2_init 12 = .ok (.aload_n 0, 1) := by decide +kernel
theorem dX2_init_13 : decode cX2_init 13 = .ok (.bipush 14, 2) := by decide +kernel
theorem dX2_init_15 : decode cX2_init 15 = .ok (.newarray .int, 2) := by decide +kernel
theorem dX2_init_17 : decode cX2_init 17 = .ok (.putfield 13, 3) := by decide +kernel
theorem dX2_init_20 : decode cX2_init 20 = .ok (.aload_n 0, 1) := by decide +kernel
theorem dX2_init_21 : decode cX2_init 21 = .ok (.bipush 14, 2) := by decide +kernel
theorem dX2_init_23 : decode cX2_init 23 = .ok (.newarray .int, 2) := by decide +kernel
theorem dX2_init_25 : decode cX2_init 25 = .ok (.putfield 16, 3) := by decide +kernel
theorem dX2_init_28 : decode cX2_init 28 = .ok (.aload_n 0, 1) := by decide +kernel
theorem dX2_init_29 : decode cX2_init 29 = .ok (.bipush 14, 2) := by decide +kernel
theorem dX2_init_31 : decode cX2_init 31 = .ok (.newarray .int, 2) := by decide +kernel
theorem dX2_init_33 : decode cX2_init 33 = .ok (.putfield 19, 3) := by decide +kernel
theorem dX2_init_36 : decode cX2_init 36 = .ok (.aload_n 0, 1) := by decide +kernel
theorem dX2_init_37 : decode cX2_init 37 = .ok (.bipush 15, 2) := by decide +kernel
theorem dX2_init_39 : decode cX2_init 39 = .ok (.newarray .int, 2) := by decide +kernel
theorem dX2_init_41 : decode cX2_init 41 = .ok (.putfield 22, 3) := by decide +kernel
theorem dX2_init_44 : decode cX2_init 44 = .ok (.aload_n 0, 1) := by decide +kernel
theorem dX2_init_45 : decode cX2_init 45 = .ok (.bipush 14, 2) := by decide +kernel
theorem dX2_init_47 : decode cX2_init 47 = .ok (.newarray .int, 2) := by decide +kernel
theorem dX2_init_49 : decode cX2_init 49 = .ok (.putfield 25, 3) := by decide +kernel
theorem dX2_init_52 : decode cX2_init 52 = .ok (.aload_n 0, 1) := by decide +kernel
theorem dX2_init_53 : decode cX2_init 53 = .ok (.iconst 0, 1) := by decide +kernel
theorem dX2_init_54 : decode cX2_init 54 = .ok (.putfield 28, 3) := by decide +kernel
theorem dX2_init_57 : decode cX2_init 57 = .ok (.aload_n 0, 1) := by decide +kernel
theorem dX2_init_58 : decode cX2_init 58 = .ok (.iconst 0, 1) := by decide +kernel
theorem dX2_init_59 : decode cX2_init 59 = .ok (.putfield 32, 3) := by decide +kernel
theorem dX2_init_62 : decode cX2_init 62 = .ok (.return_, 1) := by decide +kernel
abbrev rm_X2_init : Room := { frames := 1, cells := 6, slots := 85, locals := 20 }
def f_X2_init (x0 : Nat) (σ : Sg) : Option (Unit × Sg) := ck (gnew σ) (lB (newS σ (10, 14)) fun s1 => ck (gk s1 x0 2) (ck (glt s1 (σ.1.length)) (lB (pR s1 x0 0 (σ.1.length)) fun s2 => ck (gnew s2) (lB (newS s2 (10, 14)) fun s3 => ck (gk s3 x0 2) (ck (glt s3 (s2.1.length)) (lB (pR s3 x0 1 (s2.1.length)) fun s4 => ck (gnew s4) (lB (newS s4 (10, 14)) fun s5 => ck (gk s5 x0 2) (ck (glt s5 (s4.1.length)) (lB (pR s5 x0 2 (s4.1.length)) fun s6 => ck (gnew s6) (lB (newS s6 (10, 14)) fun s7 => ck (gk s7 x0 2) (ck (glt s7 (s6.1.length)) (lB (pR s7 x0 3 (s6.1.length)) fun s8 => ck (gnew s8) (lB (newS s8 (10, 15)) fun s9 => ck (gk s9 x0 2) (ck (glt s9 (s8.1.length)) (lB (pR s9 x0 4 (s8.1.length)) fun s10 => ck (gnew s10) (lB (newS s10 (10, 14)) fun s11 => ck (gk s11 x0 2) (ck (glt s11 (s10.1.length)) (lB (pR s11 x0 5 (s10.1.length)) fun s12 => ck (gk s12 x0 2) (lB (pI s12 x0 6 (0 : Int32)) fun s13 => ck (gk s13 x0 2) (lB (pI s13 x0 7 (0 : Int32)) fun s14 => some ((), s14)))))))))))))))))))))
theorem t_X2_init {K : Cx} (h : Ok K cX2_init RX2 1 rm_X2_init none) (hg : kiv K = Gr) (hin : (kme K).name = "<init>") (hc1 : kmc K = rm_X2_init.cells) (hc2 : kms K = rm_X2_init.slots) (x0 : Nat) (σ : Sg) : T K (QV K) 0 [(0, .ref x0)] [] 0 0 σ (f_X2_init x0 σ) := by
  unfold f_X2_init
  refine T_aload_n (pc := 0) h dX2_init_0 rfl 0 rfl ?_
  refine T_objI (pc := 1) h ml_X2_1 ob_in ob_cd ⟨Nat.le_of_ble_eq_true rfl, Nat.le_of_ble_eq_true rfl⟩ (Nat.le_of_ble_eq_true rfl) dX2_init_1 ?_
  refine T_aload_n (pc := 4) h dX2_init_4 rfl 0 rfl ?_
  refine T_bipush (pc := 5) h dX2_init_5 kb_14 ?_
  refine T_newI (N := 14) (pc := 7) h hg arc_int (by decide) (by decide) (by decide) ⟨Nat.le_of_ble_eq_true rfl, Nat.le_of_ble_eq_true rfl⟩ dX2_init_7 ?_
  refine T_letS fun s1 => ?_
  refine T_putRG (c := 2) (pc := 9) h hg fl_X2_9 (Or.inr ⟨rfl, hin, rfl⟩) rfl rfl (fun _ => rfl) (fun _ => rfl) dX2_init_9 ?_
  refine T_letS fun s2 => ?_
  refine T_aload_n (pc := 12) h dX2_init_12 rfl 0 rfl ?_
  refine T_bipush (pc := 13) h dX2_init_13 kb_14 ?_
  refine T_newI (N := 14) (pc := 15) h hg arc_int (by decide) (by decide) (by decide) ⟨Nat.le_of_ble_eq_true rfl, Nat.le_of_ble_eq_true rfl⟩ dX2_init_15 ?_
  refine T_letS fun s3 => ?_
  refine T_putRG (c := 2) (pc := 17) h hg fl_X2_13 (Or.inr ⟨rfl, hin, rfl⟩) rfl rfl (fun _ => rfl) (fun _ => rfl) dX2_init_17 ?_
  refine T_letS fun s4 => ?_
  refine T_aload_n (pc := 20) h dX2_init_20 rfl 0 rfl ?_
  refine T_bipush (pc := 21) h dX2_init_21 kb_14 ?_
  refine T_newI (N := 14) (pc := 23) h hg arc_int (by decide) (by decide) (by decide) ⟨Nat.le_of_ble_eq_true rfl, Nat.le_of_ble_eq_true rfl⟩ dX2_init_23 ?_
  refine T_letS fun s5 => ?_
  refine T_putRG (c := 2) (pc := 25) h hg fl_X2_16 (Or.inr ⟨rfl, hin, rfl⟩) rfl rfl (fun _ => rfl) (fun _ => rfl) dX2_init_25 ?_
  refine T_letS fun s6 => ?_
  refine T_aload_n (pc := 28) h dX2_init_28 rfl 0 rfl ?_
  refine T_bipush (pc := 29) h dX2_init_29 kb_14 ?_
  refine T_newI (N := 14) (pc := 31) h hg arc_int (by decide) (by decide) (by decide) ⟨Nat.le_of_ble_eq_true rfl, Nat.le_of_ble_eq_true rfl⟩ dX2_init_31 ?_
  refine T_letS fun s7 => ?_
  refine T_putRG (c := 2) (pc := 33) h hg fl_X2_19 (Or.inr ⟨rfl, hin, rfl⟩) rfl rfl (fun _ => rfl) (fun _ => rfl) dX2_init_33 ?_
  refine T_letS fun s8 => ?_
  refine T_aload_n (pc := 36) h dX2_init_36 rfl 0 rfl ?_
  refine T_bipush (pc := 37) h dX2_init_37 ckb_15 ?_
  refine T_newI (N := 15) (pc := 39) h hg arc_int (by decide) (by decide) (by decide) ⟨Nat.le_of_ble_eq_true rfl, Nat.le_of_ble_eq_true rfl⟩ dX2_init_39 ?_
  refine T_letS fun s9 => ?_
  refine T_putRG (c := 2) (pc := 41) h hg fl_X2_22 (Or.inr ⟨rfl, hin, rfl⟩) rfl rfl (fun _ => rfl) (fun _ => rfl) dX2_init_41 ?_
  refine T_letS fun s10 => ?_
  refine T_aload_n (pc := 44) h dX2_init_44 rfl 0 rfl ?_
  refine T_bipush (pc := 45) h dX2_init_45 kb_14 ?_
  refine T_newI (N := 14) (pc := 47) h hg arc_int (by decide) (by decide) (by decide) ⟨Nat.le_of_ble_eq_true rfl, Nat.le_of_ble_eq_true rfl⟩ dX2_init_47 ?_
  refine T_letS fun s11 => ?_
  refine T_putRG (c := 2) (pc := 49) h hg fl_X2_25 (Or.inr ⟨rfl, hin, rfl⟩) rfl rfl (fun _ => rfl) (fun _ => rfl) dX2_init_49 ?_
  refine T_letS fun s12 => ?_
  refine T_aload_n (pc := 52) h dX2_init_52 rfl 0 rfl ?_
  refine T_iconst (pc := 53) h dX2_init_53 ki_0 ?_
  refine T_putXG (c := 2) (ty := .int) (pc := 54) h hg fl_X2_28 (Or.inl rfl) rfl rfl rfl rfl dX2_init_54 ?_
  refine T_letS fun s13 => ?_
  refine T_aload_n (pc := 57) h dX2_init_57 rfl 0 rfl ?_
  refine T_iconst (pc := 58) h dX2_init_58 ki_0 ?_
  refine T_putXG (c := 2) (ty := .int) (pc := 59) h hg fl_X2_32 (Or.inl rfl) rfl rfl rfl rfl dX2_init_59 ?_
  refine T_letS fun s14 => ?_
  exact T_return (pc := 62) h (by rw [hc1]; exact Nat.le_of_ble_eq_true rfl) (by rw [hc2]; exact Nat.le_of_ble_eq_true rfl) dX2_init_62
theorem M_X2_init (l : Launch) {iv : Sg → Prop} (hi : iv = Gr) (x0 : Nat) (σ : Sg) : CTv l yX2_init cX2_init 1 none rm_X2_init iv [.ref x0] σ (f_X2_init x0 σ) := by
  subst hi
  exact CT_of (by decide) (Nat.le_of_ble_eq_true rfl) (fun K _ h hin hg hc1 hc2 => t_X2_init h hg (hin rfl) hc1 hc2 x0 σ)
/-! LuteTabs$Hand.<init>(LLuteTabs$Lute;LLuteTabs$Notes;)V [] -/
theorem dX0_init_0 : decode cX0_init 0 = .ok (.aload_n 0, 1) := by decide +kernel
theorem dX0_init_1 : decode cX0_init 1 = .ok (.invokespecial 1, 3) := by decide +kernel
theorem dX0_init_4 : decode cX0_init 4 = .ok (.aload_n 0, 1) := by decide +kernel
theorem dX0_init_5 : decode cX0_init 5 = .ok (.aload_n 1, 1) := by decide +kernel
theorem dX0_init_6 : decode cX0_init 6 = .ok (.putfield 7, 3) := by decide +kernel
theorem dX0_init_9 : decode cX0_init 9 = .ok (.aload_n 0, 1) := by decide +kernel
theorem dX0_init_10 : decode cX0_init 10 = .ok (.aload_n 2, 1) := by decide +kernel
theorem dX0_init_11 : decode cX0_init 11 = .ok (.putfield 13, 3) := by decide +kernel
theorem dX0_init_14 : decode cX0_init 14 = .ok (.return_, 1) := by decide +kernel
abbrev rm_X0_init : Room := { frames := 1, cells := 0, slots := 0, locals := 20 }
def f_X0_init (x0 : Nat) (x1 : Nat) (x2 : Nat) (σ : Sg) : Option (Unit × Sg) := ck (gk σ x0 0) (ck (glt σ x1) (lB (pR σ x0 0 x1) fun s1 => ck (gk s1 x0 0) (ck (glt s1 x2) (lB (pR s1 x0 1 x2) fun s2 => some ((), s2)))))
theorem t_X0_init {K : Cx} (h : Ok K cX0_init RX0 3 rm_X0_init none) (hg : kiv K = Gr) (hin : (kme K).name = "<init>") (hc1 : kmc K = rm_X0_init.cells) (hc2 : kms K = rm_X0_init.slots) (x0 : Nat) (x1 : Nat) (x2 : Nat) (σ : Sg) : T K (QV K) 0 [(0, .ref x0), (1, .ref x1), (2, .ref x2)] [] 0 0 σ (f_X0_init x0 x1 x2 σ) := by
  unfold f_X0_init
  refine T_aload_n (pc := 0) h dX0_init_0 rfl 0 rfl ?_
  refine T_objI (pc := 1) h ml_X0_1 ob_in ob_cd ⟨Nat.le_of_ble_eq_true rfl, Nat.le_of_ble_eq_true rfl⟩ (Nat.le_of_ble_eq_true rfl) dX0_init_1 ?_
  refine T_aload_n (pc := 4) h dX0_init_4 rfl 0 rfl ?_
  refine T_aload_n (pc := 5) h dX0_init_5 rfl 1 rfl ?_
  refine T_putRG (c := 0) (pc := 6) h hg fl_X0_7 (Or.inr ⟨rfl, hin, rfl⟩) rfl rfl (fun _ => rfl) (fun _ => rfl) dX0_init_6 ?_
  refine T_letS fun s1 => ?_
  refine T_aload_n (pc := 9) h dX0_init_9 rfl 0 rfl ?_
  refine T_aload_n (pc := 10) h dX0_init_10 rfl 2 rfl ?_
  refine T_putRG (c := 0) (pc := 11) h hg fl_X0_13 (Or.inr ⟨rfl, hin, rfl⟩) rfl rfl (fun _ => rfl) (fun _ => rfl) dX0_init_11 ?_
  refine T_letS fun s2 => ?_
  exact T_return (pc := 14) h (by rw [hc1]; exact Nat.le_of_ble_eq_true rfl) (by rw [hc2]; exact Nat.le_of_ble_eq_true rfl) dX0_init_14
theorem M_X0_init (l : Launch) {iv : Sg → Prop} (hi : iv = Gr) (x0 : Nat) (x1 : Nat) (x2 : Nat) (σ : Sg) : CTv l yX0_init cX0_init 3 none rm_X0_init iv [.ref x0, .ref x1, .ref x2] σ (f_X0_init x0 x1 x2 σ) := by
  subst hi
  exact CT_of (by decide) (Nat.le_of_ble_eq_true rfl) (fun K _ h hin hg hc1 hc2 => t_X0_init h hg (hin rfl) hc1 hc2 x0 x1 x2 σ)
/-! LuteTabs$Ways.<init>()V [] -/
theorem dX7_init_0 : decode cX7_init 0 = .ok (.aload_n 0, 1) := by decide +kernel
theorem dX7_init_1 : decode cX7_init 1 = .ok (.invokespecial 1, 3) := by decide +kernel
theorem dX7_init_4 : decode cX7_init 4 = .ok (.aload_n 0, 1) := by decide +kernel
theorem dX7_init_5 : decode cX7_init 5 = .ok (.bipush 120, 2) := by decide +kernel
theorem dX7_init_7 : decode cX7_init 7 = .ok (.newarray .long, 2) := by decide +kernel
theorem dX7_init_9 : decode cX7_init 9 = .ok (.putfield 9, 3) := by decide +kernel
theorem dX7_init_12 : decode cX7_init 12 = .ok (.aload_n 0, 1) := by decide +kernel
theorem dX7_init_13 : decode cX7_init 13 = .ok (.bipush 120, 2) := by decide +kernel
theorem dX7_init_15 : decode cX7_init 15 = .ok (.newarray .int, 2) := by decide +kernel
theorem dX7_init_17 : decode cX7_init 17 = .ok (.putfield 13, 3) := by decide +kernel
theorem dX7_init_20 : decode cX7_init 20 = .ok (.aload_n 0, 1) := by decide +kernel
theorem dX7_init_21 : decode cX7_init 21 = .ok (.bipush 120, 2) := by decide +kernel
theorem dX7_init_23 : decode cX7_init 23 = .ok (.newarray .int, 2) := by decide +kernel
theorem dX7_init_25 : decode cX7_init 25 = .ok (.putfield 17, 3) := by decide +kernel
theorem dX7_init_28 : decode cX7_init 28 = .ok (.aload_n 0, 1) := by decide +kernel
theorem dX7_init_29 : decode cX7_init 29 = .ok (.bipush 120, 2) := by decide +kernel
theorem dX7_init_31 : decode cX7_init 31 = .ok (.newarray .long, 2) := by decide +kernel
theorem dX7_init_33 : decode cX7_init 33 = .ok (.putfield 20, 3) := by decide +kernel
theorem dX7_init_36 : decode cX7_init 36 = .ok (.aload_n 0, 1) := by decide +kernel
theorem dX7_init_37 : decode cX7_init 37 = .ok (.iconst 0, 1) := by decide +kernel
theorem dX7_init_38 : decode cX7_init 38 = .ok (.putfield 23, 3) := by decide +kernel
theorem dX7_init_41 : decode cX7_init 41 = .ok (.return_, 1) := by decide +kernel
abbrev rm_X7_init : Room := { frames := 1, cells := 4, slots := 480, locals := 20 }
def f_X7_init (x0 : Nat) (σ : Sg) : Option (Unit × Sg) := ck (gnew σ) (lB (newS σ (11, 120)) fun s1 => ck (gk s1 x0 7) (ck (glt s1 (σ.1.length)) (lB (pR s1 x0 0 (σ.1.length)) fun s2 => ck (gnew s2) (lB (newS s2 (10, 120)) fun s3 => ck (gk s3 x0 7) (ck (glt s3 (s2.1.length)) (lB (pR s3 x0 1 (s2.1.length)) fun s4 => ck (gnew s4) (lB (newS s4 (10, 120)) fun s5 => ck (gk s5 x0 7) (ck (glt s5 (s4.1.length)) (lB (pR s5 x0 2 (s4.1.length)) fun s6 => ck (gnew s6) (lB (newS s6 (11, 120)) fun s7 => ck (gk s7 x0 7) (ck (glt s7 (s6.1.length)) (lB (pR s7 x0 3 (s6.1.length)) fun s8 => ck (gk s8 x0 7) (lB (pI s8 x0 4 (0 : Int32)) fun s9 => some ((), s9))))))))))))))
theorem t_X7_init {K : Cx} (h : Ok K cX7_init RX7 1 rm_X7_init none) (hg : kiv K = Gr) (hin : (kme K).name = "<init>") (hc1 : kmc K = rm_X7_init.cells) (hc2 : kms K = rm_X7_init.slots) (x0 : Nat) (σ : Sg) : T K (QV K) 0 [(0, .ref x0)] [] 0 0 σ (f_X7_init x0 σ) := by
  unfold f_X7_init
  refine T_aload_n (pc := 0) h dX7_init_0 rfl 0 rfl ?_
  refine T_objI (pc := 1) h ml_X7_1 ob_in ob_cd ⟨Nat.le_of_ble_eq_true rfl, Nat.le_of_ble_eq_true rfl⟩ (Nat.le_of_ble_eq_true rfl) dX7_init_1 ?_
  refine T_aload_n (pc := 4) h dX7_init_4 rfl 0 rfl ?_
  refine T_bipush (pc := 5) h dX7_init_5 kb_120 ?_
  refine T_newL (N := 120) (pc := 7) h hg arc_long (by decide) (by decide) (by decide) ⟨Nat.le_of_ble_eq_true rfl, Nat.le_of_ble_eq_true rfl⟩ dX7_init_7 ?_
  refine T_letS fun s1 => ?_
  refine T_putRG (c := 7) (pc := 9) h hg fl_X7_9 (Or.inr ⟨rfl, hin, rfl⟩) rfl rfl (fun _ => rfl) (fun _ => rfl) dX7_init_9 ?_
  refine T_letS fun s2 => ?_
  refine T_aload_n (pc := 12) h dX7_init_12 rfl 0 rfl ?_
  refine T_bipush (pc := 13) h dX7_init_13 kb_120 ?_
  refine T_newI (N := 120) (pc := 15) h hg arc_int (by decide) (by decide) (by decide) ⟨Nat.le_of_ble_eq_true rfl, Nat.le_of_ble_eq_true rfl⟩ dX7_init_15 ?_
  refine T_letS fun s3 => ?_
  refine T_putRG (c := 7) (pc := 17) h hg fl_X7_13 (Or.inr ⟨rfl, hin, rfl⟩) rfl rfl (fun _ => rfl) (fun _ => rfl) dX7_init_17 ?_
  refine T_letS fun s4 => ?_
  refine T_aload_n (pc := 20) h dX7_init_20 rfl 0 rfl ?_
  refine T_bipush (pc := 21) h dX7_init_21 kb_120 ?_
  refine T_newI (N := 120) (pc := 23) h hg arc_int (by decide) (by decide) (by decide) ⟨Nat.le_of_ble_eq_true rfl, Nat.le_of_ble_eq_true rfl⟩ dX7_init_23 ?_
  refine T_letS fun s5 => ?_
  refine T_putRG (c := 7) (pc := 25) h hg fl_X7_17 (Or.inr ⟨rfl, hin, rfl⟩) rfl rfl (fun _ => rfl) (fun _ => rfl) dX7_init_25 ?_
  refine T_letS fun s6 => ?_
  refine T_aload_n (pc := 28) h dX7_init_28 rfl 0 rfl ?_
  refine T_bipush (pc := 29) h dX7_init_29 kb_120 ?_
  refine T_newL (N := 120) (pc := 31) h hg arc_long (by decide) (by decide) (by decide) ⟨Nat.le_of_ble_eq_true rfl, Nat.le_of_ble_eq_true rfl⟩ dX7_init_31 ?_
  refine T_letS fun s7 => ?_
  refine T_putRG (c := 7) (pc := 33) h hg fl_X7_20 (Or.inr ⟨rfl, hin, rfl⟩) rfl rfl (fun _ => rfl) (fun _ => rfl) dX7_init_33 ?_
  refine T_letS fun s8 => ?_
  refine T_aload_n (pc := 36) h dX7_init_36 rfl 0 rfl ?_
  refine T_iconst (pc := 37) h dX7_init_37 ki_0 ?_
  refine T_putXG (c := 7) (ty := .int) (pc := 38) h hg fl_X7_23 (Or.inl rfl) rfl rfl rfl rfl dX7_init_38 ?_
  refine T_letS fun s9 => ?_
  exact T_return (pc := 41) h (by rw [hc1]; exact Nat.le_of_ble_eq_true rfl) (by rw [hc2]; exact Nat.le_of_ble_eq_true rfl) dX7_init_41
theorem M_X7_init (l : Launch) {iv : Sg → Prop} (hi : iv = Gr) (x0 : Nat) (σ : Sg) : CTv l yX7_init cX7_init 1 none rm_X7_init iv [.ref x0] σ (f_X7_init x0 σ) := by
  subst hi
  exact CT_of (by decide) (Nat.le_of_ble_eq_true rfl) (fun K _ h hin hg hc1 hc2 => t_X7_init h hg (hin rfl) hc1 hc2 x0 σ)
/-! LuteTabs$Search.<init>(LLuteTabs$Lute;LLuteTabs$Notes;LLuteTabs$Hand;)V [] -/
theorem dX5_init_0 : decode cX5_init 0 = .ok (.aload_n 0, 1) := by decide +kernel
theorem dX5_init_1 : decode cX5_init 1 = .ok (.invokespecial 7, 3) := by decide +kernel
theorem dX5_init_4 : decode cX5_init 4 = .ok (.aload_n 0, 1) := by decide +kernel
theorem dX5_init_5 : decode cX5_init 5 = .ok (.new 13, 3) := by decide +kernel
theorem dX5_init_8 : decode cX5_init 8 = .ok (.dup, 1) := by decide +kernel
theorem dX5_init_9 : decode cX5_init 9 = .ok (.invokespecial 15, 3) := by decide +kernel
theorem dX5_init_12 : decode cX5_init 12 = .ok (.putfield 16, 3) := by decide +kernel
theorem dX5_init_15 : decode cX5_init 15 = .ok (.aload_n 0, 1) := by decide +kernel
theorem dX5_init_16 : decode cX5_init 16 = .ok (.new 13, 3) := by decide +kernel
theorem dX5_init_19 : decode cX5_init 19 = .ok (.dup, 1) := by decide +kernel
theorem dX5_init_20 : decode cX5_init 20 = .ok (.invokespecial 15, 3) := by decide +kernel
theorem dX5_init_23 : decode cX5_init 23 = .ok (.putfield 20, 3) := by decide +kernel
theorem dX5_init_26 : decode cX5_init 26 = .ok (.aload_n 0, 1) := by decide +kernel
theorem dX5_init_27 : decode cX5_init 27 = .ok (.new 13, 3) := by decide +kernel
theorem dX5_init_30 : decode cX5_init 30 = .ok (.dup, 1) := by decide +kernel
theorem dX5_init_31 : decode cX5_init 31 = .ok (.invokespecial 15, 3) := by decide +kernel
theorem dX5_init_34 : decode cX5_init 34 = .ok (.putfield 23, 3) := by decide +kernel
theorem dX5_init_37 : decode cX5_init 37 = .ok (.aload_n 0, 1) := by decide +kernel
theorem dX5_init_38 : decode cX5_init 38 = .ok (.bipush 14, 2) := by decide +kernel
theorem dX5_init_40 : decode cX5_init 40 = .ok (.newarray .int, 2) := by decide +kernel
theorem dX5_init_42 : decode cX5_init 42 = .ok (.putfield 26, 3) := by decide +kernel
theorem dX5_init_45 : decode cX5_init 45 = .ok (.aload_n 0, 1) := by decide +kernel
theorem dX5_init_46 : decode cX5_init 46 = .ok (.bipush 30, 2) := by decide +kernel
theorem dX5_init_48 : decode cX5_init 48 = .ok (.newarray .long, 2) := by decide +kernel
theorem dX5_init_50 : decode cX5_init 50 = .ok (.putfield 32, 3) := by decide +kernel
theorem dX5_init_53 : decode cX5_init 53 = .ok (.aload_n 0, 1) := by decide +kernel
theorem dX5_init_54 : decode cX5_init 54 = .ok (.bipush 30, 2) := by decide +kernel
theorem dX5_init_56 : decode cX5_init 56 = .ok (.newarray .boolean, 2) := by decide +kernel
theorem dX5_init_58 : decode cX5_init 58 = .ok (.putfield 36, 3) := by decide +kernel
theorem dX5_init_61 : decode cX5_init 61 = .ok (.aload_n 0, 1) := by decide +kernel
theorem dX5_init_62 : decode cX5_init 62 = .ok (.aload_n 1, 1) := by decide +kernel
theorem dX5_init_63 : decode cX5_init 63 = .ok (.putfield 40, 3) := by decide +kernel
theorem dX5_init_66 : decode cX5_init 66 = .ok (.aload_n 0, 1) := by decide +kernel
theorem dX5_init_67 : decode cX5_init 67 = .ok (.aload_n 2, 1) := by decide +kernel
theorem dX5_init_68 : decode cX5_init 68 = .ok (.putfield 44, 3) := by decide +kernel
theorem dX5_init_71 : decode cX5_init 71 = .ok (.aload_n 0, 1) := by decide +kernel
theorem dX5_init_72 : decode cX5_init 72 = .ok (.aload_n 3, 1) := by decide +kernel
theorem dX5_init_73 : decode cX5_init 73 = .ok (.putfield 48, 3) := by decide +kernel
theorem dX5_init_76 : decode cX5_init 76 = .ok (.return_, 1) := by decide +kernel
abbrev rm_X5_init : Room := { frames := 2, cells := 18, slots := 1529, locals := 40 }
def f_X5_init (x0 : Nat) (x1 : Nat) (x2 : Nat) (x3 : Nat) (σ : Sg) : Option (Unit × Sg) := ck (gnew σ) (lB (newS σ (7, nfc 7)) fun s1 => bd (f_X7_init (σ.1.length) s1) fun _ s2 => ck (gk s2 x0 5) (ck (glt s2 (σ.1.length)) (lB (pR s2 x0 3 (σ.1.length)) fun s3 => ck (gnew s3) (lB (newS s3 (7, nfc 7)) fun s4 => bd (f_X7_init (s3.1.length) s4) fun _ s5 => ck (gk s5 x0 5) (ck (glt s5 (s3.1.length)) (lB (pR s5 x0 4 (s3.1.length)) fun s6 => ck (gnew s6) (lB (newS s6 (7, nfc 7)) fun s7 => bd (f_X7_init (s6.1.length) s7) fun _ s8 => ck (gk s8 x0 5) (ck (glt s8 (s6.1.length)) (lB (pR s8 x0 5 (s6.1.length)) fun s9 => ck (gnew s9) (lB (newS s9 (10, 14)) fun s10 => ck (gk s10 x0 5) (ck (glt s10 (s9.1.length)) (lB (pR s10 x0 6 (s9.1.length)) fun s11 => ck (gnew s11) (lB (newS s11 (11, 30)) fun s12 => ck (gk s12 x0 5) (ck (glt s12 (s11.1.length)) (lB (pR s12 x0 7 (s11.1.length)) fun s13 => ck (gnew s13) (lB (newS s13 (12, 30)) fun s14 => ck (gk s14 x0 5) (ck (glt s14 (s13.1.length)) (lB (pR s14 x0 8 (s13.1.length)) fun s15 => ck (gk s15 x0 5) (ck (glt s15 x1) (lB (pR s15 x0 0 x1) fun s16 => ck (gk s16 x0 5) (ck (glt s16 x2) (lB (pR s16 x0 1 x2) fun s17 => ck (gk s17 x0 5) (ck (glt s17 x3) (lB (pR s17 x0 2 x3) fun s18 => some ((), s18)))))))))))))))))))))))))
theorem t_X5_init {K : Cx} (h : Ok K cX5_init RX5 4 rm_X5_init none) (hg : kiv K = Gr) (hin : (kme K).name = "<init>") (hc1 : kmc K = rm_X5_init.cells) (hc2 : kms K = rm_X5_init.slots) (x0 : Nat) (x1 : Nat) (x2 : Nat) (x3 : Nat) (σ : Sg) : T K (QV K) 0 [(0, .ref x0), (1, .ref x1), (2, .ref x2), (3, .ref x3)] [] 0 0 σ (f_X5_init x0 x1 x2 x3 σ) := by
  unfold f_X5_init
  refine T_aload_n (pc := 0) h dX5_init_0 rfl 0 rfl ?_
  refine T_objI (pc := 1) h ml_X5_7 ob_in ob_cd ⟨Nat.le_of_ble_eq_true rfl, Nat.le_of_ble_eq_true rfl⟩ (Nat.le_of_ble_eq_true rfl) dX5_init_1 ?_
  refine T_aload_n (pc := 4) h dX5_init_4 rfl 0 rfl ?_
  refine T_new (c := 7) (pc := 5) h hg (by decide) cl_X5_13 ins_7 ini_7 ⟨Nat.le_of_ble_eq_true rfl, Nat.le_of_ble_eq_true rfl⟩ dX5_init_5 ?_
  refine T_letS fun s1 => ?_
  refine T_dup (pc := 8) h dX5_init_8 rfl ?_
  refine T_callIN (host := RX8) (pc := 9) h (M_X7_init (kl K) hg (σ.1.length) s1) mi_X7_init (h.2.2.2.2.2.2.2.2.2.2.2.1.2.2.2.2.2.2.2.2.1) rfl ⟨Nat.le_of_ble_eq_true rfl, Nat.le_of_ble_eq_true rfl⟩ ⟨Nat.le_of_ble_eq_true rfl, Nat.le_of_ble_eq_true rfl⟩ (Nat.le_of_ble_eq_true rfl) dX5_init_9 rfl (fun _ s2 => ?_)
  refine T_putRG (c := 5) (pc := 12) h hg fl_X5_16 (Or.inl rfl) rfl rfl (fun _ => rfl) (fun _ => rfl) dX5_init_12 ?_
  refine T_letS fun s3 => ?_
  refine T_aload_n (pc := 15) h dX5_init_15 rfl 0 rfl ?_
  refine T_new (c := 7) (pc := 16) h hg (by decide) cl_X5_13 ins_7 ini_7 ⟨Nat.le_of_ble_eq_true rfl, Nat.le_of_ble_eq_true rfl⟩ dX5_init_16 ?_
  refine T_letS fun s4 => ?_
  refine T_dup (pc := 19) h dX5_init_19 rfl ?_
  refine T_callIN (host := RX8) (pc := 20) h (M_X7_init (kl K) hg (s3.1.length) s4) mi_X7_init (h.2.2.2.2.2.2.2.2.2.2.2.1.2.2.2.2.2.2.2.2.1) rfl ⟨Nat.le_of_ble_eq_true rfl, Nat.le_of_ble_eq_true rfl⟩ ⟨Nat.le_of_ble_eq_true rfl, Nat.le_of_ble_eq_true rfl⟩ (Nat.le_of_ble_eq_true rfl) dX5_init_20 rfl (fun _ s5 => ?_)
  refine T_putRG (c := 5) (pc := 23) h hg fl_X5_20 (Or.inl rfl) rfl rfl (fun _ => rfl) (fun _ => rfl) dX5_init_23 ?_
  refine T_letS fun s6 => ?_
  refine T_aload_n (pc := 26) h dX5_init_26 rfl 0 rfl ?_
  refine T_new (c := 7) (pc := 27) h hg (by decide) cl_X5_13 ins_7 ini_7 ⟨Nat.le_of_ble_eq_true rfl, Nat.le_of_ble_eq_true rfl⟩ dX5_init_27 ?_
  refine T_letS fun s7 => ?_
  refine T_dup (pc := 30) h dX5_init_30 rfl ?_
  refine T_callIN (host := RX8) (pc := 31) h (M_X7_init (kl K) hg (s6.1.length) s7) mi_X7_init (h.2.2.2.2.2.2.2.2.2.2.2.1.2.2.2.2.2.2.2.2.1) rfl ⟨Nat.le_of_ble_eq_true rfl, Nat.le_of_ble_eq_true rfl⟩ ⟨Nat.le_of_ble_eq_true rfl, Nat.le_of_ble_eq_true rfl⟩ (Nat.le_of_ble_eq_true rfl) dX5_init_31 rfl (fun _ s8 => ?_)
  refine T_putRG (c := 5) (pc := 34) h hg fl_X5_23 (Or.inl rfl) rfl rfl (fun _ => rfl) (fun _ => rfl) dX5_init_34 ?_
  refine T_letS fun s9 => ?_
  refine T_aload_n (pc := 37) h dX5_init_37 rfl 0 rfl ?_
  refine T_bipush (pc := 38) h dX5_init_38 kb_14 ?_
  refine T_newI (N := 14) (pc := 40) h hg arc_int (by decide) (by decide) (by decide) ⟨Nat.le_of_ble_eq_true rfl, Nat.le_of_ble_eq_true rfl⟩ dX5_init_40 ?_
  refine T_letS fun s10 => ?_
  refine T_putRG (c := 5) (pc := 42) h hg fl_X5_26 (Or.inr ⟨rfl, hin, rfl⟩) rfl rfl (fun _ => rfl) (fun _ => rfl) dX5_init_42 ?_
  refine T_letS fun s11 => ?_
  refine T_aload_n (pc := 45) h dX5_init_45 rfl 0 rfl ?_
  refine T_bipush (pc := 46) h dX5_init_46 ckb_30 ?_
  refine T_newL (N := 30) (pc := 48) h hg arc_long (by decide) (by decide) (by decide) ⟨Nat.le_of_ble_eq_true rfl, Nat.le_of_ble_eq_true rfl⟩ dX5_init_48 ?_
  refine T_letS fun s12 => ?_
  refine T_putRG (c := 5) (pc := 50) h hg fl_X5_32 (Or.inr ⟨rfl, hin, rfl⟩) rfl rfl (fun _ => rfl) (fun _ => rfl) dX5_init_50 ?_
  refine T_letS fun s13 => ?_
  refine T_aload_n (pc := 53) h dX5_init_53 rfl 0 rfl ?_
  refine T_bipush (pc := 54) h dX5_init_54 ckb_30 ?_
  refine T_newZ (N := 30) (pc := 56) h hg arc_boolean (by decide) (by decide) (by decide) ⟨Nat.le_of_ble_eq_true rfl, Nat.le_of_ble_eq_true rfl⟩ dX5_init_56 ?_
  refine T_letS fun s14 => ?_
  refine T_putRG (c := 5) (pc := 58) h hg fl_X5_36 (Or.inr ⟨rfl, hin, rfl⟩) rfl rfl (fun _ => rfl) (fun _ => rfl) dX5_init_58 ?_
  refine T_letS fun s15 => ?_
  refine T_aload_n (pc := 61) h dX5_init_61 rfl 0 rfl ?_
  refine T_aload_n (pc := 62) h dX5_init_62 rfl 1 rfl ?_
  refine T_putRG (c := 5) (pc := 63) h hg fl_X5_40 (Or.inr ⟨rfl, hin, rfl⟩) rfl rfl (fun _ => rfl) (fun _ => rfl) dX5_init_63 ?_
  refine T_letS fun s16 => ?_
  refine T_aload_n (pc := 66) h dX5_init_66 rfl 0 rfl ?_
  refine T_aload_n (pc := 67) h dX5_init_67 rfl 2 rfl ?_
  refine T_putRG (c := 5) (pc := 68) h hg fl_X5_44 (Or.inr ⟨rfl, hin, rfl⟩) rfl rfl (fun _ => rfl) (fun _ => rfl) dX5_init_68 ?_
  refine T_letS fun s17 => ?_
  refine T_aload_n (pc := 71) h dX5_init_71 rfl 0 rfl ?_
  refine T_aload_n (pc := 72) h dX5_init_72 rfl 3 rfl ?_
  refine T_putRG (c := 5) (pc := 73) h hg fl_X5_48 (Or.inr ⟨rfl, hin, rfl⟩) rfl rfl (fun _ => rfl) (fun _ => rfl) dX5_init_73 ?_
  refine T_letS fun s18 => ?_
  exact T_return (pc := 76) h (by rw [hc1]; exact Nat.le_of_ble_eq_true rfl) (by rw [hc2]; exact Nat.le_of_ble_eq_true rfl) dX5_init_76
theorem M_X5_init (l : Launch) {iv : Sg → Prop} (hi : iv = Gr) (x0 : Nat) (x1 : Nat) (x2 : Nat) (x3 : Nat) (σ : Sg) : CTv l yX5_init cX5_init 4 none rm_X5_init iv [.ref x0, .ref x1, .ref x2, .ref x3] σ (f_X5_init x0 x1 x2 x3 σ) := by
  subst hi
  exact CT_of (by decide) (Nat.le_of_ble_eq_true rfl) (fun K _ h hin hg hc1 hc2 => t_X5_init h hg (hin rfl) hc1 hc2 x0 x1 x2 x3 σ)
/-! LuteTabs$Script.<init>(I)V [80] -/
theorem dX4_init_0 : decode cX4_init 0 = .ok (.aload_n 0, 1) := by decide +kernel
theorem dX4_init_1 : decode cX4_init 1 = .ok (.invokespecial 1, 3) := by decide +kernel
theorem dX4_init_4 : decode cX4_init 4 = .ok (.aload_n 0, 1) := by decide +kernel
theorem dX4_init_5 : decode cX4_init 5 = .ok (.iconst 0, 1) := by decide +kernel
theorem dX4_init_6 : decode cX4_init 6 = .ok (.putfield 7, 3) := by decide +kernel
theorem dX4_init_9 : decode cX4_init 9 = .ok (.aload_n 0, 1) := by decide +kernel
theorem dX4_init_10 : decode cX4_init 10 = .ok (.iload_n 1, 1) := by decide +kernel
theorem dX4_init_11 : decode cX4_init 11 = .ok (.newarray .int, 2) := by decide +kernel
theorem dX4_init_13 : decode cX4_init 13 = .ok (.putfield 13, 3) := by decide +kernel
theorem dX4_init_16 : decode cX4_init 16 = .ok (.return_, 1) := by decide +kernel
abbrev rm_X4_init_80 : Room := { frames := 1, cells := 1, slots := 80, locals := 20 }
def f_X4_init_80 (x0 : Nat) (σ : Sg) : Option (Unit × Sg) := ck (gk σ x0 4) (lB (pI σ x0 1 (0 : Int32)) fun s1 => ck (gnew s1) (lB (newS s1 (10, 80)) fun s2 => ck (gk s2 x0 4) (ck (glt s2 (s1.1.length)) (lB (pR s2 x0 0 (s1.1.length)) fun s3 => some ((), s3)))))
theorem t_X4_init_80 {K : Cx} (h : Ok K cX4_init RX4 2 rm_X4_init_80 none) (hg : kiv K = Gr) (hin : (kme K).name = "<init>") (hc1 : kmc K = rm_X4_init_80.cells) (hc2 : kms K = rm_X4_init_80.slots) (x0 : Nat) (σ : Sg) : T K (QV K) 0 [(0, .ref x0), (1, .int (80 : Int32))] [] 0 0 σ (f_X4_init_80 x0 σ) := by
  unfold f_X4_init_80
  refine T_aload_n (pc := 0) h dX4_init_0 rfl 0 rfl ?_
  refine T_objI (pc := 1) h ml_X4_1 ob_in ob_cd ⟨Nat.le_of_ble_eq_true rfl, Nat.le_of_ble_eq_true rfl⟩ (Nat.le_of_ble_eq_true rfl) dX4_init_1 ?_
  refine T_aload_n (pc := 4) h dX4_init_4 rfl 0 rfl ?_
  refine T_iconst (pc := 5) h dX4_init_5 ki_0 ?_
  refine T_putXG (c := 4) (ty := .int) (pc := 6) h hg fl_X4_7 (Or.inl rfl) rfl rfl rfl rfl dX4_init_6 ?_
  refine T_letS fun s1 => ?_
  refine T_aload_n (pc := 9) h dX4_init_9 rfl 0 rfl ?_
  refine T_iload_n (pc := 10) h dX4_init_10 rfl 1 rfl ?_
  refine T_newI (N := 80) (pc := 11) h hg arc_int (by decide) (by decide) (by decide) ⟨Nat.le_of_ble_eq_true rfl, Nat.le_of_ble_eq_true rfl⟩ dX4_init_11 ?_
  refine T_letS fun s2 => ?_
  refine T_putRG (c := 4) (pc := 13) h hg fl_X4_13 (Or.inr ⟨rfl, hin, rfl⟩) rfl rfl (fun _ => rfl) (fun _ => rfl) dX4_init_13 ?_
  refine T_letS fun s3 => ?_
  exact T_return (pc := 16) h (by rw [hc1]; exact Nat.le_of_ble_eq_true rfl) (by rw [hc2]; exact Nat.le_of_ble_eq_true rfl) dX4_init_16
theorem M_X4_init_80 (l : Launch) {iv : Sg → Prop} (hi : iv = Gr) (x0 : Nat) (σ : Sg) : CTv l yX4_init cX4_init 2 none rm_X4_init_80 iv [.ref x0, .int (80 : Int32)] σ (f_X4_init_80 x0 σ) := by
  subst hi
  exact CT_of (by decide) (Nat.le_of_ble_eq_true rfl) (fun K _ h hin hg hc1 hc2 => t_X4_init_80 h hg (hin rfl) hc1 hc2 x0 σ)
/-! LuteTabs$Reader.<init>(LLuteTabs$Lute;)V [] -/
theorem dX3_init_0 : decode cX3_init 0 = .ok (.aload_n 0, 1) := by decide +kernel
theorem dX3_init_1 : decode cX3_init 1 = .ok (.invokespecial 5, 3) := by decide +kernel
theorem dX3_init_4 : decode cX3_init 4 = .ok (.aload_n 0, 1) := by decide +kernel
theorem dX3_init_5 : decode cX3_init 5 = .ok (.bipush 14, 2) := by decide +kernel
theorem dX3_init_7 : decode cX3_init 7 = .ok (.newarray .int, 2) := by decide +kernel
theorem dX3_init_9 : decode cX3_init 9 = .ok (.putfield 13, 3) := by decide +kernel
theorem dX3_init_12 : decode cX3_init 12 = .ok (.aload_n 0, 1) := by decide +kernel
theorem dX3_init_13 : decode cX3_init 13 = .ok (.bipush 14, 2) := by decide +kernel
theorem dX3_init_15 : decode cX3_init 15 = .ok (.newarray .int, 2) := by decide +kernel
theorem dX3_init_17 : decode cX3_init 17 = .ok (.putfield 19, 3) := by decide +kernel
theorem dX3_init_20 : decode cX3_init 20 = .ok (.aload_n 0, 1) := by decide +kernel
theorem dX3_init_21 : decode cX3_init 21 = .ok (.bipush 14, 2) := by decide +kernel
theorem dX3_init_23 : decode cX3_init 23 = .ok (.newarray .int, 2) := by decide +kernel
theorem dX3_init_25 : decode cX3_init 25 = .ok (.putfield 22, 3) := by decide +kernel
theorem dX3_init_28 : decode cX3_init 28 = .ok (.aload_n 0, 1) := by decide +kernel
theorem dX3_init_29 : decode cX3_init 29 = .ok (.aload_n 1, 1) := by decide +kernel
theorem dX3_init_30 : decode cX3_init 30 = .ok (.putfield 25, 3) := by decide +kernel
theorem dX3_init_33 : decode cX3_init 33 = .ok (.return_, 1) := by decide +kernel
abbrev rm_X3_init : Room := { frames := 1, cells := 3, slots := 42, locals := 20 }
def f_X3_init (x0 : Nat) (x1 : Nat) (σ : Sg) : Option (Unit × Sg) := ck (gnew σ) (lB (newS σ (10, 14)) fun s1 => ck (gk s1 x0 3) (ck (glt s1 (σ.1.length)) (lB (pR s1 x0 2 (σ.1.length)) fun s2 => ck (gnew s2) (lB (newS s2 (10, 14)) fun s3 => ck (gk s3 x0 3) (ck (glt s3 (s2.1.length)) (lB (pR s3 x0 3 (s2.1.length)) fun s4 => ck (gnew s4) (lB (newS s4 (10, 14)) fun s5 => ck (gk s5 x0 3) (ck (glt s5 (s4.1.length)) (lB (pR s5 x0 4 (s4.1.length)) fun s6 => ck (gk s6 x0 3) (ck (glt s6 x1) (lB (pR s6 x0 0 x1) fun s7 => some ((), s7))))))))))))
theorem t_X3_init {K : Cx} (h : Ok K cX3_init RX3 2 rm_X3_init none) (hg : kiv K = Gr) (hin : (kme K).name = "<init>") (hc1 : kmc K = rm_X3_init.cells) (hc2 : kms K = rm_X3_init.slots) (x0 : Nat) (x1 : Nat) (σ : Sg) : T K (QV K) 0 [(0, .ref x0), (1, .ref x1)] [] 0 0 σ (f_X3_init x0 x1 σ) := by
  unfold f_X3_init
  refine T_aload_n (pc := 0) h dX3_init_0 rfl 0 rfl ?_
  refine T_objI (pc := 1) h ml_X3_5 ob_in ob_cd ⟨Nat.le_of_ble_eq_true rfl, Nat.le_of_ble_eq_true rfl⟩ (Nat.le_of_ble_eq_true rfl) dX3_init_1 ?_
  refine T_aload_n (pc := 4) h dX3_init_4 rfl 0 rfl ?_
  refine T_bipush (pc := 5) h dX3_init_5 kb_14 ?_
  refine T_newI (N := 14) (pc := 7) h hg arc_int (by decide) (by decide) (by decide) ⟨Nat.le_of_ble_eq_true rfl, Nat.le_of_ble_eq_true rfl⟩ dX3_init_7 ?_
  refine T_letS fun s1 => ?_
  refine T_putRG (c := 3) (pc := 9) h hg fl_X3_13 (Or.inr ⟨rfl, hin, rfl⟩) rfl rfl (fun _ => rfl) (fun _ => rfl) dX3_init_9 ?_
  refine T_letS fun s2 => ?_
  refine T_aload_n (pc := 12) h dX3_init_12 rfl 0 rfl ?_
  refine T_bipush (pc := 13) h dX3_init_13 kb_14 ?_
  refine T_newI (N := 14) (pc := 15) h hg arc_int (by decide) (by decide) (by decide) ⟨Nat.le_of_ble_eq_true rfl, Nat.le_of_ble_eq_true rfl⟩ dX3_init_15 ?_
  refine T_letS fun s3 => ?_
  refine T_putRG (c := 3) (pc := 17) h hg fl_X3_19 (Or.inr ⟨rfl, hin, rfl⟩) rfl rfl (fun _ => rfl) (fun _ => rfl) dX3_init_17 ?_
  refine T_letS fun s4 => ?_
  refine T_aload_n (pc := 20) h dX3_init_20 rfl 0 rfl ?_
  refine T_bipush (pc := 21) h dX3_init_21 kb_14 ?_
  refine T_newI (N := 14) (pc := 23) h hg arc_int (by decide) (by decide) (by decide) ⟨Nat.le_of_ble_eq_true rfl, Nat.le_of_ble_eq_true rfl⟩ dX3_init_23 ?_
  refine T_letS fun s5 => ?_
  refine T_putRG (c := 3) (pc := 25) h hg fl_X3_22 (Or.inr ⟨rfl, hin, rfl⟩) rfl rfl (fun _ => rfl) (fun _ => rfl) dX3_init_25 ?_
  refine T_letS fun s6 => ?_
  refine T_aload_n (pc := 28) h dX3_init_28 rfl 0 rfl ?_
  refine T_aload_n (pc := 29) h dX3_init_29 rfl 1 rfl ?_
  refine T_putRG (c := 3) (pc := 30) h hg fl_X3_25 (Or.inr ⟨rfl, hin, rfl⟩) rfl rfl (fun _ => rfl) (fun _ => rfl) dX3_init_30 ?_
  refine T_letS fun s7 => ?_
  exact T_return (pc := 33) h (by rw [hc1]; exact Nat.le_of_ble_eq_true rfl) (by rw [hc2]; exact Nat.le_of_ble_eq_true rfl) dX3_init_33
theorem M_X3_init (l : Launch) {iv : Sg → Prop} (hi : iv = Gr) (x0 : Nat) (x1 : Nat) (σ : Sg) : CTv l yX3_init cX3_init 2 none rm_X3_init iv [.ref x0, .ref x1] σ (f_X3_init x0 x1 σ) := by
  subst hi
  exact CT_of (by decide) (Nat.le_of_ble_eq_true rfl) (fun K _ h hin hg hc1 hc2 => t_X3_init h hg (hin rfl) hc1 hc2 x0 x1 σ)
/-! LuteTabs$Script.<init>(I)V [140] -/
abbrev rm_X4_init_140 : Room := { frames := 1, cells := 1, slots := 140, locals := 20 }
def f_X4_init_140 (x0 : Nat) (σ : Sg) : Option (Unit × Sg) := ck (gk σ x0 4) (lB (pI σ x0 1 (0 : Int32)) fun s1 => ck (gnew s1) (lB (newS s1 (10, 140)) fun s2 => ck (gk s2 x0 4) (ck (glt s2 (s1.1.length)) (lB (pR s2 x0 0 (s1.1.length)) fun s3 => some ((), s3)))))
theorem t_X4_init_140 {K : Cx} (h : Ok K cX4_init RX4 2 rm_X4_init_140 none) (hg : kiv K = Gr) (hin : (kme K).name = "<init>") (hc1 : kmc K = rm_X4_init_140.cells) (hc2 : kms K = rm_X4_init_140.slots) (x0 : Nat) (σ : Sg) : T K (QV K) 0 [(0, .ref x0), (1, .int (140 : Int32))] [] 0 0 σ (f_X4_init_140 x0 σ) := by
  unfold f_X4_init_140
  refine T_aload_n (pc := 0) h dX4_init_0 rfl 0 rfl ?_
  refine T_objI (pc := 1) h ml_X4_1 ob_in ob_cd ⟨Nat.le_of_ble_eq_true rfl, Nat.le_of_ble_eq_true rfl⟩ (Nat.le_of_ble_eq_true rfl) dX4_init_1 ?_
  refine T_aload_n (pc := 4) h dX4_init_4 rfl 0 rfl ?_
  refine T_iconst (pc := 5) h dX4_init_5 ki_0 ?_
  refine T_putXG (c := 4) (ty := .int) (pc := 6) h hg fl_X4_7 (Or.inl rfl) rfl rfl rfl rfl dX4_init_6 ?_
  refine T_letS fun s1 => ?_
  refine T_aload_n (pc := 9) h dX4_init_9 rfl 0 rfl ?_
  refine T_iload_n (pc := 10) h dX4_init_10 rfl 1 rfl ?_
  refine T_newI (N := 140) (pc := 11) h hg arc_int (by decide) (by decide) (by decide) ⟨Nat.le_of_ble_eq_true rfl, Nat.le_of_ble_eq_true rfl⟩ dX4_init_11 ?_
  refine T_letS fun s2 => ?_
  refine T_putRG (c := 4) (pc := 13) h hg fl_X4_13 (Or.inr ⟨rfl, hin, rfl⟩) rfl rfl (fun _ => rfl) (fun _ => rfl) dX4_init_13 ?_
  refine T_letS fun s3 => ?_
  exact T_return (pc := 16) h (by rw [hc1]; exact Nat.le_of_ble_eq_true rfl) (by rw [hc2]; exact Nat.le_of_ble_eq_true rfl) dX4_init_16
theorem M_X4_init_140 (l : Launch) {iv : Sg → Prop} (hi : iv = Gr) (x0 : Nat) (σ : Sg) : CTv l yX4_init cX4_init 2 none rm_X4_init_140 iv [.ref x0, .int (140 : Int32)] σ (f_X4_init_140 x0 σ) := by
  subst hi
  exact CT_of (by decide) (Nat.le_of_ble_eq_true rfl) (fun K _ h hin hg hc1 hc2 => t_X4_init_140 h hg (hin rfl) hc1 hc2 x0 σ)
/-! LuteTabs$Sheet.<init>()V [] -/
theorem dX6_init_0 : decode cX6_init 0 = .ok (.aload_n 0, 1) := by decide +kernel
theorem dX6_init_1 : decode cX6_init 1 = .ok (.invokespecial 1, 3) := by decide +kernel
theorem dX6_init_4 : decode cX6_init 4 = .ok (.aload_n 0, 1) := by decide +kernel
theorem dX6_init_5 : decode cX6_init 5 = .ok (.iconst 1, 1) := by decide +kernel
theorem dX6_init_6 : decode cX6_init 6 = .ok (.putfield 7, 3) := by decide +kernel
theorem dX6_init_9 : decode cX6_init 9 = .ok (.aload_n 0, 1) := by decide +kernel
theorem dX6_init_10 : decode cX6_init 10 = .ok (.iconst 0, 1) := by decide +kernel
theorem dX6_init_11 : decode cX6_init 11 = .ok (.putfield 13, 3) := by decide +kernel
theorem dX6_init_14 : decode cX6_init 14 = .ok (.aload_n 0, 1) := by decide +kernel
theorem dX6_init_15 : decode cX6_init 15 = .ok (.iconst 0, 1) := by decide +kernel
theorem dX6_init_16 : decode cX6_init 16 = .ok (.putfield 17, 3) := by decide +kernel
theorem dX6_init_19 : decode cX6_init 19 = .ok (.aload_n 0, 1) := by decide +kernel
theorem dX6_init_20 : decode cX6_init 20 = .ok (.bipush 48, 2) := by decide +kernel
theorem dX6_init_22 : decode cX6_init 22 = .ok (.newarray .long, 2) := by decide +kernel
theorem dX6_init_24 : decode cX6_init 24 = .ok (.putfield 20, 3) := by decide +kernel
theorem dX6_init_27 : decode cX6_init 27 = .ok (.return_, 1) := by decide +kernel
abbrev rm_X6_init : Room := { frames := 1, cells := 1, slots := 48, locals := 20 }
def f_X6_init (x0 : Nat) (σ : Sg) : Option (Unit × Sg) := ck (gk σ x0 6) (lB (pI σ x0 0 (1 : Int32)) fun s1 => ck (gk s1 x0 6) (lB (pI s1 x0 1 (0 : Int32)) fun s2 => ck (gk s2 x0 6) (lB (pI s2 x0 2 (0 : Int32)) fun s3 => ck (gnew s3) (lB (newS s3 (11, 48)) fun s4 => ck (gk s4 x0 6) (ck (glt s4 (s3.1.length)) (lB (pR s4 x0 3 (s3.1.length)) fun s5 => some ((), s5)))))))
theorem t_X6_init {K : Cx} (h : Ok K cX6_init RX6 1 rm_X6_init none) (hg : kiv K = Gr) (hin : (kme K).name = "<init>") (hc1 : kmc K = rm_X6_init.cells) (hc2 : kms K = rm_X6_init.slots) (x0 : Nat) (σ : Sg) : T K (QV K) 0 [(0, .ref x0)] [] 0 0 σ (f_X6_init x0 σ) := by
  unfold f_X6_init
  refine T_aload_n (pc := 0) h dX6_init_0 rfl 0 rfl ?_
  refine T_objI (pc := 1) h ml_X6_1 ob_in ob_cd ⟨Nat.le_of_ble_eq_true rfl, Nat.le_of_ble_eq_true rfl⟩ (Nat.le_of_ble_eq_true rfl) dX6_init_1 ?_
  refine T_aload_n (pc := 4) h dX6_init_4 rfl 0 rfl ?_
  refine T_iconst (pc := 5) h dX6_init_5 ki_1 ?_
  refine T_putXG (c := 6) (ty := .boolean) (pc := 6) h hg fl_X6_7 (Or.inl rfl) rfl rfl (by decide +kernel) (by decide +kernel) dX6_init_6 ?_
  refine T_letS fun s1 => ?_
  refine T_aload_n (pc := 9) h dX6_init_9 rfl 0 rfl ?_
  refine T_iconst (pc := 10) h dX6_init_10 ki_0 ?_
  refine T_putXG (c := 6) (ty := .int) (pc := 11) h hg fl_X6_13 (Or.inl rfl) rfl rfl rfl rfl dX6_init_11 ?_
  refine T_letS fun s2 => ?_
  refine T_aload_n (pc := 14) h dX6_init_14 rfl 0 rfl ?_
  refine T_iconst (pc := 15) h dX6_init_15 ki_0 ?_
  refine T_putXG (c := 6) (ty := .int) (pc := 16) h hg fl_X6_17 (Or.inl rfl) rfl rfl rfl rfl dX6_init_16 ?_
  refine T_letS fun s3 => ?_
  refine T_aload_n (pc := 19) h dX6_init_19 rfl 0 rfl ?_
  refine T_bipush (pc := 20) h dX6_init_20 kb_48 ?_
  refine T_newL (N := 48) (pc := 22) h hg arc_long (by decide) (by decide) (by decide) ⟨Nat.le_of_ble_eq_true rfl, Nat.le_of_ble_eq_true rfl⟩ dX6_init_22 ?_
  refine T_letS fun s4 => ?_
  refine T_putRG (c := 6) (pc := 24) h hg fl_X6_20 (Or.inr ⟨rfl, hin, rfl⟩) rfl rfl (fun _ => rfl) (fun _ => rfl) dX6_init_24 ?_
  refine T_letS fun s5 => ?_
  exact T_return (pc := 27) h (by rw [hc1]; exact Nat.le_of_ble_eq_true rfl) (by rw [hc2]; exact Nat.le_of_ble_eq_true rfl) dX6_init_27
theorem M_X6_init (l : Launch) {iv : Sg → Prop} (hi : iv = Gr) (x0 : Nat) (σ : Sg) : CTv l yX6_init cX6_init 1 none rm_X6_init iv [.ref x0] σ (f_X6_init x0 σ) := by
  subst hi
  exact CT_of (by decide) (Nat.le_of_ble_eq_true rfl) (fun K _ h hin hg hc1 hc2 => t_X6_init h hg (hin rfl) hc1 hc2 x0 σ)
/-! LuteTabs.<init>()V [] -/
theorem dX8_init_0 : decode cX8_init 0 = .ok (.aload_n 0, 1) := by decide +kernel
theorem dX8_init_1 : decode cX8_init 1 = .ok (.invokespecial 1, 3) := by decide +kernel
theorem dX8_init_4 : decode cX8_init 4 = .ok (.aload_n 0, 1) := by decide +kernel
theorem dX8_init_5 : decode cX8_init 5 = .ok (.new 7, 3) := by decide +kernel
theorem dX8_init_8 : decode cX8_init 8 = .ok (.dup, 1) := by decide +kernel
theorem dX8_init_9 : decode cX8_init 9 = .ok (.invokespecial 9, 3) := by decide +kernel
theorem dX8_init_12 : decode cX8_init 12 = .ok (.putfield 10, 3) := by decide +kernel
theorem dX8_init_15 : decode cX8_init 15 = .ok (.aload_n 0, 1) := by decide +kernel
theorem dX8_init_16 : decode cX8_init 16 = .ok (.new 16, 3) := by decide +kernel
theorem dX8_init_19 : decode cX8_init 19 = .ok (.dup, 1) := by decide +kernel
theorem dX8_init_20 : decode cX8_init 20 = .ok (.invokespecial 18, 3) := by decide +kernel
theorem dX8_init_23 : decode cX8_init 23 = .ok (.putfield 19, 3) := by decide +kernel
theorem dX8_init_26 : decode cX8_init 26 = .ok (.aload_n 0, 1) := by decide +kernel
theorem dX8_init_27 : decode cX8_init 27 = .ok (.new 23, 3) := by decide +kernel
theorem dX8_init_30 : decode cX8_init 30 = .ok (.dup, 1) := by decide +kernel
theorem dX8_init_31 : decode cX8_init 31 = .ok (.aload_n 0, 1) := by decide +kernel
theorem dX8_init_32 : decode cX8_init 32 = .ok (.getfield 10, 3) := by decide +kernel
theorem dX8_init_35 : decode cX8_init 35 = .ok (.aload_n 0, 1) := by decide +kernel
theorem dX8_init_36 : decode cX8_init 36 = .ok (.getfield 19, 3) := by decide +kernel
theorem dX8_init_39 : decode cX8_init 39 = .ok (.invokespecial 25, 3) := by decide +kernel
theorem dX8_init_42 : decode cX8_init 42 = .ok (.putfield 28, 3) := by decide +kernel
theorem dX8_init_45 : decode cX8_init 45 = .ok (.aload_n 0, 1) := by decide +kernel
theorem dX8_init_46 : decode cX8_init 46 = .ok (.new 32, 3) := by decide +kernel
theorem dX8_init_49 : decode cX8_init 49 = .ok (.dup, 1) := by decide +kernel
theorem dX8_init_50 : decode cX8_init 50 = .ok (.aload_n 0, 1) := by decide +kernel
theorem dX8_init_51 : decode cX8_init 51 = .ok (.getfield 10, 3) := by decide +kernel
theorem dX8_init_54 : decode cX8_init 54 = .ok (.aload_n 0, 1) := by decide +kernel
theorem dX8_init_55 : decode cX8_init 55 = .ok (.getfield 19, 3) := by decide +kernel
theorem dX8_init_58 : decode cX8_init 58 = .ok (.aload_n 0, 1) := by decide +kernel
theorem dX8_init_59 : decode cX8_init 59 = .ok (.getfield 28, 3) := by decide +kernel
theorem dX8_init_62 : decode cX8_init 62 = .ok (.invokespecial 34, 3) := by decide +kernel
theorem dX8_init_65 : decode cX8_init 65 = .ok (.putfield 37, 3) := by decide +kernel
theorem dX8_init_68 : decode cX8_init 68 = .ok (.aload_n 0, 1) := by decide +kernel
theorem dX8_init_69 : decode cX8_init 69 = .ok (.new 41, 3) := by decide +kernel
theorem dX8_init_72 : decode cX8_init 72 = .ok (.dup, 1) := by decide +kernel
theorem dX8_init_73 : decode cX8_init 73 = .ok (.bipush 80, 2) := by decide +kernel
theorem dX8_init_75 : decode cX8_init 75 = .ok (.invokespecial 45, 3) := by decide +kernel
theorem dX8_init_78 : decode cX8_init 78 = .ok (.putfield 48, 3) := by decide +kernel
theorem dX8_init_81 : decode cX8_init 81 = .ok (.aload_n 0, 1) := by decide +kernel
theorem dX8_init_82 : decode cX8_init 82 = .ok (.new 43, 3) := by decide +kernel
theorem dX8_init_85 : decode cX8_init 85 = .ok (.dup, 1) := by decide +kernel
theorem dX8_init_86 : decode cX8_init 86 = .ok (.aload_n 0, 1) := by decide +kernel
theorem dX8_init_87 : decode cX8_init 87 = .ok (.getfield 10, 3) := by decide +kernel
theorem dX8_init_90 : decode cX8_init 90 = .ok (.invokespecial 52, 3) := by decide +kernel
theorem dX8_init_93 : decode cX8_init 93 = .ok (.putfield 55, 3) := by decide +kernel
theorem dX8_init_96 : decode cX8_init 96 = .ok (.aload_n 0, 1) := by decide +kernel
theorem dX8_init_97 : decode cX8_init 97 = .ok (.new 41, 3) := by decide +kernel
theorem dX8_init_100 : decode cX8_init 100 = .ok (.dup, 1) := by decide +kernel
theorem dX8_init_101 : decode cX8_init 101 = .ok (.sipush 140, 3) := by decide +kernel
theorem dX8_init_104 : decode cX8_init 104 = .ok (.invokespecial 45, 3) := by decide +kernel
theorem dX8_init_107 : decode cX8_init 107 = .ok (.putfield 59, 3) := by decide +kernel
theorem dX8_init_110 : decode cX8_init 110 = .ok (.aload_n 0, 1) := by decide +kernel
theorem dX8_init_111 : decode cX8_init 111 = .ok (.iconst 4, 1) := by decide +kernel
theorem dX8_init_112 : decode cX8_init 112 = .ok (.anewarray 62, 3) := by decide +kernel
theorem dX8_init_115 : decode cX8_init 115 = .ok (.putfield 64, 3) := by decide +kernel
theorem dX8_init_118 : decode cX8_init 118 = .ok (.aload_n 0, 1) := by decide +kernel
theorem dX8_init_119 : decode cX8_init 119 = .ok (.iconst 4, 1) := by decide +kernel
theorem dX8_init_120 : decode cX8_init 120 = .ok (.bipush 14, 2) := by decide +kernel
theorem dX8_init_122 : decode cX8_init 122 = .ok (.multianewarray 68 2, 4) := by decide +kernel
theorem dX8_init_126 : decode cX8_init 126 = .ok (.putfield 70, 3) := by decide +kernel
theorem dX8_init_129 : decode cX8_init 129 = .ok (.aload_n 0, 1) := by decide +kernel
theorem dX8_init_130 : decode cX8_init 130 = .ok (.iconst 4, 1) := by decide +kernel
theorem dX8_init_131 : decode cX8_init 131 = .ok (.newarray .boolean, 2) := by decide +kernel
theorem dX8_init_133 : decode cX8_init 133 = .ok (.putfield 73, 3) := by decide +kernel
theorem dX8_init_136 : decode cX8_init 136 = .ok (.aload_n 0, 1) := by decide +kernel
theorem dX8_init_137 : decode cX8_init 137 = .ok (.bipush 14, 2) := by decide +kernel
theorem dX8_init_139 : decode cX8_init 139 = .ok (.newarray .int, 2) := by decide +kernel
theorem dX8_init_141 : decode cX8_init 141 = .ok (.putfield 77, 3) := by decide +kernel
theorem dX8_init_144 : decode cX8_init 144 = .ok (.aload_n 0, 1) := by decide +kernel
theorem dX8_init_145 : decode cX8_init 145 = .ok (.iconst 0, 1) := by decide +kernel
theorem dX8_init_146 : decode cX8_init 146 = .ok (.putfield 81, 3) := by decide +kernel
theorem dX8_init_149 : decode cX8_init 149 = .ok (.aload_n 0, 1) := by decide +kernel
theorem dX8_init_150 : decode cX8_init 150 = .ok (.iconst 0, 1) := by decide +kernel
theorem dX8_init_151 : decode cX8_init 151 = .ok (.putfield 85, 3) := by decide +kernel
theorem dX8_init_154 : decode cX8_init 154 = .ok (.iconst 0, 1) := by decide +kernel
theorem dX8_init_155 : decode cX8_init 155 = .ok (.istore_n 1, 1) := by decide +kernel
theorem dX8_init_156 : decode cX8_init 156 = .ok (.iload_n 1, 1) := by decide +kernel
theorem dX8_init_157 : decode cX8_init 157 = .ok (.iconst 4, 1) := by decide +kernel
theorem dX8_init_158 : decode cX8_init 158 = .ok (.if_icmp .ge 22, 3) := by decide +kernel
theorem dX8_init_161 : decode cX8_init 161 = .ok (.aload_n 0, 1) := by decide +kernel
theorem dX8_init_162 : decode cX8_init 162 = .ok (.getfield 64, 3) := by decide +kernel
theorem dX8_init_165 : decode cX8_init 165 = .ok (.iload_n 1, 1) := by decide +kernel
theorem dX8_init_166 : decode cX8_init 166 = .ok (.new 62, 3) := by decide +kernel
theorem dX8_init_169 : decode cX8_init 169 = .ok (.dup, 1) := by decide +kernel
theorem dX8_init_170 : decode cX8_init 170 = .ok (.invokespecial 89, 3) := by decide +kernel
theorem dX8_init_173 : decode cX8_init 173 = .ok (.aastore, 1) := by decide +kernel
theorem dX8_init_174 : decode cX8_init 174 = .ok (.iinc 1 1, 3) := by decide +kernel
theorem dX8_init_177 : decode cX8_init 177 = .ok (.goto (-21), 3) := by decide +kernel
theorem dX8_init_180 : decode cX8_init 180 = .ok (.return_, 1) := by decide +kernel
abbrev rm_X8_init : Room := { frames := 3, cells := 54, slots := 2222, locals := 63 }
def f_X8_init (x0 : Nat) (σ : Sg) : Option (Unit × Sg) := ck (gnew σ) (lB (newS σ (1, nfc 1)) fun s1 => bd (f_X1_init (σ.1.length) s1) fun _ s2 => ck (gk s2 x0 8) (ck (glt s2 (σ.1.length)) (lB (pR s2 x0 0 (σ.1.length)) fun s3 => ck (gnew s3) (lB (newS s3 (2, nfc 2)) fun s4 => bd (f_X2_init (s3.1.length) s4) fun _ s5 => ck (gk s5 x0 8) (ck (glt s5 (s3.1.length)) (lB (pR s5 x0 1 (s3.1.length)) fun s6 => ck (gnew s6) (lB (newS s6 (0, nfc 0)) fun s7 => ck (gk s7 x0 8) (ck (glt s7 (gR s7 x0 0)) (ck (gk s7 x0 8) (ck (glt s7 (gR s7 x0 1)) (bd (f_X0_init (s6.1.length) (gR s7 x0 0) (gR s7 x0 1) s7) fun _ s8 => ck (gk s8 x0 8) (ck (glt s8 (s6.1.length)) (lB (pR s8 x0 2 (s6.1.length)) fun s9 => ck (gnew s9) (lB (newS s9 (5, nfc 5)) fun s10 => ck (gk s10 x0 8) (ck (glt s10 (gR s10 x0 0)) (ck (gk s10 x0 8) (ck (glt s10 (gR s10 x0 1)) (ck (gk s10 x0 8) (ck (glt s10 (gR s10 x0 2)) (bd (f_X5_init (s9.1.length) (gR s10 x0 0) (gR s10 x0 1) (gR s10 x0 2) s10) fun _ s11 => ck (gk s11 x0 8) (ck (glt s11 (s9.1.length)) (lB (pR s11 x0 3 (s9.1.length)) fun s12 => ck (gnew s12) (lB (newS s12 (4, nfc 4)) fun s13 => bd (f_X4_init_80 (s12.1.length) s13) fun _ s14 => ck (gk s14 x0 8) (ck (glt s14 (s12.1.length)) (lB (pR s14 x0 4 (s12.1.length)) fun s15 => ck (gnew s15) (lB (newS s15 (3, nfc 3)) fun s16 => ck (gk s16 x0 8) (ck (glt s16 (gR s16 x0 0)) (bd (f_X3_init (s15.1.length) (gR s16 x0 0) s16) fun _ s17 => ck (gk s17 x0 8) (ck (glt s17 (s15.1.length)) (lB (pR s17 x0 5 (s15.1.length)) fun s18 => ck (gnew s18) (lB (newS s18 (4, nfc 4)) fun s19 => bd (f_X4_init_140 (s18.1.length) s19) fun _ s20 => ck (gk s20 x0 8) (ck (glt s20 (s18.1.length)) (lB (pR s20 x0 6 (s18.1.length)) fun s21 => ck (gnew s21) (lB (newS s21 (13, 4)) fun s22 => ck (gk s22 x0 8) (ck (glt s22 (s21.1.length)) (lB (pR s22 x0 7 (s21.1.length)) fun s23 => ck (decide (s23.1.length + 1 + 4 ≤ SP)) (lB (mnS s23 4 14) fun s24 => ck (gk s24 x0 8) (ck (glt s24 (s23.1.length)) (lB (pR s24 x0 8 (s23.1.length)) fun s25 => ck (gnew s25) (lB (newS s25 (12, 4)) fun s26 => ck (gk s26 x0 8) (ck (glt s26 (s25.1.length)) (lB (pR s26 x0 9 (s25.1.length)) fun s27 => ck (gnew s27) (lB (newS s27 (10, 14)) fun s28 => ck (gk s28 x0 8) (ck (glt s28 (s27.1.length)) (lB (pR s28 x0 10 (s27.1.length)) fun s29 => ck (gk s29 x0 8) (lB (pI s29 x0 11 (0 : Int32)) fun s30 => ck (gk s30 x0 8) (lB (pI s30 x0 12 (0 : Int32)) fun s31 => ck (gk s31 x0 8) (ck (glt s31 (gR s31 x0 7)) (ck (gnew s31) (lB (newS s31 (6, nfc 6)) fun s32 => bd (f_X6_init (s31.1.length) s32) fun _ s33 => ck (ga s33 (gR s31 x0 7) (0 : Int32) (s31.1.length)) (lB (pR s33 (gR s31 x0 7) (0 : Int32).toNatClampNeg (s31.1.length)) fun s34 => ck (gk s34 x0 8) (ck (glt s34 (gR s34 x0 7)) (ck (gnew s34) (lB (newS s34 (6, nfc 6)) fun s35 => bd (f_X6_init (s34.1.length) s35) fun _ s36 => ck (ga s36 (gR s34 x0 7) (1 : Int32) (s34.1.length)) (lB (pR s36 (gR s34 x0 7) (1 : Int32).toNatClampNeg (s34.1.length)) fun s37 => ck (gk s37 x0 8) (ck (glt s37 (gR s37 x0 7)) (ck (gnew s37) (lB (newS s37 (6, nfc 6)) fun s38 => bd (f_X6_init (s37.1.length) s38) fun _ s39 => ck (ga s39 (gR s37 x0 7) (2 : Int32) (s37.1.length)) (lB (pR s39 (gR s37 x0 7) (2 : Int32).toNatClampNeg (s37.1.length)) fun s40 => ck (gk s40 x0 8) (ck (glt s40 (gR s40 x0 7)) (ck (gnew s40) (lB (newS s40 (6, nfc 6)) fun s41 => bd (f_X6_init (s40.1.length) s41) fun _ s42 => ck (ga s42 (gR s40 x0 7) (3 : Int32) (s40.1.length)) (lB (pR s42 (gR s40 x0 7) (3 : Int32).toNatClampNeg (s40.1.length)) fun s43 => some ((), s43))))))))))))))))))))))))))))))))))))))))))))))))))))))))))))))))
theorem t_X8_init {K : Cx} (h : Ok K cX8_init RX8 2 rm_X8_init none) (hg : kiv K = Gr) (hin : (kme K).name = "<init>") (hc1 : kmc K = rm_X8_init.cells) (hc2 : kms K = rm_X8_init.slots) (x0 : Nat) (σ : Sg) : T K (QV K) 0 [(0, .ref x0)] [] 0 0 σ (f_X8_init x0 σ) := by
  unfold f_X8_init
  refine T_aload_n (pc := 0) h dX8_init_0 rfl 0 rfl ?_
  refine T_objI (pc := 1) h ml_X8_1 ob_in ob_cd ⟨Nat.le_of_ble_eq_true rfl, Nat.le_of_ble_eq_true rfl⟩ (Nat.le_of_ble_eq_true rfl) dX8_init_1 ?_
  refine T_aload_n (pc := 4) h dX8_init_4 rfl 0 rfl ?_
  refine T_new (c := 1) (pc := 5) h hg (by decide) cl_X8_7 ins_1 ini_1 ⟨Nat.le_of_ble_eq_true rfl, Nat.le_of_ble_eq_true rfl⟩ dX8_init_5 ?_
  refine T_letS fun s1 => ?_
  refine T_dup (pc := 8) h dX8_init_8 rfl ?_
  refine T_callIN (host := RX8) (pc := 9) h (M_X1_init (kl K) hg (σ.1.length) s1) mi_X1_init (h.2.2.2.2.2.2.2.2.2.2.2.1.2.2.2.2.2.2.1) rfl ⟨Nat.le_of_ble_eq_true rfl, Nat.le_of_ble_eq_true rfl⟩ ⟨Nat.le_of_ble_eq_true rfl, Nat.le_of_ble_eq_true rfl⟩ (Nat.le_of_ble_eq_true rfl) dX8_init_9 rfl (fun _ s2 => ?_)
  refine T_putRG (c := 8) (pc := 12) h hg fl_X8_10 (Or.inr ⟨rfl, hin, rfl⟩) rfl rfl (fun _ => rfl) (fun _ => rfl) dX8_init_12 ?_
  refine T_letS fun s3 => ?_
  refine T_aload_n (pc := 15) h dX8_init_15 rfl 0 rfl ?_
  refine T_new (c := 2) (pc := 16) h hg (by decide) cl_X8_16 ins_2 ini_2 ⟨Nat.le_of_ble_eq_true rfl, Nat.le_of_ble_eq_true rfl⟩ dX8_init_16 ?_
  refine T_letS fun s4 => ?_
  refine T_dup (pc := 19) h dX8_init_19 rfl ?_
  refine T_callIN (host := RX8) (pc := 20) h (M_X2_init (kl K) hg (s3.1.length) s4) mi_X2_init (h.2.2.2.2.2.2.2.2.2.2.2.1.2.2.2.2.2.2.2.1) rfl ⟨Nat.le_of_ble_eq_true rfl, Nat.le_of_ble_eq_true rfl⟩ ⟨Nat.le_of_ble_eq_true rfl, Nat.le_of_ble_eq_true rfl⟩ (Nat.le_of_ble_eq_true rfl) dX8_init_20 rfl (fun _ s5 => ?_)
  refine T_putRG (c := 8) (pc := 23) h hg fl_X8_19 (Or.inr ⟨rfl, hin, rfl⟩) rfl rfl (fun _ => rfl) (fun _ => rfl) dX8_init_23 ?_
  refine T_letS fun s6 => ?_
  refine T_aload_n (pc := 26) h dX8_init_26 rfl 0 rfl ?_
  refine T_new (c := 0) (pc := 27) h hg (by decide) cl_X8_23 ins_0 ini_0 ⟨Nat.le_of_ble_eq_true rfl, Nat.le_of_ble_eq_true rfl⟩ dX8_init_27 ?_
  refine T_letS fun s7 => ?_
  refine T_dup (pc := 30) h dX8_init_30 rfl ?_
  refine T_aload_n (pc := 31) h dX8_init_31 rfl 0 rfl ?_
  refine T_getRG (c := 8) (pc := 32) h fl_X8_10 rfl dX8_init_32 ?_
  refine T_aload_n (pc := 35) h dX8_init_35 rfl 0 rfl ?_
  refine T_getRG (c := 8) (pc := 36) h fl_X8_19 rfl dX8_init_36 ?_
  refine T_callI (pc := 39) h (M_X0_init (kl K) hg (s6.1.length) (gR s7 x0 0) (gR s7 x0 1) s7) mi_X0_init ml_X8_25 rfl ⟨Nat.le_of_ble_eq_true rfl, Nat.le_of_ble_eq_true rfl⟩ ⟨Nat.le_of_ble_eq_true rfl, Nat.le_of_ble_eq_true rfl⟩ (Nat.le_of_ble_eq_true rfl) dX8_init_39 rfl (fun _ s8 => ?_)
  refine T_putRG (c := 8) (pc := 42) h hg fl_X8_28 (Or.inr ⟨rfl, hin, rfl⟩) rfl rfl (fun _ => rfl) (fun _ => rfl) dX8_init_42 ?_
  refine T_letS fun s9 => ?_
  refine T_aload_n (pc := 45) h dX8_init_45 rfl 0 rfl ?_
  refine T_new (c := 5) (pc := 46) h hg (by decide) cl_X8_32 ins_5 ini_5 ⟨Nat.le_of_ble_eq_true rfl, Nat.le_of_ble_eq_true rfl⟩ dX8_init_46 ?_
  refine T_letS fun s10 => ?_
  refine T_dup (pc := 49) h dX8_init_49 rfl ?_
  refine T_aload_n (pc := 50) h dX8_init_50 rfl 0 rfl ?_
  refine T_getRG (c := 8) (pc := 51) h fl_X8_10 rfl dX8_init_51 ?_
  refine T_aload_n (pc := 54) h dX8_init_54 rfl 0 rfl ?_
  refine T_getRG (c := 8) (pc := 55) h fl_X8_19 rfl dX8_init_55 ?_
  refine T_aload_n (pc := 58) h dX8_init_58 rfl 0 rfl ?_
  refine T_getRG (c := 8) (pc := 59) h fl_X8_28 rfl dX8_init_59 ?_
  refine T_callI (pc := 62) h (M_X5_init (kl K) hg (s9.1.length) (gR s10 x0 0) (gR s10 x0 1) (gR s10 x0 2) s10) mi_X5_init ml_X8_34 rfl ⟨Nat.le_of_ble_eq_true rfl, Nat.le_of_ble_eq_true rfl⟩ ⟨Nat.le_of_ble_eq_true rfl, Nat.le_of_ble_eq_true rfl⟩ (Nat.le_of_ble_eq_true rfl) dX8_init_62 rfl (fun _ s11 => ?_)
  refine T_putRG (c := 8) (pc := 65) h hg fl_X8_37 (Or.inr ⟨rfl, hin, rfl⟩) rfl rfl (fun _ => rfl) (fun _ => rfl) dX8_init_65 ?_
  refine T_letS fun s12 => ?_
  refine T_aload_n (pc := 68) h dX8_init_68 rfl 0 rfl ?_
  refine T_new (c := 4) (pc := 69) h hg (by decide) cl_X8_41 ins_4 ini_4 ⟨Nat.le_of_ble_eq_true rfl, Nat.le_of_ble_eq_true rfl⟩ dX8_init_69 ?_
  refine T_letS fun s13 => ?_
  refine T_dup (pc := 72) h dX8_init_72 rfl ?_
  refine T_bipush (pc := 73) h dX8_init_73 kb_80 ?_
  refine T_callI (pc := 75) h (M_X4_init_80 (kl K) hg (s12.1.length) s13) mi_X4_init ml_X8_45 rfl ⟨Nat.le_of_ble_eq_true rfl, Nat.le_of_ble_eq_true rfl⟩ ⟨Nat.le_of_ble_eq_true rfl, Nat.le_of_ble_eq_true rfl⟩ (Nat.le_of_ble_eq_true rfl) dX8_init_75 rfl (fun _ s14 => ?_)
  refine T_putRG (c := 8) (pc := 78) h hg fl_X8_48 (Or.inr ⟨rfl, hin, rfl⟩) rfl rfl (fun _ => rfl) (fun _ => rfl) dX8_init_78 ?_
  refine T_letS fun s15 => ?_
  refine T_aload_n (pc := 81) h dX8_init_81 rfl 0 rfl ?_
  refine T_new (c := 3) (pc := 82) h hg (by decide) cl_X8_43 ins_3 ini_3 ⟨Nat.le_of_ble_eq_true rfl, Nat.le_of_ble_eq_true rfl⟩ dX8_init_82 ?_
  refine T_letS fun s16 => ?_
  refine T_dup (pc := 85) h dX8_init_85 rfl ?_
  refine T_aload_n (pc := 86) h dX8_init_86 rfl 0 rfl ?_
  refine T_getRG (c := 8) (pc := 87) h fl_X8_10 rfl dX8_init_87 ?_
  refine T_callI (pc := 90) h (M_X3_init (kl K) hg (s15.1.length) (gR s16 x0 0) s16) mi_X3_init ml_X8_52 rfl ⟨Nat.le_of_ble_eq_true rfl, Nat.le_of_ble_eq_true rfl⟩ ⟨Nat.le_of_ble_eq_true rfl, Nat.le_of_ble_eq_true rfl⟩ (Nat.le_of_ble_eq_true rfl) dX8_init_90 rfl (fun _ s17 => ?_)
  refine T_putRG (c := 8) (pc := 93) h hg fl_X8_55 (Or.inr ⟨rfl, hin, rfl⟩) rfl rfl (fun _ => rfl) (fun _ => rfl) dX8_init_93 ?_
  refine T_letS fun s18 => ?_
  refine T_aload_n (pc := 96) h dX8_init_96 rfl 0 rfl ?_
  refine T_new (c := 4) (pc := 97) h hg (by decide) cl_X8_41 ins_4 ini_4 ⟨Nat.le_of_ble_eq_true rfl, Nat.le_of_ble_eq_true rfl⟩ dX8_init_97 ?_
  refine T_letS fun s19 => ?_
  refine T_dup (pc := 100) h dX8_init_100 rfl ?_
  refine T_sipush (pc := 101) h dX8_init_101 cks_140 ?_
  refine T_callI (pc := 104) h (M_X4_init_140 (kl K) hg (s18.1.length) s19) mi_X4_init ml_X8_45 rfl ⟨Nat.le_of_ble_eq_true rfl, Nat.le_of_ble_eq_true rfl⟩ ⟨Nat.le_of_ble_eq_true rfl, Nat.le_of_ble_eq_true rfl⟩ (Nat.le_of_ble_eq_true rfl) dX8_init_104 rfl (fun _ s20 => ?_)
  refine T_putRG (c := 8) (pc := 107) h hg fl_X8_59 (Or.inr ⟨rfl, hin, rfl⟩) rfl rfl (fun _ => rfl) (fun _ => rfl) dX8_init_107 ?_
  refine T_letS fun s21 => ?_
  refine T_aload_n (pc := 110) h dX8_init_110 rfl 0 rfl ?_
  refine T_iconst (pc := 111) h dX8_init_111 ki_4 ?_
  refine T_newQ (N := 4) (pc := 112) h hg cl_X8_62 (by decide) (by decide) (by decide) ⟨Nat.le_of_ble_eq_true rfl, Nat.le_of_ble_eq_true rfl⟩ dX8_init_112 ?_
  refine T_letS fun s22 => ?_
  refine T_putRG (c := 8) (pc := 115) h hg fl_X8_64 (Or.inr ⟨rfl, hin, rfl⟩) rfl rfl (fun _ => rfl) (fun _ => rfl) dX8_init_115 ?_
  refine T_letS fun s23 => ?_
  refine T_aload_n (pc := 118) h dX8_init_118 rfl 0 rfl ?_
  refine T_iconst (pc := 119) h dX8_init_119 ki_4 ?_
  refine T_bipush (pc := 120) h dX8_init_120 kb_14 ?_
  refine T_mna (N := 4) (M := 14) (pc := 122) h hg cl_mm arc_int (by decide) (by decide) (by decide) (by decide) (by decide) (by decide) ⟨Nat.le_of_ble_eq_true rfl, Nat.le_of_ble_eq_true rfl⟩ dX8_init_122 ?_
  refine T_letS fun s24 => ?_
  refine T_putRG (c := 8) (pc := 126) h hg fl_X8_70 (Or.inr ⟨rfl, hin, rfl⟩) rfl rfl (fun _ => rfl) (fun _ => rfl) dX8_init_126 ?_
  refine T_letS fun s25 => ?_
  refine T_aload_n (pc := 129) h dX8_init_129 rfl 0 rfl ?_
  refine T_iconst (pc := 130) h dX8_init_130 ki_4 ?_
  refine T_newZ (N := 4) (pc := 131) h hg arc_boolean (by decide) (by decide) (by decide) ⟨Nat.le_of_ble_eq_true rfl, Nat.le_of_ble_eq_true rfl⟩ dX8_init_131 ?_
  refine T_letS fun s26 => ?_
  refine T_putRG (c := 8) (pc := 133) h hg fl_X8_73 (Or.inr ⟨rfl, hin, rfl⟩) rfl rfl (fun _ => rfl) (fun _ => rfl) dX8_init_133 ?_
  refine T_letS fun s27 => ?_
  refine T_aload_n (pc := 136) h dX8_init_136 rfl 0 rfl ?_
  refine T_bipush (pc := 137) h dX8_init_137 kb_14 ?_
  refine T_newI (N := 14) (pc := 139) h hg arc_int (by decide) (by decide) (by decide) ⟨Nat.le_of_ble_eq_true rfl, Nat.le_of_ble_eq_true rfl⟩ dX8_init_139 ?_
  refine T_letS fun s28 => ?_
  refine T_putRG (c := 8) (pc := 141) h hg fl_X8_77 (Or.inr ⟨rfl, hin, rfl⟩) rfl rfl (fun _ => rfl) (fun _ => rfl) dX8_init_141 ?_
  refine T_letS fun s29 => ?_
  refine T_aload_n (pc := 144) h dX8_init_144 rfl 0 rfl ?_
  refine T_iconst (pc := 145) h dX8_init_145 ki_0 ?_
  refine T_putXG (c := 8) (ty := .boolean) (pc := 146) h hg fl_X8_81 (Or.inl rfl) rfl rfl (by decide +kernel) (by decide +kernel) dX8_init_146 ?_
  refine T_letS fun s30 => ?_
  refine T_aload_n (pc := 149) h dX8_init_149 rfl 0 rfl ?_
  refine T_iconst (pc := 150) h dX8_init_150 ki_0 ?_
  refine T_putXG (c := 8) (ty := .int) (pc := 151) h hg fl_X8_85 (Or.inl rfl) rfl rfl rfl rfl dX8_init_151 ?_
  refine T_letS fun s31 => ?_
  refine T_iconst (pc := 154) h dX8_init_154 ki_0 ?_
  refine T_istore_n (lv' := [(1, .int (0 : Int32)), (0, .ref x0)]) (pc := 155) h dX8_init_155 rfl (by decide) rfl ?_
  refine T_iload_n (pc := 156) h dX8_init_156 rfl 0 rfl ?_
  refine T_iconst (pc := 157) h dX8_init_157 ki_4 ?_
  refine T_geF (pc := 158) (tgt := 180) h dX8_init_158 (by decide) (by decide) ?_
  refine T_aload_n (pc := 161) h dX8_init_161 rfl 1 rfl ?_
  refine T_getRG (c := 8) (pc := 162) h fl_X8_64 rfl dX8_init_162 ?_
  refine T_iload_n (pc := 165) h dX8_init_165 rfl 0 rfl ?_
  refine T_new (c := 6) (pc := 166) h hg (by decide) cl_X8_62 ins_6 ini_6 ⟨Nat.le_of_ble_eq_true rfl, Nat.le_of_ble_eq_true rfl⟩ dX8_init_166 ?_
  refine T_letS fun s32 => ?_
  refine T_dup (pc := 169) h dX8_init_169 rfl ?_
  refine T_callIN (host := RX8) (pc := 170) h (M_X6_init (kl K) hg (s31.1.length) s32) mi_X6_init (h.2.2.2.2.2.2.2.2.2.2.2.1.2.2.2.2.2.2.2.2.2) rfl ⟨Nat.le_of_ble_eq_true rfl, Nat.le_of_ble_eq_true rfl⟩ ⟨Nat.le_of_ble_eq_true rfl, Nat.le_of_ble_eq_true rfl⟩ (Nat.le_of_ble_eq_true rfl) dX8_init_170 rfl (fun _ s33 => ?_)
  refine T_aastG (pc := 173) h hg dX8_init_173 ?_
  refine T_letS fun s34 => ?_
  refine T_iincC (w := (1 : Int32)) (lv' := [(1, .int (1 : Int32)), (0, .ref x0)]) (pc := 174) h dX8_init_174 0 rfl (by decide) (by decide) rfl ?_
  refine T_goto (pc := 177) (tgt := 156) h dX8_init_177 (by decide) ?_
  refine T_iload_n (pc := 156) h dX8_init_156 rfl 0 rfl ?_
  refine T_iconst (pc := 157) h dX8_init_157 ki_4 ?_
  refine T_geF (pc := 158) (tgt := 180) h dX8_init_158 (by decide) (by decide) ?_
  refine T_aload_n (pc := 161) h dX8_init_161 rfl 1 rfl ?_
  refine T_getRG (c := 8) (pc := 162) h fl_X8_64 rfl dX8_init_162 ?_
  refine T_iload_n (pc := 165) h dX8_init_165 rfl 0 rfl ?_
  refine T_new (c := 6) (pc := 166) h hg (by decide) cl_X8_62 ins_6 ini_6 ⟨Nat.le_of_ble_eq_true rfl, Nat.le_of_ble_eq_true rfl⟩ dX8_init_166 ?_
  refine T_letS fun s35 => ?_
  refine T_dup (pc := 169) h dX8_init_169 rfl ?_
  refine T_callIN (host := RX8) (pc := 170) h (M_X6_init (kl K) hg (s34.1.length) s35) mi_X6_init (h.2.2.2.2.2.2.2.2.2.2.2.1.2.2.2.2.2.2.2.2.2) rfl ⟨Nat.le_of_ble_eq_true rfl, Nat.le_of_ble_eq_true rfl⟩ ⟨Nat.le_of_ble_eq_true rfl, Nat.le_of_ble_eq_true rfl⟩ (Nat.le_of_ble_eq_true rfl) dX8_init_170 rfl (fun _ s36 => ?_)
  refine T_aastG (pc := 173) h hg dX8_init_173 ?_
  refine T_letS fun s37 => ?_
  refine T_iincC (w := (2 : Int32)) (lv' := [(1, .int (2 : Int32)), (0, .ref x0)]) (pc := 174) h dX8_init_174 0 rfl (by decide) (by decide) rfl ?_
  refine T_goto (pc := 177) (tgt := 156) h dX8_init_177 (by decide) ?_
  refine T_iload_n (pc := 156) h dX8_init_156 rfl 0 rfl ?_
  refine T_iconst (pc := 157) h dX8_init_157 ki_4 ?_
  refine T_geF (pc := 158) (tgt := 180) h dX8_init_158 (by decide) (by decide) ?_
  refine T_aload_n (pc := 161) h dX8_init_161 rfl 1 rfl ?_
  refine T_getRG (c := 8) (pc := 162) h fl_X8_64 rfl dX8_init_162 ?_
  refine T_iload_n (pc := 165) h dX8_init_165 rfl 0 rfl ?_
  refine T_new (c := 6) (pc := 166) h hg (by decide) cl_X8_62 ins_6 ini_6 ⟨Nat.le_of_ble_eq_true rfl, Nat.le_of_ble_eq_true rfl⟩ dX8_init_166 ?_
  refine T_letS fun s38 => ?_
  refine T_dup (pc := 169) h dX8_init_169 rfl ?_
  refine T_callIN (host := RX8) (pc := 170) h (M_X6_init (kl K) hg (s37.1.length) s38) mi_X6_init (h.2.2.2.2.2.2.2.2.2.2.2.1.2.2.2.2.2.2.2.2.2) rfl ⟨Nat.le_of_ble_eq_true rfl, Nat.le_of_ble_eq_true rfl⟩ ⟨Nat.le_of_ble_eq_true rfl, Nat.le_of_ble_eq_true rfl⟩ (Nat.le_of_ble_eq_true rfl) dX8_init_170 rfl (fun _ s39 => ?_)
  refine T_aastG (pc := 173) h hg dX8_init_173 ?_
  refine T_letS fun s40 => ?_
  refine T_iincC (w := (3 : Int32)) (lv' := [(1, .int (3 : Int32)), (0, .ref x0)]) (pc := 174) h dX8_init_174 0 rfl (by decide) (by decide) rfl ?_
  refine T_goto (pc := 177) (tgt := 156) h dX8_init_177 (by decide) ?_
  refine T_iload_n (pc := 156) h dX8_init_156 rfl 0 rfl ?_
  refine T_iconst (pc := 157) h dX8_init_157 ki_4 ?_
  refine T_geF (pc := 158) (tgt := 180) h dX8_init_158 (by decide) (by decide) ?_
  refine T_aload_n (pc := 161) h dX8_init_161 rfl 1 rfl ?_
  refine T_getRG (c := 8) (pc := 162) h fl_X8_64 rfl dX8_init_162 ?_
  refine T_iload_n (pc := 165) h dX8_init_165 rfl 0 rfl ?_
  refine T_new (c := 6) (pc := 166) h hg (by decide) cl_X8_62 ins_6 ini_6 ⟨Nat.le_of_ble_eq_true rfl, Nat.le_of_ble_eq_true rfl⟩ dX8_init_166 ?_
  refine T_letS fun s41 => ?_
  refine T_dup (pc := 169) h dX8_init_169 rfl ?_
  refine T_callIN (host := RX8) (pc := 170) h (M_X6_init (kl K) hg (s40.1.length) s41) mi_X6_init (h.2.2.2.2.2.2.2.2.2.2.2.1.2.2.2.2.2.2.2.2.2) rfl ⟨Nat.le_of_ble_eq_true rfl, Nat.le_of_ble_eq_true rfl⟩ ⟨Nat.le_of_ble_eq_true rfl, Nat.le_of_ble_eq_true rfl⟩ (Nat.le_of_ble_eq_true rfl) dX8_init_170 rfl (fun _ s42 => ?_)
  refine T_aastG (pc := 173) h hg dX8_init_173 ?_
  refine T_letS fun s43 => ?_
  refine T_iincC (w := (4 : Int32)) (lv' := [(1, .int (4 : Int32)), (0, .ref x0)]) (pc := 174) h dX8_init_174 0 rfl (by decide) (by decide) rfl ?_
  refine T_goto (pc := 177) (tgt := 156) h dX8_init_177 (by decide) ?_
  refine T_iload_n (pc := 156) h dX8_init_156 rfl 0 rfl ?_
  refine T_iconst (pc := 157) h dX8_init_157 ki_4 ?_
  refine T_geT (pc := 158) (tgt := 180) h dX8_init_158 (by decide) (by decide) ?_
  exact T_return (pc := 180) h (by rw [hc1]; exact Nat.le_of_ble_eq_true rfl) (by rw [hc2]; exact Nat.le_of_ble_eq_true rfl) dX8_init_180
theorem M_X8_init (l : Launch) {iv : Sg → Prop} (hi : iv = Gr) (x0 : Nat) (σ : Sg) : CTv l yX8_init cX8_init 2 none rm_X8_init iv [.ref x0] σ (f_X8_init x0 σ) := by
  subst hi
  exact CT_of (by decide) (Nat.le_of_ble_eq_true rfl) (fun K _ h hin hg hc1 hc2 => t_X8_init h hg (hin rfl) hc1 hc2 x0 σ)
/-! LuteTabsModel.<init>()V [] -/
theorem dX9_init_0 : decode cX9_init 0 = .ok (.aload_n 0, 1) := by decide +kernel
theorem dX9_init_1 : decode cX9_init 1 = .ok (.invokespecial 1, 3) := by decide +kernel
theorem dX9_init_4 : decode cX9_init 4 = .ok (.aload_n 0, 1) := by decide +kernel
theorem dX9_init_5 : decode cX9_init 5 = .ok (.iconst 5, 1) := by decide +kernel
theorem dX9_init_6 : decode cX9_init 6 = .ok (.putfield 7, 3) := by decide +kernel
theorem dX9_init_9 : decode cX9_init 9 = .ok (.aload_n 0, 1) := by decide +kernel
theorem dX9_init_10 : decode cX9_init 10 = .ok (.iconst 5, 1) := by decide +kernel
theorem dX9_init_11 : decode cX9_init 11 = .ok (.newarray .int, 2) := by decide +kernel
theorem dX9_init_13 : decode cX9_init 13 = .ok (.putfield 13, 3) := by decide +kernel
theorem dX9_init_16 : decode cX9_init 16 = .ok (.aload_n 0, 1) := by decide +kernel
theorem dX9_init_17 : decode cX9_init 17 = .ok (.bipush 7, 2) := by decide +kernel
theorem dX9_init_19 : decode cX9_init 19 = .ok (.putfield 17, 3) := by decide +kernel
theorem dX9_init_22 : decode cX9_init 22 = .ok (.aload_n 0, 1) := by decide +kernel
theorem dX9_init_23 : decode cX9_init 23 = .ok (.iconst 3, 1) := by decide +kernel
theorem dX9_init_24 : decode cX9_init 24 = .ok (.putfield 20, 3) := by decide +kernel
theorem dX9_init_27 : decode cX9_init 27 = .ok (.aload_n 0, 1) := by decide +kernel
theorem dX9_init_28 : decode cX9_init 28 = .ok (.iconst 2, 1) := by decide +kernel
theorem dX9_init_29 : decode cX9_init 29 = .ok (.putfield 23, 3) := by decide +kernel
theorem dX9_init_32 : decode cX9_init 32 = .ok (.aload_n 0, 1) := by decide +kernel
theorem dX9_init_33 : decode cX9_init 33 = .ok (.iconst 1, 1) := by decide +kernel
theorem dX9_init_34 : decode cX9_init 34 = .ok (.putfield 26, 3) := by decide +kernel
theorem dX9_init_37 : decode cX9_init 37 = .ok (.aload_n 0, 1) := by decide +kernel
theorem dX9_init_38 : decode cX9_init 38 = .ok (.iconst 1, 1) := by decide +kernel
theorem dX9_init_39 : decode cX9_init 39 = .ok (.putfield 29, 3) := by decide +kernel
theorem dX9_init_42 : decode cX9_init 42 = .ok (.aload_n 0, 1) := by decide +kernel
theorem dX9_init_43 : decode cX9_init 43 = .ok (.bipush 14, 2) := by decide +kernel
theorem dX9_init_45 : decode cX9_init 45 = .ok (.newarray .int, 2) := by decide +kernel
theorem dX9_init_47 : decode cX9_init 47 = .ok (.putfield 32, 3) := by decide +kernel
theorem dX9_init_50 : decode cX9_init 50 = .ok (.aload_n 0, 1) := by decide +kernel
theorem dX9_init_51 : decode cX9_init 51 = .ok (.bipush 14, 2) := by decide +kernel
theorem dX9_init_53 : decode cX9_init 53 = .ok (.newarray .int, 2) := by decide +kernel
theorem dX9_init_55 : decode cX9_init 55 = .ok (.putfield 35, 3) := by decide +kernel
theorem dX9_init_58 : decode cX9_init 58 = .ok (.aload_n 0, 1) := by decide +kernel
theorem dX9_init_59 : decode cX9_init 59 = .ok (.bipush 14, 2) := by decide +kernel
theorem dX9_init_61 : decode cX9_init 61 = .ok (.newarray .int, 2) := by decide +kernel
theorem dX9_init_63 : decode cX9_init 63 = .ok (.putfield 38, 3) := by decide +kernel
theorem dX9_init_66 : decode cX9_init 66 = .ok (.aload_n 0, 1) := by decide +kernel
theorem dX9_init_67 : decode cX9_init 67 = .ok (.bipush 14, 2) := by decide +kernel
theorem dX9_init_69 : decode cX9_init 69 = .ok (.newarray .int, 2) := by decide +kernel
theorem dX9_init_71 : decode cX9_init 71 = .ok (.putfield 41, 3) := by decide +kernel
theorem dX9_init_74 : decode cX9_init 74 = .ok (.aload_n 0, 1) := by decide +kernel
theorem dX9_init_75 : decode cX9_init 75 = .ok (.bipush 56, 2) := by decide +kernel
theorem dX9_init_77 : decode cX9_init 77 = .ok (.newarray .int, 2) := by decide +kernel
theorem dX9_init_79 : decode cX9_init 79 = .ok (.putfield 44, 3) := by decide +kernel
theorem dX9_init_82 : decode cX9_init 82 = .ok (.aload_n 0, 1) := by decide +kernel
theorem dX9_init_83 : decode cX9_init 83 = .ok (.iconst 4, 1) := by decide +kernel
theorem dX9_init_84 : decode cX9_init 84 = .ok (.newarray .boolean, 2) := by decide +kernel
theorem dX9_init_86 : decode cX9_init 86 = .ok (.putfield 47, 3) := by decide +kernel
theorem dX9_init_89 : decode cX9_init 89 = .ok (.aload_n 0, 1) := by decide +kernel
theorem dX9_init_90 : decode cX9_init 90 = .ok (.bipush 14, 2) := by decide +kernel
theorem dX9_init_92 : decode cX9_init 92 = .ok (.newarray .int, 2) := by decide +kernel
theorem dX9_init_94 : decode cX9_init 94 = .ok (.putfield 51, 3) := by decide +kernel
theorem dX9_init_97 : decode cX9_init 97 = .ok (.aload_n 0, 1) := by decide +kernel
theorem dX9_init_98 : decode cX9_init 98 = .ok (.sipush 196, 3) := by decide +kernel
theorem dX9_init_101 : decode cX9_init 101 = .ok (.newarray .int, 2) := by decide +kernel
theorem dX9_init_103 : decode cX9_init 103 = .ok (.putfield 54, 3) := by decide +kernel
theorem dX9_init_106 : decode cX9_init 106 = .ok (.aload_n 0, 1) := by decide +kernel
theorem dX9_init_107 : decode cX9_init 107 = .ok (.bipush 14, 2) := by decide +kernel
theorem dX9_init_109 : decode cX9_init 109 = .ok (.newarray .int, 2) := by decide +kernel
theorem dX9_init_111 : decode cX9_init 111 = .ok (.putfield 57, 3) := by decide +kernel
theorem dX9_init_114 : decode cX9_init 114 = .ok (.aload_n 0, 1) := by decide +kernel
theorem dX9_init_115 : decode cX9_init 115 = .ok (.bipush 14, 2) := by decide +kernel
theorem dX9_init_117 : decode cX9_init 117 = .ok (.newarray .int, 2) := by decide +kernel
theorem dX9_init_119 : decode cX9_init 119 = .ok (.putfield 60, 3) := by decide +kernel
theorem dX9_init_122 : decode cX9_init 122 = .ok (.aload_n 0, 1) := by decide +kernel
theorem dX9_init_123 : decode cX9_init 123 = .ok (.sipush 1792, 3) := by decide +kernel
theorem dX9_init_126 : decode cX9_init 126 = .ok (.newarray .int, 2) := by decide +kernel
theorem dX9_init_128 : decode cX9_init 128 = .ok (.putfield 63, 3) := by decide +kernel
theorem dX9_init_131 : decode cX9_init 131 = .ok (.aload_n 0, 1) := by decide +kernel
theorem dX9_init_132 : decode cX9_init 132 = .ok (.bipush 14, 2) := by decide +kernel
theorem dX9_init_134 : decode cX9_init 134 = .ok (.newarray .int, 2) := by decide +kernel
theorem dX9_init_136 : decode cX9_init 136 = .ok (.putfield 66, 3) := by decide +kernel
theorem dX9_init_139 : decode cX9_init 139 = .ok (.aload_n 0, 1) := by decide +kernel
theorem dX9_init_140 : decode cX9_init 140 = .ok (.sipush 1792, 3) := by decide +kernel
theorem dX9_init_143 : decode cX9_init 143 = .ok (.newarray .int, 2) := by decide +kernel
theorem dX9_init_145 : decode cX9_init 145 = .ok (.putfield 69, 3) := by decide +kernel
theorem dX9_init_148 : decode cX9_init 148 = .ok (.aload_n 0, 1) := by decide +kernel
theorem dX9_init_149 : decode cX9_init 149 = .ok (.sipush 1792, 3) := by decide +kernel
theorem dX9_init_152 : decode cX9_init 152 = .ok (.newarray .int, 2) := by decide +kernel
theorem dX9_init_154 : decode cX9_init 154 = .ok (.putfield 72, 3) := by decide +kernel
theorem dX9_init_157 : decode cX9_init 157 = .ok (.aload_n 0, 1) := by decide +kernel
theorem dX9_init_158 : decode cX9_init 158 = .ok (.sipush 1792, 3) := by decide +kernel
theorem dX9_init_161 : decode cX9_init 161 = .ok (.newarray .int, 2) := by decide +kernel
theorem dX9_init_163 : decode cX9_init 163 = .ok (.putfield 75, 3) := by decide +kernel
theorem dX9_init_166 : decode cX9_init 166 = .ok (.aload_n 0, 1) := by decide +kernel
theorem dX9_init_167 : decode cX9_init 167 = .ok (.bipush 70, 2) := by decide +kernel
theorem dX9_init_169 : decode cX9_init 169 = .ok (.newarray .int, 2) := by decide +kernel
theorem dX9_init_171 : decode cX9_init 171 = .ok (.putfield 78, 3) := by decide +kernel
theorem dX9_init_174 : decode cX9_init 174 = .ok (.aload_n 0, 1) := by decide +kernel
theorem dX9_init_175 : decode cX9_init 175 = .ok (.bipush 70, 2) := by decide +kernel
theorem dX9_init_177 : decode cX9_init 177 = .ok (.newarray .int, 2) := by decide +kernel
theorem dX9_init_179 : decode cX9_init 179 = .ok (.putfield 81, 3) := by decide +kernel
theorem dX9_init_182 : decode cX9_init 182 = .ok (.aload_n 0, 1) := by decide +kernel
theorem dX9_init_183 : decode cX9_init 183 = .ok (.bipush 14, 2) := by decide +kernel
theorem dX9_init_185 : decode cX9_init 185 = .ok (.newarray .int, 2) := by decide +kernel
theorem dX9_init_187 : decode cX9_init 187 = .ok (.putfield 84, 3) := by decide +kernel
theorem dX9_init_190 : decode cX9_init 190 = .ok (.aload_n 0, 1) := by decide +kernel
theorem dX9_init_191 : decode cX9_init 191 = .ok (.sipush 1792, 3) := by decide +kernel
theorem dX9_init_194 : decode cX9_init 194 = .ok (.newarray .boolean, 2) := by decide +kernel
theorem dX9_init_196 : decode cX9_init 196 = .ok (.putfield 87, 3) := by decide +kernel
theorem dX9_init_199 : decode cX9_init 199 = .ok (.aload_n 0, 1) := by decide +kernel
theorem dX9_init_200 : decode cX9_init 200 = .ok (.sipush 256, 3) := by decide +kernel
theorem dX9_init_203 : decode cX9_init 203 = .ok (.newarray .int, 2) := by decide +kernel
theorem dX9_init_205 : decode cX9_init 205 = .ok (.putfield 90, 3) := by decide +kernel
theorem dX9_init_208 : decode cX9_init 208 = .ok (.aload_n 0, 1) := by decide +kernel
theorem dX9_init_209 : decode cX9_init 209 = .ok (.bipush 80, 2) := by decide +kernel
theorem dX9_init_211 : decode cX9_init 211 = .ok (.newarray .int, 2) := by decide +kernel
theorem dX9_init_213 : decode cX9_init 213 = .ok (.putfield 93, 3) := by decide +kernel
theorem dX9_init_216 : decode cX9_init 216 = .ok (.aload_n 0, 1) := by decide +kernel
theorem dX9_init_217 : decode cX9_init 217 = .ok (.iconst 4, 1) := by decide +kernel
theorem dX9_init_218 : decode cX9_init 218 = .ok (.newarray .int, 2) := by decide +kernel
theorem dX9_init_220 : decode cX9_init 220 = .ok (.putfield 96, 3) := by decide +kernel
theorem dX9_init_223 : decode cX9_init 223 = .ok (.aload_n 0, 1) := by decide +kernel
theorem dX9_init_224 : decode cX9_init 224 = .ok (.iconst 4, 1) := by decide +kernel
theorem dX9_init_225 : decode cX9_init 225 = .ok (.newarray .int, 2) := by decide +kernel
theorem dX9_init_227 : decode cX9_init 227 = .ok (.putfield 99, 3) := by decide +kernel
theorem dX9_init_230 : decode cX9_init 230 = .ok (.aload_n 0, 1) := by decide +kernel
theorem dX9_init_231 : decode cX9_init 231 = .ok (.sipush 192, 3) := by decide +kernel
theorem dX9_init_234 : decode cX9_init 234 = .ok (.newarray .long, 2) := by decide +kernel
theorem dX9_init_236 : decode cX9_init 236 = .ok (.putfield 102, 3) := by decide +kernel
theorem dX9_init_239 : decode cX9_init 239 = .ok (.aload_n 0, 1) := by decide +kernel
theorem dX9_init_240 : decode cX9_init 240 = .ok (.bipush 48, 2) := by decide +kernel
theorem dX9_init_242 : decode cX9_init 242 = .ok (.newarray .long, 2) := by decide +kernel
theorem dX9_init_244 : decode cX9_init 244 = .ok (.putfield 106, 3) := by decide +kernel
theorem dX9_init_247 : decode cX9_init 247 = .ok (.iconst 0, 1) := by decide +kernel
theorem dX9_init_248 : decode cX9_init 248 = .ok (.istore_n 1, 1) := by decide +kernel
theorem dX9_init_249 : decode cX9_init 249 = .ok (.iload_n 1, 1) := by decide +kernel
theorem dX9_init_250 : decode cX9_init 250 = .ok (.iconst 4, 1) := by decide +kernel
theorem dX9_init_251 : decode cX9_init 251 = .ok (.if_icmp .ge 16, 3) := by decide +kernel
theorem dX9_init_254 : decode cX9_init 254 = .ok (.aload_n 0, 1) := by decide +kernel
theorem dX9_init_255 : decode cX9_init 255 = .ok (.getfield 96, 3) := by decide +kernel
theorem dX9_init_258 : decode cX9_init 258 = .ok (.iload_n 1, 1) := by decide +kernel
theorem dX9_init_259 : decode cX9_init 259 = .ok (.iconst (-1), 1) := by decide +kernel
theorem dX9_init_260 : decode cX9_init 260 = .ok (.iastore, 1) := by decide +kernel
theorem dX9_init_261 : decode cX9_init 261 = .ok (.iinc 1 1, 3) := by decide +kernel
theorem dX9_init_264 : decode cX9_init 264 = .ok (.goto (-15), 3) := by decide +kernel
theorem dX9_init_267 : decode cX9_init 267 = .ok (.aload_n 0, 1) := by decide +kernel
theorem dX9_init_268 : decode cX9_init 268 = .ok (.getfield 13, 3) := by decide +kernel
theorem dX9_init_271 : decode cX9_init 271 = .ok (.iconst 0, 1) := by decide +kernel
theorem dX9_init_272 : decode cX9_init 272 = .ok (.bipush 20, 2) := by decide +kernel
theorem dX9_init_274 : decode cX9_init 274 = .ok (.iastore, 1) := by decide +kernel
theorem dX9_init_275 : decode cX9_init 275 = .ok (.aload_n 0, 1) := by decide +kernel
theorem dX9_init_276 : decode cX9_init 276 = .ok (.getfield 13, 3) := by decide +kernel
theorem dX9_init_279 : decode cX9_init 279 = .ok (.iconst 1, 1) := by decide +kernel
theorem dX9_init_280 : decode cX9_init 280 = .ok (.bipush 15, 2) := by decide +kernel
theorem dX9_init_282 : decode cX9_init 282 = .ok (.iastore, 1) := by decide +kernel
theorem dX9_init_283 : decode cX9_init 283 = .ok (.aload_n 0, 1) := by decide +kernel
theorem dX9_init_284 : decode cX9_init 284 = .ok (.getfield 13, 3) := by decide +kernel
theorem dX9_init_287 : decode cX9_init 287 = .ok (.iconst 2, 1) := by decide +kernel
theorem dX9_init_288 : decode cX9_init 288 = .ok (.bipush 11, 2) := by decide +kernel
theorem dX9_init_290 : decode cX9_init 290 = .ok (.iastore, 1) := by decide +kernel
theorem dX9_init_291 : decode cX9_init 291 = .ok (.aload_n 0, 1) := by decide +kernel
theorem dX9_init_292 : decode cX9_init 292 = .ok (.getfield 13, 3) := by decide +kernel
theorem dX9_init_295 : decode cX9_init 295 = .ok (.iconst 3, 1) := by decide +kernel
theorem dX9_init_296 : decode cX9_init 296 = .ok (.bipush 6, 2) := by decide +kernel
theorem dX9_init_298 : decode cX9_init 298 = .ok (.iastore, 1) := by decide +kernel
theorem dX9_init_299 : decode cX9_init 299 = .ok (.return_, 1) := by decide +kernel
abbrev rm_X9_init : Room := { frames := 1, cells := 26, slots := 10071, locals := 20 }
def f_X9_init (x0 : Nat) (σ : Sg) : Option (Unit × Sg) := ck (gk σ x0 9) (lB (pI σ x0 0 (5 : Int32)) fun s1 => ck (gnew s1) (lB (newS s1 (10, 5)) fun s2 => ck (gk s2 x0 9) (ck (glt s2 (s1.1.length)) (lB (pR s2 x0 1 (s1.1.length)) fun s3 => ck (gk s3 x0 9) (lB (pI s3 x0 2 (7 : Int32)) fun s4 => ck (gk s4 x0 9) (lB (pI s4 x0 3 (3 : Int32)) fun s5 => ck (gk s5 x0 9) (lB (pI s5 x0 4 (2 : Int32)) fun s6 => ck (gk s6 x0 9) (lB (pI s6 x0 5 (1 : Int32)) fun s7 => ck (gk s7 x0 9) (lB (pI s7 x0 6 (1 : Int32)) fun s8 => ck (gnew s8) (lB (newS s8 (10, 14)) fun s9 => ck (gk s9 x0 9) (ck (glt s9 (s8.1.length)) (lB (pR s9 x0 7 (s8.1.length)) fun s10 => ck (gnew s10) (lB (newS s10 (10, 14)) fun s11 => ck (gk s11 x0 9) (ck (glt s11 (s10.1.length)) (lB (pR s11 x0 8 (s10.1.length)) fun s12 => ck (gnew s12) (lB (newS s12 (10, 14)) fun s13 => ck (gk s13 x0 9) (ck (glt s13 (s12.1.length)) (lB (pR s13 x0 9 (s12.1.length)) fun s14 => ck (gnew s14) (lB (newS s14 (10, 14)) fun s15 => ck (gk s15 x0 9) (ck (glt s15 (s14.1.length)) (lB (pR s15 x0 11 (s14.1.length)) fun s16 => ck (gnew s16) (lB (newS s16 (10, 56)) fun s17 => ck (gk s17 x0 9) (ck (glt s17 (s16.1.length)) (lB (pR s17 x0 13 (s16.1.length)) fun s18 => ck (gnew s18) (lB (newS s18 (12, 4)) fun s19 => ck (gk s19 x0 9) (ck (glt s19 (s18.1.length)) (lB (pR s19 x0 14 (s18.1.length)) fun s20 => ck (gnew s20) (lB (newS s20 (10, 14)) fun s21 => ck (gk s21 x0 9) (ck (glt s21 (s20.1.length)) (lB (pR s21 x0 15 (s20.1.length)) fun s22 => ck (gnew s22) (lB (newS s22 (10, 196)) fun s23 => ck (gk s23 x0 9) (ck (glt s23 (s22.1.length)) (lB (pR s23 x0 17 (s22.1.length)) fun s24 => ck (gnew s24) (lB (newS s24 (10, 14)) fun s25 => ck (gk s25 x0 9) (ck (glt s25 (s24.1.length)) (lB (pR s25 x0 18 (s24.1.length)) fun s26 => ck (gnew s26) (lB (newS s26 (10, 14)) fun s27 => ck (gk s27 x0 9) (ck (glt s27 (s26.1.length)) (lB (pR s27 x0 19 (s26.1.length)) fun s28 => ck (gnew s28) (lB (newS s28 (10, 1792)) fun s29 => ck (gk s29 x0 9) (ck (glt s29 (s28.1.length)) (lB (pR s29 x0 27 (s28.1.length)) fun s30 => ck (gnew s30) (lB (newS s30 (10, 14)) fun s31 => ck (gk s31 x0 9) (ck (glt s31 (s30.1.length)) (lB (pR s31 x0 28 (s30.1.length)) fun s32 => ck (gnew s32) (lB (newS s32 (10, 1792)) fun s33 => ck (gk s33 x0 9) (ck (glt s33 (s32.1.length)) (lB (pR s33 x0 29 (s32.1.length)) fun s34 => ck (gnew s34) (lB (newS s34 (10, 1792)) fun s35 => ck (gk s35 x0 9) (ck (glt s35 (s34.1.length)) (lB (pR s35 x0 30 (s34.1.length)) fun s36 => ck (gnew s36) (lB (newS s36 (10, 1792)) fun s37 => ck (gk s37 x0 9) (ck (glt s37 (s36.1.length)) (lB (pR s37 x0 31 (s36.1.length)) fun s38 => ck (gnew s38) (lB (newS s38 (10, 70)) fun s39 => ck (gk s39 x0 9) (ck (glt s39 (s38.1.length)) (lB (pR s39 x0 32 (s38.1.length)) fun s40 => ck (gnew s40) (lB (newS s40 (10, 70)) fun s41 => ck (gk s41 x0 9) (ck (glt s41 (s40.1.length)) (lB (pR s41 x0 33 (s40.1.length)) fun s42 => ck (gnew s42) (lB (newS s42 (10, 14)) fun s43 => ck (gk s43 x0 9) (ck (glt s43 (s42.1.length)) (lB (pR s43 x0 34 (s42.1.length)) fun s44 => ck (gnew s44) (lB (newS s44 (12, 1792)) fun s45 => ck (gk s45 x0 9) (ck (glt s45 (s44.1.length)) (lB (pR s45 x0 35 (s44.1.length)) fun s46 => ck (gnew s46) (lB (newS s46 (10, 256)) fun s47 => ck (gk s47 x0 9) (ck (glt s47 (s46.1.length)) (lB (pR s47 x0 36 (s46.1.length)) fun s48 => ck (gnew s48) (lB (newS s48 (10, 80)) fun s49 => ck (gk s49 x0 9) (ck (glt s49 (s48.1.length)) (lB (pR s49 x0 38 (s48.1.length)) fun s50 => ck (gnew s50) (lB (newS s50 (10, 4)) fun s51 => ck (gk s51 x0 9) (ck (glt s51 (s50.1.length)) (lB (pR s51 x0 44 (s50.1.length)) fun s52 => ck (gnew s52) (lB (newS s52 (10, 4)) fun s53 => ck (gk s53 x0 9) (ck (glt s53 (s52.1.length)) (lB (pR s53 x0 45 (s52.1.length)) fun s54 => ck (gnew s54) (lB (newS s54 (11, 192)) fun s55 => ck (gk s55 x0 9) (ck (glt s55 (s54.1.length)) (lB (pR s55 x0 46 (s54.1.length)) fun s56 => ck (gnew s56) (lB (newS s56 (11, 48)) fun s57 => ck (gk s57 x0 9) (ck (glt s57 (s56.1.length)) (lB (pR s57 x0 47 (s56.1.length)) fun s58 => ck (gk s58 x0 9) (ck (glt s58 (gR s58 x0 44)) (ck (gi s58 (gR s58 x0 44) (0 : Int32)) (lB (pI s58 (gR s58 x0 44) (0 : Int32).toNatClampNeg (-1 : Int32)) fun s59 => ck (gk s59 x0 9) (ck (glt s59 (gR s59 x0 44)) (ck (gi s59 (gR s59 x0 44) (1 : Int32)) (lB (pI s59 (gR s59 x0 44) (1 : Int32).toNatClampNeg (-1 : Int32)) fun s60 => ck (gk s60 x0 9) (ck (glt s60 (gR s60 x0 44)) (ck (gi s60 (gR s60 x0 44) (2 : Int32)) (lB (pI s60 (gR s60 x0 44) (2 : Int32).toNatClampNeg (-1 : Int32)) fun s61 => ck (gk s61 x0 9) (ck (glt s61 (gR s61 x0 44)) (ck (gi s61 (gR s61 x0 44) (3 : Int32)) (lB (pI s61 (gR s61 x0 44) (3 : Int32).toNatClampNeg (-1 : Int32)) fun s62 => ck (gk s62 x0 9) (ck (glt s62 (gR s62 x0 1)) (ck (gi s62 (gR s62 x0 1) (0 : Int32)) (lB (pI s62 (gR s62 x0 1) (0 : Int32).toNatClampNeg (20 : Int32)) fun s63 => ck (gk s63 x0 9) (ck (glt s63 (gR s63 x0 1)) (ck (gi s63 (gR s63 x0 1) (1 : Int32)) (lB (pI s63 (gR s63 x0 1) (1 : Int32).toNatClampNeg (15 : Int32)) fun s64 => ck (gk s64 x0 9) (ck (glt s64 (gR s64 x0 1)) (ck (gi s64 (gR s64 x0 1) (2 : Int32)) (lB (pI s64 (gR s64 x0 1) (2 : Int32).toNatClampNeg (11 : Int32)) fun s65 => ck (gk s65 x0 9) (ck (glt s65 (gR s65 x0 1)) (ck (gi s65 (gR s65 x0 1) (3 : Int32)) (lB (pI s65 (gR s65 x0 1) (3 : Int32).toNatClampNeg (6 : Int32)) fun s66 => some ((), s66)))))))))))))))))))))))))))))))))))))))))))))))))))))))))))))))))))))))))))))))))))))))))))))))))))))))))))))
theorem t_X9_init {K : Cx} (h : Ok K cX9_init RX9 2 rm_X9_init none) (hg : kiv K = Gr) (hin : (kme K).name = "<init>") (hc1 : kmc K = rm_X9_init.cells) (hc2 : kms K = rm_X9_init.slots) (x0 : Nat) (σ : Sg) : T K (QV K) 0 [(0, .ref x0)] [] 0 0 σ (f_X9_init x0 σ) := by
  unfold f_X9_init
  refine T_aload_n (pc := 0) h dX9_init_0 rfl 0 rfl ?_
  refine T_objI (pc := 1) h ml_X9_1 ob_in ob_cd ⟨Nat.le_of_ble_eq_true rfl, Nat.le_of_ble_eq_true rfl⟩ (Nat.le_of_ble_eq_true rfl) dX9_init_1 ?_
  refine T_aload_n (pc := 4) h dX9_init_4 rfl 0 rfl ?_
  refine T_iconst (pc := 5) h dX9_init_5 ki_5 ?_
  refine T_putXG (c := 9) (ty := .int) (pc := 6) h hg fl_X9_7 (Or.inl rfl) rfl rfl rfl rfl dX9_init_6 ?_
  refine T_letS fun s1 => ?_
  refine T_aload_n (pc := 9) h dX9_init_9 rfl 0 rfl ?_
  refine T_iconst (pc := 10) h dX9_init_10 ki_5 ?_
  refine T_newI (N := 5) (pc := 11) h hg arc_int (by decide) (by decide) (by decide) ⟨Nat.le_of_ble_eq_true rfl, Nat.le_of_ble_eq_true rfl⟩ dX9_init_11 ?_
  refine T_letS fun s2 => ?_
  refine T_putRG (c := 9) (pc := 13) h hg fl_X9_13 (Or.inr ⟨rfl, hin, rfl⟩) rfl rfl (fun _ => rfl) (fun _ => rfl) dX9_init_13 ?_
  refine T_letS fun s3 => ?_
  refine T_aload_n (pc := 16) h dX9_init_16 rfl 0 rfl ?_
  refine T_bipush (pc := 17) h dX9_init_17 kb_7 ?_
  refine T_putXG (c := 9) (ty := .int) (pc := 19) h hg fl_X9_17 (Or.inl rfl) rfl rfl rfl rfl dX9_init_19 ?_
  refine T_letS fun s4 => ?_
  refine T_aload_n (pc := 22) h dX9_init_22 rfl 0 rfl ?_
  refine T_iconst (pc := 23) h dX9_init_23 ki_3 ?_
  refine T_putXG (c := 9) (ty := .int) (pc := 24) h hg fl_X9_20 (Or.inl rfl) rfl rfl rfl rfl dX9_init_24 ?_
  refine T_letS fun s5 => ?_
  refine T_aload_n (pc := 27) h dX9_init_27 rfl 0 rfl ?_
  refine T_iconst (pc := 28) h dX9_init_28 ki_2 ?_
  refine T_putXG (c := 9) (ty := .int) (pc := 29) h hg fl_X9_23 (Or.inl rfl) rfl rfl rfl rfl dX9_init_29 ?_
  refine T_letS fun s6 => ?_
  refine T_aload_n (pc := 32) h dX9_init_32 rfl 0 rfl ?_
  refine T_iconst (pc := 33) h dX9_init_33 ki_1 ?_
  refine T_putXG (c := 9) (ty := .int) (pc := 34) h hg fl_X9_26 (Or.inl rfl) rfl rfl rfl rfl dX9_init_34 ?_
  refine T_letS fun s7 => ?_
  refine T_aload_n (pc := 37) h dX9_init_37 rfl 0 rfl ?_
  refine T_iconst (pc := 38) h dX9_init_38 ki_1 ?_
  refine T_putXG (c := 9) (ty := .int) (pc := 39) h hg fl_X9_29 (Or.inl rfl) rfl rfl rfl rfl dX9_init_39 ?_
  refine T_letS fun s8 => ?_
  refine T_aload_n (pc := 42) h dX9_init_42 rfl 0 rfl ?_
  refine T_bipush (pc := 43) h dX9_init_43 kb_14 ?_
  refine T_newI (N := 14) (pc := 45) h hg arc_int (by decide) (by decide) (by decide) ⟨Nat.le_of_ble_eq_true rfl, Nat.le_of_ble_eq_true rfl⟩ dX9_init_45 ?_
  refine T_letS fun s9 => ?_
  refine T_putRG (c := 9) (pc := 47) h hg fl_X9_32 (Or.inr ⟨rfl, hin, rfl⟩) rfl rfl (fun _ => rfl) (fun _ => rfl) dX9_init_47 ?_
  refine T_letS fun s10 => ?_
  refine T_aload_n (pc := 50) h dX9_init_50 rfl 0 rfl ?_
  refine T_bipush (pc := 51) h dX9_init_51 kb_14 ?_
  refine T_newI (N := 14) (pc := 53) h hg arc_int (by decide) (by decide) (by decide) ⟨Nat.le_of_ble_eq_true rfl, Nat.le_of_ble_eq_true rfl⟩ dX9_init_53 ?_
  refine T_letS fun s11 => ?_
  refine T_putRG (c := 9) (pc := 55) h hg fl_X9_35 (Or.inr ⟨rfl, hin, rfl⟩) rfl rfl (fun _ => rfl) (fun _ => rfl) dX9_init_55 ?_
  refine T_letS fun s12 => ?_
  refine T_aload_n (pc := 58) h dX9_init_58 rfl 0 rfl ?_
  refine T_bipush (pc := 59) h dX9_init_59 kb_14 ?_
  refine T_newI (N := 14) (pc := 61) h hg arc_int (by decide) (by decide) (by decide) ⟨Nat.le_of_ble_eq_true rfl, Nat.le_of_ble_eq_true rfl⟩ dX9_init_61 ?_
  refine T_letS fun s13 => ?_
  refine T_putRG (c := 9) (pc := 63) h hg fl_X9_38 (Or.inr ⟨rfl, hin, rfl⟩) rfl rfl (fun _ => rfl) (fun _ => rfl) dX9_init_63 ?_
  refine T_letS fun s14 => ?_
  refine T_aload_n (pc := 66) h dX9_init_66 rfl 0 rfl ?_
  refine T_bipush (pc := 67) h dX9_init_67 kb_14 ?_
  refine T_newI (N := 14) (pc := 69) h hg arc_int (by decide) (by decide) (by decide) ⟨Nat.le_of_ble_eq_true rfl, Nat.le_of_ble_eq_true rfl⟩ dX9_init_69 ?_
  refine T_letS fun s15 => ?_
  refine T_putRG (c := 9) (pc := 71) h hg fl_X9_41 (Or.inr ⟨rfl, hin, rfl⟩) rfl rfl (fun _ => rfl) (fun _ => rfl) dX9_init_71 ?_
  refine T_letS fun s16 => ?_
  refine T_aload_n (pc := 74) h dX9_init_74 rfl 0 rfl ?_
  refine T_bipush (pc := 75) h dX9_init_75 ckb_56 ?_
  refine T_newI (N := 56) (pc := 77) h hg arc_int (by decide) (by decide) (by decide) ⟨Nat.le_of_ble_eq_true rfl, Nat.le_of_ble_eq_true rfl⟩ dX9_init_77 ?_
  refine T_letS fun s17 => ?_
  refine T_putRG (c := 9) (pc := 79) h hg fl_X9_44 (Or.inr ⟨rfl, hin, rfl⟩) rfl rfl (fun _ => rfl) (fun _ => rfl) dX9_init_79 ?_
  refine T_letS fun s18 => ?_
  refine T_aload_n (pc := 82) h dX9_init_82 rfl 0 rfl ?_
  refine T_iconst (pc := 83) h dX9_init_83 ki_4 ?_
  refine T_newZ (N := 4) (pc := 84) h hg arc_boolean (by decide) (by decide) (by decide) ⟨Nat.le_of_ble_eq_true rfl, Nat.le_of_ble_eq_true rfl⟩ dX9_init_84 ?_
  refine T_letS fun s19 => ?_
  refine T_putRG (c := 9) (pc := 86) h hg fl_X9_47 (Or.inr ⟨rfl, hin, rfl⟩) rfl rfl (fun _ => rfl) (fun _ => rfl) dX9_init_86 ?_
  refine T_letS fun s20 => ?_
  refine T_aload_n (pc := 89) h dX9_init_89 rfl 0 rfl ?_
  refine T_bipush (pc := 90) h dX9_init_90 kb_14 ?_
  refine T_newI (N := 14) (pc := 92) h hg arc_int (by decide) (by decide) (by decide) ⟨Nat.le_of_ble_eq_true rfl, Nat.le_of_ble_eq_true rfl⟩ dX9_init_92 ?_
  refine T_letS fun s21 => ?_
  refine T_putRG (c := 9) (pc := 94) h hg fl_X9_51 (Or.inr ⟨rfl, hin, rfl⟩) rfl rfl (fun _ => rfl) (fun _ => rfl) dX9_init_94 ?_
  refine T_letS fun s22 => ?_
  refine T_aload_n (pc := 97) h dX9_init_97 rfl 0 rfl ?_
  refine T_sipush (pc := 98) h dX9_init_98 cks_196 ?_
  refine T_newI (N := 196) (pc := 101) h hg arc_int (by decide) (by decide) (by decide) ⟨Nat.le_of_ble_eq_true rfl, Nat.le_of_ble_eq_true rfl⟩ dX9_init_101 ?_
  refine T_letS fun s23 => ?_
  refine T_putRG (c := 9) (pc := 103) h hg fl_X9_54 (Or.inr ⟨rfl, hin, rfl⟩) rfl rfl (fun _ => rfl) (fun _ => rfl) dX9_init_103 ?_
  refine T_letS fun s24 => ?_
  refine T_aload_n (pc := 106) h dX9_init_106 rfl 0 rfl ?_
  refine T_bipush (pc := 107) h dX9_init_107 kb_14 ?_
  refine T_newI (N := 14) (pc := 109) h hg arc_int (by decide) (by decide) (by decide) ⟨Nat.le_of_ble_eq_true rfl, Nat.le_of_ble_eq_true rfl⟩ dX9_init_109 ?_
  refine T_letS fun s25 => ?_
  refine T_putRG (c := 9) (pc := 111) h hg fl_X9_57 (Or.inr ⟨rfl, hin, rfl⟩) rfl rfl (fun _ => rfl) (fun _ => rfl) dX9_init_111 ?_
  refine T_letS fun s26 => ?_
  refine T_aload_n (pc := 114) h dX9_init_114 rfl 0 rfl ?_
  refine T_bipush (pc := 115) h dX9_init_115 kb_14 ?_
  refine T_newI (N := 14) (pc := 117) h hg arc_int (by decide) (by decide) (by decide) ⟨Nat.le_of_ble_eq_true rfl, Nat.le_of_ble_eq_true rfl⟩ dX9_init_117 ?_
  refine T_letS fun s27 => ?_
  refine T_putRG (c := 9) (pc := 119) h hg fl_X9_60 (Or.inr ⟨rfl, hin, rfl⟩) rfl rfl (fun _ => rfl) (fun _ => rfl) dX9_init_119 ?_
  refine T_letS fun s28 => ?_
  refine T_aload_n (pc := 122) h dX9_init_122 rfl 0 rfl ?_
  refine T_sipush (pc := 123) h dX9_init_123 cks_1792 ?_
  refine T_newI (N := 1792) (pc := 126) h hg arc_int (by decide) (by decide) (by decide) ⟨Nat.le_of_ble_eq_true rfl, Nat.le_of_ble_eq_true rfl⟩ dX9_init_126 ?_
  refine T_letS fun s29 => ?_
  refine T_putRG (c := 9) (pc := 128) h hg fl_X9_63 (Or.inr ⟨rfl, hin, rfl⟩) rfl rfl (fun _ => rfl) (fun _ => rfl) dX9_init_128 ?_
  refine T_letS fun s30 => ?_
  refine T_aload_n (pc := 131) h dX9_init_131 rfl 0 rfl ?_
  refine T_bipush (pc := 132) h dX9_init_132 kb_14 ?_
  refine T_newI (N := 14) (pc := 134) h hg arc_int (by decide) (by decide) (by decide) ⟨Nat.le_of_ble_eq_true rfl, Nat.le_of_ble_eq_true rfl⟩ dX9_init_134 ?_
  refine T_letS fun s31 => ?_
  refine T_putRG (c := 9) (pc := 136) h hg fl_X9_66 (Or.inr ⟨rfl, hin, rfl⟩) rfl rfl (fun _ => rfl) (fun _ => rfl) dX9_init_136 ?_
  refine T_letS fun s32 => ?_
  refine T_aload_n (pc := 139) h dX9_init_139 rfl 0 rfl ?_
  refine T_sipush (pc := 140) h dX9_init_140 cks_1792 ?_
  refine T_newI (N := 1792) (pc := 143) h hg arc_int (by decide) (by decide) (by decide) ⟨Nat.le_of_ble_eq_true rfl, Nat.le_of_ble_eq_true rfl⟩ dX9_init_143 ?_
  refine T_letS fun s33 => ?_
  refine T_putRG (c := 9) (pc := 145) h hg fl_X9_69 (Or.inr ⟨rfl, hin, rfl⟩) rfl rfl (fun _ => rfl) (fun _ => rfl) dX9_init_145 ?_
  refine T_letS fun s34 => ?_
  refine T_aload_n (pc := 148) h dX9_init_148 rfl 0 rfl ?_
  refine T_sipush (pc := 149) h dX9_init_149 cks_1792 ?_
  refine T_newI (N := 1792) (pc := 152) h hg arc_int (by decide) (by decide) (by decide) ⟨Nat.le_of_ble_eq_true rfl, Nat.le_of_ble_eq_true rfl⟩ dX9_init_152 ?_
  refine T_letS fun s35 => ?_
  refine T_putRG (c := 9) (pc := 154) h hg fl_X9_72 (Or.inr ⟨rfl, hin, rfl⟩) rfl rfl (fun _ => rfl) (fun _ => rfl) dX9_init_154 ?_
  refine T_letS fun s36 => ?_
  refine T_aload_n (pc := 157) h dX9_init_157 rfl 0 rfl ?_
  refine T_sipush (pc := 158) h dX9_init_158 cks_1792 ?_
  refine T_newI (N := 1792) (pc := 161) h hg arc_int (by decide) (by decide) (by decide) ⟨Nat.le_of_ble_eq_true rfl, Nat.le_of_ble_eq_true rfl⟩ dX9_init_161 ?_
  refine T_letS fun s37 => ?_
  refine T_putRG (c := 9) (pc := 163) h hg fl_X9_75 (Or.inr ⟨rfl, hin, rfl⟩) rfl rfl (fun _ => rfl) (fun _ => rfl) dX9_init_163 ?_
  refine T_letS fun s38 => ?_
  refine T_aload_n (pc := 166) h dX9_init_166 rfl 0 rfl ?_
  refine T_bipush (pc := 167) h dX9_init_167 kb_70 ?_
  refine T_newI (N := 70) (pc := 169) h hg arc_int (by decide) (by decide) (by decide) ⟨Nat.le_of_ble_eq_true rfl, Nat.le_of_ble_eq_true rfl⟩ dX9_init_169 ?_
  refine T_letS fun s39 => ?_
  refine T_putRG (c := 9) (pc := 171) h hg fl_X9_78 (Or.inr ⟨rfl, hin, rfl⟩) rfl rfl (fun _ => rfl) (fun _ => rfl) dX9_init_171 ?_
  refine T_letS fun s40 => ?_
  refine T_aload_n (pc := 174) h dX9_init_174 rfl 0 rfl ?_
  refine T_bipush (pc := 175) h dX9_init_175 kb_70 ?_
  refine T_newI (N := 70) (pc := 177) h hg arc_int (by decide) (by decide) (by decide) ⟨Nat.le_of_ble_eq_true rfl, Nat.le_of_ble_eq_true rfl⟩ dX9_init_177 ?_
  refine T_letS fun s41 => ?_
  refine T_putRG (c := 9) (pc := 179) h hg fl_X9_81 (Or.inr ⟨rfl, hin, rfl⟩) rfl rfl (fun _ => rfl) (fun _ => rfl) dX9_init_179 ?_
  refine T_letS fun s42 => ?_
  refine T_aload_n (pc := 182) h dX9_init_182 rfl 0 rfl ?_
  refine T_bipush (pc := 183) h dX9_init_183 kb_14 ?_
  refine T_newI (N := 14) (pc := 185) h hg arc_int (by decide) (by decide) (by decide) ⟨Nat.le_of_ble_eq_true rfl, Nat.le_of_ble_eq_true rfl⟩ dX9_init_185 ?_
  refine T_letS fun s43 => ?_
  refine T_putRG (c := 9) (pc := 187) h hg fl_X9_84 (Or.inr ⟨rfl, hin, rfl⟩) rfl rfl (fun _ => rfl) (fun _ => rfl) dX9_init_187 ?_
  refine T_letS fun s44 => ?_
  refine T_aload_n (pc := 190) h dX9_init_190 rfl 0 rfl ?_
  refine T_sipush (pc := 191) h dX9_init_191 cks_1792 ?_
  refine T_newZ (N := 1792) (pc := 194) h hg arc_boolean (by decide) (by decide) (by decide) ⟨Nat.le_of_ble_eq_true rfl, Nat.le_of_ble_eq_true rfl⟩ dX9_init_194 ?_
  refine T_letS fun s45 => ?_
  refine T_putRG (c := 9) (pc := 196) h hg fl_X9_87 (Or.inr ⟨rfl, hin, rfl⟩) rfl rfl (fun _ => rfl) (fun _ => rfl) dX9_init_196 ?_
  refine T_letS fun s46 => ?_
  refine T_aload_n (pc := 199) h dX9_init_199 rfl 0 rfl ?_
  refine T_sipush (pc := 200) h dX9_init_200 cks_256 ?_
  refine T_newI (N := 256) (pc := 203) h hg arc_int (by decide) (by decide) (by decide) ⟨Nat.le_of_ble_eq_true rfl, Nat.le_of_ble_eq_true rfl⟩ dX9_init_203 ?_
  refine T_letS fun s47 => ?_
  refine T_putRG (c := 9) (pc := 205) h hg fl_X9_90 (Or.inr ⟨rfl, hin, rfl⟩) rfl rfl (fun _ => rfl) (fun _ => rfl) dX9_init_205 ?_
  refine T_letS fun s48 => ?_
  refine T_aload_n (pc := 208) h dX9_init_208 rfl 0 rfl ?_
  refine T_bipush (pc := 209) h dX9_init_209 kb_80 ?_
  refine T_newI (N := 80) (pc := 211) h hg arc_int (by decide) (by decide) (by decide) ⟨Nat.le_of_ble_eq_true rfl, Nat.le_of_ble_eq_true rfl⟩ dX9_init_211 ?_
  refine T_letS fun s49 => ?_
  refine T_putRG (c := 9) (pc := 213) h hg fl_X9_93 (Or.inr ⟨rfl, hin, rfl⟩) rfl rfl (fun _ => rfl) (fun _ => rfl) dX9_init_213 ?_
  refine T_letS fun s50 => ?_
  refine T_aload_n (pc := 216) h dX9_init_216 rfl 0 rfl ?_
  refine T_iconst (pc := 217) h dX9_init_217 ki_4 ?_
  refine T_newI (N := 4) (pc := 218) h hg arc_int (by decide) (by decide) (by decide) ⟨Nat.le_of_ble_eq_true rfl, Nat.le_of_ble_eq_true rfl⟩ dX9_init_218 ?_
  refine T_letS fun s51 => ?_
  refine T_putRG (c := 9) (pc := 220) h hg fl_X9_96 (Or.inr ⟨rfl, hin, rfl⟩) rfl rfl (fun _ => rfl) (fun _ => rfl) dX9_init_220 ?_
  refine T_letS fun s52 => ?_
  refine T_aload_n (pc := 223) h dX9_init_223 rfl 0 rfl ?_
  refine T_iconst (pc := 224) h dX9_init_224 ki_4 ?_
  refine T_newI (N := 4) (pc := 225) h hg arc_int (by decide) (by decide) (by decide) ⟨Nat.le_of_ble_eq_true rfl, Nat.le_of_ble_eq_true rfl⟩ dX9_init_225 ?_
  refine T_letS fun s53 => ?_
  refine T_putRG (c := 9) (pc := 227) h hg fl_X9_99 (Or.inr ⟨rfl, hin, rfl⟩) rfl rfl (fun _ => rfl) (fun _ => rfl) dX9_init_227 ?_
  refine T_letS fun s54 => ?_
  refine T_aload_n (pc := 230) h dX9_init_230 rfl 0 rfl ?_
  refine T_sipush (pc := 231) h dX9_init_231 cks_192 ?_
  refine T_newL (N := 192) (pc := 234) h hg arc_long (by decide) (by decide) (by decide) ⟨Nat.le_of_ble_eq_true rfl, Nat.le_of_ble_eq_true rfl⟩ dX9_init_234 ?_
  refine T_letS fun s55 => ?_
  refine T_putRG (c := 9) (pc := 236) h hg fl_X9_102 (Or.inr ⟨rfl, hin, rfl⟩) rfl rfl (fun _ => rfl) (fun _ => rfl) dX9_init_236 ?_
  refine T_letS fun s56 => ?_
  refine T_aload_n (pc := 239) h dX9_init_239 rfl 0 rfl ?_
  refine T_bipush (pc := 240) h dX9_init_240 kb_48 ?_
  refine T_newL (N := 48) (pc := 242) h hg arc_long (by decide) (by decide) (by decide) ⟨Nat.le_of_ble_eq_true rfl, Nat.le_of_ble_eq_true rfl⟩ dX9_init_242 ?_
  refine T_letS fun s57 => ?_
  refine T_putRG (c := 9) (pc := 244) h hg fl_X9_106 (Or.inr ⟨rfl, hin, rfl⟩) rfl rfl (fun _ => rfl) (fun _ => rfl) dX9_init_244 ?_
  refine T_letS fun s58 => ?_
  refine T_iconst (pc := 247) h dX9_init_247 ki_0 ?_
  refine T_istore_n (lv' := [(1, .int (0 : Int32)), (0, .ref x0)]) (pc := 248) h dX9_init_248 rfl (by decide) rfl ?_
  refine T_iload_n (pc := 249) h dX9_init_249 rfl 0 rfl ?_
  refine T_iconst (pc := 250) h dX9_init_250 ki_4 ?_
  refine T_geF (pc := 251) (tgt := 267) h dX9_init_251 (by decide) (by decide) ?_
  refine T_aload_n (pc := 254) h dX9_init_254 rfl 1 rfl ?_
  refine T_getRG (c := 9) (pc := 255) h fl_X9_96 rfl dX9_init_255 ?_
  refine T_iload_n (pc := 258) h dX9_init_258 rfl 0 rfl ?_
  refine T_iconst (pc := 259) h dX9_init_259 ki_m1 ?_
  refine T_iastG (pc := 260) h hg dX9_init_260 ?_
  refine T_letS fun s59 => ?_
  refine T_iincC (w := (1 : Int32)) (lv' := [(1, .int (1 : Int32)), (0, .ref x0)]) (pc := 261) h dX9_init_261 0 rfl (by decide) (by decide) rfl ?_
  refine T_goto (pc := 264) (tgt := 249) h dX9_init_264 (by decide) ?_
  refine T_iload_n (pc := 249) h dX9_init_249 rfl 0 rfl ?_
  refine T_iconst (pc := 250) h dX9_init_250 ki_4 ?_
  refine T_geF (pc := 251) (tgt := 267) h dX9_init_251 (by decide) (by decide) ?_
  refine T_aload_n (pc := 254) h dX9_init_254 rfl 1 rfl ?_
  refine T_getRG (c := 9) (pc := 255) h fl_X9_96 rfl dX9_init_255 ?_
  refine T_iload_n (pc := 258) h dX9_init_258 rfl 0 rfl ?_
  refine T_iconst (pc := 259) h dX9_init_259 ki_m1 ?_
  refine T_iastG (pc := 260) h hg dX9_init_260 ?_
  refine T_letS fun s60 => ?_
  refine T_iincC (w := (2 : Int32)) (lv' := [(1, .int (2 : Int32)), (0, .ref x0)]) (pc := 261) h dX9_init_261 0 rfl (by decide) (by decide) rfl ?_
  refine T_goto (pc := 264) (tgt := 249) h dX9_init_264 (by decide) ?_
  refine T_iload_n (pc := 249) h dX9_init_249 rfl 0 rfl ?_
  refine T_iconst (pc := 250) h dX9_init_250 ki_4 ?_
  refine T_geF (pc := 251) (tgt := 267) h dX9_init_251 (by decide) (by decide) ?_
  refine T_aload_n (pc := 254) h dX9_init_254 rfl 1 rfl ?_
  refine T_getRG (c := 9) (pc := 255) h fl_X9_96 rfl dX9_init_255 ?_
  refine T_iload_n (pc := 258) h dX9_init_258 rfl 0 rfl ?_
  refine T_iconst (pc := 259) h dX9_init_259 ki_m1 ?_
  refine T_iastG (pc := 260) h hg dX9_init_260 ?_
  refine T_letS fun s61 => ?_
  refine T_iincC (w := (3 : Int32)) (lv' := [(1, .int (3 : Int32)), (0, .ref x0)]) (pc := 261) h dX9_init_261 0 rfl (by decide) (by decide) rfl ?_
  refine T_goto (pc := 264) (tgt := 249) h dX9_init_264 (by decide) ?_
  refine T_iload_n (pc := 249) h dX9_init_249 rfl 0 rfl ?_
  refine T_iconst (pc := 250) h dX9_init_250 ki_4 ?_
  refine T_geF (pc := 251) (tgt := 267) h dX9_init_251 (by decide) (by decide) ?_
  refine T_aload_n (pc := 254) h dX9_init_254 rfl 1 rfl ?_
  refine T_getRG (c := 9) (pc := 255) h fl_X9_96 rfl dX9_init_255 ?_
  refine T_iload_n (pc := 258) h dX9_init_258 rfl 0 rfl ?_
  refine T_iconst (pc := 259) h dX9_init_259 ki_m1 ?_
  refine T_iastG (pc := 260) h hg dX9_init_260 ?_
  refine T_letS fun s62 => ?_
  refine T_iincC (w := (4 : Int32)) (lv' := [(1, .int (4 : Int32)), (0, .ref x0)]) (pc := 261) h dX9_init_261 0 rfl (by decide) (by decide) rfl ?_
  refine T_goto (pc := 264) (tgt := 249) h dX9_init_264 (by decide) ?_
  refine T_iload_n (pc := 249) h dX9_init_249 rfl 0 rfl ?_
  refine T_iconst (pc := 250) h dX9_init_250 ki_4 ?_
  refine T_geT (pc := 251) (tgt := 267) h dX9_init_251 (by decide) (by decide) ?_
  refine T_aload_n (pc := 267) h dX9_init_267 rfl 1 rfl ?_
  refine T_getRG (c := 9) (pc := 268) h fl_X9_13 rfl dX9_init_268 ?_
  refine T_iconst (pc := 271) h dX9_init_271 ki_0 ?_
  refine T_bipush (pc := 272) h dX9_init_272 ckb_20 ?_
  refine T_iastG (pc := 274) h hg dX9_init_274 ?_
  refine T_letS fun s63 => ?_
  refine T_aload_n (pc := 275) h dX9_init_275 rfl 1 rfl ?_
  refine T_getRG (c := 9) (pc := 276) h fl_X9_13 rfl dX9_init_276 ?_
  refine T_iconst (pc := 279) h dX9_init_279 ki_1 ?_
  refine T_bipush (pc := 280) h dX9_init_280 ckb_15 ?_
  refine T_iastG (pc := 282) h hg dX9_init_282 ?_
  refine T_letS fun s64 => ?_
  refine T_aload_n (pc := 283) h dX9_init_283 rfl 1 rfl ?_
  refine T_getRG (c := 9) (pc := 284) h fl_X9_13 rfl dX9_init_284 ?_
  refine T_iconst (pc := 287) h dX9_init_287 ki_2 ?_
  refine T_bipush (pc := 288) h dX9_init_288 ckb_11 ?_
  refine T_iastG (pc := 290) h hg dX9_init_290 ?_
  refine T_letS fun s65 => ?_
  refine T_aload_n (pc := 291) h dX9_init_291 rfl 1 rfl ?_
  refine T_getRG (c := 9) (pc := 292) h fl_X9_13 rfl dX9_init_292 ?_
  refine T_iconst (pc := 295) h dX9_init_295 ki_3 ?_
  refine T_bipush (pc := 296) h dX9_init_296 kb_6 ?_
  refine T_iastG (pc := 298) h hg dX9_init_298 ?_
  refine T_letS fun s66 => ?_
  exact T_return (pc := 299) h (by rw [hc1]; exact Nat.le_of_ble_eq_true rfl) (by rw [hc2]; exact Nat.le_of_ble_eq_true rfl) dX9_init_299
theorem M_X9_init (l : Launch) {iv : Sg → Prop} (hi : iv = Gr) (x0 : Nat) (σ : Sg) : CTv l yX9_init cX9_init 2 none rm_X9_init iv [.ref x0] σ (f_X9_init x0 σ) := by
  subst hi
  exact CT_of (by decide) (Nat.le_of_ble_eq_true rfl) (fun K _ h hin hg hc1 hc2 => t_X9_init h hg (hin rfl) hc1 hc2 x0 σ)
