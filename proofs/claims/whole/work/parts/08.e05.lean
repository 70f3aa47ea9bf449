/-! LuteTabsModel.differ(I)I -/
theorem dX9_differ_0 : decode cX9_differ 0 = .ok (.iload_n 1, 1) := by decide +kernel
theorem dX9_differ_1 : decode cX9_differ 1 = .ok (.invokestatic 274, 3) := by decide +kernel
theorem dX9_differ_4 : decode cX9_differ 4 = .ok (.ifCond .ne 8, 3) := by decide +kernel
theorem dX9_differ_7 : decode cX9_differ 7 = .ok (.bipush (-2), 2) := by decide +kernel
theorem dX9_differ_9 : decode cX9_differ 9 = .ok (.goto 25, 3) := by decide +kernel
theorem dX9_differ_12 : decode cX9_differ 12 = .ok (.aload_n 0, 1) := by decide +kernel
theorem dX9_differ_13 : decode cX9_differ 13 = .ok (.getfield 47, 3) := by decide +kernel
theorem dX9_differ_16 : decode cX9_differ 16 = .ok (.iload_n 1, 1) := by decide +kernel
theorem dX9_differ_17 : decode cX9_differ 17 = .ok (.baload, 1) := by decide +kernel
theorem dX9_differ_18 : decode cX9_differ 18 = .ok (.ifCond .ne 11, 3) := by decide +kernel
theorem dX9_differ_21 : decode cX9_differ 21 = .ok (.aload_n 0, 1) := by decide +kernel
theorem dX9_differ_22 : decode cX9_differ 22 = .ok (.iconst 1, 1) := by decide +kernel
theorem dX9_differ_23 : decode cX9_differ 23 = .ok (.invokevirtual 151, 3) := by decide +kernel
theorem dX9_differ_26 : decode cX9_differ 26 = .ok (.goto 8, 3) := by decide +kernel
theorem dX9_differ_29 : decode cX9_differ 29 = .ok (.aload_n 0, 1) := by decide +kernel
theorem dX9_differ_30 : decode cX9_differ 30 = .ok (.iload_n 1, 1) := by decide +kernel
theorem dX9_differ_31 : decode cX9_differ 31 = .ok (.invokevirtual 280, 3) := by decide +kernel
theorem dX9_differ_34 : decode cX9_differ 34 = .ok (.ireturn, 1) := by decide +kernel
abbrev rm_X9_differ : Room := { frames := 2, cells := 0, slots := 0, locals := 42 }
def f_X9_differ_L34   (y0 : Int32) (σ : Sg) : Option (Int32 × Sg) := some (y0, σ)
def f_X9_differ (x0 : Nat) (x1 : Int32) (σ : Sg) : Option (Int32 × Sg) := bd (f_X9_isSlot x1 σ) fun r2 s1 => (if r2 = 0 then f_X9_differ_L34 (-2 : Int32) s1 else ck (inb x1 (aL (gR s1 x0 14))) ((if (gI s1 (gR s1 x0 14) x1.toNatClampNeg) = 0 then bd (f_X9_meets x0 (1 : Int32) s1) fun r7 s6 => f_X9_differ_L34 r7 s6 else bd (f_X9_differOf x0 x1 s1) fun r5 s4 => f_X9_differ_L34 r5 s4)))
theorem t_X9_differ_L34 {K : Cx} (h : Ok K cX9_differ RX9 2 rm_X9_differ (some .int)) (hs : kiv K = St)  (y0 : Int32) (σ : Sg)    : T K (QI K) 34 [] [.int y0] 0 0 σ (f_X9_differ_L34 y0 σ) := by
  unfold f_X9_differ_L34
  exact T_ireturn (pc := 34) h (Nat.zero_le _) (Nat.zero_le _) dX9_differ_34
theorem t_X9_differ {K : Cx} (h : Ok K cX9_differ RX9 2 rm_X9_differ (some .int)) (hs : kiv K = St) (x0 : Nat) (x1 : Int32) (σ : Sg) (hk0 : kd x0 9) : T K (QI K) 0 [(0, .ref x0), (1, .int x1)] [] 0 0 σ (f_X9_differ x0 x1 σ) := by
  unfold f_X9_differ
  refine T_iload_n (pc := 0) h dX9_differ_0 rfl 1 rfl ?_
  refine T_callSi (pc := 1) h (M_X9_isSlot (kl K) hs x1 σ ) mst_X9_isSlot ml_X9_274 rfl ⟨Nat.le_of_ble_eq_true rfl, Nat.le_of_ble_eq_true rfl⟩ ⟨Nat.le_refl 0, Nat.le_refl 0⟩ (Nat.le_of_ble_eq_true rfl) dX9_differ_1 rfl (fun r2 s1 => ?_)
  refine T_if_ne (pc := 4) (tgt := 12) h dX9_differ_4 (by decide) ?_ ?_
  · refine T_aload_n (pc := 12) h dX9_differ_12 rfl 0 rfl ?_
    refine T_gR (pc := 13) h hs hk0 fl_X9_47 rfl fk_9_14 dX9_differ_13 (fun hq3 => ?_)
    refine T_iload_n (pc := 16) h dX9_differ_16 rfl 1 rfl ?_
    refine T_zald (pc := 17) h hs hq3 dX9_differ_17 ?_
    refine T_if_ne (pc := 18) (tgt := 29) h dX9_differ_18 (by decide) ?_ ?_
    · refine T_aload_n (pc := 29) h dX9_differ_29 rfl 0 rfl ?_
      refine T_iload_n (pc := 30) h dX9_differ_30 rfl 1 rfl ?_
      refine T_callVi (pc := 31) h (M_X9_differOf (kl K) hs x0 x1 s1 hk0) mv_X9_differOf hs hk0 ml_X9_280 rfl ⟨Nat.le_of_ble_eq_true rfl, Nat.le_of_ble_eq_true rfl⟩ ⟨Nat.le_refl 0, Nat.le_refl 0⟩ (Nat.le_of_ble_eq_true rfl) dX9_differ_31 rfl (fun r5 s4 => ?_)
      refine T_sub [] rfl ?_
      exact t_X9_differ_L34 h hs r5 s4
    · refine T_aload_n (pc := 21) h dX9_differ_21 rfl 0 rfl ?_
      refine T_iconst (pc := 22) h dX9_differ_22 ki_1 ?_
      refine T_callVi (pc := 23) h (M_X9_meets (kl K) hs x0 (1 : Int32) s1 hk0) mv_X9_meets hs hk0 ml_X9_151 rfl ⟨Nat.le_of_ble_eq_true rfl, Nat.le_of_ble_eq_true rfl⟩ ⟨Nat.le_refl 0, Nat.le_refl 0⟩ (Nat.le_of_ble_eq_true rfl) dX9_differ_23 rfl (fun r7 s6 => ?_)
      refine T_goto (pc := 26) (tgt := 34) h dX9_differ_26 (by decide) ?_
      refine T_sub [] rfl ?_
      exact t_X9_differ_L34 h hs r7 s6
  · refine T_bipush (pc := 7) h dX9_differ_7 kb_m2 ?_
    refine T_goto (pc := 9) (tgt := 34) h dX9_differ_9 (by decide) ?_
    refine T_sub [] rfl ?_
    exact t_X9_differ_L34 h hs (-2 : Int32) s1
theorem M_X9_differ (l : Launch) {iv : Sg → Prop} (hi : iv = St) (x0 : Nat) (x1 : Int32) (σ : Sg) (hk0 : kd x0 9) : CTi l yX9_differ cX9_differ 2 (some .int) rm_X9_differ iv [.ref x0, .int x1] σ (f_X9_differ x0 x1 σ) := by
  subst hi
  exact CT_of (by decide) (Nat.le_of_ble_eq_true rfl) (fun K _ h _ hs _ _ => t_X9_differ h hs x0 x1 σ hk0)
/-! LuteTabsModel.writes(I)V -/
theorem dX9_writes_0 : decode cX9_writes 0 = .ok (.aload_n 0, 1) := by decide +kernel
theorem dX9_writes_1 : decode cX9_writes 1 = .ok (.getfield 90, 3) := by decide +kernel
theorem dX9_writes_4 : decode cX9_writes 4 = .ok (.aload_n 0, 1) := by decide +kernel
theorem dX9_writes_5 : decode cX9_writes 5 = .ok (.getfield 283, 3) := by decide +kernel
theorem dX9_writes_8 : decode cX9_writes 8 = .ok (.iload_n 1, 1) := by decide +kernel
theorem dX9_writes_9 : decode cX9_writes 9 = .ok (.iastore, 1) := by decide +kernel
theorem dX9_writes_10 : decode cX9_writes 10 = .ok (.aload_n 0, 1) := by decide +kernel
theorem dX9_writes_11 : decode cX9_writes 11 = .ok (.dup, 1) := by decide +kernel
theorem dX9_writes_12 : decode cX9_writes 12 = .ok (.getfield 283, 3) := by decide +kernel
theorem dX9_writes_15 : decode cX9_writes 15 = .ok (.iconst 1, 1) := by decide +kernel
theorem dX9_writes_16 : decode cX9_writes 16 = .ok (.iadd, 1) := by decide +kernel
theorem dX9_writes_17 : decode cX9_writes 17 = .ok (.putfield 283, 3) := by decide +kernel
theorem dX9_writes_20 : decode cX9_writes 20 = .ok (.return_, 1) := by decide +kernel
abbrev rm_X9_writes : Room := { frames := 0, cells := 0, slots := 0, locals := 0 }
def f_X9_writes (x0 : Nat) (x1 : Int32) (σ : Sg) : Option (Unit × Sg) := ck (inb (gI σ x0 37) (aL (gR σ x0 36))) (lB (pI σ (gR σ x0 36) (gI σ x0 37).toNatClampNeg x1) fun s2 => lB (pI s2 x0 37 ((gI s2 x0 37) + (1 : Int32))) fun s3 => some ((), s3))
theorem t_X9_writes {K : Cx} (h : Ok K cX9_writes RX9 2 rm_X9_writes none) (hs : kiv K = St) (x0 : Nat) (x1 : Int32) (σ : Sg) (hk0 : kd x0 9) : T K (QV K) 0 [(0, .ref x0), (1, .int x1)] [] 0 0 σ (f_X9_writes x0 x1 σ) := by
  unfold f_X9_writes
  refine T_aload_n (pc := 0) h dX9_writes_0 rfl 0 rfl ?_
  refine T_gR (pc := 1) h hs hk0 fl_X9_90 rfl fk_9_36 dX9_writes_1 (fun hq1 => ?_)
  refine T_aload_n (pc := 4) h dX9_writes_4 rfl 0 rfl ?_
  refine T_getI (pc := 5) h hs hk0 fl_X9_283 rfl dX9_writes_5 ?_
  refine T_iload_n (pc := 8) h dX9_writes_8 rfl 1 rfl ?_
  refine T_iast (pc := 9) h hs hq1 dX9_writes_9 ?_
  refine T_letS fun s2 => ?_
  refine T_aload_n (pc := 10) h dX9_writes_10 rfl 0 rfl ?_
  refine T_dup (pc := 11) h dX9_writes_11 rfl ?_
  refine T_getI (pc := 12) h hs hk0 fl_X9_283 rfl dX9_writes_12 ?_
  refine T_iconst (pc := 15) h dX9_writes_15 ki_1 ?_
  refine T_iadd (pc := 16) h dX9_writes_16 ?_
  refine T_putI (pc := 17) h hs hk0 fl_X9_283 rfl rfl dX9_writes_17 ?_
  refine T_letS fun s3 => ?_
  exact T_return (pc := 20) h (Nat.zero_le _) (Nat.zero_le _) dX9_writes_20
theorem M_X9_writes (l : Launch) {iv : Sg → Prop} (hi : iv = St) (x0 : Nat) (x1 : Int32) (σ : Sg) (hk0 : kd x0 9) : CTv l yX9_writes cX9_writes 2 none rm_X9_writes iv [.ref x0, .int x1] σ (f_X9_writes x0 x1 σ) := by
  subst hi
  exact CT_of (by decide) (Nat.le_of_ble_eq_true rfl) (fun K _ h _ hs _ _ => t_X9_writes h hs x0 x1 σ hk0)
/-! LuteTabsModel.writesTime(I)V -/
theorem dX9_writesTime_0 : decode cX9_writesTime 0 = .ok (.iload_n 1, 1) := by decide +kernel
theorem dX9_writesTime_1 : decode cX9_writesTime 1 = .ok (.bipush 99, 2) := by decide +kernel
theorem dX9_writesTime_3 : decode cX9_writesTime 3 = .ok (.if_icmp .le 14, 3) := by decide +kernel
theorem dX9_writesTime_6 : decode cX9_writesTime 6 = .ok (.aload_n 0, 1) := by decide +kernel
theorem dX9_writesTime_7 : decode cX9_writesTime 7 = .ok (.bipush 48, 2) := by decide +kernel
theorem dX9_writesTime_9 : decode cX9_writesTime 9 = .ok (.iload_n 1, 1) := by decide +kernel
theorem dX9_writesTime_10 : decode cX9_writesTime 10 = .ok (.bipush 100, 2) := by decide +kernel
theorem dX9_writesTime_12 : decode cX9_writesTime 12 = .ok (.idiv, 1) := by decide +kernel
theorem dX9_writesTime_13 : decode cX9_writesTime 13 = .ok (.iadd, 1) := by decide +kernel
theorem dX9_writesTime_14 : decode cX9_writesTime 14 = .ok (.invokevirtual 286, 3) := by decide +kernel
theorem dX9_writesTime_17 : decode cX9_writesTime 17 = .ok (.iload_n 1, 1) := by decide +kernel
theorem dX9_writesTime_18 : decode cX9_writesTime 18 = .ok (.bipush 9, 2) := by decide +kernel
theorem dX9_writesTime_20 : decode cX9_writesTime 20 = .ok (.if_icmp .le 17, 3) := by decide +kernel
theorem dX9_writesTime_23 : decode cX9_writesTime 23 = .ok (.aload_n 0, 1) := by decide +kernel
theorem dX9_writesTime_24 : decode cX9_writesTime 24 = .ok (.bipush 48, 2) := by decide +kernel
theorem dX9_writesTime_26 : decode cX9_writesTime 26 = .ok (.iload_n 1, 1) := by decide +kernel
theorem dX9_writesTime_27 : decode cX9_writesTime 27 = .ok (.bipush 10, 2) := by decide +kernel
theorem dX9_writesTime_29 : decode cX9_writesTime 29 = .ok (.idiv, 1) := by decide +kernel
theorem dX9_writesTime_30 : decode cX9_writesTime 30 = .ok (.bipush 10, 2) := by decide +kernel
theorem dX9_writesTime_32 : decode cX9_writesTime 32 = .ok (.irem, 1) := by decide +kernel
theorem dX9_writesTime_33 : decode cX9_writesTime 33 = .ok (.iadd, 1) := by decide +kernel
theorem dX9_writesTime_34 : decode cX9_writesTime 34 = .ok (.invokevirtual 286, 3) := by decide +kernel
theorem dX9_writesTime_37 : decode cX9_writesTime 37 = .ok (.aload_n 0, 1) := by decide +kernel
theorem dX9_writesTime_38 : decode cX9_writesTime 38 = .ok (.bipush 48, 2) := by decide +kernel
theorem dX9_writesTime_40 : decode cX9_writesTime 40 = .ok (.iload_n 1, 1) := by decide +kernel
theorem dX9_writesTime_41 : decode cX9_writesTime 41 = .ok (.bipush 10, 2) := by decide +kernel
theorem dX9_writesTime_43 : decode cX9_writesTime 43 = .ok (.irem, 1) := by decide +kernel
theorem dX9_writesTime_44 : decode cX9_writesTime 44 = .ok (.iadd, 1) := by decide +kernel
theorem dX9_writesTime_45 : decode cX9_writesTime 45 = .ok (.invokevirtual 286, 3) := by decide +kernel
theorem dX9_writesTime_48 : decode cX9_writesTime 48 = .ok (.return_, 1) := by decide +kernel
abbrev rm_X9_writesTime : Room := { frames := 1, cells := 0, slots := 0, locals := 21 }
def f_X9_writesTime_L37  (x0 : Nat) (x1 : Int32)  (σ : Sg) : Option (Unit × Sg) := ck (decide (¬ (10 : Int32) = 0)) (bd (f_X9_writes x0 ((48 : Int32) + (x1 - x1 / (10 : Int32) * (10 : Int32))) σ) fun _ s1 => some ((), s1))
def f_X9_writesTime_L17  (x0 : Nat) (x1 : Int32)  (σ : Sg) : Option (Unit × Sg) := (if x1 ≤ (9 : Int32) then f_X9_writesTime_L37 x0 x1 σ else ck (decide (¬ (10 : Int32) = 0)) (ck (decide (¬ (10 : Int32) = 0)) (bd (f_X9_writes x0 ((48 : Int32) + ((x1 / (10 : Int32)) - (x1 / (10 : Int32)) / (10 : Int32) * (10 : Int32))) σ) fun _ s1 => f_X9_writesTime_L37 x0 x1 s1)))
def f_X9_writesTime (x0 : Nat) (x1 : Int32) (σ : Sg) : Option (Unit × Sg) := (if x1 ≤ (99 : Int32) then f_X9_writesTime_L17 x0 x1 σ else ck (decide (¬ (100 : Int32) = 0)) (bd (f_X9_writes x0 ((48 : Int32) + (x1 / (100 : Int32))) σ) fun _ s1 => f_X9_writesTime_L17 x0 x1 s1))
theorem t_X9_writesTime_L37 {K : Cx} (h : Ok K cX9_writesTime RX9 2 rm_X9_writesTime none) (hs : kiv K = St) (x0 : Nat) (x1 : Int32)  (σ : Sg)  (hk0 : kd x0 9)  : T K (QV K) 37 [(0, .ref x0), (1, .int x1)] [] 0 0 σ (f_X9_writesTime_L37 x0 x1 σ) := by
  unfold f_X9_writesTime_L37
  refine T_aload_n (pc := 37) h dX9_writesTime_37 rfl 0 rfl ?_
  refine T_bipush (pc := 38) h dX9_writesTime_38 kb_48 ?_
  refine T_iload_n (pc := 40) h dX9_writesTime_40 rfl 1 rfl ?_
  refine T_bipush (pc := 41) h dX9_writesTime_41 kb_10 ?_
  refine T_irem (pc := 43) h dX9_writesTime_43 ?_
  refine T_iadd (pc := 44) h dX9_writesTime_44 ?_
  refine T_callVv (pc := 45) h (M_X9_writes (kl K) hs x0 ((48 : Int32) + (x1 - x1 / (10 : Int32) * (10 : Int32))) σ hk0) mv_X9_writes hs hk0 ml_X9_286 rfl ⟨Nat.le_of_ble_eq_true rfl, Nat.le_of_ble_eq_true rfl⟩ ⟨Nat.le_refl 0, Nat.le_refl 0⟩ (Nat.le_of_ble_eq_true rfl) dX9_writesTime_45 rfl (fun _ s1 => ?_)
  exact T_return (pc := 48) h (Nat.zero_le _) (Nat.zero_le _) dX9_writesTime_48
theorem t_X9_writesTime_L17 {K : Cx} (h : Ok K cX9_writesTime RX9 2 rm_X9_writesTime none) (hs : kiv K = St) (x0 : Nat) (x1 : Int32)  (σ : Sg)  (hk0 : kd x0 9)  : T K (QV K) 17 [(0, .ref x0), (1, .int x1)] [] 0 0 σ (f_X9_writesTime_L17 x0 x1 σ) := by
  unfold f_X9_writesTime_L17
  refine T_iload_n (pc := 17) h dX9_writesTime_17 rfl 1 rfl ?_
  refine T_bipush (pc := 18) h dX9_writesTime_18 kb_9 ?_
  refine T_icmp_le (pc := 20) (tgt := 37) h dX9_writesTime_20 (by decide) ?_ ?_
  · refine T_sub [0, 1] rfl ?_
    exact t_X9_writesTime_L37 h hs x0 x1 σ hk0
  · refine T_aload_n (pc := 23) h dX9_writesTime_23 rfl 0 rfl ?_
    refine T_bipush (pc := 24) h dX9_writesTime_24 kb_48 ?_
    refine T_iload_n (pc := 26) h dX9_writesTime_26 rfl 1 rfl ?_
    refine T_bipush (pc := 27) h dX9_writesTime_27 kb_10 ?_
    refine T_idiv (pc := 29) h dX9_writesTime_29 ?_
    refine T_bipush (pc := 30) h dX9_writesTime_30 kb_10 ?_
    refine T_irem (pc := 32) h dX9_writesTime_32 ?_
    refine T_iadd (pc := 33) h dX9_writesTime_33 ?_
    refine T_callVv (pc := 34) h (M_X9_writes (kl K) hs x0 ((48 : Int32) + ((x1 / (10 : Int32)) - (x1 / (10 : Int32)) / (10 : Int32) * (10 : Int32))) σ hk0) mv_X9_writes hs hk0 ml_X9_286 rfl ⟨Nat.le_of_ble_eq_true rfl, Nat.le_of_ble_eq_true rfl⟩ ⟨Nat.le_refl 0, Nat.le_refl 0⟩ (Nat.le_of_ble_eq_true rfl) dX9_writesTime_34 rfl (fun _ s1 => ?_)
    refine T_sub [0, 1] rfl ?_
    exact t_X9_writesTime_L37 h hs x0 x1 s1 hk0
theorem t_X9_writesTime {K : Cx} (h : Ok K cX9_writesTime RX9 2 rm_X9_writesTime none) (hs : kiv K = St) (x0 : Nat) (x1 : Int32) (σ : Sg) (hk0 : kd x0 9) : T K (QV K) 0 [(0, .ref x0), (1, .int x1)] [] 0 0 σ (f_X9_writesTime x0 x1 σ) := by
  unfold f_X9_writesTime
  refine T_iload_n (pc := 0) h dX9_writesTime_0 rfl 1 rfl ?_
  refine T_bipush (pc := 1) h dX9_writesTime_1 kb_99 ?_
  refine T_icmp_le (pc := 3) (tgt := 17) h dX9_writesTime_3 (by decide) ?_ ?_
  · refine T_sub [0, 1] rfl ?_
    exact t_X9_writesTime_L17 h hs x0 x1 σ hk0
  · refine T_aload_n (pc := 6) h dX9_writesTime_6 rfl 0 rfl ?_
    refine T_bipush (pc := 7) h dX9_writesTime_7 kb_48 ?_
    refine T_iload_n (pc := 9) h dX9_writesTime_9 rfl 1 rfl ?_
    refine T_bipush (pc := 10) h dX9_writesTime_10 kb_100 ?_
    refine T_idiv (pc := 12) h dX9_writesTime_12 ?_
    refine T_iadd (pc := 13) h dX9_writesTime_13 ?_
    refine T_callVv (pc := 14) h (M_X9_writes (kl K) hs x0 ((48 : Int32) + (x1 / (100 : Int32))) σ hk0) mv_X9_writes hs hk0 ml_X9_286 rfl ⟨Nat.le_of_ble_eq_true rfl, Nat.le_of_ble_eq_true rfl⟩ ⟨Nat.le_refl 0, Nat.le_refl 0⟩ (Nat.le_of_ble_eq_true rfl) dX9_writesTime_14 rfl (fun _ s1 => ?_)
    refine T_sub [0, 1] rfl ?_
    exact t_X9_writesTime_L17 h hs x0 x1 s1 hk0
theorem M_X9_writesTime (l : Launch) {iv : Sg → Prop} (hi : iv = St) (x0 : Nat) (x1 : Int32) (σ : Sg) (hk0 : kd x0 9) : CTv l yX9_writesTime cX9_writesTime 2 none rm_X9_writesTime iv [.ref x0, .int x1] σ (f_X9_writesTime x0 x1 σ) := by
  subst hi
  exact CT_of (by decide) (Nat.le_of_ble_eq_true rfl) (fun K _ h _ hs _ _ => t_X9_writesTime h hs x0 x1 σ hk0)
/-! LuteTabsModel.tablature()I -/
theorem dX9_tablature_0 : decode cX9_tablature 0 = .ok (.aload_n 0, 1) := by decide +kernel
theorem dX9_tablature_1 : decode cX9_tablature 1 = .ok (.invokevirtual 246, 3) := by decide +kernel
theorem dX9_tablature_4 : decode cX9_tablature 4 = .ok (.ifCond .eq 6, 3) := by decide +kernel
theorem dX9_tablature_7 : decode cX9_tablature 7 = .ok (.bipush (-3), 2) := by decide +kernel
theorem dX9_tablature_9 : decode cX9_tablature 9 = .ok (.ireturn, 1) := by decide +kernel
theorem dX9_tablature_10 : decode cX9_tablature 10 = .ok (.aload_n 0, 1) := by decide +kernel
theorem dX9_tablature_11 : decode cX9_tablature 11 = .ok (.iconst 0, 1) := by decide +kernel
theorem dX9_tablature_12 : decode cX9_tablature 12 = .ok (.putfield 283, 3) := by decide +kernel
theorem dX9_tablature_15 : decode cX9_tablature 15 = .ok (.iconst 0, 1) := by decide +kernel
theorem dX9_tablature_16 : decode cX9_tablature 16 = .ok (.istore_n 1, 1) := by decide +kernel
theorem dX9_tablature_17 : decode cX9_tablature 17 = .ok (.iload_n 1, 1) := by decide +kernel
theorem dX9_tablature_18 : decode cX9_tablature 18 = .ok (.aload_n 0, 1) := by decide +kernel
theorem dX9_tablature_19 : decode cX9_tablature 19 = .ok (.getfield 157, 3) := by decide +kernel
theorem dX9_tablature_22 : decode cX9_tablature 22 = .ok (.if_icmp .ge 114, 3) := by decide +kernel
theorem dX9_tablature_25 : decode cX9_tablature 25 = .ok (.aload_n 0, 1) := by decide +kernel
theorem dX9_tablature_26 : decode cX9_tablature 26 = .ok (.aload_n 0, 1) := by decide +kernel
theorem dX9_tablature_27 : decode cX9_tablature 27 = .ok (.getfield 51, 3) := by decide +kernel
theorem dX9_tablature_30 : decode cX9_tablature 30 = .ok (.iload_n 1, 1) := by decide +kernel
theorem dX9_tablature_31 : decode cX9_tablature 31 = .ok (.iaload, 1) := by decide +kernel
theorem dX9_tablature_32 : decode cX9_tablature 32 = .ok (.invokevirtual 289, 3) := by decide +kernel
theorem dX9_tablature_35 : decode cX9_tablature 35 = .ok (.aload_n 0, 1) := by decide +kernel
theorem dX9_tablature_36 : decode cX9_tablature 36 = .ok (.bipush 58, 2) := by decide +kernel
theorem dX9_tablature_38 : decode cX9_tablature 38 = .ok (.invokevirtual 286, 3) := by decide +kernel
theorem dX9_tablature_41 : decode cX9_tablature 41 = .ok (.iconst 0, 1) := by decide +kernel
theorem dX9_tablature_42 : decode cX9_tablature 42 = .ok (.istore_n 2, 1) := by decide +kernel
theorem dX9_tablature_43 : decode cX9_tablature 43 = .ok (.iload_n 2, 1) := by decide +kernel
theorem dX9_tablature_44 : decode cX9_tablature 44 = .ok (.aload_n 0, 1) := by decide +kernel
theorem dX9_tablature_45 : decode cX9_tablature 45 = .ok (.getfield 7, 3) := by decide +kernel
theorem dX9_tablature_48 : decode cX9_tablature 48 = .ok (.if_icmp .ge 76, 3) := by decide +kernel
theorem dX9_tablature_51 : decode cX9_tablature 51 = .ok (.bipush 45, 2) := by decide +kernel
theorem dX9_tablature_53 : decode cX9_tablature 53 = .ok (.istore_n 3, 1) := by decide +kernel
theorem dX9_tablature_54 : decode cX9_tablature 54 = .ok (.iconst 0, 1) := by decide +kernel
theorem dX9_tablature_55 : decode cX9_tablature 55 = .ok (.istore 4, 2) := by decide +kernel
theorem dX9_tablature_57 : decode cX9_tablature 57 = .ok (.iload 4, 2) := by decide +kernel
theorem dX9_tablature_59 : decode cX9_tablature 59 = .ok (.aload_n 0, 1) := by decide +kernel
theorem dX9_tablature_60 : decode cX9_tablature 60 = .ok (.getfield 130, 3) := by decide +kernel
theorem dX9_tablature_63 : decode cX9_tablature 63 = .ok (.if_icmp .ge 50, 3) := by decide +kernel
theorem dX9_tablature_66 : decode cX9_tablature 66 = .ok (.aload_n 0, 1) := by decide +kernel
theorem dX9_tablature_67 : decode cX9_tablature 67 = .ok (.getfield 32, 3) := by decide +kernel
theorem dX9_tablature_70 : decode cX9_tablature 70 = .ok (.iload 4, 2) := by decide +kernel
theorem dX9_tablature_72 : decode cX9_tablature 72 = .ok (.iaload, 1) := by decide +kernel
theorem dX9_tablature_73 : decode cX9_tablature 73 = .ok (.aload_n 0, 1) := by decide +kernel
theorem dX9_tablature_74 : decode cX9_tablature 74 = .ok (.getfield 51, 3) := by decide +kernel
theorem dX9_tablature_77 : decode cX9_tablature 77 = .ok (.iload_n 1, 1) := by decide +kernel
theorem dX9_tablature_78 : decode cX9_tablature 78 = .ok (.iaload, 1) := by decide +kernel
theorem dX9_tablature_79 : decode cX9_tablature 79 = .ok (.if_icmp .ne 26, 3) := by decide +kernel
theorem dX9_tablature_82 : decode cX9_tablature 82 = .ok (.aload_n 0, 1) := by decide +kernel
theorem dX9_tablature_83 : decode cX9_tablature 83 = .ok (.getfield 41, 3) := by decide +kernel
theorem dX9_tablature_86 : decode cX9_tablature 86 = .ok (.iload 4, 2) := by decide +kernel
theorem dX9_tablature_88 : decode cX9_tablature 88 = .ok (.iaload, 1) := by decide +kernel
theorem dX9_tablature_89 : decode cX9_tablature 89 = .ok (.iload_n 2, 1) := by decide +kernel
theorem dX9_tablature_90 : decode cX9_tablature 90 = .ok (.if_icmp .ne 15, 3) := by decide +kernel
theorem dX9_tablature_93 : decode cX9_tablature 93 = .ok (.bipush 97, 2) := by decide +kernel
theorem dX9_tablature_95 : decode cX9_tablature 95 = .ok (.aload_n 0, 1) := by decide +kernel
theorem dX9_tablature_96 : decode cX9_tablature 96 = .ok (.iload 4, 2) := by decide +kernel
theorem dX9_tablature_98 : decode cX9_tablature 98 = .ok (.invokevirtual 175, 3) := by decide +kernel
theorem dX9_tablature_101 : decode cX9_tablature 101 = .ok (.iadd, 1) := by decide +kernel
theorem dX9_tablature_102 : decode cX9_tablature 102 = .ok (.goto 4, 3) := by decide +kernel
theorem dX9_tablature_105 : decode cX9_tablature 105 = .ok (.iload_n 3, 1) := by decide +kernel
theorem dX9_tablature_106 : decode cX9_tablature 106 = .ok (.istore_n 3, 1) := by decide +kernel
theorem dX9_tablature_107 : decode cX9_tablature 107 = .ok (.iinc 4 1, 3) := by decide +kernel
theorem dX9_tablature_110 : decode cX9_tablature 110 = .ok (.goto (-53), 3) := by decide +kernel
theorem dX9_tablature_113 : decode cX9_tablature 113 = .ok (.aload_n 0, 1) := by decide +kernel
theorem dX9_tablature_114 : decode cX9_tablature 114 = .ok (.iload_n 3, 1) := by decide +kernel
theorem dX9_tablature_115 : decode cX9_tablature 115 = .ok (.invokevirtual 286, 3) := by decide +kernel
theorem dX9_tablature_118 : decode cX9_tablature 118 = .ok (.iinc 2 1, 3) := by decide +kernel
theorem dX9_tablature_121 : decode cX9_tablature 121 = .ok (.goto (-78), 3) := by decide +kernel
theorem dX9_tablature_124 : decode cX9_tablature 124 = .ok (.aload_n 0, 1) := by decide +kernel
theorem dX9_tablature_125 : decode cX9_tablature 125 = .ok (.bipush 59, 2) := by decide +kernel
theorem dX9_tablature_127 : decode cX9_tablature 127 = .ok (.invokevirtual 286, 3) := by decide +kernel
theorem dX9_tablature_130 : decode cX9_tablature 130 = .ok (.iinc 1 1, 3) := by decide +kernel
theorem dX9_tablature_133 : decode cX9_tablature 133 = .ok (.goto (-116), 3) := by decide +kernel
theorem dX9_tablature_136 : decode cX9_tablature 136 = .ok (.aload_n 0, 1) := by decide +kernel
theorem dX9_tablature_137 : decode cX9_tablature 137 = .ok (.getfield 283, 3) := by decide +kernel
theorem dX9_tablature_140 : decode cX9_tablature 140 = .ok (.ireturn, 1) := by decide +kernel
abbrev rm_X9_tablature : Room := { frames := 4, cells := 0, slots := 0, locals := 94 }
def f_X9_tablature_L106 (rec17 : Int32 × Sg → Option (Int32 × Sg)) (rec43 : Int32 × Sg → Option (Int32 × Sg)) (rec57 : Int32 × Int32 × Sg → Option (Int32 × Sg)) (x0 : Nat) (x1 : Int32) (x2 : Int32) (x4 : Int32) (y0 : Int32) (σ : Sg) : Option (Int32 × Sg) := lB (x4 + (1 : Int32)) fun v1 => rec57 (y0, v1, σ)
def f_X9_tablature_L105 (rec17 : Int32 × Sg → Option (Int32 × Sg)) (rec43 : Int32 × Sg → Option (Int32 × Sg)) (rec57 : Int32 × Int32 × Sg → Option (Int32 × Sg)) (x0 : Nat) (x1 : Int32) (x2 : Int32) (x3 : Int32) (x4 : Int32)  (σ : Sg) : Option (Int32 × Sg) := f_X9_tablature_L106 rec17 rec43 rec57 x0 x1 x2 x4 x3 σ
def f_X9_tablature_L57 (rec17 : Int32 × Sg → Option (Int32 × Sg)) (rec43 : Int32 × Sg → Option (Int32 × Sg)) (x0 : Nat) (x1 : Int32) (x2 : Int32) (rec57 : Int32 × Int32 × Sg → Option (Int32 × Sg)) (s : Int32 × Int32 × Sg) : Option (Int32 × Sg) := (if (gI (s.2.2) x0 10) ≤ (s.2.1) then bd (f_X9_writes x0 (s.1) (s.2.2)) fun _ s1 => lB (x2 + (1 : Int32)) fun v2 => rec43 (v2, s1) else ck (inb (s.2.1) (aL (gR (s.2.2) x0 7))) (ck (inb x1 (aL (gR (s.2.2) x0 15))) ((if (gI (s.2.2) (gR (s.2.2) x0 7) (s.2.1).toNatClampNeg) = (gI (s.2.2) (gR (s.2.2) x0 15) x1.toNatClampNeg) then ck (inb (s.2.1) (aL (gR (s.2.2) x0 11))) ((if (gI (s.2.2) (gR (s.2.2) x0 11) (s.2.1).toNatClampNeg) = x2 then bd (f_X9_fretOf x0 (s.2.1) (s.2.2)) fun r7 s6 => f_X9_tablature_L106 rec17 rec43 rec57 x0 x1 x2 (s.2.1) ((97 : Int32) + r7) s6 else f_X9_tablature_L105 rec17 rec43 rec57 x0 x1 x2 (s.1) (s.2.1) (s.2.2))) else f_X9_tablature_L105 rec17 rec43 rec57 x0 x1 x2 (s.1) (s.2.1) (s.2.2)))))
def f_X9_tablature_L43 (rec17 : Int32 × Sg → Option (Int32 × Sg)) (x0 : Nat) (x1 : Int32) (rec43 : Int32 × Sg → Option (Int32 × Sg)) (s : Int32 × Sg) : Option (Int32 × Sg) := (if (gI (s.2) x0 0) ≤ (s.1) then bd (f_X9_writes x0 (59 : Int32) (s.2)) fun _ s1 => lB (x1 + (1 : Int32)) fun v2 => rec17 (v2, s1) else fx (f_X9_tablature_L57 rec17 rec43 x0 x1 (s.1)) FU ((45 : Int32), (0 : Int32), (s.2)))
def f_X9_tablature_L17  (x0 : Nat) (rec17 : Int32 × Sg → Option (Int32 × Sg)) (s : Int32 × Sg) : Option (Int32 × Sg) := (if (gI (s.2) x0 16) ≤ (s.1) then some ((gI (s.2) x0 37), (s.2)) else ck (inb (s.1) (aL (gR (s.2) x0 15))) (bd (f_X9_writesTime x0 (gI (s.2) (gR (s.2) x0 15) (s.1).toNatClampNeg) (s.2)) fun _ s2 => bd (f_X9_writes x0 (58 : Int32) s2) fun _ s3 => fx (f_X9_tablature_L43 rec17 x0 (s.1)) FU ((0 : Int32), s3)))
def f_X9_tablature (x0 : Nat) (σ : Sg) : Option (Int32 × Sg) := bd (f_X9_wrongNow x0 σ) fun r2 s1 => (if r2 = 0 then lB (pI s1 x0 37 (0 : Int32)) fun s3 => fx (f_X9_tablature_L17 x0) FU ((0 : Int32), s3) else some ((-3 : Int32), s1))
theorem t_X9_tablature_L106 {K : Cx} (h : Ok K cX9_tablature RX9 5 rm_X9_tablature (some .int)) (hs : kiv K = St) (x0 : Nat) (x1 : Int32) (x2 : Int32) (x4 : Int32) (y0 : Int32) (σ : Sg) (rec17 : Int32 × Sg → Option (Int32 × Sg)) (hr17 : ∀ u, T K (QI K) 17 [(0, .ref x0), (1, .int (u.1))] [] 0 0 (u.2) (rec17 u)) (rec43 : Int32 × Sg → Option (Int32 × Sg)) (hr43 : ∀ u, T K (QI K) 43 [(0, .ref x0), (1, .int x1), (2, .int (u.1))] [] 0 0 (u.2) (rec43 u)) (rec57 : Int32 × Int32 × Sg → Option (Int32 × Sg)) (hr57 : ∀ u, T K (QI K) 57 [(0, .ref x0), (1, .int x1), (2, .int x2), (3, .int (u.1)), (4, .int (u.2.1))] [] 0 0 (u.2.2) (rec57 u)) (hk0 : kd x0 9)  : T K (QI K) 106 [(0, .ref x0), (1, .int x1), (2, .int x2), (4, .int x4)] [.int y0] 0 0 σ (f_X9_tablature_L106 rec17 rec43 rec57 x0 x1 x2 x4 y0 σ) := by
  unfold f_X9_tablature_L106
  refine T_istore_n (lv' := [(3, .int y0), (0, .ref x0), (1, .int x1), (2, .int x2), (4, .int x4)]) (pc := 106) h dX9_tablature_106 rfl (by decide) rfl ?_
  refine T_iinc (fl := fun v1 => [(4, .int v1), (3, .int y0), (0, .ref x0), (1, .int x1), (2, .int x2)]) (pc := 107) h dX9_tablature_107 4 rfl ki_1 (by decide) (fun _ => rfl) (fun v1 => ?_)
  refine T_goto (pc := 110) (tgt := 57) h dX9_tablature_110 (by decide) ?_
  refine T_sub [2, 3, 4, 1, 0] rfl ?_
  exact hr57 (y0, v1, σ)
theorem t_X9_tablature_L105 {K : Cx} (h : Ok K cX9_tablature RX9 5 rm_X9_tablature (some .int)) (hs : kiv K = St) (x0 : Nat) (x1 : Int32) (x2 : Int32) (x3 : Int32) (x4 : Int32)  (σ : Sg) (rec17 : Int32 × Sg → Option (Int32 × Sg)) (hr17 : ∀ u, T K (QI K) 17 [(0, .ref x0), (1, .int (u.1))] [] 0 0 (u.2) (rec17 u)) (rec43 : Int32 × Sg → Option (Int32 × Sg)) (hr43 : ∀ u, T K (QI K) 43 [(0, .ref x0), (1, .int x1), (2, .int (u.1))] [] 0 0 (u.2) (rec43 u)) (rec57 : Int32 × Int32 × Sg → Option (Int32 × Sg)) (hr57 : ∀ u, T K (QI K) 57 [(0, .ref x0), (1, .int x1), (2, .int x2), (3, .int (u.1)), (4, .int (u.2.1))] [] 0 0 (u.2.2) (rec57 u)) (hk0 : kd x0 9)  : T K (QI K) 105 [(0, .ref x0), (1, .int x1), (2, .int x2), (3, .int x3), (4, .int x4)] [] 0 0 σ (f_X9_tablature_L105 rec17 rec43 rec57 x0 x1 x2 x3 x4 σ) := by
  unfold f_X9_tablature_L105
  refine T_iload_n (pc := 105) h dX9_tablature_105 rfl 3 rfl ?_
  refine T_sub [0, 1, 2, 4] rfl ?_
  exact t_X9_tablature_L106 h hs x0 x1 x2 x4 x3 σ rec17 hr17 rec43 hr43 rec57 hr57 hk0
theorem t_X9_tablature_L57 {K : Cx} (h : Ok K cX9_tablature RX9 5 rm_X9_tablature (some .int)) (hs : kiv K = St) (x0 : Nat) (x1 : Int32) (x2 : Int32) (rec17 : Int32 × Sg → Option (Int32 × Sg)) (hr17 : ∀ u, T K (QI K) 17 [(0, .ref x0), (1, .int (u.1))] [] 0 0 (u.2) (rec17 u)) (rec43 : Int32 × Sg → Option (Int32 × Sg)) (hr43 : ∀ u, T K (QI K) 43 [(0, .ref x0), (1, .int x1), (2, .int (u.1))] [] 0 0 (u.2) (rec43 u)) (hk0 : kd x0 9) (rec57 : Int32 × Int32 × Sg → Option (Int32 × Sg)) (hr57 : ∀ u, T K (QI K) 57 [(0, .ref x0), (1, .int x1), (2, .int x2), (3, .int (u.1)), (4, .int (u.2.1))] [] 0 0 (u.2.2) (rec57 u)) (s : Int32 × Int32 × Sg) : T K (QI K) 57 [(0, .ref x0), (1, .int x1), (2, .int x2), (3, .int (s.1)), (4, .int (s.2.1))] [] 0 0 (s.2.2) (f_X9_tablature_L57 rec17 rec43 x0 x1 x2 rec57 s) := by
  unfold f_X9_tablature_L57
  refine T_iload (pc := 57) h dX9_tablature_57 4 rfl ?_
  refine T_aload_n (pc := 59) h dX9_tablature_59 rfl 0 rfl ?_
  refine T_getI (pc := 60) h hs hk0 fl_X9_130 rfl dX9_tablature_60 ?_
  refine T_icmp_ge (pc := 63) (tgt := 113) h dX9_tablature_63 (by decide) ?_ ?_
  · refine T_aload_n (pc := 113) h dX9_tablature_113 rfl 0 rfl ?_
    refine T_iload_n (pc := 114) h dX9_tablature_114 rfl 3 rfl ?_
    refine T_callVv (pc := 115) h (M_X9_writes (kl K) hs x0 (s.1) (s.2.2) hk0) mv_X9_writes hs hk0 ml_X9_286 rfl ⟨Nat.le_of_ble_eq_true rfl, Nat.le_of_ble_eq_true rfl⟩ ⟨Nat.le_refl 0, Nat.le_refl 0⟩ (Nat.le_of_ble_eq_true rfl) dX9_tablature_115 rfl (fun _ s1 => ?_)
    refine T_iinc (fl := fun v2 => [(2, .int v2), (0, .ref x0), (1, .int x1), (3, .int (s.1)), (4, .int (s.2.1))]) (pc := 118) h dX9_tablature_118 2 rfl ki_1 (by decide) (fun _ => rfl) (fun v2 => ?_)
    refine T_goto (pc := 121) (tgt := 43) h dX9_tablature_121 (by decide) ?_
    refine T_sub [1, 2, 0] rfl ?_
    exact hr43 (v2, s1)
  · refine T_aload_n (pc := 66) h dX9_tablature_66 rfl 0 rfl ?_
    refine T_gR (pc := 67) h hs hk0 fl_X9_32 rfl fk_9_7 dX9_tablature_67 (fun hq3 => ?_)
    refine T_iload (pc := 70) h dX9_tablature_70 4 rfl ?_
    refine T_iald (pc := 72) h hs hq3 dX9_tablature_72 ?_
    refine T_aload_n (pc := 73) h dX9_tablature_73 rfl 0 rfl ?_
    refine T_gR (pc := 74) h hs hk0 fl_X9_51 rfl fk_9_15 dX9_tablature_74 (fun hq4 => ?_)
    refine T_iload_n (pc := 77) h dX9_tablature_77 rfl 1 rfl ?_
    refine T_iald (pc := 78) h hs hq4 dX9_tablature_78 ?_
    refine T_icmp_ne (pc := 79) (tgt := 105) h dX9_tablature_79 (by decide) ?_ ?_
    · refine T_sub [0, 1, 2, 3, 4] rfl ?_
      exact t_X9_tablature_L105 h hs x0 x1 x2 (s.1) (s.2.1) (s.2.2) rec17 hr17 rec43 hr43 rec57 hr57 hk0
    · refine T_aload_n (pc := 82) h dX9_tablature_82 rfl 0 rfl ?_
      refine T_gR (pc := 83) h hs hk0 fl_X9_41 rfl fk_9_11 dX9_tablature_83 (fun hq5 => ?_)
      refine T_iload (pc := 86) h dX9_tablature_86 4 rfl ?_
      refine T_iald (pc := 88) h hs hq5 dX9_tablature_88 ?_
      refine T_iload_n (pc := 89) h dX9_tablature_89 rfl 2 rfl ?_
      refine T_icmp_ne (pc := 90) (tgt := 105) h dX9_tablature_90 (by decide) ?_ ?_
      · refine T_sub [0, 1, 2, 3, 4] rfl ?_
        exact t_X9_tablature_L105 h hs x0 x1 x2 (s.1) (s.2.1) (s.2.2) rec17 hr17 rec43 hr43 rec57 hr57 hk0
      · refine T_bipush (pc := 93) h dX9_tablature_93 kb_97 ?_
        refine T_aload_n (pc := 95) h dX9_tablature_95 rfl 0 rfl ?_
        refine T_iload (pc := 96) h dX9_tablature_96 4 rfl ?_
        refine T_callVi (pc := 98) h (M_X9_fretOf (kl K) hs x0 (s.2.1) (s.2.2) hk0) mv_X9_fretOf hs hk0 ml_X9_175 rfl ⟨Nat.le_of_ble_eq_true rfl, Nat.le_of_ble_eq_true rfl⟩ ⟨Nat.le_refl 0, Nat.le_refl 0⟩ (Nat.le_of_ble_eq_true rfl) dX9_tablature_98 rfl (fun r7 s6 => ?_)
        refine T_iadd (pc := 101) h dX9_tablature_101 ?_
        refine T_goto (pc := 102) (tgt := 106) h dX9_tablature_102 (by decide) ?_
        refine T_sub [0, 1, 2, 4] rfl ?_
        exact t_X9_tablature_L106 h hs x0 x1 x2 (s.2.1) ((97 : Int32) + r7) s6 rec17 hr17 rec43 hr43 rec57 hr57 hk0
theorem t_X9_tablature_L43 {K : Cx} (h : Ok K cX9_tablature RX9 5 rm_X9_tablature (some .int)) (hs : kiv K = St) (x0 : Nat) (x1 : Int32) (rec17 : Int32 × Sg → Option (Int32 × Sg)) (hr17 : ∀ u, T K (QI K) 17 [(0, .ref x0), (1, .int (u.1))] [] 0 0 (u.2) (rec17 u)) (hk0 : kd x0 9) (rec43 : Int32 × Sg → Option (Int32 × Sg)) (hr43 : ∀ u, T K (QI K) 43 [(0, .ref x0), (1, .int x1), (2, .int (u.1))] [] 0 0 (u.2) (rec43 u)) (s : Int32 × Sg) : T K (QI K) 43 [(0, .ref x0), (1, .int x1), (2, .int (s.1))] [] 0 0 (s.2) (f_X9_tablature_L43 rec17 x0 x1 rec43 s) := by
  unfold f_X9_tablature_L43
  refine T_iload_n (pc := 43) h dX9_tablature_43 rfl 2 rfl ?_
  refine T_aload_n (pc := 44) h dX9_tablature_44 rfl 0 rfl ?_
  refine T_getI (pc := 45) h hs hk0 fl_X9_7 rfl dX9_tablature_45 ?_
  refine T_icmp_ge (pc := 48) (tgt := 124) h dX9_tablature_48 (by decide) ?_ ?_
  · refine T_aload_n (pc := 124) h dX9_tablature_124 rfl 0 rfl ?_
    refine T_bipush (pc := 125) h dX9_tablature_125 kb_59 ?_
    refine T_callVv (pc := 127) h (M_X9_writes (kl K) hs x0 (59 : Int32) (s.2) hk0) mv_X9_writes hs hk0 ml_X9_286 rfl ⟨Nat.le_of_ble_eq_true rfl, Nat.le_of_ble_eq_true rfl⟩ ⟨Nat.le_refl 0, Nat.le_refl 0⟩ (Nat.le_of_ble_eq_true rfl) dX9_tablature_127 rfl (fun _ s1 => ?_)
    refine T_iinc (fl := fun v2 => [(1, .int v2), (0, .ref x0), (2, .int (s.1))]) (pc := 130) h dX9_tablature_130 1 rfl ki_1 (by decide) (fun _ => rfl) (fun v2 => ?_)
    refine T_goto (pc := 133) (tgt := 17) h dX9_tablature_133 (by decide) ?_
    refine T_sub [1, 0] rfl ?_
    exact hr17 (v2, s1)
  · refine T_bipush (pc := 51) h dX9_tablature_51 kb_45 ?_
    refine T_istore_n (lv' := [(3, .int (45 : Int32)), (0, .ref x0), (1, .int x1), (2, .int (s.1))]) (pc := 53) h dX9_tablature_53 rfl (by decide) rfl ?_
    refine T_iconst (pc := 54) h dX9_tablature_54 ki_0 ?_
    refine T_istore (lv' := [(4, .int (0 : Int32)), (3, .int (45 : Int32)), (0, .ref x0), (1, .int x1), (2, .int (s.1))]) (pc := 55) h dX9_tablature_55 (by decide) rfl ?_
    refine T_sub [2, 3, 4, 1, 0] rfl ?_
    exact T_fx (B := f_X9_tablature_L57 rec17 rec43 x0 x1 (s.1)) (fl := fun u => [(0, .ref x0), (1, .int x1), (2, .int (s.1)), (3, .int (u.1)), (4, .int (u.2.1))]) (f := fun u => (u.2.2)) (fun rec57 hr57 u => t_X9_tablature_L57 h hs x0 x1 (s.1) rec17 hr17 rec43 hr43 hk0 rec57 hr57 u) FU ((45 : Int32), (0 : Int32), (s.2))
theorem t_X9_tablature_L17 {K : Cx} (h : Ok K cX9_tablature RX9 5 rm_X9_tablature (some .int)) (hs : kiv K = St) (x0 : Nat)  (hk0 : kd x0 9) (rec17 : Int32 × Sg → Option (Int32 × Sg)) (hr17 : ∀ u, T K (QI K) 17 [(0, .ref x0), (1, .int (u.1))] [] 0 0 (u.2) (rec17 u)) (s : Int32 × Sg) : T K (QI K) 17 [(0, .ref x0), (1, .int (s.1))] [] 0 0 (s.2) (f_X9_tablature_L17 x0 rec17 s) := by
  unfold f_X9_tablature_L17
  refine T_iload_n (pc := 17) h dX9_tablature_17 rfl 1 rfl ?_
  refine T_aload_n (pc := 18) h dX9_tablature_18 rfl 0 rfl ?_
  refine T_getI (pc := 19) h hs hk0 fl_X9_157 rfl dX9_tablature_19 ?_
  refine T_icmp_ge (pc := 22) (tgt := 136) h dX9_tablature_22 (by decide) ?_ ?_
  · refine T_aload_n (pc := 136) h dX9_tablature_136 rfl 0 rfl ?_
    refine T_getI (pc := 137) h hs hk0 fl_X9_283 rfl dX9_tablature_137 ?_
    exact T_ireturn (pc := 140) h (Nat.zero_le _) (Nat.zero_le _) dX9_tablature_140
  · refine T_aload_n (pc := 25) h dX9_tablature_25 rfl 0 rfl ?_
    refine T_aload_n (pc := 26) h dX9_tablature_26 rfl 0 rfl ?_
    refine T_gR (pc := 27) h hs hk0 fl_X9_51 rfl fk_9_15 dX9_tablature_27 (fun hq1 => ?_)
    refine T_iload_n (pc := 30) h dX9_tablature_30 rfl 1 rfl ?_
    refine T_iald (pc := 31) h hs hq1 dX9_tablature_31 ?_
    refine T_callVv (pc := 32) h (M_X9_writesTime (kl K) hs x0 (gI (s.2) (gR (s.2) x0 15) (s.1).toNatClampNeg) (s.2) hk0) mv_X9_writesTime hs hk0 ml_X9_289 rfl ⟨Nat.le_of_ble_eq_true rfl, Nat.le_of_ble_eq_true rfl⟩ ⟨Nat.le_refl 0, Nat.le_refl 0⟩ (Nat.le_of_ble_eq_true rfl) dX9_tablature_32 rfl (fun _ s2 => ?_)
    refine T_aload_n (pc := 35) h dX9_tablature_35 rfl 0 rfl ?_
    refine T_bipush (pc := 36) h dX9_tablature_36 kb_58 ?_
    refine T_callVv (pc := 38) h (M_X9_writes (kl K) hs x0 (58 : Int32) s2 hk0) mv_X9_writes hs hk0 ml_X9_286 rfl ⟨Nat.le_of_ble_eq_true rfl, Nat.le_of_ble_eq_true rfl⟩ ⟨Nat.le_refl 0, Nat.le_refl 0⟩ (Nat.le_of_ble_eq_true rfl) dX9_tablature_38 rfl (fun _ s3 => ?_)
    refine T_iconst (pc := 41) h dX9_tablature_41 ki_0 ?_
    refine T_istore_n (lv' := [(2, .int (0 : Int32)), (0, .ref x0), (1, .int (s.1))]) (pc := 42) h dX9_tablature_42 rfl (by decide) rfl ?_
    refine T_sub [1, 2, 0] rfl ?_
    exact T_fx (B := f_X9_tablature_L43 rec17 x0 (s.1)) (fl := fun u => [(0, .ref x0), (1, .int (s.1)), (2, .int (u.1))]) (f := fun u => (u.2)) (fun rec43 hr43 u => t_X9_tablature_L43 h hs x0 (s.1) rec17 hr17 hk0 rec43 hr43 u) FU ((0 : Int32), s3)
theorem t_X9_tablature {K : Cx} (h : Ok K cX9_tablature RX9 5 rm_X9_tablature (some .int)) (hs : kiv K = St) (x0 : Nat) (σ : Sg) (hk0 : kd x0 9) : T K (QI K) 0 [(0, .ref x0)] [] 0 0 σ (f_X9_tablature x0 σ) := by
  unfold f_X9_tablature
  refine T_aload_n (pc := 0) h dX9_tablature_0 rfl 0 rfl ?_
  refine T_callVi (pc := 1) h (M_X9_wrongNow (kl K) hs x0 σ hk0) mv_X9_wrongNow hs hk0 ml_X9_246 rfl ⟨Nat.le_of_ble_eq_true rfl, Nat.le_of_ble_eq_true rfl⟩ ⟨Nat.le_refl 0, Nat.le_refl 0⟩ (Nat.le_of_ble_eq_true rfl) dX9_tablature_1 rfl (fun r2 s1 => ?_)
  refine T_if_eq (pc := 4) (tgt := 10) h dX9_tablature_4 (by decide) ?_ ?_
  · refine T_aload_n (pc := 10) h dX9_tablature_10 rfl 0 rfl ?_
    refine T_iconst (pc := 11) h dX9_tablature_11 ki_0 ?_
    refine T_putI (pc := 12) h hs hk0 fl_X9_283 rfl rfl dX9_tablature_12 ?_
    refine T_letS fun s3 => ?_
    refine T_iconst (pc := 15) h dX9_tablature_15 ki_0 ?_
    refine T_istore_n (lv' := [(1, .int (0 : Int32)), (0, .ref x0)]) (pc := 16) h dX9_tablature_16 rfl (by decide) rfl ?_
    refine T_sub [1, 0] rfl ?_
    exact T_fx (B := f_X9_tablature_L17 x0) (fl := fun u => [(0, .ref x0), (1, .int (u.1))]) (f := fun u => (u.2)) (fun rec17 hr17 u => t_X9_tablature_L17 h hs x0 hk0 rec17 hr17 u) FU ((0 : Int32), s3)
  · refine T_bipush (pc := 7) h dX9_tablature_7 kb_m3 ?_
    exact T_ireturn (pc := 9) h (Nat.zero_le _) (Nat.zero_le _) dX9_tablature_9
theorem M_X9_tablature (l : Launch) {iv : Sg → Prop} (hi : iv = St) (x0 : Nat) (σ : Sg) (hk0 : kd x0 9) : CTi l yX9_tablature cX9_tablature 5 (some .int) rm_X9_tablature iv [.ref x0] σ (f_X9_tablature x0 σ) := by
  subst hi
  exact CT_of (by decide) (Nat.le_of_ble_eq_true rfl) (fun K _ h _ hs _ _ => t_X9_tablature h hs x0 σ hk0)
/-! LuteTabsModel.text(I)I -/
theorem dX9_text_0 : decode cX9_text 0 = .ok (.iload_n 1, 1) := by decide +kernel
theorem dX9_text_1 : decode cX9_text 1 = .ok (.iconst (-1), 1) := by decide +kernel
theorem dX9_text_2 : decode cX9_text 2 = .ok (.if_icmp .ge 6, 3) := by decide +kernel
theorem dX9_text_5 : decode cX9_text 5 = .ok (.bipush (-2), 2) := by decide +kernel
theorem dX9_text_7 : decode cX9_text 7 = .ok (.ireturn, 1) := by decide +kernel
theorem dX9_text_8 : decode cX9_text 8 = .ok (.aload_n 0, 1) := by decide +kernel
theorem dX9_text_9 : decode cX9_text 9 = .ok (.invokevirtual 292, 3) := by decide +kernel
theorem dX9_text_12 : decode cX9_text 12 = .ok (.istore_n 2, 1) := by decide +kernel
theorem dX9_text_13 : decode cX9_text 13 = .ok (.iload_n 2, 1) := by decide +kernel
theorem dX9_text_14 : decode cX9_text 14 = .ok (.bipush (-3), 2) := by decide +kernel
theorem dX9_text_16 : decode cX9_text 16 = .ok (.if_icmp .eq 8, 3) := by decide +kernel
theorem dX9_text_19 : decode cX9_text 19 = .ok (.iload_n 1, 1) := by decide +kernel
theorem dX9_text_20 : decode cX9_text 20 = .ok (.iconst (-1), 1) := by decide +kernel
theorem dX9_text_21 : decode cX9_text 21 = .ok (.if_icmp .ne 7, 3) := by decide +kernel
theorem dX9_text_24 : decode cX9_text 24 = .ok (.iload_n 2, 1) := by decide +kernel
theorem dX9_text_25 : decode cX9_text 25 = .ok (.goto 19, 3) := by decide +kernel
theorem dX9_text_28 : decode cX9_text 28 = .ok (.iload_n 1, 1) := by decide +kernel
theorem dX9_text_29 : decode cX9_text 29 = .ok (.iload_n 2, 1) := by decide +kernel
theorem dX9_text_30 : decode cX9_text 30 = .ok (.if_icmp .ge 12, 3) := by decide +kernel
theorem dX9_text_33 : decode cX9_text 33 = .ok (.aload_n 0, 1) := by decide +kernel
theorem dX9_text_34 : decode cX9_text 34 = .ok (.getfield 90, 3) := by decide +kernel
theorem dX9_text_37 : decode cX9_text 37 = .ok (.iload_n 1, 1) := by decide +kernel
theorem dX9_text_38 : decode cX9_text 38 = .ok (.iaload, 1) := by decide +kernel
theorem dX9_text_39 : decode cX9_text 39 = .ok (.goto 5, 3) := by decide +kernel
theorem dX9_text_42 : decode cX9_text 42 = .ok (.bipush (-2), 2) := by decide +kernel
theorem dX9_text_44 : decode cX9_text 44 = .ok (.ireturn, 1) := by decide +kernel
abbrev rm_X9_text : Room := { frames := 5, cells := 0, slots := 0, locals := 118 }
def f_X9_text_L44   (y0 : Int32) (σ : Sg) : Option (Int32 × Sg) := some (y0, σ)
def f_X9_text_L24  (x2 : Int32)  (σ : Sg) : Option (Int32 × Sg) := f_X9_text_L44 x2 σ
def f_X9_text (x0 : Nat) (x1 : Int32) (σ : Sg) : Option (Int32 × Sg) := (if (-1 : Int32) ≤ x1 then bd (f_X9_tablature x0 σ) fun r2 s1 => (if r2 = (-3 : Int32) then f_X9_text_L24 r2 s1 else (if x1 = (-1 : Int32) then f_X9_text_L24 r2 s1 else (if r2 ≤ x1 then f_X9_text_L44 (-2 : Int32) s1 else ck (inb x1 (aL (gR s1 x0 36))) (f_X9_text_L44 (gI s1 (gR s1 x0 36) x1.toNatClampNeg) s1)))) else some ((-2 : Int32), σ))
theorem t_X9_text_L44 {K : Cx} (h : Ok K cX9_text RX9 3 rm_X9_text (some .int)) (hs : kiv K = St)  (y0 : Int32) (σ : Sg)    : T K (QI K) 44 [] [.int y0] 0 0 σ (f_X9_text_L44 y0 σ) := by
  unfold f_X9_text_L44
  exact T_ireturn (pc := 44) h (Nat.zero_le _) (Nat.zero_le _) dX9_text_44
theorem t_X9_text_L24 {K : Cx} (h : Ok K cX9_text RX9 3 rm_X9_text (some .int)) (hs : kiv K = St) (x2 : Int32)  (σ : Sg)    : T K (QI K) 24 [(2, .int x2)] [] 0 0 σ (f_X9_text_L24 x2 σ) := by
  unfold f_X9_text_L24
  refine T_iload_n (pc := 24) h dX9_text_24 rfl 0 rfl ?_
  refine T_goto (pc := 25) (tgt := 44) h dX9_text_25 (by decide) ?_
  refine T_sub [] rfl ?_
  exact t_X9_text_L44 h hs x2 σ
theorem t_X9_text {K : Cx} (h : Ok K cX9_text RX9 3 rm_X9_text (some .int)) (hs : kiv K = St) (x0 : Nat) (x1 : Int32) (σ : Sg) (hk0 : kd x0 9) : T K (QI K) 0 [(0, .ref x0), (1, .int x1)] [] 0 0 σ (f_X9_text x0 x1 σ) := by
  unfold f_X9_text
  refine T_iload_n (pc := 0) h dX9_text_0 rfl 1 rfl ?_
  refine T_iconst (pc := 1) h dX9_text_1 ki_m1 ?_
  refine T_icmp_ge (pc := 2) (tgt := 8) h dX9_text_2 (by decide) ?_ ?_
  · refine T_aload_n (pc := 8) h dX9_text_8 rfl 0 rfl ?_
    refine T_callVi (pc := 9) h (M_X9_tablature (kl K) hs x0 σ hk0) mv_X9_tablature hs hk0 ml_X9_292 rfl ⟨Nat.le_of_ble_eq_true rfl, Nat.le_of_ble_eq_true rfl⟩ ⟨Nat.le_refl 0, Nat.le_refl 0⟩ (Nat.le_of_ble_eq_true rfl) dX9_text_9 rfl (fun r2 s1 => ?_)
    refine T_istore_n (lv' := [(2, .int r2), (0, .ref x0), (1, .int x1)]) (pc := 12) h dX9_text_12 rfl (by decide) rfl ?_
    refine T_iload_n (pc := 13) h dX9_text_13 rfl 0 rfl ?_
    refine T_bipush (pc := 14) h dX9_text_14 kb_m3 ?_
    refine T_icmp_eq (pc := 16) (tgt := 24) h dX9_text_16 (by decide) ?_ ?_
    · refine T_sub [0] rfl ?_
      exact t_X9_text_L24 h hs r2 s1
    · refine T_iload_n (pc := 19) h dX9_text_19 rfl 2 rfl ?_
      refine T_iconst (pc := 20) h dX9_text_20 ki_m1 ?_
      refine T_icmp_ne (pc := 21) (tgt := 28) h dX9_text_21 (by decide) ?_ ?_
      · refine T_iload_n (pc := 28) h dX9_text_28 rfl 2 rfl ?_
        refine T_iload_n (pc := 29) h dX9_text_29 rfl 0 rfl ?_
        refine T_icmp_ge (pc := 30) (tgt := 42) h dX9_text_30 (by decide) ?_ ?_
        · refine T_bipush (pc := 42) h dX9_text_42 kb_m2 ?_
          refine T_sub [] rfl ?_
          exact t_X9_text_L44 h hs (-2 : Int32) s1
        · refine T_aload_n (pc := 33) h dX9_text_33 rfl 1 rfl ?_
          refine T_gR (pc := 34) h hs hk0 fl_X9_90 rfl fk_9_36 dX9_text_34 (fun hq3 => ?_)
          refine T_iload_n (pc := 37) h dX9_text_37 rfl 2 rfl ?_
          refine T_iald (pc := 38) h hs hq3 dX9_text_38 ?_
          refine T_goto (pc := 39) (tgt := 44) h dX9_text_39 (by decide) ?_
          refine T_sub [] rfl ?_
          exact t_X9_text_L44 h hs (gI s1 (gR s1 x0 36) x1.toNatClampNeg) s1
      · refine T_sub [0] rfl ?_
        exact t_X9_text_L24 h hs r2 s1
  · refine T_bipush (pc := 5) h dX9_text_5 kb_m2 ?_
    exact T_ireturn (pc := 7) h (Nat.zero_le _) (Nat.zero_le _) dX9_text_7
theorem M_X9_text (l : Launch) {iv : Sg → Prop} (hi : iv = St) (x0 : Nat) (x1 : Int32) (σ : Sg) (hk0 : kd x0 9) : CTi l yX9_text cX9_text 3 (some .int) rm_X9_text iv [.ref x0, .int x1] σ (f_X9_text x0 x1 σ) := by
  subst hi
  exact CT_of (by decide) (Nat.le_of_ble_eq_true rfl) (fun K _ h _ hs _ _ => t_X9_text h hs x0 x1 σ hk0)
/-! LuteTabsModel.type(I)I -/
theorem dX9_type_0 : decode cX9_type 0 = .ok (.iload_n 1, 1) := by decide +kernel
theorem dX9_type_1 : decode cX9_type 1 = .ok (.iconst 0, 1) := by decide +kernel
theorem dX9_type_2 : decode cX9_type 2 = .ok (.sipush 255, 3) := by decide +kernel
theorem dX9_type_5 : decode cX9_type 5 = .ok (.invokestatic 115, 3) := by decide +kernel
theorem dX9_type_8 : decode cX9_type 8 = .ok (.ifCond .ne 6, 3) := by decide +kernel
theorem dX9_type_11 : decode cX9_type 11 = .ok (.bipush (-2), 2) := by decide +kernel
theorem dX9_type_13 : decode cX9_type 13 = .ok (.ireturn, 1) := by decide +kernel
theorem dX9_type_14 : decode cX9_type 14 = .ok (.aload_n 0, 1) := by decide +kernel
theorem dX9_type_15 : decode cX9_type 15 = .ok (.getfield 295, 3) := by decide +kernel
theorem dX9_type_18 : decode cX9_type 18 = .ok (.bipush 80, 2) := by decide +kernel
theorem dX9_type_20 : decode cX9_type 20 = .ok (.if_icmp .ne 6, 3) := by decide +kernel
theorem dX9_type_23 : decode cX9_type 23 = .ok (.bipush (-4), 2) := by decide +kernel
theorem dX9_type_25 : decode cX9_type 25 = .ok (.ireturn, 1) := by decide +kernel
theorem dX9_type_26 : decode cX9_type 26 = .ok (.aload_n 0, 1) := by decide +kernel
theorem dX9_type_27 : decode cX9_type 27 = .ok (.getfield 93, 3) := by decide +kernel
theorem dX9_type_30 : decode cX9_type 30 = .ok (.aload_n 0, 1) := by decide +kernel
theorem dX9_type_31 : decode cX9_type 31 = .ok (.getfield 295, 3) := by decide +kernel
theorem dX9_type_34 : decode cX9_type 34 = .ok (.iload_n 1, 1) := by decide +kernel
theorem dX9_type_35 : decode cX9_type 35 = .ok (.iastore, 1) := by decide +kernel
theorem dX9_type_36 : decode cX9_type 36 = .ok (.aload_n 0, 1) := by decide +kernel
theorem dX9_type_37 : decode cX9_type 37 = .ok (.dup, 1) := by decide +kernel
theorem dX9_type_38 : decode cX9_type 38 = .ok (.getfield 295, 3) := by decide +kernel
theorem dX9_type_41 : decode cX9_type 41 = .ok (.iconst 1, 1) := by decide +kernel
theorem dX9_type_42 : decode cX9_type 42 = .ok (.iadd, 1) := by decide +kernel
theorem dX9_type_43 : decode cX9_type 43 = .ok (.putfield 295, 3) := by decide +kernel
theorem dX9_type_46 : decode cX9_type 46 = .ok (.aload_n 0, 1) := by decide +kernel
theorem dX9_type_47 : decode cX9_type 47 = .ok (.getfield 295, 3) := by decide +kernel
theorem dX9_type_50 : decode cX9_type 50 = .ok (.ireturn, 1) := by decide +kernel
abbrev rm_X9_type : Room := { frames := 1, cells := 0, slots := 0, locals := 22 }
def f_X9_type (x0 : Nat) (x1 : Int32) (σ : Sg) : Option (Int32 × Sg) := bd (f_X9_in x1 (0 : Int32) (255 : Int32) σ) fun r2 s1 => (if r2 = 0 then some ((-2 : Int32), s1) else (if (gI s1 x0 39) = (80 : Int32) then some ((-4 : Int32), s1) else ck (inb (gI s1 x0 39) (aL (gR s1 x0 38))) (lB (pI s1 (gR s1 x0 38) (gI s1 x0 39).toNatClampNeg x1) fun s4 => lB (pI s4 x0 39 ((gI s4 x0 39) + (1 : Int32))) fun s5 => some ((gI s5 x0 39), s5))))
theorem t_X9_type {K : Cx} (h : Ok K cX9_type RX9 2 rm_X9_type (some .int)) (hs : kiv K = St) (x0 : Nat) (x1 : Int32) (σ : Sg) (hk0 : kd x0 9) : T K (QI K) 0 [(0, .ref x0), (1, .int x1)] [] 0 0 σ (f_X9_type x0 x1 σ) := by
  unfold f_X9_type
  refine T_iload_n (pc := 0) h dX9_type_0 rfl 1 rfl ?_
  refine T_iconst (pc := 1) h dX9_type_1 ki_0 ?_
  refine T_sipush (pc := 2) h dX9_type_2 ks_255 ?_
  refine T_callSi (pc := 5) h (M_X9_in (kl K) hs x1 (0 : Int32) (255 : Int32) σ ) mst_X9_in ml_X9_115 rfl ⟨Nat.le_of_ble_eq_true rfl, Nat.le_of_ble_eq_true rfl⟩ ⟨Nat.le_refl 0, Nat.le_refl 0⟩ (Nat.le_of_ble_eq_true rfl) dX9_type_5 rfl (fun r2 s1 => ?_)
  refine T_if_ne (pc := 8) (tgt := 14) h dX9_type_8 (by decide) ?_ ?_
  · refine T_aload_n (pc := 14) h dX9_type_14 rfl 0 rfl ?_
    refine T_getI (pc := 15) h hs hk0 fl_X9_295 rfl dX9_type_15 ?_
    refine T_bipush (pc := 18) h dX9_type_18 kb_80 ?_
    refine T_icmp_ne (pc := 20) (tgt := 26) h dX9_type_20 (by decide) ?_ ?_
    · refine T_aload_n (pc := 26) h dX9_type_26 rfl 0 rfl ?_
      refine T_gR (pc := 27) h hs hk0 fl_X9_93 rfl fk_9_38 dX9_type_27 (fun hq3 => ?_)
      refine T_aload_n (pc := 30) h dX9_type_30 rfl 0 rfl ?_
      refine T_getI (pc := 31) h hs hk0 fl_X9_295 rfl dX9_type_31 ?_
      refine T_iload_n (pc := 34) h dX9_type_34 rfl 1 rfl ?_
      refine T_iast (pc := 35) h hs hq3 dX9_type_35 ?_
      refine T_letS fun s4 => ?_
      refine T_aload_n (pc := 36) h dX9_type_36 rfl 0 rfl ?_
      refine T_dup (pc := 37) h dX9_type_37 rfl ?_
      refine T_getI (pc := 38) h hs hk0 fl_X9_295 rfl dX9_type_38 ?_
      refine T_iconst (pc := 41) h dX9_type_41 ki_1 ?_
      refine T_iadd (pc := 42) h dX9_type_42 ?_
      refine T_putI (pc := 43) h hs hk0 fl_X9_295 rfl rfl dX9_type_43 ?_
      refine T_letS fun s5 => ?_
      refine T_aload_n (pc := 46) h dX9_type_46 rfl 0 rfl ?_
      refine T_getI (pc := 47) h hs hk0 fl_X9_295 rfl dX9_type_47 ?_
      exact T_ireturn (pc := 50) h (Nat.zero_le _) (Nat.zero_le _) dX9_type_50
    · refine T_bipush (pc := 23) h dX9_type_23 kb_m4 ?_
      exact T_ireturn (pc := 25) h (Nat.zero_le _) (Nat.zero_le _) dX9_type_25
  · refine T_bipush (pc := 11) h dX9_type_11 kb_m2 ?_
    exact T_ireturn (pc := 13) h (Nat.zero_le _) (Nat.zero_le _) dX9_type_13
theorem M_X9_type (l : Launch) {iv : Sg → Prop} (hi : iv = St) (x0 : Nat) (x1 : Int32) (σ : Sg) (hk0 : kd x0 9) : CTi l yX9_type cX9_type 2 (some .int) rm_X9_type iv [.ref x0, .int x1] σ (f_X9_type x0 x1 σ) := by
  subst hi
  exact CT_of (by decide) (Nat.le_of_ble_eq_true rfl) (fun K _ h _ hs _ _ => t_X9_type h hs x0 x1 σ hk0)
/-! LuteTabsModel.wipe()I -/
theorem dX9_wipe_0 : decode cX9_wipe 0 = .ok (.aload_n 0, 1) := by decide +kernel
theorem dX9_wipe_1 : decode cX9_wipe 1 = .ok (.getfield 295, 3) := by decide +kernel
theorem dX9_wipe_4 : decode cX9_wipe 4 = .ok (.istore_n 1, 1) := by decide +kernel
theorem dX9_wipe_5 : decode cX9_wipe 5 = .ok (.aload_n 0, 1) := by decide +kernel
theorem dX9_wipe_6 : decode cX9_wipe 6 = .ok (.iconst 0, 1) := by decide +kernel
theorem dX9_wipe_7 : decode cX9_wipe 7 = .ok (.putfield 295, 3) := by decide +kernel
theorem dX9_wipe_10 : decode cX9_wipe 10 = .ok (.iload_n 1, 1) := by decide +kernel
theorem dX9_wipe_11 : decode cX9_wipe 11 = .ok (.ireturn, 1) := by decide +kernel
abbrev rm_X9_wipe : Room := { frames := 0, cells := 0, slots := 0, locals := 0 }
def f_X9_wipe (x0 : Nat) (σ : Sg) : Option (Int32 × Sg) := lB ((gI σ x0 39)) fun v1 => lB (pI σ x0 39 (0 : Int32)) fun s2 => some (v1, s2)
theorem t_X9_wipe {K : Cx} (h : Ok K cX9_wipe RX9 2 rm_X9_wipe (some .int)) (hs : kiv K = St) (x0 : Nat) (σ : Sg) (hk0 : kd x0 9) : T K (QI K) 0 [(0, .ref x0)] [] 0 0 σ (f_X9_wipe x0 σ) := by
  unfold f_X9_wipe
  refine T_aload_n (pc := 0) h dX9_wipe_0 rfl 0 rfl ?_
  refine T_getI (pc := 1) h hs hk0 fl_X9_295 rfl dX9_wipe_1 ?_
  refine T_letI fun v1 => ?_
  refine T_istore_n (lv' := [(1, .int v1), (0, .ref x0)]) (pc := 4) h dX9_wipe_4 rfl (by decide) rfl ?_
  refine T_aload_n (pc := 5) h dX9_wipe_5 rfl 1 rfl ?_
  refine T_iconst (pc := 6) h dX9_wipe_6 ki_0 ?_
  refine T_putI (pc := 7) h hs hk0 fl_X9_295 rfl rfl dX9_wipe_7 ?_
  refine T_letS fun s2 => ?_
  refine T_iload_n (pc := 10) h dX9_wipe_10 rfl 0 rfl ?_
  exact T_ireturn (pc := 11) h (Nat.zero_le _) (Nat.zero_le _) dX9_wipe_11
theorem M_X9_wipe (l : Launch) {iv : Sg → Prop} (hi : iv = St) (x0 : Nat) (σ : Sg) (hk0 : kd x0 9) : CTi l yX9_wipe cX9_wipe 2 (some .int) rm_X9_wipe iv [.ref x0] σ (f_X9_wipe x0 σ) := by
  subst hi
  exact CT_of (by decide) (Nat.le_of_ble_eq_true rfl) (fun K _ h _ hs _ _ => t_X9_wipe h hs x0 σ hk0)
/-! LuteTabsModel.mayBegin(I)Z -/
theorem dX9_mayBegin_0 : decode cX9_mayBegin 0 = .ok (.iload_n 1, 1) := by decide +kernel
theorem dX9_mayBegin_1 : decode cX9_mayBegin 1 = .ok (.aload_n 0, 1) := by decide +kernel
theorem dX9_mayBegin_2 : decode cX9_mayBegin 2 = .ok (.getfield 298, 3) := by decide +kernel
theorem dX9_mayBegin_5 : decode cX9_mayBegin 5 = .ok (.if_icmp .le 14, 3) := by decide +kernel
theorem dX9_mayBegin_8 : decode cX9_mayBegin 8 = .ok (.iload_n 1, 1) := by decide +kernel
theorem dX9_mayBegin_9 : decode cX9_mayBegin 9 = .ok (.sipush 199, 3) := by decide +kernel
theorem dX9_mayBegin_12 : decode cX9_mayBegin 12 = .ok (.if_icmp .gt 7, 3) := by decide +kernel
theorem dX9_mayBegin_15 : decode cX9_mayBegin 15 = .ok (.iconst 1, 1) := by decide +kernel
theorem dX9_mayBegin_16 : decode cX9_mayBegin 16 = .ok (.goto 4, 3) := by decide +kernel
theorem dX9_mayBegin_19 : decode cX9_mayBegin 19 = .ok (.iconst 0, 1) := by decide +kernel
theorem dX9_mayBegin_20 : decode cX9_mayBegin 20 = .ok (.istore_n 2, 1) := by decide +kernel
theorem dX9_mayBegin_21 : decode cX9_mayBegin 21 = .ok (.iconst 0, 1) := by decide +kernel
theorem dX9_mayBegin_22 : decode cX9_mayBegin 22 = .ok (.istore_n 3, 1) := by decide +kernel
theorem dX9_mayBegin_23 : decode cX9_mayBegin 23 = .ok (.iload_n 3, 1) := by decide +kernel
theorem dX9_mayBegin_24 : decode cX9_mayBegin 24 = .ok (.bipush 100, 2) := by decide +kernel
theorem dX9_mayBegin_26 : decode cX9_mayBegin 26 = .ok (.if_icmp .ge 76, 3) := by decide +kernel
theorem dX9_mayBegin_29 : decode cX9_mayBegin 29 = .ok (.iload_n 1, 1) := by decide +kernel
theorem dX9_mayBegin_30 : decode cX9_mayBegin 30 = .ok (.ifCond .le 72, 3) := by decide +kernel
theorem dX9_mayBegin_33 : decode cX9_mayBegin 33 = .ok (.bipush 10, 2) := by decide +kernel
theorem dX9_mayBegin_35 : decode cX9_mayBegin 35 = .ok (.iload_n 1, 1) := by decide +kernel
theorem dX9_mayBegin_36 : decode cX9_mayBegin 36 = .ok (.imul, 1) := by decide +kernel
theorem dX9_mayBegin_37 : decode cX9_mayBegin 37 = .ok (.iload_n 3, 1) := by decide +kernel
theorem dX9_mayBegin_38 : decode cX9_mayBegin 38 = .ok (.bipush 10, 2) := by decide +kernel
theorem dX9_mayBegin_40 : decode cX9_mayBegin 40 = .ok (.irem, 1) := by decide +kernel
theorem dX9_mayBegin_41 : decode cX9_mayBegin 41 = .ok (.iadd, 1) := by decide +kernel
theorem dX9_mayBegin_42 : decode cX9_mayBegin 42 = .ok (.istore 4, 2) := by decide +kernel
theorem dX9_mayBegin_44 : decode cX9_mayBegin 44 = .ok (.bipush 100, 2) := by decide +kernel
theorem dX9_mayBegin_46 : decode cX9_mayBegin 46 = .ok (.iload_n 1, 1) := by decide +kernel
theorem dX9_mayBegin_47 : decode cX9_mayBegin 47 = .ok (.imul, 1) := by decide +kernel
theorem dX9_mayBegin_48 : decode cX9_mayBegin 48 = .ok (.iload_n 3, 1) := by decide +kernel
theorem dX9_mayBegin_49 : decode cX9_mayBegin 49 = .ok (.iadd, 1) := by decide +kernel
theorem dX9_mayBegin_50 : decode cX9_mayBegin 50 = .ok (.istore 5, 2) := by decide +kernel
theorem dX9_mayBegin_52 : decode cX9_mayBegin 52 = .ok (.iload_n 2, 1) := by decide +kernel
theorem dX9_mayBegin_53 : decode cX9_mayBegin 53 = .ok (.ifCond .ne 37, 3) := by decide +kernel
theorem dX9_mayBegin_56 : decode cX9_mayBegin 56 = .ok (.iload 4, 2) := by decide +kernel
theorem dX9_mayBegin_58 : decode cX9_mayBegin 58 = .ok (.aload_n 0, 1) := by decide +kernel
theorem dX9_mayBegin_59 : decode cX9_mayBegin 59 = .ok (.getfield 298, 3) := by decide +kernel
theorem dX9_mayBegin_62 : decode cX9_mayBegin 62 = .ok (.if_icmp .le 11, 3) := by decide +kernel
theorem dX9_mayBegin_65 : decode cX9_mayBegin 65 = .ok (.iload 4, 2) := by decide +kernel
theorem dX9_mayBegin_67 : decode cX9_mayBegin 67 = .ok (.sipush 199, 3) := by decide +kernel
theorem dX9_mayBegin_70 : decode cX9_mayBegin 70 = .ok (.if_icmp .le 20, 3) := by decide +kernel
theorem dX9_mayBegin_73 : decode cX9_mayBegin 73 = .ok (.iload 5, 2) := by decide +kernel
theorem dX9_mayBegin_75 : decode cX9_mayBegin 75 = .ok (.aload_n 0, 1) := by decide +kernel
theorem dX9_mayBegin_76 : decode cX9_mayBegin 76 = .ok (.getfield 298, 3) := by decide +kernel
theorem dX9_mayBegin_79 : decode cX9_mayBegin 79 = .ok (.if_icmp .le 15, 3) := by decide +kernel
theorem dX9_mayBegin_82 : decode cX9_mayBegin 82 = .ok (.iload 5, 2) := by decide +kernel
theorem dX9_mayBegin_84 : decode cX9_mayBegin 84 = .ok (.sipush 199, 3) := by decide +kernel
theorem dX9_mayBegin_87 : decode cX9_mayBegin 87 = .ok (.if_icmp .gt 7, 3) := by decide +kernel
theorem dX9_mayBegin_90 : decode cX9_mayBegin 90 = .ok (.iconst 1, 1) := by decide +kernel
theorem dX9_mayBegin_91 : decode cX9_mayBegin 91 = .ok (.goto 4, 3) := by decide +kernel
theorem dX9_mayBegin_94 : decode cX9_mayBegin 94 = .ok (.iconst 0, 1) := by decide +kernel
theorem dX9_mayBegin_95 : decode cX9_mayBegin 95 = .ok (.istore_n 2, 1) := by decide +kernel
theorem dX9_mayBegin_96 : decode cX9_mayBegin 96 = .ok (.iinc 3 1, 3) := by decide +kernel
theorem dX9_mayBegin_99 : decode cX9_mayBegin 99 = .ok (.goto (-76), 3) := by decide +kernel
theorem dX9_mayBegin_102 : decode cX9_mayBegin 102 = .ok (.iload_n 2, 1) := by decide +kernel
theorem dX9_mayBegin_103 : decode cX9_mayBegin 103 = .ok (.ireturn, 1) := by decide +kernel
abbrev rm_X9_mayBegin : Room := { frames := 0, cells := 0, slots := 0, locals := 0 }
def f_X9_mayBegin_L95 (rec23 : Int32 × Int32 → Option (Int32 × Sg)) (x0 : Nat) (x1 : Int32) (x3 : Int32) (y0 : Int32) (σ : Sg) : Option (Int32 × Sg) := lB (x3 + (1 : Int32)) fun v1 => rec23 (y0, v1)
def f_X9_mayBegin_L90 (rec23 : Int32 × Int32 → Option (Int32 × Sg)) (x0 : Nat) (x1 : Int32) (x3 : Int32)  (σ : Sg) : Option (Int32 × Sg) := f_X9_mayBegin_L95 rec23 x0 x1 x3 (1 : Int32) σ
def f_X9_mayBegin_L94 (rec23 : Int32 × Int32 → Option (Int32 × Sg)) (x0 : Nat) (x1 : Int32) (x3 : Int32)  (σ : Sg) : Option (Int32 × Sg) := f_X9_mayBegin_L95 rec23 x0 x1 x3 (0 : Int32) σ
def f_X9_mayBegin_L73 (rec23 : Int32 × Int32 → Option (Int32 × Sg)) (x0 : Nat) (x1 : Int32) (x3 : Int32) (x5 : Int32)  (σ : Sg) : Option (Int32 × Sg) := (if x5 ≤ (gI σ x0 40) then f_X9_mayBegin_L94 rec23 x0 x1 x3 σ else (if (199 : Int32) < x5 then f_X9_mayBegin_L94 rec23 x0 x1 x3 σ else f_X9_mayBegin_L90 rec23 x0 x1 x3 σ))
def f_X9_mayBegin_L102  (x2 : Int32)  (σ : Sg) : Option (Int32 × Sg) := ck (b01 x2) (some (x2, σ))
def f_X9_mayBegin_L23  (x0 : Nat) (x1 : Int32) (σ : Sg) (rec23 : Int32 × Int32 → Option (Int32 × Sg)) (s : Int32 × Int32) : Option (Int32 × Sg) := (if (100 : Int32) ≤ (s.2) then f_X9_mayBegin_L102 (s.1) σ else (if x1 ≤ 0 then f_X9_mayBegin_L102 (s.1) σ else ck (decide (¬ (10 : Int32) = 0)) (lB ((((10 : Int32) * x1) + ((s.2) - (s.2) / (10 : Int32) * (10 : Int32)))) fun v1 => lB ((((100 : Int32) * x1) + (s.2))) fun v2 => (if (s.1) = 0 then (if v1 ≤ (gI σ x0 40) then f_X9_mayBegin_L73 rec23 x0 x1 (s.2) v2 σ else (if v1 ≤ (199 : Int32) then f_X9_mayBegin_L90 rec23 x0 x1 (s.2) σ else f_X9_mayBegin_L73 rec23 x0 x1 (s.2) v2 σ)) else f_X9_mayBegin_L90 rec23 x0 x1 (s.2) σ))))
def f_X9_mayBegin_L20  (x0 : Nat) (x1 : Int32) (y0 : Int32) (σ : Sg) : Option (Int32 × Sg) := fx (f_X9_mayBegin_L23 x0 x1 σ) FU (y0, (0 : Int32))
def f_X9_mayBegin_L19  (x0 : Nat) (x1 : Int32)  (σ : Sg) : Option (Int32 × Sg) := f_X9_mayBegin_L20 x0 x1 (0 : Int32) σ
def f_X9_mayBegin (x0 : Nat) (x1 : Int32) (σ : Sg) : Option (Int32 × Sg) := (if x1 ≤ (gI σ x0 40) then f_X9_mayBegin_L19 x0 x1 σ else (if (199 : Int32) < x1 then f_X9_mayBegin_L19 x0 x1 σ else f_X9_mayBegin_L20 x0 x1 (1 : Int32) σ))
theorem t_X9_mayBegin_L95 {K : Cx} (h : Ok K cX9_mayBegin RX9 6 rm_X9_mayBegin (some .boolean)) (hs : kiv K = St) (x0 : Nat) (x1 : Int32) (x3 : Int32) (y0 : Int32) (σ : Sg) (rec23 : Int32 × Int32 → Option (Int32 × Sg)) (hr23 : ∀ u, T K (QI K) 23 [(0, .ref x0), (1, .int x1), (2, .int (u.1)), (3, .int (u.2))] [] 0 0 σ (rec23 u)) (hk0 : kd x0 9)  : T K (QI K) 95 [(0, .ref x0), (1, .int x1), (3, .int x3)] [.int y0] 0 0 σ (f_X9_mayBegin_L95 rec23 x0 x1 x3 y0 σ) := by
  unfold f_X9_mayBegin_L95
  refine T_istore_n (lv' := [(2, .int y0), (0, .ref x0), (1, .int x1), (3, .int x3)]) (pc := 95) h dX9_mayBegin_95 rfl (by decide) rfl ?_
  refine T_iinc (fl := fun v1 => [(3, .int v1), (2, .int y0), (0, .ref x0), (1, .int x1)]) (pc := 96) h dX9_mayBegin_96 3 rfl ki_1 (by decide) (fun _ => rfl) (fun v1 => ?_)
  refine T_goto (pc := 99) (tgt := 23) h dX9_mayBegin_99 (by decide) ?_
  refine T_sub [2, 3, 1, 0] rfl ?_
  exact hr23 (y0, v1)
theorem t_X9_mayBegin_L90 {K : Cx} (h : Ok K cX9_mayBegin RX9 6 rm_X9_mayBegin (some .boolean)) (hs : kiv K = St) (x0 : Nat) (x1 : Int32) (x3 : Int32)  (σ : Sg) (rec23 : Int32 × Int32 → Option (Int32 × Sg)) (hr23 : ∀ u, T K (QI K) 23 [(0, .ref x0), (1, .int x1), (2, .int (u.1)), (3, .int (u.2))] [] 0 0 σ (rec23 u)) (hk0 : kd x0 9)  : T K (QI K) 90 [(0, .ref x0), (1, .int x1), (3, .int x3)] [] 0 0 σ (f_X9_mayBegin_L90 rec23 x0 x1 x3 σ) := by
  unfold f_X9_mayBegin_L90
  refine T_iconst (pc := 90) h dX9_mayBegin_90 ki_1 ?_
  refine T_goto (pc := 91) (tgt := 95) h dX9_mayBegin_91 (by decide) ?_
  refine T_sub [0, 1, 2] rfl ?_
  exact t_X9_mayBegin_L95 h hs x0 x1 x3 (1 : Int32) σ rec23 hr23 hk0
theorem t_X9_mayBegin_L94 {K : Cx} (h : Ok K cX9_mayBegin RX9 6 rm_X9_mayBegin (some .boolean)) (hs : kiv K = St) (x0 : Nat) (x1 : Int32) (x3 : Int32)  (σ : Sg) (rec23 : Int32 × Int32 → Option (Int32 × Sg)) (hr23 : ∀ u, T K (QI K) 23 [(0, .ref x0), (1, .int x1), (2, .int (u.1)), (3, .int (u.2))] [] 0 0 σ (rec23 u)) (hk0 : kd x0 9)  : T K (QI K) 94 [(0, .ref x0), (1, .int x1), (3, .int x3)] [] 0 0 σ (f_X9_mayBegin_L94 rec23 x0 x1 x3 σ) := by
  unfold f_X9_mayBegin_L94
  refine T_iconst (pc := 94) h dX9_mayBegin_94 ki_0 ?_
  refine T_sub [0, 1, 2] rfl ?_
  exact t_X9_mayBegin_L95 h hs x0 x1 x3 (0 : Int32) σ rec23 hr23 hk0
theorem t_X9_mayBegin_L73 {K : Cx} (h : Ok K cX9_mayBegin RX9 6 rm_X9_mayBegin (some .boolean)) (hs : kiv K = St) (x0 : Nat) (x1 : Int32) (x3 : Int32) (x5 : Int32)  (σ : Sg) (rec23 : Int32 × Int32 → Option (Int32 × Sg)) (hr23 : ∀ u, T K (QI K) 23 [(0, .ref x0), (1, .int x1), (2, .int (u.1)), (3, .int (u.2))] [] 0 0 σ (rec23 u)) (hk0 : kd x0 9)  : T K (QI K) 73 [(0, .ref x0), (1, .int x1), (3, .int x3), (5, .int x5)] [] 0 0 σ (f_X9_mayBegin_L73 rec23 x0 x1 x3 x5 σ) := by
  unfold f_X9_mayBegin_L73
  refine T_iload (pc := 73) h dX9_mayBegin_73 3 rfl ?_
  refine T_aload_n (pc := 75) h dX9_mayBegin_75 rfl 0 rfl ?_
  refine T_getI (pc := 76) h hs hk0 fl_X9_298 rfl dX9_mayBegin_76 ?_
  refine T_icmp_le (pc := 79) (tgt := 94) h dX9_mayBegin_79 (by decide) ?_ ?_
  · refine T_sub [0, 1, 2] rfl ?_
    exact t_X9_mayBegin_L94 h hs x0 x1 x3 σ rec23 hr23 hk0
  · refine T_iload (pc := 82) h dX9_mayBegin_82 3 rfl ?_
    refine T_sipush (pc := 84) h dX9_mayBegin_84 ks_199 ?_
    refine T_icmp_gt (pc := 87) (tgt := 94) h dX9_mayBegin_87 (by decide) ?_ ?_
    · refine T_sub [0, 1, 2] rfl ?_
      exact t_X9_mayBegin_L94 h hs x0 x1 x3 σ rec23 hr23 hk0
    · refine T_sub [0, 1, 2] rfl ?_
      exact t_X9_mayBegin_L90 h hs x0 x1 x3 σ rec23 hr23 hk0
theorem t_X9_mayBegin_L102 {K : Cx} (h : Ok K cX9_mayBegin RX9 6 rm_X9_mayBegin (some .boolean)) (hs : kiv K = St) (x2 : Int32)  (σ : Sg)    : T K (QI K) 102 [(2, .int x2)] [] 0 0 σ (f_X9_mayBegin_L102 x2 σ) := by
  unfold f_X9_mayBegin_L102
  refine T_iload_n (pc := 102) h dX9_mayBegin_102 rfl 0 rfl ?_
  exact T_zreturn (pc := 103) h (Nat.zero_le _) (Nat.zero_le _) dX9_mayBegin_103
theorem t_X9_mayBegin_L23 {K : Cx} (h : Ok K cX9_mayBegin RX9 6 rm_X9_mayBegin (some .boolean)) (hs : kiv K = St) (x0 : Nat) (x1 : Int32) (σ : Sg)  (hk0 : kd x0 9) (rec23 : Int32 × Int32 → Option (Int32 × Sg)) (hr23 : ∀ u, T K (QI K) 23 [(0, .ref x0), (1, .int x1), (2, .int (u.1)), (3, .int (u.2))] [] 0 0 σ (rec23 u)) (s : Int32 × Int32) : T K (QI K) 23 [(0, .ref x0), (1, .int x1), (2, .int (s.1)), (3, .int (s.2))] [] 0 0 σ (f_X9_mayBegin_L23 x0 x1 σ rec23 s) := by
  unfold f_X9_mayBegin_L23
  refine T_iload_n (pc := 23) h dX9_mayBegin_23 rfl 3 rfl ?_
  refine T_bipush (pc := 24) h dX9_mayBegin_24 kb_100 ?_
  refine T_icmp_ge (pc := 26) (tgt := 102) h dX9_mayBegin_26 (by decide) ?_ ?_
  · refine T_sub [2] rfl ?_
    exact t_X9_mayBegin_L102 h hs (s.1) σ
  · refine T_iload_n (pc := 29) h dX9_mayBegin_29 rfl 1 rfl ?_
    refine T_if_le (pc := 30) (tgt := 102) h dX9_mayBegin_30 (by decide) ?_ ?_
    · refine T_sub [2] rfl ?_
      exact t_X9_mayBegin_L102 h hs (s.1) σ
    · refine T_bipush (pc := 33) h dX9_mayBegin_33 kb_10 ?_
      refine T_iload_n (pc := 35) h dX9_mayBegin_35 rfl 1 rfl ?_
      refine T_imul (pc := 36) h dX9_mayBegin_36 ?_
      refine T_iload_n (pc := 37) h dX9_mayBegin_37 rfl 3 rfl ?_
      refine T_bipush (pc := 38) h dX9_mayBegin_38 kb_10 ?_
      refine T_irem (pc := 40) h dX9_mayBegin_40 ?_
      refine T_iadd (pc := 41) h dX9_mayBegin_41 ?_
      refine T_letI fun v1 => ?_
      refine T_istore (lv' := [(4, .int v1), (0, .ref x0), (1, .int x1), (2, .int (s.1)), (3, .int (s.2))]) (pc := 42) h dX9_mayBegin_42 (by decide) rfl ?_
      refine T_bipush (pc := 44) h dX9_mayBegin_44 kb_100 ?_
      refine T_iload_n (pc := 46) h dX9_mayBegin_46 rfl 2 rfl ?_
      refine T_imul (pc := 47) h dX9_mayBegin_47 ?_
      refine T_iload_n (pc := 48) h dX9_mayBegin_48 rfl 4 rfl ?_
      refine T_iadd (pc := 49) h dX9_mayBegin_49 ?_
      refine T_letI fun v2 => ?_
      refine T_istore (lv' := [(5, .int v2), (4, .int v1), (0, .ref x0), (1, .int x1), (2, .int (s.1)), (3, .int (s.2))]) (pc := 50) h dX9_mayBegin_50 (by decide) rfl ?_
      refine T_iload_n (pc := 52) h dX9_mayBegin_52 rfl 4 rfl ?_
      refine T_if_ne (pc := 53) (tgt := 90) h dX9_mayBegin_53 (by decide) ?_ ?_
      · refine T_sub [2, 3, 5] rfl ?_
        exact t_X9_mayBegin_L90 h hs x0 x1 (s.2) σ rec23 hr23 hk0
      · refine T_iload (pc := 56) h dX9_mayBegin_56 1 rfl ?_
        refine T_aload_n (pc := 58) h dX9_mayBegin_58 rfl 2 rfl ?_
        refine T_getI (pc := 59) h hs hk0 fl_X9_298 rfl dX9_mayBegin_59 ?_
        refine T_icmp_le (pc := 62) (tgt := 73) h dX9_mayBegin_62 (by decide) ?_ ?_
        · refine T_sub [2, 3, 5, 0] rfl ?_
          exact t_X9_mayBegin_L73 h hs x0 x1 (s.2) v2 σ rec23 hr23 hk0
        · refine T_iload (pc := 65) h dX9_mayBegin_65 1 rfl ?_
          refine T_sipush (pc := 67) h dX9_mayBegin_67 ks_199 ?_
          refine T_icmp_le (pc := 70) (tgt := 90) h dX9_mayBegin_70 (by decide) ?_ ?_
          · refine T_sub [2, 3, 5] rfl ?_
            exact t_X9_mayBegin_L90 h hs x0 x1 (s.2) σ rec23 hr23 hk0
          · refine T_sub [2, 3, 5, 0] rfl ?_
            exact t_X9_mayBegin_L73 h hs x0 x1 (s.2) v2 σ rec23 hr23 hk0
theorem t_X9_mayBegin_L20 {K : Cx} (h : Ok K cX9_mayBegin RX9 6 rm_X9_mayBegin (some .boolean)) (hs : kiv K = St) (x0 : Nat) (x1 : Int32) (y0 : Int32) (σ : Sg)  (hk0 : kd x0 9)  : T K (QI K) 20 [(0, .ref x0), (1, .int x1)] [.int y0] 0 0 σ (f_X9_mayBegin_L20 x0 x1 y0 σ) := by
  unfold f_X9_mayBegin_L20
  refine T_istore_n (lv' := [(2, .int y0), (0, .ref x0), (1, .int x1)]) (pc := 20) h dX9_mayBegin_20 rfl (by decide) rfl ?_
  refine T_iconst (pc := 21) h dX9_mayBegin_21 ki_0 ?_
  refine T_istore_n (lv' := [(3, .int (0 : Int32)), (2, .int y0), (0, .ref x0), (1, .int x1)]) (pc := 22) h dX9_mayBegin_22 rfl (by decide) rfl ?_
  refine T_sub [2, 3, 1, 0] rfl ?_
  exact T_fx (B := f_X9_mayBegin_L23 x0 x1 σ) (fl := fun u => [(0, .ref x0), (1, .int x1), (2, .int (u.1)), (3, .int (u.2))]) (f := fun u => σ) (fun rec23 hr23 u => t_X9_mayBegin_L23 h hs x0 x1 σ hk0 rec23 hr23 u) FU (y0, (0 : Int32))
theorem t_X9_mayBegin_L19 {K : Cx} (h : Ok K cX9_mayBegin RX9 6 rm_X9_mayBegin (some .boolean)) (hs : kiv K = St) (x0 : Nat) (x1 : Int32)  (σ : Sg)  (hk0 : kd x0 9)  : T K (QI K) 19 [(0, .ref x0), (1, .int x1)] [] 0 0 σ (f_X9_mayBegin_L19 x0 x1 σ) := by
  unfold f_X9_mayBegin_L19
  refine T_iconst (pc := 19) h dX9_mayBegin_19 ki_0 ?_
  refine T_sub [0, 1] rfl ?_
  exact t_X9_mayBegin_L20 h hs x0 x1 (0 : Int32) σ hk0
theorem t_X9_mayBegin {K : Cx} (h : Ok K cX9_mayBegin RX9 6 rm_X9_mayBegin (some .boolean)) (hs : kiv K = St) (x0 : Nat) (x1 : Int32) (σ : Sg) (hk0 : kd x0 9) : T K (QI K) 0 [(0, .ref x0), (1, .int x1)] [] 0 0 σ (f_X9_mayBegin x0 x1 σ) := by
  unfold f_X9_mayBegin
  refine T_iload_n (pc := 0) h dX9_mayBegin_0 rfl 1 rfl ?_
  refine T_aload_n (pc := 1) h dX9_mayBegin_1 rfl 0 rfl ?_
  refine T_getI (pc := 2) h hs hk0 fl_X9_298 rfl dX9_mayBegin_2 ?_
  refine T_icmp_le (pc := 5) (tgt := 19) h dX9_mayBegin_5 (by decide) ?_ ?_
  · refine T_sub [0, 1] rfl ?_
    exact t_X9_mayBegin_L19 h hs x0 x1 σ hk0
  · refine T_iload_n (pc := 8) h dX9_mayBegin_8 rfl 1 rfl ?_
    refine T_sipush (pc := 9) h dX9_mayBegin_9 ks_199 ?_
    refine T_icmp_gt (pc := 12) (tgt := 19) h dX9_mayBegin_12 (by decide) ?_ ?_
    · refine T_sub [0, 1] rfl ?_
      exact t_X9_mayBegin_L19 h hs x0 x1 σ hk0
    · refine T_iconst (pc := 15) h dX9_mayBegin_15 ki_1 ?_
      refine T_goto (pc := 16) (tgt := 20) h dX9_mayBegin_16 (by decide) ?_
      refine T_sub [0, 1] rfl ?_
      exact t_X9_mayBegin_L20 h hs x0 x1 (1 : Int32) σ hk0
theorem M_X9_mayBegin (l : Launch) {iv : Sg → Prop} (hi : iv = St) (x0 : Nat) (x1 : Int32) (σ : Sg) (hk0 : kd x0 9) : CTi l yX9_mayBegin cX9_mayBegin 6 (some .boolean) rm_X9_mayBegin iv [.ref x0, .int x1] σ (f_X9_mayBegin x0 x1 σ) := by
  subst hi
  exact CT_of (by decide) (Nat.le_of_ble_eq_true rfl) (fun K _ h _ hs _ _ => t_X9_mayBegin h hs x0 x1 σ hk0)
/-! LuteTabsModel.readsTime(I)Z -/
theorem dX9_readsTime_0 : decode cX9_readsTime 0 = .ok (.iload_n 1, 1) := by decide +kernel
theorem dX9_readsTime_1 : decode cX9_readsTime 1 = .ok (.bipush 58, 2) := by decide +kernel
theorem dX9_readsTime_3 : decode cX9_readsTime 3 = .ok (.if_icmp .ne 32, 3) := by decide +kernel
theorem dX9_readsTime_6 : decode cX9_readsTime 6 = .ok (.aload_n 0, 1) := by decide +kernel
theorem dX9_readsTime_7 : decode cX9_readsTime 7 = .ok (.getfield 301, 3) := by decide +kernel
theorem dX9_readsTime_10 : decode cX9_readsTime 10 = .ok (.aload_n 0, 1) := by decide +kernel
theorem dX9_readsTime_11 : decode cX9_readsTime 11 = .ok (.getfield 298, 3) := by decide +kernel
theorem dX9_readsTime_14 : decode cX9_readsTime 14 = .ok (.if_icmp .le 7, 3) := by decide +kernel
theorem dX9_readsTime_17 : decode cX9_readsTime 17 = .ok (.iconst 1, 1) := by decide +kernel
theorem dX9_readsTime_18 : decode cX9_readsTime 18 = .ok (.goto 4, 3) := by decide +kernel
theorem dX9_readsTime_21 : decode cX9_readsTime 21 = .ok (.iconst 0, 1) := by decide +kernel
theorem dX9_readsTime_22 : decode cX9_readsTime 22 = .ok (.istore_n 2, 1) := by decide +kernel
theorem dX9_readsTime_23 : decode cX9_readsTime 23 = .ok (.aload_n 0, 1) := by decide +kernel
theorem dX9_readsTime_24 : decode cX9_readsTime 24 = .ok (.iconst 0, 1) := by decide +kernel
theorem dX9_readsTime_25 : decode cX9_readsTime 25 = .ok (.putfield 304, 3) := by decide +kernel
theorem dX9_readsTime_28 : decode cX9_readsTime 28 = .ok (.aload_n 0, 1) := by decide +kernel
theorem dX9_readsTime_29 : decode cX9_readsTime 29 = .ok (.iconst 0, 1) := by decide +kernel
theorem dX9_readsTime_30 : decode cX9_readsTime 30 = .ok (.putfield 307, 3) := by decide +kernel
theorem dX9_readsTime_33 : decode cX9_readsTime 33 = .ok (.iload_n 2, 1) := by decide +kernel
theorem dX9_readsTime_34 : decode cX9_readsTime 34 = .ok (.ireturn, 1) := by decide +kernel
theorem dX9_readsTime_35 : decode cX9_readsTime 35 = .ok (.iload_n 1, 1) := by decide +kernel
theorem dX9_readsTime_36 : decode cX9_readsTime 36 = .ok (.bipush 48, 2) := by decide +kernel
theorem dX9_readsTime_38 : decode cX9_readsTime 38 = .ok (.bipush 57, 2) := by decide +kernel
theorem dX9_readsTime_40 : decode cX9_readsTime 40 = .ok (.invokestatic 115, 3) := by decide +kernel
theorem dX9_readsTime_43 : decode cX9_readsTime 43 = .ok (.ifCond .eq 10, 3) := by decide +kernel
theorem dX9_readsTime_46 : decode cX9_readsTime 46 = .ok (.aload_n 0, 1) := by decide +kernel
theorem dX9_readsTime_47 : decode cX9_readsTime 47 = .ok (.getfield 301, 3) := by decide +kernel
theorem dX9_readsTime_50 : decode cX9_readsTime 50 = .ok (.ifCond .ne 5, 3) := by decide +kernel
theorem dX9_readsTime_53 : decode cX9_readsTime 53 = .ok (.iconst 0, 1) := by decide +kernel
theorem dX9_readsTime_54 : decode cX9_readsTime 54 = .ok (.ireturn, 1) := by decide +kernel
theorem dX9_readsTime_55 : decode cX9_readsTime 55 = .ok (.aload_n 0, 1) := by decide +kernel
theorem dX9_readsTime_56 : decode cX9_readsTime 56 = .ok (.aload_n 0, 1) := by decide +kernel
theorem dX9_readsTime_57 : decode cX9_readsTime 57 = .ok (.getfield 301, 3) := by decide +kernel
theorem dX9_readsTime_60 : decode cX9_readsTime 60 = .ok (.iconst (-1), 1) := by decide +kernel
theorem dX9_readsTime_61 : decode cX9_readsTime 61 = .ok (.if_icmp .ne 10, 3) := by decide +kernel
theorem dX9_readsTime_64 : decode cX9_readsTime 64 = .ok (.iload_n 1, 1) := by decide +kernel
theorem dX9_readsTime_65 : decode cX9_readsTime 65 = .ok (.bipush 48, 2) := by decide +kernel
theorem dX9_readsTime_67 : decode cX9_readsTime 67 = .ok (.isub, 1) := by decide +kernel
theorem dX9_readsTime_68 : decode cX9_readsTime 68 = .ok (.goto 15, 3) := by decide +kernel
theorem dX9_readsTime_71 : decode cX9_readsTime 71 = .ok (.bipush 10, 2) := by decide +kernel
theorem dX9_readsTime_73 : decode cX9_readsTime 73 = .ok (.aload_n 0, 1) := by decide +kernel
theorem dX9_readsTime_74 : decode cX9_readsTime 74 = .ok (.getfield 301, 3) := by decide +kernel
theorem dX9_readsTime_77 : decode cX9_readsTime 77 = .ok (.imul, 1) := by decide +kernel
theorem dX9_readsTime_78 : decode cX9_readsTime 78 = .ok (.iload_n 1, 1) := by decide +kernel
theorem dX9_readsTime_79 : decode cX9_readsTime 79 = .ok (.iadd, 1) := by decide +kernel
theorem dX9_readsTime_80 : decode cX9_readsTime 80 = .ok (.bipush 48, 2) := by decide +kernel
theorem dX9_readsTime_82 : decode cX9_readsTime 82 = .ok (.isub, 1) := by decide +kernel
theorem dX9_readsTime_83 : decode cX9_readsTime 83 = .ok (.putfield 301, 3) := by decide +kernel
theorem dX9_readsTime_86 : decode cX9_readsTime 86 = .ok (.aload_n 0, 1) := by decide +kernel
theorem dX9_readsTime_87 : decode cX9_readsTime 87 = .ok (.aload_n 0, 1) := by decide +kernel
theorem dX9_readsTime_88 : decode cX9_readsTime 88 = .ok (.getfield 301, 3) := by decide +kernel
theorem dX9_readsTime_91 : decode cX9_readsTime 91 = .ok (.invokevirtual 310, 3) := by decide +kernel
theorem dX9_readsTime_94 : decode cX9_readsTime 94 = .ok (.ireturn, 1) := by decide +kernel
abbrev rm_X9_readsTime : Room := { frames := 1, cells := 0, slots := 0, locals := 25 }
def f_X9_readsTime_L22  (x0 : Nat) (y0 : Int32) (σ : Sg) : Option (Int32 × Sg) := lB (pI σ x0 42 (0 : Int32)) fun s1 => lB (pI s1 x0 43 (0 : Int32)) fun s2 => ck (b01 y0) (some (y0, s2))
def f_X9_readsTime_L53    (σ : Sg) : Option (Int32 × Sg) := ck (b01 (0 : Int32)) (some ((0 : Int32), σ))
def f_X9_readsTime_L83  (x0 : Nat) (y0 : Nat) (y1 : Int32) (σ : Sg) : Option (Int32 × Sg) := lB (pI σ y0 41 y1) fun s1 => bd (f_X9_mayBegin x0 (gI s1 x0 41) s1) fun r3 s2 => ck (b01 r3) (some (r3, s2))
def f_X9_readsTime (x0 : Nat) (x1 : Int32) (σ : Sg) : Option (Int32 × Sg) := (if x1 = (58 : Int32) then (if (gI σ x0 41) ≤ (gI σ x0 40) then f_X9_readsTime_L22 x0 (0 : Int32) σ else f_X9_readsTime_L22 x0 (1 : Int32) σ) else bd (f_X9_in x1 (48 : Int32) (57 : Int32) σ) fun r2 s1 => (if r2 = 0 then f_X9_readsTime_L53 s1 else (if (gI s1 x0 41) = 0 then f_X9_readsTime_L53 s1 else (if (gI s1 x0 41) = (-1 : Int32) then f_X9_readsTime_L83 x0 x0 (x1 - (48 : Int32)) s1 else f_X9_readsTime_L83 x0 x0 ((((10 : Int32) * (gI s1 x0 41)) + x1) - (48 : Int32)) s1))))
theorem t_X9_readsTime_L22 {K : Cx} (h : Ok K cX9_readsTime RX9 3 rm_X9_readsTime (some .boolean)) (hs : kiv K = St) (x0 : Nat) (y0 : Int32) (σ : Sg)  (hk0 : kd x0 9)  : T K (QI K) 22 [(0, .ref x0)] [.int y0] 0 0 σ (f_X9_readsTime_L22 x0 y0 σ) := by
  unfold f_X9_readsTime_L22
  refine T_istore_n (lv' := [(2, .int y0), (0, .ref x0)]) (pc := 22) h dX9_readsTime_22 rfl (by decide) rfl ?_
  refine T_aload_n (pc := 23) h dX9_readsTime_23 rfl 1 rfl ?_
  refine T_iconst (pc := 24) h dX9_readsTime_24 ki_0 ?_
  refine T_putI (pc := 25) h hs hk0 fl_X9_304 rfl rfl dX9_readsTime_25 ?_
  refine T_letS fun s1 => ?_
  refine T_aload_n (pc := 28) h dX9_readsTime_28 rfl 1 rfl ?_
  refine T_iconst (pc := 29) h dX9_readsTime_29 ki_0 ?_
  refine T_putI (pc := 30) h hs hk0 fl_X9_307 rfl rfl dX9_readsTime_30 ?_
  refine T_letS fun s2 => ?_
  refine T_iload_n (pc := 33) h dX9_readsTime_33 rfl 0 rfl ?_
  exact T_zreturn (pc := 34) h (Nat.zero_le _) (Nat.zero_le _) dX9_readsTime_34
theorem t_X9_readsTime_L53 {K : Cx} (h : Ok K cX9_readsTime RX9 3 rm_X9_readsTime (some .boolean)) (hs : kiv K = St)   (σ : Sg)    : T K (QI K) 53 [] [] 0 0 σ (f_X9_readsTime_L53 σ) := by
  unfold f_X9_readsTime_L53
  refine T_iconst (pc := 53) h dX9_readsTime_53 ki_0 ?_
  exact T_zreturn (pc := 54) h (Nat.zero_le _) (Nat.zero_le _) dX9_readsTime_54
theorem t_X9_readsTime_L83 {K : Cx} (h : Ok K cX9_readsTime RX9 3 rm_X9_readsTime (some .boolean)) (hs : kiv K = St) (x0 : Nat) (y0 : Nat) (y1 : Int32) (σ : Sg)  (hk0 : kd x0 9) (hy0 : kd y0 9) : T K (QI K) 83 [(0, .ref x0)] [.int y1, .ref y0] 0 0 σ (f_X9_readsTime_L83 x0 y0 y1 σ) := by
  unfold f_X9_readsTime_L83
  refine T_putI (pc := 83) h hs hy0 fl_X9_301 rfl rfl dX9_readsTime_83 ?_
  refine T_letS fun s1 => ?_
  refine T_aload_n (pc := 86) h dX9_readsTime_86 rfl 0 rfl ?_
  refine T_aload_n (pc := 87) h dX9_readsTime_87 rfl 0 rfl ?_
  refine T_getI (pc := 88) h hs hk0 fl_X9_301 rfl dX9_readsTime_88 ?_
  refine T_callVi (pc := 91) h (M_X9_mayBegin (kl K) hs x0 (gI s1 x0 41) s1 hk0) mv_X9_mayBegin hs hk0 ml_X9_310 rfl ⟨Nat.le_of_ble_eq_true rfl, Nat.le_of_ble_eq_true rfl⟩ ⟨Nat.le_refl 0, Nat.le_refl 0⟩ (Nat.le_of_ble_eq_true rfl) dX9_readsTime_91 rfl (fun r3 s2 => ?_)
  exact T_zreturn (pc := 94) h (Nat.zero_le _) (Nat.zero_le _) dX9_readsTime_94
theorem t_X9_readsTime {K : Cx} (h : Ok K cX9_readsTime RX9 3 rm_X9_readsTime (some .boolean)) (hs : kiv K = St) (x0 : Nat) (x1 : Int32) (σ : Sg) (hk0 : kd x0 9) : T K (QI K) 0 [(0, .ref x0), (1, .int x1)] [] 0 0 σ (f_X9_readsTime x0 x1 σ) := by
  unfold f_X9_readsTime
  refine T_iload_n (pc := 0) h dX9_readsTime_0 rfl 1 rfl ?_
  refine T_bipush (pc := 1) h dX9_readsTime_1 kb_58 ?_
  refine T_icmp_ne (pc := 3) (tgt := 35) h dX9_readsTime_3 (by decide) ?_ ?_
  · refine T_iload_n (pc := 35) h dX9_readsTime_35 rfl 1 rfl ?_
    refine T_bipush (pc := 36) h dX9_readsTime_36 kb_48 ?_
    refine T_bipush (pc := 38) h dX9_readsTime_38 kb_57 ?_
    refine T_callSi (pc := 40) h (M_X9_in (kl K) hs x1 (48 : Int32) (57 : Int32) σ ) mst_X9_in ml_X9_115 rfl ⟨Nat.le_of_ble_eq_true rfl, Nat.le_of_ble_eq_true rfl⟩ ⟨Nat.le_refl 0, Nat.le_refl 0⟩ (Nat.le_of_ble_eq_true rfl) dX9_readsTime_40 rfl (fun r2 s1 => ?_)
    refine T_if_eq (pc := 43) (tgt := 53) h dX9_readsTime_43 (by decide) ?_ ?_
    · refine T_sub [] rfl ?_
      exact t_X9_readsTime_L53 h hs s1
    · refine T_aload_n (pc := 46) h dX9_readsTime_46 rfl 0 rfl ?_
      refine T_getI (pc := 47) h hs hk0 fl_X9_301 rfl dX9_readsTime_47 ?_
      refine T_if_ne (pc := 50) (tgt := 55) h dX9_readsTime_50 (by decide) ?_ ?_
      · refine T_aload_n (pc := 55) h dX9_readsTime_55 rfl 0 rfl ?_
        refine T_aload_n (pc := 56) h dX9_readsTime_56 rfl 0 rfl ?_
        refine T_getI (pc := 57) h hs hk0 fl_X9_301 rfl dX9_readsTime_57 ?_
        refine T_iconst (pc := 60) h dX9_readsTime_60 ki_m1 ?_
        refine T_icmp_ne (pc := 61) (tgt := 71) h dX9_readsTime_61 (by decide) ?_ ?_
        · refine T_bipush (pc := 71) h dX9_readsTime_71 kb_10 ?_
          refine T_aload_n (pc := 73) h dX9_readsTime_73 rfl 0 rfl ?_
          refine T_getI (pc := 74) h hs hk0 fl_X9_301 rfl dX9_readsTime_74 ?_
          refine T_imul (pc := 77) h dX9_readsTime_77 ?_
          refine T_iload_n (pc := 78) h dX9_readsTime_78 rfl 1 rfl ?_
          refine T_iadd (pc := 79) h dX9_readsTime_79 ?_
          refine T_bipush (pc := 80) h dX9_readsTime_80 kb_48 ?_
          refine T_isub (pc := 82) h dX9_readsTime_82 ?_
          refine T_sub [0] rfl ?_
          exact t_X9_readsTime_L83 h hs x0 x0 ((((10 : Int32) * (gI s1 x0 41)) + x1) - (48 : Int32)) s1 hk0 hk0
        · refine T_iload_n (pc := 64) h dX9_readsTime_64 rfl 1 rfl ?_
          refine T_bipush (pc := 65) h dX9_readsTime_65 kb_48 ?_
          refine T_isub (pc := 67) h dX9_readsTime_67 ?_
          refine T_goto (pc := 68) (tgt := 83) h dX9_readsTime_68 (by decide) ?_
          refine T_sub [0] rfl ?_
          exact t_X9_readsTime_L83 h hs x0 x0 (x1 - (48 : Int32)) s1 hk0 hk0
      · refine T_sub [] rfl ?_
        exact t_X9_readsTime_L53 h hs s1
  · refine T_aload_n (pc := 6) h dX9_readsTime_6 rfl 0 rfl ?_
    refine T_getI (pc := 7) h hs hk0 fl_X9_301 rfl dX9_readsTime_7 ?_
    refine T_aload_n (pc := 10) h dX9_readsTime_10 rfl 0 rfl ?_
    refine T_getI (pc := 11) h hs hk0 fl_X9_298 rfl dX9_readsTime_11 ?_
    refine T_icmp_le (pc := 14) (tgt := 21) h dX9_readsTime_14 (by decide) ?_ ?_
    · refine T_iconst (pc := 21) h dX9_readsTime_21 ki_0 ?_
      refine T_sub [0] rfl ?_
      exact t_X9_readsTime_L22 h hs x0 (0 : Int32) σ hk0
    · refine T_iconst (pc := 17) h dX9_readsTime_17 ki_1 ?_
      refine T_goto (pc := 18) (tgt := 22) h dX9_readsTime_18 (by decide) ?_
      refine T_sub [0] rfl ?_
      exact t_X9_readsTime_L22 h hs x0 (1 : Int32) σ hk0
theorem M_X9_readsTime (l : Launch) {iv : Sg → Prop} (hi : iv = St) (x0 : Nat) (x1 : Int32) (σ : Sg) (hk0 : kd x0 9) : CTi l yX9_readsTime cX9_readsTime 3 (some .boolean) rm_X9_readsTime iv [.ref x0, .int x1] σ (f_X9_readsTime x0 x1 σ) := by
  subst hi
  exact CT_of (by decide) (Nat.le_of_ble_eq_true rfl) (fun K _ h _ hs _ _ => t_X9_readsTime h hs x0 x1 σ hk0)
/-! LuteTabsModel.readsLetter(I)Z -/
theorem dX9_readsLetter_0 : decode cX9_readsLetter 0 = .ok (.aload_n 0, 1) := by decide +kernel
theorem dX9_readsLetter_1 : decode cX9_readsLetter 1 = .ok (.getfield 304, 3) := by decide +kernel
theorem dX9_readsLetter_4 : decode cX9_readsLetter 4 = .ok (.aload_n 0, 1) := by decide +kernel
theorem dX9_readsLetter_5 : decode cX9_readsLetter 5 = .ok (.getfield 7, 3) := by decide +kernel
theorem dX9_readsLetter_8 : decode cX9_readsLetter 8 = .ok (.if_icmp .ne 33, 3) := by decide +kernel
theorem dX9_readsLetter_11 : decode cX9_readsLetter 11 = .ok (.aload_n 0, 1) := by decide +kernel
theorem dX9_readsLetter_12 : decode cX9_readsLetter 12 = .ok (.aload_n 0, 1) := by decide +kernel
theorem dX9_readsLetter_13 : decode cX9_readsLetter 13 = .ok (.getfield 301, 3) := by decide +kernel
theorem dX9_readsLetter_16 : decode cX9_readsLetter 16 = .ok (.putfield 298, 3) := by decide +kernel
theorem dX9_readsLetter_19 : decode cX9_readsLetter 19 = .ok (.aload_n 0, 1) := by decide +kernel
theorem dX9_readsLetter_20 : decode cX9_readsLetter 20 = .ok (.iconst (-1), 1) := by decide +kernel
theorem dX9_readsLetter_21 : decode cX9_readsLetter 21 = .ok (.putfield 301, 3) := by decide +kernel
theorem dX9_readsLetter_24 : decode cX9_readsLetter 24 = .ok (.aload_n 0, 1) := by decide +kernel
theorem dX9_readsLetter_25 : decode cX9_readsLetter 25 = .ok (.iconst (-1), 1) := by decide +kernel
theorem dX9_readsLetter_26 : decode cX9_readsLetter 26 = .ok (.putfield 304, 3) := by decide +kernel
theorem dX9_readsLetter_29 : decode cX9_readsLetter 29 = .ok (.iload_n 1, 1) := by decide +kernel
theorem dX9_readsLetter_30 : decode cX9_readsLetter 30 = .ok (.bipush 59, 2) := by decide +kernel
theorem dX9_readsLetter_32 : decode cX9_readsLetter 32 = .ok (.if_icmp .ne 7, 3) := by decide +kernel
theorem dX9_readsLetter_35 : decode cX9_readsLetter 35 = .ok (.iconst 1, 1) := by decide +kernel
theorem dX9_readsLetter_36 : decode cX9_readsLetter 36 = .ok (.goto 4, 3) := by decide +kernel
theorem dX9_readsLetter_39 : decode cX9_readsLetter 39 = .ok (.iconst 0, 1) := by decide +kernel
theorem dX9_readsLetter_40 : decode cX9_readsLetter 40 = .ok (.ireturn, 1) := by decide +kernel
theorem dX9_readsLetter_41 : decode cX9_readsLetter 41 = .ok (.iload_n 1, 1) := by decide +kernel
theorem dX9_readsLetter_42 : decode cX9_readsLetter 42 = .ok (.bipush 97, 2) := by decide +kernel
theorem dX9_readsLetter_44 : decode cX9_readsLetter 44 = .ok (.bipush 97, 2) := by decide +kernel
theorem dX9_readsLetter_46 : decode cX9_readsLetter 46 = .ok (.aload_n 0, 1) := by decide +kernel
theorem dX9_readsLetter_47 : decode cX9_readsLetter 47 = .ok (.getfield 17, 3) := by decide +kernel
theorem dX9_readsLetter_50 : decode cX9_readsLetter 50 = .ok (.iadd, 1) := by decide +kernel
theorem dX9_readsLetter_51 : decode cX9_readsLetter 51 = .ok (.invokestatic 115, 3) := by decide +kernel
theorem dX9_readsLetter_54 : decode cX9_readsLetter 54 = .ok (.ifCond .eq 15, 3) := by decide +kernel
theorem dX9_readsLetter_57 : decode cX9_readsLetter 57 = .ok (.aload_n 0, 1) := by decide +kernel
theorem dX9_readsLetter_58 : decode cX9_readsLetter 58 = .ok (.getfield 307, 3) := by decide +kernel
theorem dX9_readsLetter_61 : decode cX9_readsLetter 61 = .ok (.iconst 3, 1) := by decide +kernel
theorem dX9_readsLetter_62 : decode cX9_readsLetter 62 = .ok (.if_icmp .ge 7, 3) := by decide +kernel
theorem dX9_readsLetter_65 : decode cX9_readsLetter 65 = .ok (.iconst 1, 1) := by decide +kernel
theorem dX9_readsLetter_66 : decode cX9_readsLetter 66 = .ok (.goto 4, 3) := by decide +kernel
theorem dX9_readsLetter_69 : decode cX9_readsLetter 69 = .ok (.iconst 0, 1) := by decide +kernel
theorem dX9_readsLetter_70 : decode cX9_readsLetter 70 = .ok (.istore_n 2, 1) := by decide +kernel
theorem dX9_readsLetter_71 : decode cX9_readsLetter 71 = .ok (.aload_n 0, 1) := by decide +kernel
theorem dX9_readsLetter_72 : decode cX9_readsLetter 72 = .ok (.dup, 1) := by decide +kernel
theorem dX9_readsLetter_73 : decode cX9_readsLetter 73 = .ok (.getfield 307, 3) := by decide +kernel
theorem dX9_readsLetter_76 : decode cX9_readsLetter 76 = .ok (.iload_n 2, 1) := by decide +kernel
theorem dX9_readsLetter_77 : decode cX9_readsLetter 77 = .ok (.ifCond .eq 7, 3) := by decide +kernel
theorem dX9_readsLetter_80 : decode cX9_readsLetter 80 = .ok (.iconst 1, 1) := by decide +kernel
theorem dX9_readsLetter_81 : decode cX9_readsLetter 81 = .ok (.goto 4, 3) := by decide +kernel
theorem dX9_readsLetter_84 : decode cX9_readsLetter 84 = .ok (.iconst 0, 1) := by decide +kernel
theorem dX9_readsLetter_85 : decode cX9_readsLetter 85 = .ok (.iadd, 1) := by decide +kernel
theorem dX9_readsLetter_86 : decode cX9_readsLetter 86 = .ok (.putfield 307, 3) := by decide +kernel
theorem dX9_readsLetter_89 : decode cX9_readsLetter 89 = .ok (.aload_n 0, 1) := by decide +kernel
theorem dX9_readsLetter_90 : decode cX9_readsLetter 90 = .ok (.dup, 1) := by decide +kernel
theorem dX9_readsLetter_91 : decode cX9_readsLetter 91 = .ok (.getfield 304, 3) := by decide +kernel
theorem dX9_readsLetter_94 : decode cX9_readsLetter 94 = .ok (.iconst 1, 1) := by decide +kernel
theorem dX9_readsLetter_95 : decode cX9_readsLetter 95 = .ok (.iadd, 1) := by decide +kernel
theorem dX9_readsLetter_96 : decode cX9_readsLetter 96 = .ok (.putfield 304, 3) := by decide +kernel
theorem dX9_readsLetter_99 : decode cX9_readsLetter 99 = .ok (.iload_n 2, 1) := by decide +kernel
theorem dX9_readsLetter_100 : decode cX9_readsLetter 100 = .ok (.ifCond .ne 27, 3) := by decide +kernel
theorem dX9_readsLetter_103 : decode cX9_readsLetter 103 = .ok (.iload_n 1, 1) := by decide +kernel
theorem dX9_readsLetter_104 : decode cX9_readsLetter 104 = .ok (.bipush 45, 2) := by decide +kernel
theorem dX9_readsLetter_106 : decode cX9_readsLetter 106 = .ok (.if_icmp .ne 25, 3) := by decide +kernel
theorem dX9_readsLetter_109 : decode cX9_readsLetter 109 = .ok (.aload_n 0, 1) := by decide +kernel
theorem dX9_readsLetter_110 : decode cX9_readsLetter 110 = .ok (.getfield 307, 3) := by decide +kernel
theorem dX9_readsLetter_113 : decode cX9_readsLetter 113 = .ok (.ifCond .gt 14, 3) := by decide +kernel
theorem dX9_readsLetter_116 : decode cX9_readsLetter 116 = .ok (.aload_n 0, 1) := by decide +kernel
theorem dX9_readsLetter_117 : decode cX9_readsLetter 117 = .ok (.getfield 304, 3) := by decide +kernel
theorem dX9_readsLetter_120 : decode cX9_readsLetter 120 = .ok (.aload_n 0, 1) := by decide +kernel
theorem dX9_readsLetter_121 : decode cX9_readsLetter 121 = .ok (.getfield 7, 3) := by decide +kernel
theorem dX9_readsLetter_124 : decode cX9_readsLetter 124 = .ok (.if_icmp .ge 7, 3) := by decide +kernel
theorem dX9_readsLetter_127 : decode cX9_readsLetter 127 = .ok (.iconst 1, 1) := by decide +kernel
theorem dX9_readsLetter_128 : decode cX9_readsLetter 128 = .ok (.goto 4, 3) := by decide +kernel
theorem dX9_readsLetter_131 : decode cX9_readsLetter 131 = .ok (.iconst 0, 1) := by decide +kernel
theorem dX9_readsLetter_132 : decode cX9_readsLetter 132 = .ok (.ireturn, 1) := by decide +kernel
abbrev rm_X9_readsLetter : Room := { frames := 1, cells := 0, slots := 0, locals := 22 }
def f_X9_readsLetter_L40   (y0 : Int32) (σ : Sg) : Option (Int32 × Sg) := ck (b01 y0) (some (y0, σ))
def f_X9_readsLetter_L132   (y0 : Int32) (σ : Sg) : Option (Int32 × Sg) := ck (b01 y0) (some (y0, σ))
def f_X9_readsLetter_L127    (σ : Sg) : Option (Int32 × Sg) := f_X9_readsLetter_L132 (1 : Int32) σ
def f_X9_readsLetter_L131    (σ : Sg) : Option (Int32 × Sg) := f_X9_readsLetter_L132 (0 : Int32) σ
def f_X9_readsLetter_L85  (x0 : Nat) (x1 : Int32) (x2 : Int32) (y0 : Nat) (y1 : Int32) (y2 : Int32) (σ : Sg) : Option (Int32 × Sg) := lB (pI σ y0 43 (y1 + y2)) fun s1 => lB (pI s1 x0 42 ((gI s1 x0 42) + (1 : Int32))) fun s2 => (if x2 = 0 then (if x1 = (45 : Int32) then (if 0 < (gI s2 x0 43) then f_X9_readsLetter_L127 s2 else (if (gI s2 x0 0) ≤ (gI s2 x0 42) then f_X9_readsLetter_L131 s2 else f_X9_readsLetter_L127 s2)) else f_X9_readsLetter_L131 s2) else f_X9_readsLetter_L127 s2)
def f_X9_readsLetter_L70  (x0 : Nat) (x1 : Int32) (y0 : Int32) (σ : Sg) : Option (Int32 × Sg) := (if y0 = 0 then f_X9_readsLetter_L85 x0 x1 y0 x0 (gI σ x0 43) (0 : Int32) σ else f_X9_readsLetter_L85 x0 x1 y0 x0 (gI σ x0 43) (1 : Int32) σ)
def f_X9_readsLetter_L69  (x0 : Nat) (x1 : Int32)  (σ : Sg) : Option (Int32 × Sg) := f_X9_readsLetter_L70 x0 x1 (0 : Int32) σ
def f_X9_readsLetter (x0 : Nat) (x1 : Int32) (σ : Sg) : Option (Int32 × Sg) := (if (gI σ x0 42) = (gI σ x0 0) then lB (pI σ x0 40 (gI σ x0 41)) fun s3 => lB (pI s3 x0 41 (-1 : Int32)) fun s4 => lB (pI s4 x0 42 (-1 : Int32)) fun s5 => (if x1 = (59 : Int32) then f_X9_readsLetter_L40 (1 : Int32) s5 else f_X9_readsLetter_L40 (0 : Int32) s5) else bd (f_X9_in x1 (97 : Int32) ((97 : Int32) + (gI σ x0 2)) σ) fun r2 s1 => (if r2 = 0 then f_X9_readsLetter_L69 x0 x1 s1 else (if (3 : Int32) ≤ (gI s1 x0 43) then f_X9_readsLetter_L69 x0 x1 s1 else f_X9_readsLetter_L70 x0 x1 (1 : Int32) s1)))
theorem t_X9_readsLetter_L40 {K : Cx} (h : Ok K cX9_readsLetter RX9 3 rm_X9_readsLetter (some .boolean)) (hs : kiv K = St)  (y0 : Int32) (σ : Sg)    : T K (QI K) 40 [] [.int y0] 0 0 σ (f_X9_readsLetter_L40 y0 σ) := by
  unfold f_X9_readsLetter_L40
  exact T_zreturn (pc := 40) h (Nat.zero_le _) (Nat.zero_le _) dX9_readsLetter_40
theorem t_X9_readsLetter_L132 {K : Cx} (h : Ok K cX9_readsLetter RX9 3 rm_X9_readsLetter (some .boolean)) (hs : kiv K = St)  (y0 : Int32) (σ : Sg)    : T K (QI K) 132 [] [.int y0] 0 0 σ (f_X9_readsLetter_L132 y0 σ) := by
  unfold f_X9_readsLetter_L132
  exact T_zreturn (pc := 132) h (Nat.zero_le _) (Nat.zero_le _) dX9_readsLetter_132
theorem t_X9_readsLetter_L127 {K : Cx} (h : Ok K cX9_readsLetter RX9 3 rm_X9_readsLetter (some .boolean)) (hs : kiv K = St)   (σ : Sg)    : T K (QI K) 127 [] [] 0 0 σ (f_X9_readsLetter_L127 σ) := by
  unfold f_X9_readsLetter_L127
  refine T_iconst (pc := 127) h dX9_readsLetter_127 ki_1 ?_
  refine T_goto (pc := 128) (tgt := 132) h dX9_readsLetter_128 (by decide) ?_
  refine T_sub [] rfl ?_
  exact t_X9_readsLetter_L132 h hs (1 : Int32) σ
theorem t_X9_readsLetter_L131 {K : Cx} (h : Ok K cX9_readsLetter RX9 3 rm_X9_readsLetter (some .boolean)) (hs : kiv K = St)   (σ : Sg)    : T K (QI K) 131 [] [] 0 0 σ (f_X9_readsLetter_L131 σ) := by
  unfold f_X9_readsLetter_L131
  refine T_iconst (pc := 131) h dX9_readsLetter_131 ki_0 ?_
  refine T_sub [] rfl ?_
  exact t_X9_readsLetter_L132 h hs (0 : Int32) σ
theorem t_X9_readsLetter_L85 {K : Cx} (h : Ok K cX9_readsLetter RX9 3 rm_X9_readsLetter (some .boolean)) (hs : kiv K = St) (x0 : Nat) (x1 : Int32) (x2 : Int32) (y0 : Nat) (y1 : Int32) (y2 : Int32) (σ : Sg)  (hk0 : kd x0 9) (hy0 : kd y0 9) : T K (QI K) 85 [(0, .ref x0), (1, .int x1), (2, .int x2)] [.int y2, .int y1, .ref y0] 0 0 σ (f_X9_readsLetter_L85 x0 x1 x2 y0 y1 y2 σ) := by
  unfold f_X9_readsLetter_L85
  refine T_iadd (pc := 85) h dX9_readsLetter_85 ?_
  refine T_putI (pc := 86) h hs hy0 fl_X9_307 rfl rfl dX9_readsLetter_86 ?_
  refine T_letS fun s1 => ?_
  refine T_aload_n (pc := 89) h dX9_readsLetter_89 rfl 0 rfl ?_
  refine T_dup (pc := 90) h dX9_readsLetter_90 rfl ?_
  refine T_getI (pc := 91) h hs hk0 fl_X9_304 rfl dX9_readsLetter_91 ?_
  refine T_iconst (pc := 94) h dX9_readsLetter_94 ki_1 ?_
  refine T_iadd (pc := 95) h dX9_readsLetter_95 ?_
  refine T_putI (pc := 96) h hs hk0 fl_X9_304 rfl rfl dX9_readsLetter_96 ?_
  refine T_letS fun s2 => ?_
  refine T_iload_n (pc := 99) h dX9_readsLetter_99 rfl 2 rfl ?_
  refine T_if_ne (pc := 100) (tgt := 127) h dX9_readsLetter_100 (by decide) ?_ ?_
  · refine T_sub [] rfl ?_
    exact t_X9_readsLetter_L127 h hs s2
  · refine T_iload_n (pc := 103) h dX9_readsLetter_103 rfl 1 rfl ?_
    refine T_bipush (pc := 104) h dX9_readsLetter_104 kb_45 ?_
    refine T_icmp_ne (pc := 106) (tgt := 131) h dX9_readsLetter_106 (by decide) ?_ ?_
    · refine T_sub [] rfl ?_
      exact t_X9_readsLetter_L131 h hs s2
    · refine T_aload_n (pc := 109) h dX9_readsLetter_109 rfl 0 rfl ?_
      refine T_getI (pc := 110) h hs hk0 fl_X9_307 rfl dX9_readsLetter_110 ?_
      refine T_if_gt (pc := 113) (tgt := 127) h dX9_readsLetter_113 (by decide) ?_ ?_
      · refine T_sub [] rfl ?_
        exact t_X9_readsLetter_L127 h hs s2
      · refine T_aload_n (pc := 116) h dX9_readsLetter_116 rfl 0 rfl ?_
        refine T_getI (pc := 117) h hs hk0 fl_X9_304 rfl dX9_readsLetter_117 ?_
        refine T_aload_n (pc := 120) h dX9_readsLetter_120 rfl 0 rfl ?_
        refine T_getI (pc := 121) h hs hk0 fl_X9_7 rfl dX9_readsLetter_121 ?_
        refine T_icmp_ge (pc := 124) (tgt := 131) h dX9_readsLetter_124 (by decide) ?_ ?_
        · refine T_sub [] rfl ?_
          exact t_X9_readsLetter_L131 h hs s2
        · refine T_sub [] rfl ?_
          exact t_X9_readsLetter_L127 h hs s2
theorem t_X9_readsLetter_L70 {K : Cx} (h : Ok K cX9_readsLetter RX9 3 rm_X9_readsLetter (some .boolean)) (hs : kiv K = St) (x0 : Nat) (x1 : Int32) (y0 : Int32) (σ : Sg)  (hk0 : kd x0 9)  : T K (QI K) 70 [(0, .ref x0), (1, .int x1)] [.int y0] 0 0 σ (f_X9_readsLetter_L70 x0 x1 y0 σ) := by
  unfold f_X9_readsLetter_L70
  refine T_istore_n (lv' := [(2, .int y0), (0, .ref x0), (1, .int x1)]) (pc := 70) h dX9_readsLetter_70 rfl (by decide) rfl ?_
  refine T_aload_n (pc := 71) h dX9_readsLetter_71 rfl 1 rfl ?_
  refine T_dup (pc := 72) h dX9_readsLetter_72 rfl ?_
  refine T_getI (pc := 73) h hs hk0 fl_X9_307 rfl dX9_readsLetter_73 ?_
  refine T_iload_n (pc := 76) h dX9_readsLetter_76 rfl 0 rfl ?_
  refine T_if_eq (pc := 77) (tgt := 84) h dX9_readsLetter_77 (by decide) ?_ ?_
  · refine T_iconst (pc := 84) h dX9_readsLetter_84 ki_0 ?_
    refine T_sub [1, 2, 0] rfl ?_
    exact t_X9_readsLetter_L85 h hs x0 x1 y0 x0 (gI σ x0 43) (0 : Int32) σ hk0 hk0
  · refine T_iconst (pc := 80) h dX9_readsLetter_80 ki_1 ?_
    refine T_goto (pc := 81) (tgt := 85) h dX9_readsLetter_81 (by decide) ?_
    refine T_sub [1, 2, 0] rfl ?_
    exact t_X9_readsLetter_L85 h hs x0 x1 y0 x0 (gI σ x0 43) (1 : Int32) σ hk0 hk0
theorem t_X9_readsLetter_L69 {K : Cx} (h : Ok K cX9_readsLetter RX9 3 rm_X9_readsLetter (some .boolean)) (hs : kiv K = St) (x0 : Nat) (x1 : Int32)  (σ : Sg)  (hk0 : kd x0 9)  : T K (QI K) 69 [(0, .ref x0), (1, .int x1)] [] 0 0 σ (f_X9_readsLetter_L69 x0 x1 σ) := by
  unfold f_X9_readsLetter_L69
  refine T_iconst (pc := 69) h dX9_readsLetter_69 ki_0 ?_
  refine T_sub [0, 1] rfl ?_
  exact t_X9_readsLetter_L70 h hs x0 x1 (0 : Int32) σ hk0
theorem t_X9_readsLetter {K : Cx} (h : Ok K cX9_readsLetter RX9 3 rm_X9_readsLetter (some .boolean)) (hs : kiv K = St) (x0 : Nat) (x1 : Int32) (σ : Sg) (hk0 : kd x0 9) : T K (QI K) 0 [(0, .ref x0), (1, .int x1)] [] 0 0 σ (f_X9_readsLetter x0 x1 σ) := by
  unfold f_X9_readsLetter
  refine T_aload_n (pc := 0) h dX9_readsLetter_0 rfl 0 rfl ?_
  refine T_getI (pc := 1) h hs hk0 fl_X9_304 rfl dX9_readsLetter_1 ?_
  refine T_aload_n (pc := 4) h dX9_readsLetter_4 rfl 0 rfl ?_
  refine T_getI (pc := 5) h hs hk0 fl_X9_7 rfl dX9_readsLetter_5 ?_
  refine T_icmp_ne (pc := 8) (tgt := 41) h dX9_readsLetter_8 (by decide) ?_ ?_
  · refine T_iload_n (pc := 41) h dX9_readsLetter_41 rfl 1 rfl ?_
    refine T_bipush (pc := 42) h dX9_readsLetter_42 kb_97 ?_
    refine T_bipush (pc := 44) h dX9_readsLetter_44 kb_97 ?_
    refine T_aload_n (pc := 46) h dX9_readsLetter_46 rfl 0 rfl ?_
    refine T_getI (pc := 47) h hs hk0 fl_X9_17 rfl dX9_readsLetter_47 ?_
    refine T_iadd (pc := 50) h dX9_readsLetter_50 ?_
    refine T_callSi (pc := 51) h (M_X9_in (kl K) hs x1 (97 : Int32) ((97 : Int32) + (gI σ x0 2)) σ ) mst_X9_in ml_X9_115 rfl ⟨Nat.le_of_ble_eq_true rfl, Nat.le_of_ble_eq_true rfl⟩ ⟨Nat.le_refl 0, Nat.le_refl 0⟩ (Nat.le_of_ble_eq_true rfl) dX9_readsLetter_51 rfl (fun r2 s1 => ?_)
    refine T_if_eq (pc := 54) (tgt := 69) h dX9_readsLetter_54 (by decide) ?_ ?_
    · refine T_sub [0, 1] rfl ?_
      exact t_X9_readsLetter_L69 h hs x0 x1 s1 hk0
    · refine T_aload_n (pc := 57) h dX9_readsLetter_57 rfl 0 rfl ?_
      refine T_getI (pc := 58) h hs hk0 fl_X9_307 rfl dX9_readsLetter_58 ?_
      refine T_iconst (pc := 61) h dX9_readsLetter_61 ki_3 ?_
      refine T_icmp_ge (pc := 62) (tgt := 69) h dX9_readsLetter_62 (by decide) ?_ ?_
      · refine T_sub [0, 1] rfl ?_
        exact t_X9_readsLetter_L69 h hs x0 x1 s1 hk0
      · refine T_iconst (pc := 65) h dX9_readsLetter_65 ki_1 ?_
        refine T_goto (pc := 66) (tgt := 70) h dX9_readsLetter_66 (by decide) ?_
        refine T_sub [0, 1] rfl ?_
        exact t_X9_readsLetter_L70 h hs x0 x1 (1 : Int32) s1 hk0
  · refine T_aload_n (pc := 11) h dX9_readsLetter_11 rfl 0 rfl ?_
    refine T_aload_n (pc := 12) h dX9_readsLetter_12 rfl 0 rfl ?_
    refine T_getI (pc := 13) h hs hk0 fl_X9_301 rfl dX9_readsLetter_13 ?_
    refine T_putI (pc := 16) h hs hk0 fl_X9_298 rfl rfl dX9_readsLetter_16 ?_
    refine T_letS fun s3 => ?_
    refine T_aload_n (pc := 19) h dX9_readsLetter_19 rfl 0 rfl ?_
    refine T_iconst (pc := 20) h dX9_readsLetter_20 ki_m1 ?_
    refine T_putI (pc := 21) h hs hk0 fl_X9_301 rfl rfl dX9_readsLetter_21 ?_
    refine T_letS fun s4 => ?_
    refine T_aload_n (pc := 24) h dX9_readsLetter_24 rfl 0 rfl ?_
    refine T_iconst (pc := 25) h dX9_readsLetter_25 ki_m1 ?_
    refine T_putI (pc := 26) h hs hk0 fl_X9_304 rfl rfl dX9_readsLetter_26 ?_
    refine T_letS fun s5 => ?_
    refine T_iload_n (pc := 29) h dX9_readsLetter_29 rfl 1 rfl ?_
    refine T_bipush (pc := 30) h dX9_readsLetter_30 kb_59 ?_
    refine T_icmp_ne (pc := 32) (tgt := 39) h dX9_readsLetter_32 (by decide) ?_ ?_
    · refine T_iconst (pc := 39) h dX9_readsLetter_39 ki_0 ?_
      refine T_sub [] rfl ?_
      exact t_X9_readsLetter_L40 h hs (0 : Int32) s5
    · refine T_iconst (pc := 35) h dX9_readsLetter_35 ki_1 ?_
      refine T_goto (pc := 36) (tgt := 40) h dX9_readsLetter_36 (by decide) ?_
      refine T_sub [] rfl ?_
      exact t_X9_readsLetter_L40 h hs (1 : Int32) s5
theorem M_X9_readsLetter (l : Launch) {iv : Sg → Prop} (hi : iv = St) (x0 : Nat) (x1 : Int32) (σ : Sg) (hk0 : kd x0 9) : CTi l yX9_readsLetter cX9_readsLetter 3 (some .boolean) rm_X9_readsLetter iv [.ref x0, .int x1] σ (f_X9_readsLetter x0 x1 σ) := by
  subst hi
  exact CT_of (by decide) (Nat.le_of_ble_eq_true rfl) (fun K _ h _ hs _ _ => t_X9_readsLetter h hs x0 x1 σ hk0)
/-! LuteTabsModel.flawNow()I -/
theorem dX9_flawNow_0 : decode cX9_flawNow 0 = .ok (.aload_n 0, 1) := by decide +kernel
theorem dX9_flawNow_1 : decode cX9_flawNow 1 = .ok (.iconst (-1), 1) := by decide +kernel
theorem dX9_flawNow_2 : decode cX9_flawNow 2 = .ok (.putfield 298, 3) := by decide +kernel
theorem dX9_flawNow_5 : decode cX9_flawNow 5 = .ok (.aload_n 0, 1) := by decide +kernel
theorem dX9_flawNow_6 : decode cX9_flawNow 6 = .ok (.iconst (-1), 1) := by decide +kernel
theorem dX9_flawNow_7 : decode cX9_flawNow 7 = .ok (.putfield 301, 3) := by decide +kernel
theorem dX9_flawNow_10 : decode cX9_flawNow 10 = .ok (.aload_n 0, 1) := by decide +kernel
theorem dX9_flawNow_11 : decode cX9_flawNow 11 = .ok (.iconst (-1), 1) := by decide +kernel
theorem dX9_flawNow_12 : decode cX9_flawNow 12 = .ok (.putfield 304, 3) := by decide +kernel
theorem dX9_flawNow_15 : decode cX9_flawNow 15 = .ok (.iconst 0, 1) := by decide +kernel
theorem dX9_flawNow_16 : decode cX9_flawNow 16 = .ok (.istore_n 1, 1) := by decide +kernel
theorem dX9_flawNow_17 : decode cX9_flawNow 17 = .ok (.iload_n 1, 1) := by decide +kernel
theorem dX9_flawNow_18 : decode cX9_flawNow 18 = .ok (.aload_n 0, 1) := by decide +kernel
theorem dX9_flawNow_19 : decode cX9_flawNow 19 = .ok (.getfield 295, 3) := by decide +kernel
theorem dX9_flawNow_22 : decode cX9_flawNow 22 = .ok (.if_icmp .ge 47, 3) := by decide +kernel
theorem dX9_flawNow_25 : decode cX9_flawNow 25 = .ok (.aload_n 0, 1) := by decide +kernel
theorem dX9_flawNow_26 : decode cX9_flawNow 26 = .ok (.getfield 304, 3) := by decide +kernel
theorem dX9_flawNow_29 : decode cX9_flawNow 29 = .ok (.iconst (-1), 1) := by decide +kernel
theorem dX9_flawNow_30 : decode cX9_flawNow 30 = .ok (.if_icmp .ne 16, 3) := by decide +kernel
theorem dX9_flawNow_33 : decode cX9_flawNow 33 = .ok (.aload_n 0, 1) := by decide +kernel
theorem dX9_flawNow_34 : decode cX9_flawNow 34 = .ok (.aload_n 0, 1) := by decide +kernel
theorem dX9_flawNow_35 : decode cX9_flawNow 35 = .ok (.getfield 93, 3) := by decide +kernel
theorem dX9_flawNow_38 : decode cX9_flawNow 38 = .ok (.iload_n 1, 1) := by decide +kernel
theorem dX9_flawNow_39 : decode cX9_flawNow 39 = .ok (.iaload, 1) := by decide +kernel
theorem dX9_flawNow_40 : decode cX9_flawNow 40 = .ok (.invokevirtual 313, 3) := by decide +kernel
theorem dX9_flawNow_43 : decode cX9_flawNow 43 = .ok (.goto 13, 3) := by decide +kernel
theorem dX9_flawNow_46 : decode cX9_flawNow 46 = .ok (.aload_n 0, 1) := by decide +kernel
theorem dX9_flawNow_47 : decode cX9_flawNow 47 = .ok (.aload_n 0, 1) := by decide +kernel
theorem dX9_flawNow_48 : decode cX9_flawNow 48 = .ok (.getfield 93, 3) := by decide +kernel
theorem dX9_flawNow_51 : decode cX9_flawNow 51 = .ok (.iload_n 1, 1) := by decide +kernel
theorem dX9_flawNow_52 : decode cX9_flawNow 52 = .ok (.iaload, 1) := by decide +kernel
theorem dX9_flawNow_53 : decode cX9_flawNow 53 = .ok (.invokevirtual 316, 3) := by decide +kernel
theorem dX9_flawNow_56 : decode cX9_flawNow 56 = .ok (.istore_n 2, 1) := by decide +kernel
theorem dX9_flawNow_57 : decode cX9_flawNow 57 = .ok (.iload_n 2, 1) := by decide +kernel
theorem dX9_flawNow_58 : decode cX9_flawNow 58 = .ok (.ifCond .ne 5, 3) := by decide +kernel
theorem dX9_flawNow_61 : decode cX9_flawNow 61 = .ok (.iload_n 1, 1) := by decide +kernel
theorem dX9_flawNow_62 : decode cX9_flawNow 62 = .ok (.ireturn, 1) := by decide +kernel
theorem dX9_flawNow_63 : decode cX9_flawNow 63 = .ok (.iinc 1 1, 3) := by decide +kernel
theorem dX9_flawNow_66 : decode cX9_flawNow 66 = .ok (.goto (-49), 3) := by decide +kernel
theorem dX9_flawNow_69 : decode cX9_flawNow 69 = .ok (.aload_n 0, 1) := by decide +kernel
theorem dX9_flawNow_70 : decode cX9_flawNow 70 = .ok (.getfield 295, 3) := by decide +kernel
theorem dX9_flawNow_73 : decode cX9_flawNow 73 = .ok (.ifCond .le 23, 3) := by decide +kernel
theorem dX9_flawNow_76 : decode cX9_flawNow 76 = .ok (.aload_n 0, 1) := by decide +kernel
theorem dX9_flawNow_77 : decode cX9_flawNow 77 = .ok (.getfield 304, 3) := by decide +kernel
theorem dX9_flawNow_80 : decode cX9_flawNow 80 = .ok (.iconst (-1), 1) := by decide +kernel
theorem dX9_flawNow_81 : decode cX9_flawNow 81 = .ok (.if_icmp .ne 15, 3) := by decide +kernel
theorem dX9_flawNow_84 : decode cX9_flawNow 84 = .ok (.aload_n 0, 1) := by decide +kernel
theorem dX9_flawNow_85 : decode cX9_flawNow 85 = .ok (.getfield 301, 3) := by decide +kernel
theorem dX9_flawNow_88 : decode cX9_flawNow 88 = .ok (.iconst (-1), 1) := by decide +kernel
theorem dX9_flawNow_89 : decode cX9_flawNow 89 = .ok (.if_icmp .ne 7, 3) := by decide +kernel
theorem dX9_flawNow_92 : decode cX9_flawNow 92 = .ok (.iconst (-1), 1) := by decide +kernel
theorem dX9_flawNow_93 : decode cX9_flawNow 93 = .ok (.goto 7, 3) := by decide +kernel
theorem dX9_flawNow_96 : decode cX9_flawNow 96 = .ok (.aload_n 0, 1) := by decide +kernel
theorem dX9_flawNow_97 : decode cX9_flawNow 97 = .ok (.getfield 295, 3) := by decide +kernel
theorem dX9_flawNow_100 : decode cX9_flawNow 100 = .ok (.ireturn, 1) := by decide +kernel
abbrev rm_X9_flawNow : Room := { frames := 2, cells := 0, slots := 0, locals := 47 }
def f_X9_flawNow_L56 (rec17 : Int32 × Sg → Option (Int32 × Sg)) (x0 : Nat) (x1 : Int32) (y0 : Int32) (σ : Sg) : Option (Int32 × Sg) := (if y0 = 0 then some (x1, σ) else lB (x1 + (1 : Int32)) fun v1 => rec17 (v1, σ))
def f_X9_flawNow_L100   (y0 : Int32) (σ : Sg) : Option (Int32 × Sg) := some (y0, σ)
def f_X9_flawNow_L96  (x0 : Nat)  (σ : Sg) : Option (Int32 × Sg) := f_X9_flawNow_L100 (gI σ x0 39) σ
def f_X9_flawNow_L17  (x0 : Nat) (rec17 : Int32 × Sg → Option (Int32 × Sg)) (s : Int32 × Sg) : Option (Int32 × Sg) := (if (gI (s.2) x0 39) ≤ (s.1) then (if (gI (s.2) x0 39) ≤ 0 then f_X9_flawNow_L96 x0 (s.2) else (if (gI (s.2) x0 42) = (-1 : Int32) then (if (gI (s.2) x0 41) = (-1 : Int32) then f_X9_flawNow_L100 (-1 : Int32) (s.2) else f_X9_flawNow_L96 x0 (s.2)) else f_X9_flawNow_L96 x0 (s.2))) else (if (gI (s.2) x0 42) = (-1 : Int32) then ck (inb (s.1) (aL (gR (s.2) x0 38))) (bd (f_X9_readsTime x0 (gI (s.2) (gR (s.2) x0 38) (s.1).toNatClampNeg) (s.2)) fun r6 s5 => f_X9_flawNow_L56 rec17 x0 (s.1) r6 s5) else ck (inb (s.1) (aL (gR (s.2) x0 38))) (bd (f_X9_readsLetter x0 (gI (s.2) (gR (s.2) x0 38) (s.1).toNatClampNeg) (s.2)) fun r3 s2 => f_X9_flawNow_L56 rec17 x0 (s.1) r3 s2)))
def f_X9_flawNow (x0 : Nat) (σ : Sg) : Option (Int32 × Sg) := lB (pI σ x0 40 (-1 : Int32)) fun s1 => lB (pI s1 x0 41 (-1 : Int32)) fun s2 => lB (pI s2 x0 42 (-1 : Int32)) fun s3 => fx (f_X9_flawNow_L17 x0) FU ((0 : Int32), s3)
theorem t_X9_flawNow_L56 {K : Cx} (h : Ok K cX9_flawNow RX9 3 rm_X9_flawNow (some .int)) (hs : kiv K = St) (x0 : Nat) (x1 : Int32) (y0 : Int32) (σ : Sg) (rec17 : Int32 × Sg → Option (Int32 × Sg)) (hr17 : ∀ u, T K (QI K) 17 [(0, .ref x0), (1, .int (u.1))] [] 0 0 (u.2) (rec17 u)) (hk0 : kd x0 9)  : T K (QI K) 56 [(0, .ref x0), (1, .int x1)] [.int y0] 0 0 σ (f_X9_flawNow_L56 rec17 x0 x1 y0 σ) := by
  unfold f_X9_flawNow_L56
  refine T_istore_n (lv' := [(2, .int y0), (0, .ref x0), (1, .int x1)]) (pc := 56) h dX9_flawNow_56 rfl (by decide) rfl ?_
  refine T_iload_n (pc := 57) h dX9_flawNow_57 rfl 0 rfl ?_
  refine T_if_ne (pc := 58) (tgt := 63) h dX9_flawNow_58 (by decide) ?_ ?_
  · refine T_iinc (fl := fun v1 => [(1, .int v1), (2, .int y0), (0, .ref x0)]) (pc := 63) h dX9_flawNow_63 2 rfl ki_1 (by decide) (fun _ => rfl) (fun v1 => ?_)
    refine T_goto (pc := 66) (tgt := 17) h dX9_flawNow_66 (by decide) ?_
    refine T_sub [2, 0] rfl ?_
    exact hr17 (v1, σ)
  · refine T_iload_n (pc := 61) h dX9_flawNow_61 rfl 2 rfl ?_
    exact T_ireturn (pc := 62) h (Nat.zero_le _) (Nat.zero_le _) dX9_flawNow_62
theorem t_X9_flawNow_L100 {K : Cx} (h : Ok K cX9_flawNow RX9 3 rm_X9_flawNow (some .int)) (hs : kiv K = St)  (y0 : Int32) (σ : Sg)    : T K (QI K) 100 [] [.int y0] 0 0 σ (f_X9_flawNow_L100 y0 σ) := by
  unfold f_X9_flawNow_L100
  exact T_ireturn (pc := 100) h (Nat.zero_le _) (Nat.zero_le _) dX9_flawNow_100
theorem t_X9_flawNow_L96 {K : Cx} (h : Ok K cX9_flawNow RX9 3 rm_X9_flawNow (some .int)) (hs : kiv K = St) (x0 : Nat)  (σ : Sg)  (hk0 : kd x0 9)  : T K (QI K) 96 [(0, .ref x0)] [] 0 0 σ (f_X9_flawNow_L96 x0 σ) := by
  unfold f_X9_flawNow_L96
  refine T_aload_n (pc := 96) h dX9_flawNow_96 rfl 0 rfl ?_
  refine T_getI (pc := 97) h hs hk0 fl_X9_295 rfl dX9_flawNow_97 ?_
  refine T_sub [] rfl ?_
  exact t_X9_flawNow_L100 h hs (gI σ x0 39) σ
theorem t_X9_flawNow_L17 {K : Cx} (h : Ok K cX9_flawNow RX9 3 rm_X9_flawNow (some .int)) (hs : kiv K = St) (x0 : Nat)  (hk0 : kd x0 9) (rec17 : Int32 × Sg → Option (Int32 × Sg)) (hr17 : ∀ u, T K (QI K) 17 [(0, .ref x0), (1, .int (u.1))] [] 0 0 (u.2) (rec17 u)) (s : Int32 × Sg) : T K (QI K) 17 [(0, .ref x0), (1, .int (s.1))] [] 0 0 (s.2) (f_X9_flawNow_L17 x0 rec17 s) := by
  unfold f_X9_flawNow_L17
  refine T_iload_n (pc := 17) h dX9_flawNow_17 rfl 1 rfl ?_
  refine T_aload_n (pc := 18) h dX9_flawNow_18 rfl 0 rfl ?_
  refine T_getI (pc := 19) h hs hk0 fl_X9_295 rfl dX9_flawNow_19 ?_
  refine T_icmp_ge (pc := 22) (tgt := 69) h dX9_flawNow_22 (by decide) ?_ ?_
  · refine T_aload_n (pc := 69) h dX9_flawNow_69 rfl 0 rfl ?_
    refine T_getI (pc := 70) h hs hk0 fl_X9_295 rfl dX9_flawNow_70 ?_
    refine T_if_le (pc := 73) (tgt := 96) h dX9_flawNow_73 (by decide) ?_ ?_
    · refine T_sub [0] rfl ?_
      exact t_X9_flawNow_L96 h hs x0 (s.2) hk0
    · refine T_aload_n (pc := 76) h dX9_flawNow_76 rfl 0 rfl ?_
      refine T_getI (pc := 77) h hs hk0 fl_X9_304 rfl dX9_flawNow_77 ?_
      refine T_iconst (pc := 80) h dX9_flawNow_80 ki_m1 ?_
      refine T_icmp_ne (pc := 81) (tgt := 96) h dX9_flawNow_81 (by decide) ?_ ?_
      · refine T_sub [0] rfl ?_
        exact t_X9_flawNow_L96 h hs x0 (s.2) hk0
      · refine T_aload_n (pc := 84) h dX9_flawNow_84 rfl 0 rfl ?_
        refine T_getI (pc := 85) h hs hk0 fl_X9_301 rfl dX9_flawNow_85 ?_
        refine T_iconst (pc := 88) h dX9_flawNow_88 ki_m1 ?_
        refine T_icmp_ne (pc := 89) (tgt := 96) h dX9_flawNow_89 (by decide) ?_ ?_
        · refine T_sub [0] rfl ?_
          exact t_X9_flawNow_L96 h hs x0 (s.2) hk0
        · refine T_iconst (pc := 92) h dX9_flawNow_92 ki_m1 ?_
          refine T_goto (pc := 93) (tgt := 100) h dX9_flawNow_93 (by decide) ?_
          refine T_sub [] rfl ?_
          exact t_X9_flawNow_L100 h hs (-1 : Int32) (s.2)
  · refine T_aload_n (pc := 25) h dX9_flawNow_25 rfl 0 rfl ?_
    refine T_getI (pc := 26) h hs hk0 fl_X9_304 rfl dX9_flawNow_26 ?_
    refine T_iconst (pc := 29) h dX9_flawNow_29 ki_m1 ?_
    refine T_icmp_ne (pc := 30) (tgt := 46) h dX9_flawNow_30 (by decide) ?_ ?_
    · refine T_aload_n (pc := 46) h dX9_flawNow_46 rfl 0 rfl ?_
      refine T_aload_n (pc := 47) h dX9_flawNow_47 rfl 0 rfl ?_
      refine T_gR (pc := 48) h hs hk0 fl_X9_93 rfl fk_9_38 dX9_flawNow_48 (fun hq1 => ?_)
      refine T_iload_n (pc := 51) h dX9_flawNow_51 rfl 1 rfl ?_
      refine T_iald (pc := 52) h hs hq1 dX9_flawNow_52 ?_
      refine T_callVi (pc := 53) h (M_X9_readsLetter (kl K) hs x0 (gI (s.2) (gR (s.2) x0 38) (s.1).toNatClampNeg) (s.2) hk0) mv_X9_readsLetter hs hk0 ml_X9_316 rfl ⟨Nat.le_of_ble_eq_true rfl, Nat.le_of_ble_eq_true rfl⟩ ⟨Nat.le_refl 0, Nat.le_refl 0⟩ (Nat.le_of_ble_eq_true rfl) dX9_flawNow_53 rfl (fun r3 s2 => ?_)
      refine T_sub [0, 1] rfl ?_
      exact t_X9_flawNow_L56 h hs x0 (s.1) r3 s2 rec17 hr17 hk0
    · refine T_aload_n (pc := 33) h dX9_flawNow_33 rfl 0 rfl ?_
      refine T_aload_n (pc := 34) h dX9_flawNow_34 rfl 0 rfl ?_
      refine T_gR (pc := 35) h hs hk0 fl_X9_93 rfl fk_9_38 dX9_flawNow_35 (fun hq4 => ?_)
      refine T_iload_n (pc := 38) h dX9_flawNow_38 rfl 1 rfl ?_
      refine T_iald (pc := 39) h hs hq4 dX9_flawNow_39 ?_
      refine T_callVi (pc := 40) h (M_X9_readsTime (kl K) hs x0 (gI (s.2) (gR (s.2) x0 38) (s.1).toNatClampNeg) (s.2) hk0) mv_X9_readsTime hs hk0 ml_X9_313 rfl ⟨Nat.le_of_ble_eq_true rfl, Nat.le_of_ble_eq_true rfl⟩ ⟨Nat.le_refl 0, Nat.le_refl 0⟩ (Nat.le_of_ble_eq_true rfl) dX9_flawNow_40 rfl (fun r6 s5 => ?_)
      refine T_goto (pc := 43) (tgt := 56) h dX9_flawNow_43 (by decide) ?_
      refine T_sub [0, 1] rfl ?_
      exact t_X9_flawNow_L56 h hs x0 (s.1) r6 s5 rec17 hr17 hk0
theorem t_X9_flawNow {K : Cx} (h : Ok K cX9_flawNow RX9 3 rm_X9_flawNow (some .int)) (hs : kiv K = St) (x0 : Nat) (σ : Sg) (hk0 : kd x0 9) : T K (QI K) 0 [(0, .ref x0)] [] 0 0 σ (f_X9_flawNow x0 σ) := by
  unfold f_X9_flawNow
  refine T_aload_n (pc := 0) h dX9_flawNow_0 rfl 0 rfl ?_
  refine T_iconst (pc := 1) h dX9_flawNow_1 ki_m1 ?_
  refine T_putI (pc := 2) h hs hk0 fl_X9_298 rfl rfl dX9_flawNow_2 ?_
  refine T_letS fun s1 => ?_
  refine T_aload_n (pc := 5) h dX9_flawNow_5 rfl 0 rfl ?_
  refine T_iconst (pc := 6) h dX9_flawNow_6 ki_m1 ?_
  refine T_putI (pc := 7) h hs hk0 fl_X9_301 rfl rfl dX9_flawNow_7 ?_
  refine T_letS fun s2 => ?_
  refine T_aload_n (pc := 10) h dX9_flawNow_10 rfl 0 rfl ?_
  refine T_iconst (pc := 11) h dX9_flawNow_11 ki_m1 ?_
  refine T_putI (pc := 12) h hs hk0 fl_X9_304 rfl rfl dX9_flawNow_12 ?_
  refine T_letS fun s3 => ?_
  refine T_iconst (pc := 15) h dX9_flawNow_15 ki_0 ?_
  refine T_istore_n (lv' := [(1, .int (0 : Int32)), (0, .ref x0)]) (pc := 16) h dX9_flawNow_16 rfl (by decide) rfl ?_
  refine T_sub [1, 0] rfl ?_
  exact T_fx (B := f_X9_flawNow_L17 x0) (fl := fun u => [(0, .ref x0), (1, .int (u.1))]) (f := fun u => (u.2)) (fun rec17 hr17 u => t_X9_flawNow_L17 h hs x0 hk0 rec17 hr17 u) FU ((0 : Int32), s3)
theorem M_X9_flawNow (l : Launch) {iv : Sg → Prop} (hi : iv = St) (x0 : Nat) (σ : Sg) (hk0 : kd x0 9) : CTi l yX9_flawNow cX9_flawNow 3 (some .int) rm_X9_flawNow iv [.ref x0] σ (f_X9_flawNow x0 σ) := by
  subst hi
  exact CT_of (by decide) (Nat.le_of_ble_eq_true rfl) (fun K _ h _ hs _ _ => t_X9_flawNow h hs x0 σ hk0)
/-! LuteTabsModel.flaw()I -/
theorem dX9_flaw_0 : decode cX9_flaw 0 = .ok (.aload_n 0, 1) := by decide +kernel
theorem dX9_flaw_1 : decode cX9_flaw 1 = .ok (.invokevirtual 319, 3) := by decide +kernel
theorem dX9_flaw_4 : decode cX9_flaw 4 = .ok (.ireturn, 1) := by decide +kernel
abbrev rm_X9_flaw : Room := { frames := 3, cells := 0, slots := 0, locals := 69 }
def f_X9_flaw (x0 : Nat) (σ : Sg) : Option (Int32 × Sg) := bd (f_X9_flawNow x0 σ) fun r2 s1 => some (r2, s1)
theorem t_X9_flaw {K : Cx} (h : Ok K cX9_flaw RX9 1 rm_X9_flaw (some .int)) (hs : kiv K = St) (x0 : Nat) (σ : Sg) (hk0 : kd x0 9) : T K (QI K) 0 [(0, .ref x0)] [] 0 0 σ (f_X9_flaw x0 σ) := by
  unfold f_X9_flaw
  refine T_aload_n (pc := 0) h dX9_flaw_0 rfl 0 rfl ?_
  refine T_callVi (pc := 1) h (M_X9_flawNow (kl K) hs x0 σ hk0) mv_X9_flawNow hs hk0 ml_X9_319 rfl ⟨Nat.le_of_ble_eq_true rfl, Nat.le_of_ble_eq_true rfl⟩ ⟨Nat.le_refl 0, Nat.le_refl 0⟩ (Nat.le_of_ble_eq_true rfl) dX9_flaw_1 rfl (fun r2 s1 => ?_)
  exact T_ireturn (pc := 4) h (Nat.zero_le _) (Nat.zero_le _) dX9_flaw_4
theorem M_X9_flaw (l : Launch) {iv : Sg → Prop} (hi : iv = St) (x0 : Nat) (σ : Sg) (hk0 : kd x0 9) : CTi l yX9_flaw cX9_flaw 1 (some .int) rm_X9_flaw iv [.ref x0] σ (f_X9_flaw x0 σ) := by
  subst hi
  exact CT_of (by decide) (Nat.le_of_ble_eq_true rfl) (fun K _ h _ hs _ _ => t_X9_flaw h hs x0 σ hk0)
/-! LuteTabsModel.lettersTyped()I -/
theorem dX9_lettersTyped_0 : decode cX9_lettersTyped 0 = .ok (.iconst 0, 1) := by decide +kernel
theorem dX9_lettersTyped_1 : decode cX9_lettersTyped 1 = .ok (.istore_n 1, 1) := by decide +kernel
theorem dX9_lettersTyped_2 : decode cX9_lettersTyped 2 = .ok (.iconst 0, 1) := by decide +kernel
theorem dX9_lettersTyped_3 : decode cX9_lettersTyped 3 = .ok (.istore_n 2, 1) := by decide +kernel
theorem dX9_lettersTyped_4 : decode cX9_lettersTyped 4 = .ok (.iload_n 2, 1) := by decide +kernel
theorem dX9_lettersTyped_5 : decode cX9_lettersTyped 5 = .ok (.aload_n 0, 1) := by decide +kernel
theorem dX9_lettersTyped_6 : decode cX9_lettersTyped 6 = .ok (.getfield 295, 3) := by decide +kernel
theorem dX9_lettersTyped_9 : decode cX9_lettersTyped 9 = .ok (.if_icmp .ge 28, 3) := by decide +kernel
theorem dX9_lettersTyped_12 : decode cX9_lettersTyped 12 = .ok (.iload_n 1, 1) := by decide +kernel
theorem dX9_lettersTyped_13 : decode cX9_lettersTyped 13 = .ok (.aload_n 0, 1) := by decide +kernel
theorem dX9_lettersTyped_14 : decode cX9_lettersTyped 14 = .ok (.getfield 93, 3) := by decide +kernel
theorem dX9_lettersTyped_17 : decode cX9_lettersTyped 17 = .ok (.iload_n 2, 1) := by decide +kernel
theorem dX9_lettersTyped_18 : decode cX9_lettersTyped 18 = .ok (.iaload, 1) := by decide +kernel
theorem dX9_lettersTyped_19 : decode cX9_lettersTyped 19 = .ok (.bipush 97, 2) := by decide +kernel
theorem dX9_lettersTyped_21 : decode cX9_lettersTyped 21 = .ok (.if_icmp .lt 7, 3) := by decide +kernel
theorem dX9_lettersTyped_24 : decode cX9_lettersTyped 24 = .ok (.iconst 1, 1) := by decide +kernel
theorem dX9_lettersTyped_25 : decode cX9_lettersTyped 25 = .ok (.goto 4, 3) := by decide +kernel
theorem dX9_lettersTyped_28 : decode cX9_lettersTyped 28 = .ok (.iconst 0, 1) := by decide +kernel
theorem dX9_lettersTyped_29 : decode cX9_lettersTyped 29 = .ok (.iadd, 1) := by decide +kernel
theorem dX9_lettersTyped_30 : decode cX9_lettersTyped 30 = .ok (.istore_n 1, 1) := by decide +kernel
theorem dX9_lettersTyped_31 : decode cX9_lettersTyped 31 = .ok (.iinc 2 1, 3) := by decide +kernel
theorem dX9_lettersTyped_34 : decode cX9_lettersTyped 34 = .ok (.goto (-30), 3) := by decide +kernel
theorem dX9_lettersTyped_37 : decode cX9_lettersTyped 37 = .ok (.iload_n 1, 1) := by decide +kernel
theorem dX9_lettersTyped_38 : decode cX9_lettersTyped 38 = .ok (.ireturn, 1) := by decide +kernel
abbrev rm_X9_lettersTyped : Room := { frames := 0, cells := 0, slots := 0, locals := 0 }
def f_X9_lettersTyped_L29 (rec4 : Int32 × Int32 → Option (Int32 × Sg)) (x0 : Nat) (x2 : Int32) (y0 : Int32) (y1 : Int32) (σ : Sg) : Option (Int32 × Sg) := lB ((y0 + y1)) fun v1 => lB (x2 + (1 : Int32)) fun v2 => rec4 (v1, v2)
def f_X9_lettersTyped_L4  (x0 : Nat) (σ : Sg) (rec4 : Int32 × Int32 → Option (Int32 × Sg)) (s : Int32 × Int32) : Option (Int32 × Sg) := (if (gI σ x0 39) ≤ (s.2) then some ((s.1), σ) else ck (inb (s.2) (aL (gR σ x0 38))) ((if (gI σ (gR σ x0 38) (s.2).toNatClampNeg) < (97 : Int32) then f_X9_lettersTyped_L29 rec4 x0 (s.2) (s.1) (0 : Int32) σ else f_X9_lettersTyped_L29 rec4 x0 (s.2) (s.1) (1 : Int32) σ)))
def f_X9_lettersTyped (x0 : Nat) (σ : Sg) : Option (Int32 × Sg) := fx (f_X9_lettersTyped_L4 x0 σ) FU ((0 : Int32), (0 : Int32))
theorem t_X9_lettersTyped_L29 {K : Cx} (h : Ok K cX9_lettersTyped RX9 3 rm_X9_lettersTyped (some .int)) (hs : kiv K = St) (x0 : Nat) (x2 : Int32) (y0 : Int32) (y1 : Int32) (σ : Sg) (rec4 : Int32 × Int32 → Option (Int32 × Sg)) (hr4 : ∀ u, T K (QI K) 4 [(0, .ref x0), (1, .int (u.1)), (2, .int (u.2))] [] 0 0 σ (rec4 u)) (hk0 : kd x0 9)  : T K (QI K) 29 [(0, .ref x0), (2, .int x2)] [.int y1, .int y0] 0 0 σ (f_X9_lettersTyped_L29 rec4 x0 x2 y0 y1 σ) := by
  unfold f_X9_lettersTyped_L29
  refine T_iadd (pc := 29) h dX9_lettersTyped_29 ?_
  refine T_letI fun v1 => ?_
  refine T_istore_n (lv' := [(1, .int v1), (0, .ref x0), (2, .int x2)]) (pc := 30) h dX9_lettersTyped_30 rfl (by decide) rfl ?_
  refine T_iinc (fl := fun v2 => [(2, .int v2), (1, .int v1), (0, .ref x0)]) (pc := 31) h dX9_lettersTyped_31 2 rfl ki_1 (by decide) (fun _ => rfl) (fun v2 => ?_)
  refine T_goto (pc := 34) (tgt := 4) h dX9_lettersTyped_34 (by decide) ?_
  refine T_sub [2, 1, 0] rfl ?_
  exact hr4 (v1, v2)
theorem t_X9_lettersTyped_L4 {K : Cx} (h : Ok K cX9_lettersTyped RX9 3 rm_X9_lettersTyped (some .int)) (hs : kiv K = St) (x0 : Nat) (σ : Sg)  (hk0 : kd x0 9) (rec4 : Int32 × Int32 → Option (Int32 × Sg)) (hr4 : ∀ u, T K (QI K) 4 [(0, .ref x0), (1, .int (u.1)), (2, .int (u.2))] [] 0 0 σ (rec4 u)) (s : Int32 × Int32) : T K (QI K) 4 [(0, .ref x0), (1, .int (s.1)), (2, .int (s.2))] [] 0 0 σ (f_X9_lettersTyped_L4 x0 σ rec4 s) := by
  unfold f_X9_lettersTyped_L4
  refine T_iload_n (pc := 4) h dX9_lettersTyped_4 rfl 2 rfl ?_
  refine T_aload_n (pc := 5) h dX9_lettersTyped_5 rfl 0 rfl ?_
  refine T_getI (pc := 6) h hs hk0 fl_X9_295 rfl dX9_lettersTyped_6 ?_
  refine T_icmp_ge (pc := 9) (tgt := 37) h dX9_lettersTyped_9 (by decide) ?_ ?_
  · refine T_iload_n (pc := 37) h dX9_lettersTyped_37 rfl 1 rfl ?_
    exact T_ireturn (pc := 38) h (Nat.zero_le _) (Nat.zero_le _) dX9_lettersTyped_38
  · refine T_iload_n (pc := 12) h dX9_lettersTyped_12 rfl 1 rfl ?_
    refine T_aload_n (pc := 13) h dX9_lettersTyped_13 rfl 0 rfl ?_
    refine T_gR (pc := 14) h hs hk0 fl_X9_93 rfl fk_9_38 dX9_lettersTyped_14 (fun hq1 => ?_)
    refine T_iload_n (pc := 17) h dX9_lettersTyped_17 rfl 2 rfl ?_
    refine T_iald (pc := 18) h hs hq1 dX9_lettersTyped_18 ?_
    refine T_bipush (pc := 19) h dX9_lettersTyped_19 kb_97 ?_
    refine T_icmp_lt (pc := 21) (tgt := 28) h dX9_lettersTyped_21 (by decide) ?_ ?_
    · refine T_iconst (pc := 28) h dX9_lettersTyped_28 ki_0 ?_
      refine T_sub [0, 2] rfl ?_
      exact t_X9_lettersTyped_L29 h hs x0 (s.2) (s.1) (0 : Int32) σ rec4 hr4 hk0
    · refine T_iconst (pc := 24) h dX9_lettersTyped_24 ki_1 ?_
      refine T_goto (pc := 25) (tgt := 29) h dX9_lettersTyped_25 (by decide) ?_
      refine T_sub [0, 2] rfl ?_
      exact t_X9_lettersTyped_L29 h hs x0 (s.2) (s.1) (1 : Int32) σ rec4 hr4 hk0
theorem t_X9_lettersTyped {K : Cx} (h : Ok K cX9_lettersTyped RX9 3 rm_X9_lettersTyped (some .int)) (hs : kiv K = St) (x0 : Nat) (σ : Sg) (hk0 : kd x0 9) : T K (QI K) 0 [(0, .ref x0)] [] 0 0 σ (f_X9_lettersTyped x0 σ) := by
  unfold f_X9_lettersTyped
  refine T_iconst (pc := 0) h dX9_lettersTyped_0 ki_0 ?_
  refine T_istore_n (lv' := [(1, .int (0 : Int32)), (0, .ref x0)]) (pc := 1) h dX9_lettersTyped_1 rfl (by decide) rfl ?_
  refine T_iconst (pc := 2) h dX9_lettersTyped_2 ki_0 ?_
  refine T_istore_n (lv' := [(2, .int (0 : Int32)), (1, .int (0 : Int32)), (0, .ref x0)]) (pc := 3) h dX9_lettersTyped_3 rfl (by decide) rfl ?_
  refine T_sub [2, 1, 0] rfl ?_
  exact T_fx (B := f_X9_lettersTyped_L4 x0 σ) (fl := fun u => [(0, .ref x0), (1, .int (u.1)), (2, .int (u.2))]) (f := fun u => σ) (fun rec4 hr4 u => t_X9_lettersTyped_L4 h hs x0 σ hk0 rec4 hr4 u) FU ((0 : Int32), (0 : Int32))
theorem M_X9_lettersTyped (l : Launch) {iv : Sg → Prop} (hi : iv = St) (x0 : Nat) (σ : Sg) (hk0 : kd x0 9) : CTi l yX9_lettersTyped cX9_lettersTyped 3 (some .int) rm_X9_lettersTyped iv [.ref x0] σ (f_X9_lettersTyped x0 σ) := by
  subst hi
  exact CT_of (by decide) (Nat.le_of_ble_eq_true rfl) (fun K _ h _ hs _ _ => t_X9_lettersTyped h hs x0 σ hk0)
/-! LuteTabsModel.back()I -/
theorem dX9_back_0 : decode cX9_back 0 = .ok (.aload_n 0, 1) := by decide +kernel
theorem dX9_back_1 : decode cX9_back 1 = .ok (.invokevirtual 319, 3) := by decide +kernel
theorem dX9_back_4 : decode cX9_back 4 = .ok (.iconst (-1), 1) := by decide +kernel
theorem dX9_back_5 : decode cX9_back 5 = .ok (.if_icmp .eq 6, 3) := by decide +kernel
theorem dX9_back_8 : decode cX9_back 8 = .ok (.bipush (-3), 2) := by decide +kernel
theorem dX9_back_10 : decode cX9_back 10 = .ok (.ireturn, 1) := by decide +kernel
theorem dX9_back_11 : decode cX9_back 11 = .ok (.aload_n 0, 1) := by decide +kernel
theorem dX9_back_12 : decode cX9_back 12 = .ok (.invokevirtual 322, 3) := by decide +kernel
theorem dX9_back_15 : decode cX9_back 15 = .ok (.bipush 14, 2) := by decide +kernel
theorem dX9_back_17 : decode cX9_back 17 = .ok (.if_icmp .le 6, 3) := by decide +kernel
theorem dX9_back_20 : decode cX9_back 20 = .ok (.bipush (-4), 2) := by decide +kernel
theorem dX9_back_22 : decode cX9_back 22 = .ok (.ireturn, 1) := by decide +kernel
theorem dX9_back_23 : decode cX9_back 23 = .ok (.aload_n 0, 1) := by decide +kernel
theorem dX9_back_24 : decode cX9_back 24 = .ok (.invokevirtual 119, 3) := by decide +kernel
theorem dX9_back_27 : decode cX9_back 27 = .ok (.aload_n 0, 1) := by decide +kernel
theorem dX9_back_28 : decode cX9_back 28 = .ok (.iconst 0, 1) := by decide +kernel
theorem dX9_back_29 : decode cX9_back 29 = .ok (.putfield 130, 3) := by decide +kernel
theorem dX9_back_32 : decode cX9_back 32 = .ok (.iconst 0, 1) := by decide +kernel
theorem dX9_back_33 : decode cX9_back 33 = .ok (.istore_n 1, 1) := by decide +kernel
theorem dX9_back_34 : decode cX9_back 34 = .ok (.iconst (-1), 1) := by decide +kernel
theorem dX9_back_35 : decode cX9_back 35 = .ok (.istore_n 2, 1) := by decide +kernel
theorem dX9_back_36 : decode cX9_back 36 = .ok (.iconst 0, 1) := by decide +kernel
theorem dX9_back_37 : decode cX9_back 37 = .ok (.istore_n 3, 1) := by decide +kernel
theorem dX9_back_38 : decode cX9_back 38 = .ok (.iload_n 3, 1) := by decide +kernel
theorem dX9_back_39 : decode cX9_back 39 = .ok (.aload_n 0, 1) := by decide +kernel
theorem dX9_back_40 : decode cX9_back 40 = .ok (.getfield 295, 3) := by decide +kernel
theorem dX9_back_43 : decode cX9_back 43 = .ok (.if_icmp .ge 100, 3) := by decide +kernel
theorem dX9_back_46 : decode cX9_back 46 = .ok (.aload_n 0, 1) := by decide +kernel
theorem dX9_back_47 : decode cX9_back 47 = .ok (.getfield 93, 3) := by decide +kernel
theorem dX9_back_50 : decode cX9_back 50 = .ok (.iload_n 3, 1) := by decide +kernel
theorem dX9_back_51 : decode cX9_back 51 = .ok (.iaload, 1) := by decide +kernel
theorem dX9_back_52 : decode cX9_back 52 = .ok (.istore 4, 2) := by decide +kernel
theorem dX9_back_54 : decode cX9_back 54 = .ok (.iload 4, 2) := by decide +kernel
theorem dX9_back_56 : decode cX9_back 56 = .ok (.bipush 58, 2) := by decide +kernel
theorem dX9_back_58 : decode cX9_back 58 = .ok (.if_icmp .ne 8, 3) := by decide +kernel
theorem dX9_back_61 : decode cX9_back 61 = .ok (.iconst 0, 1) := by decide +kernel
theorem dX9_back_62 : decode cX9_back 62 = .ok (.istore_n 2, 1) := by decide +kernel
theorem dX9_back_63 : decode cX9_back 63 = .ok (.goto 74, 3) := by decide +kernel
theorem dX9_back_66 : decode cX9_back 66 = .ok (.iload 4, 2) := by decide +kernel
theorem dX9_back_68 : decode cX9_back 68 = .ok (.bipush 59, 2) := by decide +kernel
theorem dX9_back_70 : decode cX9_back 70 = .ok (.if_icmp .ne 10, 3) := by decide +kernel
theorem dX9_back_73 : decode cX9_back 73 = .ok (.iconst (-1), 1) := by decide +kernel
theorem dX9_back_74 : decode cX9_back 74 = .ok (.istore_n 2, 1) := by decide +kernel
theorem dX9_back_75 : decode cX9_back 75 = .ok (.iconst 0, 1) := by decide +kernel
theorem dX9_back_76 : decode cX9_back 76 = .ok (.istore_n 1, 1) := by decide +kernel
theorem dX9_back_77 : decode cX9_back 77 = .ok (.goto 60, 3) := by decide +kernel
theorem dX9_back_80 : decode cX9_back 80 = .ok (.iload_n 2, 1) := by decide +kernel
theorem dX9_back_81 : decode cX9_back 81 = .ok (.iconst (-1), 1) := by decide +kernel
theorem dX9_back_82 : decode cX9_back 82 = .ok (.if_icmp .ne 17, 3) := by decide +kernel
theorem dX9_back_85 : decode cX9_back 85 = .ok (.bipush 10, 2) := by decide +kernel
theorem dX9_back_87 : decode cX9_back 87 = .ok (.iload_n 1, 1) := by decide +kernel
theorem dX9_back_88 : decode cX9_back 88 = .ok (.imul, 1) := by decide +kernel
theorem dX9_back_89 : decode cX9_back 89 = .ok (.iload 4, 2) := by decide +kernel
theorem dX9_back_91 : decode cX9_back 91 = .ok (.iadd, 1) := by decide +kernel
theorem dX9_back_92 : decode cX9_back 92 = .ok (.bipush 48, 2) := by decide +kernel
theorem dX9_back_94 : decode cX9_back 94 = .ok (.isub, 1) := by decide +kernel
theorem dX9_back_95 : decode cX9_back 95 = .ok (.istore_n 1, 1) := by decide +kernel
theorem dX9_back_96 : decode cX9_back 96 = .ok (.goto 41, 3) := by decide +kernel
theorem dX9_back_99 : decode cX9_back 99 = .ok (.iload 4, 2) := by decide +kernel
theorem dX9_back_101 : decode cX9_back 101 = .ok (.bipush 45, 2) := by decide +kernel
theorem dX9_back_103 : decode cX9_back 103 = .ok (.if_icmp .eq 31, 3) := by decide +kernel
theorem dX9_back_106 : decode cX9_back 106 = .ok (.aload_n 0, 1) := by decide +kernel
theorem dX9_back_107 : decode cX9_back 107 = .ok (.iload_n 1, 1) := by decide +kernel
theorem dX9_back_108 : decode cX9_back 108 = .ok (.aload_n 0, 1) := by decide +kernel
theorem dX9_back_109 : decode cX9_back 109 = .ok (.getfield 13, 3) := by decide +kernel
theorem dX9_back_112 : decode cX9_back 112 = .ok (.iload_n 2, 1) := by decide +kernel
theorem dX9_back_113 : decode cX9_back 113 = .ok (.iaload, 1) := by decide +kernel
theorem dX9_back_114 : decode cX9_back 114 = .ok (.iload 4, 2) := by decide +kernel
theorem dX9_back_116 : decode cX9_back 116 = .ok (.iadd, 1) := by decide +kernel
theorem dX9_back_117 : decode cX9_back 117 = .ok (.bipush 97, 2) := by decide +kernel
theorem dX9_back_119 : decode cX9_back 119 = .ok (.isub, 1) := by decide +kernel
theorem dX9_back_120 : decode cX9_back 120 = .ok (.iconst 1, 1) := by decide +kernel
theorem dX9_back_121 : decode cX9_back 121 = .ok (.invokevirtual 136, 3) := by decide +kernel
theorem dX9_back_124 : decode cX9_back 124 = .ok (.istore 5, 2) := by decide +kernel
theorem dX9_back_126 : decode cX9_back 126 = .ok (.aload_n 0, 1) := by decide +kernel
theorem dX9_back_127 : decode cX9_back 127 = .ok (.getfield 41, 3) := by decide +kernel
theorem dX9_back_130 : decode cX9_back 130 = .ok (.iload 5, 2) := by decide +kernel
theorem dX9_back_132 : decode cX9_back 132 = .ok (.iload_n 2, 1) := by decide +kernel
theorem dX9_back_133 : decode cX9_back 133 = .ok (.iastore, 1) := by decide +kernel
theorem dX9_back_134 : decode cX9_back 134 = .ok (.iinc 2 1, 3) := by decide +kernel
theorem dX9_back_137 : decode cX9_back 137 = .ok (.iinc 3 1, 3) := by decide +kernel
theorem dX9_back_140 : decode cX9_back 140 = .ok (.goto (-102), 3) := by decide +kernel
theorem dX9_back_143 : decode cX9_back 143 = .ok (.aload_n 0, 1) := by decide +kernel
theorem dX9_back_144 : decode cX9_back 144 = .ok (.iconst 1, 1) := by decide +kernel
theorem dX9_back_145 : decode cX9_back 145 = .ok (.putfield 111, 3) := by decide +kernel
theorem dX9_back_148 : decode cX9_back 148 = .ok (.aload_n 0, 1) := by decide +kernel
theorem dX9_back_149 : decode cX9_back 149 = .ok (.getfield 130, 3) := by decide +kernel
theorem dX9_back_152 : decode cX9_back 152 = .ok (.ireturn, 1) := by decide +kernel
abbrev rm_X9_back : Room := { frames := 3, cells := 0, slots := 0, locals := 69 }
def f_X9_back_L137 (rec38 : Int32 × Int32 × Int32 × Sg → Option (Int32 × Sg)) (x0 : Nat) (x1 : Int32) (x2 : Int32) (x3 : Int32)  (σ : Sg) : Option (Int32 × Sg) := lB (x3 + (1 : Int32)) fun v1 => rec38 (x1, x2, v1, σ)
def f_X9_back_L134 (rec38 : Int32 × Int32 × Int32 × Sg → Option (Int32 × Sg)) (x0 : Nat) (x1 : Int32) (x2 : Int32) (x3 : Int32)  (σ : Sg) : Option (Int32 × Sg) := lB (x2 + (1 : Int32)) fun v1 => f_X9_back_L137 rec38 x0 x1 v1 x3 σ
def f_X9_back_L38  (x0 : Nat) (rec38 : Int32 × Int32 × Int32 × Sg → Option (Int32 × Sg)) (s : Int32 × Int32 × Int32 × Sg) : Option (Int32 × Sg) := (if (gI (s.2.2.2) x0 39) ≤ (s.2.2.1) then ck (b01 (1 : Int32)) (lB (pI (s.2.2.2) x0 12 (1 : Int32)) fun s1 => some ((gI s1 x0 10), s1)) else ck (inb (s.2.2.1) (aL (gR (s.2.2.2) x0 38))) (lB ((gI (s.2.2.2) (gR (s.2.2.2) x0 38) (s.2.2.1).toNatClampNeg)) fun v3 => (if v3 = (58 : Int32) then f_X9_back_L137 rec38 x0 (s.1) (0 : Int32) (s.2.2.1) (s.2.2.2) else (if v3 = (59 : Int32) then f_X9_back_L137 rec38 x0 (0 : Int32) (-1 : Int32) (s.2.2.1) (s.2.2.2) else (if (s.2.1) = (-1 : Int32) then lB (((((10 : Int32) * (s.1)) + v3) - (48 : Int32))) fun v9 => f_X9_back_L137 rec38 x0 v9 (s.2.1) (s.2.2.1) (s.2.2.2) else (if v3 = (45 : Int32) then f_X9_back_L134 rec38 x0 (s.1) (s.2.1) (s.2.2.1) (s.2.2.2) else ck (inb (s.2.1) (aL (gR (s.2.2.2) x0 1))) (bd (f_X9_puts x0 (s.1) (((gI (s.2.2.2) (gR (s.2.2.2) x0 1) (s.2.1).toNatClampNeg) + v3) - (97 : Int32)) (1 : Int32) (s.2.2.2)) fun r6 s5 => ck (inb r6 (aL (gR s5 x0 11))) (lB (pI s5 (gR s5 x0 11) r6.toNatClampNeg (s.2.1)) fun s8 => f_X9_back_L134 rec38 x0 (s.1) (s.2.1) (s.2.2.1) s8))))))))
def f_X9_back (x0 : Nat) (σ : Sg) : Option (Int32 × Sg) := bd (f_X9_flawNow x0 σ) fun r2 s1 => (if r2 = (-1 : Int32) then bd (f_X9_lettersTyped x0 s1) fun r4 s3 => (if r4 ≤ (14 : Int32) then bd (f_X9_forgets x0 s3) fun _ s5 => lB (pI s5 x0 10 (0 : Int32)) fun s6 => fx (f_X9_back_L38 x0) FU ((0 : Int32), (-1 : Int32), (0 : Int32), s6) else some ((-4 : Int32), s3)) else some ((-3 : Int32), s1))
theorem t_X9_back_L137 {K : Cx} (h : Ok K cX9_back RX9 6 rm_X9_back (some .int)) (hs : kiv K = St) (x0 : Nat) (x1 : Int32) (x2 : Int32) (x3 : Int32)  (σ : Sg) (rec38 : Int32 × Int32 × Int32 × Sg → Option (Int32 × Sg)) (hr38 : ∀ u, T K (QI K) 38 [(0, .ref x0), (1, .int (u.1)), (2, .int (u.2.1)), (3, .int (u.2.2.1))] [] 0 0 (u.2.2.2) (rec38 u)) (hk0 : kd x0 9)  : T K (QI K) 137 [(0, .ref x0), (1, .int x1), (2, .int x2), (3, .int x3)] [] 0 0 σ (f_X9_back_L137 rec38 x0 x1 x2 x3 σ) := by
  unfold f_X9_back_L137
  refine T_iinc (fl := fun v1 => [(3, .int v1), (0, .ref x0), (1, .int x1), (2, .int x2)]) (pc := 137) h dX9_back_137 3 rfl ki_1 (by decide) (fun _ => rfl) (fun v1 => ?_)
  refine T_goto (pc := 140) (tgt := 38) h dX9_back_140 (by decide) ?_
  refine T_sub [1, 2, 3, 0] rfl ?_
  exact hr38 (x1, x2, v1, σ)
theorem t_X9_back_L134 {K : Cx} (h : Ok K cX9_back RX9 6 rm_X9_back (some .int)) (hs : kiv K = St) (x0 : Nat) (x1 : Int32) (x2 : Int32) (x3 : Int32)  (σ : Sg) (rec38 : Int32 × Int32 × Int32 × Sg → Option (Int32 × Sg)) (hr38 : ∀ u, T K (QI K) 38 [(0, .ref x0), (1, .int (u.1)), (2, .int (u.2.1)), (3, .int (u.2.2.1))] [] 0 0 (u.2.2.2) (rec38 u)) (hk0 : kd x0 9)  : T K (QI K) 134 [(0, .ref x0), (1, .int x1), (2, .int x2), (3, .int x3)] [] 0 0 σ (f_X9_back_L134 rec38 x0 x1 x2 x3 σ) := by
  unfold f_X9_back_L134
  refine T_iinc (fl := fun v1 => [(2, .int v1), (0, .ref x0), (1, .int x1), (3, .int x3)]) (pc := 134) h dX9_back_134 2 rfl ki_1 (by decide) (fun _ => rfl) (fun v1 => ?_)
  refine T_sub [1, 2, 0, 3] rfl ?_
  exact t_X9_back_L137 h hs x0 x1 v1 x3 σ rec38 hr38 hk0
theorem t_X9_back_L38 {K : Cx} (h : Ok K cX9_back RX9 6 rm_X9_back (some .int)) (hs : kiv K = St) (x0 : Nat)  (hk0 : kd x0 9) (rec38 : Int32 × Int32 × Int32 × Sg → Option (Int32 × Sg)) (hr38 : ∀ u, T K (QI K) 38 [(0, .ref x0), (1, .int (u.1)), (2, .int (u.2.1)), (3, .int (u.2.2.1))] [] 0 0 (u.2.2.2) (rec38 u)) (s : Int32 × Int32 × Int32 × Sg) : T K (QI K) 38 [(0, .ref x0), (1, .int (s.1)), (2, .int (s.2.1)), (3, .int (s.2.2.1))] [] 0 0 (s.2.2.2) (f_X9_back_L38 x0 rec38 s) := by
  unfold f_X9_back_L38
  refine T_iload_n (pc := 38) h dX9_back_38 rfl 3 rfl ?_
  refine T_aload_n (pc := 39) h dX9_back_39 rfl 0 rfl ?_
  refine T_getI (pc := 40) h hs hk0 fl_X9_295 rfl dX9_back_40 ?_
  refine T_icmp_ge (pc := 43) (tgt := 143) h dX9_back_43 (by decide) ?_ ?_
  · refine T_aload_n (pc := 143) h dX9_back_143 rfl 0 rfl ?_
    refine T_iconst (pc := 144) h dX9_back_144 ki_1 ?_
    refine T_putZ (pc := 145) h hs hk0 fl_X9_111 rfl rfl dX9_back_145 ?_
    refine T_letS fun s1 => ?_
    refine T_aload_n (pc := 148) h dX9_back_148 rfl 0 rfl ?_
    refine T_getI (pc := 149) h hs hk0 fl_X9_130 rfl dX9_back_149 ?_
    exact T_ireturn (pc := 152) h (Nat.zero_le _) (Nat.zero_le _) dX9_back_152
  · refine T_aload_n (pc := 46) h dX9_back_46 rfl 0 rfl ?_
    refine T_gR (pc := 47) h hs hk0 fl_X9_93 rfl fk_9_38 dX9_back_47 (fun hq2 => ?_)
    refine T_iload_n (pc := 50) h dX9_back_50 rfl 3 rfl ?_
    refine T_iald (pc := 51) h hs hq2 dX9_back_51 ?_
    refine T_letI fun v3 => ?_
    refine T_istore (lv' := [(4, .int v3), (0, .ref x0), (1, .int (s.1)), (2, .int (s.2.1)), (3, .int (s.2.2.1))]) (pc := 52) h dX9_back_52 (by decide) rfl ?_
    refine T_iload (pc := 54) h dX9_back_54 0 rfl ?_
    refine T_bipush (pc := 56) h dX9_back_56 kb_58 ?_
    refine T_icmp_ne (pc := 58) (tgt := 66) h dX9_back_58 (by decide) ?_ ?_
    · refine T_iload (pc := 66) h dX9_back_66 0 rfl ?_
      refine T_bipush (pc := 68) h dX9_back_68 kb_59 ?_
      refine T_icmp_ne (pc := 70) (tgt := 80) h dX9_back_70 (by decide) ?_ ?_
      · refine T_iload_n (pc := 80) h dX9_back_80 rfl 3 rfl ?_
        refine T_iconst (pc := 81) h dX9_back_81 ki_m1 ?_
        refine T_icmp_ne (pc := 82) (tgt := 99) h dX9_back_82 (by decide) ?_ ?_
        · refine T_iload (pc := 99) h dX9_back_99 0 rfl ?_
          refine T_bipush (pc := 101) h dX9_back_101 kb_45 ?_
          refine T_icmp_eq (pc := 103) (tgt := 134) h dX9_back_103 (by decide) ?_ ?_
          · refine T_sub [1, 2, 3, 4] rfl ?_
            exact t_X9_back_L134 h hs x0 (s.1) (s.2.1) (s.2.2.1) (s.2.2.2) rec38 hr38 hk0
          · refine T_aload_n (pc := 106) h dX9_back_106 rfl 1 rfl ?_
            refine T_iload_n (pc := 107) h dX9_back_107 rfl 2 rfl ?_
            refine T_aload_n (pc := 108) h dX9_back_108 rfl 1 rfl ?_
            refine T_gR (pc := 109) h hs hk0 fl_X9_13 rfl fk_9_1 dX9_back_109 (fun hq4 => ?_)
            refine T_iload_n (pc := 112) h dX9_back_112 rfl 3 rfl ?_
            refine T_iald (pc := 113) h hs hq4 dX9_back_113 ?_
            refine T_iload (pc := 114) h dX9_back_114 0 rfl ?_
            refine T_iadd (pc := 116) h dX9_back_116 ?_
            refine T_bipush (pc := 117) h dX9_back_117 kb_97 ?_
            refine T_isub (pc := 119) h dX9_back_119 ?_
            refine T_iconst (pc := 120) h dX9_back_120 ki_1 ?_
            refine T_callVi (pc := 121) h (M_X9_puts (kl K) hs x0 (s.1) (((gI (s.2.2.2) (gR (s.2.2.2) x0 1) (s.2.1).toNatClampNeg) + v3) - (97 : Int32)) (1 : Int32) (s.2.2.2) hk0) mv_X9_puts hs hk0 ml_X9_136 rfl ⟨Nat.le_of_ble_eq_true rfl, Nat.le_of_ble_eq_true rfl⟩ ⟨Nat.le_refl 0, Nat.le_refl 0⟩ (Nat.le_of_ble_eq_true rfl) dX9_back_121 rfl (fun r6 s5 => ?_)
            refine T_istore (lv' := [(5, .int r6), (4, .int v3), (0, .ref x0), (1, .int (s.1)), (2, .int (s.2.1)), (3, .int (s.2.2.1))]) (pc := 124) h dX9_back_124 (by decide) rfl ?_
            refine T_aload_n (pc := 126) h dX9_back_126 rfl 2 rfl ?_
            refine T_gR (pc := 127) h hs hk0 fl_X9_41 rfl fk_9_11 dX9_back_127 (fun hq7 => ?_)
            refine T_iload (pc := 130) h dX9_back_130 0 rfl ?_
            refine T_iload_n (pc := 132) h dX9_back_132 rfl 4 rfl ?_
            refine T_iast (pc := 133) h hs hq7 dX9_back_133 ?_
            refine T_letS fun s8 => ?_
            refine T_sub [2, 3, 4, 5] rfl ?_
            exact t_X9_back_L134 h hs x0 (s.1) (s.2.1) (s.2.2.1) s8 rec38 hr38 hk0
        · refine T_bipush (pc := 85) h dX9_back_85 kb_10 ?_
          refine T_iload_n (pc := 87) h dX9_back_87 rfl 2 rfl ?_
          refine T_imul (pc := 88) h dX9_back_88 ?_
          refine T_iload (pc := 89) h dX9_back_89 0 rfl ?_
          refine T_iadd (pc := 91) h dX9_back_91 ?_
          refine T_bipush (pc := 92) h dX9_back_92 kb_48 ?_
          refine T_isub (pc := 94) h dX9_back_94 ?_
          refine T_letI fun v9 => ?_
          refine T_istore_n (lv' := [(1, .int v9), (4, .int v3), (0, .ref x0), (2, .int (s.2.1)), (3, .int (s.2.2.1))]) (pc := 95) h dX9_back_95 rfl (by decide) rfl ?_
          refine T_goto (pc := 96) (tgt := 137) h dX9_back_96 (by decide) ?_
          refine T_sub [2, 0, 3, 4] rfl ?_
          exact t_X9_back_L137 h hs x0 v9 (s.2.1) (s.2.2.1) (s.2.2.2) rec38 hr38 hk0
      · refine T_iconst (pc := 73) h dX9_back_73 ki_m1 ?_
        refine T_istore_n (lv' := [(2, .int (-1 : Int32)), (4, .int v3), (0, .ref x0), (1, .int (s.1)), (3, .int (s.2.2.1))]) (pc := 74) h dX9_back_74 rfl (by decide) rfl ?_
        refine T_iconst (pc := 75) h dX9_back_75 ki_0 ?_
        refine T_istore_n (lv' := [(1, .int (0 : Int32)), (2, .int (-1 : Int32)), (4, .int v3), (0, .ref x0), (3, .int (s.2.2.1))]) (pc := 76) h dX9_back_76 rfl (by decide) rfl ?_
        refine T_goto (pc := 77) (tgt := 137) h dX9_back_77 (by decide) ?_
        refine T_sub [3, 0, 1, 4] rfl ?_
        exact t_X9_back_L137 h hs x0 (0 : Int32) (-1 : Int32) (s.2.2.1) (s.2.2.2) rec38 hr38 hk0
    · refine T_iconst (pc := 61) h dX9_back_61 ki_0 ?_
      refine T_istore_n (lv' := [(2, .int (0 : Int32)), (4, .int v3), (0, .ref x0), (1, .int (s.1)), (3, .int (s.2.2.1))]) (pc := 62) h dX9_back_62 rfl (by decide) rfl ?_
      refine T_goto (pc := 63) (tgt := 137) h dX9_back_63 (by decide) ?_
      refine T_sub [2, 3, 0, 4] rfl ?_
      exact t_X9_back_L137 h hs x0 (s.1) (0 : Int32) (s.2.2.1) (s.2.2.2) rec38 hr38 hk0
theorem t_X9_back {K : Cx} (h : Ok K cX9_back RX9 6 rm_X9_back (some .int)) (hs : kiv K = St) (x0 : Nat) (σ : Sg) (hk0 : kd x0 9) : T K (QI K) 0 [(0, .ref x0)] [] 0 0 σ (f_X9_back x0 σ) := by
  unfold f_X9_back
  refine T_aload_n (pc := 0) h dX9_back_0 rfl 0 rfl ?_
  refine T_callVi (pc := 1) h (M_X9_flawNow (kl K) hs x0 σ hk0) mv_X9_flawNow hs hk0 ml_X9_319 rfl ⟨Nat.le_of_ble_eq_true rfl, Nat.le_of_ble_eq_true rfl⟩ ⟨Nat.le_refl 0, Nat.le_refl 0⟩ (Nat.le_of_ble_eq_true rfl) dX9_back_1 rfl (fun r2 s1 => ?_)
  refine T_iconst (pc := 4) h dX9_back_4 ki_m1 ?_
  refine T_icmp_eq (pc := 5) (tgt := 11) h dX9_back_5 (by decide) ?_ ?_
  · refine T_aload_n (pc := 11) h dX9_back_11 rfl 0 rfl ?_
    refine T_callVi (pc := 12) h (M_X9_lettersTyped (kl K) hs x0 s1 hk0) mv_X9_lettersTyped hs hk0 ml_X9_322 rfl ⟨Nat.le_of_ble_eq_true rfl, Nat.le_of_ble_eq_true rfl⟩ ⟨Nat.le_refl 0, Nat.le_refl 0⟩ (Nat.le_of_ble_eq_true rfl) dX9_back_12 rfl (fun r4 s3 => ?_)
    refine T_bipush (pc := 15) h dX9_back_15 kb_14 ?_
    refine T_icmp_le (pc := 17) (tgt := 23) h dX9_back_17 (by decide) ?_ ?_
    · refine T_aload_n (pc := 23) h dX9_back_23 rfl 0 rfl ?_
      refine T_callVv (pc := 24) h (M_X9_forgets (kl K) hs x0 s3 hk0) mv_X9_forgets hs hk0 ml_X9_119 rfl ⟨Nat.le_of_ble_eq_true rfl, Nat.le_of_ble_eq_true rfl⟩ ⟨Nat.le_refl 0, Nat.le_refl 0⟩ (Nat.le_of_ble_eq_true rfl) dX9_back_24 rfl (fun _ s5 => ?_)
      refine T_aload_n (pc := 27) h dX9_back_27 rfl 0 rfl ?_
      refine T_iconst (pc := 28) h dX9_back_28 ki_0 ?_
      refine T_putI (pc := 29) h hs hk0 fl_X9_130 rfl rfl dX9_back_29 ?_
      refine T_letS fun s6 => ?_
      refine T_iconst (pc := 32) h dX9_back_32 ki_0 ?_
      refine T_istore_n (lv' := [(1, .int (0 : Int32)), (0, .ref x0)]) (pc := 33) h dX9_back_33 rfl (by decide) rfl ?_
      refine T_iconst (pc := 34) h dX9_back_34 ki_m1 ?_
      refine T_istore_n (lv' := [(2, .int (-1 : Int32)), (1, .int (0 : Int32)), (0, .ref x0)]) (pc := 35) h dX9_back_35 rfl (by decide) rfl ?_
      refine T_iconst (pc := 36) h dX9_back_36 ki_0 ?_
      refine T_istore_n (lv' := [(3, .int (0 : Int32)), (2, .int (-1 : Int32)), (1, .int (0 : Int32)), (0, .ref x0)]) (pc := 37) h dX9_back_37 rfl (by decide) rfl ?_
      refine T_sub [3, 2, 1, 0] rfl ?_
      exact T_fx (B := f_X9_back_L38 x0) (fl := fun u => [(0, .ref x0), (1, .int (u.1)), (2, .int (u.2.1)), (3, .int (u.2.2.1))]) (f := fun u => (u.2.2.2)) (fun rec38 hr38 u => t_X9_back_L38 h hs x0 hk0 rec38 hr38 u) FU ((0 : Int32), (-1 : Int32), (0 : Int32), s6)
    · refine T_bipush (pc := 20) h dX9_back_20 kb_m4 ?_
      exact T_ireturn (pc := 22) h (Nat.zero_le _) (Nat.zero_le _) dX9_back_22
  · refine T_bipush (pc := 8) h dX9_back_8 kb_m3 ?_
    exact T_ireturn (pc := 10) h (Nat.zero_le _) (Nat.zero_le _) dX9_back_10
theorem M_X9_back (l : Launch) {iv : Sg → Prop} (hi : iv = St) (x0 : Nat) (σ : Sg) (hk0 : kd x0 9) : CTi l yX9_back cX9_back 6 (some .int) rm_X9_back iv [.ref x0] σ (f_X9_back x0 σ) := by
  subst hi
  exact CT_of (by decide) (Nat.le_of_ble_eq_true rfl) (fun K _ h _ hs _ _ => t_X9_back h hs x0 σ hk0)
/-! LuteTabsModel.sheet(III)I -/
theorem dX9_sheet_0 : decode cX9_sheet 0 = .ok (.iload_n 1, 1) := by decide +kernel
theorem dX9_sheet_1 : decode cX9_sheet 1 = .ok (.invokestatic 148, 3) := by decide +kernel
theorem dX9_sheet_4 : decode cX9_sheet 4 = .ok (.ifCond .eq 18, 3) := by decide +kernel
theorem dX9_sheet_7 : decode cX9_sheet 7 = .ok (.iload_n 2, 1) := by decide +kernel
theorem dX9_sheet_8 : decode cX9_sheet 8 = .ok (.iconst 0, 1) := by decide +kernel
theorem dX9_sheet_9 : decode cX9_sheet 9 = .ok (.iconst 2, 1) := by decide +kernel
theorem dX9_sheet_10 : decode cX9_sheet 10 = .ok (.invokestatic 115, 3) := by decide +kernel
theorem dX9_sheet_13 : decode cX9_sheet 13 = .ok (.ifCond .eq 9, 3) := by decide +kernel
theorem dX9_sheet_16 : decode cX9_sheet 16 = .ok (.iload_n 3, 1) := by decide +kernel
theorem dX9_sheet_17 : decode cX9_sheet 17 = .ok (.bipush 48, 2) := by decide +kernel
theorem dX9_sheet_19 : decode cX9_sheet 19 = .ok (.if_icmp .le 6, 3) := by decide +kernel
theorem dX9_sheet_22 : decode cX9_sheet 22 = .ok (.bipush (-2), 2) := by decide +kernel
theorem dX9_sheet_24 : decode cX9_sheet 24 = .ok (.ireturn, 1) := by decide +kernel
theorem dX9_sheet_25 : decode cX9_sheet 25 = .ok (.iload_n 3, 1) := by decide +kernel
theorem dX9_sheet_26 : decode cX9_sheet 26 = .ok (.ifCond .ge 9, 3) := by decide +kernel
theorem dX9_sheet_29 : decode cX9_sheet 29 = .ok (.aload_n 0, 1) := by decide +kernel
theorem dX9_sheet_30 : decode cX9_sheet 30 = .ok (.iconst 5, 1) := by decide +kernel
theorem dX9_sheet_31 : decode cX9_sheet 31 = .ok (.invokevirtual 151, 3) := by decide +kernel
theorem dX9_sheet_34 : decode cX9_sheet 34 = .ok (.ireturn, 1) := by decide +kernel
theorem dX9_sheet_35 : decode cX9_sheet 35 = .ok (.aload_n 0, 1) := by decide +kernel
theorem dX9_sheet_36 : decode cX9_sheet 36 = .ok (.getfield 96, 3) := by decide +kernel
theorem dX9_sheet_39 : decode cX9_sheet 39 = .ok (.iload_n 1, 1) := by decide +kernel
theorem dX9_sheet_40 : decode cX9_sheet 40 = .ok (.iload_n 2, 1) := by decide +kernel
theorem dX9_sheet_41 : decode cX9_sheet 41 = .ok (.iastore, 1) := by decide +kernel
theorem dX9_sheet_42 : decode cX9_sheet 42 = .ok (.aload_n 0, 1) := by decide +kernel
theorem dX9_sheet_43 : decode cX9_sheet 43 = .ok (.getfield 99, 3) := by decide +kernel
theorem dX9_sheet_46 : decode cX9_sheet 46 = .ok (.iload_n 1, 1) := by decide +kernel
theorem dX9_sheet_47 : decode cX9_sheet 47 = .ok (.iload_n 3, 1) := by decide +kernel
theorem dX9_sheet_48 : decode cX9_sheet 48 = .ok (.iastore, 1) := by decide +kernel
theorem dX9_sheet_49 : decode cX9_sheet 49 = .ok (.bipush 48, 2) := by decide +kernel
theorem dX9_sheet_51 : decode cX9_sheet 51 = .ok (.iload_n 1, 1) := by decide +kernel
theorem dX9_sheet_52 : decode cX9_sheet 52 = .ok (.imul, 1) := by decide +kernel
theorem dX9_sheet_53 : decode cX9_sheet 53 = .ok (.istore 4, 2) := by decide +kernel
theorem dX9_sheet_55 : decode cX9_sheet 55 = .ok (.iload 4, 2) := by decide +kernel
theorem dX9_sheet_57 : decode cX9_sheet 57 = .ok (.bipush 48, 2) := by decide +kernel
theorem dX9_sheet_59 : decode cX9_sheet 59 = .ok (.iload_n 1, 1) := by decide +kernel
theorem dX9_sheet_60 : decode cX9_sheet 60 = .ok (.imul, 1) := by decide +kernel
theorem dX9_sheet_61 : decode cX9_sheet 61 = .ok (.bipush 48, 2) := by decide +kernel
theorem dX9_sheet_63 : decode cX9_sheet 63 = .ok (.iadd, 1) := by decide +kernel
theorem dX9_sheet_64 : decode cX9_sheet 64 = .ok (.if_icmp .ge 17, 3) := by decide +kernel
theorem dX9_sheet_67 : decode cX9_sheet 67 = .ok (.aload_n 0, 1) := by decide +kernel
theorem dX9_sheet_68 : decode cX9_sheet 68 = .ok (.getfield 102, 3) := by decide +kernel
theorem dX9_sheet_71 : decode cX9_sheet 71 = .ok (.iload 4, 2) := by decide +kernel
theorem dX9_sheet_73 : decode cX9_sheet 73 = .ok (.lconst 0, 1) := by decide +kernel
theorem dX9_sheet_74 : decode cX9_sheet 74 = .ok (.lastore, 1) := by decide +kernel
theorem dX9_sheet_75 : decode cX9_sheet 75 = .ok (.iinc 4 1, 3) := by decide +kernel
theorem dX9_sheet_78 : decode cX9_sheet 78 = .ok (.goto (-23), 3) := by decide +kernel
theorem dX9_sheet_81 : decode cX9_sheet 81 = .ok (.iload_n 3, 1) := by decide +kernel
theorem dX9_sheet_82 : decode cX9_sheet 82 = .ok (.ireturn, 1) := by decide +kernel
abbrev rm_X9_sheet : Room := { frames := 2, cells := 0, slots := 0, locals := 42 }
def f_X9_sheet_L22    (σ : Sg) : Option (Int32 × Sg) := some ((-2 : Int32), σ)
def f_X9_sheet_L55  (x0 : Nat) (x1 : Int32) (x3 : Int32) (rec55 : Int32 × Sg → Option (Int32 × Sg)) (s : Int32 × Sg) : Option (Int32 × Sg) := (if (((48 : Int32) * x1) + (48 : Int32)) ≤ (s.1) then some (x3, (s.2)) else ck (inb (s.1) (aL (gR (s.2) x0 46))) (lB (pL (s.2) (gR (s.2) x0 46) (s.1).toNatClampNeg (0 : Int64)) fun s2 => lB ((s.1) + (1 : Int32)) fun v3 => rec55 (v3, s2)))
def f_X9_sheet (x0 : Nat) (x1 : Int32) (x2 : Int32) (x3 : Int32) (σ : Sg) : Option (Int32 × Sg) := bd (f_X9_isSheet x1 σ) fun r2 s1 => (if r2 = 0 then f_X9_sheet_L22 s1 else bd (f_X9_in x2 (0 : Int32) (2 : Int32) s1) fun r4 s3 => (if r4 = 0 then f_X9_sheet_L22 s3 else (if x3 ≤ (48 : Int32) then (if 0 ≤ x3 then ck (inb x1 (aL (gR s3 x0 44))) (lB (pI s3 (gR s3 x0 44) x1.toNatClampNeg x2) fun s6 => ck (inb x1 (aL (gR s6 x0 45))) (lB (pI s6 (gR s6 x0 45) x1.toNatClampNeg x3) fun s8 => lB (((48 : Int32) * x1)) fun v9 => fx (f_X9_sheet_L55 x0 x1 x3) FU (v9, s8))) else bd (f_X9_meets x0 (5 : Int32) s3) fun r11 s10 => some (r11, s10)) else f_X9_sheet_L22 s3)))
theorem t_X9_sheet_L22 {K : Cx} (h : Ok K cX9_sheet RX9 5 rm_X9_sheet (some .int)) (hs : kiv K = St)   (σ : Sg)    : T K (QI K) 22 [] [] 0 0 σ (f_X9_sheet_L22 σ) := by
  unfold f_X9_sheet_L22
  refine T_bipush (pc := 22) h dX9_sheet_22 kb_m2 ?_
  exact T_ireturn (pc := 24) h (Nat.zero_le _) (Nat.zero_le _) dX9_sheet_24
theorem t_X9_sheet_L55 {K : Cx} (h : Ok K cX9_sheet RX9 5 rm_X9_sheet (some .int)) (hs : kiv K = St) (x0 : Nat) (x1 : Int32) (x3 : Int32)  (hk0 : kd x0 9) (rec55 : Int32 × Sg → Option (Int32 × Sg)) (hr55 : ∀ u, T K (QI K) 55 [(0, .ref x0), (1, .int x1), (3, .int x3), (4, .int (u.1))] [] 0 0 (u.2) (rec55 u)) (s : Int32 × Sg) : T K (QI K) 55 [(0, .ref x0), (1, .int x1), (3, .int x3), (4, .int (s.1))] [] 0 0 (s.2) (f_X9_sheet_L55 x0 x1 x3 rec55 s) := by
  unfold f_X9_sheet_L55
  refine T_iload (pc := 55) h dX9_sheet_55 3 rfl ?_
  refine T_bipush (pc := 57) h dX9_sheet_57 kb_48 ?_
  refine T_iload_n (pc := 59) h dX9_sheet_59 rfl 1 rfl ?_
  refine T_imul (pc := 60) h dX9_sheet_60 ?_
  refine T_bipush (pc := 61) h dX9_sheet_61 kb_48 ?_
  refine T_iadd (pc := 63) h dX9_sheet_63 ?_
  refine T_icmp_ge (pc := 64) (tgt := 81) h dX9_sheet_64 (by decide) ?_ ?_
  · refine T_iload_n (pc := 81) h dX9_sheet_81 rfl 2 rfl ?_
    exact T_ireturn (pc := 82) h (Nat.zero_le _) (Nat.zero_le _) dX9_sheet_82
  · refine T_aload_n (pc := 67) h dX9_sheet_67 rfl 0 rfl ?_
    refine T_gR (pc := 68) h hs hk0 fl_X9_102 rfl fk_9_46 dX9_sheet_68 (fun hq1 => ?_)
    refine T_iload (pc := 71) h dX9_sheet_71 3 rfl ?_
    refine T_lconst (pc := 73) h dX9_sheet_73 kl_0 ?_
    refine T_last (pc := 74) h hs hq1 dX9_sheet_74 ?_
    refine T_letS fun s2 => ?_
    refine T_iinc (fl := fun v3 => [(4, .int v3), (0, .ref x0), (1, .int x1), (3, .int x3)]) (pc := 75) h dX9_sheet_75 3 rfl ki_1 (by decide) (fun _ => rfl) (fun v3 => ?_)
    refine T_goto (pc := 78) (tgt := 55) h dX9_sheet_78 (by decide) ?_
    refine T_sub [1, 2, 3, 0] rfl ?_
    exact hr55 (v3, s2)
theorem t_X9_sheet {K : Cx} (h : Ok K cX9_sheet RX9 5 rm_X9_sheet (some .int)) (hs : kiv K = St) (x0 : Nat) (x1 : Int32) (x2 : Int32) (x3 : Int32) (σ : Sg) (hk0 : kd x0 9) : T K (QI K) 0 [(0, .ref x0), (1, .int x1), (2, .int x2), (3, .int x3)] [] 0 0 σ (f_X9_sheet x0 x1 x2 x3 σ) := by
  unfold f_X9_sheet
  refine T_iload_n (pc := 0) h dX9_sheet_0 rfl 1 rfl ?_
  refine T_callSi (pc := 1) h (M_X9_isSheet (kl K) hs x1 σ ) mst_X9_isSheet ml_X9_148 rfl ⟨Nat.le_of_ble_eq_true rfl, Nat.le_of_ble_eq_true rfl⟩ ⟨Nat.le_refl 0, Nat.le_refl 0⟩ (Nat.le_of_ble_eq_true rfl) dX9_sheet_1 rfl (fun r2 s1 => ?_)
  refine T_if_eq (pc := 4) (tgt := 22) h dX9_sheet_4 (by decide) ?_ ?_
  · refine T_sub [] rfl ?_
    exact t_X9_sheet_L22 h hs s1
  · refine T_iload_n (pc := 7) h dX9_sheet_7 rfl 2 rfl ?_
    refine T_iconst (pc := 8) h dX9_sheet_8 ki_0 ?_
    refine T_iconst (pc := 9) h dX9_sheet_9 ki_2 ?_
    refine T_callSi (pc := 10) h (M_X9_in (kl K) hs x2 (0 : Int32) (2 : Int32) s1 ) mst_X9_in ml_X9_115 rfl ⟨Nat.le_of_ble_eq_true rfl, Nat.le_of_ble_eq_true rfl⟩ ⟨Nat.le_refl 0, Nat.le_refl 0⟩ (Nat.le_of_ble_eq_true rfl) dX9_sheet_10 rfl (fun r4 s3 => ?_)
    refine T_if_eq (pc := 13) (tgt := 22) h dX9_sheet_13 (by decide) ?_ ?_
    · refine T_sub [] rfl ?_
      exact t_X9_sheet_L22 h hs s3
    · refine T_iload_n (pc := 16) h dX9_sheet_16 rfl 3 rfl ?_
      refine T_bipush (pc := 17) h dX9_sheet_17 kb_48 ?_
      refine T_icmp_le (pc := 19) (tgt := 25) h dX9_sheet_19 (by decide) ?_ ?_
      · refine T_iload_n (pc := 25) h dX9_sheet_25 rfl 3 rfl ?_
        refine T_if_ge (pc := 26) (tgt := 35) h dX9_sheet_26 (by decide) ?_ ?_
        · refine T_aload_n (pc := 35) h dX9_sheet_35 rfl 0 rfl ?_
          refine T_gR (pc := 36) h hs hk0 fl_X9_96 rfl fk_9_44 dX9_sheet_36 (fun hq5 => ?_)
          refine T_iload_n (pc := 39) h dX9_sheet_39 rfl 1 rfl ?_
          refine T_iload_n (pc := 40) h dX9_sheet_40 rfl 2 rfl ?_
          refine T_iast (pc := 41) h hs hq5 dX9_sheet_41 ?_
          refine T_letS fun s6 => ?_
          refine T_aload_n (pc := 42) h dX9_sheet_42 rfl 0 rfl ?_
          refine T_gR (pc := 43) h hs hk0 fl_X9_99 rfl fk_9_45 dX9_sheet_43 (fun hq7 => ?_)
          refine T_iload_n (pc := 46) h dX9_sheet_46 rfl 1 rfl ?_
          refine T_iload_n (pc := 47) h dX9_sheet_47 rfl 3 rfl ?_
          refine T_iast (pc := 48) h hs hq7 dX9_sheet_48 ?_
          refine T_letS fun s8 => ?_
          refine T_bipush (pc := 49) h dX9_sheet_49 kb_48 ?_
          refine T_iload_n (pc := 51) h dX9_sheet_51 rfl 1 rfl ?_
          refine T_imul (pc := 52) h dX9_sheet_52 ?_
          refine T_letI fun v9 => ?_
          refine T_istore (lv' := [(4, .int v9), (0, .ref x0), (1, .int x1), (2, .int x2), (3, .int x3)]) (pc := 53) h dX9_sheet_53 (by decide) rfl ?_
          refine T_sub [1, 2, 4, 0] rfl ?_
          exact T_fx (B := f_X9_sheet_L55 x0 x1 x3) (fl := fun u => [(0, .ref x0), (1, .int x1), (3, .int x3), (4, .int (u.1))]) (f := fun u => (u.2)) (fun rec55 hr55 u => t_X9_sheet_L55 h hs x0 x1 x3 hk0 rec55 hr55 u) FU (v9, s8)
        · refine T_aload_n (pc := 29) h dX9_sheet_29 rfl 0 rfl ?_
          refine T_iconst (pc := 30) h dX9_sheet_30 ki_5 ?_
          refine T_callVi (pc := 31) h (M_X9_meets (kl K) hs x0 (5 : Int32) s3 hk0) mv_X9_meets hs hk0 ml_X9_151 rfl ⟨Nat.le_of_ble_eq_true rfl, Nat.le_of_ble_eq_true rfl⟩ ⟨Nat.le_refl 0, Nat.le_refl 0⟩ (Nat.le_of_ble_eq_true rfl) dX9_sheet_31 rfl (fun r11 s10 => ?_)
          exact T_ireturn (pc := 34) h (Nat.zero_le _) (Nat.zero_le _) dX9_sheet_34
      · refine T_sub [] rfl ?_
        exact t_X9_sheet_L22 h hs s3
theorem M_X9_sheet (l : Launch) {iv : Sg → Prop} (hi : iv = St) (x0 : Nat) (x1 : Int32) (x2 : Int32) (x3 : Int32) (σ : Sg) (hk0 : kd x0 9) : CTi l yX9_sheet cX9_sheet 5 (some .int) rm_X9_sheet iv [.ref x0, .int x1, .int x2, .int x3] σ (f_X9_sheet x0 x1 x2 x3 σ) := by
  subst hi
  exact CT_of (by decide) (Nat.le_of_ble_eq_true rfl) (fun K _ h _ hs _ _ => t_X9_sheet h hs x0 x1 x2 x3 σ hk0)
/-! LuteTabsModel.lose(I)I -/
theorem dX9_lose_0 : decode cX9_lose 0 = .ok (.iload_n 1, 1) := by decide +kernel
theorem dX9_lose_1 : decode cX9_lose 1 = .ok (.invokestatic 148, 3) := by decide +kernel
theorem dX9_lose_4 : decode cX9_lose 4 = .ok (.ifCond .ne 6, 3) := by decide +kernel
theorem dX9_lose_7 : decode cX9_lose 7 = .ok (.bipush (-2), 2) := by decide +kernel
theorem dX9_lose_9 : decode cX9_lose 9 = .ok (.ireturn, 1) := by decide +kernel
theorem dX9_lose_10 : decode cX9_lose 10 = .ok (.aload_n 0, 1) := by decide +kernel
theorem dX9_lose_11 : decode cX9_lose 11 = .ok (.getfield 96, 3) := by decide +kernel
theorem dX9_lose_14 : decode cX9_lose 14 = .ok (.iload_n 1, 1) := by decide +kernel
theorem dX9_lose_15 : decode cX9_lose 15 = .ok (.iaload, 1) := by decide +kernel
theorem dX9_lose_16 : decode cX9_lose 16 = .ok (.iconst (-1), 1) := by decide +kernel
theorem dX9_lose_17 : decode cX9_lose 17 = .ok (.if_icmp .ne 9, 3) := by decide +kernel
theorem dX9_lose_20 : decode cX9_lose 20 = .ok (.aload_n 0, 1) := by decide +kernel
theorem dX9_lose_21 : decode cX9_lose 21 = .ok (.iconst 1, 1) := by decide +kernel
theorem dX9_lose_22 : decode cX9_lose 22 = .ok (.invokevirtual 151, 3) := by decide +kernel
theorem dX9_lose_25 : decode cX9_lose 25 = .ok (.ireturn, 1) := by decide +kernel
theorem dX9_lose_26 : decode cX9_lose 26 = .ok (.aload_n 0, 1) := by decide +kernel
theorem dX9_lose_27 : decode cX9_lose 27 = .ok (.getfield 96, 3) := by decide +kernel
theorem dX9_lose_30 : decode cX9_lose 30 = .ok (.iload_n 1, 1) := by decide +kernel
theorem dX9_lose_31 : decode cX9_lose 31 = .ok (.iconst (-1), 1) := by decide +kernel
theorem dX9_lose_32 : decode cX9_lose 32 = .ok (.iastore, 1) := by decide +kernel
theorem dX9_lose_33 : decode cX9_lose 33 = .ok (.aload_n 0, 1) := by decide +kernel
theorem dX9_lose_34 : decode cX9_lose 34 = .ok (.getfield 99, 3) := by decide +kernel
theorem dX9_lose_37 : decode cX9_lose 37 = .ok (.iload_n 1, 1) := by decide +kernel
theorem dX9_lose_38 : decode cX9_lose 38 = .ok (.iaload, 1) := by decide +kernel
theorem dX9_lose_39 : decode cX9_lose 39 = .ok (.ireturn, 1) := by decide +kernel
abbrev rm_X9_lose : Room := { frames := 2, cells := 0, slots := 0, locals := 42 }
def f_X9_lose (x0 : Nat) (x1 : Int32) (σ : Sg) : Option (Int32 × Sg) := bd (f_X9_isSheet x1 σ) fun r2 s1 => (if r2 = 0 then some ((-2 : Int32), s1) else ck (inb x1 (aL (gR s1 x0 44))) ((if (gI s1 (gR s1 x0 44) x1.toNatClampNeg) = (-1 : Int32) then bd (f_X9_meets x0 (1 : Int32) s1) fun r8 s7 => some (r8, s7) else ck (inb x1 (aL (gR s1 x0 44))) (lB (pI s1 (gR s1 x0 44) x1.toNatClampNeg (-1 : Int32)) fun s5 => ck (inb x1 (aL (gR s5 x0 45))) (some ((gI s5 (gR s5 x0 45) x1.toNatClampNeg), s5))))))
theorem t_X9_lose {K : Cx} (h : Ok K cX9_lose RX9 2 rm_X9_lose (some .int)) (hs : kiv K = St) (x0 : Nat) (x1 : Int32) (σ : Sg) (hk0 : kd x0 9) : T K (QI K) 0 [(0, .ref x0), (1, .int x1)] [] 0 0 σ (f_X9_lose x0 x1 σ) := by
  unfold f_X9_lose
  refine T_iload_n (pc := 0) h dX9_lose_0 rfl 1 rfl ?_
  refine T_callSi (pc := 1) h (M_X9_isSheet (kl K) hs x1 σ ) mst_X9_isSheet ml_X9_148 rfl ⟨Nat.le_of_ble_eq_true rfl, Nat.le_of_ble_eq_true rfl⟩ ⟨Nat.le_refl 0, Nat.le_refl 0⟩ (Nat.le_of_ble_eq_true rfl) dX9_lose_1 rfl (fun r2 s1 => ?_)
  refine T_if_ne (pc := 4) (tgt := 10) h dX9_lose_4 (by decide) ?_ ?_
  · refine T_aload_n (pc := 10) h dX9_lose_10 rfl 0 rfl ?_
    refine T_gR (pc := 11) h hs hk0 fl_X9_96 rfl fk_9_44 dX9_lose_11 (fun hq3 => ?_)
    refine T_iload_n (pc := 14) h dX9_lose_14 rfl 1 rfl ?_
    refine T_iald (pc := 15) h hs hq3 dX9_lose_15 ?_
    refine T_iconst (pc := 16) h dX9_lose_16 ki_m1 ?_
    refine T_icmp_ne (pc := 17) (tgt := 26) h dX9_lose_17 (by decide) ?_ ?_
    · refine T_aload_n (pc := 26) h dX9_lose_26 rfl 0 rfl ?_
      refine T_gR (pc := 27) h hs hk0 fl_X9_96 rfl fk_9_44 dX9_lose_27 (fun hq4 => ?_)
      refine T_iload_n (pc := 30) h dX9_lose_30 rfl 1 rfl ?_
      refine T_iconst (pc := 31) h dX9_lose_31 ki_m1 ?_
      refine T_iast (pc := 32) h hs hq4 dX9_lose_32 ?_
      refine T_letS fun s5 => ?_
      refine T_aload_n (pc := 33) h dX9_lose_33 rfl 0 rfl ?_
      refine T_gR (pc := 34) h hs hk0 fl_X9_99 rfl fk_9_45 dX9_lose_34 (fun hq6 => ?_)
      refine T_iload_n (pc := 37) h dX9_lose_37 rfl 1 rfl ?_
      refine T_iald (pc := 38) h hs hq6 dX9_lose_38 ?_
      exact T_ireturn (pc := 39) h (Nat.zero_le _) (Nat.zero_le _) dX9_lose_39
    · refine T_aload_n (pc := 20) h dX9_lose_20 rfl 0 rfl ?_
      refine T_iconst (pc := 21) h dX9_lose_21 ki_1 ?_
      refine T_callVi (pc := 22) h (M_X9_meets (kl K) hs x0 (1 : Int32) s1 hk0) mv_X9_meets hs hk0 ml_X9_151 rfl ⟨Nat.le_of_ble_eq_true rfl, Nat.le_of_ble_eq_true rfl⟩ ⟨Nat.le_refl 0, Nat.le_refl 0⟩ (Nat.le_of_ble_eq_true rfl) dX9_lose_22 rfl (fun r8 s7 => ?_)
      exact T_ireturn (pc := 25) h (Nat.zero_le _) (Nat.zero_le _) dX9_lose_25
  · refine T_bipush (pc := 7) h dX9_lose_7 kb_m2 ?_
    exact T_ireturn (pc := 9) h (Nat.zero_le _) (Nat.zero_le _) dX9_lose_9
theorem M_X9_lose (l : Launch) {iv : Sg → Prop} (hi : iv = St) (x0 : Nat) (x1 : Int32) (σ : Sg) (hk0 : kd x0 9) : CTi l yX9_lose cX9_lose 2 (some .int) rm_X9_lose iv [.ref x0, .int x1] σ (f_X9_lose x0 x1 σ) := by
  subst hi
  exact CT_of (by decide) (Nat.le_of_ble_eq_true rfl) (fun K _ h _ hs _ _ => t_X9_lose h hs x0 x1 σ hk0)
