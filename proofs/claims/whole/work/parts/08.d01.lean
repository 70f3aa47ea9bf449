/-! LuteTabs.startAnew()V -/
theorem dX8_startAnew_0 : decode cX8_startAnew 0 = .ok (.aload_n 0, 1) := by decide +kernel
theorem dX8_startAnew_1 : decode cX8_startAnew 1 = .ok (.iconst 0, 1) := by decide +kernel
theorem dX8_startAnew_2 : decode cX8_startAnew 2 = .ok (.putfield 81, 3) := by decide +kernel
theorem dX8_startAnew_5 : decode cX8_startAnew 5 = .ok (.iconst 0, 1) := by decide +kernel
theorem dX8_startAnew_6 : decode cX8_startAnew 6 = .ok (.istore_n 1, 1) := by decide +kernel
theorem dX8_startAnew_7 : decode cX8_startAnew 7 = .ok (.iload_n 1, 1) := by decide +kernel
theorem dX8_startAnew_8 : decode cX8_startAnew 8 = .ok (.iconst 4, 1) := by decide +kernel
theorem dX8_startAnew_9 : decode cX8_startAnew 9 = .ok (.if_icmp .ge 16, 3) := by decide +kernel
theorem dX8_startAnew_12 : decode cX8_startAnew 12 = .ok (.aload_n 0, 1) := by decide +kernel
theorem dX8_startAnew_13 : decode cX8_startAnew 13 = .ok (.getfield 73, 3) := by decide +kernel
theorem dX8_startAnew_16 : decode cX8_startAnew 16 = .ok (.iload_n 1, 1) := by decide +kernel
theorem dX8_startAnew_17 : decode cX8_startAnew 17 = .ok (.iconst 0, 1) := by decide +kernel
theorem dX8_startAnew_18 : decode cX8_startAnew 18 = .ok (.bastore, 1) := by decide +kernel
theorem dX8_startAnew_19 : decode cX8_startAnew 19 = .ok (.iinc 1 1, 3) := by decide +kernel
theorem dX8_startAnew_22 : decode cX8_startAnew 22 = .ok (.goto (-15), 3) := by decide +kernel
theorem dX8_startAnew_25 : decode cX8_startAnew 25 = .ok (.aload_n 0, 1) := by decide +kernel
theorem dX8_startAnew_26 : decode cX8_startAnew 26 = .ok (.getfield 37, 3) := by decide +kernel
theorem dX8_startAnew_29 : decode cX8_startAnew 29 = .ok (.invokevirtual 110, 3) := by decide +kernel
theorem dX8_startAnew_32 : decode cX8_startAnew 32 = .ok (.return_, 1) := by decide +kernel
abbrev rm_X8_startAnew : Room := { frames := 1, cells := 0, slots := 0, locals := 21 }
def f_X8_startAnew_L7  (x0 : Nat) (rec7 : Int32 × Sg → Option (Unit × Sg)) (s : Int32 × Sg) : Option (Unit × Sg) := (if (4 : Int32) ≤ (s.1) then bd (f_X5_forget (gR (s.2) x0 3) (s.2)) fun _ s2 => some ((), s2) else ck (inb (s.1) (aL (gR (s.2) x0 9))) (ck (b01 (0 : Int32)) (lB (pI (s.2) (gR (s.2) x0 9) (s.1).toNatClampNeg (0 : Int32)) fun s4 => lB ((s.1) + (1 : Int32)) fun v5 => rec7 (v5, s4))))
def f_X8_startAnew (x0 : Nat) (σ : Sg) : Option (Unit × Sg) := ck (b01 (0 : Int32)) (lB (pI σ x0 11 (0 : Int32)) fun s1 => fx (f_X8_startAnew_L7 x0) FU ((0 : Int32), s1))
theorem t_X8_startAnew_L7 {K : Cx} (h : Ok K cX8_startAnew RX8 2 rm_X8_startAnew none) (hs : kiv K = St) (x0 : Nat)  (hk0 : kd x0 8) (rec7 : Int32 × Sg → Option (Unit × Sg)) (hr7 : ∀ u, T K (QV K) 7 [(0, .ref x0), (1, .int (u.1))] [] 0 0 (u.2) (rec7 u)) (s : Int32 × Sg) : T K (QV K) 7 [(0, .ref x0), (1, .int (s.1))] [] 0 0 (s.2) (f_X8_startAnew_L7 x0 rec7 s) := by
  unfold f_X8_startAnew_L7
  refine T_iload_n (pc := 7) h dX8_startAnew_7 rfl 1 rfl ?_
  refine T_iconst (pc := 8) h dX8_startAnew_8 ki_4 ?_
  refine T_icmp_ge (pc := 9) (tgt := 25) h dX8_startAnew_9 (by decide) ?_ ?_
  · refine T_aload_n (pc := 25) h dX8_startAnew_25 rfl 0 rfl ?_
    refine T_gR (pc := 26) h hs hk0 fl_X8_37 rfl fk_8_3 dX8_startAnew_26 (fun hq1 => ?_)
    refine T_callVv (pc := 29) h (M_X5_forget (kl K) hs (gR (s.2) x0 3) (s.2) hq1) mv_X5_forget hs hq1 ml_X8_110 rfl ⟨Nat.le_of_ble_eq_true rfl, Nat.le_of_ble_eq_true rfl⟩ ⟨Nat.le_refl 0, Nat.le_refl 0⟩ (Nat.le_of_ble_eq_true rfl) dX8_startAnew_29 rfl (fun _ s2 => ?_)
    exact T_return (pc := 32) h (Nat.zero_le _) (Nat.zero_le _) dX8_startAnew_32
  · refine T_aload_n (pc := 12) h dX8_startAnew_12 rfl 0 rfl ?_
    refine T_gR (pc := 13) h hs hk0 fl_X8_73 rfl fk_8_9 dX8_startAnew_13 (fun hq3 => ?_)
    refine T_iload_n (pc := 16) h dX8_startAnew_16 rfl 1 rfl ?_
    refine T_iconst (pc := 17) h dX8_startAnew_17 ki_0 ?_
    refine T_zast (pc := 18) h hs hq3 dX8_startAnew_18 ?_
    refine T_letS fun s4 => ?_
    refine T_iinc (fl := fun v5 => [(1, .int v5), (0, .ref x0)]) (pc := 19) h dX8_startAnew_19 1 rfl ki_1 (by decide) (fun _ => rfl) (fun v5 => ?_)
    refine T_goto (pc := 22) (tgt := 7) h dX8_startAnew_22 (by decide) ?_
    refine T_sub [1, 0] rfl ?_
    exact hr7 (v5, s4)
theorem t_X8_startAnew {K : Cx} (h : Ok K cX8_startAnew RX8 2 rm_X8_startAnew none) (hs : kiv K = St) (x0 : Nat) (σ : Sg) (hk0 : kd x0 8) : T K (QV K) 0 [(0, .ref x0)] [] 0 0 σ (f_X8_startAnew x0 σ) := by
  unfold f_X8_startAnew
  refine T_aload_n (pc := 0) h dX8_startAnew_0 rfl 0 rfl ?_
  refine T_iconst (pc := 1) h dX8_startAnew_1 ki_0 ?_
  refine T_putZ (pc := 2) h hs hk0 fl_X8_81 rfl rfl dX8_startAnew_2 ?_
  refine T_letS fun s1 => ?_
  refine T_iconst (pc := 5) h dX8_startAnew_5 ki_0 ?_
  refine T_istore_n (lv' := [(1, .int (0 : Int32)), (0, .ref x0)]) (pc := 6) h dX8_startAnew_6 rfl (by decide) rfl ?_
  refine T_sub [1, 0] rfl ?_
  exact T_fx (B := f_X8_startAnew_L7 x0) (fl := fun u => [(0, .ref x0), (1, .int (u.1))]) (f := fun u => (u.2)) (fun rec7 hr7 u => t_X8_startAnew_L7 h hs x0 hk0 rec7 hr7 u) FU ((0 : Int32), s1)
theorem M_X8_startAnew (l : Launch) {iv : Sg → Prop} (hi : iv = St) (x0 : Nat) (σ : Sg) (hk0 : kd x0 8) : CTv l yX8_startAnew cX8_startAnew 2 none rm_X8_startAnew iv [.ref x0] σ (f_X8_startAnew x0 σ) := by
  subst hi
  exact CT_of (by decide) (Nat.le_of_ble_eq_true rfl) (fun K _ h _ hs _ _ => t_X8_startAnew h hs x0 σ hk0)
/-! LuteTabs.courses(I)I -/
theorem dX8_courses_0 : decode cX8_courses 0 = .ok (.iload_n 1, 1) := by decide +kernel
theorem dX8_courses_1 : decode cX8_courses 1 = .ok (.iconst 2, 1) := by decide +kernel
theorem dX8_courses_2 : decode cX8_courses 2 = .ok (.if_icmp .lt 8, 3) := by decide +kernel
theorem dX8_courses_5 : decode cX8_courses 5 = .ok (.iload_n 1, 1) := by decide +kernel
theorem dX8_courses_6 : decode cX8_courses 6 = .ok (.iconst 5, 1) := by decide +kernel
theorem dX8_courses_7 : decode cX8_courses 7 = .ok (.if_icmp .le 6, 3) := by decide +kernel
theorem dX8_courses_10 : decode cX8_courses 10 = .ok (.bipush (-2), 2) := by decide +kernel
theorem dX8_courses_12 : decode cX8_courses 12 = .ok (.ireturn, 1) := by decide +kernel
theorem dX8_courses_13 : decode cX8_courses 13 = .ok (.aload_n 0, 1) := by decide +kernel
theorem dX8_courses_14 : decode cX8_courses 14 = .ok (.getfield 10, 3) := by decide +kernel
theorem dX8_courses_17 : decode cX8_courses 17 = .ok (.getfield 90, 3) := by decide +kernel
theorem dX8_courses_20 : decode cX8_courses 20 = .ok (.istore_n 2, 1) := by decide +kernel
theorem dX8_courses_21 : decode cX8_courses 21 = .ok (.aload_n 0, 1) := by decide +kernel
theorem dX8_courses_22 : decode cX8_courses 22 = .ok (.getfield 10, 3) := by decide +kernel
theorem dX8_courses_25 : decode cX8_courses 25 = .ok (.iload_n 1, 1) := by decide +kernel
theorem dX8_courses_26 : decode cX8_courses 26 = .ok (.putfield 90, 3) := by decide +kernel
theorem dX8_courses_29 : decode cX8_courses 29 = .ok (.aload_n 0, 1) := by decide +kernel
theorem dX8_courses_30 : decode cX8_courses 30 = .ok (.invokevirtual 93, 3) := by decide +kernel
theorem dX8_courses_33 : decode cX8_courses 33 = .ok (.iload_n 2, 1) := by decide +kernel
theorem dX8_courses_34 : decode cX8_courses 34 = .ok (.ireturn, 1) := by decide +kernel
abbrev rm_X8_courses : Room := { frames := 2, cells := 0, slots := 0, locals := 42 }
def f_X8_courses_L10    (σ : Sg) : Option (Int32 × Sg) := some ((-2 : Int32), σ)
def f_X8_courses (x0 : Nat) (x1 : Int32) (σ : Sg) : Option (Int32 × Sg) := (if x1 < (2 : Int32) then f_X8_courses_L10 σ else (if x1 ≤ (5 : Int32) then lB ((gI σ (gR σ x0 0) 0)) fun v2 => lB (pI σ (gR σ x0 0) 0 x1) fun s4 => bd (f_X8_startAnew x0 s4) fun _ s5 => some (v2, s5) else f_X8_courses_L10 σ))
theorem t_X8_courses_L10 {K : Cx} (h : Ok K cX8_courses RX8 3 rm_X8_courses (some .int)) (hs : kiv K = St)   (σ : Sg)    : T K (QI K) 10 [] [] 0 0 σ (f_X8_courses_L10 σ) := by
  unfold f_X8_courses_L10
  refine T_bipush (pc := 10) h dX8_courses_10 kb_m2 ?_
  exact T_ireturn (pc := 12) h (Nat.zero_le _) (Nat.zero_le _) dX8_courses_12
theorem t_X8_courses {K : Cx} (h : Ok K cX8_courses RX8 3 rm_X8_courses (some .int)) (hs : kiv K = St) (x0 : Nat) (x1 : Int32) (σ : Sg) (hk0 : kd x0 8) : T K (QI K) 0 [(0, .ref x0), (1, .int x1)] [] 0 0 σ (f_X8_courses x0 x1 σ) := by
  unfold f_X8_courses
  refine T_iload_n (pc := 0) h dX8_courses_0 rfl 1 rfl ?_
  refine T_iconst (pc := 1) h dX8_courses_1 ki_2 ?_
  refine T_icmp_lt (pc := 2) (tgt := 10) h dX8_courses_2 (by decide) ?_ ?_
  · refine T_sub [] rfl ?_
    exact t_X8_courses_L10 h hs σ
  · refine T_iload_n (pc := 5) h dX8_courses_5 rfl 1 rfl ?_
    refine T_iconst (pc := 6) h dX8_courses_6 ki_5 ?_
    refine T_icmp_le (pc := 7) (tgt := 13) h dX8_courses_7 (by decide) ?_ ?_
    · refine T_aload_n (pc := 13) h dX8_courses_13 rfl 0 rfl ?_
      refine T_gR (pc := 14) h hs hk0 fl_X8_10 rfl fk_8_0 dX8_courses_14 (fun hq1 => ?_)
      refine T_getI (pc := 17) h hs hq1 fl_X8_90 rfl dX8_courses_17 ?_
      refine T_letI fun v2 => ?_
      refine T_istore_n (lv' := [(2, .int v2), (0, .ref x0), (1, .int x1)]) (pc := 20) h dX8_courses_20 rfl (by decide) rfl ?_
      refine T_aload_n (pc := 21) h dX8_courses_21 rfl 1 rfl ?_
      refine T_gR (pc := 22) h hs hk0 fl_X8_10 rfl fk_8_0 dX8_courses_22 (fun hq3 => ?_)
      refine T_iload_n (pc := 25) h dX8_courses_25 rfl 2 rfl ?_
      refine T_putI (pc := 26) h hs hq3 fl_X8_90 rfl rfl dX8_courses_26 ?_
      refine T_letS fun s4 => ?_
      refine T_aload_n (pc := 29) h dX8_courses_29 rfl 1 rfl ?_
      refine T_callVv (pc := 30) h (M_X8_startAnew (kl K) hs x0 s4 hk0) mv_X8_startAnew hs hk0 ml_X8_93 rfl ⟨Nat.le_of_ble_eq_true rfl, Nat.le_of_ble_eq_true rfl⟩ ⟨Nat.le_refl 0, Nat.le_refl 0⟩ (Nat.le_of_ble_eq_true rfl) dX8_courses_30 rfl (fun _ s5 => ?_)
      refine T_iload_n (pc := 33) h dX8_courses_33 rfl 0 rfl ?_
      exact T_ireturn (pc := 34) h (Nat.zero_le _) (Nat.zero_le _) dX8_courses_34
    · refine T_sub [] rfl ?_
      exact t_X8_courses_L10 h hs σ
theorem M_X8_courses (l : Launch) {iv : Sg → Prop} (hi : iv = St) (x0 : Nat) (x1 : Int32) (σ : Sg) (hk0 : kd x0 8) : CTi l yX8_courses cX8_courses 3 (some .int) rm_X8_courses iv [.ref x0, .int x1] σ (f_X8_courses x0 x1 σ) := by
  subst hi
  exact CT_of (by decide) (Nat.le_of_ble_eq_true rfl) (fun K _ h _ hs _ _ => t_X8_courses h hs x0 x1 σ hk0)
/-! LuteTabs.tune(II)I -/
theorem dX8_tune_0 : decode cX8_tune 0 = .ok (.aload_n 0, 1) := by decide +kernel
theorem dX8_tune_1 : decode cX8_tune 1 = .ok (.getfield 10, 3) := by decide +kernel
theorem dX8_tune_4 : decode cX8_tune 4 = .ok (.iload_n 1, 1) := by decide +kernel
theorem dX8_tune_5 : decode cX8_tune 5 = .ok (.invokevirtual 96, 3) := by decide +kernel
theorem dX8_tune_8 : decode cX8_tune 8 = .ok (.ifCond .eq 13, 3) := by decide +kernel
theorem dX8_tune_11 : decode cX8_tune 11 = .ok (.iload_n 2, 1) := by decide +kernel
theorem dX8_tune_12 : decode cX8_tune 12 = .ok (.ifCond .lt 9, 3) := by decide +kernel
theorem dX8_tune_15 : decode cX8_tune 15 = .ok (.iload_n 2, 1) := by decide +kernel
theorem dX8_tune_16 : decode cX8_tune 16 = .ok (.bipush 60, 2) := by decide +kernel
theorem dX8_tune_18 : decode cX8_tune 18 = .ok (.if_icmp .le 6, 3) := by decide +kernel
theorem dX8_tune_21 : decode cX8_tune 21 = .ok (.bipush (-2), 2) := by decide +kernel
theorem dX8_tune_23 : decode cX8_tune 23 = .ok (.ireturn, 1) := by decide +kernel
theorem dX8_tune_24 : decode cX8_tune 24 = .ok (.aload_n 0, 1) := by decide +kernel
theorem dX8_tune_25 : decode cX8_tune 25 = .ok (.getfield 10, 3) := by decide +kernel
theorem dX8_tune_28 : decode cX8_tune 28 = .ok (.getfield 100, 3) := by decide +kernel
theorem dX8_tune_31 : decode cX8_tune 31 = .ok (.iload_n 1, 1) := by decide +kernel
theorem dX8_tune_32 : decode cX8_tune 32 = .ok (.iaload, 1) := by decide +kernel
theorem dX8_tune_33 : decode cX8_tune 33 = .ok (.istore_n 3, 1) := by decide +kernel
theorem dX8_tune_34 : decode cX8_tune 34 = .ok (.aload_n 0, 1) := by decide +kernel
theorem dX8_tune_35 : decode cX8_tune 35 = .ok (.getfield 10, 3) := by decide +kernel
theorem dX8_tune_38 : decode cX8_tune 38 = .ok (.getfield 100, 3) := by decide +kernel
theorem dX8_tune_41 : decode cX8_tune 41 = .ok (.iload_n 1, 1) := by decide +kernel
theorem dX8_tune_42 : decode cX8_tune 42 = .ok (.iload_n 2, 1) := by decide +kernel
theorem dX8_tune_43 : decode cX8_tune 43 = .ok (.iastore, 1) := by decide +kernel
theorem dX8_tune_44 : decode cX8_tune 44 = .ok (.aload_n 0, 1) := by decide +kernel
theorem dX8_tune_45 : decode cX8_tune 45 = .ok (.invokevirtual 93, 3) := by decide +kernel
theorem dX8_tune_48 : decode cX8_tune 48 = .ok (.iload_n 3, 1) := by decide +kernel
theorem dX8_tune_49 : decode cX8_tune 49 = .ok (.ireturn, 1) := by decide +kernel
abbrev rm_X8_tune : Room := { frames := 2, cells := 0, slots := 0, locals := 42 }
def f_X8_tune_L21    (σ : Sg) : Option (Int32 × Sg) := some ((-2 : Int32), σ)
def f_X8_tune (x0 : Nat) (x1 : Int32) (x2 : Int32) (σ : Sg) : Option (Int32 × Sg) := bd (f_X1_has (gR σ x0 0) x1 σ) fun r3 s2 => (if r3 = 0 then f_X8_tune_L21 s2 else (if x2 < 0 then f_X8_tune_L21 s2 else (if x2 ≤ (60 : Int32) then ck (inb x1 (aL (gR s2 (gR s2 x0 0) 1))) (lB ((gI s2 (gR s2 (gR s2 x0 0) 1) x1.toNatClampNeg)) fun v6 => ck (inb x1 (aL (gR s2 (gR s2 x0 0) 1))) (lB (pI s2 (gR s2 (gR s2 x0 0) 1) x1.toNatClampNeg x2) fun s9 => bd (f_X8_startAnew x0 s9) fun _ s10 => some (v6, s10))) else f_X8_tune_L21 s2)))
theorem t_X8_tune_L21 {K : Cx} (h : Ok K cX8_tune RX8 4 rm_X8_tune (some .int)) (hs : kiv K = St)   (σ : Sg)    : T K (QI K) 21 [] [] 0 0 σ (f_X8_tune_L21 σ) := by
  unfold f_X8_tune_L21
  refine T_bipush (pc := 21) h dX8_tune_21 kb_m2 ?_
  exact T_ireturn (pc := 23) h (Nat.zero_le _) (Nat.zero_le _) dX8_tune_23
theorem t_X8_tune {K : Cx} (h : Ok K cX8_tune RX8 4 rm_X8_tune (some .int)) (hs : kiv K = St) (x0 : Nat) (x1 : Int32) (x2 : Int32) (σ : Sg) (hk0 : kd x0 8) : T K (QI K) 0 [(0, .ref x0), (1, .int x1), (2, .int x2)] [] 0 0 σ (f_X8_tune x0 x1 x2 σ) := by
  unfold f_X8_tune
  refine T_aload_n (pc := 0) h dX8_tune_0 rfl 0 rfl ?_
  refine T_gR (pc := 1) h hs hk0 fl_X8_10 rfl fk_8_0 dX8_tune_1 (fun hq1 => ?_)
  refine T_iload_n (pc := 4) h dX8_tune_4 rfl 1 rfl ?_
  refine T_callVi (pc := 5) h (M_X1_has (kl K) hs (gR σ x0 0) x1 σ hq1) mv_X1_has hs hq1 ml_X8_96 rfl ⟨Nat.le_of_ble_eq_true rfl, Nat.le_of_ble_eq_true rfl⟩ ⟨Nat.le_refl 0, Nat.le_refl 0⟩ (Nat.le_of_ble_eq_true rfl) dX8_tune_5 rfl (fun r3 s2 => ?_)
  refine T_if_eq (pc := 8) (tgt := 21) h dX8_tune_8 (by decide) ?_ ?_
  · refine T_sub [] rfl ?_
    exact t_X8_tune_L21 h hs s2
  · refine T_iload_n (pc := 11) h dX8_tune_11 rfl 2 rfl ?_
    refine T_if_lt (pc := 12) (tgt := 21) h dX8_tune_12 (by decide) ?_ ?_
    · refine T_sub [] rfl ?_
      exact t_X8_tune_L21 h hs s2
    · refine T_iload_n (pc := 15) h dX8_tune_15 rfl 2 rfl ?_
      refine T_bipush (pc := 16) h dX8_tune_16 kb_60 ?_
      refine T_icmp_le (pc := 18) (tgt := 24) h dX8_tune_18 (by decide) ?_ ?_
      · refine T_aload_n (pc := 24) h dX8_tune_24 rfl 0 rfl ?_
        refine T_gR (pc := 25) h hs hk0 fl_X8_10 rfl fk_8_0 dX8_tune_25 (fun hq4 => ?_)
        refine T_gR (pc := 28) h hs hq4 fl_X8_100 rfl fk_1_1 dX8_tune_28 (fun hq5 => ?_)
        refine T_iload_n (pc := 31) h dX8_tune_31 rfl 1 rfl ?_
        refine T_iald (pc := 32) h hs hq5 dX8_tune_32 ?_
        refine T_letI fun v6 => ?_
        refine T_istore_n (lv' := [(3, .int v6), (0, .ref x0), (1, .int x1), (2, .int x2)]) (pc := 33) h dX8_tune_33 rfl (by decide) rfl ?_
        refine T_aload_n (pc := 34) h dX8_tune_34 rfl 1 rfl ?_
        refine T_gR (pc := 35) h hs hk0 fl_X8_10 rfl fk_8_0 dX8_tune_35 (fun hq7 => ?_)
        refine T_gR (pc := 38) h hs hq7 fl_X8_100 rfl fk_1_1 dX8_tune_38 (fun hq8 => ?_)
        refine T_iload_n (pc := 41) h dX8_tune_41 rfl 2 rfl ?_
        refine T_iload_n (pc := 42) h dX8_tune_42 rfl 3 rfl ?_
        refine T_iast (pc := 43) h hs hq8 dX8_tune_43 ?_
        refine T_letS fun s9 => ?_
        refine T_aload_n (pc := 44) h dX8_tune_44 rfl 1 rfl ?_
        refine T_callVv (pc := 45) h (M_X8_startAnew (kl K) hs x0 s9 hk0) mv_X8_startAnew hs hk0 ml_X8_93 rfl ⟨Nat.le_of_ble_eq_true rfl, Nat.le_of_ble_eq_true rfl⟩ ⟨Nat.le_refl 0, Nat.le_refl 0⟩ (Nat.le_of_ble_eq_true rfl) dX8_tune_45 rfl (fun _ s10 => ?_)
        refine T_iload_n (pc := 48) h dX8_tune_48 rfl 0 rfl ?_
        exact T_ireturn (pc := 49) h (Nat.zero_le _) (Nat.zero_le _) dX8_tune_49
      · refine T_sub [] rfl ?_
        exact t_X8_tune_L21 h hs s2
theorem M_X8_tune (l : Launch) {iv : Sg → Prop} (hi : iv = St) (x0 : Nat) (x1 : Int32) (x2 : Int32) (σ : Sg) (hk0 : kd x0 8) : CTi l yX8_tune cX8_tune 4 (some .int) rm_X8_tune iv [.ref x0, .int x1, .int x2] σ (f_X8_tune x0 x1 x2 σ) := by
  subst hi
  exact CT_of (by decide) (Nat.le_of_ble_eq_true rfl) (fun K _ h _ hs _ _ => t_X8_tune h hs x0 x1 x2 σ hk0)
/-! LuteTabs.set(II)I -/
theorem dX8_set_0 : decode cX8_set 0 = .ok (.iload_n 1, 1) := by decide +kernel
theorem dX8_set_1 : decode cX8_set 1 = .ok (.iload_n 2, 1) := by decide +kernel
theorem dX8_set_2 : decode cX8_set 2 = .ok (.invokestatic 103, 3) := by decide +kernel
theorem dX8_set_5 : decode cX8_set 5 = .ok (.ifCond .ne 6, 3) := by decide +kernel
theorem dX8_set_8 : decode cX8_set 8 = .ok (.bipush (-2), 2) := by decide +kernel
theorem dX8_set_10 : decode cX8_set 10 = .ok (.ireturn, 1) := by decide +kernel
theorem dX8_set_11 : decode cX8_set 11 = .ok (.aload_n 0, 1) := by decide +kernel
theorem dX8_set_12 : decode cX8_set 12 = .ok (.getfield 10, 3) := by decide +kernel
theorem dX8_set_15 : decode cX8_set 15 = .ok (.getfield 107, 3) := by decide +kernel
theorem dX8_set_18 : decode cX8_set 18 = .ok (.iload_n 1, 1) := by decide +kernel
theorem dX8_set_19 : decode cX8_set 19 = .ok (.iaload, 1) := by decide +kernel
theorem dX8_set_20 : decode cX8_set 20 = .ok (.istore_n 3, 1) := by decide +kernel
theorem dX8_set_21 : decode cX8_set 21 = .ok (.aload_n 0, 1) := by decide +kernel
theorem dX8_set_22 : decode cX8_set 22 = .ok (.getfield 10, 3) := by decide +kernel
theorem dX8_set_25 : decode cX8_set 25 = .ok (.getfield 107, 3) := by decide +kernel
theorem dX8_set_28 : decode cX8_set 28 = .ok (.iload_n 1, 1) := by decide +kernel
theorem dX8_set_29 : decode cX8_set 29 = .ok (.iload_n 2, 1) := by decide +kernel
theorem dX8_set_30 : decode cX8_set 30 = .ok (.iastore, 1) := by decide +kernel
theorem dX8_set_31 : decode cX8_set 31 = .ok (.iload_n 1, 1) := by decide +kernel
theorem dX8_set_32 : decode cX8_set 32 = .ok (.ifCond .ne 10, 3) := by decide +kernel
theorem dX8_set_35 : decode cX8_set 35 = .ok (.aload_n 0, 1) := by decide +kernel
theorem dX8_set_36 : decode cX8_set 36 = .ok (.invokevirtual 93, 3) := by decide +kernel
theorem dX8_set_39 : decode cX8_set 39 = .ok (.goto 10, 3) := by decide +kernel
theorem dX8_set_42 : decode cX8_set 42 = .ok (.aload_n 0, 1) := by decide +kernel
theorem dX8_set_43 : decode cX8_set 43 = .ok (.getfield 37, 3) := by decide +kernel
theorem dX8_set_46 : decode cX8_set 46 = .ok (.invokevirtual 110, 3) := by decide +kernel
theorem dX8_set_49 : decode cX8_set 49 = .ok (.iload_n 3, 1) := by decide +kernel
theorem dX8_set_50 : decode cX8_set 50 = .ok (.ireturn, 1) := by decide +kernel
abbrev rm_X8_set : Room := { frames := 2, cells := 0, slots := 0, locals := 42 }
def f_X8_set_L49  (x3 : Int32)  (σ : Sg) : Option (Int32 × Sg) := some (x3, σ)
def f_X8_set (x0 : Nat) (x1 : Int32) (x2 : Int32) (σ : Sg) : Option (Int32 × Sg) := bd (f_X1_mayBeSet x1 x2 σ) fun r2 s1 => (if r2 = 0 then some ((-2 : Int32), s1) else ck (inb x1 (aL (gR s1 (gR s1 x0 0) 2))) (lB ((gI s1 (gR s1 (gR s1 x0 0) 2) x1.toNatClampNeg)) fun v5 => ck (inb x1 (aL (gR s1 (gR s1 x0 0) 2))) (lB (pI s1 (gR s1 (gR s1 x0 0) 2) x1.toNatClampNeg x2) fun s8 => (if x1 = 0 then bd (f_X8_startAnew x0 s8) fun _ s11 => f_X8_set_L49 v5 s11 else bd (f_X5_forget (gR s8 x0 3) s8) fun _ s10 => f_X8_set_L49 v5 s10))))
theorem t_X8_set_L49 {K : Cx} (h : Ok K cX8_set RX8 4 rm_X8_set (some .int)) (hs : kiv K = St) (x3 : Int32)  (σ : Sg)    : T K (QI K) 49 [(3, .int x3)] [] 0 0 σ (f_X8_set_L49 x3 σ) := by
  unfold f_X8_set_L49
  refine T_iload_n (pc := 49) h dX8_set_49 rfl 0 rfl ?_
  exact T_ireturn (pc := 50) h (Nat.zero_le _) (Nat.zero_le _) dX8_set_50
theorem t_X8_set {K : Cx} (h : Ok K cX8_set RX8 4 rm_X8_set (some .int)) (hs : kiv K = St) (x0 : Nat) (x1 : Int32) (x2 : Int32) (σ : Sg) (hk0 : kd x0 8) : T K (QI K) 0 [(0, .ref x0), (1, .int x1), (2, .int x2)] [] 0 0 σ (f_X8_set x0 x1 x2 σ) := by
  unfold f_X8_set
  refine T_iload_n (pc := 0) h dX8_set_0 rfl 1 rfl ?_
  refine T_iload_n (pc := 1) h dX8_set_1 rfl 2 rfl ?_
  refine T_callSi (pc := 2) h (M_X1_mayBeSet (kl K) hs x1 x2 σ ) mst_X1_mayBeSet ml_X8_103 rfl ⟨Nat.le_of_ble_eq_true rfl, Nat.le_of_ble_eq_true rfl⟩ ⟨Nat.le_refl 0, Nat.le_refl 0⟩ (Nat.le_of_ble_eq_true rfl) dX8_set_2 rfl (fun r2 s1 => ?_)
  refine T_if_ne (pc := 5) (tgt := 11) h dX8_set_5 (by decide) ?_ ?_
  · refine T_aload_n (pc := 11) h dX8_set_11 rfl 0 rfl ?_
    refine T_gR (pc := 12) h hs hk0 fl_X8_10 rfl fk_8_0 dX8_set_12 (fun hq3 => ?_)
    refine T_gR (pc := 15) h hs hq3 fl_X8_107 rfl fk_1_2 dX8_set_15 (fun hq4 => ?_)
    refine T_iload_n (pc := 18) h dX8_set_18 rfl 1 rfl ?_
    refine T_iald (pc := 19) h hs hq4 dX8_set_19 ?_
    refine T_letI fun v5 => ?_
    refine T_istore_n (lv' := [(3, .int v5), (0, .ref x0), (1, .int x1), (2, .int x2)]) (pc := 20) h dX8_set_20 rfl (by decide) rfl ?_
    refine T_aload_n (pc := 21) h dX8_set_21 rfl 1 rfl ?_
    refine T_gR (pc := 22) h hs hk0 fl_X8_10 rfl fk_8_0 dX8_set_22 (fun hq6 => ?_)
    refine T_gR (pc := 25) h hs hq6 fl_X8_107 rfl fk_1_2 dX8_set_25 (fun hq7 => ?_)
    refine T_iload_n (pc := 28) h dX8_set_28 rfl 2 rfl ?_
    refine T_iload_n (pc := 29) h dX8_set_29 rfl 3 rfl ?_
    refine T_iast (pc := 30) h hs hq7 dX8_set_30 ?_
    refine T_letS fun s8 => ?_
    refine T_iload_n (pc := 31) h dX8_set_31 rfl 2 rfl ?_
    refine T_if_ne (pc := 32) (tgt := 42) h dX8_set_32 (by decide) ?_ ?_
    · refine T_aload_n (pc := 42) h dX8_set_42 rfl 1 rfl ?_
      refine T_gR (pc := 43) h hs hk0 fl_X8_37 rfl fk_8_3 dX8_set_43 (fun hq9 => ?_)
      refine T_callVv (pc := 46) h (M_X5_forget (kl K) hs (gR s8 x0 3) s8 hq9) mv_X5_forget hs hq9 ml_X8_110 rfl ⟨Nat.le_of_ble_eq_true rfl, Nat.le_of_ble_eq_true rfl⟩ ⟨Nat.le_refl 0, Nat.le_refl 0⟩ (Nat.le_of_ble_eq_true rfl) dX8_set_46 rfl (fun _ s10 => ?_)
      refine T_sub [0] rfl ?_
      exact t_X8_set_L49 h hs v5 s10
    · refine T_aload_n (pc := 35) h dX8_set_35 rfl 1 rfl ?_
      refine T_callVv (pc := 36) h (M_X8_startAnew (kl K) hs x0 s8 hk0) mv_X8_startAnew hs hk0 ml_X8_93 rfl ⟨Nat.le_of_ble_eq_true rfl, Nat.le_of_ble_eq_true rfl⟩ ⟨Nat.le_refl 0, Nat.le_refl 0⟩ (Nat.le_of_ble_eq_true rfl) dX8_set_36 rfl (fun _ s11 => ?_)
      refine T_goto (pc := 39) (tgt := 49) h dX8_set_39 (by decide) ?_
      refine T_sub [0] rfl ?_
      exact t_X8_set_L49 h hs v5 s11
  · refine T_bipush (pc := 8) h dX8_set_8 kb_m2 ?_
    exact T_ireturn (pc := 10) h (Nat.zero_le _) (Nat.zero_le _) dX8_set_10
theorem M_X8_set (l : Launch) {iv : Sg → Prop} (hi : iv = St) (x0 : Nat) (x1 : Int32) (x2 : Int32) (σ : Sg) (hk0 : kd x0 8) : CTi l yX8_set cX8_set 4 (some .int) rm_X8_set iv [.ref x0, .int x1, .int x2] σ (f_X8_set x0 x1 x2 σ) := by
  subst hi
  exact CT_of (by decide) (Nat.le_of_ble_eq_true rfl) (fun K _ h _ hs _ _ => t_X8_set h hs x0 x1 x2 σ hk0)
/-! LuteTabs.note(III)I -/
theorem dX8_note_0 : decode cX8_note 0 = .ok (.iload_n 1, 1) := by decide +kernel
theorem dX8_note_1 : decode cX8_note 1 = .ok (.i2l, 1) := by decide +kernel
theorem dX8_note_2 : decode cX8_note 2 = .ok (.iload_n 2, 1) := by decide +kernel
theorem dX8_note_3 : decode cX8_note 3 = .ok (.i2l, 1) := by decide +kernel
theorem dX8_note_4 : decode cX8_note 4 = .ok (.iload_n 3, 1) := by decide +kernel
theorem dX8_note_5 : decode cX8_note 5 = .ok (.i2l, 1) := by decide +kernel
theorem dX8_note_6 : decode cX8_note 6 = .ok (.invokestatic 113, 3) := by decide +kernel
theorem dX8_note_9 : decode cX8_note 9 = .ok (.ifCond .ne 6, 3) := by decide +kernel
theorem dX8_note_12 : decode cX8_note 12 = .ok (.bipush (-2), 2) := by decide +kernel
theorem dX8_note_14 : decode cX8_note 14 = .ok (.ireturn, 1) := by decide +kernel
theorem dX8_note_15 : decode cX8_note 15 = .ok (.aload_n 0, 1) := by decide +kernel
theorem dX8_note_16 : decode cX8_note 16 = .ok (.getfield 19, 3) := by decide +kernel
theorem dX8_note_19 : decode cX8_note 19 = .ok (.iload_n 1, 1) := by decide +kernel
theorem dX8_note_20 : decode cX8_note 20 = .ok (.invokevirtual 117, 3) := by decide +kernel
theorem dX8_note_23 : decode cX8_note 23 = .ok (.ifCond .ne 6, 3) := by decide +kernel
theorem dX8_note_26 : decode cX8_note 26 = .ok (.bipush (-4), 2) := by decide +kernel
theorem dX8_note_28 : decode cX8_note 28 = .ok (.ireturn, 1) := by decide +kernel
theorem dX8_note_29 : decode cX8_note 29 = .ok (.aload_n 0, 1) := by decide +kernel
theorem dX8_note_30 : decode cX8_note 30 = .ok (.getfield 19, 3) := by decide +kernel
theorem dX8_note_33 : decode cX8_note 33 = .ok (.iload_n 1, 1) := by decide +kernel
theorem dX8_note_34 : decode cX8_note 34 = .ok (.iload_n 2, 1) := by decide +kernel
theorem dX8_note_35 : decode cX8_note 35 = .ok (.iload_n 3, 1) := by decide +kernel
theorem dX8_note_36 : decode cX8_note 36 = .ok (.invokevirtual 120, 3) := by decide +kernel
theorem dX8_note_39 : decode cX8_note 39 = .ok (.istore 4, 2) := by decide +kernel
theorem dX8_note_41 : decode cX8_note 41 = .ok (.aload_n 0, 1) := by decide +kernel
theorem dX8_note_42 : decode cX8_note 42 = .ok (.invokevirtual 93, 3) := by decide +kernel
theorem dX8_note_45 : decode cX8_note 45 = .ok (.iload 4, 2) := by decide +kernel
theorem dX8_note_47 : decode cX8_note 47 = .ok (.ireturn, 1) := by decide +kernel
abbrev rm_X8_note : Room := { frames := 4, cells := 0, slots := 0, locals := 89 }
def f_X8_note (x0 : Nat) (x1 : Int32) (x2 : Int32) (x3 : Int32) (σ : Sg) : Option (Int32 × Sg) := bd (f_X2_mayBe (x1.toInt64) (x2.toInt64) (x3.toInt64) σ) fun r2 s1 => (if r2 = 0 then some ((-2 : Int32), s1) else bd (f_X2_hasRoomAt (gR s1 x0 1) x1 s1) fun r5 s4 => (if r5 = 0 then some ((-4 : Int32), s4) else bd (f_X2_add (gR s4 x0 1) x1 x2 x3 s4) fun r8 s7 => bd (f_X8_startAnew x0 s7) fun _ s9 => some (r8, s9)))
theorem t_X8_note {K : Cx} (h : Ok K cX8_note RX8 5 rm_X8_note (some .int)) (hs : kiv K = St) (x0 : Nat) (x1 : Int32) (x2 : Int32) (x3 : Int32) (σ : Sg) (hk0 : kd x0 8) : T K (QI K) 0 [(0, .ref x0), (1, .int x1), (2, .int x2), (3, .int x3)] [] 0 0 σ (f_X8_note x0 x1 x2 x3 σ) := by
  unfold f_X8_note
  refine T_iload_n (pc := 0) h dX8_note_0 rfl 1 rfl ?_
  refine T_i2l (pc := 1) h dX8_note_1 ?_
  refine T_iload_n (pc := 2) h dX8_note_2 rfl 2 rfl ?_
  refine T_i2l (pc := 3) h dX8_note_3 ?_
  refine T_iload_n (pc := 4) h dX8_note_4 rfl 3 rfl ?_
  refine T_i2l (pc := 5) h dX8_note_5 ?_
  refine T_callSi (pc := 6) h (M_X2_mayBe (kl K) hs (x1.toInt64) (x2.toInt64) (x3.toInt64) σ ) mst_X2_mayBe ml_X8_113 rfl ⟨Nat.le_of_ble_eq_true rfl, Nat.le_of_ble_eq_true rfl⟩ ⟨Nat.le_refl 0, Nat.le_refl 0⟩ (Nat.le_of_ble_eq_true rfl) dX8_note_6 rfl (fun r2 s1 => ?_)
  refine T_if_ne (pc := 9) (tgt := 15) h dX8_note_9 (by decide) ?_ ?_
  · refine T_aload_n (pc := 15) h dX8_note_15 rfl 0 rfl ?_
    refine T_gR (pc := 16) h hs hk0 fl_X8_19 rfl fk_8_1 dX8_note_16 (fun hq3 => ?_)
    refine T_iload_n (pc := 19) h dX8_note_19 rfl 1 rfl ?_
    refine T_callVi (pc := 20) h (M_X2_hasRoomAt (kl K) hs (gR s1 x0 1) x1 s1 hq3) mv_X2_hasRoomAt hs hq3 ml_X8_117 rfl ⟨Nat.le_of_ble_eq_true rfl, Nat.le_of_ble_eq_true rfl⟩ ⟨Nat.le_refl 0, Nat.le_refl 0⟩ (Nat.le_of_ble_eq_true rfl) dX8_note_20 rfl (fun r5 s4 => ?_)
    refine T_if_ne (pc := 23) (tgt := 29) h dX8_note_23 (by decide) ?_ ?_
    · refine T_aload_n (pc := 29) h dX8_note_29 rfl 0 rfl ?_
      refine T_gR (pc := 30) h hs hk0 fl_X8_19 rfl fk_8_1 dX8_note_30 (fun hq6 => ?_)
      refine T_iload_n (pc := 33) h dX8_note_33 rfl 1 rfl ?_
      refine T_iload_n (pc := 34) h dX8_note_34 rfl 2 rfl ?_
      refine T_iload_n (pc := 35) h dX8_note_35 rfl 3 rfl ?_
      refine T_callVi (pc := 36) h (M_X2_add (kl K) hs (gR s4 x0 1) x1 x2 x3 s4 hq6) mv_X2_add hs hq6 ml_X8_120 rfl ⟨Nat.le_of_ble_eq_true rfl, Nat.le_of_ble_eq_true rfl⟩ ⟨Nat.le_refl 0, Nat.le_refl 0⟩ (Nat.le_of_ble_eq_true rfl) dX8_note_36 rfl (fun r8 s7 => ?_)
      refine T_istore (lv' := [(4, .int r8), (0, .ref x0), (1, .int x1), (2, .int x2), (3, .int x3)]) (pc := 39) h dX8_note_39 (by decide) rfl ?_
      refine T_aload_n (pc := 41) h dX8_note_41 rfl 1 rfl ?_
      refine T_callVv (pc := 42) h (M_X8_startAnew (kl K) hs x0 s7 hk0) mv_X8_startAnew hs hk0 ml_X8_93 rfl ⟨Nat.le_of_ble_eq_true rfl, Nat.le_of_ble_eq_true rfl⟩ ⟨Nat.le_refl 0, Nat.le_refl 0⟩ (Nat.le_of_ble_eq_true rfl) dX8_note_42 rfl (fun _ s9 => ?_)
      refine T_iload (pc := 45) h dX8_note_45 0 rfl ?_
      exact T_ireturn (pc := 47) h (Nat.zero_le _) (Nat.zero_le _) dX8_note_47
    · refine T_bipush (pc := 26) h dX8_note_26 kb_m4 ?_
      exact T_ireturn (pc := 28) h (Nat.zero_le _) (Nat.zero_le _) dX8_note_28
  · refine T_bipush (pc := 12) h dX8_note_12 kb_m2 ?_
    exact T_ireturn (pc := 14) h (Nat.zero_le _) (Nat.zero_le _) dX8_note_14
theorem M_X8_note (l : Launch) {iv : Sg → Prop} (hi : iv = St) (x0 : Nat) (x1 : Int32) (x2 : Int32) (x3 : Int32) (σ : Sg) (hk0 : kd x0 8) : CTi l yX8_note cX8_note 5 (some .int) rm_X8_note iv [.ref x0, .int x1, .int x2, .int x3] σ (f_X8_note x0 x1 x2 x3 σ) := by
  subst hi
  exact CT_of (by decide) (Nat.le_of_ble_eq_true rfl) (fun K _ h _ hs _ _ => t_X8_note h hs x0 x1 x2 x3 σ hk0)
/-! LuteTabs.gone(I)I -/
theorem dX8_gone_0 : decode cX8_gone 0 = .ok (.aload_n 0, 1) := by decide +kernel
theorem dX8_gone_1 : decode cX8_gone 1 = .ok (.getfield 19, 3) := by decide +kernel
theorem dX8_gone_4 : decode cX8_gone 4 = .ok (.iload_n 1, 1) := by decide +kernel
theorem dX8_gone_5 : decode cX8_gone 5 = .ok (.invokevirtual 124, 3) := by decide +kernel
theorem dX8_gone_8 : decode cX8_gone 8 = .ok (.ifCond .ne 6, 3) := by decide +kernel
theorem dX8_gone_11 : decode cX8_gone 11 = .ok (.bipush (-2), 2) := by decide +kernel
theorem dX8_gone_13 : decode cX8_gone 13 = .ok (.ireturn, 1) := by decide +kernel
theorem dX8_gone_14 : decode cX8_gone 14 = .ok (.aload_n 0, 1) := by decide +kernel
theorem dX8_gone_15 : decode cX8_gone 15 = .ok (.getfield 19, 3) := by decide +kernel
theorem dX8_gone_18 : decode cX8_gone 18 = .ok (.iload_n 1, 1) := by decide +kernel
theorem dX8_gone_19 : decode cX8_gone 19 = .ok (.invokevirtual 125, 3) := by decide +kernel
theorem dX8_gone_22 : decode cX8_gone 22 = .ok (.aload_n 0, 1) := by decide +kernel
theorem dX8_gone_23 : decode cX8_gone 23 = .ok (.invokevirtual 93, 3) := by decide +kernel
theorem dX8_gone_26 : decode cX8_gone 26 = .ok (.aload_n 0, 1) := by decide +kernel
theorem dX8_gone_27 : decode cX8_gone 27 = .ok (.getfield 19, 3) := by decide +kernel
theorem dX8_gone_30 : decode cX8_gone 30 = .ok (.getfield 128, 3) := by decide +kernel
theorem dX8_gone_33 : decode cX8_gone 33 = .ok (.ireturn, 1) := by decide +kernel
abbrev rm_X8_gone : Room := { frames := 4, cells := 0, slots := 0, locals := 87 }
def f_X8_gone (x0 : Nat) (x1 : Int32) (σ : Sg) : Option (Int32 × Sg) := bd (f_X2_has (gR σ x0 1) x1 σ) fun r3 s2 => (if r3 = 0 then some ((-2 : Int32), s2) else bd (f_X2_remove (gR s2 x0 1) x1 s2) fun _ s5 => bd (f_X8_startAnew x0 s5) fun _ s6 => some ((gI s6 (gR s6 x0 1) 6), s6))
theorem t_X8_gone {K : Cx} (h : Ok K cX8_gone RX8 2 rm_X8_gone (some .int)) (hs : kiv K = St) (x0 : Nat) (x1 : Int32) (σ : Sg) (hk0 : kd x0 8) : T K (QI K) 0 [(0, .ref x0), (1, .int x1)] [] 0 0 σ (f_X8_gone x0 x1 σ) := by
  unfold f_X8_gone
  refine T_aload_n (pc := 0) h dX8_gone_0 rfl 0 rfl ?_
  refine T_gR (pc := 1) h hs hk0 fl_X8_19 rfl fk_8_1 dX8_gone_1 (fun hq1 => ?_)
  refine T_iload_n (pc := 4) h dX8_gone_4 rfl 1 rfl ?_
  refine T_callVi (pc := 5) h (M_X2_has (kl K) hs (gR σ x0 1) x1 σ hq1) mv_X2_has hs hq1 ml_X8_124 rfl ⟨Nat.le_of_ble_eq_true rfl, Nat.le_of_ble_eq_true rfl⟩ ⟨Nat.le_refl 0, Nat.le_refl 0⟩ (Nat.le_of_ble_eq_true rfl) dX8_gone_5 rfl (fun r3 s2 => ?_)
  refine T_if_ne (pc := 8) (tgt := 14) h dX8_gone_8 (by decide) ?_ ?_
  · refine T_aload_n (pc := 14) h dX8_gone_14 rfl 0 rfl ?_
    refine T_gR (pc := 15) h hs hk0 fl_X8_19 rfl fk_8_1 dX8_gone_15 (fun hq4 => ?_)
    refine T_iload_n (pc := 18) h dX8_gone_18 rfl 1 rfl ?_
    refine T_callVv (pc := 19) h (M_X2_remove (kl K) hs (gR s2 x0 1) x1 s2 hq4) mv_X2_remove hs hq4 ml_X8_125 rfl ⟨Nat.le_of_ble_eq_true rfl, Nat.le_of_ble_eq_true rfl⟩ ⟨Nat.le_refl 0, Nat.le_refl 0⟩ (Nat.le_of_ble_eq_true rfl) dX8_gone_19 rfl (fun _ s5 => ?_)
    refine T_aload_n (pc := 22) h dX8_gone_22 rfl 0 rfl ?_
    refine T_callVv (pc := 23) h (M_X8_startAnew (kl K) hs x0 s5 hk0) mv_X8_startAnew hs hk0 ml_X8_93 rfl ⟨Nat.le_of_ble_eq_true rfl, Nat.le_of_ble_eq_true rfl⟩ ⟨Nat.le_refl 0, Nat.le_refl 0⟩ (Nat.le_of_ble_eq_true rfl) dX8_gone_23 rfl (fun _ s6 => ?_)
    refine T_aload_n (pc := 26) h dX8_gone_26 rfl 0 rfl ?_
    refine T_gR (pc := 27) h hs hk0 fl_X8_19 rfl fk_8_1 dX8_gone_27 (fun hq7 => ?_)
    refine T_getI (pc := 30) h hs hq7 fl_X8_128 rfl dX8_gone_30 ?_
    exact T_ireturn (pc := 33) h (Nat.zero_le _) (Nat.zero_le _) dX8_gone_33
  · refine T_bipush (pc := 11) h dX8_gone_11 kb_m2 ?_
    exact T_ireturn (pc := 13) h (Nat.zero_le _) (Nat.zero_le _) dX8_gone_13
theorem M_X8_gone (l : Launch) {iv : Sg → Prop} (hi : iv = St) (x0 : Nat) (x1 : Int32) (σ : Sg) (hk0 : kd x0 8) : CTi l yX8_gone cX8_gone 2 (some .int) rm_X8_gone iv [.ref x0, .int x1] σ (f_X8_gone x0 x1 σ) := by
  subst hi
  exact CT_of (by decide) (Nat.le_of_ble_eq_true rfl) (fun K _ h _ hs _ _ => t_X8_gone h hs x0 x1 σ hk0)
/-! LuteTabs.clear()I -/
theorem dX8_clear_0 : decode cX8_clear 0 = .ok (.aload_n 0, 1) := by decide +kernel
theorem dX8_clear_1 : decode cX8_clear 1 = .ok (.getfield 19, 3) := by decide +kernel
theorem dX8_clear_4 : decode cX8_clear 4 = .ok (.getfield 128, 3) := by decide +kernel
theorem dX8_clear_7 : decode cX8_clear 7 = .ok (.istore_n 1, 1) := by decide +kernel
theorem dX8_clear_8 : decode cX8_clear 8 = .ok (.aload_n 0, 1) := by decide +kernel
theorem dX8_clear_9 : decode cX8_clear 9 = .ok (.getfield 19, 3) := by decide +kernel
theorem dX8_clear_12 : decode cX8_clear 12 = .ok (.invokevirtual 129, 3) := by decide +kernel
theorem dX8_clear_15 : decode cX8_clear 15 = .ok (.aload_n 0, 1) := by decide +kernel
theorem dX8_clear_16 : decode cX8_clear 16 = .ok (.invokevirtual 93, 3) := by decide +kernel
theorem dX8_clear_19 : decode cX8_clear 19 = .ok (.iload_n 1, 1) := by decide +kernel
theorem dX8_clear_20 : decode cX8_clear 20 = .ok (.ireturn, 1) := by decide +kernel
abbrev rm_X8_clear : Room := { frames := 4, cells := 0, slots := 0, locals := 85 }
def f_X8_clear (x0 : Nat) (σ : Sg) : Option (Int32 × Sg) := lB ((gI σ (gR σ x0 1) 6)) fun v2 => bd (f_X2_removeAll (gR σ x0 1) σ) fun _ s4 => bd (f_X8_startAnew x0 s4) fun _ s5 => some (v2, s5)
theorem t_X8_clear {K : Cx} (h : Ok K cX8_clear RX8 2 rm_X8_clear (some .int)) (hs : kiv K = St) (x0 : Nat) (σ : Sg) (hk0 : kd x0 8) : T K (QI K) 0 [(0, .ref x0)] [] 0 0 σ (f_X8_clear x0 σ) := by
  unfold f_X8_clear
  refine T_aload_n (pc := 0) h dX8_clear_0 rfl 0 rfl ?_
  refine T_gR (pc := 1) h hs hk0 fl_X8_19 rfl fk_8_1 dX8_clear_1 (fun hq1 => ?_)
  refine T_getI (pc := 4) h hs hq1 fl_X8_128 rfl dX8_clear_4 ?_
  refine T_letI fun v2 => ?_
  refine T_istore_n (lv' := [(1, .int v2), (0, .ref x0)]) (pc := 7) h dX8_clear_7 rfl (by decide) rfl ?_
  refine T_aload_n (pc := 8) h dX8_clear_8 rfl 1 rfl ?_
  refine T_gR (pc := 9) h hs hk0 fl_X8_19 rfl fk_8_1 dX8_clear_9 (fun hq3 => ?_)
  refine T_callVv (pc := 12) h (M_X2_removeAll (kl K) hs (gR σ x0 1) σ hq3) mv_X2_removeAll hs hq3 ml_X8_129 rfl ⟨Nat.le_of_ble_eq_true rfl, Nat.le_of_ble_eq_true rfl⟩ ⟨Nat.le_refl 0, Nat.le_refl 0⟩ (Nat.le_of_ble_eq_true rfl) dX8_clear_12 rfl (fun _ s4 => ?_)
  refine T_aload_n (pc := 15) h dX8_clear_15 rfl 1 rfl ?_
  refine T_callVv (pc := 16) h (M_X8_startAnew (kl K) hs x0 s4 hk0) mv_X8_startAnew hs hk0 ml_X8_93 rfl ⟨Nat.le_of_ble_eq_true rfl, Nat.le_of_ble_eq_true rfl⟩ ⟨Nat.le_refl 0, Nat.le_refl 0⟩ (Nat.le_of_ble_eq_true rfl) dX8_clear_16 rfl (fun _ s5 => ?_)
  refine T_iload_n (pc := 19) h dX8_clear_19 rfl 0 rfl ?_
  exact T_ireturn (pc := 20) h (Nat.zero_le _) (Nat.zero_le _) dX8_clear_20
theorem M_X8_clear (l : Launch) {iv : Sg → Prop} (hi : iv = St) (x0 : Nat) (σ : Sg) (hk0 : kd x0 8) : CTi l yX8_clear cX8_clear 2 (some .int) rm_X8_clear iv [.ref x0] σ (f_X8_clear x0 σ) := by
  subst hi
  exact CT_of (by decide) (Nat.le_of_ble_eq_true rfl) (fun K _ h _ hs _ _ => t_X8_clear h hs x0 σ hk0)
/-! LuteTabs.isSheet(I)Z -/
theorem dX8_isSheet_0 : decode cX8_isSheet 0 = .ok (.iload_n 0, 1) := by decide +kernel
theorem dX8_isSheet_1 : decode cX8_isSheet 1 = .ok (.ifCond .lt 12, 3) := by decide +kernel
theorem dX8_isSheet_4 : decode cX8_isSheet 4 = .ok (.iload_n 0, 1) := by decide +kernel
theorem dX8_isSheet_5 : decode cX8_isSheet 5 = .ok (.iconst 4, 1) := by decide +kernel
theorem dX8_isSheet_6 : decode cX8_isSheet 6 = .ok (.if_icmp .ge 7, 3) := by decide +kernel
theorem dX8_isSheet_9 : decode cX8_isSheet 9 = .ok (.iconst 1, 1) := by decide +kernel
theorem dX8_isSheet_10 : decode cX8_isSheet 10 = .ok (.goto 4, 3) := by decide +kernel
theorem dX8_isSheet_13 : decode cX8_isSheet 13 = .ok (.iconst 0, 1) := by decide +kernel
theorem dX8_isSheet_14 : decode cX8_isSheet 14 = .ok (.ireturn, 1) := by decide +kernel
abbrev rm_X8_isSheet : Room := { frames := 0, cells := 0, slots := 0, locals := 0 }
def f_X8_isSheet_L14   (y0 : Int32) (σ : Sg) : Option (Int32 × Sg) := ck (b01 y0) (some (y0, σ))
def f_X8_isSheet_L13    (σ : Sg) : Option (Int32 × Sg) := f_X8_isSheet_L14 (0 : Int32) σ
def f_X8_isSheet (x0 : Int32) (σ : Sg) : Option (Int32 × Sg) := (if x0 < 0 then f_X8_isSheet_L13 σ else (if (4 : Int32) ≤ x0 then f_X8_isSheet_L13 σ else f_X8_isSheet_L14 (1 : Int32) σ))
theorem t_X8_isSheet_L14 {K : Cx} (h : Ok K cX8_isSheet RX8 1 rm_X8_isSheet (some .boolean)) (hs : kiv K = St)  (y0 : Int32) (σ : Sg)    : T K (QI K) 14 [] [.int y0] 0 0 σ (f_X8_isSheet_L14 y0 σ) := by
  unfold f_X8_isSheet_L14
  exact T_zreturn (pc := 14) h (Nat.zero_le _) (Nat.zero_le _) dX8_isSheet_14
theorem t_X8_isSheet_L13 {K : Cx} (h : Ok K cX8_isSheet RX8 1 rm_X8_isSheet (some .boolean)) (hs : kiv K = St)   (σ : Sg)    : T K (QI K) 13 [] [] 0 0 σ (f_X8_isSheet_L13 σ) := by
  unfold f_X8_isSheet_L13
  refine T_iconst (pc := 13) h dX8_isSheet_13 ki_0 ?_
  refine T_sub [] rfl ?_
  exact t_X8_isSheet_L14 h hs (0 : Int32) σ
theorem t_X8_isSheet {K : Cx} (h : Ok K cX8_isSheet RX8 1 rm_X8_isSheet (some .boolean)) (hs : kiv K = St) (x0 : Int32) (σ : Sg)  : T K (QI K) 0 [(0, .int x0)] [] 0 0 σ (f_X8_isSheet x0 σ) := by
  unfold f_X8_isSheet
  refine T_iload_n (pc := 0) h dX8_isSheet_0 rfl 0 rfl ?_
  refine T_if_lt (pc := 1) (tgt := 13) h dX8_isSheet_1 (by decide) ?_ ?_
  · refine T_sub [] rfl ?_
    exact t_X8_isSheet_L13 h hs σ
  · refine T_iload_n (pc := 4) h dX8_isSheet_4 rfl 0 rfl ?_
    refine T_iconst (pc := 5) h dX8_isSheet_5 ki_4 ?_
    refine T_icmp_ge (pc := 6) (tgt := 13) h dX8_isSheet_6 (by decide) ?_ ?_
    · refine T_sub [] rfl ?_
      exact t_X8_isSheet_L13 h hs σ
    · refine T_iconst (pc := 9) h dX8_isSheet_9 ki_1 ?_
      refine T_goto (pc := 10) (tgt := 14) h dX8_isSheet_10 (by decide) ?_
      refine T_sub [] rfl ?_
      exact t_X8_isSheet_L14 h hs (1 : Int32) σ
theorem M_X8_isSheet (l : Launch) {iv : Sg → Prop} (hi : iv = St) (x0 : Int32) (σ : Sg)  : CTi l yX8_isSheet cX8_isSheet 1 (some .boolean) rm_X8_isSheet iv [.int x0] σ (f_X8_isSheet x0 σ) := by
  subst hi
  exact CT_of (by decide) (Nat.le_of_ble_eq_true rfl) (fun K _ h _ hs _ _ => t_X8_isSheet h hs x0 σ )
/-! LuteTabs.finding(I)I -/
theorem dX8_finding_0 : decode cX8_finding 0 = .ok (.aload_n 0, 1) := by decide +kernel
theorem dX8_finding_1 : decode cX8_finding 1 = .ok (.iload_n 1, 1) := by decide +kernel
theorem dX8_finding_2 : decode cX8_finding 2 = .ok (.putfield 85, 3) := by decide +kernel
theorem dX8_finding_5 : decode cX8_finding 5 = .ok (.bipush (-10), 2) := by decide +kernel
theorem dX8_finding_7 : decode cX8_finding 7 = .ok (.iload_n 1, 1) := by decide +kernel
theorem dX8_finding_8 : decode cX8_finding 8 = .ok (.isub, 1) := by decide +kernel
theorem dX8_finding_9 : decode cX8_finding 9 = .ok (.ireturn, 1) := by decide +kernel
abbrev rm_X8_finding : Room := { frames := 0, cells := 0, slots := 0, locals := 0 }
def f_X8_finding (x0 : Nat) (x1 : Int32) (σ : Sg) : Option (Int32 × Sg) := lB (pI σ x0 12 x1) fun s1 => some (((-10 : Int32) - x1), s1)
theorem t_X8_finding {K : Cx} (h : Ok K cX8_finding RX8 2 rm_X8_finding (some .int)) (hs : kiv K = St) (x0 : Nat) (x1 : Int32) (σ : Sg) (hk0 : kd x0 8) : T K (QI K) 0 [(0, .ref x0), (1, .int x1)] [] 0 0 σ (f_X8_finding x0 x1 σ) := by
  unfold f_X8_finding
  refine T_aload_n (pc := 0) h dX8_finding_0 rfl 0 rfl ?_
  refine T_iload_n (pc := 1) h dX8_finding_1 rfl 1 rfl ?_
  refine T_putI (pc := 2) h hs hk0 fl_X8_85 rfl rfl dX8_finding_2 ?_
  refine T_letS fun s1 => ?_
  refine T_bipush (pc := 5) h dX8_finding_5 kb_m10 ?_
  refine T_iload_n (pc := 7) h dX8_finding_7 rfl 1 rfl ?_
  refine T_isub (pc := 8) h dX8_finding_8 ?_
  exact T_ireturn (pc := 9) h (Nat.zero_le _) (Nat.zero_le _) dX8_finding_9
theorem M_X8_finding (l : Launch) {iv : Sg → Prop} (hi : iv = St) (x0 : Nat) (x1 : Int32) (σ : Sg) (hk0 : kd x0 8) : CTi l yX8_finding cX8_finding 2 (some .int) rm_X8_finding iv [.ref x0, .int x1] σ (f_X8_finding x0 x1 σ) := by
  subst hi
  exact CT_of (by decide) (Nat.le_of_ble_eq_true rfl) (fun K _ h _ hs _ _ => t_X8_finding h hs x0 x1 σ hk0)
/-! LuteTabs.refusalOfSheet(I)I -/
theorem dX8_refusalOfSheet_0 : decode cX8_refusalOfSheet 0 = .ok (.iload_n 1, 1) := by decide +kernel
theorem dX8_refusalOfSheet_1 : decode cX8_refusalOfSheet 1 = .ok (.invokestatic 253, 3) := by decide +kernel
theorem dX8_refusalOfSheet_4 : decode cX8_refusalOfSheet 4 = .ok (.ifCond .ne 6, 3) := by decide +kernel
theorem dX8_refusalOfSheet_7 : decode cX8_refusalOfSheet 7 = .ok (.bipush (-2), 2) := by decide +kernel
theorem dX8_refusalOfSheet_9 : decode cX8_refusalOfSheet 9 = .ok (.ireturn, 1) := by decide +kernel
theorem dX8_refusalOfSheet_10 : decode cX8_refusalOfSheet 10 = .ok (.aload_n 0, 1) := by decide +kernel
theorem dX8_refusalOfSheet_11 : decode cX8_refusalOfSheet 11 = .ok (.getfield 64, 3) := by decide +kernel
theorem dX8_refusalOfSheet_14 : decode cX8_refusalOfSheet 14 = .ok (.iload_n 1, 1) := by decide +kernel
theorem dX8_refusalOfSheet_15 : decode cX8_refusalOfSheet 15 = .ok (.aaload, 1) := by decide +kernel
theorem dX8_refusalOfSheet_16 : decode cX8_refusalOfSheet 16 = .ok (.getfield 263, 3) := by decide +kernel
theorem dX8_refusalOfSheet_19 : decode cX8_refusalOfSheet 19 = .ok (.ifCond .eq 11, 3) := by decide +kernel
theorem dX8_refusalOfSheet_22 : decode cX8_refusalOfSheet 22 = .ok (.aload_n 0, 1) := by decide +kernel
theorem dX8_refusalOfSheet_23 : decode cX8_refusalOfSheet 23 = .ok (.iconst 1, 1) := by decide +kernel
theorem dX8_refusalOfSheet_24 : decode cX8_refusalOfSheet 24 = .ok (.invokevirtual 229, 3) := by decide +kernel
theorem dX8_refusalOfSheet_27 : decode cX8_refusalOfSheet 27 = .ok (.goto 4, 3) := by decide +kernel
theorem dX8_refusalOfSheet_30 : decode cX8_refusalOfSheet 30 = .ok (.iconst 0, 1) := by decide +kernel
theorem dX8_refusalOfSheet_31 : decode cX8_refusalOfSheet 31 = .ok (.ireturn, 1) := by decide +kernel
abbrev rm_X8_refusalOfSheet : Room := { frames := 1, cells := 0, slots := 0, locals := 21 }
def f_X8_refusalOfSheet_L31   (y0 : Int32) (σ : Sg) : Option (Int32 × Sg) := some (y0, σ)
def f_X8_refusalOfSheet (x0 : Nat) (x1 : Int32) (σ : Sg) : Option (Int32 × Sg) := bd (f_X8_isSheet x1 σ) fun r2 s1 => (if r2 = 0 then some ((-2 : Int32), s1) else ck (inb x1 (aL (gR s1 x0 7))) ((if (gI s1 (gR s1 (gR s1 x0 7) x1.toNatClampNeg) 0) = 0 then f_X8_refusalOfSheet_L31 (0 : Int32) s1 else bd (f_X8_finding x0 (1 : Int32) s1) fun r6 s5 => f_X8_refusalOfSheet_L31 r6 s5)))
theorem t_X8_refusalOfSheet_L31 {K : Cx} (h : Ok K cX8_refusalOfSheet RX8 2 rm_X8_refusalOfSheet (some .int)) (hs : kiv K = St)  (y0 : Int32) (σ : Sg)    : T K (QI K) 31 [] [.int y0] 0 0 σ (f_X8_refusalOfSheet_L31 y0 σ) := by
  unfold f_X8_refusalOfSheet_L31
  exact T_ireturn (pc := 31) h (Nat.zero_le _) (Nat.zero_le _) dX8_refusalOfSheet_31
theorem t_X8_refusalOfSheet {K : Cx} (h : Ok K cX8_refusalOfSheet RX8 2 rm_X8_refusalOfSheet (some .int)) (hs : kiv K = St) (x0 : Nat) (x1 : Int32) (σ : Sg) (hk0 : kd x0 8) : T K (QI K) 0 [(0, .ref x0), (1, .int x1)] [] 0 0 σ (f_X8_refusalOfSheet x0 x1 σ) := by
  unfold f_X8_refusalOfSheet
  refine T_iload_n (pc := 0) h dX8_refusalOfSheet_0 rfl 1 rfl ?_
  refine T_callSi (pc := 1) h (M_X8_isSheet (kl K) hs x1 σ ) mst_X8_isSheet ml_X8_253 rfl ⟨Nat.le_of_ble_eq_true rfl, Nat.le_of_ble_eq_true rfl⟩ ⟨Nat.le_refl 0, Nat.le_refl 0⟩ (Nat.le_of_ble_eq_true rfl) dX8_refusalOfSheet_1 rfl (fun r2 s1 => ?_)
  refine T_if_ne (pc := 4) (tgt := 10) h dX8_refusalOfSheet_4 (by decide) ?_ ?_
  · refine T_aload_n (pc := 10) h dX8_refusalOfSheet_10 rfl 0 rfl ?_
    refine T_gR (pc := 11) h hs hk0 fl_X8_64 rfl fk_8_7 dX8_refusalOfSheet_11 (fun hq3 => ?_)
    refine T_iload_n (pc := 14) h dX8_refusalOfSheet_14 rfl 1 rfl ?_
    refine T_aald (c := 13) (c' := 6) (pc := 15) h hs hq3 (by decide) dX8_refusalOfSheet_15 (fun hq4 => ?_)
    refine T_getI (pc := 16) h hs hq4 fl_X8_263 rfl dX8_refusalOfSheet_16 ?_
    refine T_if_eq (pc := 19) (tgt := 30) h dX8_refusalOfSheet_19 (by decide) ?_ ?_
    · refine T_iconst (pc := 30) h dX8_refusalOfSheet_30 ki_0 ?_
      refine T_sub [] rfl ?_
      exact t_X8_refusalOfSheet_L31 h hs (0 : Int32) s1
    · refine T_aload_n (pc := 22) h dX8_refusalOfSheet_22 rfl 0 rfl ?_
      refine T_iconst (pc := 23) h dX8_refusalOfSheet_23 ki_1 ?_
      refine T_callVi (pc := 24) h (M_X8_finding (kl K) hs x0 (1 : Int32) s1 hk0) mv_X8_finding hs hk0 ml_X8_229 rfl ⟨Nat.le_of_ble_eq_true rfl, Nat.le_of_ble_eq_true rfl⟩ ⟨Nat.le_refl 0, Nat.le_refl 0⟩ (Nat.le_of_ble_eq_true rfl) dX8_refusalOfSheet_24 rfl (fun r6 s5 => ?_)
      refine T_goto (pc := 27) (tgt := 31) h dX8_refusalOfSheet_27 (by decide) ?_
      refine T_sub [] rfl ?_
      exact t_X8_refusalOfSheet_L31 h hs r6 s5
  · refine T_bipush (pc := 7) h dX8_refusalOfSheet_7 kb_m2 ?_
    exact T_ireturn (pc := 9) h (Nat.zero_le _) (Nat.zero_le _) dX8_refusalOfSheet_9
theorem M_X8_refusalOfSheet (l : Launch) {iv : Sg → Prop} (hi : iv = St) (x0 : Nat) (x1 : Int32) (σ : Sg) (hk0 : kd x0 8) : CTi l yX8_refusalOfSheet cX8_refusalOfSheet 2 (some .int) rm_X8_refusalOfSheet iv [.ref x0, .int x1] σ (f_X8_refusalOfSheet x0 x1 σ) := by
  subst hi
  exact CT_of (by decide) (Nat.le_of_ble_eq_true rfl) (fun K _ h _ hs _ _ => t_X8_refusalOfSheet h hs x0 x1 σ hk0)
/-! LuteTabs.addFromSheet(LLuteTabs$Sheet;I)Z -/
theorem dX8_addFromSheet_0 : decode cX8_addFromSheet 0 = .ok (.aload_n 1, 1) := by decide +kernel
theorem dX8_addFromSheet_1 : decode cX8_addFromSheet 1 = .ok (.iload_n 2, 1) := by decide +kernel
theorem dX8_addFromSheet_2 : decode cX8_addFromSheet 2 = .ok (.iconst 3, 1) := by decide +kernel
theorem dX8_addFromSheet_3 : decode cX8_addFromSheet 3 = .ok (.invokevirtual 283, 3) := by decide +kernel
theorem dX8_addFromSheet_6 : decode cX8_addFromSheet 6 = .ok (.ifCond .ne 5, 3) := by decide +kernel
theorem dX8_addFromSheet_9 : decode cX8_addFromSheet 9 = .ok (.iconst 0, 1) := by decide +kernel
theorem dX8_addFromSheet_10 : decode cX8_addFromSheet 10 = .ok (.ireturn, 1) := by decide +kernel
theorem dX8_addFromSheet_11 : decode cX8_addFromSheet 11 = .ok (.aload_n 1, 1) := by decide +kernel
theorem dX8_addFromSheet_12 : decode cX8_addFromSheet 12 = .ok (.getfield 277, 3) := by decide +kernel
theorem dX8_addFromSheet_15 : decode cX8_addFromSheet 15 = .ok (.iload_n 2, 1) := by decide +kernel
theorem dX8_addFromSheet_16 : decode cX8_addFromSheet 16 = .ok (.laload, 1) := by decide +kernel
theorem dX8_addFromSheet_17 : decode cX8_addFromSheet 17 = .ok (.lstore_n 3, 1) := by decide +kernel
theorem dX8_addFromSheet_18 : decode cX8_addFromSheet 18 = .ok (.aload_n 1, 1) := by decide +kernel
theorem dX8_addFromSheet_19 : decode cX8_addFromSheet 19 = .ok (.getfield 277, 3) := by decide +kernel
theorem dX8_addFromSheet_22 : decode cX8_addFromSheet 22 = .ok (.iload_n 2, 1) := by decide +kernel
theorem dX8_addFromSheet_23 : decode cX8_addFromSheet 23 = .ok (.iconst 1, 1) := by decide +kernel
theorem dX8_addFromSheet_24 : decode cX8_addFromSheet 24 = .ok (.iadd, 1) := by decide +kernel
theorem dX8_addFromSheet_25 : decode cX8_addFromSheet 25 = .ok (.laload, 1) := by decide +kernel
theorem dX8_addFromSheet_26 : decode cX8_addFromSheet 26 = .ok (.lstore 5, 2) := by decide +kernel
theorem dX8_addFromSheet_28 : decode cX8_addFromSheet 28 = .ok (.aload_n 1, 1) := by decide +kernel
theorem dX8_addFromSheet_29 : decode cX8_addFromSheet 29 = .ok (.getfield 277, 3) := by decide +kernel
theorem dX8_addFromSheet_32 : decode cX8_addFromSheet 32 = .ok (.iload_n 2, 1) := by decide +kernel
theorem dX8_addFromSheet_33 : decode cX8_addFromSheet 33 = .ok (.iconst 2, 1) := by decide +kernel
theorem dX8_addFromSheet_34 : decode cX8_addFromSheet 34 = .ok (.iadd, 1) := by decide +kernel
theorem dX8_addFromSheet_35 : decode cX8_addFromSheet 35 = .ok (.laload, 1) := by decide +kernel
theorem dX8_addFromSheet_36 : decode cX8_addFromSheet 36 = .ok (.lstore 7, 2) := by decide +kernel
theorem dX8_addFromSheet_38 : decode cX8_addFromSheet 38 = .ok (.lload_n 3, 1) := by decide +kernel
theorem dX8_addFromSheet_39 : decode cX8_addFromSheet 39 = .ok (.lload 5, 2) := by decide +kernel
theorem dX8_addFromSheet_41 : decode cX8_addFromSheet 41 = .ok (.lload 7, 2) := by decide +kernel
theorem dX8_addFromSheet_43 : decode cX8_addFromSheet 43 = .ok (.invokestatic 113, 3) := by decide +kernel
theorem dX8_addFromSheet_46 : decode cX8_addFromSheet 46 = .ok (.ifCond .eq 15, 3) := by decide +kernel
theorem dX8_addFromSheet_49 : decode cX8_addFromSheet 49 = .ok (.aload_n 0, 1) := by decide +kernel
theorem dX8_addFromSheet_50 : decode cX8_addFromSheet 50 = .ok (.getfield 19, 3) := by decide +kernel
theorem dX8_addFromSheet_53 : decode cX8_addFromSheet 53 = .ok (.lload_n 3, 1) := by decide +kernel
theorem dX8_addFromSheet_54 : decode cX8_addFromSheet 54 = .ok (.l2i, 1) := by decide +kernel
theorem dX8_addFromSheet_55 : decode cX8_addFromSheet 55 = .ok (.invokevirtual 117, 3) := by decide +kernel
theorem dX8_addFromSheet_58 : decode cX8_addFromSheet 58 = .ok (.ifCond .ne 5, 3) := by decide +kernel
theorem dX8_addFromSheet_61 : decode cX8_addFromSheet 61 = .ok (.iconst 0, 1) := by decide +kernel
theorem dX8_addFromSheet_62 : decode cX8_addFromSheet 62 = .ok (.ireturn, 1) := by decide +kernel
theorem dX8_addFromSheet_63 : decode cX8_addFromSheet 63 = .ok (.aload_n 0, 1) := by decide +kernel
theorem dX8_addFromSheet_64 : decode cX8_addFromSheet 64 = .ok (.getfield 19, 3) := by decide +kernel
theorem dX8_addFromSheet_67 : decode cX8_addFromSheet 67 = .ok (.lload_n 3, 1) := by decide +kernel
theorem dX8_addFromSheet_68 : decode cX8_addFromSheet 68 = .ok (.l2i, 1) := by decide +kernel
theorem dX8_addFromSheet_69 : decode cX8_addFromSheet 69 = .ok (.lload 5, 2) := by decide +kernel
theorem dX8_addFromSheet_71 : decode cX8_addFromSheet 71 = .ok (.l2i, 1) := by decide +kernel
theorem dX8_addFromSheet_72 : decode cX8_addFromSheet 72 = .ok (.lload 7, 2) := by decide +kernel
theorem dX8_addFromSheet_74 : decode cX8_addFromSheet 74 = .ok (.l2i, 1) := by decide +kernel
theorem dX8_addFromSheet_75 : decode cX8_addFromSheet 75 = .ok (.invokevirtual 120, 3) := by decide +kernel
theorem dX8_addFromSheet_78 : decode cX8_addFromSheet 78 = .ok (.pop, 1) := by decide +kernel
theorem dX8_addFromSheet_79 : decode cX8_addFromSheet 79 = .ok (.iconst 1, 1) := by decide +kernel
theorem dX8_addFromSheet_80 : decode cX8_addFromSheet 80 = .ok (.ireturn, 1) := by decide +kernel
abbrev rm_X8_addFromSheet : Room := { frames := 4, cells := 0, slots := 0, locals := 89 }
def f_X8_addFromSheet_L61    (σ : Sg) : Option (Int32 × Sg) := ck (b01 (0 : Int32)) (some ((0 : Int32), σ))
def f_X8_addFromSheet (x0 : Nat) (x1 : Nat) (x2 : Int32) (σ : Sg) : Option (Int32 × Sg) := bd (f_X6_hasRow x1 x2 (3 : Int32) σ) fun r2 s1 => (if r2 = 0 then ck (b01 (0 : Int32)) (some ((0 : Int32), s1)) else ck (inb x2 (aL (gR s1 x1 3))) (lB ((gL s1 (gR s1 x1 3) x2.toNatClampNeg)) fun v4 => ck (inb (x2 + (1 : Int32)) (aL (gR s1 x1 3))) (lB ((gL s1 (gR s1 x1 3) (x2 + (1 : Int32)).toNatClampNeg)) fun v6 => ck (inb (x2 + (2 : Int32)) (aL (gR s1 x1 3))) (lB ((gL s1 (gR s1 x1 3) (x2 + (2 : Int32)).toNatClampNeg)) fun v8 => bd (f_X2_mayBe v4 v6 v8 s1) fun r10 s9 => (if r10 = 0 then f_X8_addFromSheet_L61 s9 else bd (f_X2_hasRoomAt (gR s9 x0 1) (v4.toInt32) s9) fun r13 s12 => (if r13 = 0 then f_X8_addFromSheet_L61 s12 else bd (f_X2_add (gR s12 x0 1) (v4.toInt32) (v6.toInt32) (v8.toInt32) s12) fun r16 s15 => ck (b01 (1 : Int32)) (some ((1 : Int32), s15))))))))
theorem t_X8_addFromSheet_L61 {K : Cx} (h : Ok K cX8_addFromSheet RX8 9 rm_X8_addFromSheet (some .boolean)) (hs : kiv K = St)   (σ : Sg)    : T K (QI K) 61 [] [] 0 0 σ (f_X8_addFromSheet_L61 σ) := by
  unfold f_X8_addFromSheet_L61
  refine T_iconst (pc := 61) h dX8_addFromSheet_61 ki_0 ?_
  exact T_zreturn (pc := 62) h (Nat.zero_le _) (Nat.zero_le _) dX8_addFromSheet_62
theorem t_X8_addFromSheet {K : Cx} (h : Ok K cX8_addFromSheet RX8 9 rm_X8_addFromSheet (some .boolean)) (hs : kiv K = St) (x0 : Nat) (x1 : Nat) (x2 : Int32) (σ : Sg) (hk0 : kd x0 8) (hk1 : kd x1 6) : T K (QI K) 0 [(0, .ref x0), (1, .ref x1), (2, .int x2)] [] 0 0 σ (f_X8_addFromSheet x0 x1 x2 σ) := by
  unfold f_X8_addFromSheet
  refine T_aload_n (pc := 0) h dX8_addFromSheet_0 rfl 1 rfl ?_
  refine T_iload_n (pc := 1) h dX8_addFromSheet_1 rfl 2 rfl ?_
  refine T_iconst (pc := 2) h dX8_addFromSheet_2 ki_3 ?_
  refine T_callVi (pc := 3) h (M_X6_hasRow (kl K) hs x1 x2 (3 : Int32) σ hk1) mv_X6_hasRow hs hk1 ml_X8_283 rfl ⟨Nat.le_of_ble_eq_true rfl, Nat.le_of_ble_eq_true rfl⟩ ⟨Nat.le_refl 0, Nat.le_refl 0⟩ (Nat.le_of_ble_eq_true rfl) dX8_addFromSheet_3 rfl (fun r2 s1 => ?_)
  refine T_if_ne (pc := 6) (tgt := 11) h dX8_addFromSheet_6 (by decide) ?_ ?_
  · refine T_aload_n (pc := 11) h dX8_addFromSheet_11 rfl 1 rfl ?_
    refine T_gR (pc := 12) h hs hk1 fl_X8_277 rfl fk_6_3 dX8_addFromSheet_12 (fun hq3 => ?_)
    refine T_iload_n (pc := 15) h dX8_addFromSheet_15 rfl 2 rfl ?_
    refine T_lald (pc := 16) h hs hq3 dX8_addFromSheet_16 ?_
    refine T_letL fun v4 => ?_
    refine T_lstore_n (lv' := [(3, .long v4), (0, .ref x0), (1, .ref x1), (2, .int x2)]) (pc := 17) h dX8_addFromSheet_17 rfl (by decide) rfl ?_
    refine T_aload_n (pc := 18) h dX8_addFromSheet_18 rfl 2 rfl ?_
    refine T_gR (pc := 19) h hs hk1 fl_X8_277 rfl fk_6_3 dX8_addFromSheet_19 (fun hq5 => ?_)
    refine T_iload_n (pc := 22) h dX8_addFromSheet_22 rfl 3 rfl ?_
    refine T_iconst (pc := 23) h dX8_addFromSheet_23 ki_1 ?_
    refine T_iadd (pc := 24) h dX8_addFromSheet_24 ?_
    refine T_lald (pc := 25) h hs hq5 dX8_addFromSheet_25 ?_
    refine T_letL fun v6 => ?_
    refine T_lstore (lv' := [(5, .long v6), (3, .long v4), (0, .ref x0), (1, .ref x1), (2, .int x2)]) (pc := 26) h dX8_addFromSheet_26 (by decide) rfl ?_
    refine T_aload_n (pc := 28) h dX8_addFromSheet_28 rfl 3 rfl ?_
    refine T_gR (pc := 29) h hs hk1 fl_X8_277 rfl fk_6_3 dX8_addFromSheet_29 (fun hq7 => ?_)
    refine T_iload_n (pc := 32) h dX8_addFromSheet_32 rfl 4 rfl ?_
    refine T_iconst (pc := 33) h dX8_addFromSheet_33 ki_2 ?_
    refine T_iadd (pc := 34) h dX8_addFromSheet_34 ?_
    refine T_lald (pc := 35) h hs hq7 dX8_addFromSheet_35 ?_
    refine T_letL fun v8 => ?_
    refine T_lstore (lv' := [(7, .long v8), (5, .long v6), (3, .long v4), (0, .ref x0), (1, .ref x1), (2, .int x2)]) (pc := 36) h dX8_addFromSheet_36 (by decide) rfl ?_
    refine T_lload_n (pc := 38) h dX8_addFromSheet_38 rfl 2 rfl ?_
    refine T_lload (pc := 39) h dX8_addFromSheet_39 1 rfl ?_
    refine T_lload (pc := 41) h dX8_addFromSheet_41 0 rfl ?_
    refine T_callSi (pc := 43) h (M_X2_mayBe (kl K) hs v4 v6 v8 s1 ) mst_X2_mayBe ml_X8_113 rfl ⟨Nat.le_of_ble_eq_true rfl, Nat.le_of_ble_eq_true rfl⟩ ⟨Nat.le_refl 0, Nat.le_refl 0⟩ (Nat.le_of_ble_eq_true rfl) dX8_addFromSheet_43 rfl (fun r10 s9 => ?_)
    refine T_if_eq (pc := 46) (tgt := 61) h dX8_addFromSheet_46 (by decide) ?_ ?_
    · refine T_sub [] rfl ?_
      exact t_X8_addFromSheet_L61 h hs s9
    · refine T_aload_n (pc := 49) h dX8_addFromSheet_49 rfl 3 rfl ?_
      refine T_gR (pc := 50) h hs hk0 fl_X8_19 rfl fk_8_1 dX8_addFromSheet_50 (fun hq11 => ?_)
      refine T_lload_n (pc := 53) h dX8_addFromSheet_53 rfl 2 rfl ?_
      refine T_l2i (pc := 54) h dX8_addFromSheet_54 ?_
      refine T_callVi (pc := 55) h (M_X2_hasRoomAt (kl K) hs (gR s9 x0 1) (v4.toInt32) s9 hq11) mv_X2_hasRoomAt hs hq11 ml_X8_117 rfl ⟨Nat.le_of_ble_eq_true rfl, Nat.le_of_ble_eq_true rfl⟩ ⟨Nat.le_refl 0, Nat.le_refl 0⟩ (Nat.le_of_ble_eq_true rfl) dX8_addFromSheet_55 rfl (fun r13 s12 => ?_)
      refine T_if_ne (pc := 58) (tgt := 63) h dX8_addFromSheet_58 (by decide) ?_ ?_
      · refine T_aload_n (pc := 63) h dX8_addFromSheet_63 rfl 3 rfl ?_
        refine T_gR (pc := 64) h hs hk0 fl_X8_19 rfl fk_8_1 dX8_addFromSheet_64 (fun hq14 => ?_)
        refine T_lload_n (pc := 67) h dX8_addFromSheet_67 rfl 2 rfl ?_
        refine T_l2i (pc := 68) h dX8_addFromSheet_68 ?_
        refine T_lload (pc := 69) h dX8_addFromSheet_69 1 rfl ?_
        refine T_l2i (pc := 71) h dX8_addFromSheet_71 ?_
        refine T_lload (pc := 72) h dX8_addFromSheet_72 0 rfl ?_
        refine T_l2i (pc := 74) h dX8_addFromSheet_74 ?_
        refine T_callVi (pc := 75) h (M_X2_add (kl K) hs (gR s12 x0 1) (v4.toInt32) (v6.toInt32) (v8.toInt32) s12 hq14) mv_X2_add hs hq14 ml_X8_120 rfl ⟨Nat.le_of_ble_eq_true rfl, Nat.le_of_ble_eq_true rfl⟩ ⟨Nat.le_refl 0, Nat.le_refl 0⟩ (Nat.le_of_ble_eq_true rfl) dX8_addFromSheet_75 rfl (fun r16 s15 => ?_)
        refine T_pop (pc := 78) h dX8_addFromSheet_78 rfl ?_
        refine T_iconst (pc := 79) h dX8_addFromSheet_79 ki_1 ?_
        exact T_zreturn (pc := 80) h (Nat.zero_le _) (Nat.zero_le _) dX8_addFromSheet_80
      · refine T_sub [] rfl ?_
        exact t_X8_addFromSheet_L61 h hs s12
  · refine T_iconst (pc := 9) h dX8_addFromSheet_9 ki_0 ?_
    exact T_zreturn (pc := 10) h (Nat.zero_le _) (Nat.zero_le _) dX8_addFromSheet_10
theorem M_X8_addFromSheet (l : Launch) {iv : Sg → Prop} (hi : iv = St) (x0 : Nat) (x1 : Nat) (x2 : Int32) (σ : Sg) (hk0 : kd x0 8) (hk1 : kd x1 6) : CTi l yX8_addFromSheet cX8_addFromSheet 9 (some .boolean) rm_X8_addFromSheet iv [.ref x0, .ref x1, .int x2] σ (f_X8_addFromSheet x0 x1 x2 σ) := by
  subst hi
  exact CT_of (by decide) (Nat.le_of_ble_eq_true rfl) (fun K _ h _ hs _ _ => t_X8_addFromSheet h hs x0 x1 x2 σ hk0 hk1)
/-! LuteTabs.read(I)I -/
theorem dX8_read_0 : decode cX8_read 0 = .ok (.aload_n 0, 1) := by decide +kernel
theorem dX8_read_1 : decode cX8_read 1 = .ok (.iload_n 1, 1) := by decide +kernel
theorem dX8_read_2 : decode cX8_read 2 = .ok (.invokevirtual 132, 3) := by decide +kernel
theorem dX8_read_5 : decode cX8_read 5 = .ok (.istore_n 2, 1) := by decide +kernel
theorem dX8_read_6 : decode cX8_read 6 = .ok (.iload_n 2, 1) := by decide +kernel
theorem dX8_read_7 : decode cX8_read 7 = .ok (.ifCond .eq 5, 3) := by decide +kernel
theorem dX8_read_10 : decode cX8_read 10 = .ok (.iload_n 2, 1) := by decide +kernel
theorem dX8_read_11 : decode cX8_read 11 = .ok (.ireturn, 1) := by decide +kernel
theorem dX8_read_12 : decode cX8_read 12 = .ok (.iconst 0, 1) := by decide +kernel
theorem dX8_read_13 : decode cX8_read 13 = .ok (.istore_n 3, 1) := by decide +kernel
theorem dX8_read_14 : decode cX8_read 14 = .ok (.iload_n 3, 1) := by decide +kernel
theorem dX8_read_15 : decode cX8_read 15 = .ok (.bipush 14, 2) := by decide +kernel
theorem dX8_read_17 : decode cX8_read 17 = .ok (.if_icmp .ge 25, 3) := by decide +kernel
theorem dX8_read_20 : decode cX8_read 20 = .ok (.aload_n 0, 1) := by decide +kernel
theorem dX8_read_21 : decode cX8_read 21 = .ok (.aload_n 0, 1) := by decide +kernel
theorem dX8_read_22 : decode cX8_read 22 = .ok (.getfield 64, 3) := by decide +kernel
theorem dX8_read_25 : decode cX8_read 25 = .ok (.iload_n 1, 1) := by decide +kernel
theorem dX8_read_26 : decode cX8_read 26 = .ok (.aaload, 1) := by decide +kernel
theorem dX8_read_27 : decode cX8_read 27 = .ok (.iconst 3, 1) := by decide +kernel
theorem dX8_read_28 : decode cX8_read 28 = .ok (.iload_n 3, 1) := by decide +kernel
theorem dX8_read_29 : decode cX8_read 29 = .ok (.imul, 1) := by decide +kernel
theorem dX8_read_30 : decode cX8_read 30 = .ok (.invokevirtual 136, 3) := by decide +kernel
theorem dX8_read_33 : decode cX8_read 33 = .ok (.ifCond .eq 9, 3) := by decide +kernel
theorem dX8_read_36 : decode cX8_read 36 = .ok (.iinc 3 1, 3) := by decide +kernel
theorem dX8_read_39 : decode cX8_read 39 = .ok (.goto (-25), 3) := by decide +kernel
theorem dX8_read_42 : decode cX8_read 42 = .ok (.aload_n 0, 1) := by decide +kernel
theorem dX8_read_43 : decode cX8_read 43 = .ok (.invokevirtual 93, 3) := by decide +kernel
theorem dX8_read_46 : decode cX8_read 46 = .ok (.iload_n 3, 1) := by decide +kernel
theorem dX8_read_47 : decode cX8_read 47 = .ok (.ireturn, 1) := by decide +kernel
abbrev rm_X8_read : Room := { frames := 5, cells := 0, slots := 0, locals := 117 }
def f_X8_read_L42  (x0 : Nat) (x3 : Int32)  (σ : Sg) : Option (Int32 × Sg) := bd (f_X8_startAnew x0 σ) fun _ s1 => some (x3, s1)
def f_X8_read_L14  (x0 : Nat) (x1 : Int32) (rec14 : Int32 × Sg → Option (Int32 × Sg)) (s : Int32 × Sg) : Option (Int32 × Sg) := (if (14 : Int32) ≤ (s.1) then f_X8_read_L42 x0 (s.1) (s.2) else ck (inb x1 (aL (gR (s.2) x0 7))) (bd (f_X8_addFromSheet x0 (gR (s.2) (gR (s.2) x0 7) x1.toNatClampNeg) ((3 : Int32) * (s.1)) (s.2)) fun r4 s3 => (if r4 = 0 then f_X8_read_L42 x0 (s.1) s3 else lB ((s.1) + (1 : Int32)) fun v5 => rec14 (v5, s3))))
def f_X8_read (x0 : Nat) (x1 : Int32) (σ : Sg) : Option (Int32 × Sg) := bd (f_X8_refusalOfSheet x0 x1 σ) fun r2 s1 => (if r2 = 0 then fx (f_X8_read_L14 x0 x1) FU ((0 : Int32), s1) else some (r2, s1))
theorem t_X8_read_L42 {K : Cx} (h : Ok K cX8_read RX8 4 rm_X8_read (some .int)) (hs : kiv K = St) (x0 : Nat) (x3 : Int32)  (σ : Sg)  (hk0 : kd x0 8)  : T K (QI K) 42 [(0, .ref x0), (3, .int x3)] [] 0 0 σ (f_X8_read_L42 x0 x3 σ) := by
  unfold f_X8_read_L42
  refine T_aload_n (pc := 42) h dX8_read_42 rfl 0 rfl ?_
  refine T_callVv (pc := 43) h (M_X8_startAnew (kl K) hs x0 σ hk0) mv_X8_startAnew hs hk0 ml_X8_93 rfl ⟨Nat.le_of_ble_eq_true rfl, Nat.le_of_ble_eq_true rfl⟩ ⟨Nat.le_refl 0, Nat.le_refl 0⟩ (Nat.le_of_ble_eq_true rfl) dX8_read_43 rfl (fun _ s1 => ?_)
  refine T_iload_n (pc := 46) h dX8_read_46 rfl 1 rfl ?_
  exact T_ireturn (pc := 47) h (Nat.zero_le _) (Nat.zero_le _) dX8_read_47
theorem t_X8_read_L14 {K : Cx} (h : Ok K cX8_read RX8 4 rm_X8_read (some .int)) (hs : kiv K = St) (x0 : Nat) (x1 : Int32)  (hk0 : kd x0 8) (rec14 : Int32 × Sg → Option (Int32 × Sg)) (hr14 : ∀ u, T K (QI K) 14 [(0, .ref x0), (1, .int x1), (3, .int (u.1))] [] 0 0 (u.2) (rec14 u)) (s : Int32 × Sg) : T K (QI K) 14 [(0, .ref x0), (1, .int x1), (3, .int (s.1))] [] 0 0 (s.2) (f_X8_read_L14 x0 x1 rec14 s) := by
  unfold f_X8_read_L14
  refine T_iload_n (pc := 14) h dX8_read_14 rfl 2 rfl ?_
  refine T_bipush (pc := 15) h dX8_read_15 kb_14 ?_
  refine T_icmp_ge (pc := 17) (tgt := 42) h dX8_read_17 (by decide) ?_ ?_
  · refine T_sub [0, 2] rfl ?_
    exact t_X8_read_L42 h hs x0 (s.1) (s.2) hk0
  · refine T_aload_n (pc := 20) h dX8_read_20 rfl 0 rfl ?_
    refine T_aload_n (pc := 21) h dX8_read_21 rfl 0 rfl ?_
    refine T_gR (pc := 22) h hs hk0 fl_X8_64 rfl fk_8_7 dX8_read_22 (fun hq1 => ?_)
    refine T_iload_n (pc := 25) h dX8_read_25 rfl 1 rfl ?_
    refine T_aald (c := 13) (c' := 6) (pc := 26) h hs hq1 (by decide) dX8_read_26 (fun hq2 => ?_)
    refine T_iconst (pc := 27) h dX8_read_27 ki_3 ?_
    refine T_iload_n (pc := 28) h dX8_read_28 rfl 2 rfl ?_
    refine T_imul (pc := 29) h dX8_read_29 ?_
    refine T_callVi (pc := 30) h (M_X8_addFromSheet (kl K) hs x0 (gR (s.2) (gR (s.2) x0 7) x1.toNatClampNeg) ((3 : Int32) * (s.1)) (s.2) hk0 hq2) mv_X8_addFromSheet hs hk0 ml_X8_136 rfl ⟨Nat.le_of_ble_eq_true rfl, Nat.le_of_ble_eq_true rfl⟩ ⟨Nat.le_refl 0, Nat.le_refl 0⟩ (Nat.le_of_ble_eq_true rfl) dX8_read_30 rfl (fun r4 s3 => ?_)
    refine T_if_eq (pc := 33) (tgt := 42) h dX8_read_33 (by decide) ?_ ?_
    · refine T_sub [0, 2] rfl ?_
      exact t_X8_read_L42 h hs x0 (s.1) s3 hk0
    · refine T_iinc (fl := fun v5 => [(3, .int v5), (0, .ref x0), (1, .int x1)]) (pc := 36) h dX8_read_36 2 rfl ki_1 (by decide) (fun _ => rfl) (fun v5 => ?_)
      refine T_goto (pc := 39) (tgt := 14) h dX8_read_39 (by decide) ?_
      refine T_sub [1, 2, 0] rfl ?_
      exact hr14 (v5, s3)
theorem t_X8_read {K : Cx} (h : Ok K cX8_read RX8 4 rm_X8_read (some .int)) (hs : kiv K = St) (x0 : Nat) (x1 : Int32) (σ : Sg) (hk0 : kd x0 8) : T K (QI K) 0 [(0, .ref x0), (1, .int x1)] [] 0 0 σ (f_X8_read x0 x1 σ) := by
  unfold f_X8_read
  refine T_aload_n (pc := 0) h dX8_read_0 rfl 0 rfl ?_
  refine T_iload_n (pc := 1) h dX8_read_1 rfl 1 rfl ?_
  refine T_callVi (pc := 2) h (M_X8_refusalOfSheet (kl K) hs x0 x1 σ hk0) mv_X8_refusalOfSheet hs hk0 ml_X8_132 rfl ⟨Nat.le_of_ble_eq_true rfl, Nat.le_of_ble_eq_true rfl⟩ ⟨Nat.le_refl 0, Nat.le_refl 0⟩ (Nat.le_of_ble_eq_true rfl) dX8_read_2 rfl (fun r2 s1 => ?_)
  refine T_istore_n (lv' := [(2, .int r2), (0, .ref x0), (1, .int x1)]) (pc := 5) h dX8_read_5 rfl (by decide) rfl ?_
  refine T_iload_n (pc := 6) h dX8_read_6 rfl 0 rfl ?_
  refine T_if_eq (pc := 7) (tgt := 12) h dX8_read_7 (by decide) ?_ ?_
  · refine T_iconst (pc := 12) h dX8_read_12 ki_0 ?_
    refine T_istore_n (lv' := [(3, .int (0 : Int32)), (2, .int r2), (0, .ref x0), (1, .int x1)]) (pc := 13) h dX8_read_13 rfl (by decide) rfl ?_
    refine T_sub [2, 3, 0] rfl ?_
    exact T_fx (B := f_X8_read_L14 x0 x1) (fl := fun u => [(0, .ref x0), (1, .int x1), (3, .int (u.1))]) (f := fun u => (u.2)) (fun rec14 hr14 u => t_X8_read_L14 h hs x0 x1 hk0 rec14 hr14 u) FU ((0 : Int32), s1)
  · refine T_iload_n (pc := 10) h dX8_read_10 rfl 0 rfl ?_
    exact T_ireturn (pc := 11) h (Nat.zero_le _) (Nat.zero_le _) dX8_read_11
theorem M_X8_read (l : Launch) {iv : Sg → Prop} (hi : iv = St) (x0 : Nat) (x1 : Int32) (σ : Sg) (hk0 : kd x0 8) : CTi l yX8_read cX8_read 4 (some .int) rm_X8_read iv [.ref x0, .int x1] σ (f_X8_read x0 x1 σ) := by
  subst hi
  exact CT_of (by decide) (Nat.le_of_ble_eq_true rfl) (fun K _ h _ hs _ _ => t_X8_read h hs x0 x1 σ hk0)
/-! LuteTabs.coursesFor(I)I -/
theorem dX8_coursesFor_0 : decode cX8_coursesFor 0 = .ok (.iconst 0, 1) := by decide +kernel
theorem dX8_coursesFor_1 : decode cX8_coursesFor 1 = .ok (.istore_n 2, 1) := by decide +kernel
theorem dX8_coursesFor_2 : decode cX8_coursesFor 2 = .ok (.iconst 0, 1) := by decide +kernel
theorem dX8_coursesFor_3 : decode cX8_coursesFor 3 = .ok (.istore_n 3, 1) := by decide +kernel
theorem dX8_coursesFor_4 : decode cX8_coursesFor 4 = .ok (.iload_n 3, 1) := by decide +kernel
theorem dX8_coursesFor_5 : decode cX8_coursesFor 5 = .ok (.aload_n 0, 1) := by decide +kernel
theorem dX8_coursesFor_6 : decode cX8_coursesFor 6 = .ok (.getfield 10, 3) := by decide +kernel
theorem dX8_coursesFor_9 : decode cX8_coursesFor 9 = .ok (.getfield 90, 3) := by decide +kernel
theorem dX8_coursesFor_12 : decode cX8_coursesFor 12 = .ok (.if_icmp .ge 41, 3) := by decide +kernel
theorem dX8_coursesFor_15 : decode cX8_coursesFor 15 = .ok (.aload_n 0, 1) := by decide +kernel
theorem dX8_coursesFor_16 : decode cX8_coursesFor 16 = .ok (.getfield 10, 3) := by decide +kernel
theorem dX8_coursesFor_19 : decode cX8_coursesFor 19 = .ok (.aload_n 0, 1) := by decide +kernel
theorem dX8_coursesFor_20 : decode cX8_coursesFor 20 = .ok (.getfield 19, 3) := by decide +kernel
theorem dX8_coursesFor_23 : decode cX8_coursesFor 23 = .ok (.getfield 143, 3) := by decide +kernel
theorem dX8_coursesFor_26 : decode cX8_coursesFor 26 = .ok (.iload_n 1, 1) := by decide +kernel
theorem dX8_coursesFor_27 : decode cX8_coursesFor 27 = .ok (.iaload, 1) := by decide +kernel
theorem dX8_coursesFor_28 : decode cX8_coursesFor 28 = .ok (.aload_n 0, 1) := by decide +kernel
theorem dX8_coursesFor_29 : decode cX8_coursesFor 29 = .ok (.getfield 10, 3) := by decide +kernel
theorem dX8_coursesFor_32 : decode cX8_coursesFor 32 = .ok (.getfield 100, 3) := by decide +kernel
theorem dX8_coursesFor_35 : decode cX8_coursesFor 35 = .ok (.iload_n 3, 1) := by decide +kernel
theorem dX8_coursesFor_36 : decode cX8_coursesFor 36 = .ok (.iaload, 1) := by decide +kernel
theorem dX8_coursesFor_37 : decode cX8_coursesFor 37 = .ok (.isub, 1) := by decide +kernel
theorem dX8_coursesFor_38 : decode cX8_coursesFor 38 = .ok (.invokevirtual 353, 3) := by decide +kernel
theorem dX8_coursesFor_41 : decode cX8_coursesFor 41 = .ok (.ifCond .eq 6, 3) := by decide +kernel
theorem dX8_coursesFor_44 : decode cX8_coursesFor 44 = .ok (.iinc 2 1, 3) := by decide +kernel
theorem dX8_coursesFor_47 : decode cX8_coursesFor 47 = .ok (.iinc 3 1, 3) := by decide +kernel
theorem dX8_coursesFor_50 : decode cX8_coursesFor 50 = .ok (.goto (-46), 3) := by decide +kernel
theorem dX8_coursesFor_53 : decode cX8_coursesFor 53 = .ok (.iload_n 2, 1) := by decide +kernel
theorem dX8_coursesFor_54 : decode cX8_coursesFor 54 = .ok (.ireturn, 1) := by decide +kernel
abbrev rm_X8_coursesFor : Room := { frames := 1, cells := 0, slots := 0, locals := 21 }
def f_X8_coursesFor_L47 (rec4 : Int32 × Int32 × Sg → Option (Int32 × Sg)) (x0 : Nat) (x1 : Int32) (x2 : Int32) (x3 : Int32)  (σ : Sg) : Option (Int32 × Sg) := lB (x3 + (1 : Int32)) fun v1 => rec4 (x2, v1, σ)
def f_X8_coursesFor_L4  (x0 : Nat) (x1 : Int32) (rec4 : Int32 × Int32 × Sg → Option (Int32 × Sg)) (s : Int32 × Int32 × Sg) : Option (Int32 × Sg) := (if (gI (s.2.2) (gR (s.2.2) x0 0) 0) ≤ (s.2.1) then some ((s.1), (s.2.2)) else ck (inb x1 (aL (gR (s.2.2) (gR (s.2.2) x0 1) 1))) (ck (inb (s.2.1) (aL (gR (s.2.2) (gR (s.2.2) x0 0) 1))) (bd (f_X1_hasFret (gR (s.2.2) x0 0) ((gI (s.2.2) (gR (s.2.2) (gR (s.2.2) x0 1) 1) x1.toNatClampNeg) - (gI (s.2.2) (gR (s.2.2) (gR (s.2.2) x0 0) 1) (s.2.1).toNatClampNeg)) (s.2.2)) fun r8 s7 => (if r8 = 0 then f_X8_coursesFor_L47 rec4 x0 x1 (s.1) (s.2.1) s7 else lB ((s.1) + (1 : Int32)) fun v9 => f_X8_coursesFor_L47 rec4 x0 x1 v9 (s.2.1) s7))))
def f_X8_coursesFor (x0 : Nat) (x1 : Int32) (σ : Sg) : Option (Int32 × Sg) := fx (f_X8_coursesFor_L4 x0 x1) FU ((0 : Int32), (0 : Int32), σ)
theorem t_X8_coursesFor_L47 {K : Cx} (h : Ok K cX8_coursesFor RX8 4 rm_X8_coursesFor (some .int)) (hs : kiv K = St) (x0 : Nat) (x1 : Int32) (x2 : Int32) (x3 : Int32)  (σ : Sg) (rec4 : Int32 × Int32 × Sg → Option (Int32 × Sg)) (hr4 : ∀ u, T K (QI K) 4 [(0, .ref x0), (1, .int x1), (2, .int (u.1)), (3, .int (u.2.1))] [] 0 0 (u.2.2) (rec4 u)) (hk0 : kd x0 8)  : T K (QI K) 47 [(0, .ref x0), (1, .int x1), (2, .int x2), (3, .int x3)] [] 0 0 σ (f_X8_coursesFor_L47 rec4 x0 x1 x2 x3 σ) := by
  unfold f_X8_coursesFor_L47
  refine T_iinc (fl := fun v1 => [(3, .int v1), (0, .ref x0), (1, .int x1), (2, .int x2)]) (pc := 47) h dX8_coursesFor_47 3 rfl ki_1 (by decide) (fun _ => rfl) (fun v1 => ?_)
  refine T_goto (pc := 50) (tgt := 4) h dX8_coursesFor_50 (by decide) ?_
  refine T_sub [1, 2, 3, 0] rfl ?_
  exact hr4 (x2, v1, σ)
theorem t_X8_coursesFor_L4 {K : Cx} (h : Ok K cX8_coursesFor RX8 4 rm_X8_coursesFor (some .int)) (hs : kiv K = St) (x0 : Nat) (x1 : Int32)  (hk0 : kd x0 8) (rec4 : Int32 × Int32 × Sg → Option (Int32 × Sg)) (hr4 : ∀ u, T K (QI K) 4 [(0, .ref x0), (1, .int x1), (2, .int (u.1)), (3, .int (u.2.1))] [] 0 0 (u.2.2) (rec4 u)) (s : Int32 × Int32 × Sg) : T K (QI K) 4 [(0, .ref x0), (1, .int x1), (2, .int (s.1)), (3, .int (s.2.1))] [] 0 0 (s.2.2) (f_X8_coursesFor_L4 x0 x1 rec4 s) := by
  unfold f_X8_coursesFor_L4
  refine T_iload_n (pc := 4) h dX8_coursesFor_4 rfl 3 rfl ?_
  refine T_aload_n (pc := 5) h dX8_coursesFor_5 rfl 0 rfl ?_
  refine T_gR (pc := 6) h hs hk0 fl_X8_10 rfl fk_8_0 dX8_coursesFor_6 (fun hq1 => ?_)
  refine T_getI (pc := 9) h hs hq1 fl_X8_90 rfl dX8_coursesFor_9 ?_
  refine T_icmp_ge (pc := 12) (tgt := 53) h dX8_coursesFor_12 (by decide) ?_ ?_
  · refine T_iload_n (pc := 53) h dX8_coursesFor_53 rfl 2 rfl ?_
    exact T_ireturn (pc := 54) h (Nat.zero_le _) (Nat.zero_le _) dX8_coursesFor_54
  · refine T_aload_n (pc := 15) h dX8_coursesFor_15 rfl 0 rfl ?_
    refine T_gR (pc := 16) h hs hk0 fl_X8_10 rfl fk_8_0 dX8_coursesFor_16 (fun hq2 => ?_)
    refine T_aload_n (pc := 19) h dX8_coursesFor_19 rfl 0 rfl ?_
    refine T_gR (pc := 20) h hs hk0 fl_X8_19 rfl fk_8_1 dX8_coursesFor_20 (fun hq3 => ?_)
    refine T_gR (pc := 23) h hs hq3 fl_X8_143 rfl fk_2_1 dX8_coursesFor_23 (fun hq4 => ?_)
    refine T_iload_n (pc := 26) h dX8_coursesFor_26 rfl 1 rfl ?_
    refine T_iald (pc := 27) h hs hq4 dX8_coursesFor_27 ?_
    refine T_aload_n (pc := 28) h dX8_coursesFor_28 rfl 0 rfl ?_
    refine T_gR (pc := 29) h hs hk0 fl_X8_10 rfl fk_8_0 dX8_coursesFor_29 (fun hq5 => ?_)
    refine T_gR (pc := 32) h hs hq5 fl_X8_100 rfl fk_1_1 dX8_coursesFor_32 (fun hq6 => ?_)
    refine T_iload_n (pc := 35) h dX8_coursesFor_35 rfl 3 rfl ?_
    refine T_iald (pc := 36) h hs hq6 dX8_coursesFor_36 ?_
    refine T_isub (pc := 37) h dX8_coursesFor_37 ?_
    refine T_callVi (pc := 38) h (M_X1_hasFret (kl K) hs (gR (s.2.2) x0 0) ((gI (s.2.2) (gR (s.2.2) (gR (s.2.2) x0 1) 1) x1.toNatClampNeg) - (gI (s.2.2) (gR (s.2.2) (gR (s.2.2) x0 0) 1) (s.2.1).toNatClampNeg)) (s.2.2) hq2) mv_X1_hasFret hs hq2 ml_X8_353 rfl ⟨Nat.le_of_ble_eq_true rfl, Nat.le_of_ble_eq_true rfl⟩ ⟨Nat.le_refl 0, Nat.le_refl 0⟩ (Nat.le_of_ble_eq_true rfl) dX8_coursesFor_38 rfl (fun r8 s7 => ?_)
    refine T_if_eq (pc := 41) (tgt := 47) h dX8_coursesFor_41 (by decide) ?_ ?_
    · refine T_sub [0, 1, 2, 3] rfl ?_
      exact t_X8_coursesFor_L47 h hs x0 x1 (s.1) (s.2.1) s7 rec4 hr4 hk0
    · refine T_iinc (fl := fun v9 => [(2, .int v9), (0, .ref x0), (1, .int x1), (3, .int (s.2.1))]) (pc := 44) h dX8_coursesFor_44 2 rfl ki_1 (by decide) (fun _ => rfl) (fun v9 => ?_)
      refine T_sub [1, 2, 0, 3] rfl ?_
      exact t_X8_coursesFor_L47 h hs x0 x1 v9 (s.2.1) s7 rec4 hr4 hk0
theorem t_X8_coursesFor {K : Cx} (h : Ok K cX8_coursesFor RX8 4 rm_X8_coursesFor (some .int)) (hs : kiv K = St) (x0 : Nat) (x1 : Int32) (σ : Sg) (hk0 : kd x0 8) : T K (QI K) 0 [(0, .ref x0), (1, .int x1)] [] 0 0 σ (f_X8_coursesFor x0 x1 σ) := by
  unfold f_X8_coursesFor
  refine T_iconst (pc := 0) h dX8_coursesFor_0 ki_0 ?_
  refine T_istore_n (lv' := [(2, .int (0 : Int32)), (0, .ref x0), (1, .int x1)]) (pc := 1) h dX8_coursesFor_1 rfl (by decide) rfl ?_
  refine T_iconst (pc := 2) h dX8_coursesFor_2 ki_0 ?_
  refine T_istore_n (lv' := [(3, .int (0 : Int32)), (2, .int (0 : Int32)), (0, .ref x0), (1, .int x1)]) (pc := 3) h dX8_coursesFor_3 rfl (by decide) rfl ?_
  refine T_sub [2, 3, 1, 0] rfl ?_
  exact T_fx (B := f_X8_coursesFor_L4 x0 x1) (fl := fun u => [(0, .ref x0), (1, .int x1), (2, .int (u.1)), (3, .int (u.2.1))]) (f := fun u => (u.2.2)) (fun rec4 hr4 u => t_X8_coursesFor_L4 h hs x0 x1 hk0 rec4 hr4 u) FU ((0 : Int32), (0 : Int32), σ)
theorem M_X8_coursesFor (l : Launch) {iv : Sg → Prop} (hi : iv = St) (x0 : Nat) (x1 : Int32) (σ : Sg) (hk0 : kd x0 8) : CTi l yX8_coursesFor cX8_coursesFor 4 (some .int) rm_X8_coursesFor iv [.ref x0, .int x1] σ (f_X8_coursesFor x0 x1 σ) := by
  subst hi
  exact CT_of (by decide) (Nat.le_of_ble_eq_true rfl) (fun K _ h _ hs _ _ => t_X8_coursesFor h hs x0 x1 σ hk0)
/-! LuteTabs.info(II)I -/
theorem dX8_info_0 : decode cX8_info 0 = .ok (.aload_n 0, 1) := by decide +kernel
theorem dX8_info_1 : decode cX8_info 1 = .ok (.getfield 19, 3) := by decide +kernel
theorem dX8_info_4 : decode cX8_info 4 = .ok (.iload_n 1, 1) := by decide +kernel
theorem dX8_info_5 : decode cX8_info 5 = .ok (.invokevirtual 124, 3) := by decide +kernel
theorem dX8_info_8 : decode cX8_info 8 = .ok (.ifCond .ne 6, 3) := by decide +kernel
theorem dX8_info_11 : decode cX8_info 11 = .ok (.bipush (-2), 2) := by decide +kernel
theorem dX8_info_13 : decode cX8_info 13 = .ok (.ireturn, 1) := by decide +kernel
theorem dX8_info_14 : decode cX8_info 14 = .ok (.iload_n 2, 1) := by decide +kernel
theorem dX8_info_15 : decode cX8_info 15 = .ok (.tableswitch 101 0 5 #[37, 47, 57, 67, 77, 83], 37) := by decide +kernel
theorem dX8_info_52 : decode cX8_info 52 = .ok (.aload_n 0, 1) := by decide +kernel
theorem dX8_info_53 : decode cX8_info 53 = .ok (.getfield 19, 3) := by decide +kernel
theorem dX8_info_56 : decode cX8_info 56 = .ok (.getfield 140, 3) := by decide +kernel
theorem dX8_info_59 : decode cX8_info 59 = .ok (.iload_n 1, 1) := by decide +kernel
theorem dX8_info_60 : decode cX8_info 60 = .ok (.iaload, 1) := by decide +kernel
theorem dX8_info_61 : decode cX8_info 61 = .ok (.ireturn, 1) := by decide +kernel
theorem dX8_info_62 : decode cX8_info 62 = .ok (.aload_n 0, 1) := by decide +kernel
theorem dX8_info_63 : decode cX8_info 63 = .ok (.getfield 19, 3) := by decide +kernel
theorem dX8_info_66 : decode cX8_info 66 = .ok (.getfield 143, 3) := by decide +kernel
theorem dX8_info_69 : decode cX8_info 69 = .ok (.iload_n 1, 1) := by decide +kernel
theorem dX8_info_70 : decode cX8_info 70 = .ok (.iaload, 1) := by decide +kernel
theorem dX8_info_71 : decode cX8_info 71 = .ok (.ireturn, 1) := by decide +kernel
theorem dX8_info_72 : decode cX8_info 72 = .ok (.aload_n 0, 1) := by decide +kernel
theorem dX8_info_73 : decode cX8_info 73 = .ok (.getfield 19, 3) := by decide +kernel
theorem dX8_info_76 : decode cX8_info 76 = .ok (.getfield 146, 3) := by decide +kernel
theorem dX8_info_79 : decode cX8_info 79 = .ok (.iload_n 1, 1) := by decide +kernel
theorem dX8_info_80 : decode cX8_info 80 = .ok (.iaload, 1) := by decide +kernel
theorem dX8_info_81 : decode cX8_info 81 = .ok (.ireturn, 1) := by decide +kernel
theorem dX8_info_82 : decode cX8_info 82 = .ok (.aload_n 0, 1) := by decide +kernel
theorem dX8_info_83 : decode cX8_info 83 = .ok (.getfield 19, 3) := by decide +kernel
theorem dX8_info_86 : decode cX8_info 86 = .ok (.getfield 149, 3) := by decide +kernel
theorem dX8_info_89 : decode cX8_info 89 = .ok (.iload_n 1, 1) := by decide +kernel
theorem dX8_info_90 : decode cX8_info 90 = .ok (.iaload, 1) := by decide +kernel
theorem dX8_info_91 : decode cX8_info 91 = .ok (.ireturn, 1) := by decide +kernel
theorem dX8_info_92 : decode cX8_info 92 = .ok (.aload_n 0, 1) := by decide +kernel
theorem dX8_info_93 : decode cX8_info 93 = .ok (.iload_n 1, 1) := by decide +kernel
theorem dX8_info_94 : decode cX8_info 94 = .ok (.invokevirtual 152, 3) := by decide +kernel
theorem dX8_info_97 : decode cX8_info 97 = .ok (.ireturn, 1) := by decide +kernel
theorem dX8_info_98 : decode cX8_info 98 = .ok (.aload_n 0, 1) := by decide +kernel
theorem dX8_info_99 : decode cX8_info 99 = .ok (.getfield 81, 3) := by decide +kernel
theorem dX8_info_102 : decode cX8_info 102 = .ok (.ifCond .eq 12, 3) := by decide +kernel
theorem dX8_info_105 : decode cX8_info 105 = .ok (.aload_n 0, 1) := by decide +kernel
theorem dX8_info_106 : decode cX8_info 106 = .ok (.getfield 77, 3) := by decide +kernel
theorem dX8_info_109 : decode cX8_info 109 = .ok (.iload_n 1, 1) := by decide +kernel
theorem dX8_info_110 : decode cX8_info 110 = .ok (.iaload, 1) := by decide +kernel
theorem dX8_info_111 : decode cX8_info 111 = .ok (.goto 4, 3) := by decide +kernel
theorem dX8_info_114 : decode cX8_info 114 = .ok (.iconst (-1), 1) := by decide +kernel
theorem dX8_info_115 : decode cX8_info 115 = .ok (.ireturn, 1) := by decide +kernel
theorem dX8_info_116 : decode cX8_info 116 = .ok (.bipush (-2), 2) := by decide +kernel
theorem dX8_info_118 : decode cX8_info 118 = .ok (.ireturn, 1) := by decide +kernel
abbrev rm_X8_info : Room := { frames := 2, cells := 0, slots := 0, locals := 44 }
def f_X8_info_L115   (y0 : Int32) (σ : Sg) : Option (Int32 × Sg) := some (y0, σ)
def f_X8_info (x0 : Nat) (x1 : Int32) (x2 : Int32) (σ : Sg) : Option (Int32 × Sg) := bd (f_X2_has (gR σ x0 1) x1 σ) fun r3 s2 => (if r3 = 0 then some ((-2 : Int32), s2) else (if x2.toInt < 0 ∨ 5 < x2.toInt then some ((-2 : Int32), s2) else swt [ck (inb x1 (aL (gR s2 (gR s2 x0 1) 0))) (some ((gI s2 (gR s2 (gR s2 x0 1) 0) x1.toNatClampNeg), s2)), ck (inb x1 (aL (gR s2 (gR s2 x0 1) 1))) (some ((gI s2 (gR s2 (gR s2 x0 1) 1) x1.toNatClampNeg), s2)), ck (inb x1 (aL (gR s2 (gR s2 x0 1) 2))) (some ((gI s2 (gR s2 (gR s2 x0 1) 2) x1.toNatClampNeg), s2)), ck (inb x1 (aL (gR s2 (gR s2 x0 1) 3))) (some ((gI s2 (gR s2 (gR s2 x0 1) 3) x1.toNatClampNeg), s2)), bd (f_X8_coursesFor x0 x1 s2) fun r13 s12 => some (r13, s12), (if (gI s2 x0 11) = 0 then f_X8_info_L115 (-1 : Int32) s2 else ck (inb x1 (aL (gR s2 x0 10))) (f_X8_info_L115 (gI s2 (gR s2 x0 10) x1.toNatClampNeg) s2))] (x2.toInt - 0).toNat))
theorem t_X8_info_L115 {K : Cx} (h : Ok K cX8_info RX8 3 rm_X8_info (some .int)) (hs : kiv K = St)  (y0 : Int32) (σ : Sg)    : T K (QI K) 115 [] [.int y0] 0 0 σ (f_X8_info_L115 y0 σ) := by
  unfold f_X8_info_L115
  exact T_ireturn (pc := 115) h (Nat.zero_le _) (Nat.zero_le _) dX8_info_115
theorem t_X8_info {K : Cx} (h : Ok K cX8_info RX8 3 rm_X8_info (some .int)) (hs : kiv K = St) (x0 : Nat) (x1 : Int32) (x2 : Int32) (σ : Sg) (hk0 : kd x0 8) : T K (QI K) 0 [(0, .ref x0), (1, .int x1), (2, .int x2)] [] 0 0 σ (f_X8_info x0 x1 x2 σ) := by
  unfold f_X8_info
  refine T_aload_n (pc := 0) h dX8_info_0 rfl 0 rfl ?_
  refine T_gR (pc := 1) h hs hk0 fl_X8_19 rfl fk_8_1 dX8_info_1 (fun hq1 => ?_)
  refine T_iload_n (pc := 4) h dX8_info_4 rfl 1 rfl ?_
  refine T_callVi (pc := 5) h (M_X2_has (kl K) hs (gR σ x0 1) x1 σ hq1) mv_X2_has hs hq1 ml_X8_124 rfl ⟨Nat.le_of_ble_eq_true rfl, Nat.le_of_ble_eq_true rfl⟩ ⟨Nat.le_refl 0, Nat.le_refl 0⟩ (Nat.le_of_ble_eq_true rfl) dX8_info_5 rfl (fun r3 s2 => ?_)
  refine T_if_ne (pc := 8) (tgt := 14) h dX8_info_8 (by decide) ?_ ?_
  · refine T_iload_n (pc := 14) h dX8_info_14 rfl 2 rfl ?_
    refine T_tsw (pc := 15) (tgt := 116) h dX8_info_15 (by decide) [52, 62, 72, 82, 92, 98] rfl (by decide) rfl (by decide) ?_ (List.forall_mem_cons.mpr ⟨?_, List.forall_mem_cons.mpr ⟨?_, List.forall_mem_cons.mpr ⟨?_, List.forall_mem_cons.mpr ⟨?_, List.forall_mem_cons.mpr ⟨?_, List.forall_mem_cons.mpr ⟨?_, fun _ hq => by cases hq⟩⟩⟩⟩⟩⟩)
    · refine T_bipush (pc := 116) h dX8_info_116 kb_m2 ?_
      exact T_ireturn (pc := 118) h (Nat.zero_le _) (Nat.zero_le _) dX8_info_118
    · dsimp only
      refine T_aload_n (pc := 52) h dX8_info_52 rfl 0 rfl ?_
      refine T_gR (pc := 53) h hs hk0 fl_X8_19 rfl fk_8_1 dX8_info_53 (fun hq4 => ?_)
      refine T_gR (pc := 56) h hs hq4 fl_X8_140 rfl fk_2_0 dX8_info_56 (fun hq5 => ?_)
      refine T_iload_n (pc := 59) h dX8_info_59 rfl 1 rfl ?_
      refine T_iald (pc := 60) h hs hq5 dX8_info_60 ?_
      exact T_ireturn (pc := 61) h (Nat.zero_le _) (Nat.zero_le _) dX8_info_61
    · dsimp only
      refine T_aload_n (pc := 62) h dX8_info_62 rfl 0 rfl ?_
      refine T_gR (pc := 63) h hs hk0 fl_X8_19 rfl fk_8_1 dX8_info_63 (fun hq6 => ?_)
      refine T_gR (pc := 66) h hs hq6 fl_X8_143 rfl fk_2_1 dX8_info_66 (fun hq7 => ?_)
      refine T_iload_n (pc := 69) h dX8_info_69 rfl 1 rfl ?_
      refine T_iald (pc := 70) h hs hq7 dX8_info_70 ?_
      exact T_ireturn (pc := 71) h (Nat.zero_le _) (Nat.zero_le _) dX8_info_71
    · dsimp only
      refine T_aload_n (pc := 72) h dX8_info_72 rfl 0 rfl ?_
      refine T_gR (pc := 73) h hs hk0 fl_X8_19 rfl fk_8_1 dX8_info_73 (fun hq8 => ?_)
      refine T_gR (pc := 76) h hs hq8 fl_X8_146 rfl fk_2_2 dX8_info_76 (fun hq9 => ?_)
      refine T_iload_n (pc := 79) h dX8_info_79 rfl 1 rfl ?_
      refine T_iald (pc := 80) h hs hq9 dX8_info_80 ?_
      exact T_ireturn (pc := 81) h (Nat.zero_le _) (Nat.zero_le _) dX8_info_81
    · dsimp only
      refine T_aload_n (pc := 82) h dX8_info_82 rfl 0 rfl ?_
      refine T_gR (pc := 83) h hs hk0 fl_X8_19 rfl fk_8_1 dX8_info_83 (fun hq10 => ?_)
      refine T_gR (pc := 86) h hs hq10 fl_X8_149 rfl fk_2_3 dX8_info_86 (fun hq11 => ?_)
      refine T_iload_n (pc := 89) h dX8_info_89 rfl 1 rfl ?_
      refine T_iald (pc := 90) h hs hq11 dX8_info_90 ?_
      exact T_ireturn (pc := 91) h (Nat.zero_le _) (Nat.zero_le _) dX8_info_91
    · dsimp only
      refine T_aload_n (pc := 92) h dX8_info_92 rfl 0 rfl ?_
      refine T_iload_n (pc := 93) h dX8_info_93 rfl 1 rfl ?_
      refine T_callVi (pc := 94) h (M_X8_coursesFor (kl K) hs x0 x1 s2 hk0) mv_X8_coursesFor hs hk0 ml_X8_152 rfl ⟨Nat.le_of_ble_eq_true rfl, Nat.le_of_ble_eq_true rfl⟩ ⟨Nat.le_refl 0, Nat.le_refl 0⟩ (Nat.le_of_ble_eq_true rfl) dX8_info_94 rfl (fun r13 s12 => ?_)
      exact T_ireturn (pc := 97) h (Nat.zero_le _) (Nat.zero_le _) dX8_info_97
    · dsimp only
      refine T_aload_n (pc := 98) h dX8_info_98 rfl 0 rfl ?_
      refine T_getI (pc := 99) h hs hk0 fl_X8_81 rfl dX8_info_99 ?_
      refine T_if_eq (pc := 102) (tgt := 114) h dX8_info_102 (by decide) ?_ ?_
      · refine T_iconst (pc := 114) h dX8_info_114 ki_m1 ?_
        refine T_sub [] rfl ?_
        exact t_X8_info_L115 h hs (-1 : Int32) s2
      · refine T_aload_n (pc := 105) h dX8_info_105 rfl 0 rfl ?_
        refine T_gR (pc := 106) h hs hk0 fl_X8_77 rfl fk_8_10 dX8_info_106 (fun hq14 => ?_)
        refine T_iload_n (pc := 109) h dX8_info_109 rfl 1 rfl ?_
        refine T_iald (pc := 110) h hs hq14 dX8_info_110 ?_
        refine T_goto (pc := 111) (tgt := 115) h dX8_info_111 (by decide) ?_
        refine T_sub [] rfl ?_
        exact t_X8_info_L115 h hs (gI s2 (gR s2 x0 10) x1.toNatClampNeg) s2
  · refine T_bipush (pc := 11) h dX8_info_11 kb_m2 ?_
    exact T_ireturn (pc := 13) h (Nat.zero_le _) (Nat.zero_le _) dX8_info_13
theorem M_X8_info (l : Launch) {iv : Sg → Prop} (hi : iv = St) (x0 : Nat) (x1 : Int32) (x2 : Int32) (σ : Sg) (hk0 : kd x0 8) : CTi l yX8_info cX8_info 3 (some .int) rm_X8_info iv [.ref x0, .int x1, .int x2] σ (f_X8_info x0 x1 x2 σ) := by
  subst hi
  exact CT_of (by decide) (Nat.le_of_ble_eq_true rfl) (fun K _ h _ hs _ _ => t_X8_info h hs x0 x1 x2 σ hk0)
/-! LuteTabs.notesFor(I)I -/
theorem dX8_notesFor_0 : decode cX8_notesFor 0 = .ok (.iconst 0, 1) := by decide +kernel
theorem dX8_notesFor_1 : decode cX8_notesFor 1 = .ok (.istore_n 2, 1) := by decide +kernel
theorem dX8_notesFor_2 : decode cX8_notesFor 2 = .ok (.iconst 0, 1) := by decide +kernel
theorem dX8_notesFor_3 : decode cX8_notesFor 3 = .ok (.istore_n 3, 1) := by decide +kernel
theorem dX8_notesFor_4 : decode cX8_notesFor 4 = .ok (.iload_n 3, 1) := by decide +kernel
theorem dX8_notesFor_5 : decode cX8_notesFor 5 = .ok (.aload_n 0, 1) := by decide +kernel
theorem dX8_notesFor_6 : decode cX8_notesFor 6 = .ok (.getfield 19, 3) := by decide +kernel
theorem dX8_notesFor_9 : decode cX8_notesFor 9 = .ok (.getfield 128, 3) := by decide +kernel
theorem dX8_notesFor_12 : decode cX8_notesFor 12 = .ok (.if_icmp .ge 41, 3) := by decide +kernel
theorem dX8_notesFor_15 : decode cX8_notesFor 15 = .ok (.aload_n 0, 1) := by decide +kernel
theorem dX8_notesFor_16 : decode cX8_notesFor 16 = .ok (.getfield 10, 3) := by decide +kernel
theorem dX8_notesFor_19 : decode cX8_notesFor 19 = .ok (.aload_n 0, 1) := by decide +kernel
theorem dX8_notesFor_20 : decode cX8_notesFor 20 = .ok (.getfield 19, 3) := by decide +kernel
theorem dX8_notesFor_23 : decode cX8_notesFor 23 = .ok (.getfield 143, 3) := by decide +kernel
theorem dX8_notesFor_26 : decode cX8_notesFor 26 = .ok (.iload_n 3, 1) := by decide +kernel
theorem dX8_notesFor_27 : decode cX8_notesFor 27 = .ok (.iaload, 1) := by decide +kernel
theorem dX8_notesFor_28 : decode cX8_notesFor 28 = .ok (.aload_n 0, 1) := by decide +kernel
theorem dX8_notesFor_29 : decode cX8_notesFor 29 = .ok (.getfield 10, 3) := by decide +kernel
theorem dX8_notesFor_32 : decode cX8_notesFor 32 = .ok (.getfield 100, 3) := by decide +kernel
theorem dX8_notesFor_35 : decode cX8_notesFor 35 = .ok (.iload_n 1, 1) := by decide +kernel
theorem dX8_notesFor_36 : decode cX8_notesFor 36 = .ok (.iaload, 1) := by decide +kernel
theorem dX8_notesFor_37 : decode cX8_notesFor 37 = .ok (.isub, 1) := by decide +kernel
theorem dX8_notesFor_38 : decode cX8_notesFor 38 = .ok (.invokevirtual 353, 3) := by decide +kernel
theorem dX8_notesFor_41 : decode cX8_notesFor 41 = .ok (.ifCond .eq 6, 3) := by decide +kernel
theorem dX8_notesFor_44 : decode cX8_notesFor 44 = .ok (.iinc 2 1, 3) := by decide +kernel
theorem dX8_notesFor_47 : decode cX8_notesFor 47 = .ok (.iinc 3 1, 3) := by decide +kernel
theorem dX8_notesFor_50 : decode cX8_notesFor 50 = .ok (.goto (-46), 3) := by decide +kernel
theorem dX8_notesFor_53 : decode cX8_notesFor 53 = .ok (.iload_n 2, 1) := by decide +kernel
theorem dX8_notesFor_54 : decode cX8_notesFor 54 = .ok (.ireturn, 1) := by decide +kernel
abbrev rm_X8_notesFor : Room := { frames := 1, cells := 0, slots := 0, locals := 21 }
def f_X8_notesFor_L47 (rec4 : Int32 × Int32 × Sg → Option (Int32 × Sg)) (x0 : Nat) (x1 : Int32) (x2 : Int32) (x3 : Int32)  (σ : Sg) : Option (Int32 × Sg) := lB (x3 + (1 : Int32)) fun v1 => rec4 (x2, v1, σ)
def f_X8_notesFor_L4  (x0 : Nat) (x1 : Int32) (rec4 : Int32 × Int32 × Sg → Option (Int32 × Sg)) (s : Int32 × Int32 × Sg) : Option (Int32 × Sg) := (if (gI (s.2.2) (gR (s.2.2) x0 1) 6) ≤ (s.2.1) then some ((s.1), (s.2.2)) else ck (inb (s.2.1) (aL (gR (s.2.2) (gR (s.2.2) x0 1) 1))) (ck (inb x1 (aL (gR (s.2.2) (gR (s.2.2) x0 0) 1))) (bd (f_X1_hasFret (gR (s.2.2) x0 0) ((gI (s.2.2) (gR (s.2.2) (gR (s.2.2) x0 1) 1) (s.2.1).toNatClampNeg) - (gI (s.2.2) (gR (s.2.2) (gR (s.2.2) x0 0) 1) x1.toNatClampNeg)) (s.2.2)) fun r8 s7 => (if r8 = 0 then f_X8_notesFor_L47 rec4 x0 x1 (s.1) (s.2.1) s7 else lB ((s.1) + (1 : Int32)) fun v9 => f_X8_notesFor_L47 rec4 x0 x1 v9 (s.2.1) s7))))
def f_X8_notesFor (x0 : Nat) (x1 : Int32) (σ : Sg) : Option (Int32 × Sg) := fx (f_X8_notesFor_L4 x0 x1) FU ((0 : Int32), (0 : Int32), σ)
theorem t_X8_notesFor_L47 {K : Cx} (h : Ok K cX8_notesFor RX8 4 rm_X8_notesFor (some .int)) (hs : kiv K = St) (x0 : Nat) (x1 : Int32) (x2 : Int32) (x3 : Int32)  (σ : Sg) (rec4 : Int32 × Int32 × Sg → Option (Int32 × Sg)) (hr4 : ∀ u, T K (QI K) 4 [(0, .ref x0), (1, .int x1), (2, .int (u.1)), (3, .int (u.2.1))] [] 0 0 (u.2.2) (rec4 u)) (hk0 : kd x0 8)  : T K (QI K) 47 [(0, .ref x0), (1, .int x1), (2, .int x2), (3, .int x3)] [] 0 0 σ (f_X8_notesFor_L47 rec4 x0 x1 x2 x3 σ) := by
  unfold f_X8_notesFor_L47
  refine T_iinc (fl := fun v1 => [(3, .int v1), (0, .ref x0), (1, .int x1), (2, .int x2)]) (pc := 47) h dX8_notesFor_47 3 rfl ki_1 (by decide) (fun _ => rfl) (fun v1 => ?_)
  refine T_goto (pc := 50) (tgt := 4) h dX8_notesFor_50 (by decide) ?_
  refine T_sub [1, 2, 3, 0] rfl ?_
  exact hr4 (x2, v1, σ)
theorem t_X8_notesFor_L4 {K : Cx} (h : Ok K cX8_notesFor RX8 4 rm_X8_notesFor (some .int)) (hs : kiv K = St) (x0 : Nat) (x1 : Int32)  (hk0 : kd x0 8) (rec4 : Int32 × Int32 × Sg → Option (Int32 × Sg)) (hr4 : ∀ u, T K (QI K) 4 [(0, .ref x0), (1, .int x1), (2, .int (u.1)), (3, .int (u.2.1))] [] 0 0 (u.2.2) (rec4 u)) (s : Int32 × Int32 × Sg) : T K (QI K) 4 [(0, .ref x0), (1, .int x1), (2, .int (s.1)), (3, .int (s.2.1))] [] 0 0 (s.2.2) (f_X8_notesFor_L4 x0 x1 rec4 s) := by
  unfold f_X8_notesFor_L4
  refine T_iload_n (pc := 4) h dX8_notesFor_4 rfl 3 rfl ?_
  refine T_aload_n (pc := 5) h dX8_notesFor_5 rfl 0 rfl ?_
  refine T_gR (pc := 6) h hs hk0 fl_X8_19 rfl fk_8_1 dX8_notesFor_6 (fun hq1 => ?_)
  refine T_getI (pc := 9) h hs hq1 fl_X8_128 rfl dX8_notesFor_9 ?_
  refine T_icmp_ge (pc := 12) (tgt := 53) h dX8_notesFor_12 (by decide) ?_ ?_
  · refine T_iload_n (pc := 53) h dX8_notesFor_53 rfl 2 rfl ?_
    exact T_ireturn (pc := 54) h (Nat.zero_le _) (Nat.zero_le _) dX8_notesFor_54
  · refine T_aload_n (pc := 15) h dX8_notesFor_15 rfl 0 rfl ?_
    refine T_gR (pc := 16) h hs hk0 fl_X8_10 rfl fk_8_0 dX8_notesFor_16 (fun hq2 => ?_)
    refine T_aload_n (pc := 19) h dX8_notesFor_19 rfl 0 rfl ?_
    refine T_gR (pc := 20) h hs hk0 fl_X8_19 rfl fk_8_1 dX8_notesFor_20 (fun hq3 => ?_)
    refine T_gR (pc := 23) h hs hq3 fl_X8_143 rfl fk_2_1 dX8_notesFor_23 (fun hq4 => ?_)
    refine T_iload_n (pc := 26) h dX8_notesFor_26 rfl 3 rfl ?_
    refine T_iald (pc := 27) h hs hq4 dX8_notesFor_27 ?_
    refine T_aload_n (pc := 28) h dX8_notesFor_28 rfl 0 rfl ?_
    refine T_gR (pc := 29) h hs hk0 fl_X8_10 rfl fk_8_0 dX8_notesFor_29 (fun hq5 => ?_)
    refine T_gR (pc := 32) h hs hq5 fl_X8_100 rfl fk_1_1 dX8_notesFor_32 (fun hq6 => ?_)
    refine T_iload_n (pc := 35) h dX8_notesFor_35 rfl 1 rfl ?_
    refine T_iald (pc := 36) h hs hq6 dX8_notesFor_36 ?_
    refine T_isub (pc := 37) h dX8_notesFor_37 ?_
    refine T_callVi (pc := 38) h (M_X1_hasFret (kl K) hs (gR (s.2.2) x0 0) ((gI (s.2.2) (gR (s.2.2) (gR (s.2.2) x0 1) 1) (s.2.1).toNatClampNeg) - (gI (s.2.2) (gR (s.2.2) (gR (s.2.2) x0 0) 1) x1.toNatClampNeg)) (s.2.2) hq2) mv_X1_hasFret hs hq2 ml_X8_353 rfl ⟨Nat.le_of_ble_eq_true rfl, Nat.le_of_ble_eq_true rfl⟩ ⟨Nat.le_refl 0, Nat.le_refl 0⟩ (Nat.le_of_ble_eq_true rfl) dX8_notesFor_38 rfl (fun r8 s7 => ?_)
    refine T_if_eq (pc := 41) (tgt := 47) h dX8_notesFor_41 (by decide) ?_ ?_
    · refine T_sub [0, 1, 2, 3] rfl ?_
      exact t_X8_notesFor_L47 h hs x0 x1 (s.1) (s.2.1) s7 rec4 hr4 hk0
    · refine T_iinc (fl := fun v9 => [(2, .int v9), (0, .ref x0), (1, .int x1), (3, .int (s.2.1))]) (pc := 44) h dX8_notesFor_44 2 rfl ki_1 (by decide) (fun _ => rfl) (fun v9 => ?_)
      refine T_sub [1, 2, 0, 3] rfl ?_
      exact t_X8_notesFor_L47 h hs x0 x1 v9 (s.2.1) s7 rec4 hr4 hk0
theorem t_X8_notesFor {K : Cx} (h : Ok K cX8_notesFor RX8 4 rm_X8_notesFor (some .int)) (hs : kiv K = St) (x0 : Nat) (x1 : Int32) (σ : Sg) (hk0 : kd x0 8) : T K (QI K) 0 [(0, .ref x0), (1, .int x1)] [] 0 0 σ (f_X8_notesFor x0 x1 σ) := by
  unfold f_X8_notesFor
  refine T_iconst (pc := 0) h dX8_notesFor_0 ki_0 ?_
  refine T_istore_n (lv' := [(2, .int (0 : Int32)), (0, .ref x0), (1, .int x1)]) (pc := 1) h dX8_notesFor_1 rfl (by decide) rfl ?_
  refine T_iconst (pc := 2) h dX8_notesFor_2 ki_0 ?_
  refine T_istore_n (lv' := [(3, .int (0 : Int32)), (2, .int (0 : Int32)), (0, .ref x0), (1, .int x1)]) (pc := 3) h dX8_notesFor_3 rfl (by decide) rfl ?_
  refine T_sub [2, 3, 1, 0] rfl ?_
  exact T_fx (B := f_X8_notesFor_L4 x0 x1) (fl := fun u => [(0, .ref x0), (1, .int x1), (2, .int (u.1)), (3, .int (u.2.1))]) (f := fun u => (u.2.2)) (fun rec4 hr4 u => t_X8_notesFor_L4 h hs x0 x1 hk0 rec4 hr4 u) FU ((0 : Int32), (0 : Int32), σ)
theorem M_X8_notesFor (l : Launch) {iv : Sg → Prop} (hi : iv = St) (x0 : Nat) (x1 : Int32) (σ : Sg) (hk0 : kd x0 8) : CTi l yX8_notesFor cX8_notesFor 4 (some .int) rm_X8_notesFor iv [.ref x0, .int x1] σ (f_X8_notesFor x0 x1 σ) := by
  subst hi
  exact CT_of (by decide) (Nat.le_of_ble_eq_true rfl) (fun K _ h _ hs _ _ => t_X8_notesFor h hs x0 x1 σ hk0)
/-! LuteTabs.notesLaidOn(I)I -/
theorem dX8_notesLaidOn_0 : decode cX8_notesLaidOn 0 = .ok (.iconst 0, 1) := by decide +kernel
theorem dX8_notesLaidOn_1 : decode cX8_notesLaidOn 1 = .ok (.istore_n 2, 1) := by decide +kernel
theorem dX8_notesLaidOn_2 : decode cX8_notesLaidOn 2 = .ok (.iconst 0, 1) := by decide +kernel
theorem dX8_notesLaidOn_3 : decode cX8_notesLaidOn 3 = .ok (.istore_n 3, 1) := by decide +kernel
theorem dX8_notesLaidOn_4 : decode cX8_notesLaidOn 4 = .ok (.iload_n 3, 1) := by decide +kernel
theorem dX8_notesLaidOn_5 : decode cX8_notesLaidOn 5 = .ok (.aload_n 0, 1) := by decide +kernel
theorem dX8_notesLaidOn_6 : decode cX8_notesLaidOn 6 = .ok (.getfield 19, 3) := by decide +kernel
theorem dX8_notesLaidOn_9 : decode cX8_notesLaidOn 9 = .ok (.getfield 128, 3) := by decide +kernel
theorem dX8_notesLaidOn_12 : decode cX8_notesLaidOn 12 = .ok (.if_icmp .ge 22, 3) := by decide +kernel
theorem dX8_notesLaidOn_15 : decode cX8_notesLaidOn 15 = .ok (.aload_n 0, 1) := by decide +kernel
theorem dX8_notesLaidOn_16 : decode cX8_notesLaidOn 16 = .ok (.getfield 77, 3) := by decide +kernel
theorem dX8_notesLaidOn_19 : decode cX8_notesLaidOn 19 = .ok (.iload_n 3, 1) := by decide +kernel
theorem dX8_notesLaidOn_20 : decode cX8_notesLaidOn 20 = .ok (.iaload, 1) := by decide +kernel
theorem dX8_notesLaidOn_21 : decode cX8_notesLaidOn 21 = .ok (.iload_n 1, 1) := by decide +kernel
theorem dX8_notesLaidOn_22 : decode cX8_notesLaidOn 22 = .ok (.if_icmp .ne 6, 3) := by decide +kernel
theorem dX8_notesLaidOn_25 : decode cX8_notesLaidOn 25 = .ok (.iinc 2 1, 3) := by decide +kernel
theorem dX8_notesLaidOn_28 : decode cX8_notesLaidOn 28 = .ok (.iinc 3 1, 3) := by decide +kernel
theorem dX8_notesLaidOn_31 : decode cX8_notesLaidOn 31 = .ok (.goto (-27), 3) := by decide +kernel
theorem dX8_notesLaidOn_34 : decode cX8_notesLaidOn 34 = .ok (.iload_n 2, 1) := by decide +kernel
theorem dX8_notesLaidOn_35 : decode cX8_notesLaidOn 35 = .ok (.ireturn, 1) := by decide +kernel
abbrev rm_X8_notesLaidOn : Room := { frames := 0, cells := 0, slots := 0, locals := 0 }
def f_X8_notesLaidOn_L28 (rec4 : Int32 × Int32 → Option (Int32 × Sg)) (x0 : Nat) (x1 : Int32) (x2 : Int32) (x3 : Int32)  (σ : Sg) : Option (Int32 × Sg) := lB (x3 + (1 : Int32)) fun v1 => rec4 (x2, v1)
def f_X8_notesLaidOn_L4  (x0 : Nat) (x1 : Int32) (σ : Sg) (rec4 : Int32 × Int32 → Option (Int32 × Sg)) (s : Int32 × Int32) : Option (Int32 × Sg) := (if (gI σ (gR σ x0 1) 6) ≤ (s.2) then some ((s.1), σ) else ck (inb (s.2) (aL (gR σ x0 10))) ((if (gI σ (gR σ x0 10) (s.2).toNatClampNeg) = x1 then lB ((s.1) + (1 : Int32)) fun v3 => f_X8_notesLaidOn_L28 rec4 x0 x1 v3 (s.2) σ else f_X8_notesLaidOn_L28 rec4 x0 x1 (s.1) (s.2) σ)))
def f_X8_notesLaidOn (x0 : Nat) (x1 : Int32) (σ : Sg) : Option (Int32 × Sg) := fx (f_X8_notesLaidOn_L4 x0 x1 σ) FU ((0 : Int32), (0 : Int32))
theorem t_X8_notesLaidOn_L28 {K : Cx} (h : Ok K cX8_notesLaidOn RX8 4 rm_X8_notesLaidOn (some .int)) (hs : kiv K = St) (x0 : Nat) (x1 : Int32) (x2 : Int32) (x3 : Int32)  (σ : Sg) (rec4 : Int32 × Int32 → Option (Int32 × Sg)) (hr4 : ∀ u, T K (QI K) 4 [(0, .ref x0), (1, .int x1), (2, .int (u.1)), (3, .int (u.2))] [] 0 0 σ (rec4 u)) (hk0 : kd x0 8)  : T K (QI K) 28 [(0, .ref x0), (1, .int x1), (2, .int x2), (3, .int x3)] [] 0 0 σ (f_X8_notesLaidOn_L28 rec4 x0 x1 x2 x3 σ) := by
  unfold f_X8_notesLaidOn_L28
  refine T_iinc (fl := fun v1 => [(3, .int v1), (0, .ref x0), (1, .int x1), (2, .int x2)]) (pc := 28) h dX8_notesLaidOn_28 3 rfl ki_1 (by decide) (fun _ => rfl) (fun v1 => ?_)
  refine T_goto (pc := 31) (tgt := 4) h dX8_notesLaidOn_31 (by decide) ?_
  refine T_sub [1, 2, 3, 0] rfl ?_
  exact hr4 (x2, v1)
theorem t_X8_notesLaidOn_L4 {K : Cx} (h : Ok K cX8_notesLaidOn RX8 4 rm_X8_notesLaidOn (some .int)) (hs : kiv K = St) (x0 : Nat) (x1 : Int32) (σ : Sg)  (hk0 : kd x0 8) (rec4 : Int32 × Int32 → Option (Int32 × Sg)) (hr4 : ∀ u, T K (QI K) 4 [(0, .ref x0), (1, .int x1), (2, .int (u.1)), (3, .int (u.2))] [] 0 0 σ (rec4 u)) (s : Int32 × Int32) : T K (QI K) 4 [(0, .ref x0), (1, .int x1), (2, .int (s.1)), (3, .int (s.2))] [] 0 0 σ (f_X8_notesLaidOn_L4 x0 x1 σ rec4 s) := by
  unfold f_X8_notesLaidOn_L4
  refine T_iload_n (pc := 4) h dX8_notesLaidOn_4 rfl 3 rfl ?_
  refine T_aload_n (pc := 5) h dX8_notesLaidOn_5 rfl 0 rfl ?_
  refine T_gR (pc := 6) h hs hk0 fl_X8_19 rfl fk_8_1 dX8_notesLaidOn_6 (fun hq1 => ?_)
  refine T_getI (pc := 9) h hs hq1 fl_X8_128 rfl dX8_notesLaidOn_9 ?_
  refine T_icmp_ge (pc := 12) (tgt := 34) h dX8_notesLaidOn_12 (by decide) ?_ ?_
  · refine T_iload_n (pc := 34) h dX8_notesLaidOn_34 rfl 2 rfl ?_
    exact T_ireturn (pc := 35) h (Nat.zero_le _) (Nat.zero_le _) dX8_notesLaidOn_35
  · refine T_aload_n (pc := 15) h dX8_notesLaidOn_15 rfl 0 rfl ?_
    refine T_gR (pc := 16) h hs hk0 fl_X8_77 rfl fk_8_10 dX8_notesLaidOn_16 (fun hq2 => ?_)
    refine T_iload_n (pc := 19) h dX8_notesLaidOn_19 rfl 3 rfl ?_
    refine T_iald (pc := 20) h hs hq2 dX8_notesLaidOn_20 ?_
    refine T_iload_n (pc := 21) h dX8_notesLaidOn_21 rfl 1 rfl ?_
    refine T_icmp_ne (pc := 22) (tgt := 28) h dX8_notesLaidOn_22 (by decide) ?_ ?_
    · refine T_sub [0, 1, 2, 3] rfl ?_
      exact t_X8_notesLaidOn_L28 h hs x0 x1 (s.1) (s.2) σ rec4 hr4 hk0
    · refine T_iinc (fl := fun v3 => [(2, .int v3), (0, .ref x0), (1, .int x1), (3, .int (s.2))]) (pc := 25) h dX8_notesLaidOn_25 2 rfl ki_1 (by decide) (fun _ => rfl) (fun v3 => ?_)
      refine T_sub [1, 2, 0, 3] rfl ?_
      exact t_X8_notesLaidOn_L28 h hs x0 x1 v3 (s.2) σ rec4 hr4 hk0
theorem t_X8_notesLaidOn {K : Cx} (h : Ok K cX8_notesLaidOn RX8 4 rm_X8_notesLaidOn (some .int)) (hs : kiv K = St) (x0 : Nat) (x1 : Int32) (σ : Sg) (hk0 : kd x0 8) : T K (QI K) 0 [(0, .ref x0), (1, .int x1)] [] 0 0 σ (f_X8_notesLaidOn x0 x1 σ) := by
  unfold f_X8_notesLaidOn
  refine T_iconst (pc := 0) h dX8_notesLaidOn_0 ki_0 ?_
  refine T_istore_n (lv' := [(2, .int (0 : Int32)), (0, .ref x0), (1, .int x1)]) (pc := 1) h dX8_notesLaidOn_1 rfl (by decide) rfl ?_
  refine T_iconst (pc := 2) h dX8_notesLaidOn_2 ki_0 ?_
  refine T_istore_n (lv' := [(3, .int (0 : Int32)), (2, .int (0 : Int32)), (0, .ref x0), (1, .int x1)]) (pc := 3) h dX8_notesLaidOn_3 rfl (by decide) rfl ?_
  refine T_sub [2, 3, 1, 0] rfl ?_
  exact T_fx (B := f_X8_notesLaidOn_L4 x0 x1 σ) (fl := fun u => [(0, .ref x0), (1, .int x1), (2, .int (u.1)), (3, .int (u.2))]) (f := fun u => σ) (fun rec4 hr4 u => t_X8_notesLaidOn_L4 h hs x0 x1 σ hk0 rec4 hr4 u) FU ((0 : Int32), (0 : Int32))
theorem M_X8_notesLaidOn (l : Launch) {iv : Sg → Prop} (hi : iv = St) (x0 : Nat) (x1 : Int32) (σ : Sg) (hk0 : kd x0 8) : CTi l yX8_notesLaidOn cX8_notesLaidOn 4 (some .int) rm_X8_notesLaidOn iv [.ref x0, .int x1] σ (f_X8_notesLaidOn x0 x1 σ) := by
  subst hi
  exact CT_of (by decide) (Nat.le_of_ble_eq_true rfl) (fun K _ h _ hs _ _ => t_X8_notesLaidOn h hs x0 x1 σ hk0)
/-! LuteTabs.course(II)I -/
theorem dX8_course_0 : decode cX8_course 0 = .ok (.aload_n 0, 1) := by decide +kernel
theorem dX8_course_1 : decode cX8_course 1 = .ok (.getfield 10, 3) := by decide +kernel
theorem dX8_course_4 : decode cX8_course 4 = .ok (.iload_n 1, 1) := by decide +kernel
theorem dX8_course_5 : decode cX8_course 5 = .ok (.invokevirtual 96, 3) := by decide +kernel
theorem dX8_course_8 : decode cX8_course 8 = .ok (.ifCond .ne 6, 3) := by decide +kernel
theorem dX8_course_11 : decode cX8_course 11 = .ok (.bipush (-2), 2) := by decide +kernel
theorem dX8_course_13 : decode cX8_course 13 = .ok (.ireturn, 1) := by decide +kernel
theorem dX8_course_14 : decode cX8_course 14 = .ok (.iload_n 2, 1) := by decide +kernel
theorem dX8_course_15 : decode cX8_course 15 = .ok (.tableswitch 58 0 2 #[25, 35, 41], 25) := by decide +kernel
theorem dX8_course_40 : decode cX8_course 40 = .ok (.aload_n 0, 1) := by decide +kernel
theorem dX8_course_41 : decode cX8_course 41 = .ok (.getfield 10, 3) := by decide +kernel
theorem dX8_course_44 : decode cX8_course 44 = .ok (.getfield 100, 3) := by decide +kernel
theorem dX8_course_47 : decode cX8_course 47 = .ok (.iload_n 1, 1) := by decide +kernel
theorem dX8_course_48 : decode cX8_course 48 = .ok (.iaload, 1) := by decide +kernel
theorem dX8_course_49 : decode cX8_course 49 = .ok (.ireturn, 1) := by decide +kernel
theorem dX8_course_50 : decode cX8_course 50 = .ok (.aload_n 0, 1) := by decide +kernel
theorem dX8_course_51 : decode cX8_course 51 = .ok (.iload_n 1, 1) := by decide +kernel
theorem dX8_course_52 : decode cX8_course 52 = .ok (.invokevirtual 155, 3) := by decide +kernel
theorem dX8_course_55 : decode cX8_course 55 = .ok (.ireturn, 1) := by decide +kernel
theorem dX8_course_56 : decode cX8_course 56 = .ok (.aload_n 0, 1) := by decide +kernel
theorem dX8_course_57 : decode cX8_course 57 = .ok (.getfield 81, 3) := by decide +kernel
theorem dX8_course_60 : decode cX8_course 60 = .ok (.ifCond .eq 11, 3) := by decide +kernel
theorem dX8_course_63 : decode cX8_course 63 = .ok (.aload_n 0, 1) := by decide +kernel
theorem dX8_course_64 : decode cX8_course 64 = .ok (.iload_n 1, 1) := by decide +kernel
theorem dX8_course_65 : decode cX8_course 65 = .ok (.invokevirtual 158, 3) := by decide +kernel
theorem dX8_course_68 : decode cX8_course 68 = .ok (.goto 4, 3) := by decide +kernel
theorem dX8_course_71 : decode cX8_course 71 = .ok (.iconst 0, 1) := by decide +kernel
theorem dX8_course_72 : decode cX8_course 72 = .ok (.ireturn, 1) := by decide +kernel
theorem dX8_course_73 : decode cX8_course 73 = .ok (.bipush (-2), 2) := by decide +kernel
theorem dX8_course_75 : decode cX8_course 75 = .ok (.ireturn, 1) := by decide +kernel
abbrev rm_X8_course : Room := { frames := 2, cells := 0, slots := 0, locals := 44 }
def f_X8_course_L72   (y0 : Int32) (σ : Sg) : Option (Int32 × Sg) := some (y0, σ)
def f_X8_course (x0 : Nat) (x1 : Int32) (x2 : Int32) (σ : Sg) : Option (Int32 × Sg) := bd (f_X1_has (gR σ x0 0) x1 σ) fun r3 s2 => (if r3 = 0 then some ((-2 : Int32), s2) else (if x2.toInt < 0 ∨ 2 < x2.toInt then some ((-2 : Int32), s2) else swt [ck (inb x1 (aL (gR s2 (gR s2 x0 0) 1))) (some ((gI s2 (gR s2 (gR s2 x0 0) 1) x1.toNatClampNeg), s2)), bd (f_X8_notesFor x0 x1 s2) fun r7 s6 => some (r7, s6), (if (gI s2 x0 11) = 0 then f_X8_course_L72 (0 : Int32) s2 else bd (f_X8_notesLaidOn x0 x1 s2) fun r9 s8 => f_X8_course_L72 r9 s8)] (x2.toInt - 0).toNat))
theorem t_X8_course_L72 {K : Cx} (h : Ok K cX8_course RX8 3 rm_X8_course (some .int)) (hs : kiv K = St)  (y0 : Int32) (σ : Sg)    : T K (QI K) 72 [] [.int y0] 0 0 σ (f_X8_course_L72 y0 σ) := by
  unfold f_X8_course_L72
  exact T_ireturn (pc := 72) h (Nat.zero_le _) (Nat.zero_le _) dX8_course_72
theorem t_X8_course {K : Cx} (h : Ok K cX8_course RX8 3 rm_X8_course (some .int)) (hs : kiv K = St) (x0 : Nat) (x1 : Int32) (x2 : Int32) (σ : Sg) (hk0 : kd x0 8) : T K (QI K) 0 [(0, .ref x0), (1, .int x1), (2, .int x2)] [] 0 0 σ (f_X8_course x0 x1 x2 σ) := by
  unfold f_X8_course
  refine T_aload_n (pc := 0) h dX8_course_0 rfl 0 rfl ?_
  refine T_gR (pc := 1) h hs hk0 fl_X8_10 rfl fk_8_0 dX8_course_1 (fun hq1 => ?_)
  refine T_iload_n (pc := 4) h dX8_course_4 rfl 1 rfl ?_
  refine T_callVi (pc := 5) h (M_X1_has (kl K) hs (gR σ x0 0) x1 σ hq1) mv_X1_has hs hq1 ml_X8_96 rfl ⟨Nat.le_of_ble_eq_true rfl, Nat.le_of_ble_eq_true rfl⟩ ⟨Nat.le_refl 0, Nat.le_refl 0⟩ (Nat.le_of_ble_eq_true rfl) dX8_course_5 rfl (fun r3 s2 => ?_)
  refine T_if_ne (pc := 8) (tgt := 14) h dX8_course_8 (by decide) ?_ ?_
  · refine T_iload_n (pc := 14) h dX8_course_14 rfl 2 rfl ?_
    refine T_tsw (pc := 15) (tgt := 73) h dX8_course_15 (by decide) [40, 50, 56] rfl (by decide) rfl (by decide) ?_ (List.forall_mem_cons.mpr ⟨?_, List.forall_mem_cons.mpr ⟨?_, List.forall_mem_cons.mpr ⟨?_, fun _ hq => by cases hq⟩⟩⟩)
    · refine T_bipush (pc := 73) h dX8_course_73 kb_m2 ?_
      exact T_ireturn (pc := 75) h (Nat.zero_le _) (Nat.zero_le _) dX8_course_75
    · dsimp only
      refine T_aload_n (pc := 40) h dX8_course_40 rfl 0 rfl ?_
      refine T_gR (pc := 41) h hs hk0 fl_X8_10 rfl fk_8_0 dX8_course_41 (fun hq4 => ?_)
      refine T_gR (pc := 44) h hs hq4 fl_X8_100 rfl fk_1_1 dX8_course_44 (fun hq5 => ?_)
      refine T_iload_n (pc := 47) h dX8_course_47 rfl 1 rfl ?_
      refine T_iald (pc := 48) h hs hq5 dX8_course_48 ?_
      exact T_ireturn (pc := 49) h (Nat.zero_le _) (Nat.zero_le _) dX8_course_49
    · dsimp only
      refine T_aload_n (pc := 50) h dX8_course_50 rfl 0 rfl ?_
      refine T_iload_n (pc := 51) h dX8_course_51 rfl 1 rfl ?_
      refine T_callVi (pc := 52) h (M_X8_notesFor (kl K) hs x0 x1 s2 hk0) mv_X8_notesFor hs hk0 ml_X8_155 rfl ⟨Nat.le_of_ble_eq_true rfl, Nat.le_of_ble_eq_true rfl⟩ ⟨Nat.le_refl 0, Nat.le_refl 0⟩ (Nat.le_of_ble_eq_true rfl) dX8_course_52 rfl (fun r7 s6 => ?_)
      exact T_ireturn (pc := 55) h (Nat.zero_le _) (Nat.zero_le _) dX8_course_55
    · dsimp only
      refine T_aload_n (pc := 56) h dX8_course_56 rfl 0 rfl ?_
      refine T_getI (pc := 57) h hs hk0 fl_X8_81 rfl dX8_course_57 ?_
      refine T_if_eq (pc := 60) (tgt := 71) h dX8_course_60 (by decide) ?_ ?_
      · refine T_iconst (pc := 71) h dX8_course_71 ki_0 ?_
        refine T_sub [] rfl ?_
        exact t_X8_course_L72 h hs (0 : Int32) s2
      · refine T_aload_n (pc := 63) h dX8_course_63 rfl 0 rfl ?_
        refine T_iload_n (pc := 64) h dX8_course_64 rfl 1 rfl ?_
        refine T_callVi (pc := 65) h (M_X8_notesLaidOn (kl K) hs x0 x1 s2 hk0) mv_X8_notesLaidOn hs hk0 ml_X8_158 rfl ⟨Nat.le_of_ble_eq_true rfl, Nat.le_of_ble_eq_true rfl⟩ ⟨Nat.le_refl 0, Nat.le_refl 0⟩ (Nat.le_of_ble_eq_true rfl) dX8_course_65 rfl (fun r9 s8 => ?_)
        refine T_goto (pc := 68) (tgt := 72) h dX8_course_68 (by decide) ?_
        refine T_sub [] rfl ?_
        exact t_X8_course_L72 h hs r9 s8
  · refine T_bipush (pc := 11) h dX8_course_11 kb_m2 ?_
    exact T_ireturn (pc := 13) h (Nat.zero_le _) (Nat.zero_le _) dX8_course_13
theorem M_X8_course (l : Launch) {iv : Sg → Prop} (hi : iv = St) (x0 : Nat) (x1 : Int32) (x2 : Int32) (σ : Sg) (hk0 : kd x0 8) : CTi l yX8_course cX8_course 3 (some .int) rm_X8_course iv [.ref x0, .int x1, .int x2] σ (f_X8_course x0 x1 x2 σ) := by
  subst hi
  exact CT_of (by decide) (Nat.le_of_ble_eq_true rfl) (fun K _ h _ hs _ _ => t_X8_course h hs x0 x1 x2 σ hk0)
/-! LuteTabs.least()I -/
theorem dX8_least_0 : decode cX8_least 0 = .ok (.aload_n 0, 1) := by decide +kernel
theorem dX8_least_1 : decode cX8_least 1 = .ok (.getfield 37, 3) := by decide +kernel
theorem dX8_least_4 : decode cX8_least 4 = .ok (.iconst 0, 1) := by decide +kernel
theorem dX8_least_5 : decode cX8_least 5 = .ok (.invokevirtual 161, 3) := by decide +kernel
theorem dX8_least_8 : decode cX8_least 8 = .ok (.lstore_n 1, 1) := by decide +kernel
theorem dX8_least_9 : decode cX8_least 9 = .ok (.lload_n 1, 1) := by decide +kernel
theorem dX8_least_10 : decode cX8_least 10 = .ok (.lconst 0, 1) := by decide +kernel
theorem dX8_least_11 : decode cX8_least 11 = .ok (.lcmp, 1) := by decide +kernel
theorem dX8_least_12 : decode cX8_least 12 = .ok (.ifCond .ge 8, 3) := by decide +kernel
theorem dX8_least_15 : decode cX8_least 15 = .ok (.bipush (-3), 2) := by decide +kernel
theorem dX8_least_17 : decode cX8_least 17 = .ok (.goto 7, 3) := by decide +kernel
theorem dX8_least_20 : decode cX8_least 20 = .ok (.lload_n 1, 1) := by decide +kernel
theorem dX8_least_21 : decode cX8_least 21 = .ok (.invokestatic 165, 3) := by decide +kernel
theorem dX8_least_24 : decode cX8_least 24 = .ok (.ireturn, 1) := by decide +kernel
abbrev rm_X8_least : Room := { frames := 6, cells := 0, slots := 0, locals := 153 }
def f_X8_least_L24   (y0 : Int32) (σ : Sg) : Option (Int32 × Sg) := some (y0, σ)
def f_X8_least (x0 : Nat) (σ : Sg) : Option (Int32 × Sg) := bd (f_X5_inKey (gR σ x0 3) (0 : Int32) σ) fun r3 s2 => (if 0 ≤ (lg_cmp r3 (0 : Int64)) then bd (f_X5_costOf r3 s2) fun r5 s4 => f_X8_least_L24 r5 s4 else f_X8_least_L24 (-3 : Int32) s2)
theorem t_X8_least_L24 {K : Cx} (h : Ok K cX8_least RX8 3 rm_X8_least (some .int)) (hs : kiv K = St)  (y0 : Int32) (σ : Sg)    : T K (QI K) 24 [] [.int y0] 0 0 σ (f_X8_least_L24 y0 σ) := by
  unfold f_X8_least_L24
  exact T_ireturn (pc := 24) h (Nat.zero_le _) (Nat.zero_le _) dX8_least_24
theorem t_X8_least {K : Cx} (h : Ok K cX8_least RX8 3 rm_X8_least (some .int)) (hs : kiv K = St) (x0 : Nat) (σ : Sg) (hk0 : kd x0 8) : T K (QI K) 0 [(0, .ref x0)] [] 0 0 σ (f_X8_least x0 σ) := by
  unfold f_X8_least
  refine T_aload_n (pc := 0) h dX8_least_0 rfl 0 rfl ?_
  refine T_gR (pc := 1) h hs hk0 fl_X8_37 rfl fk_8_3 dX8_least_1 (fun hq1 => ?_)
  refine T_iconst (pc := 4) h dX8_least_4 ki_0 ?_
  refine T_callVl (pc := 5) h (M_X5_inKey (kl K) hs (gR σ x0 3) (0 : Int32) σ hq1) mv_X5_inKey hs hq1 ml_X8_161 rfl ⟨Nat.le_of_ble_eq_true rfl, Nat.le_of_ble_eq_true rfl⟩ ⟨Nat.le_refl 0, Nat.le_refl 0⟩ (Nat.le_of_ble_eq_true rfl) dX8_least_5 rfl (fun r3 s2 => ?_)
  refine T_lstore_n (lv' := [(1, .long r3), (0, .ref x0)]) (pc := 8) h dX8_least_8 rfl (by decide) rfl ?_
  refine T_lload_n (pc := 9) h dX8_least_9 rfl 0 rfl ?_
  refine T_lconst (pc := 10) h dX8_least_10 kl_0 ?_
  refine T_lcmp (pc := 11) h dX8_least_11 ?_
  refine T_if_ge (pc := 12) (tgt := 20) h dX8_least_12 (by decide) ?_ ?_
  · refine T_lload_n (pc := 20) h dX8_least_20 rfl 0 rfl ?_
    refine T_callSi (pc := 21) h (M_X5_costOf (kl K) hs r3 s2 ) mst_X5_costOf ml_X8_165 rfl ⟨Nat.le_of_ble_eq_true rfl, Nat.le_of_ble_eq_true rfl⟩ ⟨Nat.le_refl 0, Nat.le_refl 0⟩ (Nat.le_of_ble_eq_true rfl) dX8_least_21 rfl (fun r5 s4 => ?_)
    refine T_sub [] rfl ?_
    exact t_X8_least_L24 h hs r5 s4
  · refine T_bipush (pc := 15) h dX8_least_15 kb_m3 ?_
    refine T_goto (pc := 17) (tgt := 24) h dX8_least_17 (by decide) ?_
    refine T_sub [] rfl ?_
    exact t_X8_least_L24 h hs (-3 : Int32) s2
theorem M_X8_least (l : Launch) {iv : Sg → Prop} (hi : iv = St) (x0 : Nat) (σ : Sg) (hk0 : kd x0 8) : CTi l yX8_least cX8_least 3 (some .int) rm_X8_least iv [.ref x0] σ (f_X8_least x0 σ) := by
  subst hi
  exact CT_of (by decide) (Nat.le_of_ble_eq_true rfl) (fun K _ h _ hs _ _ => t_X8_least h hs x0 σ hk0)
/-! LuteTabs.fault()I -/
theorem dX8_fault_0 : decode cX8_fault 0 = .ok (.aload_n 0, 1) := by decide +kernel
theorem dX8_fault_1 : decode cX8_fault 1 = .ok (.getfield 37, 3) := by decide +kernel
theorem dX8_fault_4 : decode cX8_fault 4 = .ok (.iconst 0, 1) := by decide +kernel
theorem dX8_fault_5 : decode cX8_fault 5 = .ok (.invokevirtual 161, 3) := by decide +kernel
theorem dX8_fault_8 : decode cX8_fault 8 = .ok (.lstore_n 1, 1) := by decide +kernel
theorem dX8_fault_9 : decode cX8_fault 9 = .ok (.lload_n 1, 1) := by decide +kernel
theorem dX8_fault_10 : decode cX8_fault 10 = .ok (.lconst 0, 1) := by decide +kernel
theorem dX8_fault_11 : decode cX8_fault 11 = .ok (.lcmp, 1) := by decide +kernel
theorem dX8_fault_12 : decode cX8_fault 12 = .ok (.ifCond .ge 10, 3) := by decide +kernel
theorem dX8_fault_15 : decode cX8_fault 15 = .ok (.lload_n 1, 1) := by decide +kernel
theorem dX8_fault_16 : decode cX8_fault 16 = .ok (.invokestatic 169, 3) := by decide +kernel
theorem dX8_fault_19 : decode cX8_fault 19 = .ok (.goto 4, 3) := by decide +kernel
theorem dX8_fault_22 : decode cX8_fault 22 = .ok (.iconst (-1), 1) := by decide +kernel
theorem dX8_fault_23 : decode cX8_fault 23 = .ok (.ireturn, 1) := by decide +kernel
abbrev rm_X8_fault : Room := { frames := 6, cells := 0, slots := 0, locals := 153 }
def f_X8_fault_L23   (y0 : Int32) (σ : Sg) : Option (Int32 × Sg) := some (y0, σ)
def f_X8_fault (x0 : Nat) (σ : Sg) : Option (Int32 × Sg) := bd (f_X5_inKey (gR σ x0 3) (0 : Int32) σ) fun r3 s2 => (if 0 ≤ (lg_cmp r3 (0 : Int64)) then f_X8_fault_L23 (-1 : Int32) s2 else bd (f_X5_faultOf r3 s2) fun r5 s4 => f_X8_fault_L23 r5 s4)
theorem t_X8_fault_L23 {K : Cx} (h : Ok K cX8_fault RX8 3 rm_X8_fault (some .int)) (hs : kiv K = St)  (y0 : Int32) (σ : Sg)    : T K (QI K) 23 [] [.int y0] 0 0 σ (f_X8_fault_L23 y0 σ) := by
  unfold f_X8_fault_L23
  exact T_ireturn (pc := 23) h (Nat.zero_le _) (Nat.zero_le _) dX8_fault_23
theorem t_X8_fault {K : Cx} (h : Ok K cX8_fault RX8 3 rm_X8_fault (some .int)) (hs : kiv K = St) (x0 : Nat) (σ : Sg) (hk0 : kd x0 8) : T K (QI K) 0 [(0, .ref x0)] [] 0 0 σ (f_X8_fault x0 σ) := by
  unfold f_X8_fault
  refine T_aload_n (pc := 0) h dX8_fault_0 rfl 0 rfl ?_
  refine T_gR (pc := 1) h hs hk0 fl_X8_37 rfl fk_8_3 dX8_fault_1 (fun hq1 => ?_)
  refine T_iconst (pc := 4) h dX8_fault_4 ki_0 ?_
  refine T_callVl (pc := 5) h (M_X5_inKey (kl K) hs (gR σ x0 3) (0 : Int32) σ hq1) mv_X5_inKey hs hq1 ml_X8_161 rfl ⟨Nat.le_of_ble_eq_true rfl, Nat.le_of_ble_eq_true rfl⟩ ⟨Nat.le_refl 0, Nat.le_refl 0⟩ (Nat.le_of_ble_eq_true rfl) dX8_fault_5 rfl (fun r3 s2 => ?_)
  refine T_lstore_n (lv' := [(1, .long r3), (0, .ref x0)]) (pc := 8) h dX8_fault_8 rfl (by decide) rfl ?_
  refine T_lload_n (pc := 9) h dX8_fault_9 rfl 0 rfl ?_
  refine T_lconst (pc := 10) h dX8_fault_10 kl_0 ?_
  refine T_lcmp (pc := 11) h dX8_fault_11 ?_
  refine T_if_ge (pc := 12) (tgt := 22) h dX8_fault_12 (by decide) ?_ ?_
  · refine T_iconst (pc := 22) h dX8_fault_22 ki_m1 ?_
    refine T_sub [] rfl ?_
    exact t_X8_fault_L23 h hs (-1 : Int32) s2
  · refine T_lload_n (pc := 15) h dX8_fault_15 rfl 0 rfl ?_
    refine T_callSi (pc := 16) h (M_X5_faultOf (kl K) hs r3 s2 ) mst_X5_faultOf ml_X8_169 rfl ⟨Nat.le_of_ble_eq_true rfl, Nat.le_of_ble_eq_true rfl⟩ ⟨Nat.le_refl 0, Nat.le_refl 0⟩ (Nat.le_of_ble_eq_true rfl) dX8_fault_16 rfl (fun r5 s4 => ?_)
    refine T_goto (pc := 19) (tgt := 23) h dX8_fault_19 (by decide) ?_
    refine T_sub [] rfl ?_
    exact t_X8_fault_L23 h hs r5 s4
theorem M_X8_fault (l : Launch) {iv : Sg → Prop} (hi : iv = St) (x0 : Nat) (σ : Sg) (hk0 : kd x0 8) : CTi l yX8_fault cX8_fault 3 (some .int) rm_X8_fault iv [.ref x0] σ (f_X8_fault x0 σ) := by
  subst hi
  exact CT_of (by decide) (Nat.le_of_ble_eq_true rfl) (fun K _ h _ hs _ _ => t_X8_fault h hs x0 σ hk0)
/-! LuteTabs.mend()I -/
theorem dX8_mend_0 : decode cX8_mend 0 = .ok (.aload_n 0, 1) := by decide +kernel
theorem dX8_mend_1 : decode cX8_mend 1 = .ok (.getfield 37, 3) := by decide +kernel
theorem dX8_mend_4 : decode cX8_mend 4 = .ok (.iconst 0, 1) := by decide +kernel
theorem dX8_mend_5 : decode cX8_mend 5 = .ok (.invokevirtual 161, 3) := by decide +kernel
theorem dX8_mend_8 : decode cX8_mend 8 = .ok (.lstore_n 1, 1) := by decide +kernel
theorem dX8_mend_9 : decode cX8_mend 9 = .ok (.lload_n 1, 1) := by decide +kernel
theorem dX8_mend_10 : decode cX8_mend 10 = .ok (.lconst 0, 1) := by decide +kernel
theorem dX8_mend_11 : decode cX8_mend 11 = .ok (.lcmp, 1) := by decide +kernel
theorem dX8_mend_12 : decode cX8_mend 12 = .ok (.ifCond .ge 6, 3) := by decide +kernel
theorem dX8_mend_15 : decode cX8_mend 15 = .ok (.bipush (-3), 2) := by decide +kernel
theorem dX8_mend_17 : decode cX8_mend 17 = .ok (.ireturn, 1) := by decide +kernel
theorem dX8_mend_18 : decode cX8_mend 18 = .ok (.iconst 0, 1) := by decide +kernel
theorem dX8_mend_19 : decode cX8_mend 19 = .ok (.istore_n 3, 1) := by decide +kernel
theorem dX8_mend_20 : decode cX8_mend 20 = .ok (.iload_n 3, 1) := by decide +kernel
theorem dX8_mend_21 : decode cX8_mend 21 = .ok (.aload_n 0, 1) := by decide +kernel
theorem dX8_mend_22 : decode cX8_mend 22 = .ok (.getfield 19, 3) := by decide +kernel
theorem dX8_mend_25 : decode cX8_mend 25 = .ok (.getfield 128, 3) := by decide +kernel
theorem dX8_mend_28 : decode cX8_mend 28 = .ok (.if_icmp .ge 20, 3) := by decide +kernel
theorem dX8_mend_31 : decode cX8_mend 31 = .ok (.aload_n 0, 1) := by decide +kernel
theorem dX8_mend_32 : decode cX8_mend 32 = .ok (.getfield 77, 3) := by decide +kernel
theorem dX8_mend_35 : decode cX8_mend 35 = .ok (.iload_n 3, 1) := by decide +kernel
theorem dX8_mend_36 : decode cX8_mend 36 = .ok (.lload_n 1, 1) := by decide +kernel
theorem dX8_mend_37 : decode cX8_mend 37 = .ok (.iload_n 3, 1) := by decide +kernel
theorem dX8_mend_38 : decode cX8_mend 38 = .ok (.invokestatic 172, 3) := by decide +kernel
theorem dX8_mend_41 : decode cX8_mend 41 = .ok (.iastore, 1) := by decide +kernel
theorem dX8_mend_42 : decode cX8_mend 42 = .ok (.iinc 3 1, 3) := by decide +kernel
theorem dX8_mend_45 : decode cX8_mend 45 = .ok (.goto (-25), 3) := by decide +kernel
theorem dX8_mend_48 : decode cX8_mend 48 = .ok (.aload_n 0, 1) := by decide +kernel
theorem dX8_mend_49 : decode cX8_mend 49 = .ok (.iconst 1, 1) := by decide +kernel
theorem dX8_mend_50 : decode cX8_mend 50 = .ok (.putfield 81, 3) := by decide +kernel
theorem dX8_mend_53 : decode cX8_mend 53 = .ok (.lload_n 1, 1) := by decide +kernel
theorem dX8_mend_54 : decode cX8_mend 54 = .ok (.invokestatic 165, 3) := by decide +kernel
theorem dX8_mend_57 : decode cX8_mend 57 = .ok (.ireturn, 1) := by decide +kernel
abbrev rm_X8_mend : Room := { frames := 6, cells := 0, slots := 0, locals := 153 }
def f_X8_mend_L20  (x0 : Nat) (x1 : Int64) (rec20 : Int32 × Sg → Option (Int32 × Sg)) (s : Int32 × Sg) : Option (Int32 × Sg) := (if (gI (s.2) (gR (s.2) x0 1) 6) ≤ (s.1) then ck (b01 (1 : Int32)) (lB (pI (s.2) x0 11 (1 : Int32)) fun s2 => bd (f_X5_costOf x1 s2) fun r4 s3 => some (r4, s3)) else bd (f_X5_courseIn x1 (s.1) (s.2)) fun r7 s6 => ck (inb (s.1) (aL (gR (s.2) x0 10))) (lB (pI s6 (gR (s.2) x0 10) (s.1).toNatClampNeg r7) fun s8 => lB ((s.1) + (1 : Int32)) fun v9 => rec20 (v9, s8)))
def f_X8_mend (x0 : Nat) (σ : Sg) : Option (Int32 × Sg) := bd (f_X5_inKey (gR σ x0 3) (0 : Int32) σ) fun r3 s2 => (if 0 ≤ (lg_cmp r3 (0 : Int64)) then fx (f_X8_mend_L20 x0 r3) FU ((0 : Int32), s2) else some ((-3 : Int32), s2))
theorem t_X8_mend_L20 {K : Cx} (h : Ok K cX8_mend RX8 4 rm_X8_mend (some .int)) (hs : kiv K = St) (x0 : Nat) (x1 : Int64)  (hk0 : kd x0 8) (rec20 : Int32 × Sg → Option (Int32 × Sg)) (hr20 : ∀ u, T K (QI K) 20 [(0, .ref x0), (1, .long x1), (3, .int (u.1))] [] 0 0 (u.2) (rec20 u)) (s : Int32 × Sg) : T K (QI K) 20 [(0, .ref x0), (1, .long x1), (3, .int (s.1))] [] 0 0 (s.2) (f_X8_mend_L20 x0 x1 rec20 s) := by
  unfold f_X8_mend_L20
  refine T_iload_n (pc := 20) h dX8_mend_20 rfl 2 rfl ?_
  refine T_aload_n (pc := 21) h dX8_mend_21 rfl 0 rfl ?_
  refine T_gR (pc := 22) h hs hk0 fl_X8_19 rfl fk_8_1 dX8_mend_22 (fun hq1 => ?_)
  refine T_getI (pc := 25) h hs hq1 fl_X8_128 rfl dX8_mend_25 ?_
  refine T_icmp_ge (pc := 28) (tgt := 48) h dX8_mend_28 (by decide) ?_ ?_
  · refine T_aload_n (pc := 48) h dX8_mend_48 rfl 0 rfl ?_
    refine T_iconst (pc := 49) h dX8_mend_49 ki_1 ?_
    refine T_putZ (pc := 50) h hs hk0 fl_X8_81 rfl rfl dX8_mend_50 ?_
    refine T_letS fun s2 => ?_
    refine T_lload_n (pc := 53) h dX8_mend_53 rfl 1 rfl ?_
    refine T_callSi (pc := 54) h (M_X5_costOf (kl K) hs x1 s2 ) mst_X5_costOf ml_X8_165 rfl ⟨Nat.le_of_ble_eq_true rfl, Nat.le_of_ble_eq_true rfl⟩ ⟨Nat.le_refl 0, Nat.le_refl 0⟩ (Nat.le_of_ble_eq_true rfl) dX8_mend_54 rfl (fun r4 s3 => ?_)
    exact T_ireturn (pc := 57) h (Nat.zero_le _) (Nat.zero_le _) dX8_mend_57
  · refine T_aload_n (pc := 31) h dX8_mend_31 rfl 0 rfl ?_
    refine T_gR (pc := 32) h hs hk0 fl_X8_77 rfl fk_8_10 dX8_mend_32 (fun hq5 => ?_)
    refine T_iload_n (pc := 35) h dX8_mend_35 rfl 2 rfl ?_
    refine T_lload_n (pc := 36) h dX8_mend_36 rfl 1 rfl ?_
    refine T_iload_n (pc := 37) h dX8_mend_37 rfl 2 rfl ?_
    refine T_callSi (pc := 38) h (M_X5_courseIn (kl K) hs x1 (s.1) (s.2) ) mst_X5_courseIn ml_X8_172 rfl ⟨Nat.le_of_ble_eq_true rfl, Nat.le_of_ble_eq_true rfl⟩ ⟨Nat.le_refl 0, Nat.le_refl 0⟩ (Nat.le_of_ble_eq_true rfl) dX8_mend_38 rfl (fun r7 s6 => ?_)
    refine T_iast (pc := 41) h hs hq5 dX8_mend_41 ?_
    refine T_letS fun s8 => ?_
    refine T_iinc (fl := fun v9 => [(3, .int v9), (0, .ref x0), (1, .long x1)]) (pc := 42) h dX8_mend_42 2 rfl ki_1 (by decide) (fun _ => rfl) (fun v9 => ?_)
    refine T_goto (pc := 45) (tgt := 20) h dX8_mend_45 (by decide) ?_
    refine T_sub [1, 2, 0] rfl ?_
    exact hr20 (v9, s8)
theorem t_X8_mend {K : Cx} (h : Ok K cX8_mend RX8 4 rm_X8_mend (some .int)) (hs : kiv K = St) (x0 : Nat) (σ : Sg) (hk0 : kd x0 8) : T K (QI K) 0 [(0, .ref x0)] [] 0 0 σ (f_X8_mend x0 σ) := by
  unfold f_X8_mend
  refine T_aload_n (pc := 0) h dX8_mend_0 rfl 0 rfl ?_
  refine T_gR (pc := 1) h hs hk0 fl_X8_37 rfl fk_8_3 dX8_mend_1 (fun hq1 => ?_)
  refine T_iconst (pc := 4) h dX8_mend_4 ki_0 ?_
  refine T_callVl (pc := 5) h (M_X5_inKey (kl K) hs (gR σ x0 3) (0 : Int32) σ hq1) mv_X5_inKey hs hq1 ml_X8_161 rfl ⟨Nat.le_of_ble_eq_true rfl, Nat.le_of_ble_eq_true rfl⟩ ⟨Nat.le_refl 0, Nat.le_refl 0⟩ (Nat.le_of_ble_eq_true rfl) dX8_mend_5 rfl (fun r3 s2 => ?_)
  refine T_lstore_n (lv' := [(1, .long r3), (0, .ref x0)]) (pc := 8) h dX8_mend_8 rfl (by decide) rfl ?_
  refine T_lload_n (pc := 9) h dX8_mend_9 rfl 0 rfl ?_
  refine T_lconst (pc := 10) h dX8_mend_10 kl_0 ?_
  refine T_lcmp (pc := 11) h dX8_mend_11 ?_
  refine T_if_ge (pc := 12) (tgt := 18) h dX8_mend_12 (by decide) ?_ ?_
  · refine T_iconst (pc := 18) h dX8_mend_18 ki_0 ?_
    refine T_istore_n (lv' := [(3, .int (0 : Int32)), (1, .long r3), (0, .ref x0)]) (pc := 19) h dX8_mend_19 rfl (by decide) rfl ?_
    refine T_sub [2, 1, 0] rfl ?_
    exact T_fx (B := f_X8_mend_L20 x0 r3) (fl := fun u => [(0, .ref x0), (1, .long r3), (3, .int (u.1))]) (f := fun u => (u.2)) (fun rec20 hr20 u => t_X8_mend_L20 h hs x0 r3 hk0 rec20 hr20 u) FU ((0 : Int32), s2)
  · refine T_bipush (pc := 15) h dX8_mend_15 kb_m3 ?_
    exact T_ireturn (pc := 17) h (Nat.zero_le _) (Nat.zero_le _) dX8_mend_17
theorem M_X8_mend (l : Launch) {iv : Sg → Prop} (hi : iv = St) (x0 : Nat) (σ : Sg) (hk0 : kd x0 8) : CTi l yX8_mend cX8_mend 4 (some .int) rm_X8_mend iv [.ref x0] σ (f_X8_mend x0 σ) := by
  subst hi
  exact CT_of (by decide) (Nat.le_of_ble_eq_true rfl) (fun K _ h _ hs _ _ => t_X8_mend h hs x0 σ hk0)
/-! LuteTabs.lay(II)I -/
theorem dX8_lay_0 : decode cX8_lay 0 = .ok (.aload_n 0, 1) := by decide +kernel
theorem dX8_lay_1 : decode cX8_lay 1 = .ok (.getfield 19, 3) := by decide +kernel
theorem dX8_lay_4 : decode cX8_lay 4 = .ok (.iload_n 1, 1) := by decide +kernel
theorem dX8_lay_5 : decode cX8_lay 5 = .ok (.invokevirtual 124, 3) := by decide +kernel
theorem dX8_lay_8 : decode cX8_lay 8 = .ok (.ifCond .eq 14, 3) := by decide +kernel
theorem dX8_lay_11 : decode cX8_lay 11 = .ok (.aload_n 0, 1) := by decide +kernel
theorem dX8_lay_12 : decode cX8_lay 12 = .ok (.getfield 10, 3) := by decide +kernel
theorem dX8_lay_15 : decode cX8_lay 15 = .ok (.iload_n 2, 1) := by decide +kernel
theorem dX8_lay_16 : decode cX8_lay 16 = .ok (.invokevirtual 96, 3) := by decide +kernel
theorem dX8_lay_19 : decode cX8_lay 19 = .ok (.ifCond .ne 6, 3) := by decide +kernel
theorem dX8_lay_22 : decode cX8_lay 22 = .ok (.bipush (-2), 2) := by decide +kernel
theorem dX8_lay_24 : decode cX8_lay 24 = .ok (.ireturn, 1) := by decide +kernel
theorem dX8_lay_25 : decode cX8_lay 25 = .ok (.aload_n 0, 1) := by decide +kernel
theorem dX8_lay_26 : decode cX8_lay 26 = .ok (.getfield 81, 3) := by decide +kernel
theorem dX8_lay_29 : decode cX8_lay 29 = .ok (.ifCond .eq 12, 3) := by decide +kernel
theorem dX8_lay_32 : decode cX8_lay 32 = .ok (.aload_n 0, 1) := by decide +kernel
theorem dX8_lay_33 : decode cX8_lay 33 = .ok (.getfield 77, 3) := by decide +kernel
theorem dX8_lay_36 : decode cX8_lay 36 = .ok (.iload_n 1, 1) := by decide +kernel
theorem dX8_lay_37 : decode cX8_lay 37 = .ok (.iaload, 1) := by decide +kernel
theorem dX8_lay_38 : decode cX8_lay 38 = .ok (.goto 4, 3) := by decide +kernel
theorem dX8_lay_41 : decode cX8_lay 41 = .ok (.iconst (-1), 1) := by decide +kernel
theorem dX8_lay_42 : decode cX8_lay 42 = .ok (.istore_n 3, 1) := by decide +kernel
theorem dX8_lay_43 : decode cX8_lay 43 = .ok (.aload_n 0, 1) := by decide +kernel
theorem dX8_lay_44 : decode cX8_lay 44 = .ok (.getfield 81, 3) := by decide +kernel
theorem dX8_lay_47 : decode cX8_lay 47 = .ok (.ifCond .ne 16, 3) := by decide +kernel
theorem dX8_lay_50 : decode cX8_lay 50 = .ok (.aload_n 0, 1) := by decide +kernel
theorem dX8_lay_51 : decode cX8_lay 51 = .ok (.getfield 77, 3) := by decide +kernel
theorem dX8_lay_54 : decode cX8_lay 54 = .ok (.iconst 0, 1) := by decide +kernel
theorem dX8_lay_55 : decode cX8_lay 55 = .ok (.invokestatic 176, 3) := by decide +kernel
theorem dX8_lay_58 : decode cX8_lay 58 = .ok (.aload_n 0, 1) := by decide +kernel
theorem dX8_lay_59 : decode cX8_lay 59 = .ok (.iconst 1, 1) := by decide +kernel
theorem dX8_lay_60 : decode cX8_lay 60 = .ok (.putfield 81, 3) := by decide +kernel
theorem dX8_lay_63 : decode cX8_lay 63 = .ok (.aload_n 0, 1) := by decide +kernel
theorem dX8_lay_64 : decode cX8_lay 64 = .ok (.getfield 77, 3) := by decide +kernel
theorem dX8_lay_67 : decode cX8_lay 67 = .ok (.iload_n 1, 1) := by decide +kernel
theorem dX8_lay_68 : decode cX8_lay 68 = .ok (.iload_n 2, 1) := by decide +kernel
theorem dX8_lay_69 : decode cX8_lay 69 = .ok (.iastore, 1) := by decide +kernel
theorem dX8_lay_70 : decode cX8_lay 70 = .ok (.iload_n 3, 1) := by decide +kernel
theorem dX8_lay_71 : decode cX8_lay 71 = .ok (.ireturn, 1) := by decide +kernel
abbrev rm_X8_lay : Room := { frames := 1, cells := 0, slots := 0, locals := 23 }
def f_X8_lay_L22    (σ : Sg) : Option (Int32 × Sg) := some ((-2 : Int32), σ)
def f_X8_lay_L63  (x0 : Nat) (x1 : Int32) (x2 : Int32) (x3 : Int32)  (σ : Sg) : Option (Int32 × Sg) := ck (inb x1 (aL (gR σ x0 10))) (lB (pI σ (gR σ x0 10) x1.toNatClampNeg x2) fun s2 => some (x3, s2))
def f_X8_lay_L42  (x0 : Nat) (x1 : Int32) (x2 : Int32) (y0 : Int32) (σ : Sg) : Option (Int32 × Sg) := (if (gI σ x0 11) = 0 then bd (f_J7_fill_53178 (gR σ x0 10) (0 : Int32) σ) fun _ s2 => ck (b01 (1 : Int32)) (lB (pI s2 x0 11 (1 : Int32)) fun s3 => f_X8_lay_L63 x0 x1 x2 y0 s3) else f_X8_lay_L63 x0 x1 x2 y0 σ)
def f_X8_lay (x0 : Nat) (x1 : Int32) (x2 : Int32) (σ : Sg) : Option (Int32 × Sg) := bd (f_X2_has (gR σ x0 1) x1 σ) fun r3 s2 => (if r3 = 0 then f_X8_lay_L22 s2 else bd (f_X1_has (gR s2 x0 0) x2 s2) fun r6 s5 => (if r6 = 0 then f_X8_lay_L22 s5 else (if (gI s5 x0 11) = 0 then f_X8_lay_L42 x0 x1 x2 (-1 : Int32) s5 else ck (inb x1 (aL (gR s5 x0 10))) (f_X8_lay_L42 x0 x1 x2 (gI s5 (gR s5 x0 10) x1.toNatClampNeg) s5))))
theorem t_X8_lay_L22 {K : Cx} (h : Ok K cX8_lay RX8 4 rm_X8_lay (some .int)) (hs : kiv K = St)   (σ : Sg)    : T K (QI K) 22 [] [] 0 0 σ (f_X8_lay_L22 σ) := by
  unfold f_X8_lay_L22
  refine T_bipush (pc := 22) h dX8_lay_22 kb_m2 ?_
  exact T_ireturn (pc := 24) h (Nat.zero_le _) (Nat.zero_le _) dX8_lay_24
theorem t_X8_lay_L63 {K : Cx} (h : Ok K cX8_lay RX8 4 rm_X8_lay (some .int)) (hs : kiv K = St) (x0 : Nat) (x1 : Int32) (x2 : Int32) (x3 : Int32)  (σ : Sg)  (hk0 : kd x0 8)  : T K (QI K) 63 [(0, .ref x0), (1, .int x1), (2, .int x2), (3, .int x3)] [] 0 0 σ (f_X8_lay_L63 x0 x1 x2 x3 σ) := by
  unfold f_X8_lay_L63
  refine T_aload_n (pc := 63) h dX8_lay_63 rfl 0 rfl ?_
  refine T_gR (pc := 64) h hs hk0 fl_X8_77 rfl fk_8_10 dX8_lay_64 (fun hq1 => ?_)
  refine T_iload_n (pc := 67) h dX8_lay_67 rfl 1 rfl ?_
  refine T_iload_n (pc := 68) h dX8_lay_68 rfl 2 rfl ?_
  refine T_iast (pc := 69) h hs hq1 dX8_lay_69 ?_
  refine T_letS fun s2 => ?_
  refine T_iload_n (pc := 70) h dX8_lay_70 rfl 3 rfl ?_
  exact T_ireturn (pc := 71) h (Nat.zero_le _) (Nat.zero_le _) dX8_lay_71
theorem t_X8_lay_L42 {K : Cx} (h : Ok K cX8_lay RX8 4 rm_X8_lay (some .int)) (hs : kiv K = St) (x0 : Nat) (x1 : Int32) (x2 : Int32) (y0 : Int32) (σ : Sg)  (hk0 : kd x0 8)  : T K (QI K) 42 [(0, .ref x0), (1, .int x1), (2, .int x2)] [.int y0] 0 0 σ (f_X8_lay_L42 x0 x1 x2 y0 σ) := by
  unfold f_X8_lay_L42
  refine T_istore_n (lv' := [(3, .int y0), (0, .ref x0), (1, .int x1), (2, .int x2)]) (pc := 42) h dX8_lay_42 rfl (by decide) rfl ?_
  refine T_aload_n (pc := 43) h dX8_lay_43 rfl 1 rfl ?_
  refine T_getI (pc := 44) h hs hk0 fl_X8_81 rfl dX8_lay_44 ?_
  refine T_if_ne (pc := 47) (tgt := 63) h dX8_lay_47 (by decide) ?_ ?_
  · refine T_sub [1, 2, 3, 0] rfl ?_
    exact t_X8_lay_L63 h hs x0 x1 x2 y0 σ hk0
  · refine T_aload_n (pc := 50) h dX8_lay_50 rfl 1 rfl ?_
    refine T_gR (pc := 51) h hs hk0 fl_X8_77 rfl fk_8_10 dX8_lay_51 (fun hq1 => ?_)
    refine T_iconst (pc := 54) h dX8_lay_54 ki_0 ?_
    refine T_callSv (pc := 55) h (M_J7_fill_53178 (kl K) hs (gR σ x0 10) (0 : Int32) σ hq1) mst_J7_fill_53178 ml_X8_176 rfl ⟨Nat.le_of_ble_eq_true rfl, Nat.le_of_ble_eq_true rfl⟩ ⟨Nat.le_refl 0, Nat.le_refl 0⟩ (Nat.le_of_ble_eq_true rfl) dX8_lay_55 rfl (fun _ s2 => ?_)
    refine T_aload_n (pc := 58) h dX8_lay_58 rfl 1 rfl ?_
    refine T_iconst (pc := 59) h dX8_lay_59 ki_1 ?_
    refine T_putZ (pc := 60) h hs hk0 fl_X8_81 rfl rfl dX8_lay_60 ?_
    refine T_letS fun s3 => ?_
    refine T_sub [1, 2, 3, 0] rfl ?_
    exact t_X8_lay_L63 h hs x0 x1 x2 y0 s3 hk0
theorem t_X8_lay {K : Cx} (h : Ok K cX8_lay RX8 4 rm_X8_lay (some .int)) (hs : kiv K = St) (x0 : Nat) (x1 : Int32) (x2 : Int32) (σ : Sg) (hk0 : kd x0 8) : T K (QI K) 0 [(0, .ref x0), (1, .int x1), (2, .int x2)] [] 0 0 σ (f_X8_lay x0 x1 x2 σ) := by
  unfold f_X8_lay
  refine T_aload_n (pc := 0) h dX8_lay_0 rfl 0 rfl ?_
  refine T_gR (pc := 1) h hs hk0 fl_X8_19 rfl fk_8_1 dX8_lay_1 (fun hq1 => ?_)
  refine T_iload_n (pc := 4) h dX8_lay_4 rfl 1 rfl ?_
  refine T_callVi (pc := 5) h (M_X2_has (kl K) hs (gR σ x0 1) x1 σ hq1) mv_X2_has hs hq1 ml_X8_124 rfl ⟨Nat.le_of_ble_eq_true rfl, Nat.le_of_ble_eq_true rfl⟩ ⟨Nat.le_refl 0, Nat.le_refl 0⟩ (Nat.le_of_ble_eq_true rfl) dX8_lay_5 rfl (fun r3 s2 => ?_)
  refine T_if_eq (pc := 8) (tgt := 22) h dX8_lay_8 (by decide) ?_ ?_
  · refine T_sub [] rfl ?_
    exact t_X8_lay_L22 h hs s2
  · refine T_aload_n (pc := 11) h dX8_lay_11 rfl 0 rfl ?_
    refine T_gR (pc := 12) h hs hk0 fl_X8_10 rfl fk_8_0 dX8_lay_12 (fun hq4 => ?_)
    refine T_iload_n (pc := 15) h dX8_lay_15 rfl 2 rfl ?_
    refine T_callVi (pc := 16) h (M_X1_has (kl K) hs (gR s2 x0 0) x2 s2 hq4) mv_X1_has hs hq4 ml_X8_96 rfl ⟨Nat.le_of_ble_eq_true rfl, Nat.le_of_ble_eq_true rfl⟩ ⟨Nat.le_refl 0, Nat.le_refl 0⟩ (Nat.le_of_ble_eq_true rfl) dX8_lay_16 rfl (fun r6 s5 => ?_)
    refine T_if_ne (pc := 19) (tgt := 25) h dX8_lay_19 (by decide) ?_ ?_
    · refine T_aload_n (pc := 25) h dX8_lay_25 rfl 0 rfl ?_
      refine T_getI (pc := 26) h hs hk0 fl_X8_81 rfl dX8_lay_26 ?_
      refine T_if_eq (pc := 29) (tgt := 41) h dX8_lay_29 (by decide) ?_ ?_
      · refine T_iconst (pc := 41) h dX8_lay_41 ki_m1 ?_
        refine T_sub [0, 1, 2] rfl ?_
        exact t_X8_lay_L42 h hs x0 x1 x2 (-1 : Int32) s5 hk0
      · refine T_aload_n (pc := 32) h dX8_lay_32 rfl 0 rfl ?_
        refine T_gR (pc := 33) h hs hk0 fl_X8_77 rfl fk_8_10 dX8_lay_33 (fun hq7 => ?_)
        refine T_iload_n (pc := 36) h dX8_lay_36 rfl 1 rfl ?_
        refine T_iald (pc := 37) h hs hq7 dX8_lay_37 ?_
        refine T_goto (pc := 38) (tgt := 42) h dX8_lay_38 (by decide) ?_
        refine T_sub [0, 1, 2] rfl ?_
        exact t_X8_lay_L42 h hs x0 x1 x2 (gI s5 (gR s5 x0 10) x1.toNatClampNeg) s5 hk0
    · refine T_sub [] rfl ?_
      exact t_X8_lay_L22 h hs s5
theorem M_X8_lay (l : Launch) {iv : Sg → Prop} (hi : iv = St) (x0 : Nat) (x1 : Int32) (x2 : Int32) (σ : Sg) (hk0 : kd x0 8) : CTi l yX8_lay cX8_lay 4 (some .int) rm_X8_lay iv [.ref x0, .int x1, .int x2] σ (f_X8_lay x0 x1 x2 σ) := by
  subst hi
  exact CT_of (by decide) (Nat.le_of_ble_eq_true rfl) (fun K _ h _ hs _ _ => t_X8_lay h hs x0 x1 x2 σ hk0)
/-! LuteTabs.fretOfLaid(I)I -/
theorem dX8_fretOfLaid_0 : decode cX8_fretOfLaid 0 = .ok (.aload_n 0, 1) := by decide +kernel
theorem dX8_fretOfLaid_1 : decode cX8_fretOfLaid 1 = .ok (.getfield 19, 3) := by decide +kernel
theorem dX8_fretOfLaid_4 : decode cX8_fretOfLaid 4 = .ok (.getfield 143, 3) := by decide +kernel
theorem dX8_fretOfLaid_7 : decode cX8_fretOfLaid 7 = .ok (.iload_n 1, 1) := by decide +kernel
theorem dX8_fretOfLaid_8 : decode cX8_fretOfLaid 8 = .ok (.iaload, 1) := by decide +kernel
theorem dX8_fretOfLaid_9 : decode cX8_fretOfLaid 9 = .ok (.aload_n 0, 1) := by decide +kernel
theorem dX8_fretOfLaid_10 : decode cX8_fretOfLaid 10 = .ok (.getfield 10, 3) := by decide +kernel
theorem dX8_fretOfLaid_13 : decode cX8_fretOfLaid 13 = .ok (.getfield 100, 3) := by decide +kernel
theorem dX8_fretOfLaid_16 : decode cX8_fretOfLaid 16 = .ok (.aload_n 0, 1) := by decide +kernel
theorem dX8_fretOfLaid_17 : decode cX8_fretOfLaid 17 = .ok (.getfield 77, 3) := by decide +kernel
theorem dX8_fretOfLaid_20 : decode cX8_fretOfLaid 20 = .ok (.iload_n 1, 1) := by decide +kernel
theorem dX8_fretOfLaid_21 : decode cX8_fretOfLaid 21 = .ok (.iaload, 1) := by decide +kernel
theorem dX8_fretOfLaid_22 : decode cX8_fretOfLaid 22 = .ok (.iaload, 1) := by decide +kernel
theorem dX8_fretOfLaid_23 : decode cX8_fretOfLaid 23 = .ok (.isub, 1) := by decide +kernel
theorem dX8_fretOfLaid_24 : decode cX8_fretOfLaid 24 = .ok (.ireturn, 1) := by decide +kernel
abbrev rm_X8_fretOfLaid : Room := { frames := 0, cells := 0, slots := 0, locals := 0 }
def f_X8_fretOfLaid (x0 : Nat) (x1 : Int32) (σ : Sg) : Option (Int32 × Sg) := ck (inb x1 (aL (gR σ (gR σ x0 1) 1))) (ck (inb x1 (aL (gR σ x0 10))) (ck (inb (gI σ (gR σ x0 10) x1.toNatClampNeg) (aL (gR σ (gR σ x0 0) 1))) (some (((gI σ (gR σ (gR σ x0 1) 1) x1.toNatClampNeg) - (gI σ (gR σ (gR σ x0 0) 1) (gI σ (gR σ x0 10) x1.toNatClampNeg).toNatClampNeg)), σ))))
theorem t_X8_fretOfLaid {K : Cx} (h : Ok K cX8_fretOfLaid RX8 2 rm_X8_fretOfLaid (some .int)) (hs : kiv K = St) (x0 : Nat) (x1 : Int32) (σ : Sg) (hk0 : kd x0 8) : T K (QI K) 0 [(0, .ref x0), (1, .int x1)] [] 0 0 σ (f_X8_fretOfLaid x0 x1 σ) := by
  unfold f_X8_fretOfLaid
  refine T_aload_n (pc := 0) h dX8_fretOfLaid_0 rfl 0 rfl ?_
  refine T_gR (pc := 1) h hs hk0 fl_X8_19 rfl fk_8_1 dX8_fretOfLaid_1 (fun hq1 => ?_)
  refine T_gR (pc := 4) h hs hq1 fl_X8_143 rfl fk_2_1 dX8_fretOfLaid_4 (fun hq2 => ?_)
  refine T_iload_n (pc := 7) h dX8_fretOfLaid_7 rfl 1 rfl ?_
  refine T_iald (pc := 8) h hs hq2 dX8_fretOfLaid_8 ?_
  refine T_aload_n (pc := 9) h dX8_fretOfLaid_9 rfl 0 rfl ?_
  refine T_gR (pc := 10) h hs hk0 fl_X8_10 rfl fk_8_0 dX8_fretOfLaid_10 (fun hq3 => ?_)
  refine T_gR (pc := 13) h hs hq3 fl_X8_100 rfl fk_1_1 dX8_fretOfLaid_13 (fun hq4 => ?_)
  refine T_aload_n (pc := 16) h dX8_fretOfLaid_16 rfl 0 rfl ?_
  refine T_gR (pc := 17) h hs hk0 fl_X8_77 rfl fk_8_10 dX8_fretOfLaid_17 (fun hq5 => ?_)
  refine T_iload_n (pc := 20) h dX8_fretOfLaid_20 rfl 1 rfl ?_
  refine T_iald (pc := 21) h hs hq5 dX8_fretOfLaid_21 ?_
  refine T_iald (pc := 22) h hs hq4 dX8_fretOfLaid_22 ?_
  refine T_isub (pc := 23) h dX8_fretOfLaid_23 ?_
  exact T_ireturn (pc := 24) h (Nat.zero_le _) (Nat.zero_le _) dX8_fretOfLaid_24
theorem M_X8_fretOfLaid (l : Launch) {iv : Sg → Prop} (hi : iv = St) (x0 : Nat) (x1 : Int32) (σ : Sg) (hk0 : kd x0 8) : CTi l yX8_fretOfLaid cX8_fretOfLaid 2 (some .int) rm_X8_fretOfLaid iv [.ref x0, .int x1] σ (f_X8_fretOfLaid x0 x1 σ) := by
  subst hi
  exact CT_of (by decide) (Nat.le_of_ble_eq_true rfl) (fun K _ h _ hs _ _ => t_X8_fretOfLaid h hs x0 x1 σ hk0)
/-! LuteTabs.wrongs()I -/
theorem dX8_wrongs_0 : decode cX8_wrongs 0 = .ok (.iconst 0, 1) := by decide +kernel
theorem dX8_wrongs_1 : decode cX8_wrongs 1 = .ok (.istore_n 1, 1) := by decide +kernel
theorem dX8_wrongs_2 : decode cX8_wrongs 2 = .ok (.iconst 0, 1) := by decide +kernel
theorem dX8_wrongs_3 : decode cX8_wrongs 3 = .ok (.istore_n 2, 1) := by decide +kernel
theorem dX8_wrongs_4 : decode cX8_wrongs 4 = .ok (.iload_n 2, 1) := by decide +kernel
theorem dX8_wrongs_5 : decode cX8_wrongs 5 = .ok (.aload_n 0, 1) := by decide +kernel
theorem dX8_wrongs_6 : decode cX8_wrongs 6 = .ok (.getfield 19, 3) := by decide +kernel
theorem dX8_wrongs_9 : decode cX8_wrongs 9 = .ok (.getfield 128, 3) := by decide +kernel
theorem dX8_wrongs_12 : decode cX8_wrongs 12 = .ok (.if_icmp .ge 27, 3) := by decide +kernel
theorem dX8_wrongs_15 : decode cX8_wrongs 15 = .ok (.aload_n 0, 1) := by decide +kernel
theorem dX8_wrongs_16 : decode cX8_wrongs 16 = .ok (.getfield 10, 3) := by decide +kernel
theorem dX8_wrongs_19 : decode cX8_wrongs 19 = .ok (.aload_n 0, 1) := by decide +kernel
theorem dX8_wrongs_20 : decode cX8_wrongs 20 = .ok (.iload_n 2, 1) := by decide +kernel
theorem dX8_wrongs_21 : decode cX8_wrongs 21 = .ok (.invokevirtual 291, 3) := by decide +kernel
theorem dX8_wrongs_24 : decode cX8_wrongs 24 = .ok (.invokevirtual 353, 3) := by decide +kernel
theorem dX8_wrongs_27 : decode cX8_wrongs 27 = .ok (.ifCond .ne 6, 3) := by decide +kernel
theorem dX8_wrongs_30 : decode cX8_wrongs 30 = .ok (.iinc 1 1, 3) := by decide +kernel
theorem dX8_wrongs_33 : decode cX8_wrongs 33 = .ok (.iinc 2 1, 3) := by decide +kernel
theorem dX8_wrongs_36 : decode cX8_wrongs 36 = .ok (.goto (-32), 3) := by decide +kernel
theorem dX8_wrongs_39 : decode cX8_wrongs 39 = .ok (.iconst 0, 1) := by decide +kernel
theorem dX8_wrongs_40 : decode cX8_wrongs 40 = .ok (.istore_n 2, 1) := by decide +kernel
theorem dX8_wrongs_41 : decode cX8_wrongs 41 = .ok (.iload_n 2, 1) := by decide +kernel
theorem dX8_wrongs_42 : decode cX8_wrongs 42 = .ok (.aload_n 0, 1) := by decide +kernel
theorem dX8_wrongs_43 : decode cX8_wrongs 43 = .ok (.getfield 19, 3) := by decide +kernel
theorem dX8_wrongs_46 : decode cX8_wrongs 46 = .ok (.getfield 294, 3) := by decide +kernel
theorem dX8_wrongs_49 : decode cX8_wrongs 49 = .ok (.if_icmp .ge 32, 3) := by decide +kernel
theorem dX8_wrongs_52 : decode cX8_wrongs 52 = .ok (.aload_n 0, 1) := by decide +kernel
theorem dX8_wrongs_53 : decode cX8_wrongs 53 = .ok (.getfield 28, 3) := by decide +kernel
theorem dX8_wrongs_56 : decode cX8_wrongs 56 = .ok (.iload_n 2, 1) := by decide +kernel
theorem dX8_wrongs_57 : decode cX8_wrongs 57 = .ok (.aload_n 0, 1) := by decide +kernel
theorem dX8_wrongs_58 : decode cX8_wrongs 58 = .ok (.getfield 77, 3) := by decide +kernel
theorem dX8_wrongs_61 : decode cX8_wrongs 61 = .ok (.iconst 0, 1) := by decide +kernel
theorem dX8_wrongs_62 : decode cX8_wrongs 62 = .ok (.invokevirtual 356, 3) := by decide +kernel
theorem dX8_wrongs_65 : decode cX8_wrongs 65 = .ok (.iload_n 1, 1) := by decide +kernel
theorem dX8_wrongs_66 : decode cX8_wrongs 66 = .ok (.aload_n 0, 1) := by decide +kernel
theorem dX8_wrongs_67 : decode cX8_wrongs 67 = .ok (.getfield 28, 3) := by decide +kernel
theorem dX8_wrongs_70 : decode cX8_wrongs 70 = .ok (.invokevirtual 360, 3) := by decide +kernel
theorem dX8_wrongs_73 : decode cX8_wrongs 73 = .ok (.iadd, 1) := by decide +kernel
theorem dX8_wrongs_74 : decode cX8_wrongs 74 = .ok (.istore_n 1, 1) := by decide +kernel
theorem dX8_wrongs_75 : decode cX8_wrongs 75 = .ok (.iinc 2 1, 3) := by decide +kernel
theorem dX8_wrongs_78 : decode cX8_wrongs 78 = .ok (.goto (-37), 3) := by decide +kernel
theorem dX8_wrongs_81 : decode cX8_wrongs 81 = .ok (.iload_n 1, 1) := by decide +kernel
theorem dX8_wrongs_82 : decode cX8_wrongs 82 = .ok (.ireturn, 1) := by decide +kernel
abbrev rm_X8_wrongs : Room := { frames := 3, cells := 0, slots := 0, locals := 71 }
def f_X8_wrongs_L33 (rec4 : Int32 × Int32 × Sg → Option (Int32 × Sg)) (x0 : Nat) (x1 : Int32) (x2 : Int32)  (σ : Sg) : Option (Int32 × Sg) := lB (x2 + (1 : Int32)) fun v1 => rec4 (x1, v1, σ)
def f_X8_wrongs_L41  (x0 : Nat) (rec41 : Int32 × Int32 × Sg → Option (Int32 × Sg)) (s : Int32 × Int32 × Sg) : Option (Int32 × Sg) := (if (gI (s.2.2) (gR (s.2.2) x0 1) 7) ≤ (s.2.1) then some ((s.1), (s.2.2)) else bd (f_X0_look (gR (s.2.2) x0 2) (s.2.1) (gR (s.2.2) x0 10) (0 : Int32) (s.2.2)) fun _ s4 => bd (f_X0_wrongs (gR s4 x0 2) s4) fun r7 s6 => lB (((s.1) + r7)) fun v8 => lB ((s.2.1) + (1 : Int32)) fun v9 => rec41 (v8, v9, s6))
def f_X8_wrongs_L4  (x0 : Nat) (rec4 : Int32 × Int32 × Sg → Option (Int32 × Sg)) (s : Int32 × Int32 × Sg) : Option (Int32 × Sg) := (if (gI (s.2.2) (gR (s.2.2) x0 1) 6) ≤ (s.2.1) then fx (f_X8_wrongs_L41 x0) FU ((s.1), (0 : Int32), (s.2.2)) else bd (f_X8_fretOfLaid x0 (s.2.1) (s.2.2)) fun r4 s3 => bd (f_X1_hasFret (gR (s.2.2) x0 0) r4 s3) fun r6 s5 => (if r6 = 0 then lB ((s.1) + (1 : Int32)) fun v7 => f_X8_wrongs_L33 rec4 x0 v7 (s.2.1) s5 else f_X8_wrongs_L33 rec4 x0 (s.1) (s.2.1) s5))
def f_X8_wrongs (x0 : Nat) (σ : Sg) : Option (Int32 × Sg) := fx (f_X8_wrongs_L4 x0) FU ((0 : Int32), (0 : Int32), σ)
theorem t_X8_wrongs_L33 {K : Cx} (h : Ok K cX8_wrongs RX8 3 rm_X8_wrongs (some .int)) (hs : kiv K = St) (x0 : Nat) (x1 : Int32) (x2 : Int32)  (σ : Sg) (rec4 : Int32 × Int32 × Sg → Option (Int32 × Sg)) (hr4 : ∀ u, T K (QI K) 4 [(0, .ref x0), (1, .int (u.1)), (2, .int (u.2.1))] [] 0 0 (u.2.2) (rec4 u)) (hk0 : kd x0 8)  : T K (QI K) 33 [(0, .ref x0), (1, .int x1), (2, .int x2)] [] 0 0 σ (f_X8_wrongs_L33 rec4 x0 x1 x2 σ) := by
  unfold f_X8_wrongs_L33
  refine T_iinc (fl := fun v1 => [(2, .int v1), (0, .ref x0), (1, .int x1)]) (pc := 33) h dX8_wrongs_33 2 rfl ki_1 (by decide) (fun _ => rfl) (fun v1 => ?_)
  refine T_goto (pc := 36) (tgt := 4) h dX8_wrongs_36 (by decide) ?_
  refine T_sub [1, 2, 0] rfl ?_
  exact hr4 (x1, v1, σ)
theorem t_X8_wrongs_L41 {K : Cx} (h : Ok K cX8_wrongs RX8 3 rm_X8_wrongs (some .int)) (hs : kiv K = St) (x0 : Nat)  (hk0 : kd x0 8) (rec41 : Int32 × Int32 × Sg → Option (Int32 × Sg)) (hr41 : ∀ u, T K (QI K) 41 [(0, .ref x0), (1, .int (u.1)), (2, .int (u.2.1))] [] 0 0 (u.2.2) (rec41 u)) (s : Int32 × Int32 × Sg) : T K (QI K) 41 [(0, .ref x0), (1, .int (s.1)), (2, .int (s.2.1))] [] 0 0 (s.2.2) (f_X8_wrongs_L41 x0 rec41 s) := by
  unfold f_X8_wrongs_L41
  refine T_iload_n (pc := 41) h dX8_wrongs_41 rfl 2 rfl ?_
  refine T_aload_n (pc := 42) h dX8_wrongs_42 rfl 0 rfl ?_
  refine T_gR (pc := 43) h hs hk0 fl_X8_19 rfl fk_8_1 dX8_wrongs_43 (fun hq1 => ?_)
  refine T_getI (pc := 46) h hs hq1 fl_X8_294 rfl dX8_wrongs_46 ?_
  refine T_icmp_ge (pc := 49) (tgt := 81) h dX8_wrongs_49 (by decide) ?_ ?_
  · refine T_iload_n (pc := 81) h dX8_wrongs_81 rfl 1 rfl ?_
    exact T_ireturn (pc := 82) h (Nat.zero_le _) (Nat.zero_le _) dX8_wrongs_82
  · refine T_aload_n (pc := 52) h dX8_wrongs_52 rfl 0 rfl ?_
    refine T_gR (pc := 53) h hs hk0 fl_X8_28 rfl fk_8_2 dX8_wrongs_53 (fun hq2 => ?_)
    refine T_iload_n (pc := 56) h dX8_wrongs_56 rfl 2 rfl ?_
    refine T_aload_n (pc := 57) h dX8_wrongs_57 rfl 0 rfl ?_
    refine T_gR (pc := 58) h hs hk0 fl_X8_77 rfl fk_8_10 dX8_wrongs_58 (fun hq3 => ?_)
    refine T_iconst (pc := 61) h dX8_wrongs_61 ki_0 ?_
    refine T_callVv (pc := 62) h (M_X0_look (kl K) hs (gR (s.2.2) x0 2) (s.2.1) (gR (s.2.2) x0 10) (0 : Int32) (s.2.2) hq2 hq3) mv_X0_look hs hq2 ml_X8_356 rfl ⟨Nat.le_of_ble_eq_true rfl, Nat.le_of_ble_eq_true rfl⟩ ⟨Nat.le_refl 0, Nat.le_refl 0⟩ (Nat.le_of_ble_eq_true rfl) dX8_wrongs_62 rfl (fun _ s4 => ?_)
    refine T_iload_n (pc := 65) h dX8_wrongs_65 rfl 1 rfl ?_
    refine T_aload_n (pc := 66) h dX8_wrongs_66 rfl 0 rfl ?_
    refine T_gR (pc := 67) h hs hk0 fl_X8_28 rfl fk_8_2 dX8_wrongs_67 (fun hq5 => ?_)
    refine T_callVi (pc := 70) h (M_X0_wrongs (kl K) hs (gR s4 x0 2) s4 hq5) mv_X0_wrongs hs hq5 ml_X8_360 rfl ⟨Nat.le_of_ble_eq_true rfl, Nat.le_of_ble_eq_true rfl⟩ ⟨Nat.le_refl 0, Nat.le_refl 0⟩ (Nat.le_of_ble_eq_true rfl) dX8_wrongs_70 rfl (fun r7 s6 => ?_)
    refine T_iadd (pc := 73) h dX8_wrongs_73 ?_
    refine T_letI fun v8 => ?_
    refine T_istore_n (lv' := [(1, .int v8), (0, .ref x0), (2, .int (s.2.1))]) (pc := 74) h dX8_wrongs_74 rfl (by decide) rfl ?_
    refine T_iinc (fl := fun v9 => [(2, .int v9), (1, .int v8), (0, .ref x0)]) (pc := 75) h dX8_wrongs_75 2 rfl ki_1 (by decide) (fun _ => rfl) (fun v9 => ?_)
    refine T_goto (pc := 78) (tgt := 41) h dX8_wrongs_78 (by decide) ?_
    refine T_sub [2, 1, 0] rfl ?_
    exact hr41 (v8, v9, s6)
theorem t_X8_wrongs_L4 {K : Cx} (h : Ok K cX8_wrongs RX8 3 rm_X8_wrongs (some .int)) (hs : kiv K = St) (x0 : Nat)  (hk0 : kd x0 8) (rec4 : Int32 × Int32 × Sg → Option (Int32 × Sg)) (hr4 : ∀ u, T K (QI K) 4 [(0, .ref x0), (1, .int (u.1)), (2, .int (u.2.1))] [] 0 0 (u.2.2) (rec4 u)) (s : Int32 × Int32 × Sg) : T K (QI K) 4 [(0, .ref x0), (1, .int (s.1)), (2, .int (s.2.1))] [] 0 0 (s.2.2) (f_X8_wrongs_L4 x0 rec4 s) := by
  unfold f_X8_wrongs_L4
  refine T_iload_n (pc := 4) h dX8_wrongs_4 rfl 2 rfl ?_
  refine T_aload_n (pc := 5) h dX8_wrongs_5 rfl 0 rfl ?_
  refine T_gR (pc := 6) h hs hk0 fl_X8_19 rfl fk_8_1 dX8_wrongs_6 (fun hq1 => ?_)
  refine T_getI (pc := 9) h hs hq1 fl_X8_128 rfl dX8_wrongs_9 ?_
  refine T_icmp_ge (pc := 12) (tgt := 39) h dX8_wrongs_12 (by decide) ?_ ?_
  · refine T_iconst (pc := 39) h dX8_wrongs_39 ki_0 ?_
    refine T_istore_n (lv' := [(2, .int (0 : Int32)), (0, .ref x0), (1, .int (s.1))]) (pc := 40) h dX8_wrongs_40 rfl (by decide) rfl ?_
    refine T_sub [1, 2, 0] rfl ?_
    exact T_fx (B := f_X8_wrongs_L41 x0) (fl := fun u => [(0, .ref x0), (1, .int (u.1)), (2, .int (u.2.1))]) (f := fun u => (u.2.2)) (fun rec41 hr41 u => t_X8_wrongs_L41 h hs x0 hk0 rec41 hr41 u) FU ((s.1), (0 : Int32), (s.2.2))
  · refine T_aload_n (pc := 15) h dX8_wrongs_15 rfl 0 rfl ?_
    refine T_gR (pc := 16) h hs hk0 fl_X8_10 rfl fk_8_0 dX8_wrongs_16 (fun hq2 => ?_)
    refine T_aload_n (pc := 19) h dX8_wrongs_19 rfl 0 rfl ?_
    refine T_iload_n (pc := 20) h dX8_wrongs_20 rfl 2 rfl ?_
    refine T_callVi (pc := 21) h (M_X8_fretOfLaid (kl K) hs x0 (s.2.1) (s.2.2) hk0) mv_X8_fretOfLaid hs hk0 ml_X8_291 rfl ⟨Nat.le_of_ble_eq_true rfl, Nat.le_of_ble_eq_true rfl⟩ ⟨Nat.le_refl 0, Nat.le_refl 0⟩ (Nat.le_of_ble_eq_true rfl) dX8_wrongs_21 rfl (fun r4 s3 => ?_)
    refine T_callVi (pc := 24) h (M_X1_hasFret (kl K) hs (gR (s.2.2) x0 0) r4 s3 hq2) mv_X1_hasFret hs hq2 ml_X8_353 rfl ⟨Nat.le_of_ble_eq_true rfl, Nat.le_of_ble_eq_true rfl⟩ ⟨Nat.le_refl 0, Nat.le_refl 0⟩ (Nat.le_of_ble_eq_true rfl) dX8_wrongs_24 rfl (fun r6 s5 => ?_)
    refine T_if_ne (pc := 27) (tgt := 33) h dX8_wrongs_27 (by decide) ?_ ?_
    · refine T_sub [0, 1, 2] rfl ?_
      exact t_X8_wrongs_L33 h hs x0 (s.1) (s.2.1) s5 rec4 hr4 hk0
    · refine T_iinc (fl := fun v7 => [(1, .int v7), (0, .ref x0), (2, .int (s.2.1))]) (pc := 30) h dX8_wrongs_30 1 rfl ki_1 (by decide) (fun _ => rfl) (fun v7 => ?_)
      refine T_sub [1, 0, 2] rfl ?_
      exact t_X8_wrongs_L33 h hs x0 v7 (s.2.1) s5 rec4 hr4 hk0
theorem t_X8_wrongs {K : Cx} (h : Ok K cX8_wrongs RX8 3 rm_X8_wrongs (some .int)) (hs : kiv K = St) (x0 : Nat) (σ : Sg) (hk0 : kd x0 8) : T K (QI K) 0 [(0, .ref x0)] [] 0 0 σ (f_X8_wrongs x0 σ) := by
  unfold f_X8_wrongs
  refine T_iconst (pc := 0) h dX8_wrongs_0 ki_0 ?_
  refine T_istore_n (lv' := [(1, .int (0 : Int32)), (0, .ref x0)]) (pc := 1) h dX8_wrongs_1 rfl (by decide) rfl ?_
  refine T_iconst (pc := 2) h dX8_wrongs_2 ki_0 ?_
  refine T_istore_n (lv' := [(2, .int (0 : Int32)), (1, .int (0 : Int32)), (0, .ref x0)]) (pc := 3) h dX8_wrongs_3 rfl (by decide) rfl ?_
  refine T_sub [2, 1, 0] rfl ?_
  exact T_fx (B := f_X8_wrongs_L4 x0) (fl := fun u => [(0, .ref x0), (1, .int (u.1)), (2, .int (u.2.1))]) (f := fun u => (u.2.2)) (fun rec4 hr4 u => t_X8_wrongs_L4 h hs x0 hk0 rec4 hr4 u) FU ((0 : Int32), (0 : Int32), σ)
theorem M_X8_wrongs (l : Launch) {iv : Sg → Prop} (hi : iv = St) (x0 : Nat) (σ : Sg) (hk0 : kd x0 8) : CTi l yX8_wrongs cX8_wrongs 3 (some .int) rm_X8_wrongs iv [.ref x0] σ (f_X8_wrongs x0 σ) := by
  subst hi
  exact CT_of (by decide) (Nat.le_of_ble_eq_true rfl) (fun K _ h _ hs _ _ => t_X8_wrongs h hs x0 σ hk0)
/-! LuteTabs.wrong()I -/
theorem dX8_wrong_0 : decode cX8_wrong 0 = .ok (.aload_n 0, 1) := by decide +kernel
theorem dX8_wrong_1 : decode cX8_wrong 1 = .ok (.getfield 81, 3) := by decide +kernel
theorem dX8_wrong_4 : decode cX8_wrong 4 = .ok (.ifCond .eq 10, 3) := by decide +kernel
theorem dX8_wrong_7 : decode cX8_wrong 7 = .ok (.aload_n 0, 1) := by decide +kernel
theorem dX8_wrong_8 : decode cX8_wrong 8 = .ok (.invokevirtual 182, 3) := by decide +kernel
theorem dX8_wrong_11 : decode cX8_wrong 11 = .ok (.goto 5, 3) := by decide +kernel
theorem dX8_wrong_14 : decode cX8_wrong 14 = .ok (.bipush (-3), 2) := by decide +kernel
theorem dX8_wrong_16 : decode cX8_wrong 16 = .ok (.ireturn, 1) := by decide +kernel
abbrev rm_X8_wrong : Room := { frames := 4, cells := 0, slots := 0, locals := 93 }
def f_X8_wrong_L16   (y0 : Int32) (σ : Sg) : Option (Int32 × Sg) := some (y0, σ)
def f_X8_wrong (x0 : Nat) (σ : Sg) : Option (Int32 × Sg) := (if (gI σ x0 11) = 0 then f_X8_wrong_L16 (-3 : Int32) σ else bd (f_X8_wrongs x0 σ) fun r2 s1 => f_X8_wrong_L16 r2 s1)
theorem t_X8_wrong_L16 {K : Cx} (h : Ok K cX8_wrong RX8 1 rm_X8_wrong (some .int)) (hs : kiv K = St)  (y0 : Int32) (σ : Sg)    : T K (QI K) 16 [] [.int y0] 0 0 σ (f_X8_wrong_L16 y0 σ) := by
  unfold f_X8_wrong_L16
  exact T_ireturn (pc := 16) h (Nat.zero_le _) (Nat.zero_le _) dX8_wrong_16
theorem t_X8_wrong {K : Cx} (h : Ok K cX8_wrong RX8 1 rm_X8_wrong (some .int)) (hs : kiv K = St) (x0 : Nat) (σ : Sg) (hk0 : kd x0 8) : T K (QI K) 0 [(0, .ref x0)] [] 0 0 σ (f_X8_wrong x0 σ) := by
  unfold f_X8_wrong
  refine T_aload_n (pc := 0) h dX8_wrong_0 rfl 0 rfl ?_
  refine T_getI (pc := 1) h hs hk0 fl_X8_81 rfl dX8_wrong_1 ?_
  refine T_if_eq (pc := 4) (tgt := 14) h dX8_wrong_4 (by decide) ?_ ?_
  · refine T_bipush (pc := 14) h dX8_wrong_14 kb_m3 ?_
    refine T_sub [] rfl ?_
    exact t_X8_wrong_L16 h hs (-3 : Int32) σ
  · refine T_aload_n (pc := 7) h dX8_wrong_7 rfl 0 rfl ?_
    refine T_callVi (pc := 8) h (M_X8_wrongs (kl K) hs x0 σ hk0) mv_X8_wrongs hs hk0 ml_X8_182 rfl ⟨Nat.le_of_ble_eq_true rfl, Nat.le_of_ble_eq_true rfl⟩ ⟨Nat.le_refl 0, Nat.le_refl 0⟩ (Nat.le_of_ble_eq_true rfl) dX8_wrong_8 rfl (fun r2 s1 => ?_)
    refine T_goto (pc := 11) (tgt := 16) h dX8_wrong_11 (by decide) ?_
    refine T_sub [] rfl ?_
    exact t_X8_wrong_L16 h hs r2 s1
theorem M_X8_wrong (l : Launch) {iv : Sg → Prop} (hi : iv = St) (x0 : Nat) (σ : Sg) (hk0 : kd x0 8) : CTi l yX8_wrong cX8_wrong 1 (some .int) rm_X8_wrong iv [.ref x0] σ (f_X8_wrong x0 σ) := by
  subst hi
  exact CT_of (by decide) (Nat.le_of_ble_eq_true rfl) (fun K _ h _ hs _ _ => t_X8_wrong h hs x0 σ hk0)
/-! LuteTabs.costOfLaid()I -/
theorem dX8_costOfLaid_0 : decode cX8_costOfLaid 0 = .ok (.iconst 0, 1) := by decide +kernel
theorem dX8_costOfLaid_1 : decode cX8_costOfLaid 1 = .ok (.istore_n 1, 1) := by decide +kernel
theorem dX8_costOfLaid_2 : decode cX8_costOfLaid 2 = .ok (.iconst 0, 1) := by decide +kernel
theorem dX8_costOfLaid_3 : decode cX8_costOfLaid 3 = .ok (.istore_n 2, 1) := by decide +kernel
theorem dX8_costOfLaid_4 : decode cX8_costOfLaid 4 = .ok (.iconst 0, 1) := by decide +kernel
theorem dX8_costOfLaid_5 : decode cX8_costOfLaid 5 = .ok (.istore_n 3, 1) := by decide +kernel
theorem dX8_costOfLaid_6 : decode cX8_costOfLaid 6 = .ok (.iload_n 3, 1) := by decide +kernel
theorem dX8_costOfLaid_7 : decode cX8_costOfLaid 7 = .ok (.aload_n 0, 1) := by decide +kernel
theorem dX8_costOfLaid_8 : decode cX8_costOfLaid 8 = .ok (.getfield 19, 3) := by decide +kernel
theorem dX8_costOfLaid_11 : decode cX8_costOfLaid 11 = .ok (.getfield 294, 3) := by decide +kernel
theorem dX8_costOfLaid_14 : decode cX8_costOfLaid 14 = .ok (.if_icmp .ge 56, 3) := by decide +kernel
theorem dX8_costOfLaid_17 : decode cX8_costOfLaid 17 = .ok (.aload_n 0, 1) := by decide +kernel
theorem dX8_costOfLaid_18 : decode cX8_costOfLaid 18 = .ok (.getfield 28, 3) := by decide +kernel
theorem dX8_costOfLaid_21 : decode cX8_costOfLaid 21 = .ok (.iload_n 3, 1) := by decide +kernel
theorem dX8_costOfLaid_22 : decode cX8_costOfLaid 22 = .ok (.aload_n 0, 1) := by decide +kernel
theorem dX8_costOfLaid_23 : decode cX8_costOfLaid 23 = .ok (.getfield 77, 3) := by decide +kernel
theorem dX8_costOfLaid_26 : decode cX8_costOfLaid 26 = .ok (.iconst 0, 1) := by decide +kernel
theorem dX8_costOfLaid_27 : decode cX8_costOfLaid 27 = .ok (.invokevirtual 356, 3) := by decide +kernel
theorem dX8_costOfLaid_30 : decode cX8_costOfLaid 30 = .ok (.iload_n 1, 1) := by decide +kernel
theorem dX8_costOfLaid_31 : decode cX8_costOfLaid 31 = .ok (.aload_n 0, 1) := by decide +kernel
theorem dX8_costOfLaid_32 : decode cX8_costOfLaid 32 = .ok (.getfield 28, 3) := by decide +kernel
theorem dX8_costOfLaid_35 : decode cX8_costOfLaid 35 = .ok (.invokevirtual 361, 3) := by decide +kernel
theorem dX8_costOfLaid_38 : decode cX8_costOfLaid 38 = .ok (.aload_n 0, 1) := by decide +kernel
theorem dX8_costOfLaid_39 : decode cX8_costOfLaid 39 = .ok (.getfield 10, 3) := by decide +kernel
theorem dX8_costOfLaid_42 : decode cX8_costOfLaid 42 = .ok (.iload_n 2, 1) := by decide +kernel
theorem dX8_costOfLaid_43 : decode cX8_costOfLaid 43 = .ok (.aload_n 0, 1) := by decide +kernel
theorem dX8_costOfLaid_44 : decode cX8_costOfLaid 44 = .ok (.getfield 28, 3) := by decide +kernel
theorem dX8_costOfLaid_47 : decode cX8_costOfLaid 47 = .ok (.getfield 364, 3) := by decide +kernel
theorem dX8_costOfLaid_50 : decode cX8_costOfLaid 50 = .ok (.invokevirtual 367, 3) := by decide +kernel
theorem dX8_costOfLaid_53 : decode cX8_costOfLaid 53 = .ok (.iadd, 1) := by decide +kernel
theorem dX8_costOfLaid_54 : decode cX8_costOfLaid 54 = .ok (.iadd, 1) := by decide +kernel
theorem dX8_costOfLaid_55 : decode cX8_costOfLaid 55 = .ok (.istore_n 1, 1) := by decide +kernel
theorem dX8_costOfLaid_56 : decode cX8_costOfLaid 56 = .ok (.aload_n 0, 1) := by decide +kernel
theorem dX8_costOfLaid_57 : decode cX8_costOfLaid 57 = .ok (.getfield 28, 3) := by decide +kernel
theorem dX8_costOfLaid_60 : decode cX8_costOfLaid 60 = .ok (.getfield 364, 3) := by decide +kernel
theorem dX8_costOfLaid_63 : decode cX8_costOfLaid 63 = .ok (.istore_n 2, 1) := by decide +kernel
theorem dX8_costOfLaid_64 : decode cX8_costOfLaid 64 = .ok (.iinc 3 1, 3) := by decide +kernel
theorem dX8_costOfLaid_67 : decode cX8_costOfLaid 67 = .ok (.goto (-61), 3) := by decide +kernel
theorem dX8_costOfLaid_70 : decode cX8_costOfLaid 70 = .ok (.iload_n 1, 1) := by decide +kernel
theorem dX8_costOfLaid_71 : decode cX8_costOfLaid 71 = .ok (.ireturn, 1) := by decide +kernel
abbrev rm_X8_costOfLaid : Room := { frames := 3, cells := 0, slots := 0, locals := 71 }
def f_X8_costOfLaid_L6  (x0 : Nat) (rec6 : Int32 × Int32 × Int32 × Sg → Option (Int32 × Sg)) (s : Int32 × Int32 × Int32 × Sg) : Option (Int32 × Sg) := (if (gI (s.2.2.2) (gR (s.2.2.2) x0 1) 7) ≤ (s.2.2.1) then some ((s.1), (s.2.2.2)) else bd (f_X0_look (gR (s.2.2.2) x0 2) (s.2.2.1) (gR (s.2.2.2) x0 10) (0 : Int32) (s.2.2.2)) fun _ s4 => bd (f_X0_charge (gR s4 x0 2) s4) fun r7 s6 => bd (f_X1_chargeOfShift (gR s6 x0 0) (s.2.1) (gI s6 (gR s6 x0 2) 2) s6) fun r11 s10 => lB (((s.1) + (r7 + r11))) fun v12 => lB ((gI s10 (gR s10 x0 2) 2)) fun v14 => lB ((s.2.2.1) + (1 : Int32)) fun v15 => rec6 (v12, v14, v15, s10))
def f_X8_costOfLaid (x0 : Nat) (σ : Sg) : Option (Int32 × Sg) := fx (f_X8_costOfLaid_L6 x0) FU ((0 : Int32), (0 : Int32), (0 : Int32), σ)
theorem t_X8_costOfLaid_L6 {K : Cx} (h : Ok K cX8_costOfLaid RX8 4 rm_X8_costOfLaid (some .int)) (hs : kiv K = St) (x0 : Nat)  (hk0 : kd x0 8) (rec6 : Int32 × Int32 × Int32 × Sg → Option (Int32 × Sg)) (hr6 : ∀ u, T K (QI K) 6 [(0, .ref x0), (1, .int (u.1)), (2, .int (u.2.1)), (3, .int (u.2.2.1))] [] 0 0 (u.2.2.2) (rec6 u)) (s : Int32 × Int32 × Int32 × Sg) : T K (QI K) 6 [(0, .ref x0), (1, .int (s.1)), (2, .int (s.2.1)), (3, .int (s.2.2.1))] [] 0 0 (s.2.2.2) (f_X8_costOfLaid_L6 x0 rec6 s) := by
  unfold f_X8_costOfLaid_L6
  refine T_iload_n (pc := 6) h dX8_costOfLaid_6 rfl 3 rfl ?_
  refine T_aload_n (pc := 7) h dX8_costOfLaid_7 rfl 0 rfl ?_
  refine T_gR (pc := 8) h hs hk0 fl_X8_19 rfl fk_8_1 dX8_costOfLaid_8 (fun hq1 => ?_)
  refine T_getI (pc := 11) h hs hq1 fl_X8_294 rfl dX8_costOfLaid_11 ?_
  refine T_icmp_ge (pc := 14) (tgt := 70) h dX8_costOfLaid_14 (by decide) ?_ ?_
  · refine T_iload_n (pc := 70) h dX8_costOfLaid_70 rfl 1 rfl ?_
    exact T_ireturn (pc := 71) h (Nat.zero_le _) (Nat.zero_le _) dX8_costOfLaid_71
  · refine T_aload_n (pc := 17) h dX8_costOfLaid_17 rfl 0 rfl ?_
    refine T_gR (pc := 18) h hs hk0 fl_X8_28 rfl fk_8_2 dX8_costOfLaid_18 (fun hq2 => ?_)
    refine T_iload_n (pc := 21) h dX8_costOfLaid_21 rfl 3 rfl ?_
    refine T_aload_n (pc := 22) h dX8_costOfLaid_22 rfl 0 rfl ?_
    refine T_gR (pc := 23) h hs hk0 fl_X8_77 rfl fk_8_10 dX8_costOfLaid_23 (fun hq3 => ?_)
    refine T_iconst (pc := 26) h dX8_costOfLaid_26 ki_0 ?_
    refine T_callVv (pc := 27) h (M_X0_look (kl K) hs (gR (s.2.2.2) x0 2) (s.2.2.1) (gR (s.2.2.2) x0 10) (0 : Int32) (s.2.2.2) hq2 hq3) mv_X0_look hs hq2 ml_X8_356 rfl ⟨Nat.le_of_ble_eq_true rfl, Nat.le_of_ble_eq_true rfl⟩ ⟨Nat.le_refl 0, Nat.le_refl 0⟩ (Nat.le_of_ble_eq_true rfl) dX8_costOfLaid_27 rfl (fun _ s4 => ?_)
    refine T_iload_n (pc := 30) h dX8_costOfLaid_30 rfl 1 rfl ?_
    refine T_aload_n (pc := 31) h dX8_costOfLaid_31 rfl 0 rfl ?_
    refine T_gR (pc := 32) h hs hk0 fl_X8_28 rfl fk_8_2 dX8_costOfLaid_32 (fun hq5 => ?_)
    refine T_callVi (pc := 35) h (M_X0_charge (kl K) hs (gR s4 x0 2) s4 hq5) mv_X0_charge hs hq5 ml_X8_361 rfl ⟨Nat.le_of_ble_eq_true rfl, Nat.le_of_ble_eq_true rfl⟩ ⟨Nat.le_refl 0, Nat.le_refl 0⟩ (Nat.le_of_ble_eq_true rfl) dX8_costOfLaid_35 rfl (fun r7 s6 => ?_)
    refine T_aload_n (pc := 38) h dX8_costOfLaid_38 rfl 0 rfl ?_
    refine T_gR (pc := 39) h hs hk0 fl_X8_10 rfl fk_8_0 dX8_costOfLaid_39 (fun hq8 => ?_)
    refine T_iload_n (pc := 42) h dX8_costOfLaid_42 rfl 2 rfl ?_
    refine T_aload_n (pc := 43) h dX8_costOfLaid_43 rfl 0 rfl ?_
    refine T_gR (pc := 44) h hs hk0 fl_X8_28 rfl fk_8_2 dX8_costOfLaid_44 (fun hq9 => ?_)
    refine T_getI (pc := 47) h hs hq9 fl_X8_364 rfl dX8_costOfLaid_47 ?_
    refine T_callVi (pc := 50) h (M_X1_chargeOfShift (kl K) hs (gR s6 x0 0) (s.2.1) (gI s6 (gR s6 x0 2) 2) s6 hq8) mv_X1_chargeOfShift hs hq8 ml_X8_367 rfl ⟨Nat.le_of_ble_eq_true rfl, Nat.le_of_ble_eq_true rfl⟩ ⟨Nat.le_refl 0, Nat.le_refl 0⟩ (Nat.le_of_ble_eq_true rfl) dX8_costOfLaid_50 rfl (fun r11 s10 => ?_)
    refine T_iadd (pc := 53) h dX8_costOfLaid_53 ?_
    refine T_iadd (pc := 54) h dX8_costOfLaid_54 ?_
    refine T_letI fun v12 => ?_
    refine T_istore_n (lv' := [(1, .int v12), (0, .ref x0), (2, .int (s.2.1)), (3, .int (s.2.2.1))]) (pc := 55) h dX8_costOfLaid_55 rfl (by decide) rfl ?_
    refine T_aload_n (pc := 56) h dX8_costOfLaid_56 rfl 1 rfl ?_
    refine T_gR (pc := 57) h hs hk0 fl_X8_28 rfl fk_8_2 dX8_costOfLaid_57 (fun hq13 => ?_)
    refine T_getI (pc := 60) h hs hq13 fl_X8_364 rfl dX8_costOfLaid_60 ?_
    refine T_letI fun v14 => ?_
    refine T_istore_n (lv' := [(2, .int v14), (1, .int v12), (0, .ref x0), (3, .int (s.2.2.1))]) (pc := 63) h dX8_costOfLaid_63 rfl (by decide) rfl ?_
    refine T_iinc (fl := fun v15 => [(3, .int v15), (2, .int v14), (1, .int v12), (0, .ref x0)]) (pc := 64) h dX8_costOfLaid_64 3 rfl ki_1 (by decide) (fun _ => rfl) (fun v15 => ?_)
    refine T_goto (pc := 67) (tgt := 6) h dX8_costOfLaid_67 (by decide) ?_
    refine T_sub [3, 2, 1, 0] rfl ?_
    exact hr6 (v12, v14, v15, s10)
theorem t_X8_costOfLaid {K : Cx} (h : Ok K cX8_costOfLaid RX8 4 rm_X8_costOfLaid (some .int)) (hs : kiv K = St) (x0 : Nat) (σ : Sg) (hk0 : kd x0 8) : T K (QI K) 0 [(0, .ref x0)] [] 0 0 σ (f_X8_costOfLaid x0 σ) := by
  unfold f_X8_costOfLaid
  refine T_iconst (pc := 0) h dX8_costOfLaid_0 ki_0 ?_
  refine T_istore_n (lv' := [(1, .int (0 : Int32)), (0, .ref x0)]) (pc := 1) h dX8_costOfLaid_1 rfl (by decide) rfl ?_
  refine T_iconst (pc := 2) h dX8_costOfLaid_2 ki_0 ?_
  refine T_istore_n (lv' := [(2, .int (0 : Int32)), (1, .int (0 : Int32)), (0, .ref x0)]) (pc := 3) h dX8_costOfLaid_3 rfl (by decide) rfl ?_
  refine T_iconst (pc := 4) h dX8_costOfLaid_4 ki_0 ?_
  refine T_istore_n (lv' := [(3, .int (0 : Int32)), (2, .int (0 : Int32)), (1, .int (0 : Int32)), (0, .ref x0)]) (pc := 5) h dX8_costOfLaid_5 rfl (by decide) rfl ?_
  refine T_sub [3, 2, 1, 0] rfl ?_
  exact T_fx (B := f_X8_costOfLaid_L6 x0) (fl := fun u => [(0, .ref x0), (1, .int (u.1)), (2, .int (u.2.1)), (3, .int (u.2.2.1))]) (f := fun u => (u.2.2.2)) (fun rec6 hr6 u => t_X8_costOfLaid_L6 h hs x0 hk0 rec6 hr6 u) FU ((0 : Int32), (0 : Int32), (0 : Int32), σ)
theorem M_X8_costOfLaid (l : Launch) {iv : Sg → Prop} (hi : iv = St) (x0 : Nat) (σ : Sg) (hk0 : kd x0 8) : CTi l yX8_costOfLaid cX8_costOfLaid 4 (some .int) rm_X8_costOfLaid iv [.ref x0] σ (f_X8_costOfLaid x0 σ) := by
  subst hi
  exact CT_of (by decide) (Nat.le_of_ble_eq_true rfl) (fun K _ h _ hs _ _ => t_X8_costOfLaid h hs x0 σ hk0)
