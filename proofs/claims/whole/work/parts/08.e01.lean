/-! LuteTabsModel.in(III)Z -/
theorem dX9_in_0 : decode cX9_in 0 = .ok (.iload_n 0, 1) := by decide +kernel
theorem dX9_in_1 : decode cX9_in 1 = .ok (.iload_n 1, 1) := by decide +kernel
theorem dX9_in_2 : decode cX9_in 2 = .ok (.if_icmp .lt 12, 3) := by decide +kernel
theorem dX9_in_5 : decode cX9_in 5 = .ok (.iload_n 0, 1) := by decide +kernel
theorem dX9_in_6 : decode cX9_in 6 = .ok (.iload_n 2, 1) := by decide +kernel
theorem dX9_in_7 : decode cX9_in 7 = .ok (.if_icmp .gt 7, 3) := by decide +kernel
theorem dX9_in_10 : decode cX9_in 10 = .ok (.iconst 1, 1) := by decide +kernel
theorem dX9_in_11 : decode cX9_in 11 = .ok (.goto 4, 3) := by decide +kernel
theorem dX9_in_14 : decode cX9_in 14 = .ok (.iconst 0, 1) := by decide +kernel
theorem dX9_in_15 : decode cX9_in 15 = .ok (.ireturn, 1) := by decide +kernel
abbrev rm_X9_in : Room := { frames := 0, cells := 0, slots := 0, locals := 0 }
def f_X9_in_L15   (y0 : Int32) (σ : Sg) : Option (Int32 × Sg) := ck (b01 y0) (some (y0, σ))
def f_X9_in_L14    (σ : Sg) : Option (Int32 × Sg) := f_X9_in_L15 (0 : Int32) σ
def f_X9_in (x0 : Int32) (x1 : Int32) (x2 : Int32) (σ : Sg) : Option (Int32 × Sg) := (if x0 < x1 then f_X9_in_L14 σ else (if x2 < x0 then f_X9_in_L14 σ else f_X9_in_L15 (1 : Int32) σ))
theorem t_X9_in_L15 {K : Cx} (h : Ok K cX9_in RX9 3 rm_X9_in (some .boolean)) (hs : kiv K = St)  (y0 : Int32) (σ : Sg)    : T K (QI K) 15 [] [.int y0] 0 0 σ (f_X9_in_L15 y0 σ) := by
  unfold f_X9_in_L15
  exact T_zreturn (pc := 15) h (Nat.zero_le _) (Nat.zero_le _) dX9_in_15
theorem t_X9_in_L14 {K : Cx} (h : Ok K cX9_in RX9 3 rm_X9_in (some .boolean)) (hs : kiv K = St)   (σ : Sg)    : T K (QI K) 14 [] [] 0 0 σ (f_X9_in_L14 σ) := by
  unfold f_X9_in_L14
  refine T_iconst (pc := 14) h dX9_in_14 ki_0 ?_
  refine T_sub [] rfl ?_
  exact t_X9_in_L15 h hs (0 : Int32) σ
theorem t_X9_in {K : Cx} (h : Ok K cX9_in RX9 3 rm_X9_in (some .boolean)) (hs : kiv K = St) (x0 : Int32) (x1 : Int32) (x2 : Int32) (σ : Sg)  : T K (QI K) 0 [(0, .int x0), (1, .int x1), (2, .int x2)] [] 0 0 σ (f_X9_in x0 x1 x2 σ) := by
  unfold f_X9_in
  refine T_iload_n (pc := 0) h dX9_in_0 rfl 0 rfl ?_
  refine T_iload_n (pc := 1) h dX9_in_1 rfl 1 rfl ?_
  refine T_icmp_lt (pc := 2) (tgt := 14) h dX9_in_2 (by decide) ?_ ?_
  · refine T_sub [] rfl ?_
    exact t_X9_in_L14 h hs σ
  · refine T_iload_n (pc := 5) h dX9_in_5 rfl 0 rfl ?_
    refine T_iload_n (pc := 6) h dX9_in_6 rfl 2 rfl ?_
    refine T_icmp_gt (pc := 7) (tgt := 14) h dX9_in_7 (by decide) ?_ ?_
    · refine T_sub [] rfl ?_
      exact t_X9_in_L14 h hs σ
    · refine T_iconst (pc := 10) h dX9_in_10 ki_1 ?_
      refine T_goto (pc := 11) (tgt := 15) h dX9_in_11 (by decide) ?_
      refine T_sub [] rfl ?_
      exact t_X9_in_L15 h hs (1 : Int32) σ
theorem M_X9_in (l : Launch) {iv : Sg → Prop} (hi : iv = St) (x0 : Int32) (x1 : Int32) (x2 : Int32) (σ : Sg)  : CTi l yX9_in cX9_in 3 (some .boolean) rm_X9_in iv [.int x0, .int x1, .int x2] σ (f_X9_in x0 x1 x2 σ) := by
  subst hi
  exact CT_of (by decide) (Nat.le_of_ble_eq_true rfl) (fun K _ h _ hs _ _ => t_X9_in h hs x0 x1 x2 σ )
/-! LuteTabsModel.no(I)J -/
theorem dX9_no_0 : decode cX9_no 0 = .ok (.ldc2_w 109, 3) := by decide +kernel
theorem dX9_no_3 : decode cX9_no 3 = .ok (.iload_n 0, 1) := by decide +kernel
theorem dX9_no_4 : decode cX9_no 4 = .ok (.i2l, 1) := by decide +kernel
theorem dX9_no_5 : decode cX9_no 5 = .ok (.lsub, 1) := by decide +kernel
theorem dX9_no_6 : decode cX9_no 6 = .ok (.lreturn, 1) := by decide +kernel
abbrev rm_X9_no : Room := { frames := 0, cells := 0, slots := 0, locals := 0 }
def f_X9_no (x0 : Int32) (σ : Sg) : Option (Int64 × Sg) := some (((-9223372036854775808 : Int64) - x0.toInt64), σ)
theorem t_X9_no {K : Cx} (h : Ok K cX9_no RX9 1 rm_X9_no (some .long)) (hs : kiv K = St) (x0 : Int32) (σ : Sg)  : T K (QL K) 0 [(0, .int x0)] [] 0 0 σ (f_X9_no x0 σ) := by
  unfold f_X9_no
  refine T_ldc2 (pc := 0) h kc_X9_109 dX9_no_0 ?_
  refine T_iload_n (pc := 3) h dX9_no_3 rfl 0 rfl ?_
  refine T_i2l (pc := 4) h dX9_no_4 ?_
  refine T_lsub (pc := 5) h dX9_no_5 ?_
  exact T_lreturn (pc := 6) h (Nat.zero_le _) (Nat.zero_le _) dX9_no_6
theorem M_X9_no (l : Launch) {iv : Sg → Prop} (hi : iv = St) (x0 : Int32) (σ : Sg)  : CTl l yX9_no cX9_no 1 (some .long) rm_X9_no iv [.int x0] σ (f_X9_no x0 σ) := by
  subst hi
  exact CT_of (by decide) (Nat.le_of_ble_eq_true rfl) (fun K _ h _ hs _ _ => t_X9_no h hs x0 σ )
/-! LuteTabsModel.forgets()V -/
theorem dX9_forgets_0 : decode cX9_forgets 0 = .ok (.aload_n 0, 1) := by decide +kernel
theorem dX9_forgets_1 : decode cX9_forgets 1 = .ok (.iconst 0, 1) := by decide +kernel
theorem dX9_forgets_2 : decode cX9_forgets 2 = .ok (.putfield 111, 3) := by decide +kernel
theorem dX9_forgets_5 : decode cX9_forgets 5 = .ok (.iconst 0, 1) := by decide +kernel
theorem dX9_forgets_6 : decode cX9_forgets 6 = .ok (.istore_n 1, 1) := by decide +kernel
theorem dX9_forgets_7 : decode cX9_forgets 7 = .ok (.iload_n 1, 1) := by decide +kernel
theorem dX9_forgets_8 : decode cX9_forgets 8 = .ok (.iconst 4, 1) := by decide +kernel
theorem dX9_forgets_9 : decode cX9_forgets 9 = .ok (.if_icmp .ge 16, 3) := by decide +kernel
theorem dX9_forgets_12 : decode cX9_forgets 12 = .ok (.aload_n 0, 1) := by decide +kernel
theorem dX9_forgets_13 : decode cX9_forgets 13 = .ok (.getfield 47, 3) := by decide +kernel
theorem dX9_forgets_16 : decode cX9_forgets 16 = .ok (.iload_n 1, 1) := by decide +kernel
theorem dX9_forgets_17 : decode cX9_forgets 17 = .ok (.iconst 0, 1) := by decide +kernel
theorem dX9_forgets_18 : decode cX9_forgets 18 = .ok (.bastore, 1) := by decide +kernel
theorem dX9_forgets_19 : decode cX9_forgets 19 = .ok (.iinc 1 1, 3) := by decide +kernel
theorem dX9_forgets_22 : decode cX9_forgets 22 = .ok (.goto (-15), 3) := by decide +kernel
theorem dX9_forgets_25 : decode cX9_forgets 25 = .ok (.return_, 1) := by decide +kernel
abbrev rm_X9_forgets : Room := { frames := 0, cells := 0, slots := 0, locals := 0 }
def f_X9_forgets_L7  (x0 : Nat) (rec7 : Int32 × Sg → Option (Unit × Sg)) (s : Int32 × Sg) : Option (Unit × Sg) := (if (4 : Int32) ≤ (s.1) then some ((), (s.2)) else ck (inb (s.1) (aL (gR (s.2) x0 14))) (ck (b01 (0 : Int32)) (lB (pI (s.2) (gR (s.2) x0 14) (s.1).toNatClampNeg (0 : Int32)) fun s2 => lB ((s.1) + (1 : Int32)) fun v3 => rec7 (v3, s2))))
def f_X9_forgets (x0 : Nat) (σ : Sg) : Option (Unit × Sg) := ck (b01 (0 : Int32)) (lB (pI σ x0 12 (0 : Int32)) fun s1 => fx (f_X9_forgets_L7 x0) FU ((0 : Int32), s1))
theorem t_X9_forgets_L7 {K : Cx} (h : Ok K cX9_forgets RX9 2 rm_X9_forgets none) (hs : kiv K = St) (x0 : Nat)  (hk0 : kd x0 9) (rec7 : Int32 × Sg → Option (Unit × Sg)) (hr7 : ∀ u, T K (QV K) 7 [(0, .ref x0), (1, .int (u.1))] [] 0 0 (u.2) (rec7 u)) (s : Int32 × Sg) : T K (QV K) 7 [(0, .ref x0), (1, .int (s.1))] [] 0 0 (s.2) (f_X9_forgets_L7 x0 rec7 s) := by
  unfold f_X9_forgets_L7
  refine T_iload_n (pc := 7) h dX9_forgets_7 rfl 1 rfl ?_
  refine T_iconst (pc := 8) h dX9_forgets_8 ki_4 ?_
  refine T_icmp_ge (pc := 9) (tgt := 25) h dX9_forgets_9 (by decide) ?_ ?_
  · exact T_return (pc := 25) h (Nat.zero_le _) (Nat.zero_le _) dX9_forgets_25
  · refine T_aload_n (pc := 12) h dX9_forgets_12 rfl 0 rfl ?_
    refine T_gR (pc := 13) h hs hk0 fl_X9_47 rfl fk_9_14 dX9_forgets_13 (fun hq1 => ?_)
    refine T_iload_n (pc := 16) h dX9_forgets_16 rfl 1 rfl ?_
    refine T_iconst (pc := 17) h dX9_forgets_17 ki_0 ?_
    refine T_zast (pc := 18) h hs hq1 dX9_forgets_18 ?_
    refine T_letS fun s2 => ?_
    refine T_iinc (fl := fun v3 => [(1, .int v3), (0, .ref x0)]) (pc := 19) h dX9_forgets_19 1 rfl ki_1 (by decide) (fun _ => rfl) (fun v3 => ?_)
    refine T_goto (pc := 22) (tgt := 7) h dX9_forgets_22 (by decide) ?_
    refine T_sub [1, 0] rfl ?_
    exact hr7 (v3, s2)
theorem t_X9_forgets {K : Cx} (h : Ok K cX9_forgets RX9 2 rm_X9_forgets none) (hs : kiv K = St) (x0 : Nat) (σ : Sg) (hk0 : kd x0 9) : T K (QV K) 0 [(0, .ref x0)] [] 0 0 σ (f_X9_forgets x0 σ) := by
  unfold f_X9_forgets
  refine T_aload_n (pc := 0) h dX9_forgets_0 rfl 0 rfl ?_
  refine T_iconst (pc := 1) h dX9_forgets_1 ki_0 ?_
  refine T_putZ (pc := 2) h hs hk0 fl_X9_111 rfl rfl dX9_forgets_2 ?_
  refine T_letS fun s1 => ?_
  refine T_iconst (pc := 5) h dX9_forgets_5 ki_0 ?_
  refine T_istore_n (lv' := [(1, .int (0 : Int32)), (0, .ref x0)]) (pc := 6) h dX9_forgets_6 rfl (by decide) rfl ?_
  refine T_sub [1, 0] rfl ?_
  exact T_fx (B := f_X9_forgets_L7 x0) (fl := fun u => [(0, .ref x0), (1, .int (u.1))]) (f := fun u => (u.2)) (fun rec7 hr7 u => t_X9_forgets_L7 h hs x0 hk0 rec7 hr7 u) FU ((0 : Int32), s1)
theorem M_X9_forgets (l : Launch) {iv : Sg → Prop} (hi : iv = St) (x0 : Nat) (σ : Sg) (hk0 : kd x0 9) : CTv l yX9_forgets cX9_forgets 2 none rm_X9_forgets iv [.ref x0] σ (f_X9_forgets x0 σ) := by
  subst hi
  exact CT_of (by decide) (Nat.le_of_ble_eq_true rfl) (fun K _ h _ hs _ _ => t_X9_forgets h hs x0 σ hk0)
/-! LuteTabsModel.courses(I)I -/
theorem dX9_courses_0 : decode cX9_courses 0 = .ok (.iload_n 1, 1) := by decide +kernel
theorem dX9_courses_1 : decode cX9_courses 1 = .ok (.iconst 2, 1) := by decide +kernel
theorem dX9_courses_2 : decode cX9_courses 2 = .ok (.iconst 5, 1) := by decide +kernel
theorem dX9_courses_3 : decode cX9_courses 3 = .ok (.invokestatic 115, 3) := by decide +kernel
theorem dX9_courses_6 : decode cX9_courses 6 = .ok (.ifCond .ne 6, 3) := by decide +kernel
theorem dX9_courses_9 : decode cX9_courses 9 = .ok (.bipush (-2), 2) := by decide +kernel
theorem dX9_courses_11 : decode cX9_courses 11 = .ok (.ireturn, 1) := by decide +kernel
theorem dX9_courses_12 : decode cX9_courses 12 = .ok (.aload_n 0, 1) := by decide +kernel
theorem dX9_courses_13 : decode cX9_courses 13 = .ok (.getfield 7, 3) := by decide +kernel
theorem dX9_courses_16 : decode cX9_courses 16 = .ok (.istore_n 2, 1) := by decide +kernel
theorem dX9_courses_17 : decode cX9_courses 17 = .ok (.aload_n 0, 1) := by decide +kernel
theorem dX9_courses_18 : decode cX9_courses 18 = .ok (.iload_n 1, 1) := by decide +kernel
theorem dX9_courses_19 : decode cX9_courses 19 = .ok (.putfield 7, 3) := by decide +kernel
theorem dX9_courses_22 : decode cX9_courses 22 = .ok (.aload_n 0, 1) := by decide +kernel
theorem dX9_courses_23 : decode cX9_courses 23 = .ok (.invokevirtual 119, 3) := by decide +kernel
theorem dX9_courses_26 : decode cX9_courses 26 = .ok (.iload_n 2, 1) := by decide +kernel
theorem dX9_courses_27 : decode cX9_courses 27 = .ok (.ireturn, 1) := by decide +kernel
abbrev rm_X9_courses : Room := { frames := 1, cells := 0, slots := 0, locals := 22 }
def f_X9_courses (x0 : Nat) (x1 : Int32) (σ : Sg) : Option (Int32 × Sg) := bd (f_X9_in x1 (2 : Int32) (5 : Int32) σ) fun r2 s1 => (if r2 = 0 then some ((-2 : Int32), s1) else lB ((gI s1 x0 0)) fun v3 => lB (pI s1 x0 0 x1) fun s4 => bd (f_X9_forgets x0 s4) fun _ s5 => some (v3, s5))
theorem t_X9_courses {K : Cx} (h : Ok K cX9_courses RX9 3 rm_X9_courses (some .int)) (hs : kiv K = St) (x0 : Nat) (x1 : Int32) (σ : Sg) (hk0 : kd x0 9) : T K (QI K) 0 [(0, .ref x0), (1, .int x1)] [] 0 0 σ (f_X9_courses x0 x1 σ) := by
  unfold f_X9_courses
  refine T_iload_n (pc := 0) h dX9_courses_0 rfl 1 rfl ?_
  refine T_iconst (pc := 1) h dX9_courses_1 ki_2 ?_
  refine T_iconst (pc := 2) h dX9_courses_2 ki_5 ?_
  refine T_callSi (pc := 3) h (M_X9_in (kl K) hs x1 (2 : Int32) (5 : Int32) σ ) mst_X9_in ml_X9_115 rfl ⟨Nat.le_of_ble_eq_true rfl, Nat.le_of_ble_eq_true rfl⟩ ⟨Nat.le_refl 0, Nat.le_refl 0⟩ (Nat.le_of_ble_eq_true rfl) dX9_courses_3 rfl (fun r2 s1 => ?_)
  refine T_if_ne (pc := 6) (tgt := 12) h dX9_courses_6 (by decide) ?_ ?_
  · refine T_aload_n (pc := 12) h dX9_courses_12 rfl 0 rfl ?_
    refine T_getI (pc := 13) h hs hk0 fl_X9_7 rfl dX9_courses_13 ?_
    refine T_letI fun v3 => ?_
    refine T_istore_n (lv' := [(2, .int v3), (0, .ref x0), (1, .int x1)]) (pc := 16) h dX9_courses_16 rfl (by decide) rfl ?_
    refine T_aload_n (pc := 17) h dX9_courses_17 rfl 1 rfl ?_
    refine T_iload_n (pc := 18) h dX9_courses_18 rfl 2 rfl ?_
    refine T_putI (pc := 19) h hs hk0 fl_X9_7 rfl rfl dX9_courses_19 ?_
    refine T_letS fun s4 => ?_
    refine T_aload_n (pc := 22) h dX9_courses_22 rfl 1 rfl ?_
    refine T_callVv (pc := 23) h (M_X9_forgets (kl K) hs x0 s4 hk0) mv_X9_forgets hs hk0 ml_X9_119 rfl ⟨Nat.le_of_ble_eq_true rfl, Nat.le_of_ble_eq_true rfl⟩ ⟨Nat.le_refl 0, Nat.le_refl 0⟩ (Nat.le_of_ble_eq_true rfl) dX9_courses_23 rfl (fun _ s5 => ?_)
    refine T_iload_n (pc := 26) h dX9_courses_26 rfl 0 rfl ?_
    exact T_ireturn (pc := 27) h (Nat.zero_le _) (Nat.zero_le _) dX9_courses_27
  · refine T_bipush (pc := 9) h dX9_courses_9 kb_m2 ?_
    exact T_ireturn (pc := 11) h (Nat.zero_le _) (Nat.zero_le _) dX9_courses_11
theorem M_X9_courses (l : Launch) {iv : Sg → Prop} (hi : iv = St) (x0 : Nat) (x1 : Int32) (σ : Sg) (hk0 : kd x0 9) : CTi l yX9_courses cX9_courses 3 (some .int) rm_X9_courses iv [.ref x0, .int x1] σ (f_X9_courses x0 x1 σ) := by
  subst hi
  exact CT_of (by decide) (Nat.le_of_ble_eq_true rfl) (fun K _ h _ hs _ _ => t_X9_courses h hs x0 x1 σ hk0)
/-! LuteTabsModel.isCourse(I)Z -/
theorem dX9_isCourse_0 : decode cX9_isCourse 0 = .ok (.iload_n 1, 1) := by decide +kernel
theorem dX9_isCourse_1 : decode cX9_isCourse 1 = .ok (.iconst 0, 1) := by decide +kernel
theorem dX9_isCourse_2 : decode cX9_isCourse 2 = .ok (.aload_n 0, 1) := by decide +kernel
theorem dX9_isCourse_3 : decode cX9_isCourse 3 = .ok (.getfield 7, 3) := by decide +kernel
theorem dX9_isCourse_6 : decode cX9_isCourse 6 = .ok (.iconst 1, 1) := by decide +kernel
theorem dX9_isCourse_7 : decode cX9_isCourse 7 = .ok (.isub, 1) := by decide +kernel
theorem dX9_isCourse_8 : decode cX9_isCourse 8 = .ok (.invokestatic 115, 3) := by decide +kernel
theorem dX9_isCourse_11 : decode cX9_isCourse 11 = .ok (.ireturn, 1) := by decide +kernel
abbrev rm_X9_isCourse : Room := { frames := 1, cells := 0, slots := 0, locals := 22 }
def f_X9_isCourse (x0 : Nat) (x1 : Int32) (σ : Sg) : Option (Int32 × Sg) := bd (f_X9_in x1 (0 : Int32) ((gI σ x0 0) - (1 : Int32)) σ) fun r2 s1 => ck (b01 r2) (some (r2, s1))
theorem t_X9_isCourse {K : Cx} (h : Ok K cX9_isCourse RX9 2 rm_X9_isCourse (some .boolean)) (hs : kiv K = St) (x0 : Nat) (x1 : Int32) (σ : Sg) (hk0 : kd x0 9) : T K (QI K) 0 [(0, .ref x0), (1, .int x1)] [] 0 0 σ (f_X9_isCourse x0 x1 σ) := by
  unfold f_X9_isCourse
  refine T_iload_n (pc := 0) h dX9_isCourse_0 rfl 1 rfl ?_
  refine T_iconst (pc := 1) h dX9_isCourse_1 ki_0 ?_
  refine T_aload_n (pc := 2) h dX9_isCourse_2 rfl 0 rfl ?_
  refine T_getI (pc := 3) h hs hk0 fl_X9_7 rfl dX9_isCourse_3 ?_
  refine T_iconst (pc := 6) h dX9_isCourse_6 ki_1 ?_
  refine T_isub (pc := 7) h dX9_isCourse_7 ?_
  refine T_callSi (pc := 8) h (M_X9_in (kl K) hs x1 (0 : Int32) ((gI σ x0 0) - (1 : Int32)) σ ) mst_X9_in ml_X9_115 rfl ⟨Nat.le_of_ble_eq_true rfl, Nat.le_of_ble_eq_true rfl⟩ ⟨Nat.le_refl 0, Nat.le_refl 0⟩ (Nat.le_of_ble_eq_true rfl) dX9_isCourse_8 rfl (fun r2 s1 => ?_)
  exact T_zreturn (pc := 11) h (Nat.zero_le _) (Nat.zero_le _) dX9_isCourse_11
theorem M_X9_isCourse (l : Launch) {iv : Sg → Prop} (hi : iv = St) (x0 : Nat) (x1 : Int32) (σ : Sg) (hk0 : kd x0 9) : CTi l yX9_isCourse cX9_isCourse 2 (some .boolean) rm_X9_isCourse iv [.ref x0, .int x1] σ (f_X9_isCourse x0 x1 σ) := by
  subst hi
  exact CT_of (by decide) (Nat.le_of_ble_eq_true rfl) (fun K _ h _ hs _ _ => t_X9_isCourse h hs x0 x1 σ hk0)
/-! LuteTabsModel.tune(II)I -/
theorem dX9_tune_0 : decode cX9_tune 0 = .ok (.aload_n 0, 1) := by decide +kernel
theorem dX9_tune_1 : decode cX9_tune 1 = .ok (.iload_n 1, 1) := by decide +kernel
theorem dX9_tune_2 : decode cX9_tune 2 = .ok (.invokevirtual 122, 3) := by decide +kernel
theorem dX9_tune_5 : decode cX9_tune 5 = .ok (.ifCond .eq 13, 3) := by decide +kernel
theorem dX9_tune_8 : decode cX9_tune 8 = .ok (.iload_n 2, 1) := by decide +kernel
theorem dX9_tune_9 : decode cX9_tune 9 = .ok (.iconst 0, 1) := by decide +kernel
theorem dX9_tune_10 : decode cX9_tune 10 = .ok (.bipush 60, 2) := by decide +kernel
theorem dX9_tune_12 : decode cX9_tune 12 = .ok (.invokestatic 115, 3) := by decide +kernel
theorem dX9_tune_15 : decode cX9_tune 15 = .ok (.ifCond .ne 6, 3) := by decide +kernel
theorem dX9_tune_18 : decode cX9_tune 18 = .ok (.bipush (-2), 2) := by decide +kernel
theorem dX9_tune_20 : decode cX9_tune 20 = .ok (.ireturn, 1) := by decide +kernel
theorem dX9_tune_21 : decode cX9_tune 21 = .ok (.aload_n 0, 1) := by decide +kernel
theorem dX9_tune_22 : decode cX9_tune 22 = .ok (.getfield 13, 3) := by decide +kernel
theorem dX9_tune_25 : decode cX9_tune 25 = .ok (.iload_n 1, 1) := by decide +kernel
theorem dX9_tune_26 : decode cX9_tune 26 = .ok (.iaload, 1) := by decide +kernel
theorem dX9_tune_27 : decode cX9_tune 27 = .ok (.istore_n 3, 1) := by decide +kernel
theorem dX9_tune_28 : decode cX9_tune 28 = .ok (.aload_n 0, 1) := by decide +kernel
theorem dX9_tune_29 : decode cX9_tune 29 = .ok (.getfield 13, 3) := by decide +kernel
theorem dX9_tune_32 : decode cX9_tune 32 = .ok (.iload_n 1, 1) := by decide +kernel
theorem dX9_tune_33 : decode cX9_tune 33 = .ok (.iload_n 2, 1) := by decide +kernel
theorem dX9_tune_34 : decode cX9_tune 34 = .ok (.iastore, 1) := by decide +kernel
theorem dX9_tune_35 : decode cX9_tune 35 = .ok (.aload_n 0, 1) := by decide +kernel
theorem dX9_tune_36 : decode cX9_tune 36 = .ok (.invokevirtual 119, 3) := by decide +kernel
theorem dX9_tune_39 : decode cX9_tune 39 = .ok (.iload_n 3, 1) := by decide +kernel
theorem dX9_tune_40 : decode cX9_tune 40 = .ok (.ireturn, 1) := by decide +kernel
abbrev rm_X9_tune : Room := { frames := 2, cells := 0, slots := 0, locals := 43 }
def f_X9_tune_L18    (σ : Sg) : Option (Int32 × Sg) := some ((-2 : Int32), σ)
def f_X9_tune (x0 : Nat) (x1 : Int32) (x2 : Int32) (σ : Sg) : Option (Int32 × Sg) := bd (f_X9_isCourse x0 x1 σ) fun r2 s1 => (if r2 = 0 then f_X9_tune_L18 s1 else bd (f_X9_in x2 (0 : Int32) (60 : Int32) s1) fun r4 s3 => (if r4 = 0 then f_X9_tune_L18 s3 else ck (inb x1 (aL (gR s3 x0 1))) (lB ((gI s3 (gR s3 x0 1) x1.toNatClampNeg)) fun v6 => ck (inb x1 (aL (gR s3 x0 1))) (lB (pI s3 (gR s3 x0 1) x1.toNatClampNeg x2) fun s8 => bd (f_X9_forgets x0 s8) fun _ s9 => some (v6, s9)))))
theorem t_X9_tune_L18 {K : Cx} (h : Ok K cX9_tune RX9 4 rm_X9_tune (some .int)) (hs : kiv K = St)   (σ : Sg)    : T K (QI K) 18 [] [] 0 0 σ (f_X9_tune_L18 σ) := by
  unfold f_X9_tune_L18
  refine T_bipush (pc := 18) h dX9_tune_18 kb_m2 ?_
  exact T_ireturn (pc := 20) h (Nat.zero_le _) (Nat.zero_le _) dX9_tune_20
theorem t_X9_tune {K : Cx} (h : Ok K cX9_tune RX9 4 rm_X9_tune (some .int)) (hs : kiv K = St) (x0 : Nat) (x1 : Int32) (x2 : Int32) (σ : Sg) (hk0 : kd x0 9) : T K (QI K) 0 [(0, .ref x0), (1, .int x1), (2, .int x2)] [] 0 0 σ (f_X9_tune x0 x1 x2 σ) := by
  unfold f_X9_tune
  refine T_aload_n (pc := 0) h dX9_tune_0 rfl 0 rfl ?_
  refine T_iload_n (pc := 1) h dX9_tune_1 rfl 1 rfl ?_
  refine T_callVi (pc := 2) h (M_X9_isCourse (kl K) hs x0 x1 σ hk0) mv_X9_isCourse hs hk0 ml_X9_122 rfl ⟨Nat.le_of_ble_eq_true rfl, Nat.le_of_ble_eq_true rfl⟩ ⟨Nat.le_refl 0, Nat.le_refl 0⟩ (Nat.le_of_ble_eq_true rfl) dX9_tune_2 rfl (fun r2 s1 => ?_)
  refine T_if_eq (pc := 5) (tgt := 18) h dX9_tune_5 (by decide) ?_ ?_
  · refine T_sub [] rfl ?_
    exact t_X9_tune_L18 h hs s1
  · refine T_iload_n (pc := 8) h dX9_tune_8 rfl 2 rfl ?_
    refine T_iconst (pc := 9) h dX9_tune_9 ki_0 ?_
    refine T_bipush (pc := 10) h dX9_tune_10 kb_60 ?_
    refine T_callSi (pc := 12) h (M_X9_in (kl K) hs x2 (0 : Int32) (60 : Int32) s1 ) mst_X9_in ml_X9_115 rfl ⟨Nat.le_of_ble_eq_true rfl, Nat.le_of_ble_eq_true rfl⟩ ⟨Nat.le_refl 0, Nat.le_refl 0⟩ (Nat.le_of_ble_eq_true rfl) dX9_tune_12 rfl (fun r4 s3 => ?_)
    refine T_if_ne (pc := 15) (tgt := 21) h dX9_tune_15 (by decide) ?_ ?_
    · refine T_aload_n (pc := 21) h dX9_tune_21 rfl 0 rfl ?_
      refine T_gR (pc := 22) h hs hk0 fl_X9_13 rfl fk_9_1 dX9_tune_22 (fun hq5 => ?_)
      refine T_iload_n (pc := 25) h dX9_tune_25 rfl 1 rfl ?_
      refine T_iald (pc := 26) h hs hq5 dX9_tune_26 ?_
      refine T_letI fun v6 => ?_
      refine T_istore_n (lv' := [(3, .int v6), (0, .ref x0), (1, .int x1), (2, .int x2)]) (pc := 27) h dX9_tune_27 rfl (by decide) rfl ?_
      refine T_aload_n (pc := 28) h dX9_tune_28 rfl 1 rfl ?_
      refine T_gR (pc := 29) h hs hk0 fl_X9_13 rfl fk_9_1 dX9_tune_29 (fun hq7 => ?_)
      refine T_iload_n (pc := 32) h dX9_tune_32 rfl 2 rfl ?_
      refine T_iload_n (pc := 33) h dX9_tune_33 rfl 3 rfl ?_
      refine T_iast (pc := 34) h hs hq7 dX9_tune_34 ?_
      refine T_letS fun s8 => ?_
      refine T_aload_n (pc := 35) h dX9_tune_35 rfl 1 rfl ?_
      refine T_callVv (pc := 36) h (M_X9_forgets (kl K) hs x0 s8 hk0) mv_X9_forgets hs hk0 ml_X9_119 rfl ⟨Nat.le_of_ble_eq_true rfl, Nat.le_of_ble_eq_true rfl⟩ ⟨Nat.le_refl 0, Nat.le_refl 0⟩ (Nat.le_of_ble_eq_true rfl) dX9_tune_36 rfl (fun _ s9 => ?_)
      refine T_iload_n (pc := 39) h dX9_tune_39 rfl 0 rfl ?_
      exact T_ireturn (pc := 40) h (Nat.zero_le _) (Nat.zero_le _) dX9_tune_40
    · refine T_sub [] rfl ?_
      exact t_X9_tune_L18 h hs s3
theorem M_X9_tune (l : Launch) {iv : Sg → Prop} (hi : iv = St) (x0 : Nat) (x1 : Int32) (x2 : Int32) (σ : Sg) (hk0 : kd x0 9) : CTi l yX9_tune cX9_tune 4 (some .int) rm_X9_tune iv [.ref x0, .int x1, .int x2] σ (f_X9_tune x0 x1 x2 σ) := by
  subst hi
  exact CT_of (by decide) (Nat.le_of_ble_eq_true rfl) (fun K _ h _ hs _ _ => t_X9_tune h hs x0 x1 x2 σ hk0)
/-! LuteTabsModel.settingOf(I)I -/
theorem dX9_settingOf_0 : decode cX9_settingOf 0 = .ok (.iload_n 1, 1) := by decide +kernel
theorem dX9_settingOf_1 : decode cX9_settingOf 1 = .ok (.ifCond .ne 10, 3) := by decide +kernel
theorem dX9_settingOf_4 : decode cX9_settingOf 4 = .ok (.aload_n 0, 1) := by decide +kernel
theorem dX9_settingOf_5 : decode cX9_settingOf 5 = .ok (.getfield 17, 3) := by decide +kernel
theorem dX9_settingOf_8 : decode cX9_settingOf 8 = .ok (.goto 43, 3) := by decide +kernel
theorem dX9_settingOf_11 : decode cX9_settingOf 11 = .ok (.iload_n 1, 1) := by decide +kernel
theorem dX9_settingOf_12 : decode cX9_settingOf 12 = .ok (.iconst 1, 1) := by decide +kernel
theorem dX9_settingOf_13 : decode cX9_settingOf 13 = .ok (.if_icmp .ne 10, 3) := by decide +kernel
theorem dX9_settingOf_16 : decode cX9_settingOf 16 = .ok (.aload_n 0, 1) := by decide +kernel
theorem dX9_settingOf_17 : decode cX9_settingOf 17 = .ok (.getfield 20, 3) := by decide +kernel
theorem dX9_settingOf_20 : decode cX9_settingOf 20 = .ok (.goto 31, 3) := by decide +kernel
theorem dX9_settingOf_23 : decode cX9_settingOf 23 = .ok (.iload_n 1, 1) := by decide +kernel
theorem dX9_settingOf_24 : decode cX9_settingOf 24 = .ok (.iconst 2, 1) := by decide +kernel
theorem dX9_settingOf_25 : decode cX9_settingOf 25 = .ok (.if_icmp .ne 10, 3) := by decide +kernel
theorem dX9_settingOf_28 : decode cX9_settingOf 28 = .ok (.aload_n 0, 1) := by decide +kernel
theorem dX9_settingOf_29 : decode cX9_settingOf 29 = .ok (.getfield 23, 3) := by decide +kernel
theorem dX9_settingOf_32 : decode cX9_settingOf 32 = .ok (.goto 19, 3) := by decide +kernel
theorem dX9_settingOf_35 : decode cX9_settingOf 35 = .ok (.iload_n 1, 1) := by decide +kernel
theorem dX9_settingOf_36 : decode cX9_settingOf 36 = .ok (.iconst 3, 1) := by decide +kernel
theorem dX9_settingOf_37 : decode cX9_settingOf 37 = .ok (.if_icmp .ne 10, 3) := by decide +kernel
theorem dX9_settingOf_40 : decode cX9_settingOf 40 = .ok (.aload_n 0, 1) := by decide +kernel
theorem dX9_settingOf_41 : decode cX9_settingOf 41 = .ok (.getfield 26, 3) := by decide +kernel
theorem dX9_settingOf_44 : decode cX9_settingOf 44 = .ok (.goto 7, 3) := by decide +kernel
theorem dX9_settingOf_47 : decode cX9_settingOf 47 = .ok (.aload_n 0, 1) := by decide +kernel
theorem dX9_settingOf_48 : decode cX9_settingOf 48 = .ok (.getfield 29, 3) := by decide +kernel
theorem dX9_settingOf_51 : decode cX9_settingOf 51 = .ok (.ireturn, 1) := by decide +kernel
abbrev rm_X9_settingOf : Room := { frames := 0, cells := 0, slots := 0, locals := 0 }
def f_X9_settingOf_L51   (y0 : Int32) (σ : Sg) : Option (Int32 × Sg) := some (y0, σ)
def f_X9_settingOf (x0 : Nat) (x1 : Int32) (σ : Sg) : Option (Int32 × Sg) := (if x1 = 0 then f_X9_settingOf_L51 (gI σ x0 2) σ else (if x1 = (1 : Int32) then f_X9_settingOf_L51 (gI σ x0 3) σ else (if x1 = (2 : Int32) then f_X9_settingOf_L51 (gI σ x0 4) σ else (if x1 = (3 : Int32) then f_X9_settingOf_L51 (gI σ x0 5) σ else f_X9_settingOf_L51 (gI σ x0 6) σ))))
theorem t_X9_settingOf_L51 {K : Cx} (h : Ok K cX9_settingOf RX9 2 rm_X9_settingOf (some .int)) (hs : kiv K = St)  (y0 : Int32) (σ : Sg)    : T K (QI K) 51 [] [.int y0] 0 0 σ (f_X9_settingOf_L51 y0 σ) := by
  unfold f_X9_settingOf_L51
  exact T_ireturn (pc := 51) h (Nat.zero_le _) (Nat.zero_le _) dX9_settingOf_51
theorem t_X9_settingOf {K : Cx} (h : Ok K cX9_settingOf RX9 2 rm_X9_settingOf (some .int)) (hs : kiv K = St) (x0 : Nat) (x1 : Int32) (σ : Sg) (hk0 : kd x0 9) : T K (QI K) 0 [(0, .ref x0), (1, .int x1)] [] 0 0 σ (f_X9_settingOf x0 x1 σ) := by
  unfold f_X9_settingOf
  refine T_iload_n (pc := 0) h dX9_settingOf_0 rfl 1 rfl ?_
  refine T_if_ne (pc := 1) (tgt := 11) h dX9_settingOf_1 (by decide) ?_ ?_
  · refine T_iload_n (pc := 11) h dX9_settingOf_11 rfl 1 rfl ?_
    refine T_iconst (pc := 12) h dX9_settingOf_12 ki_1 ?_
    refine T_icmp_ne (pc := 13) (tgt := 23) h dX9_settingOf_13 (by decide) ?_ ?_
    · refine T_iload_n (pc := 23) h dX9_settingOf_23 rfl 1 rfl ?_
      refine T_iconst (pc := 24) h dX9_settingOf_24 ki_2 ?_
      refine T_icmp_ne (pc := 25) (tgt := 35) h dX9_settingOf_25 (by decide) ?_ ?_
      · refine T_iload_n (pc := 35) h dX9_settingOf_35 rfl 1 rfl ?_
        refine T_iconst (pc := 36) h dX9_settingOf_36 ki_3 ?_
        refine T_icmp_ne (pc := 37) (tgt := 47) h dX9_settingOf_37 (by decide) ?_ ?_
        · refine T_aload_n (pc := 47) h dX9_settingOf_47 rfl 0 rfl ?_
          refine T_getI (pc := 48) h hs hk0 fl_X9_29 rfl dX9_settingOf_48 ?_
          refine T_sub [] rfl ?_
          exact t_X9_settingOf_L51 h hs (gI σ x0 6) σ
        · refine T_aload_n (pc := 40) h dX9_settingOf_40 rfl 0 rfl ?_
          refine T_getI (pc := 41) h hs hk0 fl_X9_26 rfl dX9_settingOf_41 ?_
          refine T_goto (pc := 44) (tgt := 51) h dX9_settingOf_44 (by decide) ?_
          refine T_sub [] rfl ?_
          exact t_X9_settingOf_L51 h hs (gI σ x0 5) σ
      · refine T_aload_n (pc := 28) h dX9_settingOf_28 rfl 0 rfl ?_
        refine T_getI (pc := 29) h hs hk0 fl_X9_23 rfl dX9_settingOf_29 ?_
        refine T_goto (pc := 32) (tgt := 51) h dX9_settingOf_32 (by decide) ?_
        refine T_sub [] rfl ?_
        exact t_X9_settingOf_L51 h hs (gI σ x0 4) σ
    · refine T_aload_n (pc := 16) h dX9_settingOf_16 rfl 0 rfl ?_
      refine T_getI (pc := 17) h hs hk0 fl_X9_20 rfl dX9_settingOf_17 ?_
      refine T_goto (pc := 20) (tgt := 51) h dX9_settingOf_20 (by decide) ?_
      refine T_sub [] rfl ?_
      exact t_X9_settingOf_L51 h hs (gI σ x0 3) σ
  · refine T_aload_n (pc := 4) h dX9_settingOf_4 rfl 0 rfl ?_
    refine T_getI (pc := 5) h hs hk0 fl_X9_17 rfl dX9_settingOf_5 ?_
    refine T_goto (pc := 8) (tgt := 51) h dX9_settingOf_8 (by decide) ?_
    refine T_sub [] rfl ?_
    exact t_X9_settingOf_L51 h hs (gI σ x0 2) σ
theorem M_X9_settingOf (l : Launch) {iv : Sg → Prop} (hi : iv = St) (x0 : Nat) (x1 : Int32) (σ : Sg) (hk0 : kd x0 9) : CTi l yX9_settingOf cX9_settingOf 2 (some .int) rm_X9_settingOf iv [.ref x0, .int x1] σ (f_X9_settingOf x0 x1 σ) := by
  subst hi
  exact CT_of (by decide) (Nat.le_of_ble_eq_true rfl) (fun K _ h _ hs _ _ => t_X9_settingOf h hs x0 x1 σ hk0)
/-! LuteTabsModel.set(II)I -/
theorem dX9_set_0 : decode cX9_set 0 = .ok (.iload_n 1, 1) := by decide +kernel
theorem dX9_set_1 : decode cX9_set 1 = .ok (.iconst 0, 1) := by decide +kernel
theorem dX9_set_2 : decode cX9_set 2 = .ok (.iconst 4, 1) := by decide +kernel
theorem dX9_set_3 : decode cX9_set 3 = .ok (.invokestatic 115, 3) := by decide +kernel
theorem dX9_set_6 : decode cX9_set 6 = .ok (.ifCond .eq 31, 3) := by decide +kernel
theorem dX9_set_9 : decode cX9_set 9 = .ok (.iload_n 2, 1) := by decide +kernel
theorem dX9_set_10 : decode cX9_set 10 = .ok (.iload_n 1, 1) := by decide +kernel
theorem dX9_set_11 : decode cX9_set 11 = .ok (.ifCond .ne 7, 3) := by decide +kernel
theorem dX9_set_14 : decode cX9_set 14 = .ok (.iconst 1, 1) := by decide +kernel
theorem dX9_set_15 : decode cX9_set 15 = .ok (.goto 4, 3) := by decide +kernel
theorem dX9_set_18 : decode cX9_set 18 = .ok (.iconst 0, 1) := by decide +kernel
theorem dX9_set_19 : decode cX9_set 19 = .ok (.iload_n 1, 1) := by decide +kernel
theorem dX9_set_20 : decode cX9_set 20 = .ok (.iconst 1, 1) := by decide +kernel
theorem dX9_set_21 : decode cX9_set 21 = .ok (.if_icmp .ne 8, 3) := by decide +kernel
theorem dX9_set_24 : decode cX9_set 24 = .ok (.bipush 6, 2) := by decide +kernel
theorem dX9_set_26 : decode cX9_set 26 = .ok (.goto 5, 3) := by decide +kernel
theorem dX9_set_29 : decode cX9_set 29 = .ok (.bipush 9, 2) := by decide +kernel
theorem dX9_set_31 : decode cX9_set 31 = .ok (.invokestatic 115, 3) := by decide +kernel
theorem dX9_set_34 : decode cX9_set 34 = .ok (.ifCond .ne 6, 3) := by decide +kernel
theorem dX9_set_37 : decode cX9_set 37 = .ok (.bipush (-2), 2) := by decide +kernel
theorem dX9_set_39 : decode cX9_set 39 = .ok (.ireturn, 1) := by decide +kernel
theorem dX9_set_40 : decode cX9_set 40 = .ok (.aload_n 0, 1) := by decide +kernel
theorem dX9_set_41 : decode cX9_set 41 = .ok (.iload_n 1, 1) := by decide +kernel
theorem dX9_set_42 : decode cX9_set 42 = .ok (.invokevirtual 126, 3) := by decide +kernel
theorem dX9_set_45 : decode cX9_set 45 = .ok (.istore_n 3, 1) := by decide +kernel
theorem dX9_set_46 : decode cX9_set 46 = .ok (.iload_n 1, 1) := by decide +kernel
theorem dX9_set_47 : decode cX9_set 47 = .ok (.tableswitch 65 0 3 #[29, 41, 49, 57], 29) := by decide +kernel
theorem dX9_set_76 : decode cX9_set 76 = .ok (.aload_n 0, 1) := by decide +kernel
theorem dX9_set_77 : decode cX9_set 77 = .ok (.iload_n 2, 1) := by decide +kernel
theorem dX9_set_78 : decode cX9_set 78 = .ok (.putfield 17, 3) := by decide +kernel
theorem dX9_set_81 : decode cX9_set 81 = .ok (.aload_n 0, 1) := by decide +kernel
theorem dX9_set_82 : decode cX9_set 82 = .ok (.invokevirtual 119, 3) := by decide +kernel
theorem dX9_set_85 : decode cX9_set 85 = .ok (.goto 32, 3) := by decide +kernel
theorem dX9_set_88 : decode cX9_set 88 = .ok (.aload_n 0, 1) := by decide +kernel
theorem dX9_set_89 : decode cX9_set 89 = .ok (.iload_n 2, 1) := by decide +kernel
theorem dX9_set_90 : decode cX9_set 90 = .ok (.putfield 20, 3) := by decide +kernel
theorem dX9_set_93 : decode cX9_set 93 = .ok (.goto 24, 3) := by decide +kernel
theorem dX9_set_96 : decode cX9_set 96 = .ok (.aload_n 0, 1) := by decide +kernel
theorem dX9_set_97 : decode cX9_set 97 = .ok (.iload_n 2, 1) := by decide +kernel
theorem dX9_set_98 : decode cX9_set 98 = .ok (.putfield 23, 3) := by decide +kernel
theorem dX9_set_101 : decode cX9_set 101 = .ok (.goto 16, 3) := by decide +kernel
theorem dX9_set_104 : decode cX9_set 104 = .ok (.aload_n 0, 1) := by decide +kernel
theorem dX9_set_105 : decode cX9_set 105 = .ok (.iload_n 2, 1) := by decide +kernel
theorem dX9_set_106 : decode cX9_set 106 = .ok (.putfield 26, 3) := by decide +kernel
theorem dX9_set_109 : decode cX9_set 109 = .ok (.goto 8, 3) := by decide +kernel
theorem dX9_set_112 : decode cX9_set 112 = .ok (.aload_n 0, 1) := by decide +kernel
theorem dX9_set_113 : decode cX9_set 113 = .ok (.iload_n 2, 1) := by decide +kernel
theorem dX9_set_114 : decode cX9_set 114 = .ok (.putfield 29, 3) := by decide +kernel
theorem dX9_set_117 : decode cX9_set 117 = .ok (.iload_n 3, 1) := by decide +kernel
theorem dX9_set_118 : decode cX9_set 118 = .ok (.ireturn, 1) := by decide +kernel
abbrev rm_X9_set : Room := { frames := 1, cells := 0, slots := 0, locals := 22 }
def f_X9_set_L37    (σ : Sg) : Option (Int32 × Sg) := some ((-2 : Int32), σ)
def f_X9_set_L117  (x3 : Int32)  (σ : Sg) : Option (Int32 × Sg) := some (x3, σ)
def f_X9_set_L31  (x0 : Nat) (x1 : Int32) (x2 : Int32) (y0 : Int32) (y1 : Int32) (y2 : Int32) (σ : Sg) : Option (Int32 × Sg) := bd (f_X9_in y0 y1 y2 σ) fun r2 s1 => (if r2 = 0 then f_X9_set_L37 s1 else bd (f_X9_settingOf x0 x1 s1) fun r4 s3 => (if x1.toInt < 0 ∨ 3 < x1.toInt then lB (pI s3 x0 6 x2) fun s5 => f_X9_set_L117 r4 s5 else swt [lB (pI s3 x0 2 x2) fun s6 => bd (f_X9_forgets x0 s6) fun _ s7 => f_X9_set_L117 r4 s7, lB (pI s3 x0 3 x2) fun s8 => f_X9_set_L117 r4 s8, lB (pI s3 x0 4 x2) fun s9 => f_X9_set_L117 r4 s9, lB (pI s3 x0 5 x2) fun s10 => f_X9_set_L117 r4 s10] (x1.toInt - 0).toNat))
def f_X9_set_L19  (x0 : Nat) (x1 : Int32) (x2 : Int32) (y0 : Int32) (y1 : Int32) (σ : Sg) : Option (Int32 × Sg) := (if x1 = (1 : Int32) then f_X9_set_L31 x0 x1 x2 y0 y1 (6 : Int32) σ else f_X9_set_L31 x0 x1 x2 y0 y1 (9 : Int32) σ)
def f_X9_set (x0 : Nat) (x1 : Int32) (x2 : Int32) (σ : Sg) : Option (Int32 × Sg) := bd (f_X9_in x1 (0 : Int32) (4 : Int32) σ) fun r2 s1 => (if r2 = 0 then f_X9_set_L37 s1 else (if x1 = 0 then f_X9_set_L19 x0 x1 x2 x2 (1 : Int32) s1 else f_X9_set_L19 x0 x1 x2 x2 (0 : Int32) s1))
theorem t_X9_set_L37 {K : Cx} (h : Ok K cX9_set RX9 4 rm_X9_set (some .int)) (hs : kiv K = St)   (σ : Sg)    : T K (QI K) 37 [] [] 0 0 σ (f_X9_set_L37 σ) := by
  unfold f_X9_set_L37
  refine T_bipush (pc := 37) h dX9_set_37 kb_m2 ?_
  exact T_ireturn (pc := 39) h (Nat.zero_le _) (Nat.zero_le _) dX9_set_39
theorem t_X9_set_L117 {K : Cx} (h : Ok K cX9_set RX9 4 rm_X9_set (some .int)) (hs : kiv K = St) (x3 : Int32)  (σ : Sg)    : T K (QI K) 117 [(3, .int x3)] [] 0 0 σ (f_X9_set_L117 x3 σ) := by
  unfold f_X9_set_L117
  refine T_iload_n (pc := 117) h dX9_set_117 rfl 0 rfl ?_
  exact T_ireturn (pc := 118) h (Nat.zero_le _) (Nat.zero_le _) dX9_set_118
theorem t_X9_set_L31 {K : Cx} (h : Ok K cX9_set RX9 4 rm_X9_set (some .int)) (hs : kiv K = St) (x0 : Nat) (x1 : Int32) (x2 : Int32) (y0 : Int32) (y1 : Int32) (y2 : Int32) (σ : Sg)  (hk0 : kd x0 9)  : T K (QI K) 31 [(0, .ref x0), (1, .int x1), (2, .int x2)] [.int y2, .int y1, .int y0] 0 0 σ (f_X9_set_L31 x0 x1 x2 y0 y1 y2 σ) := by
  unfold f_X9_set_L31
  refine T_callSi (pc := 31) h (M_X9_in (kl K) hs y0 y1 y2 σ ) mst_X9_in ml_X9_115 rfl ⟨Nat.le_of_ble_eq_true rfl, Nat.le_of_ble_eq_true rfl⟩ ⟨Nat.le_refl 0, Nat.le_refl 0⟩ (Nat.le_of_ble_eq_true rfl) dX9_set_31 rfl (fun r2 s1 => ?_)
  refine T_if_ne (pc := 34) (tgt := 40) h dX9_set_34 (by decide) ?_ ?_
  · refine T_aload_n (pc := 40) h dX9_set_40 rfl 0 rfl ?_
    refine T_iload_n (pc := 41) h dX9_set_41 rfl 1 rfl ?_
    refine T_callVi (pc := 42) h (M_X9_settingOf (kl K) hs x0 x1 s1 hk0) mv_X9_settingOf hs hk0 ml_X9_126 rfl ⟨Nat.le_of_ble_eq_true rfl, Nat.le_of_ble_eq_true rfl⟩ ⟨Nat.le_refl 0, Nat.le_refl 0⟩ (Nat.le_of_ble_eq_true rfl) dX9_set_42 rfl (fun r4 s3 => ?_)
    refine T_istore_n (lv' := [(3, .int r4), (0, .ref x0), (1, .int x1), (2, .int x2)]) (pc := 45) h dX9_set_45 rfl (by decide) rfl ?_
    refine T_iload_n (pc := 46) h dX9_set_46 rfl 2 rfl ?_
    refine T_tsw (pc := 47) (tgt := 112) h dX9_set_47 (by decide) [76, 88, 96, 104] rfl (by decide) rfl (by decide) ?_ (List.forall_mem_cons.mpr ⟨?_, List.forall_mem_cons.mpr ⟨?_, List.forall_mem_cons.mpr ⟨?_, List.forall_mem_cons.mpr ⟨?_, fun _ hq => by cases hq⟩⟩⟩⟩)
    · refine T_aload_n (pc := 112) h dX9_set_112 rfl 1 rfl ?_
      refine T_iload_n (pc := 113) h dX9_set_113 rfl 3 rfl ?_
      refine T_putI (pc := 114) h hs hk0 fl_X9_29 rfl rfl dX9_set_114 ?_
      refine T_letS fun s5 => ?_
      refine T_sub [0] rfl ?_
      exact t_X9_set_L117 h hs r4 s5
    · dsimp only
      refine T_aload_n (pc := 76) h dX9_set_76 rfl 1 rfl ?_
      refine T_iload_n (pc := 77) h dX9_set_77 rfl 3 rfl ?_
      refine T_putI (pc := 78) h hs hk0 fl_X9_17 rfl rfl dX9_set_78 ?_
      refine T_letS fun s6 => ?_
      refine T_aload_n (pc := 81) h dX9_set_81 rfl 1 rfl ?_
      refine T_callVv (pc := 82) h (M_X9_forgets (kl K) hs x0 s6 hk0) mv_X9_forgets hs hk0 ml_X9_119 rfl ⟨Nat.le_of_ble_eq_true rfl, Nat.le_of_ble_eq_true rfl⟩ ⟨Nat.le_refl 0, Nat.le_refl 0⟩ (Nat.le_of_ble_eq_true rfl) dX9_set_82 rfl (fun _ s7 => ?_)
      refine T_goto (pc := 85) (tgt := 117) h dX9_set_85 (by decide) ?_
      refine T_sub [0] rfl ?_
      exact t_X9_set_L117 h hs r4 s7
    · dsimp only
      refine T_aload_n (pc := 88) h dX9_set_88 rfl 1 rfl ?_
      refine T_iload_n (pc := 89) h dX9_set_89 rfl 3 rfl ?_
      refine T_putI (pc := 90) h hs hk0 fl_X9_20 rfl rfl dX9_set_90 ?_
      refine T_letS fun s8 => ?_
      refine T_goto (pc := 93) (tgt := 117) h dX9_set_93 (by decide) ?_
      refine T_sub [0] rfl ?_
      exact t_X9_set_L117 h hs r4 s8
    · dsimp only
      refine T_aload_n (pc := 96) h dX9_set_96 rfl 1 rfl ?_
      refine T_iload_n (pc := 97) h dX9_set_97 rfl 3 rfl ?_
      refine T_putI (pc := 98) h hs hk0 fl_X9_23 rfl rfl dX9_set_98 ?_
      refine T_letS fun s9 => ?_
      refine T_goto (pc := 101) (tgt := 117) h dX9_set_101 (by decide) ?_
      refine T_sub [0] rfl ?_
      exact t_X9_set_L117 h hs r4 s9
    · dsimp only
      refine T_aload_n (pc := 104) h dX9_set_104 rfl 1 rfl ?_
      refine T_iload_n (pc := 105) h dX9_set_105 rfl 3 rfl ?_
      refine T_putI (pc := 106) h hs hk0 fl_X9_26 rfl rfl dX9_set_106 ?_
      refine T_letS fun s10 => ?_
      refine T_goto (pc := 109) (tgt := 117) h dX9_set_109 (by decide) ?_
      refine T_sub [0] rfl ?_
      exact t_X9_set_L117 h hs r4 s10
  · refine T_sub [] rfl ?_
    exact t_X9_set_L37 h hs s1
theorem t_X9_set_L19 {K : Cx} (h : Ok K cX9_set RX9 4 rm_X9_set (some .int)) (hs : kiv K = St) (x0 : Nat) (x1 : Int32) (x2 : Int32) (y0 : Int32) (y1 : Int32) (σ : Sg)  (hk0 : kd x0 9)  : T K (QI K) 19 [(0, .ref x0), (1, .int x1), (2, .int x2)] [.int y1, .int y0] 0 0 σ (f_X9_set_L19 x0 x1 x2 y0 y1 σ) := by
  unfold f_X9_set_L19
  refine T_iload_n (pc := 19) h dX9_set_19 rfl 1 rfl ?_
  refine T_iconst (pc := 20) h dX9_set_20 ki_1 ?_
  refine T_icmp_ne (pc := 21) (tgt := 29) h dX9_set_21 (by decide) ?_ ?_
  · refine T_bipush (pc := 29) h dX9_set_29 kb_9 ?_
    refine T_sub [0, 1, 2] rfl ?_
    exact t_X9_set_L31 h hs x0 x1 x2 y0 y1 (9 : Int32) σ hk0
  · refine T_bipush (pc := 24) h dX9_set_24 kb_6 ?_
    refine T_goto (pc := 26) (tgt := 31) h dX9_set_26 (by decide) ?_
    refine T_sub [0, 1, 2] rfl ?_
    exact t_X9_set_L31 h hs x0 x1 x2 y0 y1 (6 : Int32) σ hk0
theorem t_X9_set {K : Cx} (h : Ok K cX9_set RX9 4 rm_X9_set (some .int)) (hs : kiv K = St) (x0 : Nat) (x1 : Int32) (x2 : Int32) (σ : Sg) (hk0 : kd x0 9) : T K (QI K) 0 [(0, .ref x0), (1, .int x1), (2, .int x2)] [] 0 0 σ (f_X9_set x0 x1 x2 σ) := by
  unfold f_X9_set
  refine T_iload_n (pc := 0) h dX9_set_0 rfl 1 rfl ?_
  refine T_iconst (pc := 1) h dX9_set_1 ki_0 ?_
  refine T_iconst (pc := 2) h dX9_set_2 ki_4 ?_
  refine T_callSi (pc := 3) h (M_X9_in (kl K) hs x1 (0 : Int32) (4 : Int32) σ ) mst_X9_in ml_X9_115 rfl ⟨Nat.le_of_ble_eq_true rfl, Nat.le_of_ble_eq_true rfl⟩ ⟨Nat.le_refl 0, Nat.le_refl 0⟩ (Nat.le_of_ble_eq_true rfl) dX9_set_3 rfl (fun r2 s1 => ?_)
  refine T_if_eq (pc := 6) (tgt := 37) h dX9_set_6 (by decide) ?_ ?_
  · refine T_sub [] rfl ?_
    exact t_X9_set_L37 h hs s1
  · refine T_iload_n (pc := 9) h dX9_set_9 rfl 2 rfl ?_
    refine T_iload_n (pc := 10) h dX9_set_10 rfl 1 rfl ?_
    refine T_if_ne (pc := 11) (tgt := 18) h dX9_set_11 (by decide) ?_ ?_
    · refine T_iconst (pc := 18) h dX9_set_18 ki_0 ?_
      refine T_sub [0, 1, 2] rfl ?_
      exact t_X9_set_L19 h hs x0 x1 x2 x2 (0 : Int32) s1 hk0
    · refine T_iconst (pc := 14) h dX9_set_14 ki_1 ?_
      refine T_goto (pc := 15) (tgt := 19) h dX9_set_15 (by decide) ?_
      refine T_sub [0, 1, 2] rfl ?_
      exact t_X9_set_L19 h hs x0 x1 x2 x2 (1 : Int32) s1 hk0
theorem M_X9_set (l : Launch) {iv : Sg → Prop} (hi : iv = St) (x0 : Nat) (x1 : Int32) (x2 : Int32) (σ : Sg) (hk0 : kd x0 9) : CTi l yX9_set cX9_set 4 (some .int) rm_X9_set iv [.ref x0, .int x1, .int x2] σ (f_X9_set x0 x1 x2 σ) := by
  subst hi
  exact CT_of (by decide) (Nat.le_of_ble_eq_true rfl) (fun K _ h _ hs _ _ => t_X9_set h hs x0 x1 x2 σ hk0)
/-! LuteTabsModel.beginAt(I)I -/
theorem dX9_beginAt_0 : decode cX9_beginAt 0 = .ok (.iconst 0, 1) := by decide +kernel
theorem dX9_beginAt_1 : decode cX9_beginAt 1 = .ok (.istore_n 2, 1) := by decide +kernel
theorem dX9_beginAt_2 : decode cX9_beginAt 2 = .ok (.iconst 0, 1) := by decide +kernel
theorem dX9_beginAt_3 : decode cX9_beginAt 3 = .ok (.istore_n 3, 1) := by decide +kernel
theorem dX9_beginAt_4 : decode cX9_beginAt 4 = .ok (.iload_n 3, 1) := by decide +kernel
theorem dX9_beginAt_5 : decode cX9_beginAt 5 = .ok (.aload_n 0, 1) := by decide +kernel
theorem dX9_beginAt_6 : decode cX9_beginAt 6 = .ok (.getfield 130, 3) := by decide +kernel
theorem dX9_beginAt_9 : decode cX9_beginAt 9 = .ok (.if_icmp .ge 27, 3) := by decide +kernel
theorem dX9_beginAt_12 : decode cX9_beginAt 12 = .ok (.iload_n 2, 1) := by decide +kernel
theorem dX9_beginAt_13 : decode cX9_beginAt 13 = .ok (.aload_n 0, 1) := by decide +kernel
theorem dX9_beginAt_14 : decode cX9_beginAt 14 = .ok (.getfield 32, 3) := by decide +kernel
theorem dX9_beginAt_17 : decode cX9_beginAt 17 = .ok (.iload_n 3, 1) := by decide +kernel
theorem dX9_beginAt_18 : decode cX9_beginAt 18 = .ok (.iaload, 1) := by decide +kernel
theorem dX9_beginAt_19 : decode cX9_beginAt 19 = .ok (.iload_n 1, 1) := by decide +kernel
theorem dX9_beginAt_20 : decode cX9_beginAt 20 = .ok (.if_icmp .ne 7, 3) := by decide +kernel
theorem dX9_beginAt_23 : decode cX9_beginAt 23 = .ok (.iconst 1, 1) := by decide +kernel
theorem dX9_beginAt_24 : decode cX9_beginAt 24 = .ok (.goto 4, 3) := by decide +kernel
theorem dX9_beginAt_27 : decode cX9_beginAt 27 = .ok (.iconst 0, 1) := by decide +kernel
theorem dX9_beginAt_28 : decode cX9_beginAt 28 = .ok (.iadd, 1) := by decide +kernel
theorem dX9_beginAt_29 : decode cX9_beginAt 29 = .ok (.istore_n 2, 1) := by decide +kernel
theorem dX9_beginAt_30 : decode cX9_beginAt 30 = .ok (.iinc 3 1, 3) := by decide +kernel
theorem dX9_beginAt_33 : decode cX9_beginAt 33 = .ok (.goto (-29), 3) := by decide +kernel
theorem dX9_beginAt_36 : decode cX9_beginAt 36 = .ok (.iload_n 2, 1) := by decide +kernel
theorem dX9_beginAt_37 : decode cX9_beginAt 37 = .ok (.ireturn, 1) := by decide +kernel
abbrev rm_X9_beginAt : Room := { frames := 0, cells := 0, slots := 0, locals := 0 }
def f_X9_beginAt_L28 (rec4 : Int32 × Int32 → Option (Int32 × Sg)) (x0 : Nat) (x1 : Int32) (x3 : Int32) (y0 : Int32) (y1 : Int32) (σ : Sg) : Option (Int32 × Sg) := lB ((y0 + y1)) fun v1 => lB (x3 + (1 : Int32)) fun v2 => rec4 (v1, v2)
def f_X9_beginAt_L4  (x0 : Nat) (x1 : Int32) (σ : Sg) (rec4 : Int32 × Int32 → Option (Int32 × Sg)) (s : Int32 × Int32) : Option (Int32 × Sg) := (if (gI σ x0 10) ≤ (s.2) then some ((s.1), σ) else ck (inb (s.2) (aL (gR σ x0 7))) ((if (gI σ (gR σ x0 7) (s.2).toNatClampNeg) = x1 then f_X9_beginAt_L28 rec4 x0 x1 (s.2) (s.1) (1 : Int32) σ else f_X9_beginAt_L28 rec4 x0 x1 (s.2) (s.1) (0 : Int32) σ)))
def f_X9_beginAt (x0 : Nat) (x1 : Int32) (σ : Sg) : Option (Int32 × Sg) := fx (f_X9_beginAt_L4 x0 x1 σ) FU ((0 : Int32), (0 : Int32))
theorem t_X9_beginAt_L28 {K : Cx} (h : Ok K cX9_beginAt RX9 4 rm_X9_beginAt (some .int)) (hs : kiv K = St) (x0 : Nat) (x1 : Int32) (x3 : Int32) (y0 : Int32) (y1 : Int32) (σ : Sg) (rec4 : Int32 × Int32 → Option (Int32 × Sg)) (hr4 : ∀ u, T K (QI K) 4 [(0, .ref x0), (1, .int x1), (2, .int (u.1)), (3, .int (u.2))] [] 0 0 σ (rec4 u)) (hk0 : kd x0 9)  : T K (QI K) 28 [(0, .ref x0), (1, .int x1), (3, .int x3)] [.int y1, .int y0] 0 0 σ (f_X9_beginAt_L28 rec4 x0 x1 x3 y0 y1 σ) := by
  unfold f_X9_beginAt_L28
  refine T_iadd (pc := 28) h dX9_beginAt_28 ?_
  refine T_letI fun v1 => ?_
  refine T_istore_n (lv' := [(2, .int v1), (0, .ref x0), (1, .int x1), (3, .int x3)]) (pc := 29) h dX9_beginAt_29 rfl (by decide) rfl ?_
  refine T_iinc (fl := fun v2 => [(3, .int v2), (2, .int v1), (0, .ref x0), (1, .int x1)]) (pc := 30) h dX9_beginAt_30 3 rfl ki_1 (by decide) (fun _ => rfl) (fun v2 => ?_)
  refine T_goto (pc := 33) (tgt := 4) h dX9_beginAt_33 (by decide) ?_
  refine T_sub [2, 3, 1, 0] rfl ?_
  exact hr4 (v1, v2)
theorem t_X9_beginAt_L4 {K : Cx} (h : Ok K cX9_beginAt RX9 4 rm_X9_beginAt (some .int)) (hs : kiv K = St) (x0 : Nat) (x1 : Int32) (σ : Sg)  (hk0 : kd x0 9) (rec4 : Int32 × Int32 → Option (Int32 × Sg)) (hr4 : ∀ u, T K (QI K) 4 [(0, .ref x0), (1, .int x1), (2, .int (u.1)), (3, .int (u.2))] [] 0 0 σ (rec4 u)) (s : Int32 × Int32) : T K (QI K) 4 [(0, .ref x0), (1, .int x1), (2, .int (s.1)), (3, .int (s.2))] [] 0 0 σ (f_X9_beginAt_L4 x0 x1 σ rec4 s) := by
  unfold f_X9_beginAt_L4
  refine T_iload_n (pc := 4) h dX9_beginAt_4 rfl 3 rfl ?_
  refine T_aload_n (pc := 5) h dX9_beginAt_5 rfl 0 rfl ?_
  refine T_getI (pc := 6) h hs hk0 fl_X9_130 rfl dX9_beginAt_6 ?_
  refine T_icmp_ge (pc := 9) (tgt := 36) h dX9_beginAt_9 (by decide) ?_ ?_
  · refine T_iload_n (pc := 36) h dX9_beginAt_36 rfl 2 rfl ?_
    exact T_ireturn (pc := 37) h (Nat.zero_le _) (Nat.zero_le _) dX9_beginAt_37
  · refine T_iload_n (pc := 12) h dX9_beginAt_12 rfl 2 rfl ?_
    refine T_aload_n (pc := 13) h dX9_beginAt_13 rfl 0 rfl ?_
    refine T_gR (pc := 14) h hs hk0 fl_X9_32 rfl fk_9_7 dX9_beginAt_14 (fun hq1 => ?_)
    refine T_iload_n (pc := 17) h dX9_beginAt_17 rfl 3 rfl ?_
    refine T_iald (pc := 18) h hs hq1 dX9_beginAt_18 ?_
    refine T_iload_n (pc := 19) h dX9_beginAt_19 rfl 1 rfl ?_
    refine T_icmp_ne (pc := 20) (tgt := 27) h dX9_beginAt_20 (by decide) ?_ ?_
    · refine T_iconst (pc := 27) h dX9_beginAt_27 ki_0 ?_
      refine T_sub [0, 1, 3] rfl ?_
      exact t_X9_beginAt_L28 h hs x0 x1 (s.2) (s.1) (0 : Int32) σ rec4 hr4 hk0
    · refine T_iconst (pc := 23) h dX9_beginAt_23 ki_1 ?_
      refine T_goto (pc := 24) (tgt := 28) h dX9_beginAt_24 (by decide) ?_
      refine T_sub [0, 1, 3] rfl ?_
      exact t_X9_beginAt_L28 h hs x0 x1 (s.2) (s.1) (1 : Int32) σ rec4 hr4 hk0
theorem t_X9_beginAt {K : Cx} (h : Ok K cX9_beginAt RX9 4 rm_X9_beginAt (some .int)) (hs : kiv K = St) (x0 : Nat) (x1 : Int32) (σ : Sg) (hk0 : kd x0 9) : T K (QI K) 0 [(0, .ref x0), (1, .int x1)] [] 0 0 σ (f_X9_beginAt x0 x1 σ) := by
  unfold f_X9_beginAt
  refine T_iconst (pc := 0) h dX9_beginAt_0 ki_0 ?_
  refine T_istore_n (lv' := [(2, .int (0 : Int32)), (0, .ref x0), (1, .int x1)]) (pc := 1) h dX9_beginAt_1 rfl (by decide) rfl ?_
  refine T_iconst (pc := 2) h dX9_beginAt_2 ki_0 ?_
  refine T_istore_n (lv' := [(3, .int (0 : Int32)), (2, .int (0 : Int32)), (0, .ref x0), (1, .int x1)]) (pc := 3) h dX9_beginAt_3 rfl (by decide) rfl ?_
  refine T_sub [2, 3, 1, 0] rfl ?_
  exact T_fx (B := f_X9_beginAt_L4 x0 x1 σ) (fl := fun u => [(0, .ref x0), (1, .int x1), (2, .int (u.1)), (3, .int (u.2))]) (f := fun u => σ) (fun rec4 hr4 u => t_X9_beginAt_L4 h hs x0 x1 σ hk0 rec4 hr4 u) FU ((0 : Int32), (0 : Int32))
theorem M_X9_beginAt (l : Launch) {iv : Sg → Prop} (hi : iv = St) (x0 : Nat) (x1 : Int32) (σ : Sg) (hk0 : kd x0 9) : CTi l yX9_beginAt cX9_beginAt 4 (some .int) rm_X9_beginAt iv [.ref x0, .int x1] σ (f_X9_beginAt x0 x1 σ) := by
  subst hi
  exact CT_of (by decide) (Nat.le_of_ble_eq_true rfl) (fun K _ h _ hs _ _ => t_X9_beginAt h hs x0 x1 σ hk0)
/-! LuteTabsModel.puts(III)I -/
theorem dX9_puts_0 : decode cX9_puts 0 = .ok (.aload_n 0, 1) := by decide +kernel
theorem dX9_puts_1 : decode cX9_puts 1 = .ok (.getfield 130, 3) := by decide +kernel
theorem dX9_puts_4 : decode cX9_puts 4 = .ok (.istore 4, 2) := by decide +kernel
theorem dX9_puts_6 : decode cX9_puts 6 = .ok (.iload 4, 2) := by decide +kernel
theorem dX9_puts_8 : decode cX9_puts 8 = .ok (.ifCond .le 112, 3) := by decide +kernel
theorem dX9_puts_11 : decode cX9_puts 11 = .ok (.aload_n 0, 1) := by decide +kernel
theorem dX9_puts_12 : decode cX9_puts 12 = .ok (.getfield 32, 3) := by decide +kernel
theorem dX9_puts_15 : decode cX9_puts 15 = .ok (.iload 4, 2) := by decide +kernel
theorem dX9_puts_17 : decode cX9_puts 17 = .ok (.iconst 1, 1) := by decide +kernel
theorem dX9_puts_18 : decode cX9_puts 18 = .ok (.isub, 1) := by decide +kernel
theorem dX9_puts_19 : decode cX9_puts 19 = .ok (.iaload, 1) := by decide +kernel
theorem dX9_puts_20 : decode cX9_puts 20 = .ok (.iload_n 1, 1) := by decide +kernel
theorem dX9_puts_21 : decode cX9_puts 21 = .ok (.if_icmp .gt 29, 3) := by decide +kernel
theorem dX9_puts_24 : decode cX9_puts 24 = .ok (.aload_n 0, 1) := by decide +kernel
theorem dX9_puts_25 : decode cX9_puts 25 = .ok (.getfield 32, 3) := by decide +kernel
theorem dX9_puts_28 : decode cX9_puts 28 = .ok (.iload 4, 2) := by decide +kernel
theorem dX9_puts_30 : decode cX9_puts 30 = .ok (.iconst 1, 1) := by decide +kernel
theorem dX9_puts_31 : decode cX9_puts 31 = .ok (.isub, 1) := by decide +kernel
theorem dX9_puts_32 : decode cX9_puts 32 = .ok (.iaload, 1) := by decide +kernel
theorem dX9_puts_33 : decode cX9_puts 33 = .ok (.iload_n 1, 1) := by decide +kernel
theorem dX9_puts_34 : decode cX9_puts 34 = .ok (.if_icmp .ne 86, 3) := by decide +kernel
theorem dX9_puts_37 : decode cX9_puts 37 = .ok (.aload_n 0, 1) := by decide +kernel
theorem dX9_puts_38 : decode cX9_puts 38 = .ok (.getfield 35, 3) := by decide +kernel
theorem dX9_puts_41 : decode cX9_puts 41 = .ok (.iload 4, 2) := by decide +kernel
theorem dX9_puts_43 : decode cX9_puts 43 = .ok (.iconst 1, 1) := by decide +kernel
theorem dX9_puts_44 : decode cX9_puts 44 = .ok (.isub, 1) := by decide +kernel
theorem dX9_puts_45 : decode cX9_puts 45 = .ok (.iaload, 1) := by decide +kernel
theorem dX9_puts_46 : decode cX9_puts 46 = .ok (.iload_n 2, 1) := by decide +kernel
theorem dX9_puts_47 : decode cX9_puts 47 = .ok (.if_icmp .le 73, 3) := by decide +kernel
theorem dX9_puts_50 : decode cX9_puts 50 = .ok (.aload_n 0, 1) := by decide +kernel
theorem dX9_puts_51 : decode cX9_puts 51 = .ok (.getfield 32, 3) := by decide +kernel
theorem dX9_puts_54 : decode cX9_puts 54 = .ok (.iload 4, 2) := by decide +kernel
theorem dX9_puts_56 : decode cX9_puts 56 = .ok (.aload_n 0, 1) := by decide +kernel
theorem dX9_puts_57 : decode cX9_puts 57 = .ok (.getfield 32, 3) := by decide +kernel
theorem dX9_puts_60 : decode cX9_puts 60 = .ok (.iload 4, 2) := by decide +kernel
theorem dX9_puts_62 : decode cX9_puts 62 = .ok (.iconst 1, 1) := by decide +kernel
theorem dX9_puts_63 : decode cX9_puts 63 = .ok (.isub, 1) := by decide +kernel
theorem dX9_puts_64 : decode cX9_puts 64 = .ok (.iaload, 1) := by decide +kernel
theorem dX9_puts_65 : decode cX9_puts 65 = .ok (.iastore, 1) := by decide +kernel
theorem dX9_puts_66 : decode cX9_puts 66 = .ok (.aload_n 0, 1) := by decide +kernel
theorem dX9_puts_67 : decode cX9_puts 67 = .ok (.getfield 35, 3) := by decide +kernel
theorem dX9_puts_70 : decode cX9_puts 70 = .ok (.iload 4, 2) := by decide +kernel
theorem dX9_puts_72 : decode cX9_puts 72 = .ok (.aload_n 0, 1) := by decide +kernel
theorem dX9_puts_73 : decode cX9_puts 73 = .ok (.getfield 35, 3) := by decide +kernel
theorem dX9_puts_76 : decode cX9_puts 76 = .ok (.iload 4, 2) := by decide +kernel
theorem dX9_puts_78 : decode cX9_puts 78 = .ok (.iconst 1, 1) := by decide +kernel
theorem dX9_puts_79 : decode cX9_puts 79 = .ok (.isub, 1) := by decide +kernel
theorem dX9_puts_80 : decode cX9_puts 80 = .ok (.iaload, 1) := by decide +kernel
theorem dX9_puts_81 : decode cX9_puts 81 = .ok (.iastore, 1) := by decide +kernel
theorem dX9_puts_82 : decode cX9_puts 82 = .ok (.aload_n 0, 1) := by decide +kernel
theorem dX9_puts_83 : decode cX9_puts 83 = .ok (.getfield 38, 3) := by decide +kernel
theorem dX9_puts_86 : decode cX9_puts 86 = .ok (.iload 4, 2) := by decide +kernel
theorem dX9_puts_88 : decode cX9_puts 88 = .ok (.aload_n 0, 1) := by decide +kernel
theorem dX9_puts_89 : decode cX9_puts 89 = .ok (.getfield 38, 3) := by decide +kernel
theorem dX9_puts_92 : decode cX9_puts 92 = .ok (.iload 4, 2) := by decide +kernel
theorem dX9_puts_94 : decode cX9_puts 94 = .ok (.iconst 1, 1) := by decide +kernel
theorem dX9_puts_95 : decode cX9_puts 95 = .ok (.isub, 1) := by decide +kernel
theorem dX9_puts_96 : decode cX9_puts 96 = .ok (.iaload, 1) := by decide +kernel
theorem dX9_puts_97 : decode cX9_puts 97 = .ok (.iastore, 1) := by decide +kernel
theorem dX9_puts_98 : decode cX9_puts 98 = .ok (.aload_n 0, 1) := by decide +kernel
theorem dX9_puts_99 : decode cX9_puts 99 = .ok (.getfield 41, 3) := by decide +kernel
theorem dX9_puts_102 : decode cX9_puts 102 = .ok (.iload 4, 2) := by decide +kernel
theorem dX9_puts_104 : decode cX9_puts 104 = .ok (.aload_n 0, 1) := by decide +kernel
theorem dX9_puts_105 : decode cX9_puts 105 = .ok (.getfield 41, 3) := by decide +kernel
theorem dX9_puts_108 : decode cX9_puts 108 = .ok (.iload 4, 2) := by decide +kernel
theorem dX9_puts_110 : decode cX9_puts 110 = .ok (.iconst 1, 1) := by decide +kernel
theorem dX9_puts_111 : decode cX9_puts 111 = .ok (.isub, 1) := by decide +kernel
theorem dX9_puts_112 : decode cX9_puts 112 = .ok (.iaload, 1) := by decide +kernel
theorem dX9_puts_113 : decode cX9_puts 113 = .ok (.iastore, 1) := by decide +kernel
theorem dX9_puts_114 : decode cX9_puts 114 = .ok (.iinc 4 (-1), 3) := by decide +kernel
theorem dX9_puts_117 : decode cX9_puts 117 = .ok (.goto (-111), 3) := by decide +kernel
theorem dX9_puts_120 : decode cX9_puts 120 = .ok (.aload_n 0, 1) := by decide +kernel
theorem dX9_puts_121 : decode cX9_puts 121 = .ok (.getfield 32, 3) := by decide +kernel
theorem dX9_puts_124 : decode cX9_puts 124 = .ok (.iload 4, 2) := by decide +kernel
theorem dX9_puts_126 : decode cX9_puts 126 = .ok (.iload_n 1, 1) := by decide +kernel
theorem dX9_puts_127 : decode cX9_puts 127 = .ok (.iastore, 1) := by decide +kernel
theorem dX9_puts_128 : decode cX9_puts 128 = .ok (.aload_n 0, 1) := by decide +kernel
theorem dX9_puts_129 : decode cX9_puts 129 = .ok (.getfield 35, 3) := by decide +kernel
theorem dX9_puts_132 : decode cX9_puts 132 = .ok (.iload 4, 2) := by decide +kernel
theorem dX9_puts_134 : decode cX9_puts 134 = .ok (.iload_n 2, 1) := by decide +kernel
theorem dX9_puts_135 : decode cX9_puts 135 = .ok (.iastore, 1) := by decide +kernel
theorem dX9_puts_136 : decode cX9_puts 136 = .ok (.aload_n 0, 1) := by decide +kernel
theorem dX9_puts_137 : decode cX9_puts 137 = .ok (.getfield 38, 3) := by decide +kernel
theorem dX9_puts_140 : decode cX9_puts 140 = .ok (.iload 4, 2) := by decide +kernel
theorem dX9_puts_142 : decode cX9_puts 142 = .ok (.iload_n 3, 1) := by decide +kernel
theorem dX9_puts_143 : decode cX9_puts 143 = .ok (.iastore, 1) := by decide +kernel
theorem dX9_puts_144 : decode cX9_puts 144 = .ok (.aload_n 0, 1) := by decide +kernel
theorem dX9_puts_145 : decode cX9_puts 145 = .ok (.dup, 1) := by decide +kernel
theorem dX9_puts_146 : decode cX9_puts 146 = .ok (.getfield 130, 3) := by decide +kernel
theorem dX9_puts_149 : decode cX9_puts 149 = .ok (.iconst 1, 1) := by decide +kernel
theorem dX9_puts_150 : decode cX9_puts 150 = .ok (.iadd, 1) := by decide +kernel
theorem dX9_puts_151 : decode cX9_puts 151 = .ok (.putfield 130, 3) := by decide +kernel
theorem dX9_puts_154 : decode cX9_puts 154 = .ok (.iload 4, 2) := by decide +kernel
theorem dX9_puts_156 : decode cX9_puts 156 = .ok (.ireturn, 1) := by decide +kernel
abbrev rm_X9_puts : Room := { frames := 0, cells := 0, slots := 0, locals := 0 }
def f_X9_puts_L50 (rec6 : Int32 × Sg → Option (Int32 × Sg)) (x0 : Nat) (x1 : Int32) (x2 : Int32) (x3 : Int32) (x4 : Int32)  (σ : Sg) : Option (Int32 × Sg) := ck (inb (x4 - (1 : Int32)) (aL (gR σ x0 7))) (ck (inb x4 (aL (gR σ x0 7))) (lB (pI σ (gR σ x0 7) x4.toNatClampNeg (gI σ (gR σ x0 7) (x4 - (1 : Int32)).toNatClampNeg)) fun s3 => ck (inb (x4 - (1 : Int32)) (aL (gR s3 x0 8))) (ck (inb x4 (aL (gR s3 x0 8))) (lB (pI s3 (gR s3 x0 8) x4.toNatClampNeg (gI s3 (gR s3 x0 8) (x4 - (1 : Int32)).toNatClampNeg)) fun s6 => ck (inb (x4 - (1 : Int32)) (aL (gR s6 x0 9))) (ck (inb x4 (aL (gR s6 x0 9))) (lB (pI s6 (gR s6 x0 9) x4.toNatClampNeg (gI s6 (gR s6 x0 9) (x4 - (1 : Int32)).toNatClampNeg)) fun s9 => ck (inb (x4 - (1 : Int32)) (aL (gR s9 x0 11))) (ck (inb x4 (aL (gR s9 x0 11))) (lB (pI s9 (gR s9 x0 11) x4.toNatClampNeg (gI s9 (gR s9 x0 11) (x4 - (1 : Int32)).toNatClampNeg)) fun s12 => lB (x4 + (-1 : Int32)) fun v13 => rec6 (v13, s12)))))))))
def f_X9_puts_L120  (x0 : Nat) (x1 : Int32) (x2 : Int32) (x3 : Int32) (x4 : Int32)  (σ : Sg) : Option (Int32 × Sg) := ck (inb x4 (aL (gR σ x0 7))) (lB (pI σ (gR σ x0 7) x4.toNatClampNeg x1) fun s2 => ck (inb x4 (aL (gR s2 x0 8))) (lB (pI s2 (gR s2 x0 8) x4.toNatClampNeg x2) fun s4 => ck (inb x4 (aL (gR s4 x0 9))) (lB (pI s4 (gR s4 x0 9) x4.toNatClampNeg x3) fun s6 => lB (pI s6 x0 10 ((gI s6 x0 10) + (1 : Int32))) fun s7 => some (x4, s7))))
def f_X9_puts_L6  (x0 : Nat) (x1 : Int32) (x2 : Int32) (x3 : Int32) (rec6 : Int32 × Sg → Option (Int32 × Sg)) (s : Int32 × Sg) : Option (Int32 × Sg) := (if (s.1) ≤ 0 then f_X9_puts_L120 x0 x1 x2 x3 (s.1) (s.2) else ck (inb ((s.1) - (1 : Int32)) (aL (gR (s.2) x0 7))) ((if x1 < (gI (s.2) (gR (s.2) x0 7) ((s.1) - (1 : Int32)).toNatClampNeg) then f_X9_puts_L50 rec6 x0 x1 x2 x3 (s.1) (s.2) else ck (inb ((s.1) - (1 : Int32)) (aL (gR (s.2) x0 7))) ((if (gI (s.2) (gR (s.2) x0 7) ((s.1) - (1 : Int32)).toNatClampNeg) = x1 then ck (inb ((s.1) - (1 : Int32)) (aL (gR (s.2) x0 8))) ((if (gI (s.2) (gR (s.2) x0 8) ((s.1) - (1 : Int32)).toNatClampNeg) ≤ x2 then f_X9_puts_L120 x0 x1 x2 x3 (s.1) (s.2) else f_X9_puts_L50 rec6 x0 x1 x2 x3 (s.1) (s.2))) else f_X9_puts_L120 x0 x1 x2 x3 (s.1) (s.2))))))
def f_X9_puts (x0 : Nat) (x1 : Int32) (x2 : Int32) (x3 : Int32) (σ : Sg) : Option (Int32 × Sg) := lB ((gI σ x0 10)) fun v1 => fx (f_X9_puts_L6 x0 x1 x2 x3) FU (v1, σ)
theorem t_X9_puts_L50 {K : Cx} (h : Ok K cX9_puts RX9 5 rm_X9_puts (some .int)) (hs : kiv K = St) (x0 : Nat) (x1 : Int32) (x2 : Int32) (x3 : Int32) (x4 : Int32)  (σ : Sg) (rec6 : Int32 × Sg → Option (Int32 × Sg)) (hr6 : ∀ u, T K (QI K) 6 [(0, .ref x0), (1, .int x1), (2, .int x2), (3, .int x3), (4, .int (u.1))] [] 0 0 (u.2) (rec6 u)) (hk0 : kd x0 9)  : T K (QI K) 50 [(0, .ref x0), (1, .int x1), (2, .int x2), (3, .int x3), (4, .int x4)] [] 0 0 σ (f_X9_puts_L50 rec6 x0 x1 x2 x3 x4 σ) := by
  unfold f_X9_puts_L50
  refine T_aload_n (pc := 50) h dX9_puts_50 rfl 0 rfl ?_
  refine T_gR (pc := 51) h hs hk0 fl_X9_32 rfl fk_9_7 dX9_puts_51 (fun hq1 => ?_)
  refine T_iload (pc := 54) h dX9_puts_54 4 rfl ?_
  refine T_aload_n (pc := 56) h dX9_puts_56 rfl 0 rfl ?_
  refine T_gR (pc := 57) h hs hk0 fl_X9_32 rfl fk_9_7 dX9_puts_57 (fun hq2 => ?_)
  refine T_iload (pc := 60) h dX9_puts_60 4 rfl ?_
  refine T_iconst (pc := 62) h dX9_puts_62 ki_1 ?_
  refine T_isub (pc := 63) h dX9_puts_63 ?_
  refine T_iald (pc := 64) h hs hq2 dX9_puts_64 ?_
  refine T_iast (pc := 65) h hs hq1 dX9_puts_65 ?_
  refine T_letS fun s3 => ?_
  refine T_aload_n (pc := 66) h dX9_puts_66 rfl 0 rfl ?_
  refine T_gR (pc := 67) h hs hk0 fl_X9_35 rfl fk_9_8 dX9_puts_67 (fun hq4 => ?_)
  refine T_iload (pc := 70) h dX9_puts_70 4 rfl ?_
  refine T_aload_n (pc := 72) h dX9_puts_72 rfl 0 rfl ?_
  refine T_gR (pc := 73) h hs hk0 fl_X9_35 rfl fk_9_8 dX9_puts_73 (fun hq5 => ?_)
  refine T_iload (pc := 76) h dX9_puts_76 4 rfl ?_
  refine T_iconst (pc := 78) h dX9_puts_78 ki_1 ?_
  refine T_isub (pc := 79) h dX9_puts_79 ?_
  refine T_iald (pc := 80) h hs hq5 dX9_puts_80 ?_
  refine T_iast (pc := 81) h hs hq4 dX9_puts_81 ?_
  refine T_letS fun s6 => ?_
  refine T_aload_n (pc := 82) h dX9_puts_82 rfl 0 rfl ?_
  refine T_gR (pc := 83) h hs hk0 fl_X9_38 rfl fk_9_9 dX9_puts_83 (fun hq7 => ?_)
  refine T_iload (pc := 86) h dX9_puts_86 4 rfl ?_
  refine T_aload_n (pc := 88) h dX9_puts_88 rfl 0 rfl ?_
  refine T_gR (pc := 89) h hs hk0 fl_X9_38 rfl fk_9_9 dX9_puts_89 (fun hq8 => ?_)
  refine T_iload (pc := 92) h dX9_puts_92 4 rfl ?_
  refine T_iconst (pc := 94) h dX9_puts_94 ki_1 ?_
  refine T_isub (pc := 95) h dX9_puts_95 ?_
  refine T_iald (pc := 96) h hs hq8 dX9_puts_96 ?_
  refine T_iast (pc := 97) h hs hq7 dX9_puts_97 ?_
  refine T_letS fun s9 => ?_
  refine T_aload_n (pc := 98) h dX9_puts_98 rfl 0 rfl ?_
  refine T_gR (pc := 99) h hs hk0 fl_X9_41 rfl fk_9_11 dX9_puts_99 (fun hq10 => ?_)
  refine T_iload (pc := 102) h dX9_puts_102 4 rfl ?_
  refine T_aload_n (pc := 104) h dX9_puts_104 rfl 0 rfl ?_
  refine T_gR (pc := 105) h hs hk0 fl_X9_41 rfl fk_9_11 dX9_puts_105 (fun hq11 => ?_)
  refine T_iload (pc := 108) h dX9_puts_108 4 rfl ?_
  refine T_iconst (pc := 110) h dX9_puts_110 ki_1 ?_
  refine T_isub (pc := 111) h dX9_puts_111 ?_
  refine T_iald (pc := 112) h hs hq11 dX9_puts_112 ?_
  refine T_iast (pc := 113) h hs hq10 dX9_puts_113 ?_
  refine T_letS fun s12 => ?_
  refine T_iinc (fl := fun v13 => [(4, .int v13), (0, .ref x0), (1, .int x1), (2, .int x2), (3, .int x3)]) (pc := 114) h dX9_puts_114 4 rfl ki_m1 (by decide) (fun _ => rfl) (fun v13 => ?_)
  refine T_goto (pc := 117) (tgt := 6) h dX9_puts_117 (by decide) ?_
  refine T_sub [1, 2, 3, 4, 0] rfl ?_
  exact hr6 (v13, s12)
theorem t_X9_puts_L120 {K : Cx} (h : Ok K cX9_puts RX9 5 rm_X9_puts (some .int)) (hs : kiv K = St) (x0 : Nat) (x1 : Int32) (x2 : Int32) (x3 : Int32) (x4 : Int32)  (σ : Sg)  (hk0 : kd x0 9)  : T K (QI K) 120 [(0, .ref x0), (1, .int x1), (2, .int x2), (3, .int x3), (4, .int x4)] [] 0 0 σ (f_X9_puts_L120 x0 x1 x2 x3 x4 σ) := by
  unfold f_X9_puts_L120
  refine T_aload_n (pc := 120) h dX9_puts_120 rfl 0 rfl ?_
  refine T_gR (pc := 121) h hs hk0 fl_X9_32 rfl fk_9_7 dX9_puts_121 (fun hq1 => ?_)
  refine T_iload (pc := 124) h dX9_puts_124 4 rfl ?_
  refine T_iload_n (pc := 126) h dX9_puts_126 rfl 1 rfl ?_
  refine T_iast (pc := 127) h hs hq1 dX9_puts_127 ?_
  refine T_letS fun s2 => ?_
  refine T_aload_n (pc := 128) h dX9_puts_128 rfl 0 rfl ?_
  refine T_gR (pc := 129) h hs hk0 fl_X9_35 rfl fk_9_8 dX9_puts_129 (fun hq3 => ?_)
  refine T_iload (pc := 132) h dX9_puts_132 4 rfl ?_
  refine T_iload_n (pc := 134) h dX9_puts_134 rfl 2 rfl ?_
  refine T_iast (pc := 135) h hs hq3 dX9_puts_135 ?_
  refine T_letS fun s4 => ?_
  refine T_aload_n (pc := 136) h dX9_puts_136 rfl 0 rfl ?_
  refine T_gR (pc := 137) h hs hk0 fl_X9_38 rfl fk_9_9 dX9_puts_137 (fun hq5 => ?_)
  refine T_iload (pc := 140) h dX9_puts_140 4 rfl ?_
  refine T_iload_n (pc := 142) h dX9_puts_142 rfl 3 rfl ?_
  refine T_iast (pc := 143) h hs hq5 dX9_puts_143 ?_
  refine T_letS fun s6 => ?_
  refine T_aload_n (pc := 144) h dX9_puts_144 rfl 0 rfl ?_
  refine T_dup (pc := 145) h dX9_puts_145 rfl ?_
  refine T_getI (pc := 146) h hs hk0 fl_X9_130 rfl dX9_puts_146 ?_
  refine T_iconst (pc := 149) h dX9_puts_149 ki_1 ?_
  refine T_iadd (pc := 150) h dX9_puts_150 ?_
  refine T_putI (pc := 151) h hs hk0 fl_X9_130 rfl rfl dX9_puts_151 ?_
  refine T_letS fun s7 => ?_
  refine T_iload (pc := 154) h dX9_puts_154 4 rfl ?_
  exact T_ireturn (pc := 156) h (Nat.zero_le _) (Nat.zero_le _) dX9_puts_156
theorem t_X9_puts_L6 {K : Cx} (h : Ok K cX9_puts RX9 5 rm_X9_puts (some .int)) (hs : kiv K = St) (x0 : Nat) (x1 : Int32) (x2 : Int32) (x3 : Int32)  (hk0 : kd x0 9) (rec6 : Int32 × Sg → Option (Int32 × Sg)) (hr6 : ∀ u, T K (QI K) 6 [(0, .ref x0), (1, .int x1), (2, .int x2), (3, .int x3), (4, .int (u.1))] [] 0 0 (u.2) (rec6 u)) (s : Int32 × Sg) : T K (QI K) 6 [(0, .ref x0), (1, .int x1), (2, .int x2), (3, .int x3), (4, .int (s.1))] [] 0 0 (s.2) (f_X9_puts_L6 x0 x1 x2 x3 rec6 s) := by
  unfold f_X9_puts_L6
  refine T_iload (pc := 6) h dX9_puts_6 4 rfl ?_
  refine T_if_le (pc := 8) (tgt := 120) h dX9_puts_8 (by decide) ?_ ?_
  · refine T_sub [0, 1, 2, 3, 4] rfl ?_
    exact t_X9_puts_L120 h hs x0 x1 x2 x3 (s.1) (s.2) hk0
  · refine T_aload_n (pc := 11) h dX9_puts_11 rfl 0 rfl ?_
    refine T_gR (pc := 12) h hs hk0 fl_X9_32 rfl fk_9_7 dX9_puts_12 (fun hq1 => ?_)
    refine T_iload (pc := 15) h dX9_puts_15 4 rfl ?_
    refine T_iconst (pc := 17) h dX9_puts_17 ki_1 ?_
    refine T_isub (pc := 18) h dX9_puts_18 ?_
    refine T_iald (pc := 19) h hs hq1 dX9_puts_19 ?_
    refine T_iload_n (pc := 20) h dX9_puts_20 rfl 1 rfl ?_
    refine T_icmp_gt (pc := 21) (tgt := 50) h dX9_puts_21 (by decide) ?_ ?_
    · refine T_sub [0, 1, 2, 3, 4] rfl ?_
      exact t_X9_puts_L50 h hs x0 x1 x2 x3 (s.1) (s.2) rec6 hr6 hk0
    · refine T_aload_n (pc := 24) h dX9_puts_24 rfl 0 rfl ?_
      refine T_gR (pc := 25) h hs hk0 fl_X9_32 rfl fk_9_7 dX9_puts_25 (fun hq2 => ?_)
      refine T_iload (pc := 28) h dX9_puts_28 4 rfl ?_
      refine T_iconst (pc := 30) h dX9_puts_30 ki_1 ?_
      refine T_isub (pc := 31) h dX9_puts_31 ?_
      refine T_iald (pc := 32) h hs hq2 dX9_puts_32 ?_
      refine T_iload_n (pc := 33) h dX9_puts_33 rfl 1 rfl ?_
      refine T_icmp_ne (pc := 34) (tgt := 120) h dX9_puts_34 (by decide) ?_ ?_
      · refine T_sub [0, 1, 2, 3, 4] rfl ?_
        exact t_X9_puts_L120 h hs x0 x1 x2 x3 (s.1) (s.2) hk0
      · refine T_aload_n (pc := 37) h dX9_puts_37 rfl 0 rfl ?_
        refine T_gR (pc := 38) h hs hk0 fl_X9_35 rfl fk_9_8 dX9_puts_38 (fun hq3 => ?_)
        refine T_iload (pc := 41) h dX9_puts_41 4 rfl ?_
        refine T_iconst (pc := 43) h dX9_puts_43 ki_1 ?_
        refine T_isub (pc := 44) h dX9_puts_44 ?_
        refine T_iald (pc := 45) h hs hq3 dX9_puts_45 ?_
        refine T_iload_n (pc := 46) h dX9_puts_46 rfl 2 rfl ?_
        refine T_icmp_le (pc := 47) (tgt := 120) h dX9_puts_47 (by decide) ?_ ?_
        · refine T_sub [0, 1, 2, 3, 4] rfl ?_
          exact t_X9_puts_L120 h hs x0 x1 x2 x3 (s.1) (s.2) hk0
        · refine T_sub [0, 1, 2, 3, 4] rfl ?_
          exact t_X9_puts_L50 h hs x0 x1 x2 x3 (s.1) (s.2) rec6 hr6 hk0
theorem t_X9_puts {K : Cx} (h : Ok K cX9_puts RX9 5 rm_X9_puts (some .int)) (hs : kiv K = St) (x0 : Nat) (x1 : Int32) (x2 : Int32) (x3 : Int32) (σ : Sg) (hk0 : kd x0 9) : T K (QI K) 0 [(0, .ref x0), (1, .int x1), (2, .int x2), (3, .int x3)] [] 0 0 σ (f_X9_puts x0 x1 x2 x3 σ) := by
  unfold f_X9_puts
  refine T_aload_n (pc := 0) h dX9_puts_0 rfl 0 rfl ?_
  refine T_getI (pc := 1) h hs hk0 fl_X9_130 rfl dX9_puts_1 ?_
  refine T_letI fun v1 => ?_
  refine T_istore (lv' := [(4, .int v1), (0, .ref x0), (1, .int x1), (2, .int x2), (3, .int x3)]) (pc := 4) h dX9_puts_4 (by decide) rfl ?_
  refine T_sub [1, 2, 3, 4, 0] rfl ?_
  exact T_fx (B := f_X9_puts_L6 x0 x1 x2 x3) (fl := fun u => [(0, .ref x0), (1, .int x1), (2, .int x2), (3, .int x3), (4, .int (u.1))]) (f := fun u => (u.2)) (fun rec6 hr6 u => t_X9_puts_L6 h hs x0 x1 x2 x3 hk0 rec6 hr6 u) FU (v1, σ)
theorem M_X9_puts (l : Launch) {iv : Sg → Prop} (hi : iv = St) (x0 : Nat) (x1 : Int32) (x2 : Int32) (x3 : Int32) (σ : Sg) (hk0 : kd x0 9) : CTi l yX9_puts cX9_puts 5 (some .int) rm_X9_puts iv [.ref x0, .int x1, .int x2, .int x3] σ (f_X9_puts x0 x1 x2 x3 σ) := by
  subst hi
  exact CT_of (by decide) (Nat.le_of_ble_eq_true rfl) (fun K _ h _ hs _ _ => t_X9_puts h hs x0 x1 x2 x3 σ hk0)
/-! LuteTabsModel.adds(III)I -/
theorem dX9_adds_0 : decode cX9_adds 0 = .ok (.iload_n 1, 1) := by decide +kernel
theorem dX9_adds_1 : decode cX9_adds 1 = .ok (.iconst 0, 1) := by decide +kernel
theorem dX9_adds_2 : decode cX9_adds 2 = .ok (.sipush 199, 3) := by decide +kernel
theorem dX9_adds_5 : decode cX9_adds 5 = .ok (.invokestatic 115, 3) := by decide +kernel
theorem dX9_adds_8 : decode cX9_adds 8 = .ok (.ifCond .eq 23, 3) := by decide +kernel
theorem dX9_adds_11 : decode cX9_adds 11 = .ok (.iload_n 2, 1) := by decide +kernel
theorem dX9_adds_12 : decode cX9_adds 12 = .ok (.iconst 0, 1) := by decide +kernel
theorem dX9_adds_13 : decode cX9_adds 13 = .ok (.bipush 70, 2) := by decide +kernel
theorem dX9_adds_15 : decode cX9_adds 15 = .ok (.invokestatic 115, 3) := by decide +kernel
theorem dX9_adds_18 : decode cX9_adds 18 = .ok (.ifCond .eq 13, 3) := by decide +kernel
theorem dX9_adds_21 : decode cX9_adds 21 = .ok (.iload_n 3, 1) := by decide +kernel
theorem dX9_adds_22 : decode cX9_adds 22 = .ok (.iconst 1, 1) := by decide +kernel
theorem dX9_adds_23 : decode cX9_adds 23 = .ok (.bipush 40, 2) := by decide +kernel
theorem dX9_adds_25 : decode cX9_adds 25 = .ok (.invokestatic 115, 3) := by decide +kernel
theorem dX9_adds_28 : decode cX9_adds 28 = .ok (.ifCond .ne 6, 3) := by decide +kernel
theorem dX9_adds_31 : decode cX9_adds 31 = .ok (.bipush (-2), 2) := by decide +kernel
theorem dX9_adds_33 : decode cX9_adds 33 = .ok (.ireturn, 1) := by decide +kernel
theorem dX9_adds_34 : decode cX9_adds 34 = .ok (.aload_n 0, 1) := by decide +kernel
theorem dX9_adds_35 : decode cX9_adds 35 = .ok (.getfield 130, 3) := by decide +kernel
theorem dX9_adds_38 : decode cX9_adds 38 = .ok (.bipush 14, 2) := by decide +kernel
theorem dX9_adds_40 : decode cX9_adds 40 = .ok (.if_icmp .eq 12, 3) := by decide +kernel
theorem dX9_adds_43 : decode cX9_adds 43 = .ok (.aload_n 0, 1) := by decide +kernel
theorem dX9_adds_44 : decode cX9_adds 44 = .ok (.iload_n 1, 1) := by decide +kernel
theorem dX9_adds_45 : decode cX9_adds 45 = .ok (.invokevirtual 133, 3) := by decide +kernel
theorem dX9_adds_48 : decode cX9_adds 48 = .ok (.iconst 3, 1) := by decide +kernel
theorem dX9_adds_49 : decode cX9_adds 49 = .ok (.if_icmp .ne 6, 3) := by decide +kernel
theorem dX9_adds_52 : decode cX9_adds 52 = .ok (.bipush (-4), 2) := by decide +kernel
theorem dX9_adds_54 : decode cX9_adds 54 = .ok (.ireturn, 1) := by decide +kernel
theorem dX9_adds_55 : decode cX9_adds 55 = .ok (.aload_n 0, 1) := by decide +kernel
theorem dX9_adds_56 : decode cX9_adds 56 = .ok (.invokevirtual 119, 3) := by decide +kernel
theorem dX9_adds_59 : decode cX9_adds 59 = .ok (.aload_n 0, 1) := by decide +kernel
theorem dX9_adds_60 : decode cX9_adds 60 = .ok (.iload_n 1, 1) := by decide +kernel
theorem dX9_adds_61 : decode cX9_adds 61 = .ok (.iload_n 2, 1) := by decide +kernel
theorem dX9_adds_62 : decode cX9_adds 62 = .ok (.iload_n 3, 1) := by decide +kernel
theorem dX9_adds_63 : decode cX9_adds 63 = .ok (.invokevirtual 136, 3) := by decide +kernel
theorem dX9_adds_66 : decode cX9_adds 66 = .ok (.ireturn, 1) := by decide +kernel
abbrev rm_X9_adds : Room := { frames := 1, cells := 0, slots := 0, locals := 24 }
def f_X9_adds_L31    (σ : Sg) : Option (Int32 × Sg) := some ((-2 : Int32), σ)
def f_X9_adds_L52    (σ : Sg) : Option (Int32 × Sg) := some ((-4 : Int32), σ)
def f_X9_adds (x0 : Nat) (x1 : Int32) (x2 : Int32) (x3 : Int32) (σ : Sg) : Option (Int32 × Sg) := bd (f_X9_in x1 (0 : Int32) (199 : Int32) σ) fun r2 s1 => (if r2 = 0 then f_X9_adds_L31 s1 else bd (f_X9_in x2 (0 : Int32) (70 : Int32) s1) fun r4 s3 => (if r4 = 0 then f_X9_adds_L31 s3 else bd (f_X9_in x3 (1 : Int32) (40 : Int32) s3) fun r6 s5 => (if r6 = 0 then f_X9_adds_L31 s5 else (if (gI s5 x0 10) = (14 : Int32) then f_X9_adds_L52 s5 else bd (f_X9_beginAt x0 x1 s5) fun r8 s7 => (if r8 = (3 : Int32) then f_X9_adds_L52 s7 else bd (f_X9_forgets x0 s7) fun _ s9 => bd (f_X9_puts x0 x1 x2 x3 s9) fun r11 s10 => some (r11, s10))))))
theorem t_X9_adds_L31 {K : Cx} (h : Ok K cX9_adds RX9 4 rm_X9_adds (some .int)) (hs : kiv K = St)   (σ : Sg)    : T K (QI K) 31 [] [] 0 0 σ (f_X9_adds_L31 σ) := by
  unfold f_X9_adds_L31
  refine T_bipush (pc := 31) h dX9_adds_31 kb_m2 ?_
  exact T_ireturn (pc := 33) h (Nat.zero_le _) (Nat.zero_le _) dX9_adds_33
theorem t_X9_adds_L52 {K : Cx} (h : Ok K cX9_adds RX9 4 rm_X9_adds (some .int)) (hs : kiv K = St)   (σ : Sg)    : T K (QI K) 52 [] [] 0 0 σ (f_X9_adds_L52 σ) := by
  unfold f_X9_adds_L52
  refine T_bipush (pc := 52) h dX9_adds_52 kb_m4 ?_
  exact T_ireturn (pc := 54) h (Nat.zero_le _) (Nat.zero_le _) dX9_adds_54
theorem t_X9_adds {K : Cx} (h : Ok K cX9_adds RX9 4 rm_X9_adds (some .int)) (hs : kiv K = St) (x0 : Nat) (x1 : Int32) (x2 : Int32) (x3 : Int32) (σ : Sg) (hk0 : kd x0 9) : T K (QI K) 0 [(0, .ref x0), (1, .int x1), (2, .int x2), (3, .int x3)] [] 0 0 σ (f_X9_adds x0 x1 x2 x3 σ) := by
  unfold f_X9_adds
  refine T_iload_n (pc := 0) h dX9_adds_0 rfl 1 rfl ?_
  refine T_iconst (pc := 1) h dX9_adds_1 ki_0 ?_
  refine T_sipush (pc := 2) h dX9_adds_2 ks_199 ?_
  refine T_callSi (pc := 5) h (M_X9_in (kl K) hs x1 (0 : Int32) (199 : Int32) σ ) mst_X9_in ml_X9_115 rfl ⟨Nat.le_of_ble_eq_true rfl, Nat.le_of_ble_eq_true rfl⟩ ⟨Nat.le_refl 0, Nat.le_refl 0⟩ (Nat.le_of_ble_eq_true rfl) dX9_adds_5 rfl (fun r2 s1 => ?_)
  refine T_if_eq (pc := 8) (tgt := 31) h dX9_adds_8 (by decide) ?_ ?_
  · refine T_sub [] rfl ?_
    exact t_X9_adds_L31 h hs s1
  · refine T_iload_n (pc := 11) h dX9_adds_11 rfl 2 rfl ?_
    refine T_iconst (pc := 12) h dX9_adds_12 ki_0 ?_
    refine T_bipush (pc := 13) h dX9_adds_13 kb_70 ?_
    refine T_callSi (pc := 15) h (M_X9_in (kl K) hs x2 (0 : Int32) (70 : Int32) s1 ) mst_X9_in ml_X9_115 rfl ⟨Nat.le_of_ble_eq_true rfl, Nat.le_of_ble_eq_true rfl⟩ ⟨Nat.le_refl 0, Nat.le_refl 0⟩ (Nat.le_of_ble_eq_true rfl) dX9_adds_15 rfl (fun r4 s3 => ?_)
    refine T_if_eq (pc := 18) (tgt := 31) h dX9_adds_18 (by decide) ?_ ?_
    · refine T_sub [] rfl ?_
      exact t_X9_adds_L31 h hs s3
    · refine T_iload_n (pc := 21) h dX9_adds_21 rfl 3 rfl ?_
      refine T_iconst (pc := 22) h dX9_adds_22 ki_1 ?_
      refine T_bipush (pc := 23) h dX9_adds_23 kb_40 ?_
      refine T_callSi (pc := 25) h (M_X9_in (kl K) hs x3 (1 : Int32) (40 : Int32) s3 ) mst_X9_in ml_X9_115 rfl ⟨Nat.le_of_ble_eq_true rfl, Nat.le_of_ble_eq_true rfl⟩ ⟨Nat.le_refl 0, Nat.le_refl 0⟩ (Nat.le_of_ble_eq_true rfl) dX9_adds_25 rfl (fun r6 s5 => ?_)
      refine T_if_ne (pc := 28) (tgt := 34) h dX9_adds_28 (by decide) ?_ ?_
      · refine T_aload_n (pc := 34) h dX9_adds_34 rfl 0 rfl ?_
        refine T_getI (pc := 35) h hs hk0 fl_X9_130 rfl dX9_adds_35 ?_
        refine T_bipush (pc := 38) h dX9_adds_38 kb_14 ?_
        refine T_icmp_eq (pc := 40) (tgt := 52) h dX9_adds_40 (by decide) ?_ ?_
        · refine T_sub [] rfl ?_
          exact t_X9_adds_L52 h hs s5
        · refine T_aload_n (pc := 43) h dX9_adds_43 rfl 0 rfl ?_
          refine T_iload_n (pc := 44) h dX9_adds_44 rfl 1 rfl ?_
          refine T_callVi (pc := 45) h (M_X9_beginAt (kl K) hs x0 x1 s5 hk0) mv_X9_beginAt hs hk0 ml_X9_133 rfl ⟨Nat.le_of_ble_eq_true rfl, Nat.le_of_ble_eq_true rfl⟩ ⟨Nat.le_refl 0, Nat.le_refl 0⟩ (Nat.le_of_ble_eq_true rfl) dX9_adds_45 rfl (fun r8 s7 => ?_)
          refine T_iconst (pc := 48) h dX9_adds_48 ki_3 ?_
          refine T_icmp_ne (pc := 49) (tgt := 55) h dX9_adds_49 (by decide) ?_ ?_
          · refine T_aload_n (pc := 55) h dX9_adds_55 rfl 0 rfl ?_
            refine T_callVv (pc := 56) h (M_X9_forgets (kl K) hs x0 s7 hk0) mv_X9_forgets hs hk0 ml_X9_119 rfl ⟨Nat.le_of_ble_eq_true rfl, Nat.le_of_ble_eq_true rfl⟩ ⟨Nat.le_refl 0, Nat.le_refl 0⟩ (Nat.le_of_ble_eq_true rfl) dX9_adds_56 rfl (fun _ s9 => ?_)
            refine T_aload_n (pc := 59) h dX9_adds_59 rfl 0 rfl ?_
            refine T_iload_n (pc := 60) h dX9_adds_60 rfl 1 rfl ?_
            refine T_iload_n (pc := 61) h dX9_adds_61 rfl 2 rfl ?_
            refine T_iload_n (pc := 62) h dX9_adds_62 rfl 3 rfl ?_
            refine T_callVi (pc := 63) h (M_X9_puts (kl K) hs x0 x1 x2 x3 s9 hk0) mv_X9_puts hs hk0 ml_X9_136 rfl ⟨Nat.le_of_ble_eq_true rfl, Nat.le_of_ble_eq_true rfl⟩ ⟨Nat.le_refl 0, Nat.le_refl 0⟩ (Nat.le_of_ble_eq_true rfl) dX9_adds_63 rfl (fun r11 s10 => ?_)
            exact T_ireturn (pc := 66) h (Nat.zero_le _) (Nat.zero_le _) dX9_adds_66
          · refine T_sub [] rfl ?_
            exact t_X9_adds_L52 h hs s7
      · refine T_sub [] rfl ?_
        exact t_X9_adds_L31 h hs s5
theorem M_X9_adds (l : Launch) {iv : Sg → Prop} (hi : iv = St) (x0 : Nat) (x1 : Int32) (x2 : Int32) (x3 : Int32) (σ : Sg) (hk0 : kd x0 9) : CTi l yX9_adds cX9_adds 4 (some .int) rm_X9_adds iv [.ref x0, .int x1, .int x2, .int x3] σ (f_X9_adds x0 x1 x2 x3 σ) := by
  subst hi
  exact CT_of (by decide) (Nat.le_of_ble_eq_true rfl) (fun K _ h _ hs _ _ => t_X9_adds h hs x0 x1 x2 x3 σ hk0)
/-! LuteTabsModel.note(III)I -/
theorem dX9_note_0 : decode cX9_note 0 = .ok (.aload_n 0, 1) := by decide +kernel
theorem dX9_note_1 : decode cX9_note 1 = .ok (.iload_n 1, 1) := by decide +kernel
theorem dX9_note_2 : decode cX9_note 2 = .ok (.iload_n 2, 1) := by decide +kernel
theorem dX9_note_3 : decode cX9_note 3 = .ok (.iload_n 3, 1) := by decide +kernel
theorem dX9_note_4 : decode cX9_note 4 = .ok (.invokevirtual 140, 3) := by decide +kernel
theorem dX9_note_7 : decode cX9_note 7 = .ok (.ireturn, 1) := by decide +kernel
abbrev rm_X9_note : Room := { frames := 2, cells := 0, slots := 0, locals := 47 }
def f_X9_note (x0 : Nat) (x1 : Int32) (x2 : Int32) (x3 : Int32) (σ : Sg) : Option (Int32 × Sg) := bd (f_X9_adds x0 x1 x2 x3 σ) fun r2 s1 => some (r2, s1)
theorem t_X9_note {K : Cx} (h : Ok K cX9_note RX9 4 rm_X9_note (some .int)) (hs : kiv K = St) (x0 : Nat) (x1 : Int32) (x2 : Int32) (x3 : Int32) (σ : Sg) (hk0 : kd x0 9) : T K (QI K) 0 [(0, .ref x0), (1, .int x1), (2, .int x2), (3, .int x3)] [] 0 0 σ (f_X9_note x0 x1 x2 x3 σ) := by
  unfold f_X9_note
  refine T_aload_n (pc := 0) h dX9_note_0 rfl 0 rfl ?_
  refine T_iload_n (pc := 1) h dX9_note_1 rfl 1 rfl ?_
  refine T_iload_n (pc := 2) h dX9_note_2 rfl 2 rfl ?_
  refine T_iload_n (pc := 3) h dX9_note_3 rfl 3 rfl ?_
  refine T_callVi (pc := 4) h (M_X9_adds (kl K) hs x0 x1 x2 x3 σ hk0) mv_X9_adds hs hk0 ml_X9_140 rfl ⟨Nat.le_of_ble_eq_true rfl, Nat.le_of_ble_eq_true rfl⟩ ⟨Nat.le_refl 0, Nat.le_refl 0⟩ (Nat.le_of_ble_eq_true rfl) dX9_note_4 rfl (fun r2 s1 => ?_)
  exact T_ireturn (pc := 7) h (Nat.zero_le _) (Nat.zero_le _) dX9_note_7
theorem M_X9_note (l : Launch) {iv : Sg → Prop} (hi : iv = St) (x0 : Nat) (x1 : Int32) (x2 : Int32) (x3 : Int32) (σ : Sg) (hk0 : kd x0 9) : CTi l yX9_note cX9_note 4 (some .int) rm_X9_note iv [.ref x0, .int x1, .int x2, .int x3] σ (f_X9_note x0 x1 x2 x3 σ) := by
  subst hi
  exact CT_of (by decide) (Nat.le_of_ble_eq_true rfl) (fun K _ h _ hs _ _ => t_X9_note h hs x0 x1 x2 x3 σ hk0)
/-! LuteTabsModel.isNote(I)Z -/
theorem dX9_isNote_0 : decode cX9_isNote 0 = .ok (.iload_n 1, 1) := by decide +kernel
theorem dX9_isNote_1 : decode cX9_isNote 1 = .ok (.iconst 0, 1) := by decide +kernel
theorem dX9_isNote_2 : decode cX9_isNote 2 = .ok (.aload_n 0, 1) := by decide +kernel
theorem dX9_isNote_3 : decode cX9_isNote 3 = .ok (.getfield 130, 3) := by decide +kernel
theorem dX9_isNote_6 : decode cX9_isNote 6 = .ok (.iconst 1, 1) := by decide +kernel
theorem dX9_isNote_7 : decode cX9_isNote 7 = .ok (.isub, 1) := by decide +kernel
theorem dX9_isNote_8 : decode cX9_isNote 8 = .ok (.invokestatic 115, 3) := by decide +kernel
theorem dX9_isNote_11 : decode cX9_isNote 11 = .ok (.ireturn, 1) := by decide +kernel
abbrev rm_X9_isNote : Room := { frames := 1, cells := 0, slots := 0, locals := 22 }
def f_X9_isNote (x0 : Nat) (x1 : Int32) (σ : Sg) : Option (Int32 × Sg) := bd (f_X9_in x1 (0 : Int32) ((gI σ x0 10) - (1 : Int32)) σ) fun r2 s1 => ck (b01 r2) (some (r2, s1))
theorem t_X9_isNote {K : Cx} (h : Ok K cX9_isNote RX9 2 rm_X9_isNote (some .boolean)) (hs : kiv K = St) (x0 : Nat) (x1 : Int32) (σ : Sg) (hk0 : kd x0 9) : T K (QI K) 0 [(0, .ref x0), (1, .int x1)] [] 0 0 σ (f_X9_isNote x0 x1 σ) := by
  unfold f_X9_isNote
  refine T_iload_n (pc := 0) h dX9_isNote_0 rfl 1 rfl ?_
  refine T_iconst (pc := 1) h dX9_isNote_1 ki_0 ?_
  refine T_aload_n (pc := 2) h dX9_isNote_2 rfl 0 rfl ?_
  refine T_getI (pc := 3) h hs hk0 fl_X9_130 rfl dX9_isNote_3 ?_
  refine T_iconst (pc := 6) h dX9_isNote_6 ki_1 ?_
  refine T_isub (pc := 7) h dX9_isNote_7 ?_
  refine T_callSi (pc := 8) h (M_X9_in (kl K) hs x1 (0 : Int32) ((gI σ x0 10) - (1 : Int32)) σ ) mst_X9_in ml_X9_115 rfl ⟨Nat.le_of_ble_eq_true rfl, Nat.le_of_ble_eq_true rfl⟩ ⟨Nat.le_refl 0, Nat.le_refl 0⟩ (Nat.le_of_ble_eq_true rfl) dX9_isNote_8 rfl (fun r2 s1 => ?_)
  exact T_zreturn (pc := 11) h (Nat.zero_le _) (Nat.zero_le _) dX9_isNote_11
theorem M_X9_isNote (l : Launch) {iv : Sg → Prop} (hi : iv = St) (x0 : Nat) (x1 : Int32) (σ : Sg) (hk0 : kd x0 9) : CTi l yX9_isNote cX9_isNote 2 (some .boolean) rm_X9_isNote iv [.ref x0, .int x1] σ (f_X9_isNote x0 x1 σ) := by
  subst hi
  exact CT_of (by decide) (Nat.le_of_ble_eq_true rfl) (fun K _ h _ hs _ _ => t_X9_isNote h hs x0 x1 σ hk0)
/-! LuteTabsModel.gone(I)I -/
theorem dX9_gone_0 : decode cX9_gone 0 = .ok (.aload_n 0, 1) := by decide +kernel
theorem dX9_gone_1 : decode cX9_gone 1 = .ok (.iload_n 1, 1) := by decide +kernel
theorem dX9_gone_2 : decode cX9_gone 2 = .ok (.invokevirtual 143, 3) := by decide +kernel
theorem dX9_gone_5 : decode cX9_gone 5 = .ok (.ifCond .ne 6, 3) := by decide +kernel
theorem dX9_gone_8 : decode cX9_gone 8 = .ok (.bipush (-2), 2) := by decide +kernel
theorem dX9_gone_10 : decode cX9_gone 10 = .ok (.ireturn, 1) := by decide +kernel
theorem dX9_gone_11 : decode cX9_gone 11 = .ok (.aload_n 0, 1) := by decide +kernel
theorem dX9_gone_12 : decode cX9_gone 12 = .ok (.dup, 1) := by decide +kernel
theorem dX9_gone_13 : decode cX9_gone 13 = .ok (.getfield 130, 3) := by decide +kernel
theorem dX9_gone_16 : decode cX9_gone 16 = .ok (.iconst 1, 1) := by decide +kernel
theorem dX9_gone_17 : decode cX9_gone 17 = .ok (.isub, 1) := by decide +kernel
theorem dX9_gone_18 : decode cX9_gone 18 = .ok (.putfield 130, 3) := by decide +kernel
theorem dX9_gone_21 : decode cX9_gone 21 = .ok (.iload_n 1, 1) := by decide +kernel
theorem dX9_gone_22 : decode cX9_gone 22 = .ok (.istore_n 2, 1) := by decide +kernel
theorem dX9_gone_23 : decode cX9_gone 23 = .ok (.iload_n 2, 1) := by decide +kernel
theorem dX9_gone_24 : decode cX9_gone 24 = .ok (.aload_n 0, 1) := by decide +kernel
theorem dX9_gone_25 : decode cX9_gone 25 = .ok (.getfield 130, 3) := by decide +kernel
theorem dX9_gone_28 : decode cX9_gone 28 = .ok (.if_icmp .ge 51, 3) := by decide +kernel
theorem dX9_gone_31 : decode cX9_gone 31 = .ok (.aload_n 0, 1) := by decide +kernel
theorem dX9_gone_32 : decode cX9_gone 32 = .ok (.getfield 32, 3) := by decide +kernel
theorem dX9_gone_35 : decode cX9_gone 35 = .ok (.iload_n 2, 1) := by decide +kernel
theorem dX9_gone_36 : decode cX9_gone 36 = .ok (.aload_n 0, 1) := by decide +kernel
theorem dX9_gone_37 : decode cX9_gone 37 = .ok (.getfield 32, 3) := by decide +kernel
theorem dX9_gone_40 : decode cX9_gone 40 = .ok (.iload_n 2, 1) := by decide +kernel
theorem dX9_gone_41 : decode cX9_gone 41 = .ok (.iconst 1, 1) := by decide +kernel
theorem dX9_gone_42 : decode cX9_gone 42 = .ok (.iadd, 1) := by decide +kernel
theorem dX9_gone_43 : decode cX9_gone 43 = .ok (.iaload, 1) := by decide +kernel
theorem dX9_gone_44 : decode cX9_gone 44 = .ok (.iastore, 1) := by decide +kernel
theorem dX9_gone_45 : decode cX9_gone 45 = .ok (.aload_n 0, 1) := by decide +kernel
theorem dX9_gone_46 : decode cX9_gone 46 = .ok (.getfield 35, 3) := by decide +kernel
theorem dX9_gone_49 : decode cX9_gone 49 = .ok (.iload_n 2, 1) := by decide +kernel
theorem dX9_gone_50 : decode cX9_gone 50 = .ok (.aload_n 0, 1) := by decide +kernel
theorem dX9_gone_51 : decode cX9_gone 51 = .ok (.getfield 35, 3) := by decide +kernel
theorem dX9_gone_54 : decode cX9_gone 54 = .ok (.iload_n 2, 1) := by decide +kernel
theorem dX9_gone_55 : decode cX9_gone 55 = .ok (.iconst 1, 1) := by decide +kernel
theorem dX9_gone_56 : decode cX9_gone 56 = .ok (.iadd, 1) := by decide +kernel
theorem dX9_gone_57 : decode cX9_gone 57 = .ok (.iaload, 1) := by decide +kernel
theorem dX9_gone_58 : decode cX9_gone 58 = .ok (.iastore, 1) := by decide +kernel
theorem dX9_gone_59 : decode cX9_gone 59 = .ok (.aload_n 0, 1) := by decide +kernel
theorem dX9_gone_60 : decode cX9_gone 60 = .ok (.getfield 38, 3) := by decide +kernel
theorem dX9_gone_63 : decode cX9_gone 63 = .ok (.iload_n 2, 1) := by decide +kernel
theorem dX9_gone_64 : decode cX9_gone 64 = .ok (.aload_n 0, 1) := by decide +kernel
theorem dX9_gone_65 : decode cX9_gone 65 = .ok (.getfield 38, 3) := by decide +kernel
theorem dX9_gone_68 : decode cX9_gone 68 = .ok (.iload_n 2, 1) := by decide +kernel
theorem dX9_gone_69 : decode cX9_gone 69 = .ok (.iconst 1, 1) := by decide +kernel
theorem dX9_gone_70 : decode cX9_gone 70 = .ok (.iadd, 1) := by decide +kernel
theorem dX9_gone_71 : decode cX9_gone 71 = .ok (.iaload, 1) := by decide +kernel
theorem dX9_gone_72 : decode cX9_gone 72 = .ok (.iastore, 1) := by decide +kernel
theorem dX9_gone_73 : decode cX9_gone 73 = .ok (.iinc 2 1, 3) := by decide +kernel
theorem dX9_gone_76 : decode cX9_gone 76 = .ok (.goto (-53), 3) := by decide +kernel
theorem dX9_gone_79 : decode cX9_gone 79 = .ok (.aload_n 0, 1) := by decide +kernel
theorem dX9_gone_80 : decode cX9_gone 80 = .ok (.invokevirtual 119, 3) := by decide +kernel
theorem dX9_gone_83 : decode cX9_gone 83 = .ok (.aload_n 0, 1) := by decide +kernel
theorem dX9_gone_84 : decode cX9_gone 84 = .ok (.getfield 130, 3) := by decide +kernel
theorem dX9_gone_87 : decode cX9_gone 87 = .ok (.ireturn, 1) := by decide +kernel
abbrev rm_X9_gone : Room := { frames := 2, cells := 0, slots := 0, locals := 43 }
def f_X9_gone_L23  (x0 : Nat) (rec23 : Int32 × Sg → Option (Int32 × Sg)) (s : Int32 × Sg) : Option (Int32 × Sg) := (if (gI (s.2) x0 10) ≤ (s.1) then bd (f_X9_forgets x0 (s.2)) fun _ s1 => some ((gI s1 x0 10), s1) else ck (inb ((s.1) + (1 : Int32)) (aL (gR (s.2) x0 7))) (ck (inb (s.1) (aL (gR (s.2) x0 7))) (lB (pI (s.2) (gR (s.2) x0 7) (s.1).toNatClampNeg (gI (s.2) (gR (s.2) x0 7) ((s.1) + (1 : Int32)).toNatClampNeg)) fun s4 => ck (inb ((s.1) + (1 : Int32)) (aL (gR s4 x0 8))) (ck (inb (s.1) (aL (gR s4 x0 8))) (lB (pI s4 (gR s4 x0 8) (s.1).toNatClampNeg (gI s4 (gR s4 x0 8) ((s.1) + (1 : Int32)).toNatClampNeg)) fun s7 => ck (inb ((s.1) + (1 : Int32)) (aL (gR s7 x0 9))) (ck (inb (s.1) (aL (gR s7 x0 9))) (lB (pI s7 (gR s7 x0 9) (s.1).toNatClampNeg (gI s7 (gR s7 x0 9) ((s.1) + (1 : Int32)).toNatClampNeg)) fun s10 => lB ((s.1) + (1 : Int32)) fun v11 => rec23 (v11, s10))))))))
def f_X9_gone (x0 : Nat) (x1 : Int32) (σ : Sg) : Option (Int32 × Sg) := bd (f_X9_isNote x0 x1 σ) fun r2 s1 => (if r2 = 0 then some ((-2 : Int32), s1) else lB (pI s1 x0 10 ((gI s1 x0 10) - (1 : Int32))) fun s3 => fx (f_X9_gone_L23 x0) FU (x1, s3))
theorem t_X9_gone_L23 {K : Cx} (h : Ok K cX9_gone RX9 3 rm_X9_gone (some .int)) (hs : kiv K = St) (x0 : Nat)  (hk0 : kd x0 9) (rec23 : Int32 × Sg → Option (Int32 × Sg)) (hr23 : ∀ u, T K (QI K) 23 [(0, .ref x0), (2, .int (u.1))] [] 0 0 (u.2) (rec23 u)) (s : Int32 × Sg) : T K (QI K) 23 [(0, .ref x0), (2, .int (s.1))] [] 0 0 (s.2) (f_X9_gone_L23 x0 rec23 s) := by
  unfold f_X9_gone_L23
  refine T_iload_n (pc := 23) h dX9_gone_23 rfl 1 rfl ?_
  refine T_aload_n (pc := 24) h dX9_gone_24 rfl 0 rfl ?_
  refine T_getI (pc := 25) h hs hk0 fl_X9_130 rfl dX9_gone_25 ?_
  refine T_icmp_ge (pc := 28) (tgt := 79) h dX9_gone_28 (by decide) ?_ ?_
  · refine T_aload_n (pc := 79) h dX9_gone_79 rfl 0 rfl ?_
    refine T_callVv (pc := 80) h (M_X9_forgets (kl K) hs x0 (s.2) hk0) mv_X9_forgets hs hk0 ml_X9_119 rfl ⟨Nat.le_of_ble_eq_true rfl, Nat.le_of_ble_eq_true rfl⟩ ⟨Nat.le_refl 0, Nat.le_refl 0⟩ (Nat.le_of_ble_eq_true rfl) dX9_gone_80 rfl (fun _ s1 => ?_)
    refine T_aload_n (pc := 83) h dX9_gone_83 rfl 0 rfl ?_
    refine T_getI (pc := 84) h hs hk0 fl_X9_130 rfl dX9_gone_84 ?_
    exact T_ireturn (pc := 87) h (Nat.zero_le _) (Nat.zero_le _) dX9_gone_87
  · refine T_aload_n (pc := 31) h dX9_gone_31 rfl 0 rfl ?_
    refine T_gR (pc := 32) h hs hk0 fl_X9_32 rfl fk_9_7 dX9_gone_32 (fun hq2 => ?_)
    refine T_iload_n (pc := 35) h dX9_gone_35 rfl 1 rfl ?_
    refine T_aload_n (pc := 36) h dX9_gone_36 rfl 0 rfl ?_
    refine T_gR (pc := 37) h hs hk0 fl_X9_32 rfl fk_9_7 dX9_gone_37 (fun hq3 => ?_)
    refine T_iload_n (pc := 40) h dX9_gone_40 rfl 1 rfl ?_
    refine T_iconst (pc := 41) h dX9_gone_41 ki_1 ?_
    refine T_iadd (pc := 42) h dX9_gone_42 ?_
    refine T_iald (pc := 43) h hs hq3 dX9_gone_43 ?_
    refine T_iast (pc := 44) h hs hq2 dX9_gone_44 ?_
    refine T_letS fun s4 => ?_
    refine T_aload_n (pc := 45) h dX9_gone_45 rfl 0 rfl ?_
    refine T_gR (pc := 46) h hs hk0 fl_X9_35 rfl fk_9_8 dX9_gone_46 (fun hq5 => ?_)
    refine T_iload_n (pc := 49) h dX9_gone_49 rfl 1 rfl ?_
    refine T_aload_n (pc := 50) h dX9_gone_50 rfl 0 rfl ?_
    refine T_gR (pc := 51) h hs hk0 fl_X9_35 rfl fk_9_8 dX9_gone_51 (fun hq6 => ?_)
    refine T_iload_n (pc := 54) h dX9_gone_54 rfl 1 rfl ?_
    refine T_iconst (pc := 55) h dX9_gone_55 ki_1 ?_
    refine T_iadd (pc := 56) h dX9_gone_56 ?_
    refine T_iald (pc := 57) h hs hq6 dX9_gone_57 ?_
    refine T_iast (pc := 58) h hs hq5 dX9_gone_58 ?_
    refine T_letS fun s7 => ?_
    refine T_aload_n (pc := 59) h dX9_gone_59 rfl 0 rfl ?_
    refine T_gR (pc := 60) h hs hk0 fl_X9_38 rfl fk_9_9 dX9_gone_60 (fun hq8 => ?_)
    refine T_iload_n (pc := 63) h dX9_gone_63 rfl 1 rfl ?_
    refine T_aload_n (pc := 64) h dX9_gone_64 rfl 0 rfl ?_
    refine T_gR (pc := 65) h hs hk0 fl_X9_38 rfl fk_9_9 dX9_gone_65 (fun hq9 => ?_)
    refine T_iload_n (pc := 68) h dX9_gone_68 rfl 1 rfl ?_
    refine T_iconst (pc := 69) h dX9_gone_69 ki_1 ?_
    refine T_iadd (pc := 70) h dX9_gone_70 ?_
    refine T_iald (pc := 71) h hs hq9 dX9_gone_71 ?_
    refine T_iast (pc := 72) h hs hq8 dX9_gone_72 ?_
    refine T_letS fun s10 => ?_
    refine T_iinc (fl := fun v11 => [(2, .int v11), (0, .ref x0)]) (pc := 73) h dX9_gone_73 1 rfl ki_1 (by decide) (fun _ => rfl) (fun v11 => ?_)
    refine T_goto (pc := 76) (tgt := 23) h dX9_gone_76 (by decide) ?_
    refine T_sub [1, 0] rfl ?_
    exact hr23 (v11, s10)
theorem t_X9_gone {K : Cx} (h : Ok K cX9_gone RX9 3 rm_X9_gone (some .int)) (hs : kiv K = St) (x0 : Nat) (x1 : Int32) (σ : Sg) (hk0 : kd x0 9) : T K (QI K) 0 [(0, .ref x0), (1, .int x1)] [] 0 0 σ (f_X9_gone x0 x1 σ) := by
  unfold f_X9_gone
  refine T_aload_n (pc := 0) h dX9_gone_0 rfl 0 rfl ?_
  refine T_iload_n (pc := 1) h dX9_gone_1 rfl 1 rfl ?_
  refine T_callVi (pc := 2) h (M_X9_isNote (kl K) hs x0 x1 σ hk0) mv_X9_isNote hs hk0 ml_X9_143 rfl ⟨Nat.le_of_ble_eq_true rfl, Nat.le_of_ble_eq_true rfl⟩ ⟨Nat.le_refl 0, Nat.le_refl 0⟩ (Nat.le_of_ble_eq_true rfl) dX9_gone_2 rfl (fun r2 s1 => ?_)
  refine T_if_ne (pc := 5) (tgt := 11) h dX9_gone_5 (by decide) ?_ ?_
  · refine T_aload_n (pc := 11) h dX9_gone_11 rfl 0 rfl ?_
    refine T_dup (pc := 12) h dX9_gone_12 rfl ?_
    refine T_getI (pc := 13) h hs hk0 fl_X9_130 rfl dX9_gone_13 ?_
    refine T_iconst (pc := 16) h dX9_gone_16 ki_1 ?_
    refine T_isub (pc := 17) h dX9_gone_17 ?_
    refine T_putI (pc := 18) h hs hk0 fl_X9_130 rfl rfl dX9_gone_18 ?_
    refine T_letS fun s3 => ?_
    refine T_iload_n (pc := 21) h dX9_gone_21 rfl 1 rfl ?_
    refine T_istore_n (lv' := [(2, .int x1), (0, .ref x0), (1, .int x1)]) (pc := 22) h dX9_gone_22 rfl (by decide) rfl ?_
    refine T_sub [1, 0] rfl ?_
    exact T_fx (B := f_X9_gone_L23 x0) (fl := fun u => [(0, .ref x0), (2, .int (u.1))]) (f := fun u => (u.2)) (fun rec23 hr23 u => t_X9_gone_L23 h hs x0 hk0 rec23 hr23 u) FU (x1, s3)
  · refine T_bipush (pc := 8) h dX9_gone_8 kb_m2 ?_
    exact T_ireturn (pc := 10) h (Nat.zero_le _) (Nat.zero_le _) dX9_gone_10
theorem M_X9_gone (l : Launch) {iv : Sg → Prop} (hi : iv = St) (x0 : Nat) (x1 : Int32) (σ : Sg) (hk0 : kd x0 9) : CTi l yX9_gone cX9_gone 3 (some .int) rm_X9_gone iv [.ref x0, .int x1] σ (f_X9_gone x0 x1 σ) := by
  subst hi
  exact CT_of (by decide) (Nat.le_of_ble_eq_true rfl) (fun K _ h _ hs _ _ => t_X9_gone h hs x0 x1 σ hk0)
/-! LuteTabsModel.clear()I -/
theorem dX9_clear_0 : decode cX9_clear 0 = .ok (.aload_n 0, 1) := by decide +kernel
theorem dX9_clear_1 : decode cX9_clear 1 = .ok (.getfield 130, 3) := by decide +kernel
theorem dX9_clear_4 : decode cX9_clear 4 = .ok (.istore_n 1, 1) := by decide +kernel
theorem dX9_clear_5 : decode cX9_clear 5 = .ok (.aload_n 0, 1) := by decide +kernel
theorem dX9_clear_6 : decode cX9_clear 6 = .ok (.iconst 0, 1) := by decide +kernel
theorem dX9_clear_7 : decode cX9_clear 7 = .ok (.putfield 130, 3) := by decide +kernel
theorem dX9_clear_10 : decode cX9_clear 10 = .ok (.aload_n 0, 1) := by decide +kernel
theorem dX9_clear_11 : decode cX9_clear 11 = .ok (.invokevirtual 119, 3) := by decide +kernel
theorem dX9_clear_14 : decode cX9_clear 14 = .ok (.iload_n 1, 1) := by decide +kernel
theorem dX9_clear_15 : decode cX9_clear 15 = .ok (.ireturn, 1) := by decide +kernel
abbrev rm_X9_clear : Room := { frames := 1, cells := 0, slots := 0, locals := 21 }
def f_X9_clear (x0 : Nat) (σ : Sg) : Option (Int32 × Sg) := lB ((gI σ x0 10)) fun v1 => lB (pI σ x0 10 (0 : Int32)) fun s2 => bd (f_X9_forgets x0 s2) fun _ s3 => some (v1, s3)
theorem t_X9_clear {K : Cx} (h : Ok K cX9_clear RX9 2 rm_X9_clear (some .int)) (hs : kiv K = St) (x0 : Nat) (σ : Sg) (hk0 : kd x0 9) : T K (QI K) 0 [(0, .ref x0)] [] 0 0 σ (f_X9_clear x0 σ) := by
  unfold f_X9_clear
  refine T_aload_n (pc := 0) h dX9_clear_0 rfl 0 rfl ?_
  refine T_getI (pc := 1) h hs hk0 fl_X9_130 rfl dX9_clear_1 ?_
  refine T_letI fun v1 => ?_
  refine T_istore_n (lv' := [(1, .int v1), (0, .ref x0)]) (pc := 4) h dX9_clear_4 rfl (by decide) rfl ?_
  refine T_aload_n (pc := 5) h dX9_clear_5 rfl 1 rfl ?_
  refine T_iconst (pc := 6) h dX9_clear_6 ki_0 ?_
  refine T_putI (pc := 7) h hs hk0 fl_X9_130 rfl rfl dX9_clear_7 ?_
  refine T_letS fun s2 => ?_
  refine T_aload_n (pc := 10) h dX9_clear_10 rfl 1 rfl ?_
  refine T_callVv (pc := 11) h (M_X9_forgets (kl K) hs x0 s2 hk0) mv_X9_forgets hs hk0 ml_X9_119 rfl ⟨Nat.le_of_ble_eq_true rfl, Nat.le_of_ble_eq_true rfl⟩ ⟨Nat.le_refl 0, Nat.le_refl 0⟩ (Nat.le_of_ble_eq_true rfl) dX9_clear_11 rfl (fun _ s3 => ?_)
  refine T_iload_n (pc := 14) h dX9_clear_14 rfl 0 rfl ?_
  exact T_ireturn (pc := 15) h (Nat.zero_le _) (Nat.zero_le _) dX9_clear_15
theorem M_X9_clear (l : Launch) {iv : Sg → Prop} (hi : iv = St) (x0 : Nat) (σ : Sg) (hk0 : kd x0 9) : CTi l yX9_clear cX9_clear 2 (some .int) rm_X9_clear iv [.ref x0] σ (f_X9_clear x0 σ) := by
  subst hi
  exact CT_of (by decide) (Nat.le_of_ble_eq_true rfl) (fun K _ h _ hs _ _ => t_X9_clear h hs x0 σ hk0)
/-! LuteTabsModel.small(I)I -/
theorem dX9_small_0 : decode cX9_small 0 = .ok (.aload_n 0, 1) := by decide +kernel
theorem dX9_small_1 : decode cX9_small 1 = .ok (.getfield 102, 3) := by decide +kernel
theorem dX9_small_4 : decode cX9_small 4 = .ok (.iload_n 1, 1) := by decide +kernel
theorem dX9_small_5 : decode cX9_small 5 = .ok (.laload, 1) := by decide +kernel
theorem dX9_small_6 : decode cX9_small 6 = .ok (.lconst 0, 1) := by decide +kernel
theorem dX9_small_7 : decode cX9_small 7 = .ok (.lcmp, 1) := by decide +kernel
theorem dX9_small_8 : decode cX9_small 8 = .ok (.ifCond .lt 16, 3) := by decide +kernel
theorem dX9_small_11 : decode cX9_small 11 = .ok (.aload_n 0, 1) := by decide +kernel
theorem dX9_small_12 : decode cX9_small 12 = .ok (.getfield 102, 3) := by decide +kernel
theorem dX9_small_15 : decode cX9_small 15 = .ok (.iload_n 1, 1) := by decide +kernel
theorem dX9_small_16 : decode cX9_small 16 = .ok (.laload, 1) := by decide +kernel
theorem dX9_small_17 : decode cX9_small 17 = .ok (.ldc2_w 146, 3) := by decide +kernel
theorem dX9_small_20 : decode cX9_small 20 = .ok (.lcmp, 1) := by decide +kernel
theorem dX9_small_21 : decode cX9_small 21 = .ok (.ifCond .le 7, 3) := by decide +kernel
theorem dX9_small_24 : decode cX9_small 24 = .ok (.iconst (-1), 1) := by decide +kernel
theorem dX9_small_25 : decode cX9_small 25 = .ok (.goto 10, 3) := by decide +kernel
theorem dX9_small_28 : decode cX9_small 28 = .ok (.aload_n 0, 1) := by decide +kernel
theorem dX9_small_29 : decode cX9_small 29 = .ok (.getfield 102, 3) := by decide +kernel
theorem dX9_small_32 : decode cX9_small 32 = .ok (.iload_n 1, 1) := by decide +kernel
theorem dX9_small_33 : decode cX9_small 33 = .ok (.laload, 1) := by decide +kernel
theorem dX9_small_34 : decode cX9_small 34 = .ok (.l2i, 1) := by decide +kernel
theorem dX9_small_35 : decode cX9_small 35 = .ok (.ireturn, 1) := by decide +kernel
abbrev rm_X9_small : Room := { frames := 0, cells := 0, slots := 0, locals := 0 }
def f_X9_small_L35   (y0 : Int32) (σ : Sg) : Option (Int32 × Sg) := some (y0, σ)
def f_X9_small_L24    (σ : Sg) : Option (Int32 × Sg) := f_X9_small_L35 (-1 : Int32) σ
def f_X9_small (x0 : Nat) (x1 : Int32) (σ : Sg) : Option (Int32 × Sg) := ck (inb x1 (aL (gR σ x0 46))) ((if (lg_cmp (gL σ (gR σ x0 46) x1.toNatClampNeg) (0 : Int64)) < 0 then f_X9_small_L24 σ else ck (inb x1 (aL (gR σ x0 46))) ((if (lg_cmp (gL σ (gR σ x0 46) x1.toNatClampNeg) (200 : Int64)) ≤ 0 then ck (inb x1 (aL (gR σ x0 46))) (f_X9_small_L35 ((gL σ (gR σ x0 46) x1.toNatClampNeg).toInt32) σ) else f_X9_small_L24 σ))))
theorem t_X9_small_L35 {K : Cx} (h : Ok K cX9_small RX9 2 rm_X9_small (some .int)) (hs : kiv K = St)  (y0 : Int32) (σ : Sg)    : T K (QI K) 35 [] [.int y0] 0 0 σ (f_X9_small_L35 y0 σ) := by
  unfold f_X9_small_L35
  exact T_ireturn (pc := 35) h (Nat.zero_le _) (Nat.zero_le _) dX9_small_35
theorem t_X9_small_L24 {K : Cx} (h : Ok K cX9_small RX9 2 rm_X9_small (some .int)) (hs : kiv K = St)   (σ : Sg)    : T K (QI K) 24 [] [] 0 0 σ (f_X9_small_L24 σ) := by
  unfold f_X9_small_L24
  refine T_iconst (pc := 24) h dX9_small_24 ki_m1 ?_
  refine T_goto (pc := 25) (tgt := 35) h dX9_small_25 (by decide) ?_
  refine T_sub [] rfl ?_
  exact t_X9_small_L35 h hs (-1 : Int32) σ
theorem t_X9_small {K : Cx} (h : Ok K cX9_small RX9 2 rm_X9_small (some .int)) (hs : kiv K = St) (x0 : Nat) (x1 : Int32) (σ : Sg) (hk0 : kd x0 9) : T K (QI K) 0 [(0, .ref x0), (1, .int x1)] [] 0 0 σ (f_X9_small x0 x1 σ) := by
  unfold f_X9_small
  refine T_aload_n (pc := 0) h dX9_small_0 rfl 0 rfl ?_
  refine T_gR (pc := 1) h hs hk0 fl_X9_102 rfl fk_9_46 dX9_small_1 (fun hq1 => ?_)
  refine T_iload_n (pc := 4) h dX9_small_4 rfl 1 rfl ?_
  refine T_lald (pc := 5) h hs hq1 dX9_small_5 ?_
  refine T_lconst (pc := 6) h dX9_small_6 kl_0 ?_
  refine T_lcmp (pc := 7) h dX9_small_7 ?_
  refine T_if_lt (pc := 8) (tgt := 24) h dX9_small_8 (by decide) ?_ ?_
  · refine T_sub [] rfl ?_
    exact t_X9_small_L24 h hs σ
  · refine T_aload_n (pc := 11) h dX9_small_11 rfl 0 rfl ?_
    refine T_gR (pc := 12) h hs hk0 fl_X9_102 rfl fk_9_46 dX9_small_12 (fun hq2 => ?_)
    refine T_iload_n (pc := 15) h dX9_small_15 rfl 1 rfl ?_
    refine T_lald (pc := 16) h hs hq2 dX9_small_16 ?_
    refine T_ldc2 (pc := 17) h kc_X9_146 dX9_small_17 ?_
    refine T_lcmp (pc := 20) h dX9_small_20 ?_
    refine T_if_le (pc := 21) (tgt := 28) h dX9_small_21 (by decide) ?_ ?_
    · refine T_aload_n (pc := 28) h dX9_small_28 rfl 0 rfl ?_
      refine T_gR (pc := 29) h hs hk0 fl_X9_102 rfl fk_9_46 dX9_small_29 (fun hq3 => ?_)
      refine T_iload_n (pc := 32) h dX9_small_32 rfl 1 rfl ?_
      refine T_lald (pc := 33) h hs hq3 dX9_small_33 ?_
      refine T_l2i (pc := 34) h dX9_small_34 ?_
      refine T_sub [] rfl ?_
      exact t_X9_small_L35 h hs ((gL σ (gR σ x0 46) x1.toNatClampNeg).toInt32) σ
    · refine T_sub [] rfl ?_
      exact t_X9_small_L24 h hs σ
theorem M_X9_small (l : Launch) {iv : Sg → Prop} (hi : iv = St) (x0 : Nat) (x1 : Int32) (σ : Sg) (hk0 : kd x0 9) : CTi l yX9_small cX9_small 2 (some .int) rm_X9_small iv [.ref x0, .int x1] σ (f_X9_small x0 x1 σ) := by
  subst hi
  exact CT_of (by decide) (Nat.le_of_ble_eq_true rfl) (fun K _ h _ hs _ _ => t_X9_small h hs x0 x1 σ hk0)
/-! LuteTabsModel.isSheet(I)Z -/
theorem dX9_isSheet_0 : decode cX9_isSheet 0 = .ok (.iload_n 0, 1) := by decide +kernel
theorem dX9_isSheet_1 : decode cX9_isSheet 1 = .ok (.iconst 0, 1) := by decide +kernel
theorem dX9_isSheet_2 : decode cX9_isSheet 2 = .ok (.iconst 3, 1) := by decide +kernel
theorem dX9_isSheet_3 : decode cX9_isSheet 3 = .ok (.invokestatic 115, 3) := by decide +kernel
theorem dX9_isSheet_6 : decode cX9_isSheet 6 = .ok (.ireturn, 1) := by decide +kernel
abbrev rm_X9_isSheet : Room := { frames := 1, cells := 0, slots := 0, locals := 22 }
def f_X9_isSheet (x0 : Int32) (σ : Sg) : Option (Int32 × Sg) := bd (f_X9_in x0 (0 : Int32) (3 : Int32) σ) fun r2 s1 => ck (b01 r2) (some (r2, s1))
theorem t_X9_isSheet {K : Cx} (h : Ok K cX9_isSheet RX9 1 rm_X9_isSheet (some .boolean)) (hs : kiv K = St) (x0 : Int32) (σ : Sg)  : T K (QI K) 0 [(0, .int x0)] [] 0 0 σ (f_X9_isSheet x0 σ) := by
  unfold f_X9_isSheet
  refine T_iload_n (pc := 0) h dX9_isSheet_0 rfl 0 rfl ?_
  refine T_iconst (pc := 1) h dX9_isSheet_1 ki_0 ?_
  refine T_iconst (pc := 2) h dX9_isSheet_2 ki_3 ?_
  refine T_callSi (pc := 3) h (M_X9_in (kl K) hs x0 (0 : Int32) (3 : Int32) σ ) mst_X9_in ml_X9_115 rfl ⟨Nat.le_of_ble_eq_true rfl, Nat.le_of_ble_eq_true rfl⟩ ⟨Nat.le_refl 0, Nat.le_refl 0⟩ (Nat.le_of_ble_eq_true rfl) dX9_isSheet_3 rfl (fun r2 s1 => ?_)
  exact T_zreturn (pc := 6) h (Nat.zero_le _) (Nat.zero_le _) dX9_isSheet_6
theorem M_X9_isSheet (l : Launch) {iv : Sg → Prop} (hi : iv = St) (x0 : Int32) (σ : Sg)  : CTi l yX9_isSheet cX9_isSheet 1 (some .boolean) rm_X9_isSheet iv [.int x0] σ (f_X9_isSheet x0 σ) := by
  subst hi
  exact CT_of (by decide) (Nat.le_of_ble_eq_true rfl) (fun K _ h _ hs _ _ => t_X9_isSheet h hs x0 σ )
/-! LuteTabsModel.meets(I)I -/
theorem dX9_meets_0 : decode cX9_meets 0 = .ok (.aload_n 0, 1) := by decide +kernel
theorem dX9_meets_1 : decode cX9_meets 1 = .ok (.iload_n 1, 1) := by decide +kernel
theorem dX9_meets_2 : decode cX9_meets 2 = .ok (.putfield 325, 3) := by decide +kernel
theorem dX9_meets_5 : decode cX9_meets 5 = .ok (.bipush (-10), 2) := by decide +kernel
theorem dX9_meets_7 : decode cX9_meets 7 = .ok (.iload_n 1, 1) := by decide +kernel
theorem dX9_meets_8 : decode cX9_meets 8 = .ok (.isub, 1) := by decide +kernel
theorem dX9_meets_9 : decode cX9_meets 9 = .ok (.ireturn, 1) := by decide +kernel
abbrev rm_X9_meets : Room := { frames := 0, cells := 0, slots := 0, locals := 0 }
def f_X9_meets (x0 : Nat) (x1 : Int32) (σ : Sg) : Option (Int32 × Sg) := lB (pI σ x0 48 x1) fun s1 => some (((-10 : Int32) - x1), s1)
theorem t_X9_meets {K : Cx} (h : Ok K cX9_meets RX9 2 rm_X9_meets (some .int)) (hs : kiv K = St) (x0 : Nat) (x1 : Int32) (σ : Sg) (hk0 : kd x0 9) : T K (QI K) 0 [(0, .ref x0), (1, .int x1)] [] 0 0 σ (f_X9_meets x0 x1 σ) := by
  unfold f_X9_meets
  refine T_aload_n (pc := 0) h dX9_meets_0 rfl 0 rfl ?_
  refine T_iload_n (pc := 1) h dX9_meets_1 rfl 1 rfl ?_
  refine T_putI (pc := 2) h hs hk0 fl_X9_325 rfl rfl dX9_meets_2 ?_
  refine T_letS fun s1 => ?_
  refine T_bipush (pc := 5) h dX9_meets_5 kb_m10 ?_
  refine T_iload_n (pc := 7) h dX9_meets_7 rfl 1 rfl ?_
  refine T_isub (pc := 8) h dX9_meets_8 ?_
  exact T_ireturn (pc := 9) h (Nat.zero_le _) (Nat.zero_le _) dX9_meets_9
theorem M_X9_meets (l : Launch) {iv : Sg → Prop} (hi : iv = St) (x0 : Nat) (x1 : Int32) (σ : Sg) (hk0 : kd x0 9) : CTi l yX9_meets cX9_meets 2 (some .int) rm_X9_meets iv [.ref x0, .int x1] σ (f_X9_meets x0 x1 σ) := by
  subst hi
  exact CT_of (by decide) (Nat.le_of_ble_eq_true rfl) (fun K _ h _ hs _ _ => t_X9_meets h hs x0 x1 σ hk0)
/-! LuteTabsModel.read(I)I -/
theorem dX9_read_0 : decode cX9_read 0 = .ok (.iload_n 1, 1) := by decide +kernel
theorem dX9_read_1 : decode cX9_read 1 = .ok (.invokestatic 148, 3) := by decide +kernel
theorem dX9_read_4 : decode cX9_read 4 = .ok (.ifCond .ne 6, 3) := by decide +kernel
theorem dX9_read_7 : decode cX9_read 7 = .ok (.bipush (-2), 2) := by decide +kernel
theorem dX9_read_9 : decode cX9_read 9 = .ok (.ireturn, 1) := by decide +kernel
theorem dX9_read_10 : decode cX9_read 10 = .ok (.aload_n 0, 1) := by decide +kernel
theorem dX9_read_11 : decode cX9_read 11 = .ok (.getfield 96, 3) := by decide +kernel
theorem dX9_read_14 : decode cX9_read 14 = .ok (.iload_n 1, 1) := by decide +kernel
theorem dX9_read_15 : decode cX9_read 15 = .ok (.iaload, 1) := by decide +kernel
theorem dX9_read_16 : decode cX9_read 16 = .ok (.iconst (-1), 1) := by decide +kernel
theorem dX9_read_17 : decode cX9_read 17 = .ok (.if_icmp .ne 9, 3) := by decide +kernel
theorem dX9_read_20 : decode cX9_read 20 = .ok (.aload_n 0, 1) := by decide +kernel
theorem dX9_read_21 : decode cX9_read 21 = .ok (.iconst 1, 1) := by decide +kernel
theorem dX9_read_22 : decode cX9_read 22 = .ok (.invokevirtual 151, 3) := by decide +kernel
theorem dX9_read_25 : decode cX9_read 25 = .ok (.ireturn, 1) := by decide +kernel
theorem dX9_read_26 : decode cX9_read 26 = .ok (.aload_n 0, 1) := by decide +kernel
theorem dX9_read_27 : decode cX9_read 27 = .ok (.invokevirtual 119, 3) := by decide +kernel
theorem dX9_read_30 : decode cX9_read 30 = .ok (.iconst 0, 1) := by decide +kernel
theorem dX9_read_31 : decode cX9_read 31 = .ok (.istore_n 2, 1) := by decide +kernel
theorem dX9_read_32 : decode cX9_read 32 = .ok (.iconst 3, 1) := by decide +kernel
theorem dX9_read_33 : decode cX9_read 33 = .ok (.iload_n 2, 1) := by decide +kernel
theorem dX9_read_34 : decode cX9_read 34 = .ok (.imul, 1) := by decide +kernel
theorem dX9_read_35 : decode cX9_read 35 = .ok (.iconst 2, 1) := by decide +kernel
theorem dX9_read_36 : decode cX9_read 36 = .ok (.iadd, 1) := by decide +kernel
theorem dX9_read_37 : decode cX9_read 37 = .ok (.aload_n 0, 1) := by decide +kernel
theorem dX9_read_38 : decode cX9_read 38 = .ok (.getfield 99, 3) := by decide +kernel
theorem dX9_read_41 : decode cX9_read 41 = .ok (.iload_n 1, 1) := by decide +kernel
theorem dX9_read_42 : decode cX9_read 42 = .ok (.iaload, 1) := by decide +kernel
theorem dX9_read_43 : decode cX9_read 43 = .ok (.if_icmp .ge 56, 3) := by decide +kernel
theorem dX9_read_46 : decode cX9_read 46 = .ok (.aload_n 0, 1) := by decide +kernel
theorem dX9_read_47 : decode cX9_read 47 = .ok (.aload_n 0, 1) := by decide +kernel
theorem dX9_read_48 : decode cX9_read 48 = .ok (.bipush 48, 2) := by decide +kernel
theorem dX9_read_50 : decode cX9_read 50 = .ok (.iload_n 1, 1) := by decide +kernel
theorem dX9_read_51 : decode cX9_read 51 = .ok (.imul, 1) := by decide +kernel
theorem dX9_read_52 : decode cX9_read 52 = .ok (.iconst 3, 1) := by decide +kernel
theorem dX9_read_53 : decode cX9_read 53 = .ok (.iload_n 2, 1) := by decide +kernel
theorem dX9_read_54 : decode cX9_read 54 = .ok (.imul, 1) := by decide +kernel
theorem dX9_read_55 : decode cX9_read 55 = .ok (.iadd, 1) := by decide +kernel
theorem dX9_read_56 : decode cX9_read 56 = .ok (.invokevirtual 154, 3) := by decide +kernel
theorem dX9_read_59 : decode cX9_read 59 = .ok (.aload_n 0, 1) := by decide +kernel
theorem dX9_read_60 : decode cX9_read 60 = .ok (.bipush 48, 2) := by decide +kernel
theorem dX9_read_62 : decode cX9_read 62 = .ok (.iload_n 1, 1) := by decide +kernel
theorem dX9_read_63 : decode cX9_read 63 = .ok (.imul, 1) := by decide +kernel
theorem dX9_read_64 : decode cX9_read 64 = .ok (.iconst 3, 1) := by decide +kernel
theorem dX9_read_65 : decode cX9_read 65 = .ok (.iload_n 2, 1) := by decide +kernel
theorem dX9_read_66 : decode cX9_read 66 = .ok (.imul, 1) := by decide +kernel
theorem dX9_read_67 : decode cX9_read 67 = .ok (.iadd, 1) := by decide +kernel
theorem dX9_read_68 : decode cX9_read 68 = .ok (.iconst 1, 1) := by decide +kernel
theorem dX9_read_69 : decode cX9_read 69 = .ok (.iadd, 1) := by decide +kernel
theorem dX9_read_70 : decode cX9_read 70 = .ok (.invokevirtual 154, 3) := by decide +kernel
theorem dX9_read_73 : decode cX9_read 73 = .ok (.aload_n 0, 1) := by decide +kernel
theorem dX9_read_74 : decode cX9_read 74 = .ok (.bipush 48, 2) := by decide +kernel
theorem dX9_read_76 : decode cX9_read 76 = .ok (.iload_n 1, 1) := by decide +kernel
theorem dX9_read_77 : decode cX9_read 77 = .ok (.imul, 1) := by decide +kernel
theorem dX9_read_78 : decode cX9_read 78 = .ok (.iconst 3, 1) := by decide +kernel
theorem dX9_read_79 : decode cX9_read 79 = .ok (.iload_n 2, 1) := by decide +kernel
theorem dX9_read_80 : decode cX9_read 80 = .ok (.imul, 1) := by decide +kernel
theorem dX9_read_81 : decode cX9_read 81 = .ok (.iadd, 1) := by decide +kernel
theorem dX9_read_82 : decode cX9_read 82 = .ok (.iconst 2, 1) := by decide +kernel
theorem dX9_read_83 : decode cX9_read 83 = .ok (.iadd, 1) := by decide +kernel
theorem dX9_read_84 : decode cX9_read 84 = .ok (.invokevirtual 154, 3) := by decide +kernel
theorem dX9_read_87 : decode cX9_read 87 = .ok (.invokevirtual 140, 3) := by decide +kernel
theorem dX9_read_90 : decode cX9_read 90 = .ok (.ifCond .lt 9, 3) := by decide +kernel
theorem dX9_read_93 : decode cX9_read 93 = .ok (.iinc 2 1, 3) := by decide +kernel
theorem dX9_read_96 : decode cX9_read 96 = .ok (.goto (-64), 3) := by decide +kernel
theorem dX9_read_99 : decode cX9_read 99 = .ok (.iload_n 2, 1) := by decide +kernel
theorem dX9_read_100 : decode cX9_read 100 = .ok (.ireturn, 1) := by decide +kernel
abbrev rm_X9_read : Room := { frames := 2, cells := 0, slots := 0, locals := 47 }
def f_X9_read_L99  (x2 : Int32)  (σ : Sg) : Option (Int32 × Sg) := some (x2, σ)
def f_X9_read_L32  (x0 : Nat) (x1 : Int32) (rec32 : Int32 × Sg → Option (Int32 × Sg)) (s : Int32 × Sg) : Option (Int32 × Sg) := ck (inb x1 (aL (gR (s.2) x0 45))) ((if (gI (s.2) (gR (s.2) x0 45) x1.toNatClampNeg) ≤ (((3 : Int32) * (s.1)) + (2 : Int32)) then f_X9_read_L99 (s.1) (s.2) else bd (f_X9_small x0 (((48 : Int32) * x1) + ((3 : Int32) * (s.1))) (s.2)) fun r3 s2 => bd (f_X9_small x0 ((((48 : Int32) * x1) + ((3 : Int32) * (s.1))) + (1 : Int32)) s2) fun r5 s4 => bd (f_X9_small x0 ((((48 : Int32) * x1) + ((3 : Int32) * (s.1))) + (2 : Int32)) s4) fun r7 s6 => bd (f_X9_adds x0 r3 r5 r7 s6) fun r9 s8 => (if r9 < 0 then f_X9_read_L99 (s.1) s8 else lB ((s.1) + (1 : Int32)) fun v10 => rec32 (v10, s8))))
def f_X9_read (x0 : Nat) (x1 : Int32) (σ : Sg) : Option (Int32 × Sg) := bd (f_X9_isSheet x1 σ) fun r2 s1 => (if r2 = 0 then some ((-2 : Int32), s1) else ck (inb x1 (aL (gR s1 x0 44))) ((if (gI s1 (gR s1 x0 44) x1.toNatClampNeg) = (-1 : Int32) then bd (f_X9_meets x0 (1 : Int32) s1) fun r6 s5 => some (r6, s5) else bd (f_X9_forgets x0 s1) fun _ s4 => fx (f_X9_read_L32 x0 x1) FU ((0 : Int32), s4))))
theorem t_X9_read_L99 {K : Cx} (h : Ok K cX9_read RX9 3 rm_X9_read (some .int)) (hs : kiv K = St) (x2 : Int32)  (σ : Sg)    : T K (QI K) 99 [(2, .int x2)] [] 0 0 σ (f_X9_read_L99 x2 σ) := by
  unfold f_X9_read_L99
  refine T_iload_n (pc := 99) h dX9_read_99 rfl 0 rfl ?_
  exact T_ireturn (pc := 100) h (Nat.zero_le _) (Nat.zero_le _) dX9_read_100
theorem t_X9_read_L32 {K : Cx} (h : Ok K cX9_read RX9 3 rm_X9_read (some .int)) (hs : kiv K = St) (x0 : Nat) (x1 : Int32)  (hk0 : kd x0 9) (rec32 : Int32 × Sg → Option (Int32 × Sg)) (hr32 : ∀ u, T K (QI K) 32 [(0, .ref x0), (1, .int x1), (2, .int (u.1))] [] 0 0 (u.2) (rec32 u)) (s : Int32 × Sg) : T K (QI K) 32 [(0, .ref x0), (1, .int x1), (2, .int (s.1))] [] 0 0 (s.2) (f_X9_read_L32 x0 x1 rec32 s) := by
  unfold f_X9_read_L32
  refine T_iconst (pc := 32) h dX9_read_32 ki_3 ?_
  refine T_iload_n (pc := 33) h dX9_read_33 rfl 2 rfl ?_
  refine T_imul (pc := 34) h dX9_read_34 ?_
  refine T_iconst (pc := 35) h dX9_read_35 ki_2 ?_
  refine T_iadd (pc := 36) h dX9_read_36 ?_
  refine T_aload_n (pc := 37) h dX9_read_37 rfl 0 rfl ?_
  refine T_gR (pc := 38) h hs hk0 fl_X9_99 rfl fk_9_45 dX9_read_38 (fun hq1 => ?_)
  refine T_iload_n (pc := 41) h dX9_read_41 rfl 1 rfl ?_
  refine T_iald (pc := 42) h hs hq1 dX9_read_42 ?_
  refine T_icmp_ge (pc := 43) (tgt := 99) h dX9_read_43 (by decide) ?_ ?_
  · refine T_sub [2] rfl ?_
    exact t_X9_read_L99 h hs (s.1) (s.2)
  · refine T_aload_n (pc := 46) h dX9_read_46 rfl 0 rfl ?_
    refine T_aload_n (pc := 47) h dX9_read_47 rfl 0 rfl ?_
    refine T_bipush (pc := 48) h dX9_read_48 kb_48 ?_
    refine T_iload_n (pc := 50) h dX9_read_50 rfl 1 rfl ?_
    refine T_imul (pc := 51) h dX9_read_51 ?_
    refine T_iconst (pc := 52) h dX9_read_52 ki_3 ?_
    refine T_iload_n (pc := 53) h dX9_read_53 rfl 2 rfl ?_
    refine T_imul (pc := 54) h dX9_read_54 ?_
    refine T_iadd (pc := 55) h dX9_read_55 ?_
    refine T_callVi (pc := 56) h (M_X9_small (kl K) hs x0 (((48 : Int32) * x1) + ((3 : Int32) * (s.1))) (s.2) hk0) mv_X9_small hs hk0 ml_X9_154 rfl ⟨Nat.le_of_ble_eq_true rfl, Nat.le_of_ble_eq_true rfl⟩ ⟨Nat.le_refl 0, Nat.le_refl 0⟩ (Nat.le_of_ble_eq_true rfl) dX9_read_56 rfl (fun r3 s2 => ?_)
    refine T_aload_n (pc := 59) h dX9_read_59 rfl 0 rfl ?_
    refine T_bipush (pc := 60) h dX9_read_60 kb_48 ?_
    refine T_iload_n (pc := 62) h dX9_read_62 rfl 1 rfl ?_
    refine T_imul (pc := 63) h dX9_read_63 ?_
    refine T_iconst (pc := 64) h dX9_read_64 ki_3 ?_
    refine T_iload_n (pc := 65) h dX9_read_65 rfl 2 rfl ?_
    refine T_imul (pc := 66) h dX9_read_66 ?_
    refine T_iadd (pc := 67) h dX9_read_67 ?_
    refine T_iconst (pc := 68) h dX9_read_68 ki_1 ?_
    refine T_iadd (pc := 69) h dX9_read_69 ?_
    refine T_callVi (pc := 70) h (M_X9_small (kl K) hs x0 ((((48 : Int32) * x1) + ((3 : Int32) * (s.1))) + (1 : Int32)) s2 hk0) mv_X9_small hs hk0 ml_X9_154 rfl ⟨Nat.le_of_ble_eq_true rfl, Nat.le_of_ble_eq_true rfl⟩ ⟨Nat.le_refl 0, Nat.le_refl 0⟩ (Nat.le_of_ble_eq_true rfl) dX9_read_70 rfl (fun r5 s4 => ?_)
    refine T_aload_n (pc := 73) h dX9_read_73 rfl 0 rfl ?_
    refine T_bipush (pc := 74) h dX9_read_74 kb_48 ?_
    refine T_iload_n (pc := 76) h dX9_read_76 rfl 1 rfl ?_
    refine T_imul (pc := 77) h dX9_read_77 ?_
    refine T_iconst (pc := 78) h dX9_read_78 ki_3 ?_
    refine T_iload_n (pc := 79) h dX9_read_79 rfl 2 rfl ?_
    refine T_imul (pc := 80) h dX9_read_80 ?_
    refine T_iadd (pc := 81) h dX9_read_81 ?_
    refine T_iconst (pc := 82) h dX9_read_82 ki_2 ?_
    refine T_iadd (pc := 83) h dX9_read_83 ?_
    refine T_callVi (pc := 84) h (M_X9_small (kl K) hs x0 ((((48 : Int32) * x1) + ((3 : Int32) * (s.1))) + (2 : Int32)) s4 hk0) mv_X9_small hs hk0 ml_X9_154 rfl ⟨Nat.le_of_ble_eq_true rfl, Nat.le_of_ble_eq_true rfl⟩ ⟨Nat.le_refl 0, Nat.le_refl 0⟩ (Nat.le_of_ble_eq_true rfl) dX9_read_84 rfl (fun r7 s6 => ?_)
    refine T_callVi (pc := 87) h (M_X9_adds (kl K) hs x0 r3 r5 r7 s6 hk0) mv_X9_adds hs hk0 ml_X9_140 rfl ⟨Nat.le_of_ble_eq_true rfl, Nat.le_of_ble_eq_true rfl⟩ ⟨Nat.le_refl 0, Nat.le_refl 0⟩ (Nat.le_of_ble_eq_true rfl) dX9_read_87 rfl (fun r9 s8 => ?_)
    refine T_if_lt (pc := 90) (tgt := 99) h dX9_read_90 (by decide) ?_ ?_
    · refine T_sub [2] rfl ?_
      exact t_X9_read_L99 h hs (s.1) s8
    · refine T_iinc (fl := fun v10 => [(2, .int v10), (0, .ref x0), (1, .int x1)]) (pc := 93) h dX9_read_93 2 rfl ki_1 (by decide) (fun _ => rfl) (fun v10 => ?_)
      refine T_goto (pc := 96) (tgt := 32) h dX9_read_96 (by decide) ?_
      refine T_sub [1, 2, 0] rfl ?_
      exact hr32 (v10, s8)
theorem t_X9_read {K : Cx} (h : Ok K cX9_read RX9 3 rm_X9_read (some .int)) (hs : kiv K = St) (x0 : Nat) (x1 : Int32) (σ : Sg) (hk0 : kd x0 9) : T K (QI K) 0 [(0, .ref x0), (1, .int x1)] [] 0 0 σ (f_X9_read x0 x1 σ) := by
  unfold f_X9_read
  refine T_iload_n (pc := 0) h dX9_read_0 rfl 1 rfl ?_
  refine T_callSi (pc := 1) h (M_X9_isSheet (kl K) hs x1 σ ) mst_X9_isSheet ml_X9_148 rfl ⟨Nat.le_of_ble_eq_true rfl, Nat.le_of_ble_eq_true rfl⟩ ⟨Nat.le_refl 0, Nat.le_refl 0⟩ (Nat.le_of_ble_eq_true rfl) dX9_read_1 rfl (fun r2 s1 => ?_)
  refine T_if_ne (pc := 4) (tgt := 10) h dX9_read_4 (by decide) ?_ ?_
  · refine T_aload_n (pc := 10) h dX9_read_10 rfl 0 rfl ?_
    refine T_gR (pc := 11) h hs hk0 fl_X9_96 rfl fk_9_44 dX9_read_11 (fun hq3 => ?_)
    refine T_iload_n (pc := 14) h dX9_read_14 rfl 1 rfl ?_
    refine T_iald (pc := 15) h hs hq3 dX9_read_15 ?_
    refine T_iconst (pc := 16) h dX9_read_16 ki_m1 ?_
    refine T_icmp_ne (pc := 17) (tgt := 26) h dX9_read_17 (by decide) ?_ ?_
    · refine T_aload_n (pc := 26) h dX9_read_26 rfl 0 rfl ?_
      refine T_callVv (pc := 27) h (M_X9_forgets (kl K) hs x0 s1 hk0) mv_X9_forgets hs hk0 ml_X9_119 rfl ⟨Nat.le_of_ble_eq_true rfl, Nat.le_of_ble_eq_true rfl⟩ ⟨Nat.le_refl 0, Nat.le_refl 0⟩ (Nat.le_of_ble_eq_true rfl) dX9_read_27 rfl (fun _ s4 => ?_)
      refine T_iconst (pc := 30) h dX9_read_30 ki_0 ?_
      refine T_istore_n (lv' := [(2, .int (0 : Int32)), (0, .ref x0), (1, .int x1)]) (pc := 31) h dX9_read_31 rfl (by decide) rfl ?_
      refine T_sub [1, 2, 0] rfl ?_
      exact T_fx (B := f_X9_read_L32 x0 x1) (fl := fun u => [(0, .ref x0), (1, .int x1), (2, .int (u.1))]) (f := fun u => (u.2)) (fun rec32 hr32 u => t_X9_read_L32 h hs x0 x1 hk0 rec32 hr32 u) FU ((0 : Int32), s4)
    · refine T_aload_n (pc := 20) h dX9_read_20 rfl 0 rfl ?_
      refine T_iconst (pc := 21) h dX9_read_21 ki_1 ?_
      refine T_callVi (pc := 22) h (M_X9_meets (kl K) hs x0 (1 : Int32) s1 hk0) mv_X9_meets hs hk0 ml_X9_151 rfl ⟨Nat.le_of_ble_eq_true rfl, Nat.le_of_ble_eq_true rfl⟩ ⟨Nat.le_refl 0, Nat.le_refl 0⟩ (Nat.le_of_ble_eq_true rfl) dX9_read_22 rfl (fun r6 s5 => ?_)
      exact T_ireturn (pc := 25) h (Nat.zero_le _) (Nat.zero_le _) dX9_read_25
  · refine T_bipush (pc := 7) h dX9_read_7 kb_m2 ?_
    exact T_ireturn (pc := 9) h (Nat.zero_le _) (Nat.zero_le _) dX9_read_9
theorem M_X9_read (l : Launch) {iv : Sg → Prop} (hi : iv = St) (x0 : Nat) (x1 : Int32) (σ : Sg) (hk0 : kd x0 9) : CTi l yX9_read cX9_read 3 (some .int) rm_X9_read iv [.ref x0, .int x1] σ (f_X9_read x0 x1 σ) := by
  subst hi
  exact CT_of (by decide) (Nat.le_of_ble_eq_true rfl) (fun K _ h _ hs _ _ => t_X9_read h hs x0 x1 σ hk0)
/-! LuteTabsModel.findsChords()V -/
theorem dX9_findsChords_0 : decode cX9_findsChords 0 = .ok (.aload_n 0, 1) := by decide +kernel
theorem dX9_findsChords_1 : decode cX9_findsChords 1 = .ok (.iconst 0, 1) := by decide +kernel
theorem dX9_findsChords_2 : decode cX9_findsChords 2 = .ok (.putfield 157, 3) := by decide +kernel
theorem dX9_findsChords_5 : decode cX9_findsChords 5 = .ok (.iconst 0, 1) := by decide +kernel
theorem dX9_findsChords_6 : decode cX9_findsChords 6 = .ok (.istore_n 1, 1) := by decide +kernel
theorem dX9_findsChords_7 : decode cX9_findsChords 7 = .ok (.iload_n 1, 1) := by decide +kernel
theorem dX9_findsChords_8 : decode cX9_findsChords 8 = .ok (.aload_n 0, 1) := by decide +kernel
theorem dX9_findsChords_9 : decode cX9_findsChords 9 = .ok (.getfield 130, 3) := by decide +kernel
theorem dX9_findsChords_12 : decode cX9_findsChords 12 = .ok (.if_icmp .ge 55, 3) := by decide +kernel
theorem dX9_findsChords_15 : decode cX9_findsChords 15 = .ok (.iload_n 1, 1) := by decide +kernel
theorem dX9_findsChords_16 : decode cX9_findsChords 16 = .ok (.ifCond .eq 20, 3) := by decide +kernel
theorem dX9_findsChords_19 : decode cX9_findsChords 19 = .ok (.aload_n 0, 1) := by decide +kernel
theorem dX9_findsChords_20 : decode cX9_findsChords 20 = .ok (.getfield 32, 3) := by decide +kernel
theorem dX9_findsChords_23 : decode cX9_findsChords 23 = .ok (.iload_n 1, 1) := by decide +kernel
theorem dX9_findsChords_24 : decode cX9_findsChords 24 = .ok (.iaload, 1) := by decide +kernel
theorem dX9_findsChords_25 : decode cX9_findsChords 25 = .ok (.aload_n 0, 1) := by decide +kernel
theorem dX9_findsChords_26 : decode cX9_findsChords 26 = .ok (.getfield 32, 3) := by decide +kernel
theorem dX9_findsChords_29 : decode cX9_findsChords 29 = .ok (.iload_n 1, 1) := by decide +kernel
theorem dX9_findsChords_30 : decode cX9_findsChords 30 = .ok (.iconst 1, 1) := by decide +kernel
theorem dX9_findsChords_31 : decode cX9_findsChords 31 = .ok (.isub, 1) := by decide +kernel
theorem dX9_findsChords_32 : decode cX9_findsChords 32 = .ok (.iaload, 1) := by decide +kernel
theorem dX9_findsChords_33 : decode cX9_findsChords 33 = .ok (.if_icmp .eq 28, 3) := by decide +kernel
theorem dX9_findsChords_36 : decode cX9_findsChords 36 = .ok (.aload_n 0, 1) := by decide +kernel
theorem dX9_findsChords_37 : decode cX9_findsChords 37 = .ok (.getfield 51, 3) := by decide +kernel
theorem dX9_findsChords_40 : decode cX9_findsChords 40 = .ok (.aload_n 0, 1) := by decide +kernel
theorem dX9_findsChords_41 : decode cX9_findsChords 41 = .ok (.getfield 157, 3) := by decide +kernel
theorem dX9_findsChords_44 : decode cX9_findsChords 44 = .ok (.aload_n 0, 1) := by decide +kernel
theorem dX9_findsChords_45 : decode cX9_findsChords 45 = .ok (.getfield 32, 3) := by decide +kernel
theorem dX9_findsChords_48 : decode cX9_findsChords 48 = .ok (.iload_n 1, 1) := by decide +kernel
theorem dX9_findsChords_49 : decode cX9_findsChords 49 = .ok (.iaload, 1) := by decide +kernel
theorem dX9_findsChords_50 : decode cX9_findsChords 50 = .ok (.iastore, 1) := by decide +kernel
theorem dX9_findsChords_51 : decode cX9_findsChords 51 = .ok (.aload_n 0, 1) := by decide +kernel
theorem dX9_findsChords_52 : decode cX9_findsChords 52 = .ok (.dup, 1) := by decide +kernel
theorem dX9_findsChords_53 : decode cX9_findsChords 53 = .ok (.getfield 157, 3) := by decide +kernel
theorem dX9_findsChords_56 : decode cX9_findsChords 56 = .ok (.iconst 1, 1) := by decide +kernel
theorem dX9_findsChords_57 : decode cX9_findsChords 57 = .ok (.iadd, 1) := by decide +kernel
theorem dX9_findsChords_58 : decode cX9_findsChords 58 = .ok (.putfield 157, 3) := by decide +kernel
theorem dX9_findsChords_61 : decode cX9_findsChords 61 = .ok (.iinc 1 1, 3) := by decide +kernel
theorem dX9_findsChords_64 : decode cX9_findsChords 64 = .ok (.goto (-57), 3) := by decide +kernel
theorem dX9_findsChords_67 : decode cX9_findsChords 67 = .ok (.iconst 0, 1) := by decide +kernel
theorem dX9_findsChords_68 : decode cX9_findsChords 68 = .ok (.istore_n 1, 1) := by decide +kernel
theorem dX9_findsChords_69 : decode cX9_findsChords 69 = .ok (.iload_n 1, 1) := by decide +kernel
theorem dX9_findsChords_70 : decode cX9_findsChords 70 = .ok (.aload_n 0, 1) := by decide +kernel
theorem dX9_findsChords_71 : decode cX9_findsChords 71 = .ok (.getfield 157, 3) := by decide +kernel
theorem dX9_findsChords_74 : decode cX9_findsChords 74 = .ok (.if_icmp .ge 111, 3) := by decide +kernel
theorem dX9_findsChords_77 : decode cX9_findsChords 77 = .ok (.aload_n 0, 1) := by decide +kernel
theorem dX9_findsChords_78 : decode cX9_findsChords 78 = .ok (.getfield 57, 3) := by decide +kernel
theorem dX9_findsChords_81 : decode cX9_findsChords 81 = .ok (.iload_n 1, 1) := by decide +kernel
theorem dX9_findsChords_82 : decode cX9_findsChords 82 = .ok (.iconst 0, 1) := by decide +kernel
theorem dX9_findsChords_83 : decode cX9_findsChords 83 = .ok (.iastore, 1) := by decide +kernel
theorem dX9_findsChords_84 : decode cX9_findsChords 84 = .ok (.iconst 0, 1) := by decide +kernel
theorem dX9_findsChords_85 : decode cX9_findsChords 85 = .ok (.istore_n 2, 1) := by decide +kernel
theorem dX9_findsChords_86 : decode cX9_findsChords 86 = .ok (.iload_n 2, 1) := by decide +kernel
theorem dX9_findsChords_87 : decode cX9_findsChords 87 = .ok (.aload_n 0, 1) := by decide +kernel
theorem dX9_findsChords_88 : decode cX9_findsChords 88 = .ok (.getfield 130, 3) := by decide +kernel
theorem dX9_findsChords_91 : decode cX9_findsChords 91 = .ok (.if_icmp .ge 88, 3) := by decide +kernel
theorem dX9_findsChords_94 : decode cX9_findsChords 94 = .ok (.aload_n 0, 1) := by decide +kernel
theorem dX9_findsChords_95 : decode cX9_findsChords 95 = .ok (.getfield 32, 3) := by decide +kernel
theorem dX9_findsChords_98 : decode cX9_findsChords 98 = .ok (.iload_n 2, 1) := by decide +kernel
theorem dX9_findsChords_99 : decode cX9_findsChords 99 = .ok (.iaload, 1) := by decide +kernel
theorem dX9_findsChords_100 : decode cX9_findsChords 100 = .ok (.aload_n 0, 1) := by decide +kernel
theorem dX9_findsChords_101 : decode cX9_findsChords 101 = .ok (.getfield 51, 3) := by decide +kernel
theorem dX9_findsChords_104 : decode cX9_findsChords 104 = .ok (.iload_n 1, 1) := by decide +kernel
theorem dX9_findsChords_105 : decode cX9_findsChords 105 = .ok (.iaload, 1) := by decide +kernel
theorem dX9_findsChords_106 : decode cX9_findsChords 106 = .ok (.if_icmp .gt 67, 3) := by decide +kernel
theorem dX9_findsChords_109 : decode cX9_findsChords 109 = .ok (.aload_n 0, 1) := by decide +kernel
theorem dX9_findsChords_110 : decode cX9_findsChords 110 = .ok (.getfield 32, 3) := by decide +kernel
theorem dX9_findsChords_113 : decode cX9_findsChords 113 = .ok (.iload_n 2, 1) := by decide +kernel
theorem dX9_findsChords_114 : decode cX9_findsChords 114 = .ok (.iaload, 1) := by decide +kernel
theorem dX9_findsChords_115 : decode cX9_findsChords 115 = .ok (.aload_n 0, 1) := by decide +kernel
theorem dX9_findsChords_116 : decode cX9_findsChords 116 = .ok (.getfield 51, 3) := by decide +kernel
theorem dX9_findsChords_119 : decode cX9_findsChords 119 = .ok (.iload_n 1, 1) := by decide +kernel
theorem dX9_findsChords_120 : decode cX9_findsChords 120 = .ok (.iaload, 1) := by decide +kernel
theorem dX9_findsChords_121 : decode cX9_findsChords 121 = .ok (.if_icmp .eq 25, 3) := by decide +kernel
theorem dX9_findsChords_124 : decode cX9_findsChords 124 = .ok (.aload_n 0, 1) := by decide +kernel
theorem dX9_findsChords_125 : decode cX9_findsChords 125 = .ok (.getfield 32, 3) := by decide +kernel
theorem dX9_findsChords_128 : decode cX9_findsChords 128 = .ok (.iload_n 2, 1) := by decide +kernel
theorem dX9_findsChords_129 : decode cX9_findsChords 129 = .ok (.iaload, 1) := by decide +kernel
theorem dX9_findsChords_130 : decode cX9_findsChords 130 = .ok (.aload_n 0, 1) := by decide +kernel
theorem dX9_findsChords_131 : decode cX9_findsChords 131 = .ok (.getfield 38, 3) := by decide +kernel
theorem dX9_findsChords_134 : decode cX9_findsChords 134 = .ok (.iload_n 2, 1) := by decide +kernel
theorem dX9_findsChords_135 : decode cX9_findsChords 135 = .ok (.iaload, 1) := by decide +kernel
theorem dX9_findsChords_136 : decode cX9_findsChords 136 = .ok (.iadd, 1) := by decide +kernel
theorem dX9_findsChords_137 : decode cX9_findsChords 137 = .ok (.aload_n 0, 1) := by decide +kernel
theorem dX9_findsChords_138 : decode cX9_findsChords 138 = .ok (.getfield 51, 3) := by decide +kernel
theorem dX9_findsChords_141 : decode cX9_findsChords 141 = .ok (.iload_n 1, 1) := by decide +kernel
theorem dX9_findsChords_142 : decode cX9_findsChords 142 = .ok (.iaload, 1) := by decide +kernel
theorem dX9_findsChords_143 : decode cX9_findsChords 143 = .ok (.if_icmp .le 30, 3) := by decide +kernel
theorem dX9_findsChords_146 : decode cX9_findsChords 146 = .ok (.aload_n 0, 1) := by decide +kernel
theorem dX9_findsChords_147 : decode cX9_findsChords 147 = .ok (.getfield 54, 3) := by decide +kernel
theorem dX9_findsChords_150 : decode cX9_findsChords 150 = .ok (.bipush 14, 2) := by decide +kernel
theorem dX9_findsChords_152 : decode cX9_findsChords 152 = .ok (.iload_n 1, 1) := by decide +kernel
theorem dX9_findsChords_153 : decode cX9_findsChords 153 = .ok (.imul, 1) := by decide +kernel
theorem dX9_findsChords_154 : decode cX9_findsChords 154 = .ok (.aload_n 0, 1) := by decide +kernel
theorem dX9_findsChords_155 : decode cX9_findsChords 155 = .ok (.getfield 57, 3) := by decide +kernel
theorem dX9_findsChords_158 : decode cX9_findsChords 158 = .ok (.iload_n 1, 1) := by decide +kernel
theorem dX9_findsChords_159 : decode cX9_findsChords 159 = .ok (.iaload, 1) := by decide +kernel
theorem dX9_findsChords_160 : decode cX9_findsChords 160 = .ok (.iadd, 1) := by decide +kernel
theorem dX9_findsChords_161 : decode cX9_findsChords 161 = .ok (.iload_n 2, 1) := by decide +kernel
theorem dX9_findsChords_162 : decode cX9_findsChords 162 = .ok (.iastore, 1) := by decide +kernel
theorem dX9_findsChords_163 : decode cX9_findsChords 163 = .ok (.aload_n 0, 1) := by decide +kernel
theorem dX9_findsChords_164 : decode cX9_findsChords 164 = .ok (.getfield 57, 3) := by decide +kernel
theorem dX9_findsChords_167 : decode cX9_findsChords 167 = .ok (.iload_n 1, 1) := by decide +kernel
theorem dX9_findsChords_168 : decode cX9_findsChords 168 = .ok (.dup2, 1) := by decide +kernel
theorem dX9_findsChords_169 : decode cX9_findsChords 169 = .ok (.iaload, 1) := by decide +kernel
theorem dX9_findsChords_170 : decode cX9_findsChords 170 = .ok (.iconst 1, 1) := by decide +kernel
theorem dX9_findsChords_171 : decode cX9_findsChords 171 = .ok (.iadd, 1) := by decide +kernel
theorem dX9_findsChords_172 : decode cX9_findsChords 172 = .ok (.iastore, 1) := by decide +kernel
theorem dX9_findsChords_173 : decode cX9_findsChords 173 = .ok (.iinc 2 1, 3) := by decide +kernel
theorem dX9_findsChords_176 : decode cX9_findsChords 176 = .ok (.goto (-90), 3) := by decide +kernel
theorem dX9_findsChords_179 : decode cX9_findsChords 179 = .ok (.iinc 1 1, 3) := by decide +kernel
theorem dX9_findsChords_182 : decode cX9_findsChords 182 = .ok (.goto (-113), 3) := by decide +kernel
theorem dX9_findsChords_185 : decode cX9_findsChords 185 = .ok (.return_, 1) := by decide +kernel
abbrev rm_X9_findsChords : Room := { frames := 0, cells := 0, slots := 0, locals := 0 }
def f_X9_findsChords_L61 (rec7 : Int32 × Sg → Option (Unit × Sg)) (x0 : Nat) (x1 : Int32)  (σ : Sg) : Option (Unit × Sg) := lB (x1 + (1 : Int32)) fun v1 => rec7 (v1, σ)
def f_X9_findsChords_L36 (rec7 : Int32 × Sg → Option (Unit × Sg)) (x0 : Nat) (x1 : Int32)  (σ : Sg) : Option (Unit × Sg) := ck (inb x1 (aL (gR σ x0 7))) (ck (inb (gI σ x0 16) (aL (gR σ x0 15))) (lB (pI σ (gR σ x0 15) (gI σ x0 16).toNatClampNeg (gI σ (gR σ x0 7) x1.toNatClampNeg)) fun s3 => lB (pI s3 x0 16 ((gI s3 x0 16) + (1 : Int32))) fun s4 => f_X9_findsChords_L61 rec7 x0 x1 s4))
def f_X9_findsChords_L173 (rec69 : Int32 × Sg → Option (Unit × Sg)) (rec86 : Int32 × Sg → Option (Unit × Sg)) (x0 : Nat) (x1 : Int32) (x2 : Int32)  (σ : Sg) : Option (Unit × Sg) := lB (x2 + (1 : Int32)) fun v1 => rec86 (v1, σ)
def f_X9_findsChords_L146 (rec69 : Int32 × Sg → Option (Unit × Sg)) (rec86 : Int32 × Sg → Option (Unit × Sg)) (x0 : Nat) (x1 : Int32) (x2 : Int32)  (σ : Sg) : Option (Unit × Sg) := ck (inb x1 (aL (gR σ x0 18))) (ck (inb (((14 : Int32) * x1) + (gI σ (gR σ x0 18) x1.toNatClampNeg)) (aL (gR σ x0 17))) (lB (pI σ (gR σ x0 17) (((14 : Int32) * x1) + (gI σ (gR σ x0 18) x1.toNatClampNeg)).toNatClampNeg x2) fun s3 => ck (inb x1 (aL (gR s3 x0 18))) (ck (inb x1 (aL (gR s3 x0 18))) (lB (pI s3 (gR s3 x0 18) x1.toNatClampNeg ((gI s3 (gR s3 x0 18) x1.toNatClampNeg) + (1 : Int32))) fun s5 => f_X9_findsChords_L173 rec69 rec86 x0 x1 x2 s5))))
def f_X9_findsChords_L86 (rec69 : Int32 × Sg → Option (Unit × Sg)) (x0 : Nat) (x1 : Int32) (rec86 : Int32 × Sg → Option (Unit × Sg)) (s : Int32 × Sg) : Option (Unit × Sg) := (if (gI (s.2) x0 10) ≤ (s.1) then lB (x1 + (1 : Int32)) fun v1 => rec69 (v1, (s.2)) else ck (inb (s.1) (aL (gR (s.2) x0 7))) (ck (inb x1 (aL (gR (s.2) x0 15))) ((if (gI (s.2) (gR (s.2) x0 15) x1.toNatClampNeg) < (gI (s.2) (gR (s.2) x0 7) (s.1).toNatClampNeg) then f_X9_findsChords_L173 rec69 rec86 x0 x1 (s.1) (s.2) else ck (inb (s.1) (aL (gR (s.2) x0 7))) (ck (inb x1 (aL (gR (s.2) x0 15))) ((if (gI (s.2) (gR (s.2) x0 7) (s.1).toNatClampNeg) = (gI (s.2) (gR (s.2) x0 15) x1.toNatClampNeg) then f_X9_findsChords_L146 rec69 rec86 x0 x1 (s.1) (s.2) else ck (inb (s.1) (aL (gR (s.2) x0 7))) (ck (inb (s.1) (aL (gR (s.2) x0 9))) (ck (inb x1 (aL (gR (s.2) x0 15))) ((if ((gI (s.2) (gR (s.2) x0 7) (s.1).toNatClampNeg) + (gI (s.2) (gR (s.2) x0 9) (s.1).toNatClampNeg)) ≤ (gI (s.2) (gR (s.2) x0 15) x1.toNatClampNeg) then f_X9_findsChords_L173 rec69 rec86 x0 x1 (s.1) (s.2) else f_X9_findsChords_L146 rec69 rec86 x0 x1 (s.1) (s.2))))))))))))
def f_X9_findsChords_L69  (x0 : Nat) (rec69 : Int32 × Sg → Option (Unit × Sg)) (s : Int32 × Sg) : Option (Unit × Sg) := (if (gI (s.2) x0 16) ≤ (s.1) then some ((), (s.2)) else ck (inb (s.1) (aL (gR (s.2) x0 18))) (lB (pI (s.2) (gR (s.2) x0 18) (s.1).toNatClampNeg (0 : Int32)) fun s2 => fx (f_X9_findsChords_L86 rec69 x0 (s.1)) FU ((0 : Int32), s2)))
def f_X9_findsChords_L7  (x0 : Nat) (rec7 : Int32 × Sg → Option (Unit × Sg)) (s : Int32 × Sg) : Option (Unit × Sg) := (if (gI (s.2) x0 10) ≤ (s.1) then fx (f_X9_findsChords_L69 x0) FU ((0 : Int32), (s.2)) else (if (s.1) = 0 then f_X9_findsChords_L36 rec7 x0 (s.1) (s.2) else ck (inb (s.1) (aL (gR (s.2) x0 7))) (ck (inb ((s.1) - (1 : Int32)) (aL (gR (s.2) x0 7))) ((if (gI (s.2) (gR (s.2) x0 7) (s.1).toNatClampNeg) = (gI (s.2) (gR (s.2) x0 7) ((s.1) - (1 : Int32)).toNatClampNeg) then f_X9_findsChords_L61 rec7 x0 (s.1) (s.2) else f_X9_findsChords_L36 rec7 x0 (s.1) (s.2))))))
def f_X9_findsChords (x0 : Nat) (σ : Sg) : Option (Unit × Sg) := lB (pI σ x0 16 (0 : Int32)) fun s1 => fx (f_X9_findsChords_L7 x0) FU ((0 : Int32), s1)
theorem t_X9_findsChords_L61 {K : Cx} (h : Ok K cX9_findsChords RX9 3 rm_X9_findsChords none) (hs : kiv K = St) (x0 : Nat) (x1 : Int32)  (σ : Sg) (rec7 : Int32 × Sg → Option (Unit × Sg)) (hr7 : ∀ u, T K (QV K) 7 [(0, .ref x0), (1, .int (u.1))] [] 0 0 (u.2) (rec7 u)) (hk0 : kd x0 9)  : T K (QV K) 61 [(0, .ref x0), (1, .int x1)] [] 0 0 σ (f_X9_findsChords_L61 rec7 x0 x1 σ) := by
  unfold f_X9_findsChords_L61
  refine T_iinc (fl := fun v1 => [(1, .int v1), (0, .ref x0)]) (pc := 61) h dX9_findsChords_61 1 rfl ki_1 (by decide) (fun _ => rfl) (fun v1 => ?_)
  refine T_goto (pc := 64) (tgt := 7) h dX9_findsChords_64 (by decide) ?_
  refine T_sub [1, 0] rfl ?_
  exact hr7 (v1, σ)
theorem t_X9_findsChords_L36 {K : Cx} (h : Ok K cX9_findsChords RX9 3 rm_X9_findsChords none) (hs : kiv K = St) (x0 : Nat) (x1 : Int32)  (σ : Sg) (rec7 : Int32 × Sg → Option (Unit × Sg)) (hr7 : ∀ u, T K (QV K) 7 [(0, .ref x0), (1, .int (u.1))] [] 0 0 (u.2) (rec7 u)) (hk0 : kd x0 9)  : T K (QV K) 36 [(0, .ref x0), (1, .int x1)] [] 0 0 σ (f_X9_findsChords_L36 rec7 x0 x1 σ) := by
  unfold f_X9_findsChords_L36
  refine T_aload_n (pc := 36) h dX9_findsChords_36 rfl 0 rfl ?_
  refine T_gR (pc := 37) h hs hk0 fl_X9_51 rfl fk_9_15 dX9_findsChords_37 (fun hq1 => ?_)
  refine T_aload_n (pc := 40) h dX9_findsChords_40 rfl 0 rfl ?_
  refine T_getI (pc := 41) h hs hk0 fl_X9_157 rfl dX9_findsChords_41 ?_
  refine T_aload_n (pc := 44) h dX9_findsChords_44 rfl 0 rfl ?_
  refine T_gR (pc := 45) h hs hk0 fl_X9_32 rfl fk_9_7 dX9_findsChords_45 (fun hq2 => ?_)
  refine T_iload_n (pc := 48) h dX9_findsChords_48 rfl 1 rfl ?_
  refine T_iald (pc := 49) h hs hq2 dX9_findsChords_49 ?_
  refine T_iast (pc := 50) h hs hq1 dX9_findsChords_50 ?_
  refine T_letS fun s3 => ?_
  refine T_aload_n (pc := 51) h dX9_findsChords_51 rfl 0 rfl ?_
  refine T_dup (pc := 52) h dX9_findsChords_52 rfl ?_
  refine T_getI (pc := 53) h hs hk0 fl_X9_157 rfl dX9_findsChords_53 ?_
  refine T_iconst (pc := 56) h dX9_findsChords_56 ki_1 ?_
  refine T_iadd (pc := 57) h dX9_findsChords_57 ?_
  refine T_putI (pc := 58) h hs hk0 fl_X9_157 rfl rfl dX9_findsChords_58 ?_
  refine T_letS fun s4 => ?_
  refine T_sub [0, 1] rfl ?_
  exact t_X9_findsChords_L61 h hs x0 x1 s4 rec7 hr7 hk0
theorem t_X9_findsChords_L173 {K : Cx} (h : Ok K cX9_findsChords RX9 3 rm_X9_findsChords none) (hs : kiv K = St) (x0 : Nat) (x1 : Int32) (x2 : Int32)  (σ : Sg) (rec69 : Int32 × Sg → Option (Unit × Sg)) (hr69 : ∀ u, T K (QV K) 69 [(0, .ref x0), (1, .int (u.1))] [] 0 0 (u.2) (rec69 u)) (rec86 : Int32 × Sg → Option (Unit × Sg)) (hr86 : ∀ u, T K (QV K) 86 [(0, .ref x0), (1, .int x1), (2, .int (u.1))] [] 0 0 (u.2) (rec86 u)) (hk0 : kd x0 9)  : T K (QV K) 173 [(0, .ref x0), (1, .int x1), (2, .int x2)] [] 0 0 σ (f_X9_findsChords_L173 rec69 rec86 x0 x1 x2 σ) := by
  unfold f_X9_findsChords_L173
  refine T_iinc (fl := fun v1 => [(2, .int v1), (0, .ref x0), (1, .int x1)]) (pc := 173) h dX9_findsChords_173 2 rfl ki_1 (by decide) (fun _ => rfl) (fun v1 => ?_)
  refine T_goto (pc := 176) (tgt := 86) h dX9_findsChords_176 (by decide) ?_
  refine T_sub [1, 2, 0] rfl ?_
  exact hr86 (v1, σ)
theorem t_X9_findsChords_L146 {K : Cx} (h : Ok K cX9_findsChords RX9 3 rm_X9_findsChords none) (hs : kiv K = St) (x0 : Nat) (x1 : Int32) (x2 : Int32)  (σ : Sg) (rec69 : Int32 × Sg → Option (Unit × Sg)) (hr69 : ∀ u, T K (QV K) 69 [(0, .ref x0), (1, .int (u.1))] [] 0 0 (u.2) (rec69 u)) (rec86 : Int32 × Sg → Option (Unit × Sg)) (hr86 : ∀ u, T K (QV K) 86 [(0, .ref x0), (1, .int x1), (2, .int (u.1))] [] 0 0 (u.2) (rec86 u)) (hk0 : kd x0 9)  : T K (QV K) 146 [(0, .ref x0), (1, .int x1), (2, .int x2)] [] 0 0 σ (f_X9_findsChords_L146 rec69 rec86 x0 x1 x2 σ) := by
  unfold f_X9_findsChords_L146
  refine T_aload_n (pc := 146) h dX9_findsChords_146 rfl 0 rfl ?_
  refine T_gR (pc := 147) h hs hk0 fl_X9_54 rfl fk_9_17 dX9_findsChords_147 (fun hq1 => ?_)
  refine T_bipush (pc := 150) h dX9_findsChords_150 kb_14 ?_
  refine T_iload_n (pc := 152) h dX9_findsChords_152 rfl 1 rfl ?_
  refine T_imul (pc := 153) h dX9_findsChords_153 ?_
  refine T_aload_n (pc := 154) h dX9_findsChords_154 rfl 0 rfl ?_
  refine T_gR (pc := 155) h hs hk0 fl_X9_57 rfl fk_9_18 dX9_findsChords_155 (fun hq2 => ?_)
  refine T_iload_n (pc := 158) h dX9_findsChords_158 rfl 1 rfl ?_
  refine T_iald (pc := 159) h hs hq2 dX9_findsChords_159 ?_
  refine T_iadd (pc := 160) h dX9_findsChords_160 ?_
  refine T_iload_n (pc := 161) h dX9_findsChords_161 rfl 2 rfl ?_
  refine T_iast (pc := 162) h hs hq1 dX9_findsChords_162 ?_
  refine T_letS fun s3 => ?_
  refine T_aload_n (pc := 163) h dX9_findsChords_163 rfl 0 rfl ?_
  refine T_gR (pc := 164) h hs hk0 fl_X9_57 rfl fk_9_18 dX9_findsChords_164 (fun hq4 => ?_)
  refine T_iload_n (pc := 167) h dX9_findsChords_167 rfl 1 rfl ?_
  refine T_dup2 (pc := 168) h dX9_findsChords_168 rfl rfl ?_
  refine T_iald (pc := 169) h hs hq4 dX9_findsChords_169 ?_
  refine T_iconst (pc := 170) h dX9_findsChords_170 ki_1 ?_
  refine T_iadd (pc := 171) h dX9_findsChords_171 ?_
  refine T_iast (pc := 172) h hs hq4 dX9_findsChords_172 ?_
  refine T_letS fun s5 => ?_
  refine T_sub [0, 1, 2] rfl ?_
  exact t_X9_findsChords_L173 h hs x0 x1 x2 s5 rec69 hr69 rec86 hr86 hk0
theorem t_X9_findsChords_L86 {K : Cx} (h : Ok K cX9_findsChords RX9 3 rm_X9_findsChords none) (hs : kiv K = St) (x0 : Nat) (x1 : Int32) (rec69 : Int32 × Sg → Option (Unit × Sg)) (hr69 : ∀ u, T K (QV K) 69 [(0, .ref x0), (1, .int (u.1))] [] 0 0 (u.2) (rec69 u)) (hk0 : kd x0 9) (rec86 : Int32 × Sg → Option (Unit × Sg)) (hr86 : ∀ u, T K (QV K) 86 [(0, .ref x0), (1, .int x1), (2, .int (u.1))] [] 0 0 (u.2) (rec86 u)) (s : Int32 × Sg) : T K (QV K) 86 [(0, .ref x0), (1, .int x1), (2, .int (s.1))] [] 0 0 (s.2) (f_X9_findsChords_L86 rec69 x0 x1 rec86 s) := by
  unfold f_X9_findsChords_L86
  refine T_iload_n (pc := 86) h dX9_findsChords_86 rfl 2 rfl ?_
  refine T_aload_n (pc := 87) h dX9_findsChords_87 rfl 0 rfl ?_
  refine T_getI (pc := 88) h hs hk0 fl_X9_130 rfl dX9_findsChords_88 ?_
  refine T_icmp_ge (pc := 91) (tgt := 179) h dX9_findsChords_91 (by decide) ?_ ?_
  · refine T_iinc (fl := fun v1 => [(1, .int v1), (0, .ref x0), (2, .int (s.1))]) (pc := 179) h dX9_findsChords_179 1 rfl ki_1 (by decide) (fun _ => rfl) (fun v1 => ?_)
    refine T_goto (pc := 182) (tgt := 69) h dX9_findsChords_182 (by decide) ?_
    refine T_sub [1, 0] rfl ?_
    exact hr69 (v1, (s.2))
  · refine T_aload_n (pc := 94) h dX9_findsChords_94 rfl 0 rfl ?_
    refine T_gR (pc := 95) h hs hk0 fl_X9_32 rfl fk_9_7 dX9_findsChords_95 (fun hq2 => ?_)
    refine T_iload_n (pc := 98) h dX9_findsChords_98 rfl 2 rfl ?_
    refine T_iald (pc := 99) h hs hq2 dX9_findsChords_99 ?_
    refine T_aload_n (pc := 100) h dX9_findsChords_100 rfl 0 rfl ?_
    refine T_gR (pc := 101) h hs hk0 fl_X9_51 rfl fk_9_15 dX9_findsChords_101 (fun hq3 => ?_)
    refine T_iload_n (pc := 104) h dX9_findsChords_104 rfl 1 rfl ?_
    refine T_iald (pc := 105) h hs hq3 dX9_findsChords_105 ?_
    refine T_icmp_gt (pc := 106) (tgt := 173) h dX9_findsChords_106 (by decide) ?_ ?_
    · refine T_sub [0, 1, 2] rfl ?_
      exact t_X9_findsChords_L173 h hs x0 x1 (s.1) (s.2) rec69 hr69 rec86 hr86 hk0
    · refine T_aload_n (pc := 109) h dX9_findsChords_109 rfl 0 rfl ?_
      refine T_gR (pc := 110) h hs hk0 fl_X9_32 rfl fk_9_7 dX9_findsChords_110 (fun hq4 => ?_)
      refine T_iload_n (pc := 113) h dX9_findsChords_113 rfl 2 rfl ?_
      refine T_iald (pc := 114) h hs hq4 dX9_findsChords_114 ?_
      refine T_aload_n (pc := 115) h dX9_findsChords_115 rfl 0 rfl ?_
      refine T_gR (pc := 116) h hs hk0 fl_X9_51 rfl fk_9_15 dX9_findsChords_116 (fun hq5 => ?_)
      refine T_iload_n (pc := 119) h dX9_findsChords_119 rfl 1 rfl ?_
      refine T_iald (pc := 120) h hs hq5 dX9_findsChords_120 ?_
      refine T_icmp_eq (pc := 121) (tgt := 146) h dX9_findsChords_121 (by decide) ?_ ?_
      · refine T_sub [0, 1, 2] rfl ?_
        exact t_X9_findsChords_L146 h hs x0 x1 (s.1) (s.2) rec69 hr69 rec86 hr86 hk0
      · refine T_aload_n (pc := 124) h dX9_findsChords_124 rfl 0 rfl ?_
        refine T_gR (pc := 125) h hs hk0 fl_X9_32 rfl fk_9_7 dX9_findsChords_125 (fun hq6 => ?_)
        refine T_iload_n (pc := 128) h dX9_findsChords_128 rfl 2 rfl ?_
        refine T_iald (pc := 129) h hs hq6 dX9_findsChords_129 ?_
        refine T_aload_n (pc := 130) h dX9_findsChords_130 rfl 0 rfl ?_
        refine T_gR (pc := 131) h hs hk0 fl_X9_38 rfl fk_9_9 dX9_findsChords_131 (fun hq7 => ?_)
        refine T_iload_n (pc := 134) h dX9_findsChords_134 rfl 2 rfl ?_
        refine T_iald (pc := 135) h hs hq7 dX9_findsChords_135 ?_
        refine T_iadd (pc := 136) h dX9_findsChords_136 ?_
        refine T_aload_n (pc := 137) h dX9_findsChords_137 rfl 0 rfl ?_
        refine T_gR (pc := 138) h hs hk0 fl_X9_51 rfl fk_9_15 dX9_findsChords_138 (fun hq8 => ?_)
        refine T_iload_n (pc := 141) h dX9_findsChords_141 rfl 1 rfl ?_
        refine T_iald (pc := 142) h hs hq8 dX9_findsChords_142 ?_
        refine T_icmp_le (pc := 143) (tgt := 173) h dX9_findsChords_143 (by decide) ?_ ?_
        · refine T_sub [0, 1, 2] rfl ?_
          exact t_X9_findsChords_L173 h hs x0 x1 (s.1) (s.2) rec69 hr69 rec86 hr86 hk0
        · refine T_sub [0, 1, 2] rfl ?_
          exact t_X9_findsChords_L146 h hs x0 x1 (s.1) (s.2) rec69 hr69 rec86 hr86 hk0
theorem t_X9_findsChords_L69 {K : Cx} (h : Ok K cX9_findsChords RX9 3 rm_X9_findsChords none) (hs : kiv K = St) (x0 : Nat)  (hk0 : kd x0 9) (rec69 : Int32 × Sg → Option (Unit × Sg)) (hr69 : ∀ u, T K (QV K) 69 [(0, .ref x0), (1, .int (u.1))] [] 0 0 (u.2) (rec69 u)) (s : Int32 × Sg) : T K (QV K) 69 [(0, .ref x0), (1, .int (s.1))] [] 0 0 (s.2) (f_X9_findsChords_L69 x0 rec69 s) := by
  unfold f_X9_findsChords_L69
  refine T_iload_n (pc := 69) h dX9_findsChords_69 rfl 1 rfl ?_
  refine T_aload_n (pc := 70) h dX9_findsChords_70 rfl 0 rfl ?_
  refine T_getI (pc := 71) h hs hk0 fl_X9_157 rfl dX9_findsChords_71 ?_
  refine T_icmp_ge (pc := 74) (tgt := 185) h dX9_findsChords_74 (by decide) ?_ ?_
  · exact T_return (pc := 185) h (Nat.zero_le _) (Nat.zero_le _) dX9_findsChords_185
  · refine T_aload_n (pc := 77) h dX9_findsChords_77 rfl 0 rfl ?_
    refine T_gR (pc := 78) h hs hk0 fl_X9_57 rfl fk_9_18 dX9_findsChords_78 (fun hq1 => ?_)
    refine T_iload_n (pc := 81) h dX9_findsChords_81 rfl 1 rfl ?_
    refine T_iconst (pc := 82) h dX9_findsChords_82 ki_0 ?_
    refine T_iast (pc := 83) h hs hq1 dX9_findsChords_83 ?_
    refine T_letS fun s2 => ?_
    refine T_iconst (pc := 84) h dX9_findsChords_84 ki_0 ?_
    refine T_istore_n (lv' := [(2, .int (0 : Int32)), (0, .ref x0), (1, .int (s.1))]) (pc := 85) h dX9_findsChords_85 rfl (by decide) rfl ?_
    refine T_sub [1, 2, 0] rfl ?_
    exact T_fx (B := f_X9_findsChords_L86 rec69 x0 (s.1)) (fl := fun u => [(0, .ref x0), (1, .int (s.1)), (2, .int (u.1))]) (f := fun u => (u.2)) (fun rec86 hr86 u => t_X9_findsChords_L86 h hs x0 (s.1) rec69 hr69 hk0 rec86 hr86 u) FU ((0 : Int32), s2)
theorem t_X9_findsChords_L7 {K : Cx} (h : Ok K cX9_findsChords RX9 3 rm_X9_findsChords none) (hs : kiv K = St) (x0 : Nat)  (hk0 : kd x0 9) (rec7 : Int32 × Sg → Option (Unit × Sg)) (hr7 : ∀ u, T K (QV K) 7 [(0, .ref x0), (1, .int (u.1))] [] 0 0 (u.2) (rec7 u)) (s : Int32 × Sg) : T K (QV K) 7 [(0, .ref x0), (1, .int (s.1))] [] 0 0 (s.2) (f_X9_findsChords_L7 x0 rec7 s) := by
  unfold f_X9_findsChords_L7
  refine T_iload_n (pc := 7) h dX9_findsChords_7 rfl 1 rfl ?_
  refine T_aload_n (pc := 8) h dX9_findsChords_8 rfl 0 rfl ?_
  refine T_getI (pc := 9) h hs hk0 fl_X9_130 rfl dX9_findsChords_9 ?_
  refine T_icmp_ge (pc := 12) (tgt := 67) h dX9_findsChords_12 (by decide) ?_ ?_
  · refine T_iconst (pc := 67) h dX9_findsChords_67 ki_0 ?_
    refine T_istore_n (lv' := [(1, .int (0 : Int32)), (0, .ref x0)]) (pc := 68) h dX9_findsChords_68 rfl (by decide) rfl ?_
    refine T_sub [1, 0] rfl ?_
    exact T_fx (B := f_X9_findsChords_L69 x0) (fl := fun u => [(0, .ref x0), (1, .int (u.1))]) (f := fun u => (u.2)) (fun rec69 hr69 u => t_X9_findsChords_L69 h hs x0 hk0 rec69 hr69 u) FU ((0 : Int32), (s.2))
  · refine T_iload_n (pc := 15) h dX9_findsChords_15 rfl 1 rfl ?_
    refine T_if_eq (pc := 16) (tgt := 36) h dX9_findsChords_16 (by decide) ?_ ?_
    · refine T_sub [0, 1] rfl ?_
      exact t_X9_findsChords_L36 h hs x0 (s.1) (s.2) rec7 hr7 hk0
    · refine T_aload_n (pc := 19) h dX9_findsChords_19 rfl 0 rfl ?_
      refine T_gR (pc := 20) h hs hk0 fl_X9_32 rfl fk_9_7 dX9_findsChords_20 (fun hq1 => ?_)
      refine T_iload_n (pc := 23) h dX9_findsChords_23 rfl 1 rfl ?_
      refine T_iald (pc := 24) h hs hq1 dX9_findsChords_24 ?_
      refine T_aload_n (pc := 25) h dX9_findsChords_25 rfl 0 rfl ?_
      refine T_gR (pc := 26) h hs hk0 fl_X9_32 rfl fk_9_7 dX9_findsChords_26 (fun hq2 => ?_)
      refine T_iload_n (pc := 29) h dX9_findsChords_29 rfl 1 rfl ?_
      refine T_iconst (pc := 30) h dX9_findsChords_30 ki_1 ?_
      refine T_isub (pc := 31) h dX9_findsChords_31 ?_
      refine T_iald (pc := 32) h hs hq2 dX9_findsChords_32 ?_
      refine T_icmp_eq (pc := 33) (tgt := 61) h dX9_findsChords_33 (by decide) ?_ ?_
      · refine T_sub [0, 1] rfl ?_
        exact t_X9_findsChords_L61 h hs x0 (s.1) (s.2) rec7 hr7 hk0
      · refine T_sub [0, 1] rfl ?_
        exact t_X9_findsChords_L36 h hs x0 (s.1) (s.2) rec7 hr7 hk0
theorem t_X9_findsChords {K : Cx} (h : Ok K cX9_findsChords RX9 3 rm_X9_findsChords none) (hs : kiv K = St) (x0 : Nat) (σ : Sg) (hk0 : kd x0 9) : T K (QV K) 0 [(0, .ref x0)] [] 0 0 σ (f_X9_findsChords x0 σ) := by
  unfold f_X9_findsChords
  refine T_aload_n (pc := 0) h dX9_findsChords_0 rfl 0 rfl ?_
  refine T_iconst (pc := 1) h dX9_findsChords_1 ki_0 ?_
  refine T_putI (pc := 2) h hs hk0 fl_X9_157 rfl rfl dX9_findsChords_2 ?_
  refine T_letS fun s1 => ?_
  refine T_iconst (pc := 5) h dX9_findsChords_5 ki_0 ?_
  refine T_istore_n (lv' := [(1, .int (0 : Int32)), (0, .ref x0)]) (pc := 6) h dX9_findsChords_6 rfl (by decide) rfl ?_
  refine T_sub [1, 0] rfl ?_
  exact T_fx (B := f_X9_findsChords_L7 x0) (fl := fun u => [(0, .ref x0), (1, .int (u.1))]) (f := fun u => (u.2)) (fun rec7 hr7 u => t_X9_findsChords_L7 h hs x0 hk0 rec7 hr7 u) FU ((0 : Int32), s1)
theorem M_X9_findsChords (l : Launch) {iv : Sg → Prop} (hi : iv = St) (x0 : Nat) (σ : Sg) (hk0 : kd x0 9) : CTv l yX9_findsChords cX9_findsChords 3 none rm_X9_findsChords iv [.ref x0] σ (f_X9_findsChords x0 σ) := by
  subst hi
  exact CT_of (by decide) (Nat.le_of_ble_eq_true rfl) (fun K _ h _ hs _ _ => t_X9_findsChords h hs x0 σ hk0)
