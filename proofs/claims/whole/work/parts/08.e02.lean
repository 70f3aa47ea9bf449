/-! LuteTabsModel.chordOf(I)I -/
theorem dX9_chordOf_0 : decode cX9_chordOf 0 = .ok (.aload_n 0, 1) := by decide +kernel
theorem dX9_chordOf_1 : decode cX9_chordOf 1 = .ok (.invokevirtual 160, 3) := by decide +kernel
theorem dX9_chordOf_4 : decode cX9_chordOf 4 = .ok (.iconst (-1), 1) := by decide +kernel
theorem dX9_chordOf_5 : decode cX9_chordOf 5 = .ok (.istore_n 2, 1) := by decide +kernel
theorem dX9_chordOf_6 : decode cX9_chordOf 6 = .ok (.iconst 0, 1) := by decide +kernel
theorem dX9_chordOf_7 : decode cX9_chordOf 7 = .ok (.istore_n 3, 1) := by decide +kernel
theorem dX9_chordOf_8 : decode cX9_chordOf 8 = .ok (.iload_n 3, 1) := by decide +kernel
theorem dX9_chordOf_9 : decode cX9_chordOf 9 = .ok (.aload_n 0, 1) := by decide +kernel
theorem dX9_chordOf_10 : decode cX9_chordOf 10 = .ok (.getfield 157, 3) := by decide +kernel
theorem dX9_chordOf_13 : decode cX9_chordOf 13 = .ok (.if_icmp .ge 30, 3) := by decide +kernel
theorem dX9_chordOf_16 : decode cX9_chordOf 16 = .ok (.aload_n 0, 1) := by decide +kernel
theorem dX9_chordOf_17 : decode cX9_chordOf 17 = .ok (.getfield 51, 3) := by decide +kernel
theorem dX9_chordOf_20 : decode cX9_chordOf 20 = .ok (.iload_n 3, 1) := by decide +kernel
theorem dX9_chordOf_21 : decode cX9_chordOf 21 = .ok (.iaload, 1) := by decide +kernel
theorem dX9_chordOf_22 : decode cX9_chordOf 22 = .ok (.aload_n 0, 1) := by decide +kernel
theorem dX9_chordOf_23 : decode cX9_chordOf 23 = .ok (.getfield 32, 3) := by decide +kernel
theorem dX9_chordOf_26 : decode cX9_chordOf 26 = .ok (.iload_n 1, 1) := by decide +kernel
theorem dX9_chordOf_27 : decode cX9_chordOf 27 = .ok (.iaload, 1) := by decide +kernel
theorem dX9_chordOf_28 : decode cX9_chordOf 28 = .ok (.if_icmp .ne 7, 3) := by decide +kernel
theorem dX9_chordOf_31 : decode cX9_chordOf 31 = .ok (.iload_n 3, 1) := by decide +kernel
theorem dX9_chordOf_32 : decode cX9_chordOf 32 = .ok (.goto 4, 3) := by decide +kernel
theorem dX9_chordOf_35 : decode cX9_chordOf 35 = .ok (.iload_n 2, 1) := by decide +kernel
theorem dX9_chordOf_36 : decode cX9_chordOf 36 = .ok (.istore_n 2, 1) := by decide +kernel
theorem dX9_chordOf_37 : decode cX9_chordOf 37 = .ok (.iinc 3 1, 3) := by decide +kernel
theorem dX9_chordOf_40 : decode cX9_chordOf 40 = .ok (.goto (-32), 3) := by decide +kernel
theorem dX9_chordOf_43 : decode cX9_chordOf 43 = .ok (.iload_n 2, 1) := by decide +kernel
theorem dX9_chordOf_44 : decode cX9_chordOf 44 = .ok (.ireturn, 1) := by decide +kernel
abbrev rm_X9_chordOf : Room := { frames := 1, cells := 0, slots := 0, locals := 22 }
def f_X9_chordOf_L36 (rec8 : Int32 × Int32 → Option (Int32 × Sg)) (x0 : Nat) (x1 : Int32) (x3 : Int32) (y0 : Int32) (σ : Sg) : Option (Int32 × Sg) := lB (x3 + (1 : Int32)) fun v1 => rec8 (y0, v1)
def f_X9_chordOf_L8  (x0 : Nat) (x1 : Int32) (σ : Sg) (rec8 : Int32 × Int32 → Option (Int32 × Sg)) (s : Int32 × Int32) : Option (Int32 × Sg) := (if (gI σ x0 16) ≤ (s.2) then some ((s.1), σ) else ck (inb (s.2) (aL (gR σ x0 15))) (ck (inb x1 (aL (gR σ x0 7))) ((if (gI σ (gR σ x0 15) (s.2).toNatClampNeg) = (gI σ (gR σ x0 7) x1.toNatClampNeg) then f_X9_chordOf_L36 rec8 x0 x1 (s.2) (s.2) σ else f_X9_chordOf_L36 rec8 x0 x1 (s.2) (s.1) σ))))
def f_X9_chordOf (x0 : Nat) (x1 : Int32) (σ : Sg) : Option (Int32 × Sg) := bd (f_X9_findsChords x0 σ) fun _ s1 => fx (f_X9_chordOf_L8 x0 x1 s1) FU ((-1 : Int32), (0 : Int32))
theorem t_X9_chordOf_L36 {K : Cx} (h : Ok K cX9_chordOf RX9 4 rm_X9_chordOf (some .int)) (hs : kiv K = St) (x0 : Nat) (x1 : Int32) (x3 : Int32) (y0 : Int32) (σ : Sg) (rec8 : Int32 × Int32 → Option (Int32 × Sg)) (hr8 : ∀ u, T K (QI K) 8 [(0, .ref x0), (1, .int x1), (2, .int (u.1)), (3, .int (u.2))] [] 0 0 σ (rec8 u)) (hk0 : kd x0 9)  : T K (QI K) 36 [(0, .ref x0), (1, .int x1), (3, .int x3)] [.int y0] 0 0 σ (f_X9_chordOf_L36 rec8 x0 x1 x3 y0 σ) := by
  unfold f_X9_chordOf_L36
  refine T_istore_n (lv' := [(2, .int y0), (0, .ref x0), (1, .int x1), (3, .int x3)]) (pc := 36) h dX9_chordOf_36 rfl (by decide) rfl ?_
  refine T_iinc (fl := fun v1 => [(3, .int v1), (2, .int y0), (0, .ref x0), (1, .int x1)]) (pc := 37) h dX9_chordOf_37 3 rfl ki_1 (by decide) (fun _ => rfl) (fun v1 => ?_)
  refine T_goto (pc := 40) (tgt := 8) h dX9_chordOf_40 (by decide) ?_
  refine T_sub [2, 3, 1, 0] rfl ?_
  exact hr8 (y0, v1)
theorem t_X9_chordOf_L8 {K : Cx} (h : Ok K cX9_chordOf RX9 4 rm_X9_chordOf (some .int)) (hs : kiv K = St) (x0 : Nat) (x1 : Int32) (σ : Sg)  (hk0 : kd x0 9) (rec8 : Int32 × Int32 → Option (Int32 × Sg)) (hr8 : ∀ u, T K (QI K) 8 [(0, .ref x0), (1, .int x1), (2, .int (u.1)), (3, .int (u.2))] [] 0 0 σ (rec8 u)) (s : Int32 × Int32) : T K (QI K) 8 [(0, .ref x0), (1, .int x1), (2, .int (s.1)), (3, .int (s.2))] [] 0 0 σ (f_X9_chordOf_L8 x0 x1 σ rec8 s) := by
  unfold f_X9_chordOf_L8
  refine T_iload_n (pc := 8) h dX9_chordOf_8 rfl 3 rfl ?_
  refine T_aload_n (pc := 9) h dX9_chordOf_9 rfl 0 rfl ?_
  refine T_getI (pc := 10) h hs hk0 fl_X9_157 rfl dX9_chordOf_10 ?_
  refine T_icmp_ge (pc := 13) (tgt := 43) h dX9_chordOf_13 (by decide) ?_ ?_
  · refine T_iload_n (pc := 43) h dX9_chordOf_43 rfl 2 rfl ?_
    exact T_ireturn (pc := 44) h (Nat.zero_le _) (Nat.zero_le _) dX9_chordOf_44
  · refine T_aload_n (pc := 16) h dX9_chordOf_16 rfl 0 rfl ?_
    refine T_gR (pc := 17) h hs hk0 fl_X9_51 rfl fk_9_15 dX9_chordOf_17 (fun hq1 => ?_)
    refine T_iload_n (pc := 20) h dX9_chordOf_20 rfl 3 rfl ?_
    refine T_iald (pc := 21) h hs hq1 dX9_chordOf_21 ?_
    refine T_aload_n (pc := 22) h dX9_chordOf_22 rfl 0 rfl ?_
    refine T_gR (pc := 23) h hs hk0 fl_X9_32 rfl fk_9_7 dX9_chordOf_23 (fun hq2 => ?_)
    refine T_iload_n (pc := 26) h dX9_chordOf_26 rfl 1 rfl ?_
    refine T_iald (pc := 27) h hs hq2 dX9_chordOf_27 ?_
    refine T_icmp_ne (pc := 28) (tgt := 35) h dX9_chordOf_28 (by decide) ?_ ?_
    · refine T_iload_n (pc := 35) h dX9_chordOf_35 rfl 2 rfl ?_
      refine T_sub [0, 1, 3] rfl ?_
      exact t_X9_chordOf_L36 h hs x0 x1 (s.2) (s.1) σ rec8 hr8 hk0
    · refine T_iload_n (pc := 31) h dX9_chordOf_31 rfl 3 rfl ?_
      refine T_goto (pc := 32) (tgt := 36) h dX9_chordOf_32 (by decide) ?_
      refine T_sub [0, 1, 3] rfl ?_
      exact t_X9_chordOf_L36 h hs x0 x1 (s.2) (s.2) σ rec8 hr8 hk0
theorem t_X9_chordOf {K : Cx} (h : Ok K cX9_chordOf RX9 4 rm_X9_chordOf (some .int)) (hs : kiv K = St) (x0 : Nat) (x1 : Int32) (σ : Sg) (hk0 : kd x0 9) : T K (QI K) 0 [(0, .ref x0), (1, .int x1)] [] 0 0 σ (f_X9_chordOf x0 x1 σ) := by
  unfold f_X9_chordOf
  refine T_aload_n (pc := 0) h dX9_chordOf_0 rfl 0 rfl ?_
  refine T_callVv (pc := 1) h (M_X9_findsChords (kl K) hs x0 σ hk0) mv_X9_findsChords hs hk0 ml_X9_160 rfl ⟨Nat.le_of_ble_eq_true rfl, Nat.le_of_ble_eq_true rfl⟩ ⟨Nat.le_refl 0, Nat.le_refl 0⟩ (Nat.le_of_ble_eq_true rfl) dX9_chordOf_1 rfl (fun _ s1 => ?_)
  refine T_iconst (pc := 4) h dX9_chordOf_4 ki_m1 ?_
  refine T_istore_n (lv' := [(2, .int (-1 : Int32)), (0, .ref x0), (1, .int x1)]) (pc := 5) h dX9_chordOf_5 rfl (by decide) rfl ?_
  refine T_iconst (pc := 6) h dX9_chordOf_6 ki_0 ?_
  refine T_istore_n (lv' := [(3, .int (0 : Int32)), (2, .int (-1 : Int32)), (0, .ref x0), (1, .int x1)]) (pc := 7) h dX9_chordOf_7 rfl (by decide) rfl ?_
  refine T_sub [2, 3, 1, 0] rfl ?_
  exact T_fx (B := f_X9_chordOf_L8 x0 x1 s1) (fl := fun u => [(0, .ref x0), (1, .int x1), (2, .int (u.1)), (3, .int (u.2))]) (f := fun u => s1) (fun rec8 hr8 u => t_X9_chordOf_L8 h hs x0 x1 s1 hk0 rec8 hr8 u) FU ((-1 : Int32), (0 : Int32))
theorem M_X9_chordOf (l : Launch) {iv : Sg → Prop} (hi : iv = St) (x0 : Nat) (x1 : Int32) (σ : Sg) (hk0 : kd x0 9) : CTi l yX9_chordOf cX9_chordOf 4 (some .int) rm_X9_chordOf iv [.ref x0, .int x1] σ (f_X9_chordOf x0 x1 σ) := by
  subst hi
  exact CT_of (by decide) (Nat.le_of_ble_eq_true rfl) (fun K _ h _ hs _ _ => t_X9_chordOf h hs x0 x1 σ hk0)
/-! LuteTabsModel.fretOf(I)I -/
theorem dX9_fretOf_0 : decode cX9_fretOf 0 = .ok (.aload_n 0, 1) := by decide +kernel
theorem dX9_fretOf_1 : decode cX9_fretOf 1 = .ok (.getfield 35, 3) := by decide +kernel
theorem dX9_fretOf_4 : decode cX9_fretOf 4 = .ok (.iload_n 1, 1) := by decide +kernel
theorem dX9_fretOf_5 : decode cX9_fretOf 5 = .ok (.iaload, 1) := by decide +kernel
theorem dX9_fretOf_6 : decode cX9_fretOf 6 = .ok (.aload_n 0, 1) := by decide +kernel
theorem dX9_fretOf_7 : decode cX9_fretOf 7 = .ok (.getfield 163, 3) := by decide +kernel
theorem dX9_fretOf_10 : decode cX9_fretOf 10 = .ok (.iadd, 1) := by decide +kernel
theorem dX9_fretOf_11 : decode cX9_fretOf 11 = .ok (.aload_n 0, 1) := by decide +kernel
theorem dX9_fretOf_12 : decode cX9_fretOf 12 = .ok (.getfield 13, 3) := by decide +kernel
theorem dX9_fretOf_15 : decode cX9_fretOf 15 = .ok (.aload_n 0, 1) := by decide +kernel
theorem dX9_fretOf_16 : decode cX9_fretOf 16 = .ok (.getfield 60, 3) := by decide +kernel
theorem dX9_fretOf_19 : decode cX9_fretOf 19 = .ok (.iload_n 1, 1) := by decide +kernel
theorem dX9_fretOf_20 : decode cX9_fretOf 20 = .ok (.iaload, 1) := by decide +kernel
theorem dX9_fretOf_21 : decode cX9_fretOf 21 = .ok (.iaload, 1) := by decide +kernel
theorem dX9_fretOf_22 : decode cX9_fretOf 22 = .ok (.isub, 1) := by decide +kernel
theorem dX9_fretOf_23 : decode cX9_fretOf 23 = .ok (.ireturn, 1) := by decide +kernel
abbrev rm_X9_fretOf : Room := { frames := 0, cells := 0, slots := 0, locals := 0 }
def f_X9_fretOf (x0 : Nat) (x1 : Int32) (σ : Sg) : Option (Int32 × Sg) := ck (inb x1 (aL (gR σ x0 8))) (ck (inb x1 (aL (gR σ x0 19))) (ck (inb (gI σ (gR σ x0 19) x1.toNatClampNeg) (aL (gR σ x0 1))) (some ((((gI σ (gR σ x0 8) x1.toNatClampNeg) + (gI σ x0 20)) - (gI σ (gR σ x0 1) (gI σ (gR σ x0 19) x1.toNatClampNeg).toNatClampNeg)), σ))))
theorem t_X9_fretOf {K : Cx} (h : Ok K cX9_fretOf RX9 2 rm_X9_fretOf (some .int)) (hs : kiv K = St) (x0 : Nat) (x1 : Int32) (σ : Sg) (hk0 : kd x0 9) : T K (QI K) 0 [(0, .ref x0), (1, .int x1)] [] 0 0 σ (f_X9_fretOf x0 x1 σ) := by
  unfold f_X9_fretOf
  refine T_aload_n (pc := 0) h dX9_fretOf_0 rfl 0 rfl ?_
  refine T_gR (pc := 1) h hs hk0 fl_X9_35 rfl fk_9_8 dX9_fretOf_1 (fun hq1 => ?_)
  refine T_iload_n (pc := 4) h dX9_fretOf_4 rfl 1 rfl ?_
  refine T_iald (pc := 5) h hs hq1 dX9_fretOf_5 ?_
  refine T_aload_n (pc := 6) h dX9_fretOf_6 rfl 0 rfl ?_
  refine T_getI (pc := 7) h hs hk0 fl_X9_163 rfl dX9_fretOf_7 ?_
  refine T_iadd (pc := 10) h dX9_fretOf_10 ?_
  refine T_aload_n (pc := 11) h dX9_fretOf_11 rfl 0 rfl ?_
  refine T_gR (pc := 12) h hs hk0 fl_X9_13 rfl fk_9_1 dX9_fretOf_12 (fun hq2 => ?_)
  refine T_aload_n (pc := 15) h dX9_fretOf_15 rfl 0 rfl ?_
  refine T_gR (pc := 16) h hs hk0 fl_X9_60 rfl fk_9_19 dX9_fretOf_16 (fun hq3 => ?_)
  refine T_iload_n (pc := 19) h dX9_fretOf_19 rfl 1 rfl ?_
  refine T_iald (pc := 20) h hs hq3 dX9_fretOf_20 ?_
  refine T_iald (pc := 21) h hs hq2 dX9_fretOf_21 ?_
  refine T_isub (pc := 22) h dX9_fretOf_22 ?_
  exact T_ireturn (pc := 23) h (Nat.zero_le _) (Nat.zero_le _) dX9_fretOf_23
theorem M_X9_fretOf (l : Launch) {iv : Sg → Prop} (hi : iv = St) (x0 : Nat) (x1 : Int32) (σ : Sg) (hk0 : kd x0 9) : CTi l yX9_fretOf cX9_fretOf 2 (some .int) rm_X9_fretOf iv [.ref x0, .int x1] σ (f_X9_fretOf x0 x1 σ) := by
  subst hi
  exact CT_of (by decide) (Nat.le_of_ble_eq_true rfl) (fun K _ h _ hs _ _ => t_X9_fretOf h hs x0 x1 σ hk0)
/-! LuteTabsModel.isOnCourse(I)Z -/
theorem dX9_isOnCourse_0 : decode cX9_isOnCourse 0 = .ok (.iload_n 1, 1) := by decide +kernel
theorem dX9_isOnCourse_1 : decode cX9_isOnCourse 1 = .ok (.iconst 0, 1) := by decide +kernel
theorem dX9_isOnCourse_2 : decode cX9_isOnCourse 2 = .ok (.aload_n 0, 1) := by decide +kernel
theorem dX9_isOnCourse_3 : decode cX9_isOnCourse 3 = .ok (.getfield 17, 3) := by decide +kernel
theorem dX9_isOnCourse_6 : decode cX9_isOnCourse 6 = .ok (.invokestatic 115, 3) := by decide +kernel
theorem dX9_isOnCourse_9 : decode cX9_isOnCourse 9 = .ok (.ireturn, 1) := by decide +kernel
abbrev rm_X9_isOnCourse : Room := { frames := 1, cells := 0, slots := 0, locals := 22 }
def f_X9_isOnCourse (x0 : Nat) (x1 : Int32) (σ : Sg) : Option (Int32 × Sg) := bd (f_X9_in x1 (0 : Int32) (gI σ x0 2) σ) fun r2 s1 => ck (b01 r2) (some (r2, s1))
theorem t_X9_isOnCourse {K : Cx} (h : Ok K cX9_isOnCourse RX9 2 rm_X9_isOnCourse (some .boolean)) (hs : kiv K = St) (x0 : Nat) (x1 : Int32) (σ : Sg) (hk0 : kd x0 9) : T K (QI K) 0 [(0, .ref x0), (1, .int x1)] [] 0 0 σ (f_X9_isOnCourse x0 x1 σ) := by
  unfold f_X9_isOnCourse
  refine T_iload_n (pc := 0) h dX9_isOnCourse_0 rfl 1 rfl ?_
  refine T_iconst (pc := 1) h dX9_isOnCourse_1 ki_0 ?_
  refine T_aload_n (pc := 2) h dX9_isOnCourse_2 rfl 0 rfl ?_
  refine T_getI (pc := 3) h hs hk0 fl_X9_17 rfl dX9_isOnCourse_3 ?_
  refine T_callSi (pc := 6) h (M_X9_in (kl K) hs x1 (0 : Int32) (gI σ x0 2) σ ) mst_X9_in ml_X9_115 rfl ⟨Nat.le_of_ble_eq_true rfl, Nat.le_of_ble_eq_true rfl⟩ ⟨Nat.le_refl 0, Nat.le_refl 0⟩ (Nat.le_of_ble_eq_true rfl) dX9_isOnCourse_6 rfl (fun r2 s1 => ?_)
  exact T_zreturn (pc := 9) h (Nat.zero_le _) (Nat.zero_le _) dX9_isOnCourse_9
theorem M_X9_isOnCourse (l : Launch) {iv : Sg → Prop} (hi : iv = St) (x0 : Nat) (x1 : Int32) (σ : Sg) (hk0 : kd x0 9) : CTi l yX9_isOnCourse cX9_isOnCourse 2 (some .boolean) rm_X9_isOnCourse iv [.ref x0, .int x1] σ (f_X9_isOnCourse x0 x1 σ) := by
  subst hi
  exact CT_of (by decide) (Nat.le_of_ble_eq_true rfl) (fun K _ h _ hs _ _ => t_X9_isOnCourse h hs x0 x1 σ hk0)
/-! LuteTabsModel.findsLow(I)V -/
theorem dX9_findsLow_0 : decode cX9_findsLow 0 = .ok (.aload_n 0, 1) := by decide +kernel
theorem dX9_findsLow_1 : decode cX9_findsLow 1 = .ok (.iconst 0, 1) := by decide +kernel
theorem dX9_findsLow_2 : decode cX9_findsLow 2 = .ok (.putfield 166, 3) := by decide +kernel
theorem dX9_findsLow_5 : decode cX9_findsLow 5 = .ok (.aload_n 0, 1) := by decide +kernel
theorem dX9_findsLow_6 : decode cX9_findsLow 6 = .ok (.iconst 0, 1) := by decide +kernel
theorem dX9_findsLow_7 : decode cX9_findsLow 7 = .ok (.putfield 169, 3) := by decide +kernel
theorem dX9_findsLow_10 : decode cX9_findsLow 10 = .ok (.aload_n 0, 1) := by decide +kernel
theorem dX9_findsLow_11 : decode cX9_findsLow 11 = .ok (.iconst 0, 1) := by decide +kernel
theorem dX9_findsLow_12 : decode cX9_findsLow 12 = .ok (.putfield 172, 3) := by decide +kernel
theorem dX9_findsLow_15 : decode cX9_findsLow 15 = .ok (.iconst 0, 1) := by decide +kernel
theorem dX9_findsLow_16 : decode cX9_findsLow 16 = .ok (.istore_n 2, 1) := by decide +kernel
theorem dX9_findsLow_17 : decode cX9_findsLow 17 = .ok (.iload_n 2, 1) := by decide +kernel
theorem dX9_findsLow_18 : decode cX9_findsLow 18 = .ok (.aload_n 0, 1) := by decide +kernel
theorem dX9_findsLow_19 : decode cX9_findsLow 19 = .ok (.getfield 57, 3) := by decide +kernel
theorem dX9_findsLow_22 : decode cX9_findsLow 22 = .ok (.iload_n 1, 1) := by decide +kernel
theorem dX9_findsLow_23 : decode cX9_findsLow 23 = .ok (.iaload, 1) := by decide +kernel
theorem dX9_findsLow_24 : decode cX9_findsLow 24 = .ok (.if_icmp .ge 115, 3) := by decide +kernel
theorem dX9_findsLow_27 : decode cX9_findsLow 27 = .ok (.aload_n 0, 1) := by decide +kernel
theorem dX9_findsLow_28 : decode cX9_findsLow 28 = .ok (.getfield 54, 3) := by decide +kernel
theorem dX9_findsLow_31 : decode cX9_findsLow 31 = .ok (.bipush 14, 2) := by decide +kernel
theorem dX9_findsLow_33 : decode cX9_findsLow 33 = .ok (.iload_n 1, 1) := by decide +kernel
theorem dX9_findsLow_34 : decode cX9_findsLow 34 = .ok (.imul, 1) := by decide +kernel
theorem dX9_findsLow_35 : decode cX9_findsLow 35 = .ok (.iload_n 2, 1) := by decide +kernel
theorem dX9_findsLow_36 : decode cX9_findsLow 36 = .ok (.iadd, 1) := by decide +kernel
theorem dX9_findsLow_37 : decode cX9_findsLow 37 = .ok (.iaload, 1) := by decide +kernel
theorem dX9_findsLow_38 : decode cX9_findsLow 38 = .ok (.istore_n 3, 1) := by decide +kernel
theorem dX9_findsLow_39 : decode cX9_findsLow 39 = .ok (.aload_n 0, 1) := by decide +kernel
theorem dX9_findsLow_40 : decode cX9_findsLow 40 = .ok (.iload_n 3, 1) := by decide +kernel
theorem dX9_findsLow_41 : decode cX9_findsLow 41 = .ok (.invokevirtual 175, 3) := by decide +kernel
theorem dX9_findsLow_44 : decode cX9_findsLow 44 = .ok (.istore 4, 2) := by decide +kernel
theorem dX9_findsLow_46 : decode cX9_findsLow 46 = .ok (.aload_n 0, 1) := by decide +kernel
theorem dX9_findsLow_47 : decode cX9_findsLow 47 = .ok (.iload 4, 2) := by decide +kernel
theorem dX9_findsLow_49 : decode cX9_findsLow 49 = .ok (.ifCond .le 24, 3) := by decide +kernel
theorem dX9_findsLow_52 : decode cX9_findsLow 52 = .ok (.aload_n 0, 1) := by decide +kernel
theorem dX9_findsLow_53 : decode cX9_findsLow 53 = .ok (.getfield 166, 3) := by decide +kernel
theorem dX9_findsLow_56 : decode cX9_findsLow 56 = .ok (.ifCond .eq 12, 3) := by decide +kernel
theorem dX9_findsLow_59 : decode cX9_findsLow 59 = .ok (.iload 4, 2) := by decide +kernel
theorem dX9_findsLow_61 : decode cX9_findsLow 61 = .ok (.aload_n 0, 1) := by decide +kernel
theorem dX9_findsLow_62 : decode cX9_findsLow 62 = .ok (.getfield 166, 3) := by decide +kernel
theorem dX9_findsLow_65 : decode cX9_findsLow 65 = .ok (.if_icmp .ge 8, 3) := by decide +kernel
theorem dX9_findsLow_68 : decode cX9_findsLow 68 = .ok (.iload 4, 2) := by decide +kernel
theorem dX9_findsLow_70 : decode cX9_findsLow 70 = .ok (.goto 7, 3) := by decide +kernel
theorem dX9_findsLow_73 : decode cX9_findsLow 73 = .ok (.aload_n 0, 1) := by decide +kernel
theorem dX9_findsLow_74 : decode cX9_findsLow 74 = .ok (.getfield 166, 3) := by decide +kernel
theorem dX9_findsLow_77 : decode cX9_findsLow 77 = .ok (.putfield 166, 3) := by decide +kernel
theorem dX9_findsLow_80 : decode cX9_findsLow 80 = .ok (.aload_n 0, 1) := by decide +kernel
theorem dX9_findsLow_81 : decode cX9_findsLow 81 = .ok (.dup, 1) := by decide +kernel
theorem dX9_findsLow_82 : decode cX9_findsLow 82 = .ok (.getfield 169, 3) := by decide +kernel
theorem dX9_findsLow_85 : decode cX9_findsLow 85 = .ok (.iload 4, 2) := by decide +kernel
theorem dX9_findsLow_87 : decode cX9_findsLow 87 = .ok (.ifCond .le 7, 3) := by decide +kernel
theorem dX9_findsLow_90 : decode cX9_findsLow 90 = .ok (.iconst 1, 1) := by decide +kernel
theorem dX9_findsLow_91 : decode cX9_findsLow 91 = .ok (.goto 4, 3) := by decide +kernel
theorem dX9_findsLow_94 : decode cX9_findsLow 94 = .ok (.iconst 0, 1) := by decide +kernel
theorem dX9_findsLow_95 : decode cX9_findsLow 95 = .ok (.iadd, 1) := by decide +kernel
theorem dX9_findsLow_96 : decode cX9_findsLow 96 = .ok (.putfield 169, 3) := by decide +kernel
theorem dX9_findsLow_99 : decode cX9_findsLow 99 = .ok (.aload_n 0, 1) := by decide +kernel
theorem dX9_findsLow_100 : decode cX9_findsLow 100 = .ok (.dup, 1) := by decide +kernel
theorem dX9_findsLow_101 : decode cX9_findsLow 101 = .ok (.getfield 172, 3) := by decide +kernel
theorem dX9_findsLow_104 : decode cX9_findsLow 104 = .ok (.iload 4, 2) := by decide +kernel
theorem dX9_findsLow_106 : decode cX9_findsLow 106 = .ok (.ifCond .le 22, 3) := by decide +kernel
theorem dX9_findsLow_109 : decode cX9_findsLow 109 = .ok (.aload_n 0, 1) := by decide +kernel
theorem dX9_findsLow_110 : decode cX9_findsLow 110 = .ok (.getfield 32, 3) := by decide +kernel
theorem dX9_findsLow_113 : decode cX9_findsLow 113 = .ok (.iload_n 3, 1) := by decide +kernel
theorem dX9_findsLow_114 : decode cX9_findsLow 114 = .ok (.iaload, 1) := by decide +kernel
theorem dX9_findsLow_115 : decode cX9_findsLow 115 = .ok (.aload_n 0, 1) := by decide +kernel
theorem dX9_findsLow_116 : decode cX9_findsLow 116 = .ok (.getfield 51, 3) := by decide +kernel
theorem dX9_findsLow_119 : decode cX9_findsLow 119 = .ok (.iload_n 1, 1) := by decide +kernel
theorem dX9_findsLow_120 : decode cX9_findsLow 120 = .ok (.iaload, 1) := by decide +kernel
theorem dX9_findsLow_121 : decode cX9_findsLow 121 = .ok (.if_icmp .ne 7, 3) := by decide +kernel
theorem dX9_findsLow_124 : decode cX9_findsLow 124 = .ok (.iconst 1, 1) := by decide +kernel
theorem dX9_findsLow_125 : decode cX9_findsLow 125 = .ok (.goto 4, 3) := by decide +kernel
theorem dX9_findsLow_128 : decode cX9_findsLow 128 = .ok (.iconst 0, 1) := by decide +kernel
theorem dX9_findsLow_129 : decode cX9_findsLow 129 = .ok (.iadd, 1) := by decide +kernel
theorem dX9_findsLow_130 : decode cX9_findsLow 130 = .ok (.putfield 172, 3) := by decide +kernel
theorem dX9_findsLow_133 : decode cX9_findsLow 133 = .ok (.iinc 2 1, 3) := by decide +kernel
theorem dX9_findsLow_136 : decode cX9_findsLow 136 = .ok (.goto (-119), 3) := by decide +kernel
theorem dX9_findsLow_139 : decode cX9_findsLow 139 = .ok (.return_, 1) := by decide +kernel
abbrev rm_X9_findsLow : Room := { frames := 1, cells := 0, slots := 0, locals := 21 }
def f_X9_findsLow_L129 (rec17 : Int32 × Sg → Option (Unit × Sg)) (x0 : Nat) (x1 : Int32) (x2 : Int32) (y0 : Nat) (y1 : Int32) (y2 : Int32) (σ : Sg) : Option (Unit × Sg) := lB (pI σ y0 26 (y1 + y2)) fun s1 => lB (x2 + (1 : Int32)) fun v2 => rec17 (v2, s1)
def f_X9_findsLow_L128 (rec17 : Int32 × Sg → Option (Unit × Sg)) (x0 : Nat) (x1 : Int32) (x2 : Int32) (y0 : Nat) (y1 : Int32) (σ : Sg) : Option (Unit × Sg) := f_X9_findsLow_L129 rec17 x0 x1 x2 y0 y1 (0 : Int32) σ
def f_X9_findsLow_L95 (rec17 : Int32 × Sg → Option (Unit × Sg)) (x0 : Nat) (x1 : Int32) (x2 : Int32) (x3 : Int32) (x4 : Int32) (y0 : Nat) (y1 : Int32) (y2 : Int32) (σ : Sg) : Option (Unit × Sg) := lB (pI σ y0 22 (y1 + y2)) fun s1 => (if x4 ≤ 0 then f_X9_findsLow_L128 rec17 x0 x1 x2 x0 (gI s1 x0 26) s1 else ck (inb x3 (aL (gR s1 x0 7))) (ck (inb x1 (aL (gR s1 x0 15))) ((if (gI s1 (gR s1 x0 7) x3.toNatClampNeg) = (gI s1 (gR s1 x0 15) x1.toNatClampNeg) then f_X9_findsLow_L129 rec17 x0 x1 x2 x0 (gI s1 x0 26) (1 : Int32) s1 else f_X9_findsLow_L128 rec17 x0 x1 x2 x0 (gI s1 x0 26) s1))))
def f_X9_findsLow_L77 (rec17 : Int32 × Sg → Option (Unit × Sg)) (x0 : Nat) (x1 : Int32) (x2 : Int32) (x3 : Int32) (x4 : Int32) (y0 : Nat) (y1 : Int32) (σ : Sg) : Option (Unit × Sg) := lB (pI σ y0 21 y1) fun s1 => (if x4 ≤ 0 then f_X9_findsLow_L95 rec17 x0 x1 x2 x3 x4 x0 (gI s1 x0 22) (0 : Int32) s1 else f_X9_findsLow_L95 rec17 x0 x1 x2 x3 x4 x0 (gI s1 x0 22) (1 : Int32) s1)
def f_X9_findsLow_L68 (rec17 : Int32 × Sg → Option (Unit × Sg)) (x0 : Nat) (x1 : Int32) (x2 : Int32) (x3 : Int32) (x4 : Int32) (y0 : Nat) (σ : Sg) : Option (Unit × Sg) := f_X9_findsLow_L77 rec17 x0 x1 x2 x3 x4 y0 x4 σ
def f_X9_findsLow_L73 (rec17 : Int32 × Sg → Option (Unit × Sg)) (x0 : Nat) (x1 : Int32) (x2 : Int32) (x3 : Int32) (x4 : Int32) (y0 : Nat) (σ : Sg) : Option (Unit × Sg) := f_X9_findsLow_L77 rec17 x0 x1 x2 x3 x4 y0 (gI σ x0 21) σ
def f_X9_findsLow_L17  (x0 : Nat) (x1 : Int32) (rec17 : Int32 × Sg → Option (Unit × Sg)) (s : Int32 × Sg) : Option (Unit × Sg) := ck (inb x1 (aL (gR (s.2) x0 18))) ((if (gI (s.2) (gR (s.2) x0 18) x1.toNatClampNeg) ≤ (s.1) then some ((), (s.2)) else ck (inb (((14 : Int32) * x1) + (s.1)) (aL (gR (s.2) x0 17))) (lB ((gI (s.2) (gR (s.2) x0 17) (((14 : Int32) * x1) + (s.1)).toNatClampNeg)) fun v3 => bd (f_X9_fretOf x0 v3 (s.2)) fun r5 s4 => (if r5 ≤ 0 then f_X9_findsLow_L73 rec17 x0 x1 (s.1) v3 r5 x0 s4 else (if (gI s4 x0 21) = 0 then f_X9_findsLow_L68 rec17 x0 x1 (s.1) v3 r5 x0 s4 else (if (gI s4 x0 21) ≤ r5 then f_X9_findsLow_L73 rec17 x0 x1 (s.1) v3 r5 x0 s4 else f_X9_findsLow_L68 rec17 x0 x1 (s.1) v3 r5 x0 s4))))))
def f_X9_findsLow (x0 : Nat) (x1 : Int32) (σ : Sg) : Option (Unit × Sg) := lB (pI σ x0 21 (0 : Int32)) fun s1 => lB (pI s1 x0 22 (0 : Int32)) fun s2 => lB (pI s2 x0 26 (0 : Int32)) fun s3 => fx (f_X9_findsLow_L17 x0 x1) FU ((0 : Int32), s3)
theorem t_X9_findsLow_L129 {K : Cx} (h : Ok K cX9_findsLow RX9 5 rm_X9_findsLow none) (hs : kiv K = St) (x0 : Nat) (x1 : Int32) (x2 : Int32) (y0 : Nat) (y1 : Int32) (y2 : Int32) (σ : Sg) (rec17 : Int32 × Sg → Option (Unit × Sg)) (hr17 : ∀ u, T K (QV K) 17 [(0, .ref x0), (1, .int x1), (2, .int (u.1))] [] 0 0 (u.2) (rec17 u)) (hk0 : kd x0 9) (hy0 : kd y0 9) : T K (QV K) 129 [(0, .ref x0), (1, .int x1), (2, .int x2)] [.int y2, .int y1, .ref y0] 0 0 σ (f_X9_findsLow_L129 rec17 x0 x1 x2 y0 y1 y2 σ) := by
  unfold f_X9_findsLow_L129
  refine T_iadd (pc := 129) h dX9_findsLow_129 ?_
  refine T_putI (pc := 130) h hs hy0 fl_X9_172 rfl rfl dX9_findsLow_130 ?_
  refine T_letS fun s1 => ?_
  refine T_iinc (fl := fun v2 => [(2, .int v2), (0, .ref x0), (1, .int x1)]) (pc := 133) h dX9_findsLow_133 2 rfl ki_1 (by decide) (fun _ => rfl) (fun v2 => ?_)
  refine T_goto (pc := 136) (tgt := 17) h dX9_findsLow_136 (by decide) ?_
  refine T_sub [1, 2, 0] rfl ?_
  exact hr17 (v2, s1)
theorem t_X9_findsLow_L128 {K : Cx} (h : Ok K cX9_findsLow RX9 5 rm_X9_findsLow none) (hs : kiv K = St) (x0 : Nat) (x1 : Int32) (x2 : Int32) (y0 : Nat) (y1 : Int32) (σ : Sg) (rec17 : Int32 × Sg → Option (Unit × Sg)) (hr17 : ∀ u, T K (QV K) 17 [(0, .ref x0), (1, .int x1), (2, .int (u.1))] [] 0 0 (u.2) (rec17 u)) (hk0 : kd x0 9) (hy0 : kd y0 9) : T K (QV K) 128 [(0, .ref x0), (1, .int x1), (2, .int x2)] [.int y1, .ref y0] 0 0 σ (f_X9_findsLow_L128 rec17 x0 x1 x2 y0 y1 σ) := by
  unfold f_X9_findsLow_L128
  refine T_iconst (pc := 128) h dX9_findsLow_128 ki_0 ?_
  refine T_sub [0, 1, 2] rfl ?_
  exact t_X9_findsLow_L129 h hs x0 x1 x2 y0 y1 (0 : Int32) σ rec17 hr17 hk0 hy0
theorem t_X9_findsLow_L95 {K : Cx} (h : Ok K cX9_findsLow RX9 5 rm_X9_findsLow none) (hs : kiv K = St) (x0 : Nat) (x1 : Int32) (x2 : Int32) (x3 : Int32) (x4 : Int32) (y0 : Nat) (y1 : Int32) (y2 : Int32) (σ : Sg) (rec17 : Int32 × Sg → Option (Unit × Sg)) (hr17 : ∀ u, T K (QV K) 17 [(0, .ref x0), (1, .int x1), (2, .int (u.1))] [] 0 0 (u.2) (rec17 u)) (hk0 : kd x0 9) (hy0 : kd y0 9) : T K (QV K) 95 [(0, .ref x0), (1, .int x1), (2, .int x2), (3, .int x3), (4, .int x4)] [.int y2, .int y1, .ref y0] 0 0 σ (f_X9_findsLow_L95 rec17 x0 x1 x2 x3 x4 y0 y1 y2 σ) := by
  unfold f_X9_findsLow_L95
  refine T_iadd (pc := 95) h dX9_findsLow_95 ?_
  refine T_putI (pc := 96) h hs hy0 fl_X9_169 rfl rfl dX9_findsLow_96 ?_
  refine T_letS fun s1 => ?_
  refine T_aload_n (pc := 99) h dX9_findsLow_99 rfl 0 rfl ?_
  refine T_dup (pc := 100) h dX9_findsLow_100 rfl ?_
  refine T_getI (pc := 101) h hs hk0 fl_X9_172 rfl dX9_findsLow_101 ?_
  refine T_iload (pc := 104) h dX9_findsLow_104 4 rfl ?_
  refine T_if_le (pc := 106) (tgt := 128) h dX9_findsLow_106 (by decide) ?_ ?_
  · refine T_sub [0, 1, 2] rfl ?_
    exact t_X9_findsLow_L128 h hs x0 x1 x2 x0 (gI s1 x0 26) s1 rec17 hr17 hk0 hk0
  · refine T_aload_n (pc := 109) h dX9_findsLow_109 rfl 0 rfl ?_
    refine T_gR (pc := 110) h hs hk0 fl_X9_32 rfl fk_9_7 dX9_findsLow_110 (fun hq2 => ?_)
    refine T_iload_n (pc := 113) h dX9_findsLow_113 rfl 3 rfl ?_
    refine T_iald (pc := 114) h hs hq2 dX9_findsLow_114 ?_
    refine T_aload_n (pc := 115) h dX9_findsLow_115 rfl 0 rfl ?_
    refine T_gR (pc := 116) h hs hk0 fl_X9_51 rfl fk_9_15 dX9_findsLow_116 (fun hq3 => ?_)
    refine T_iload_n (pc := 119) h dX9_findsLow_119 rfl 1 rfl ?_
    refine T_iald (pc := 120) h hs hq3 dX9_findsLow_120 ?_
    refine T_icmp_ne (pc := 121) (tgt := 128) h dX9_findsLow_121 (by decide) ?_ ?_
    · refine T_sub [0, 1, 2] rfl ?_
      exact t_X9_findsLow_L128 h hs x0 x1 x2 x0 (gI s1 x0 26) s1 rec17 hr17 hk0 hk0
    · refine T_iconst (pc := 124) h dX9_findsLow_124 ki_1 ?_
      refine T_goto (pc := 125) (tgt := 129) h dX9_findsLow_125 (by decide) ?_
      refine T_sub [0, 1, 2] rfl ?_
      exact t_X9_findsLow_L129 h hs x0 x1 x2 x0 (gI s1 x0 26) (1 : Int32) s1 rec17 hr17 hk0 hk0
theorem t_X9_findsLow_L77 {K : Cx} (h : Ok K cX9_findsLow RX9 5 rm_X9_findsLow none) (hs : kiv K = St) (x0 : Nat) (x1 : Int32) (x2 : Int32) (x3 : Int32) (x4 : Int32) (y0 : Nat) (y1 : Int32) (σ : Sg) (rec17 : Int32 × Sg → Option (Unit × Sg)) (hr17 : ∀ u, T K (QV K) 17 [(0, .ref x0), (1, .int x1), (2, .int (u.1))] [] 0 0 (u.2) (rec17 u)) (hk0 : kd x0 9) (hy0 : kd y0 9) : T K (QV K) 77 [(0, .ref x0), (1, .int x1), (2, .int x2), (3, .int x3), (4, .int x4)] [.int y1, .ref y0] 0 0 σ (f_X9_findsLow_L77 rec17 x0 x1 x2 x3 x4 y0 y1 σ) := by
  unfold f_X9_findsLow_L77
  refine T_putI (pc := 77) h hs hy0 fl_X9_166 rfl rfl dX9_findsLow_77 ?_
  refine T_letS fun s1 => ?_
  refine T_aload_n (pc := 80) h dX9_findsLow_80 rfl 0 rfl ?_
  refine T_dup (pc := 81) h dX9_findsLow_81 rfl ?_
  refine T_getI (pc := 82) h hs hk0 fl_X9_169 rfl dX9_findsLow_82 ?_
  refine T_iload (pc := 85) h dX9_findsLow_85 4 rfl ?_
  refine T_if_le (pc := 87) (tgt := 94) h dX9_findsLow_87 (by decide) ?_ ?_
  · refine T_iconst (pc := 94) h dX9_findsLow_94 ki_0 ?_
    refine T_sub [0, 1, 2, 3, 4] rfl ?_
    exact t_X9_findsLow_L95 h hs x0 x1 x2 x3 x4 x0 (gI s1 x0 22) (0 : Int32) s1 rec17 hr17 hk0 hk0
  · refine T_iconst (pc := 90) h dX9_findsLow_90 ki_1 ?_
    refine T_goto (pc := 91) (tgt := 95) h dX9_findsLow_91 (by decide) ?_
    refine T_sub [0, 1, 2, 3, 4] rfl ?_
    exact t_X9_findsLow_L95 h hs x0 x1 x2 x3 x4 x0 (gI s1 x0 22) (1 : Int32) s1 rec17 hr17 hk0 hk0
theorem t_X9_findsLow_L68 {K : Cx} (h : Ok K cX9_findsLow RX9 5 rm_X9_findsLow none) (hs : kiv K = St) (x0 : Nat) (x1 : Int32) (x2 : Int32) (x3 : Int32) (x4 : Int32) (y0 : Nat) (σ : Sg) (rec17 : Int32 × Sg → Option (Unit × Sg)) (hr17 : ∀ u, T K (QV K) 17 [(0, .ref x0), (1, .int x1), (2, .int (u.1))] [] 0 0 (u.2) (rec17 u)) (hk0 : kd x0 9) (hy0 : kd y0 9) : T K (QV K) 68 [(0, .ref x0), (1, .int x1), (2, .int x2), (3, .int x3), (4, .int x4)] [.ref y0] 0 0 σ (f_X9_findsLow_L68 rec17 x0 x1 x2 x3 x4 y0 σ) := by
  unfold f_X9_findsLow_L68
  refine T_iload (pc := 68) h dX9_findsLow_68 4 rfl ?_
  refine T_goto (pc := 70) (tgt := 77) h dX9_findsLow_70 (by decide) ?_
  refine T_sub [0, 1, 2, 3, 4] rfl ?_
  exact t_X9_findsLow_L77 h hs x0 x1 x2 x3 x4 y0 x4 σ rec17 hr17 hk0 hy0
theorem t_X9_findsLow_L73 {K : Cx} (h : Ok K cX9_findsLow RX9 5 rm_X9_findsLow none) (hs : kiv K = St) (x0 : Nat) (x1 : Int32) (x2 : Int32) (x3 : Int32) (x4 : Int32) (y0 : Nat) (σ : Sg) (rec17 : Int32 × Sg → Option (Unit × Sg)) (hr17 : ∀ u, T K (QV K) 17 [(0, .ref x0), (1, .int x1), (2, .int (u.1))] [] 0 0 (u.2) (rec17 u)) (hk0 : kd x0 9) (hy0 : kd y0 9) : T K (QV K) 73 [(0, .ref x0), (1, .int x1), (2, .int x2), (3, .int x3), (4, .int x4)] [.ref y0] 0 0 σ (f_X9_findsLow_L73 rec17 x0 x1 x2 x3 x4 y0 σ) := by
  unfold f_X9_findsLow_L73
  refine T_aload_n (pc := 73) h dX9_findsLow_73 rfl 0 rfl ?_
  refine T_getI (pc := 74) h hs hk0 fl_X9_166 rfl dX9_findsLow_74 ?_
  refine T_sub [0, 1, 2, 3, 4] rfl ?_
  exact t_X9_findsLow_L77 h hs x0 x1 x2 x3 x4 y0 (gI σ x0 21) σ rec17 hr17 hk0 hy0
theorem t_X9_findsLow_L17 {K : Cx} (h : Ok K cX9_findsLow RX9 5 rm_X9_findsLow none) (hs : kiv K = St) (x0 : Nat) (x1 : Int32)  (hk0 : kd x0 9) (rec17 : Int32 × Sg → Option (Unit × Sg)) (hr17 : ∀ u, T K (QV K) 17 [(0, .ref x0), (1, .int x1), (2, .int (u.1))] [] 0 0 (u.2) (rec17 u)) (s : Int32 × Sg) : T K (QV K) 17 [(0, .ref x0), (1, .int x1), (2, .int (s.1))] [] 0 0 (s.2) (f_X9_findsLow_L17 x0 x1 rec17 s) := by
  unfold f_X9_findsLow_L17
  refine T_iload_n (pc := 17) h dX9_findsLow_17 rfl 2 rfl ?_
  refine T_aload_n (pc := 18) h dX9_findsLow_18 rfl 0 rfl ?_
  refine T_gR (pc := 19) h hs hk0 fl_X9_57 rfl fk_9_18 dX9_findsLow_19 (fun hq1 => ?_)
  refine T_iload_n (pc := 22) h dX9_findsLow_22 rfl 1 rfl ?_
  refine T_iald (pc := 23) h hs hq1 dX9_findsLow_23 ?_
  refine T_icmp_ge (pc := 24) (tgt := 139) h dX9_findsLow_24 (by decide) ?_ ?_
  · exact T_return (pc := 139) h (Nat.zero_le _) (Nat.zero_le _) dX9_findsLow_139
  · refine T_aload_n (pc := 27) h dX9_findsLow_27 rfl 0 rfl ?_
    refine T_gR (pc := 28) h hs hk0 fl_X9_54 rfl fk_9_17 dX9_findsLow_28 (fun hq2 => ?_)
    refine T_bipush (pc := 31) h dX9_findsLow_31 kb_14 ?_
    refine T_iload_n (pc := 33) h dX9_findsLow_33 rfl 1 rfl ?_
    refine T_imul (pc := 34) h dX9_findsLow_34 ?_
    refine T_iload_n (pc := 35) h dX9_findsLow_35 rfl 2 rfl ?_
    refine T_iadd (pc := 36) h dX9_findsLow_36 ?_
    refine T_iald (pc := 37) h hs hq2 dX9_findsLow_37 ?_
    refine T_letI fun v3 => ?_
    refine T_istore_n (lv' := [(3, .int v3), (0, .ref x0), (1, .int x1), (2, .int (s.1))]) (pc := 38) h dX9_findsLow_38 rfl (by decide) rfl ?_
    refine T_aload_n (pc := 39) h dX9_findsLow_39 rfl 1 rfl ?_
    refine T_iload_n (pc := 40) h dX9_findsLow_40 rfl 0 rfl ?_
    refine T_callVi (pc := 41) h (M_X9_fretOf (kl K) hs x0 v3 (s.2) hk0) mv_X9_fretOf hs hk0 ml_X9_175 rfl ⟨Nat.le_of_ble_eq_true rfl, Nat.le_of_ble_eq_true rfl⟩ ⟨Nat.le_refl 0, Nat.le_refl 0⟩ (Nat.le_of_ble_eq_true rfl) dX9_findsLow_41 rfl (fun r5 s4 => ?_)
    refine T_istore (lv' := [(4, .int r5), (3, .int v3), (0, .ref x0), (1, .int x1), (2, .int (s.1))]) (pc := 44) h dX9_findsLow_44 (by decide) rfl ?_
    refine T_aload_n (pc := 46) h dX9_findsLow_46 rfl 2 rfl ?_
    refine T_iload (pc := 47) h dX9_findsLow_47 0 rfl ?_
    refine T_if_le (pc := 49) (tgt := 73) h dX9_findsLow_49 (by decide) ?_ ?_
    · refine T_sub [2, 3, 4, 1, 0] rfl ?_
      exact t_X9_findsLow_L73 h hs x0 x1 (s.1) v3 r5 x0 s4 rec17 hr17 hk0 hk0
    · refine T_aload_n (pc := 52) h dX9_findsLow_52 rfl 2 rfl ?_
      refine T_getI (pc := 53) h hs hk0 fl_X9_166 rfl dX9_findsLow_53 ?_
      refine T_if_eq (pc := 56) (tgt := 68) h dX9_findsLow_56 (by decide) ?_ ?_
      · refine T_sub [2, 3, 4, 1, 0] rfl ?_
        exact t_X9_findsLow_L68 h hs x0 x1 (s.1) v3 r5 x0 s4 rec17 hr17 hk0 hk0
      · refine T_iload (pc := 59) h dX9_findsLow_59 0 rfl ?_
        refine T_aload_n (pc := 61) h dX9_findsLow_61 rfl 2 rfl ?_
        refine T_getI (pc := 62) h hs hk0 fl_X9_166 rfl dX9_findsLow_62 ?_
        refine T_icmp_ge (pc := 65) (tgt := 73) h dX9_findsLow_65 (by decide) ?_ ?_
        · refine T_sub [2, 3, 4, 1, 0] rfl ?_
          exact t_X9_findsLow_L73 h hs x0 x1 (s.1) v3 r5 x0 s4 rec17 hr17 hk0 hk0
        · refine T_sub [2, 3, 4, 1, 0] rfl ?_
          exact t_X9_findsLow_L68 h hs x0 x1 (s.1) v3 r5 x0 s4 rec17 hr17 hk0 hk0
theorem t_X9_findsLow {K : Cx} (h : Ok K cX9_findsLow RX9 5 rm_X9_findsLow none) (hs : kiv K = St) (x0 : Nat) (x1 : Int32) (σ : Sg) (hk0 : kd x0 9) : T K (QV K) 0 [(0, .ref x0), (1, .int x1)] [] 0 0 σ (f_X9_findsLow x0 x1 σ) := by
  unfold f_X9_findsLow
  refine T_aload_n (pc := 0) h dX9_findsLow_0 rfl 0 rfl ?_
  refine T_iconst (pc := 1) h dX9_findsLow_1 ki_0 ?_
  refine T_putI (pc := 2) h hs hk0 fl_X9_166 rfl rfl dX9_findsLow_2 ?_
  refine T_letS fun s1 => ?_
  refine T_aload_n (pc := 5) h dX9_findsLow_5 rfl 0 rfl ?_
  refine T_iconst (pc := 6) h dX9_findsLow_6 ki_0 ?_
  refine T_putI (pc := 7) h hs hk0 fl_X9_169 rfl rfl dX9_findsLow_7 ?_
  refine T_letS fun s2 => ?_
  refine T_aload_n (pc := 10) h dX9_findsLow_10 rfl 0 rfl ?_
  refine T_iconst (pc := 11) h dX9_findsLow_11 ki_0 ?_
  refine T_putI (pc := 12) h hs hk0 fl_X9_172 rfl rfl dX9_findsLow_12 ?_
  refine T_letS fun s3 => ?_
  refine T_iconst (pc := 15) h dX9_findsLow_15 ki_0 ?_
  refine T_istore_n (lv' := [(2, .int (0 : Int32)), (0, .ref x0), (1, .int x1)]) (pc := 16) h dX9_findsLow_16 rfl (by decide) rfl ?_
  refine T_sub [1, 2, 0] rfl ?_
  exact T_fx (B := f_X9_findsLow_L17 x0 x1) (fl := fun u => [(0, .ref x0), (1, .int x1), (2, .int (u.1))]) (f := fun u => (u.2)) (fun rec17 hr17 u => t_X9_findsLow_L17 h hs x0 x1 hk0 rec17 hr17 u) FU ((0 : Int32), s3)
theorem M_X9_findsLow (l : Launch) {iv : Sg → Prop} (hi : iv = St) (x0 : Nat) (x1 : Int32) (σ : Sg) (hk0 : kd x0 9) : CTv l yX9_findsLow cX9_findsLow 5 none rm_X9_findsLow iv [.ref x0, .int x1] σ (f_X9_findsLow x0 x1 σ) := by
  subst hi
  exact CT_of (by decide) (Nat.le_of_ble_eq_true rfl) (fun K _ h _ hs _ _ => t_X9_findsLow h hs x0 x1 σ hk0)
/-! LuteTabsModel.findsBar(I)V -/
theorem dX9_findsBar_0 : decode cX9_findsBar 0 = .ok (.bipush 9, 2) := by decide +kernel
theorem dX9_findsBar_2 : decode cX9_findsBar 2 = .ok (.istore_n 2, 1) := by decide +kernel
theorem dX9_findsBar_3 : decode cX9_findsBar 3 = .ok (.iconst (-1), 1) := by decide +kernel
theorem dX9_findsBar_4 : decode cX9_findsBar 4 = .ok (.istore_n 3, 1) := by decide +kernel
theorem dX9_findsBar_5 : decode cX9_findsBar 5 = .ok (.iconst 0, 1) := by decide +kernel
theorem dX9_findsBar_6 : decode cX9_findsBar 6 = .ok (.istore 4, 2) := by decide +kernel
theorem dX9_findsBar_8 : decode cX9_findsBar 8 = .ok (.iconst 0, 1) := by decide +kernel
theorem dX9_findsBar_9 : decode cX9_findsBar 9 = .ok (.istore 5, 2) := by decide +kernel
theorem dX9_findsBar_11 : decode cX9_findsBar 11 = .ok (.iload 5, 2) := by decide +kernel
theorem dX9_findsBar_13 : decode cX9_findsBar 13 = .ok (.aload_n 0, 1) := by decide +kernel
theorem dX9_findsBar_14 : decode cX9_findsBar 14 = .ok (.getfield 57, 3) := by decide +kernel
theorem dX9_findsBar_17 : decode cX9_findsBar 17 = .ok (.iload_n 1, 1) := by decide +kernel
theorem dX9_findsBar_18 : decode cX9_findsBar 18 = .ok (.iaload, 1) := by decide +kernel
theorem dX9_findsBar_19 : decode cX9_findsBar 19 = .ok (.if_icmp .ge 121, 3) := by decide +kernel
theorem dX9_findsBar_22 : decode cX9_findsBar 22 = .ok (.aload_n 0, 1) := by decide +kernel
theorem dX9_findsBar_23 : decode cX9_findsBar 23 = .ok (.getfield 54, 3) := by decide +kernel
theorem dX9_findsBar_26 : decode cX9_findsBar 26 = .ok (.bipush 14, 2) := by decide +kernel
theorem dX9_findsBar_28 : decode cX9_findsBar 28 = .ok (.iload_n 1, 1) := by decide +kernel
theorem dX9_findsBar_29 : decode cX9_findsBar 29 = .ok (.imul, 1) := by decide +kernel
theorem dX9_findsBar_30 : decode cX9_findsBar 30 = .ok (.iload 5, 2) := by decide +kernel
theorem dX9_findsBar_32 : decode cX9_findsBar 32 = .ok (.iadd, 1) := by decide +kernel
theorem dX9_findsBar_33 : decode cX9_findsBar 33 = .ok (.iaload, 1) := by decide +kernel
theorem dX9_findsBar_34 : decode cX9_findsBar 34 = .ok (.istore 6, 2) := by decide +kernel
theorem dX9_findsBar_36 : decode cX9_findsBar 36 = .ok (.aload_n 0, 1) := by decide +kernel
theorem dX9_findsBar_37 : decode cX9_findsBar 37 = .ok (.getfield 166, 3) := by decide +kernel
theorem dX9_findsBar_40 : decode cX9_findsBar 40 = .ok (.ifCond .le 20, 3) := by decide +kernel
theorem dX9_findsBar_43 : decode cX9_findsBar 43 = .ok (.aload_n 0, 1) := by decide +kernel
theorem dX9_findsBar_44 : decode cX9_findsBar 44 = .ok (.iload 6, 2) := by decide +kernel
theorem dX9_findsBar_46 : decode cX9_findsBar 46 = .ok (.invokevirtual 175, 3) := by decide +kernel
theorem dX9_findsBar_49 : decode cX9_findsBar 49 = .ok (.aload_n 0, 1) := by decide +kernel
theorem dX9_findsBar_50 : decode cX9_findsBar 50 = .ok (.getfield 166, 3) := by decide +kernel
theorem dX9_findsBar_53 : decode cX9_findsBar 53 = .ok (.if_icmp .ne 7, 3) := by decide +kernel
theorem dX9_findsBar_56 : decode cX9_findsBar 56 = .ok (.iconst 1, 1) := by decide +kernel
theorem dX9_findsBar_57 : decode cX9_findsBar 57 = .ok (.goto 4, 3) := by decide +kernel
theorem dX9_findsBar_60 : decode cX9_findsBar 60 = .ok (.iconst 0, 1) := by decide +kernel
theorem dX9_findsBar_61 : decode cX9_findsBar 61 = .ok (.istore 7, 2) := by decide +kernel
theorem dX9_findsBar_63 : decode cX9_findsBar 63 = .ok (.iload 4, 2) := by decide +kernel
theorem dX9_findsBar_65 : decode cX9_findsBar 65 = .ok (.iload 7, 2) := by decide +kernel
theorem dX9_findsBar_67 : decode cX9_findsBar 67 = .ok (.ifCond .eq 7, 3) := by decide +kernel
theorem dX9_findsBar_70 : decode cX9_findsBar 70 = .ok (.iconst 1, 1) := by decide +kernel
theorem dX9_findsBar_71 : decode cX9_findsBar 71 = .ok (.goto 4, 3) := by decide +kernel
theorem dX9_findsBar_74 : decode cX9_findsBar 74 = .ok (.iconst 0, 1) := by decide +kernel
theorem dX9_findsBar_75 : decode cX9_findsBar 75 = .ok (.iadd, 1) := by decide +kernel
theorem dX9_findsBar_76 : decode cX9_findsBar 76 = .ok (.istore 4, 2) := by decide +kernel
theorem dX9_findsBar_78 : decode cX9_findsBar 78 = .ok (.iload 7, 2) := by decide +kernel
theorem dX9_findsBar_80 : decode cX9_findsBar 80 = .ok (.ifCond .eq 24, 3) := by decide +kernel
theorem dX9_findsBar_83 : decode cX9_findsBar 83 = .ok (.aload_n 0, 1) := by decide +kernel
theorem dX9_findsBar_84 : decode cX9_findsBar 84 = .ok (.getfield 60, 3) := by decide +kernel
theorem dX9_findsBar_87 : decode cX9_findsBar 87 = .ok (.iload 6, 2) := by decide +kernel
theorem dX9_findsBar_89 : decode cX9_findsBar 89 = .ok (.iaload, 1) := by decide +kernel
theorem dX9_findsBar_90 : decode cX9_findsBar 90 = .ok (.iload_n 2, 1) := by decide +kernel
theorem dX9_findsBar_91 : decode cX9_findsBar 91 = .ok (.if_icmp .ge 13, 3) := by decide +kernel
theorem dX9_findsBar_94 : decode cX9_findsBar 94 = .ok (.aload_n 0, 1) := by decide +kernel
theorem dX9_findsBar_95 : decode cX9_findsBar 95 = .ok (.getfield 60, 3) := by decide +kernel
theorem dX9_findsBar_98 : decode cX9_findsBar 98 = .ok (.iload 6, 2) := by decide +kernel
theorem dX9_findsBar_100 : decode cX9_findsBar 100 = .ok (.iaload, 1) := by decide +kernel
theorem dX9_findsBar_101 : decode cX9_findsBar 101 = .ok (.goto 4, 3) := by decide +kernel
theorem dX9_findsBar_104 : decode cX9_findsBar 104 = .ok (.iload_n 2, 1) := by decide +kernel
theorem dX9_findsBar_105 : decode cX9_findsBar 105 = .ok (.istore_n 2, 1) := by decide +kernel
theorem dX9_findsBar_106 : decode cX9_findsBar 106 = .ok (.iload 7, 2) := by decide +kernel
theorem dX9_findsBar_108 : decode cX9_findsBar 108 = .ok (.ifCond .eq 24, 3) := by decide +kernel
theorem dX9_findsBar_111 : decode cX9_findsBar 111 = .ok (.aload_n 0, 1) := by decide +kernel
theorem dX9_findsBar_112 : decode cX9_findsBar 112 = .ok (.getfield 60, 3) := by decide +kernel
theorem dX9_findsBar_115 : decode cX9_findsBar 115 = .ok (.iload 6, 2) := by decide +kernel
theorem dX9_findsBar_117 : decode cX9_findsBar 117 = .ok (.iaload, 1) := by decide +kernel
theorem dX9_findsBar_118 : decode cX9_findsBar 118 = .ok (.iload_n 3, 1) := by decide +kernel
theorem dX9_findsBar_119 : decode cX9_findsBar 119 = .ok (.if_icmp .le 13, 3) := by decide +kernel
theorem dX9_findsBar_122 : decode cX9_findsBar 122 = .ok (.aload_n 0, 1) := by decide +kernel
theorem dX9_findsBar_123 : decode cX9_findsBar 123 = .ok (.getfield 60, 3) := by decide +kernel
theorem dX9_findsBar_126 : decode cX9_findsBar 126 = .ok (.iload 6, 2) := by decide +kernel
theorem dX9_findsBar_128 : decode cX9_findsBar 128 = .ok (.iaload, 1) := by decide +kernel
theorem dX9_findsBar_129 : decode cX9_findsBar 129 = .ok (.goto 4, 3) := by decide +kernel
theorem dX9_findsBar_132 : decode cX9_findsBar 132 = .ok (.iload_n 3, 1) := by decide +kernel
theorem dX9_findsBar_133 : decode cX9_findsBar 133 = .ok (.istore_n 3, 1) := by decide +kernel
theorem dX9_findsBar_134 : decode cX9_findsBar 134 = .ok (.iinc 5 1, 3) := by decide +kernel
theorem dX9_findsBar_137 : decode cX9_findsBar 137 = .ok (.goto (-126), 3) := by decide +kernel
theorem dX9_findsBar_140 : decode cX9_findsBar 140 = .ok (.aload_n 0, 1) := by decide +kernel
theorem dX9_findsBar_141 : decode cX9_findsBar 141 = .ok (.iload 4, 2) := by decide +kernel
theorem dX9_findsBar_143 : decode cX9_findsBar 143 = .ok (.iconst 1, 1) := by decide +kernel
theorem dX9_findsBar_144 : decode cX9_findsBar 144 = .ok (.if_icmp .le 7, 3) := by decide +kernel
theorem dX9_findsBar_147 : decode cX9_findsBar 147 = .ok (.iconst 1, 1) := by decide +kernel
theorem dX9_findsBar_148 : decode cX9_findsBar 148 = .ok (.goto 4, 3) := by decide +kernel
theorem dX9_findsBar_151 : decode cX9_findsBar 151 = .ok (.iconst 0, 1) := by decide +kernel
theorem dX9_findsBar_152 : decode cX9_findsBar 152 = .ok (.putfield 178, 3) := by decide +kernel
theorem dX9_findsBar_155 : decode cX9_findsBar 155 = .ok (.iconst 0, 1) := by decide +kernel
theorem dX9_findsBar_156 : decode cX9_findsBar 156 = .ok (.istore 5, 2) := by decide +kernel
theorem dX9_findsBar_158 : decode cX9_findsBar 158 = .ok (.iload 5, 2) := by decide +kernel
theorem dX9_findsBar_160 : decode cX9_findsBar 160 = .ok (.aload_n 0, 1) := by decide +kernel
theorem dX9_findsBar_161 : decode cX9_findsBar 161 = .ok (.getfield 57, 3) := by decide +kernel
theorem dX9_findsBar_164 : decode cX9_findsBar 164 = .ok (.iload_n 1, 1) := by decide +kernel
theorem dX9_findsBar_165 : decode cX9_findsBar 165 = .ok (.iaload, 1) := by decide +kernel
theorem dX9_findsBar_166 : decode cX9_findsBar 166 = .ok (.if_icmp .ge 70, 3) := by decide +kernel
theorem dX9_findsBar_169 : decode cX9_findsBar 169 = .ok (.aload_n 0, 1) := by decide +kernel
theorem dX9_findsBar_170 : decode cX9_findsBar 170 = .ok (.getfield 54, 3) := by decide +kernel
theorem dX9_findsBar_173 : decode cX9_findsBar 173 = .ok (.bipush 14, 2) := by decide +kernel
theorem dX9_findsBar_175 : decode cX9_findsBar 175 = .ok (.iload_n 1, 1) := by decide +kernel
theorem dX9_findsBar_176 : decode cX9_findsBar 176 = .ok (.imul, 1) := by decide +kernel
theorem dX9_findsBar_177 : decode cX9_findsBar 177 = .ok (.iload 5, 2) := by decide +kernel
theorem dX9_findsBar_179 : decode cX9_findsBar 179 = .ok (.iadd, 1) := by decide +kernel
theorem dX9_findsBar_180 : decode cX9_findsBar 180 = .ok (.iaload, 1) := by decide +kernel
theorem dX9_findsBar_181 : decode cX9_findsBar 181 = .ok (.istore 6, 2) := by decide +kernel
theorem dX9_findsBar_183 : decode cX9_findsBar 183 = .ok (.aload_n 0, 1) := by decide +kernel
theorem dX9_findsBar_184 : decode cX9_findsBar 184 = .ok (.aload_n 0, 1) := by decide +kernel
theorem dX9_findsBar_185 : decode cX9_findsBar 185 = .ok (.getfield 178, 3) := by decide +kernel
theorem dX9_findsBar_188 : decode cX9_findsBar 188 = .ok (.ifCond .eq 38, 3) := by decide +kernel
theorem dX9_findsBar_191 : decode cX9_findsBar 191 = .ok (.aload_n 0, 1) := by decide +kernel
theorem dX9_findsBar_192 : decode cX9_findsBar 192 = .ok (.iload 6, 2) := by decide +kernel
theorem dX9_findsBar_194 : decode cX9_findsBar 194 = .ok (.invokevirtual 175, 3) := by decide +kernel
theorem dX9_findsBar_197 : decode cX9_findsBar 197 = .ok (.ifCond .gt 25, 3) := by decide +kernel
theorem dX9_findsBar_200 : decode cX9_findsBar 200 = .ok (.aload_n 0, 1) := by decide +kernel
theorem dX9_findsBar_201 : decode cX9_findsBar 201 = .ok (.getfield 60, 3) := by decide +kernel
theorem dX9_findsBar_204 : decode cX9_findsBar 204 = .ok (.iload 6, 2) := by decide +kernel
theorem dX9_findsBar_206 : decode cX9_findsBar 206 = .ok (.iaload, 1) := by decide +kernel
theorem dX9_findsBar_207 : decode cX9_findsBar 207 = .ok (.iload_n 2, 1) := by decide +kernel
theorem dX9_findsBar_208 : decode cX9_findsBar 208 = .ok (.if_icmp .le 14, 3) := by decide +kernel
theorem dX9_findsBar_211 : decode cX9_findsBar 211 = .ok (.aload_n 0, 1) := by decide +kernel
theorem dX9_findsBar_212 : decode cX9_findsBar 212 = .ok (.getfield 60, 3) := by decide +kernel
theorem dX9_findsBar_215 : decode cX9_findsBar 215 = .ok (.iload 6, 2) := by decide +kernel
theorem dX9_findsBar_217 : decode cX9_findsBar 217 = .ok (.iaload, 1) := by decide +kernel
theorem dX9_findsBar_218 : decode cX9_findsBar 218 = .ok (.iload_n 3, 1) := by decide +kernel
theorem dX9_findsBar_219 : decode cX9_findsBar 219 = .ok (.if_icmp .lt 7, 3) := by decide +kernel
theorem dX9_findsBar_222 : decode cX9_findsBar 222 = .ok (.iconst 1, 1) := by decide +kernel
theorem dX9_findsBar_223 : decode cX9_findsBar 223 = .ok (.goto 4, 3) := by decide +kernel
theorem dX9_findsBar_226 : decode cX9_findsBar 226 = .ok (.iconst 0, 1) := by decide +kernel
theorem dX9_findsBar_227 : decode cX9_findsBar 227 = .ok (.putfield 178, 3) := by decide +kernel
theorem dX9_findsBar_230 : decode cX9_findsBar 230 = .ok (.iinc 5 1, 3) := by decide +kernel
theorem dX9_findsBar_233 : decode cX9_findsBar 233 = .ok (.goto (-75), 3) := by decide +kernel
theorem dX9_findsBar_236 : decode cX9_findsBar 236 = .ok (.aload_n 0, 1) := by decide +kernel
theorem dX9_findsBar_237 : decode cX9_findsBar 237 = .ok (.dup, 1) := by decide +kernel
theorem dX9_findsBar_238 : decode cX9_findsBar 238 = .ok (.getfield 169, 3) := by decide +kernel
theorem dX9_findsBar_241 : decode cX9_findsBar 241 = .ok (.aload_n 0, 1) := by decide +kernel
theorem dX9_findsBar_242 : decode cX9_findsBar 242 = .ok (.getfield 178, 3) := by decide +kernel
theorem dX9_findsBar_245 : decode cX9_findsBar 245 = .ok (.ifCond .eq 10, 3) := by decide +kernel
theorem dX9_findsBar_248 : decode cX9_findsBar 248 = .ok (.iload 4, 2) := by decide +kernel
theorem dX9_findsBar_250 : decode cX9_findsBar 250 = .ok (.iconst 1, 1) := by decide +kernel
theorem dX9_findsBar_251 : decode cX9_findsBar 251 = .ok (.isub, 1) := by decide +kernel
theorem dX9_findsBar_252 : decode cX9_findsBar 252 = .ok (.goto 4, 3) := by decide +kernel
theorem dX9_findsBar_255 : decode cX9_findsBar 255 = .ok (.iconst 0, 1) := by decide +kernel
theorem dX9_findsBar_256 : decode cX9_findsBar 256 = .ok (.isub, 1) := by decide +kernel
theorem dX9_findsBar_257 : decode cX9_findsBar 257 = .ok (.putfield 169, 3) := by decide +kernel
theorem dX9_findsBar_260 : decode cX9_findsBar 260 = .ok (.return_, 1) := by decide +kernel
abbrev rm_X9_findsBar : Room := { frames := 1, cells := 0, slots := 0, locals := 21 }
def f_X9_findsBar_L133 (rec11 : Int32 × Int32 × Int32 × Int32 × Sg → Option (Unit × Sg)) (x0 : Nat) (x1 : Int32) (x2 : Int32) (x4 : Int32) (x5 : Int32) (y0 : Int32) (σ : Sg) : Option (Unit × Sg) := lB (x5 + (1 : Int32)) fun v1 => rec11 (x2, y0, x4, v1, σ)
def f_X9_findsBar_L132 (rec11 : Int32 × Int32 × Int32 × Int32 × Sg → Option (Unit × Sg)) (x0 : Nat) (x1 : Int32) (x2 : Int32) (x3 : Int32) (x4 : Int32) (x5 : Int32)  (σ : Sg) : Option (Unit × Sg) := f_X9_findsBar_L133 rec11 x0 x1 x2 x4 x5 x3 σ
def f_X9_findsBar_L105 (rec11 : Int32 × Int32 × Int32 × Int32 × Sg → Option (Unit × Sg)) (x0 : Nat) (x1 : Int32) (x3 : Int32) (x4 : Int32) (x5 : Int32) (x6 : Int32) (x7 : Int32) (y0 : Int32) (σ : Sg) : Option (Unit × Sg) := (if x7 = 0 then f_X9_findsBar_L132 rec11 x0 x1 y0 x3 x4 x5 σ else ck (inb x6 (aL (gR σ x0 19))) ((if (gI σ (gR σ x0 19) x6.toNatClampNeg) ≤ x3 then f_X9_findsBar_L132 rec11 x0 x1 y0 x3 x4 x5 σ else ck (inb x6 (aL (gR σ x0 19))) (f_X9_findsBar_L133 rec11 x0 x1 y0 x4 x5 (gI σ (gR σ x0 19) x6.toNatClampNeg) σ))))
def f_X9_findsBar_L104 (rec11 : Int32 × Int32 × Int32 × Int32 × Sg → Option (Unit × Sg)) (x0 : Nat) (x1 : Int32) (x2 : Int32) (x3 : Int32) (x4 : Int32) (x5 : Int32) (x6 : Int32) (x7 : Int32)  (σ : Sg) : Option (Unit × Sg) := f_X9_findsBar_L105 rec11 x0 x1 x3 x4 x5 x6 x7 x2 σ
def f_X9_findsBar_L75 (rec11 : Int32 × Int32 × Int32 × Int32 × Sg → Option (Unit × Sg)) (x0 : Nat) (x1 : Int32) (x2 : Int32) (x3 : Int32) (x5 : Int32) (x6 : Int32) (x7 : Int32) (y0 : Int32) (y1 : Int32) (σ : Sg) : Option (Unit × Sg) := lB ((y0 + y1)) fun v1 => (if x7 = 0 then f_X9_findsBar_L104 rec11 x0 x1 x2 x3 v1 x5 x6 x7 σ else ck (inb x6 (aL (gR σ x0 19))) ((if x2 ≤ (gI σ (gR σ x0 19) x6.toNatClampNeg) then f_X9_findsBar_L104 rec11 x0 x1 x2 x3 v1 x5 x6 x7 σ else ck (inb x6 (aL (gR σ x0 19))) (f_X9_findsBar_L105 rec11 x0 x1 x3 v1 x5 x6 x7 (gI σ (gR σ x0 19) x6.toNatClampNeg) σ))))
def f_X9_findsBar_L61 (rec11 : Int32 × Int32 × Int32 × Int32 × Sg → Option (Unit × Sg)) (x0 : Nat) (x1 : Int32) (x2 : Int32) (x3 : Int32) (x4 : Int32) (x5 : Int32) (x6 : Int32) (y0 : Int32) (σ : Sg) : Option (Unit × Sg) := (if y0 = 0 then f_X9_findsBar_L75 rec11 x0 x1 x2 x3 x5 x6 y0 x4 (0 : Int32) σ else f_X9_findsBar_L75 rec11 x0 x1 x2 x3 x5 x6 y0 x4 (1 : Int32) σ)
def f_X9_findsBar_L60 (rec11 : Int32 × Int32 × Int32 × Int32 × Sg → Option (Unit × Sg)) (x0 : Nat) (x1 : Int32) (x2 : Int32) (x3 : Int32) (x4 : Int32) (x5 : Int32) (x6 : Int32)  (σ : Sg) : Option (Unit × Sg) := f_X9_findsBar_L61 rec11 x0 x1 x2 x3 x4 x5 x6 (0 : Int32) σ
def f_X9_findsBar_L227 (rec158 : Int32 × Sg → Option (Unit × Sg)) (x0 : Nat) (x1 : Int32) (x2 : Int32) (x3 : Int32) (x4 : Int32) (x5 : Int32) (y0 : Nat) (y1 : Int32) (σ : Sg) : Option (Unit × Sg) := ck (b01 y1) (lB (pI σ y0 23 y1) fun s1 => lB (x5 + (1 : Int32)) fun v2 => rec158 (v2, s1))
def f_X9_findsBar_L222 (rec158 : Int32 × Sg → Option (Unit × Sg)) (x0 : Nat) (x1 : Int32) (x2 : Int32) (x3 : Int32) (x4 : Int32) (x5 : Int32) (y0 : Nat) (σ : Sg) : Option (Unit × Sg) := f_X9_findsBar_L227 rec158 x0 x1 x2 x3 x4 x5 y0 (1 : Int32) σ
def f_X9_findsBar_L226 (rec158 : Int32 × Sg → Option (Unit × Sg)) (x0 : Nat) (x1 : Int32) (x2 : Int32) (x3 : Int32) (x4 : Int32) (x5 : Int32) (y0 : Nat) (σ : Sg) : Option (Unit × Sg) := f_X9_findsBar_L227 rec158 x0 x1 x2 x3 x4 x5 y0 (0 : Int32) σ
def f_X9_findsBar_L256   (y0 : Nat) (y1 : Int32) (y2 : Int32) (σ : Sg) : Option (Unit × Sg) := lB (pI σ y0 22 (y1 - y2)) fun s1 => some ((), s1)
def f_X9_findsBar_L158  (x0 : Nat) (x1 : Int32) (x2 : Int32) (x3 : Int32) (x4 : Int32) (rec158 : Int32 × Sg → Option (Unit × Sg)) (s : Int32 × Sg) : Option (Unit × Sg) := ck (inb x1 (aL (gR (s.2) x0 18))) ((if (gI (s.2) (gR (s.2) x0 18) x1.toNatClampNeg) ≤ (s.1) then (if (gI (s.2) x0 23) = 0 then f_X9_findsBar_L256 x0 (gI (s.2) x0 22) (0 : Int32) (s.2) else f_X9_findsBar_L256 x0 (gI (s.2) x0 22) (x4 - (1 : Int32)) (s.2)) else ck (inb (((14 : Int32) * x1) + (s.1)) (aL (gR (s.2) x0 17))) (lB ((gI (s.2) (gR (s.2) x0 17) (((14 : Int32) * x1) + (s.1)).toNatClampNeg)) fun v3 => (if (gI (s.2) x0 23) = 0 then f_X9_findsBar_L226 rec158 x0 x1 x2 x3 x4 (s.1) x0 (s.2) else bd (f_X9_fretOf x0 v3 (s.2)) fun r5 s4 => (if 0 < r5 then f_X9_findsBar_L222 rec158 x0 x1 x2 x3 x4 (s.1) x0 s4 else ck (inb v3 (aL (gR s4 x0 19))) ((if (gI s4 (gR s4 x0 19) v3.toNatClampNeg) ≤ x2 then f_X9_findsBar_L222 rec158 x0 x1 x2 x3 x4 (s.1) x0 s4 else ck (inb v3 (aL (gR s4 x0 19))) ((if (gI s4 (gR s4 x0 19) v3.toNatClampNeg) < x3 then f_X9_findsBar_L226 rec158 x0 x1 x2 x3 x4 (s.1) x0 s4 else f_X9_findsBar_L222 rec158 x0 x1 x2 x3 x4 (s.1) x0 s4)))))))))
def f_X9_findsBar_L152  (x0 : Nat) (x1 : Int32) (x2 : Int32) (x3 : Int32) (x4 : Int32) (y0 : Nat) (y1 : Int32) (σ : Sg) : Option (Unit × Sg) := ck (b01 y1) (lB (pI σ y0 23 y1) fun s1 => fx (f_X9_findsBar_L158 x0 x1 x2 x3 x4) FU ((0 : Int32), s1))
def f_X9_findsBar_L11  (x0 : Nat) (x1 : Int32) (rec11 : Int32 × Int32 × Int32 × Int32 × Sg → Option (Unit × Sg)) (s : Int32 × Int32 × Int32 × Int32 × Sg) : Option (Unit × Sg) := ck (inb x1 (aL (gR (s.2.2.2.2) x0 18))) ((if (gI (s.2.2.2.2) (gR (s.2.2.2.2) x0 18) x1.toNatClampNeg) ≤ (s.2.2.2.1) then (if (s.2.2.1) ≤ (1 : Int32) then f_X9_findsBar_L152 x0 x1 (s.1) (s.2.1) (s.2.2.1) x0 (0 : Int32) (s.2.2.2.2) else f_X9_findsBar_L152 x0 x1 (s.1) (s.2.1) (s.2.2.1) x0 (1 : Int32) (s.2.2.2.2)) else ck (inb (((14 : Int32) * x1) + (s.2.2.2.1)) (aL (gR (s.2.2.2.2) x0 17))) (lB ((gI (s.2.2.2.2) (gR (s.2.2.2.2) x0 17) (((14 : Int32) * x1) + (s.2.2.2.1)).toNatClampNeg)) fun v3 => (if (gI (s.2.2.2.2) x0 21) ≤ 0 then f_X9_findsBar_L60 rec11 x0 x1 (s.1) (s.2.1) (s.2.2.1) (s.2.2.2.1) v3 (s.2.2.2.2) else bd (f_X9_fretOf x0 v3 (s.2.2.2.2)) fun r5 s4 => (if r5 = (gI s4 x0 21) then f_X9_findsBar_L61 rec11 x0 x1 (s.1) (s.2.1) (s.2.2.1) (s.2.2.2.1) v3 (1 : Int32) s4 else f_X9_findsBar_L60 rec11 x0 x1 (s.1) (s.2.1) (s.2.2.1) (s.2.2.2.1) v3 s4)))))
def f_X9_findsBar (x0 : Nat) (x1 : Int32) (σ : Sg) : Option (Unit × Sg) := fx (f_X9_findsBar_L11 x0 x1) FU ((9 : Int32), (-1 : Int32), (0 : Int32), (0 : Int32), σ)
theorem t_X9_findsBar_L133 {K : Cx} (h : Ok K cX9_findsBar RX9 8 rm_X9_findsBar none) (hs : kiv K = St) (x0 : Nat) (x1 : Int32) (x2 : Int32) (x4 : Int32) (x5 : Int32) (y0 : Int32) (σ : Sg) (rec11 : Int32 × Int32 × Int32 × Int32 × Sg → Option (Unit × Sg)) (hr11 : ∀ u, T K (QV K) 11 [(0, .ref x0), (1, .int x1), (2, .int (u.1)), (3, .int (u.2.1)), (4, .int (u.2.2.1)), (5, .int (u.2.2.2.1))] [] 0 0 (u.2.2.2.2) (rec11 u)) (hk0 : kd x0 9)  : T K (QV K) 133 [(0, .ref x0), (1, .int x1), (2, .int x2), (4, .int x4), (5, .int x5)] [.int y0] 0 0 σ (f_X9_findsBar_L133 rec11 x0 x1 x2 x4 x5 y0 σ) := by
  unfold f_X9_findsBar_L133
  refine T_istore_n (lv' := [(3, .int y0), (0, .ref x0), (1, .int x1), (2, .int x2), (4, .int x4), (5, .int x5)]) (pc := 133) h dX9_findsBar_133 rfl (by decide) rfl ?_
  refine T_iinc (fl := fun v1 => [(5, .int v1), (3, .int y0), (0, .ref x0), (1, .int x1), (2, .int x2), (4, .int x4)]) (pc := 134) h dX9_findsBar_134 5 rfl ki_1 (by decide) (fun _ => rfl) (fun v1 => ?_)
  refine T_goto (pc := 137) (tgt := 11) h dX9_findsBar_137 (by decide) ?_
  refine T_sub [2, 3, 4, 1, 5, 0] rfl ?_
  exact hr11 (x2, y0, x4, v1, σ)
theorem t_X9_findsBar_L132 {K : Cx} (h : Ok K cX9_findsBar RX9 8 rm_X9_findsBar none) (hs : kiv K = St) (x0 : Nat) (x1 : Int32) (x2 : Int32) (x3 : Int32) (x4 : Int32) (x5 : Int32)  (σ : Sg) (rec11 : Int32 × Int32 × Int32 × Int32 × Sg → Option (Unit × Sg)) (hr11 : ∀ u, T K (QV K) 11 [(0, .ref x0), (1, .int x1), (2, .int (u.1)), (3, .int (u.2.1)), (4, .int (u.2.2.1)), (5, .int (u.2.2.2.1))] [] 0 0 (u.2.2.2.2) (rec11 u)) (hk0 : kd x0 9)  : T K (QV K) 132 [(0, .ref x0), (1, .int x1), (2, .int x2), (3, .int x3), (4, .int x4), (5, .int x5)] [] 0 0 σ (f_X9_findsBar_L132 rec11 x0 x1 x2 x3 x4 x5 σ) := by
  unfold f_X9_findsBar_L132
  refine T_iload_n (pc := 132) h dX9_findsBar_132 rfl 3 rfl ?_
  refine T_sub [0, 1, 2, 4, 5] rfl ?_
  exact t_X9_findsBar_L133 h hs x0 x1 x2 x4 x5 x3 σ rec11 hr11 hk0
theorem t_X9_findsBar_L105 {K : Cx} (h : Ok K cX9_findsBar RX9 8 rm_X9_findsBar none) (hs : kiv K = St) (x0 : Nat) (x1 : Int32) (x3 : Int32) (x4 : Int32) (x5 : Int32) (x6 : Int32) (x7 : Int32) (y0 : Int32) (σ : Sg) (rec11 : Int32 × Int32 × Int32 × Int32 × Sg → Option (Unit × Sg)) (hr11 : ∀ u, T K (QV K) 11 [(0, .ref x0), (1, .int x1), (2, .int (u.1)), (3, .int (u.2.1)), (4, .int (u.2.2.1)), (5, .int (u.2.2.2.1))] [] 0 0 (u.2.2.2.2) (rec11 u)) (hk0 : kd x0 9)  : T K (QV K) 105 [(0, .ref x0), (1, .int x1), (3, .int x3), (4, .int x4), (5, .int x5), (6, .int x6), (7, .int x7)] [.int y0] 0 0 σ (f_X9_findsBar_L105 rec11 x0 x1 x3 x4 x5 x6 x7 y0 σ) := by
  unfold f_X9_findsBar_L105
  refine T_istore_n (lv' := [(2, .int y0), (0, .ref x0), (1, .int x1), (3, .int x3), (4, .int x4), (5, .int x5), (6, .int x6), (7, .int x7)]) (pc := 105) h dX9_findsBar_105 rfl (by decide) rfl ?_
  refine T_iload (pc := 106) h dX9_findsBar_106 7 rfl ?_
  refine T_if_eq (pc := 108) (tgt := 132) h dX9_findsBar_108 (by decide) ?_ ?_
  · refine T_sub [1, 2, 0, 3, 4, 5] rfl ?_
    exact t_X9_findsBar_L132 h hs x0 x1 y0 x3 x4 x5 σ rec11 hr11 hk0
  · refine T_aload_n (pc := 111) h dX9_findsBar_111 rfl 1 rfl ?_
    refine T_gR (pc := 112) h hs hk0 fl_X9_60 rfl fk_9_19 dX9_findsBar_112 (fun hq1 => ?_)
    refine T_iload (pc := 115) h dX9_findsBar_115 6 rfl ?_
    refine T_iald (pc := 117) h hs hq1 dX9_findsBar_117 ?_
    refine T_iload_n (pc := 118) h dX9_findsBar_118 rfl 3 rfl ?_
    refine T_icmp_le (pc := 119) (tgt := 132) h dX9_findsBar_119 (by decide) ?_ ?_
    · refine T_sub [1, 2, 0, 3, 4, 5] rfl ?_
      exact t_X9_findsBar_L132 h hs x0 x1 y0 x3 x4 x5 σ rec11 hr11 hk0
    · refine T_aload_n (pc := 122) h dX9_findsBar_122 rfl 1 rfl ?_
      refine T_gR (pc := 123) h hs hk0 fl_X9_60 rfl fk_9_19 dX9_findsBar_123 (fun hq2 => ?_)
      refine T_iload (pc := 126) h dX9_findsBar_126 6 rfl ?_
      refine T_iald (pc := 128) h hs hq2 dX9_findsBar_128 ?_
      refine T_goto (pc := 129) (tgt := 133) h dX9_findsBar_129 (by decide) ?_
      refine T_sub [1, 2, 0, 4, 5] rfl ?_
      exact t_X9_findsBar_L133 h hs x0 x1 y0 x4 x5 (gI σ (gR σ x0 19) x6.toNatClampNeg) σ rec11 hr11 hk0
theorem t_X9_findsBar_L104 {K : Cx} (h : Ok K cX9_findsBar RX9 8 rm_X9_findsBar none) (hs : kiv K = St) (x0 : Nat) (x1 : Int32) (x2 : Int32) (x3 : Int32) (x4 : Int32) (x5 : Int32) (x6 : Int32) (x7 : Int32)  (σ : Sg) (rec11 : Int32 × Int32 × Int32 × Int32 × Sg → Option (Unit × Sg)) (hr11 : ∀ u, T K (QV K) 11 [(0, .ref x0), (1, .int x1), (2, .int (u.1)), (3, .int (u.2.1)), (4, .int (u.2.2.1)), (5, .int (u.2.2.2.1))] [] 0 0 (u.2.2.2.2) (rec11 u)) (hk0 : kd x0 9)  : T K (QV K) 104 [(0, .ref x0), (1, .int x1), (2, .int x2), (3, .int x3), (4, .int x4), (5, .int x5), (6, .int x6), (7, .int x7)] [] 0 0 σ (f_X9_findsBar_L104 rec11 x0 x1 x2 x3 x4 x5 x6 x7 σ) := by
  unfold f_X9_findsBar_L104
  refine T_iload_n (pc := 104) h dX9_findsBar_104 rfl 2 rfl ?_
  refine T_sub [0, 1, 3, 4, 5, 6, 7] rfl ?_
  exact t_X9_findsBar_L105 h hs x0 x1 x3 x4 x5 x6 x7 x2 σ rec11 hr11 hk0
theorem t_X9_findsBar_L75 {K : Cx} (h : Ok K cX9_findsBar RX9 8 rm_X9_findsBar none) (hs : kiv K = St) (x0 : Nat) (x1 : Int32) (x2 : Int32) (x3 : Int32) (x5 : Int32) (x6 : Int32) (x7 : Int32) (y0 : Int32) (y1 : Int32) (σ : Sg) (rec11 : Int32 × Int32 × Int32 × Int32 × Sg → Option (Unit × Sg)) (hr11 : ∀ u, T K (QV K) 11 [(0, .ref x0), (1, .int x1), (2, .int (u.1)), (3, .int (u.2.1)), (4, .int (u.2.2.1)), (5, .int (u.2.2.2.1))] [] 0 0 (u.2.2.2.2) (rec11 u)) (hk0 : kd x0 9)  : T K (QV K) 75 [(0, .ref x0), (1, .int x1), (2, .int x2), (3, .int x3), (5, .int x5), (6, .int x6), (7, .int x7)] [.int y1, .int y0] 0 0 σ (f_X9_findsBar_L75 rec11 x0 x1 x2 x3 x5 x6 x7 y0 y1 σ) := by
  unfold f_X9_findsBar_L75
  refine T_iadd (pc := 75) h dX9_findsBar_75 ?_
  refine T_letI fun v1 => ?_
  refine T_istore (lv' := [(4, .int v1), (0, .ref x0), (1, .int x1), (2, .int x2), (3, .int x3), (5, .int x5), (6, .int x6), (7, .int x7)]) (pc := 76) h dX9_findsBar_76 (by decide) rfl ?_
  refine T_iload (pc := 78) h dX9_findsBar_78 7 rfl ?_
  refine T_if_eq (pc := 80) (tgt := 104) h dX9_findsBar_80 (by decide) ?_ ?_
  · refine T_sub [1, 2, 3, 4, 0, 5, 6, 7] rfl ?_
    exact t_X9_findsBar_L104 h hs x0 x1 x2 x3 v1 x5 x6 x7 σ rec11 hr11 hk0
  · refine T_aload_n (pc := 83) h dX9_findsBar_83 rfl 1 rfl ?_
    refine T_gR (pc := 84) h hs hk0 fl_X9_60 rfl fk_9_19 dX9_findsBar_84 (fun hq2 => ?_)
    refine T_iload (pc := 87) h dX9_findsBar_87 6 rfl ?_
    refine T_iald (pc := 89) h hs hq2 dX9_findsBar_89 ?_
    refine T_iload_n (pc := 90) h dX9_findsBar_90 rfl 3 rfl ?_
    refine T_icmp_ge (pc := 91) (tgt := 104) h dX9_findsBar_91 (by decide) ?_ ?_
    · refine T_sub [1, 2, 3, 4, 0, 5, 6, 7] rfl ?_
      exact t_X9_findsBar_L104 h hs x0 x1 x2 x3 v1 x5 x6 x7 σ rec11 hr11 hk0
    · refine T_aload_n (pc := 94) h dX9_findsBar_94 rfl 1 rfl ?_
      refine T_gR (pc := 95) h hs hk0 fl_X9_60 rfl fk_9_19 dX9_findsBar_95 (fun hq3 => ?_)
      refine T_iload (pc := 98) h dX9_findsBar_98 6 rfl ?_
      refine T_iald (pc := 100) h hs hq3 dX9_findsBar_100 ?_
      refine T_goto (pc := 101) (tgt := 105) h dX9_findsBar_101 (by decide) ?_
      refine T_sub [1, 2, 4, 0, 5, 6, 7] rfl ?_
      exact t_X9_findsBar_L105 h hs x0 x1 x3 v1 x5 x6 x7 (gI σ (gR σ x0 19) x6.toNatClampNeg) σ rec11 hr11 hk0
theorem t_X9_findsBar_L61 {K : Cx} (h : Ok K cX9_findsBar RX9 8 rm_X9_findsBar none) (hs : kiv K = St) (x0 : Nat) (x1 : Int32) (x2 : Int32) (x3 : Int32) (x4 : Int32) (x5 : Int32) (x6 : Int32) (y0 : Int32) (σ : Sg) (rec11 : Int32 × Int32 × Int32 × Int32 × Sg → Option (Unit × Sg)) (hr11 : ∀ u, T K (QV K) 11 [(0, .ref x0), (1, .int x1), (2, .int (u.1)), (3, .int (u.2.1)), (4, .int (u.2.2.1)), (5, .int (u.2.2.2.1))] [] 0 0 (u.2.2.2.2) (rec11 u)) (hk0 : kd x0 9)  : T K (QV K) 61 [(0, .ref x0), (1, .int x1), (2, .int x2), (3, .int x3), (4, .int x4), (5, .int x5), (6, .int x6)] [.int y0] 0 0 σ (f_X9_findsBar_L61 rec11 x0 x1 x2 x3 x4 x5 x6 y0 σ) := by
  unfold f_X9_findsBar_L61
  refine T_istore (lv' := [(7, .int y0), (0, .ref x0), (1, .int x1), (2, .int x2), (3, .int x3), (4, .int x4), (5, .int x5), (6, .int x6)]) (pc := 61) h dX9_findsBar_61 (by decide) rfl ?_
  refine T_iload (pc := 63) h dX9_findsBar_63 5 rfl ?_
  refine T_iload (pc := 65) h dX9_findsBar_65 0 rfl ?_
  refine T_if_eq (pc := 67) (tgt := 74) h dX9_findsBar_67 (by decide) ?_ ?_
  · refine T_iconst (pc := 74) h dX9_findsBar_74 ki_0 ?_
    refine T_sub [1, 2, 3, 4, 6, 7, 0] rfl ?_
    exact t_X9_findsBar_L75 h hs x0 x1 x2 x3 x5 x6 y0 x4 (0 : Int32) σ rec11 hr11 hk0
  · refine T_iconst (pc := 70) h dX9_findsBar_70 ki_1 ?_
    refine T_goto (pc := 71) (tgt := 75) h dX9_findsBar_71 (by decide) ?_
    refine T_sub [1, 2, 3, 4, 6, 7, 0] rfl ?_
    exact t_X9_findsBar_L75 h hs x0 x1 x2 x3 x5 x6 y0 x4 (1 : Int32) σ rec11 hr11 hk0
theorem t_X9_findsBar_L60 {K : Cx} (h : Ok K cX9_findsBar RX9 8 rm_X9_findsBar none) (hs : kiv K = St) (x0 : Nat) (x1 : Int32) (x2 : Int32) (x3 : Int32) (x4 : Int32) (x5 : Int32) (x6 : Int32)  (σ : Sg) (rec11 : Int32 × Int32 × Int32 × Int32 × Sg → Option (Unit × Sg)) (hr11 : ∀ u, T K (QV K) 11 [(0, .ref x0), (1, .int x1), (2, .int (u.1)), (3, .int (u.2.1)), (4, .int (u.2.2.1)), (5, .int (u.2.2.2.1))] [] 0 0 (u.2.2.2.2) (rec11 u)) (hk0 : kd x0 9)  : T K (QV K) 60 [(0, .ref x0), (1, .int x1), (2, .int x2), (3, .int x3), (4, .int x4), (5, .int x5), (6, .int x6)] [] 0 0 σ (f_X9_findsBar_L60 rec11 x0 x1 x2 x3 x4 x5 x6 σ) := by
  unfold f_X9_findsBar_L60
  refine T_iconst (pc := 60) h dX9_findsBar_60 ki_0 ?_
  refine T_sub [0, 1, 2, 3, 4, 5, 6] rfl ?_
  exact t_X9_findsBar_L61 h hs x0 x1 x2 x3 x4 x5 x6 (0 : Int32) σ rec11 hr11 hk0
theorem t_X9_findsBar_L227 {K : Cx} (h : Ok K cX9_findsBar RX9 8 rm_X9_findsBar none) (hs : kiv K = St) (x0 : Nat) (x1 : Int32) (x2 : Int32) (x3 : Int32) (x4 : Int32) (x5 : Int32) (y0 : Nat) (y1 : Int32) (σ : Sg) (rec158 : Int32 × Sg → Option (Unit × Sg)) (hr158 : ∀ u, T K (QV K) 158 [(0, .ref x0), (1, .int x1), (2, .int x2), (3, .int x3), (4, .int x4), (5, .int (u.1))] [] 0 0 (u.2) (rec158 u)) (hk0 : kd x0 9) (hy0 : kd y0 9) : T K (QV K) 227 [(0, .ref x0), (1, .int x1), (2, .int x2), (3, .int x3), (4, .int x4), (5, .int x5)] [.int y1, .ref y0] 0 0 σ (f_X9_findsBar_L227 rec158 x0 x1 x2 x3 x4 x5 y0 y1 σ) := by
  unfold f_X9_findsBar_L227
  refine T_putZ (pc := 227) h hs hy0 fl_X9_178 rfl rfl dX9_findsBar_227 ?_
  refine T_letS fun s1 => ?_
  refine T_iinc (fl := fun v2 => [(5, .int v2), (0, .ref x0), (1, .int x1), (2, .int x2), (3, .int x3), (4, .int x4)]) (pc := 230) h dX9_findsBar_230 5 rfl ki_1 (by decide) (fun _ => rfl) (fun v2 => ?_)
  refine T_goto (pc := 233) (tgt := 158) h dX9_findsBar_233 (by decide) ?_
  refine T_sub [1, 2, 3, 4, 5, 0] rfl ?_
  exact hr158 (v2, s1)
theorem t_X9_findsBar_L222 {K : Cx} (h : Ok K cX9_findsBar RX9 8 rm_X9_findsBar none) (hs : kiv K = St) (x0 : Nat) (x1 : Int32) (x2 : Int32) (x3 : Int32) (x4 : Int32) (x5 : Int32) (y0 : Nat) (σ : Sg) (rec158 : Int32 × Sg → Option (Unit × Sg)) (hr158 : ∀ u, T K (QV K) 158 [(0, .ref x0), (1, .int x1), (2, .int x2), (3, .int x3), (4, .int x4), (5, .int (u.1))] [] 0 0 (u.2) (rec158 u)) (hk0 : kd x0 9) (hy0 : kd y0 9) : T K (QV K) 222 [(0, .ref x0), (1, .int x1), (2, .int x2), (3, .int x3), (4, .int x4), (5, .int x5)] [.ref y0] 0 0 σ (f_X9_findsBar_L222 rec158 x0 x1 x2 x3 x4 x5 y0 σ) := by
  unfold f_X9_findsBar_L222
  refine T_iconst (pc := 222) h dX9_findsBar_222 ki_1 ?_
  refine T_goto (pc := 223) (tgt := 227) h dX9_findsBar_223 (by decide) ?_
  refine T_sub [0, 1, 2, 3, 4, 5] rfl ?_
  exact t_X9_findsBar_L227 h hs x0 x1 x2 x3 x4 x5 y0 (1 : Int32) σ rec158 hr158 hk0 hy0
theorem t_X9_findsBar_L226 {K : Cx} (h : Ok K cX9_findsBar RX9 8 rm_X9_findsBar none) (hs : kiv K = St) (x0 : Nat) (x1 : Int32) (x2 : Int32) (x3 : Int32) (x4 : Int32) (x5 : Int32) (y0 : Nat) (σ : Sg) (rec158 : Int32 × Sg → Option (Unit × Sg)) (hr158 : ∀ u, T K (QV K) 158 [(0, .ref x0), (1, .int x1), (2, .int x2), (3, .int x3), (4, .int x4), (5, .int (u.1))] [] 0 0 (u.2) (rec158 u)) (hk0 : kd x0 9) (hy0 : kd y0 9) : T K (QV K) 226 [(0, .ref x0), (1, .int x1), (2, .int x2), (3, .int x3), (4, .int x4), (5, .int x5)] [.ref y0] 0 0 σ (f_X9_findsBar_L226 rec158 x0 x1 x2 x3 x4 x5 y0 σ) := by
  unfold f_X9_findsBar_L226
  refine T_iconst (pc := 226) h dX9_findsBar_226 ki_0 ?_
  refine T_sub [0, 1, 2, 3, 4, 5] rfl ?_
  exact t_X9_findsBar_L227 h hs x0 x1 x2 x3 x4 x5 y0 (0 : Int32) σ rec158 hr158 hk0 hy0
theorem t_X9_findsBar_L256 {K : Cx} (h : Ok K cX9_findsBar RX9 8 rm_X9_findsBar none) (hs : kiv K = St)  (y0 : Nat) (y1 : Int32) (y2 : Int32) (σ : Sg)   (hy0 : kd y0 9) : T K (QV K) 256 [] [.int y2, .int y1, .ref y0] 0 0 σ (f_X9_findsBar_L256 y0 y1 y2 σ) := by
  unfold f_X9_findsBar_L256
  refine T_isub (pc := 256) h dX9_findsBar_256 ?_
  refine T_putI (pc := 257) h hs hy0 fl_X9_169 rfl rfl dX9_findsBar_257 ?_
  refine T_letS fun s1 => ?_
  exact T_return (pc := 260) h (Nat.zero_le _) (Nat.zero_le _) dX9_findsBar_260
theorem t_X9_findsBar_L158 {K : Cx} (h : Ok K cX9_findsBar RX9 8 rm_X9_findsBar none) (hs : kiv K = St) (x0 : Nat) (x1 : Int32) (x2 : Int32) (x3 : Int32) (x4 : Int32)  (hk0 : kd x0 9) (rec158 : Int32 × Sg → Option (Unit × Sg)) (hr158 : ∀ u, T K (QV K) 158 [(0, .ref x0), (1, .int x1), (2, .int x2), (3, .int x3), (4, .int x4), (5, .int (u.1))] [] 0 0 (u.2) (rec158 u)) (s : Int32 × Sg) : T K (QV K) 158 [(0, .ref x0), (1, .int x1), (2, .int x2), (3, .int x3), (4, .int x4), (5, .int (s.1))] [] 0 0 (s.2) (f_X9_findsBar_L158 x0 x1 x2 x3 x4 rec158 s) := by
  unfold f_X9_findsBar_L158
  refine T_iload (pc := 158) h dX9_findsBar_158 5 rfl ?_
  refine T_aload_n (pc := 160) h dX9_findsBar_160 rfl 0 rfl ?_
  refine T_gR (pc := 161) h hs hk0 fl_X9_57 rfl fk_9_18 dX9_findsBar_161 (fun hq1 => ?_)
  refine T_iload_n (pc := 164) h dX9_findsBar_164 rfl 1 rfl ?_
  refine T_iald (pc := 165) h hs hq1 dX9_findsBar_165 ?_
  refine T_icmp_ge (pc := 166) (tgt := 236) h dX9_findsBar_166 (by decide) ?_ ?_
  · refine T_aload_n (pc := 236) h dX9_findsBar_236 rfl 0 rfl ?_
    refine T_dup (pc := 237) h dX9_findsBar_237 rfl ?_
    refine T_getI (pc := 238) h hs hk0 fl_X9_169 rfl dX9_findsBar_238 ?_
    refine T_aload_n (pc := 241) h dX9_findsBar_241 rfl 0 rfl ?_
    refine T_getI (pc := 242) h hs hk0 fl_X9_178 rfl dX9_findsBar_242 ?_
    refine T_if_eq (pc := 245) (tgt := 255) h dX9_findsBar_245 (by decide) ?_ ?_
    · refine T_iconst (pc := 255) h dX9_findsBar_255 ki_0 ?_
      refine T_sub [] rfl ?_
      exact t_X9_findsBar_L256 h hs x0 (gI (s.2) x0 22) (0 : Int32) (s.2) hk0
    · refine T_iload (pc := 248) h dX9_findsBar_248 4 rfl ?_
      refine T_iconst (pc := 250) h dX9_findsBar_250 ki_1 ?_
      refine T_isub (pc := 251) h dX9_findsBar_251 ?_
      refine T_goto (pc := 252) (tgt := 256) h dX9_findsBar_252 (by decide) ?_
      refine T_sub [] rfl ?_
      exact t_X9_findsBar_L256 h hs x0 (gI (s.2) x0 22) (x4 - (1 : Int32)) (s.2) hk0
  · refine T_aload_n (pc := 169) h dX9_findsBar_169 rfl 0 rfl ?_
    refine T_gR (pc := 170) h hs hk0 fl_X9_54 rfl fk_9_17 dX9_findsBar_170 (fun hq2 => ?_)
    refine T_bipush (pc := 173) h dX9_findsBar_173 kb_14 ?_
    refine T_iload_n (pc := 175) h dX9_findsBar_175 rfl 1 rfl ?_
    refine T_imul (pc := 176) h dX9_findsBar_176 ?_
    refine T_iload (pc := 177) h dX9_findsBar_177 5 rfl ?_
    refine T_iadd (pc := 179) h dX9_findsBar_179 ?_
    refine T_iald (pc := 180) h hs hq2 dX9_findsBar_180 ?_
    refine T_letI fun v3 => ?_
    refine T_istore (lv' := [(6, .int v3), (0, .ref x0), (1, .int x1), (2, .int x2), (3, .int x3), (4, .int x4), (5, .int (s.1))]) (pc := 181) h dX9_findsBar_181 (by decide) rfl ?_
    refine T_aload_n (pc := 183) h dX9_findsBar_183 rfl 1 rfl ?_
    refine T_aload_n (pc := 184) h dX9_findsBar_184 rfl 1 rfl ?_
    refine T_getI (pc := 185) h hs hk0 fl_X9_178 rfl dX9_findsBar_185 ?_
    refine T_if_eq (pc := 188) (tgt := 226) h dX9_findsBar_188 (by decide) ?_ ?_
    · refine T_sub [1, 2, 3, 4, 5, 6] rfl ?_
      exact t_X9_findsBar_L226 h hs x0 x1 x2 x3 x4 (s.1) x0 (s.2) rec158 hr158 hk0 hk0
    · refine T_aload_n (pc := 191) h dX9_findsBar_191 rfl 1 rfl ?_
      refine T_iload (pc := 192) h dX9_findsBar_192 0 rfl ?_
      refine T_callVi (pc := 194) h (M_X9_fretOf (kl K) hs x0 v3 (s.2) hk0) mv_X9_fretOf hs hk0 ml_X9_175 rfl ⟨Nat.le_of_ble_eq_true rfl, Nat.le_of_ble_eq_true rfl⟩ ⟨Nat.le_refl 0, Nat.le_refl 0⟩ (Nat.le_of_ble_eq_true rfl) dX9_findsBar_194 rfl (fun r5 s4 => ?_)
      refine T_if_gt (pc := 197) (tgt := 222) h dX9_findsBar_197 (by decide) ?_ ?_
      · refine T_sub [1, 2, 3, 4, 5, 6] rfl ?_
        exact t_X9_findsBar_L222 h hs x0 x1 x2 x3 x4 (s.1) x0 s4 rec158 hr158 hk0 hk0
      · refine T_aload_n (pc := 200) h dX9_findsBar_200 rfl 1 rfl ?_
        refine T_gR (pc := 201) h hs hk0 fl_X9_60 rfl fk_9_19 dX9_findsBar_201 (fun hq6 => ?_)
        refine T_iload (pc := 204) h dX9_findsBar_204 0 rfl ?_
        refine T_iald (pc := 206) h hs hq6 dX9_findsBar_206 ?_
        refine T_iload_n (pc := 207) h dX9_findsBar_207 rfl 3 rfl ?_
        refine T_icmp_le (pc := 208) (tgt := 222) h dX9_findsBar_208 (by decide) ?_ ?_
        · refine T_sub [1, 2, 3, 4, 5, 6] rfl ?_
          exact t_X9_findsBar_L222 h hs x0 x1 x2 x3 x4 (s.1) x0 s4 rec158 hr158 hk0 hk0
        · refine T_aload_n (pc := 211) h dX9_findsBar_211 rfl 1 rfl ?_
          refine T_gR (pc := 212) h hs hk0 fl_X9_60 rfl fk_9_19 dX9_findsBar_212 (fun hq7 => ?_)
          refine T_iload (pc := 215) h dX9_findsBar_215 0 rfl ?_
          refine T_iald (pc := 217) h hs hq7 dX9_findsBar_217 ?_
          refine T_iload_n (pc := 218) h dX9_findsBar_218 rfl 4 rfl ?_
          refine T_icmp_lt (pc := 219) (tgt := 226) h dX9_findsBar_219 (by decide) ?_ ?_
          · refine T_sub [1, 2, 3, 4, 5, 6] rfl ?_
            exact t_X9_findsBar_L226 h hs x0 x1 x2 x3 x4 (s.1) x0 s4 rec158 hr158 hk0 hk0
          · refine T_sub [1, 2, 3, 4, 5, 6] rfl ?_
            exact t_X9_findsBar_L222 h hs x0 x1 x2 x3 x4 (s.1) x0 s4 rec158 hr158 hk0 hk0
theorem t_X9_findsBar_L152 {K : Cx} (h : Ok K cX9_findsBar RX9 8 rm_X9_findsBar none) (hs : kiv K = St) (x0 : Nat) (x1 : Int32) (x2 : Int32) (x3 : Int32) (x4 : Int32) (y0 : Nat) (y1 : Int32) (σ : Sg)  (hk0 : kd x0 9) (hy0 : kd y0 9) : T K (QV K) 152 [(0, .ref x0), (1, .int x1), (2, .int x2), (3, .int x3), (4, .int x4)] [.int y1, .ref y0] 0 0 σ (f_X9_findsBar_L152 x0 x1 x2 x3 x4 y0 y1 σ) := by
  unfold f_X9_findsBar_L152
  refine T_putZ (pc := 152) h hs hy0 fl_X9_178 rfl rfl dX9_findsBar_152 ?_
  refine T_letS fun s1 => ?_
  refine T_iconst (pc := 155) h dX9_findsBar_155 ki_0 ?_
  refine T_istore (lv' := [(5, .int (0 : Int32)), (0, .ref x0), (1, .int x1), (2, .int x2), (3, .int x3), (4, .int x4)]) (pc := 156) h dX9_findsBar_156 (by decide) rfl ?_
  refine T_sub [1, 2, 3, 4, 5, 0] rfl ?_
  exact T_fx (B := f_X9_findsBar_L158 x0 x1 x2 x3 x4) (fl := fun u => [(0, .ref x0), (1, .int x1), (2, .int x2), (3, .int x3), (4, .int x4), (5, .int (u.1))]) (f := fun u => (u.2)) (fun rec158 hr158 u => t_X9_findsBar_L158 h hs x0 x1 x2 x3 x4 hk0 rec158 hr158 u) FU ((0 : Int32), s1)
theorem t_X9_findsBar_L11 {K : Cx} (h : Ok K cX9_findsBar RX9 8 rm_X9_findsBar none) (hs : kiv K = St) (x0 : Nat) (x1 : Int32)  (hk0 : kd x0 9) (rec11 : Int32 × Int32 × Int32 × Int32 × Sg → Option (Unit × Sg)) (hr11 : ∀ u, T K (QV K) 11 [(0, .ref x0), (1, .int x1), (2, .int (u.1)), (3, .int (u.2.1)), (4, .int (u.2.2.1)), (5, .int (u.2.2.2.1))] [] 0 0 (u.2.2.2.2) (rec11 u)) (s : Int32 × Int32 × Int32 × Int32 × Sg) : T K (QV K) 11 [(0, .ref x0), (1, .int x1), (2, .int (s.1)), (3, .int (s.2.1)), (4, .int (s.2.2.1)), (5, .int (s.2.2.2.1))] [] 0 0 (s.2.2.2.2) (f_X9_findsBar_L11 x0 x1 rec11 s) := by
  unfold f_X9_findsBar_L11
  refine T_iload (pc := 11) h dX9_findsBar_11 5 rfl ?_
  refine T_aload_n (pc := 13) h dX9_findsBar_13 rfl 0 rfl ?_
  refine T_gR (pc := 14) h hs hk0 fl_X9_57 rfl fk_9_18 dX9_findsBar_14 (fun hq1 => ?_)
  refine T_iload_n (pc := 17) h dX9_findsBar_17 rfl 1 rfl ?_
  refine T_iald (pc := 18) h hs hq1 dX9_findsBar_18 ?_
  refine T_icmp_ge (pc := 19) (tgt := 140) h dX9_findsBar_19 (by decide) ?_ ?_
  · refine T_aload_n (pc := 140) h dX9_findsBar_140 rfl 0 rfl ?_
    refine T_iload (pc := 141) h dX9_findsBar_141 4 rfl ?_
    refine T_iconst (pc := 143) h dX9_findsBar_143 ki_1 ?_
    refine T_icmp_le (pc := 144) (tgt := 151) h dX9_findsBar_144 (by decide) ?_ ?_
    · refine T_iconst (pc := 151) h dX9_findsBar_151 ki_0 ?_
      refine T_sub [0, 1, 2, 3, 4] rfl ?_
      exact t_X9_findsBar_L152 h hs x0 x1 (s.1) (s.2.1) (s.2.2.1) x0 (0 : Int32) (s.2.2.2.2) hk0 hk0
    · refine T_iconst (pc := 147) h dX9_findsBar_147 ki_1 ?_
      refine T_goto (pc := 148) (tgt := 152) h dX9_findsBar_148 (by decide) ?_
      refine T_sub [0, 1, 2, 3, 4] rfl ?_
      exact t_X9_findsBar_L152 h hs x0 x1 (s.1) (s.2.1) (s.2.2.1) x0 (1 : Int32) (s.2.2.2.2) hk0 hk0
  · refine T_aload_n (pc := 22) h dX9_findsBar_22 rfl 0 rfl ?_
    refine T_gR (pc := 23) h hs hk0 fl_X9_54 rfl fk_9_17 dX9_findsBar_23 (fun hq2 => ?_)
    refine T_bipush (pc := 26) h dX9_findsBar_26 kb_14 ?_
    refine T_iload_n (pc := 28) h dX9_findsBar_28 rfl 1 rfl ?_
    refine T_imul (pc := 29) h dX9_findsBar_29 ?_
    refine T_iload (pc := 30) h dX9_findsBar_30 5 rfl ?_
    refine T_iadd (pc := 32) h dX9_findsBar_32 ?_
    refine T_iald (pc := 33) h hs hq2 dX9_findsBar_33 ?_
    refine T_letI fun v3 => ?_
    refine T_istore (lv' := [(6, .int v3), (0, .ref x0), (1, .int x1), (2, .int (s.1)), (3, .int (s.2.1)), (4, .int (s.2.2.1)), (5, .int (s.2.2.2.1))]) (pc := 34) h dX9_findsBar_34 (by decide) rfl ?_
    refine T_aload_n (pc := 36) h dX9_findsBar_36 rfl 1 rfl ?_
    refine T_getI (pc := 37) h hs hk0 fl_X9_166 rfl dX9_findsBar_37 ?_
    refine T_if_le (pc := 40) (tgt := 60) h dX9_findsBar_40 (by decide) ?_ ?_
    · refine T_sub [1, 2, 3, 4, 5, 6, 0] rfl ?_
      exact t_X9_findsBar_L60 h hs x0 x1 (s.1) (s.2.1) (s.2.2.1) (s.2.2.2.1) v3 (s.2.2.2.2) rec11 hr11 hk0
    · refine T_aload_n (pc := 43) h dX9_findsBar_43 rfl 1 rfl ?_
      refine T_iload (pc := 44) h dX9_findsBar_44 0 rfl ?_
      refine T_callVi (pc := 46) h (M_X9_fretOf (kl K) hs x0 v3 (s.2.2.2.2) hk0) mv_X9_fretOf hs hk0 ml_X9_175 rfl ⟨Nat.le_of_ble_eq_true rfl, Nat.le_of_ble_eq_true rfl⟩ ⟨Nat.le_refl 0, Nat.le_refl 0⟩ (Nat.le_of_ble_eq_true rfl) dX9_findsBar_46 rfl (fun r5 s4 => ?_)
      refine T_aload_n (pc := 49) h dX9_findsBar_49 rfl 1 rfl ?_
      refine T_getI (pc := 50) h hs hk0 fl_X9_166 rfl dX9_findsBar_50 ?_
      refine T_icmp_ne (pc := 53) (tgt := 60) h dX9_findsBar_53 (by decide) ?_ ?_
      · refine T_sub [1, 2, 3, 4, 5, 6, 0] rfl ?_
        exact t_X9_findsBar_L60 h hs x0 x1 (s.1) (s.2.1) (s.2.2.1) (s.2.2.2.1) v3 s4 rec11 hr11 hk0
      · refine T_iconst (pc := 56) h dX9_findsBar_56 ki_1 ?_
        refine T_goto (pc := 57) (tgt := 61) h dX9_findsBar_57 (by decide) ?_
        refine T_sub [1, 2, 3, 4, 5, 6, 0] rfl ?_
        exact t_X9_findsBar_L61 h hs x0 x1 (s.1) (s.2.1) (s.2.2.1) (s.2.2.2.1) v3 (1 : Int32) s4 rec11 hr11 hk0
theorem t_X9_findsBar {K : Cx} (h : Ok K cX9_findsBar RX9 8 rm_X9_findsBar none) (hs : kiv K = St) (x0 : Nat) (x1 : Int32) (σ : Sg) (hk0 : kd x0 9) : T K (QV K) 0 [(0, .ref x0), (1, .int x1)] [] 0 0 σ (f_X9_findsBar x0 x1 σ) := by
  unfold f_X9_findsBar
  refine T_bipush (pc := 0) h dX9_findsBar_0 kb_9 ?_
  refine T_istore_n (lv' := [(2, .int (9 : Int32)), (0, .ref x0), (1, .int x1)]) (pc := 2) h dX9_findsBar_2 rfl (by decide) rfl ?_
  refine T_iconst (pc := 3) h dX9_findsBar_3 ki_m1 ?_
  refine T_istore_n (lv' := [(3, .int (-1 : Int32)), (2, .int (9 : Int32)), (0, .ref x0), (1, .int x1)]) (pc := 4) h dX9_findsBar_4 rfl (by decide) rfl ?_
  refine T_iconst (pc := 5) h dX9_findsBar_5 ki_0 ?_
  refine T_istore (lv' := [(4, .int (0 : Int32)), (3, .int (-1 : Int32)), (2, .int (9 : Int32)), (0, .ref x0), (1, .int x1)]) (pc := 6) h dX9_findsBar_6 (by decide) rfl ?_
  refine T_iconst (pc := 8) h dX9_findsBar_8 ki_0 ?_
  refine T_istore (lv' := [(5, .int (0 : Int32)), (4, .int (0 : Int32)), (3, .int (-1 : Int32)), (2, .int (9 : Int32)), (0, .ref x0), (1, .int x1)]) (pc := 9) h dX9_findsBar_9 (by decide) rfl ?_
  refine T_sub [4, 5, 3, 2, 1, 0] rfl ?_
  exact T_fx (B := f_X9_findsBar_L11 x0 x1) (fl := fun u => [(0, .ref x0), (1, .int x1), (2, .int (u.1)), (3, .int (u.2.1)), (4, .int (u.2.2.1)), (5, .int (u.2.2.2.1))]) (f := fun u => (u.2.2.2.2)) (fun rec11 hr11 u => t_X9_findsBar_L11 h hs x0 x1 hk0 rec11 hr11 u) FU ((9 : Int32), (-1 : Int32), (0 : Int32), (0 : Int32), σ)
theorem M_X9_findsBar (l : Launch) {iv : Sg → Prop} (hi : iv = St) (x0 : Nat) (x1 : Int32) (σ : Sg) (hk0 : kd x0 9) : CTv l yX9_findsBar cX9_findsBar 8 none rm_X9_findsBar iv [.ref x0, .int x1] σ (f_X9_findsBar x0 x1 σ) := by
  subst hi
  exact CT_of (by decide) (Nat.le_of_ble_eq_true rfl) (fun K _ h _ hs _ _ => t_X9_findsBar h hs x0 x1 σ hk0)
/-! LuteTabsModel.looks(I)V -/
theorem dX9_looks_0 : decode cX9_looks 0 = .ok (.aload_n 0, 1) := by decide +kernel
theorem dX9_looks_1 : decode cX9_looks 1 = .ok (.iload_n 1, 1) := by decide +kernel
theorem dX9_looks_2 : decode cX9_looks 2 = .ok (.invokevirtual 181, 3) := by decide +kernel
theorem dX9_looks_5 : decode cX9_looks 5 = .ok (.aload_n 0, 1) := by decide +kernel
theorem dX9_looks_6 : decode cX9_looks 6 = .ok (.iload_n 1, 1) := by decide +kernel
theorem dX9_looks_7 : decode cX9_looks 7 = .ok (.invokevirtual 185, 3) := by decide +kernel
theorem dX9_looks_10 : decode cX9_looks 10 = .ok (.aload_n 0, 1) := by decide +kernel
theorem dX9_looks_11 : decode cX9_looks 11 = .ok (.iconst 0, 1) := by decide +kernel
theorem dX9_looks_12 : decode cX9_looks 12 = .ok (.putfield 188, 3) := by decide +kernel
theorem dX9_looks_15 : decode cX9_looks 15 = .ok (.aload_n 0, 1) := by decide +kernel
theorem dX9_looks_16 : decode cX9_looks 16 = .ok (.iconst 0, 1) := by decide +kernel
theorem dX9_looks_17 : decode cX9_looks 17 = .ok (.putfield 191, 3) := by decide +kernel
theorem dX9_looks_20 : decode cX9_looks 20 = .ok (.iconst 0, 1) := by decide +kernel
theorem dX9_looks_21 : decode cX9_looks 21 = .ok (.istore_n 2, 1) := by decide +kernel
theorem dX9_looks_22 : decode cX9_looks 22 = .ok (.iload_n 2, 1) := by decide +kernel
theorem dX9_looks_23 : decode cX9_looks 23 = .ok (.aload_n 0, 1) := by decide +kernel
theorem dX9_looks_24 : decode cX9_looks 24 = .ok (.getfield 57, 3) := by decide +kernel
theorem dX9_looks_27 : decode cX9_looks 27 = .ok (.iload_n 1, 1) := by decide +kernel
theorem dX9_looks_28 : decode cX9_looks 28 = .ok (.iaload, 1) := by decide +kernel
theorem dX9_looks_29 : decode cX9_looks 29 = .ok (.if_icmp .ge 111, 3) := by decide +kernel
theorem dX9_looks_32 : decode cX9_looks 32 = .ok (.aload_n 0, 1) := by decide +kernel
theorem dX9_looks_33 : decode cX9_looks 33 = .ok (.getfield 54, 3) := by decide +kernel
theorem dX9_looks_36 : decode cX9_looks 36 = .ok (.bipush 14, 2) := by decide +kernel
theorem dX9_looks_38 : decode cX9_looks 38 = .ok (.iload_n 1, 1) := by decide +kernel
theorem dX9_looks_39 : decode cX9_looks 39 = .ok (.imul, 1) := by decide +kernel
theorem dX9_looks_40 : decode cX9_looks 40 = .ok (.iload_n 2, 1) := by decide +kernel
theorem dX9_looks_41 : decode cX9_looks 41 = .ok (.iadd, 1) := by decide +kernel
theorem dX9_looks_42 : decode cX9_looks 42 = .ok (.iaload, 1) := by decide +kernel
theorem dX9_looks_43 : decode cX9_looks 43 = .ok (.istore_n 3, 1) := by decide +kernel
theorem dX9_looks_44 : decode cX9_looks 44 = .ok (.aload_n 0, 1) := by decide +kernel
theorem dX9_looks_45 : decode cX9_looks 45 = .ok (.aload_n 0, 1) := by decide +kernel
theorem dX9_looks_46 : decode cX9_looks 46 = .ok (.getfield 191, 3) := by decide +kernel
theorem dX9_looks_49 : decode cX9_looks 49 = .ok (.ifCond .ne 20, 3) := by decide +kernel
theorem dX9_looks_52 : decode cX9_looks 52 = .ok (.aload_n 0, 1) := by decide +kernel
theorem dX9_looks_53 : decode cX9_looks 53 = .ok (.iload_n 3, 1) := by decide +kernel
theorem dX9_looks_54 : decode cX9_looks 54 = .ok (.invokevirtual 175, 3) := by decide +kernel
theorem dX9_looks_57 : decode cX9_looks 57 = .ok (.aload_n 0, 1) := by decide +kernel
theorem dX9_looks_58 : decode cX9_looks 58 = .ok (.getfield 166, 3) := by decide +kernel
theorem dX9_looks_61 : decode cX9_looks 61 = .ok (.aload_n 0, 1) := by decide +kernel
theorem dX9_looks_62 : decode cX9_looks 62 = .ok (.getfield 20, 3) := by decide +kernel
theorem dX9_looks_65 : decode cX9_looks 65 = .ok (.iadd, 1) := by decide +kernel
theorem dX9_looks_66 : decode cX9_looks 66 = .ok (.if_icmp .le 7, 3) := by decide +kernel
theorem dX9_looks_69 : decode cX9_looks 69 = .ok (.iconst 1, 1) := by decide +kernel
theorem dX9_looks_70 : decode cX9_looks 70 = .ok (.goto 4, 3) := by decide +kernel
theorem dX9_looks_73 : decode cX9_looks 73 = .ok (.iconst 0, 1) := by decide +kernel
theorem dX9_looks_74 : decode cX9_looks 74 = .ok (.putfield 191, 3) := by decide +kernel
theorem dX9_looks_77 : decode cX9_looks 77 = .ok (.iconst 0, 1) := by decide +kernel
theorem dX9_looks_78 : decode cX9_looks 78 = .ok (.istore 4, 2) := by decide +kernel
theorem dX9_looks_80 : decode cX9_looks 80 = .ok (.iload 4, 2) := by decide +kernel
theorem dX9_looks_82 : decode cX9_looks 82 = .ok (.iload_n 2, 1) := by decide +kernel
theorem dX9_looks_83 : decode cX9_looks 83 = .ok (.if_icmp .ge 51, 3) := by decide +kernel
theorem dX9_looks_86 : decode cX9_looks 86 = .ok (.aload_n 0, 1) := by decide +kernel
theorem dX9_looks_87 : decode cX9_looks 87 = .ok (.aload_n 0, 1) := by decide +kernel
theorem dX9_looks_88 : decode cX9_looks 88 = .ok (.getfield 188, 3) := by decide +kernel
theorem dX9_looks_91 : decode cX9_looks 91 = .ok (.ifCond .ne 29, 3) := by decide +kernel
theorem dX9_looks_94 : decode cX9_looks 94 = .ok (.aload_n 0, 1) := by decide +kernel
theorem dX9_looks_95 : decode cX9_looks 95 = .ok (.getfield 60, 3) := by decide +kernel
theorem dX9_looks_98 : decode cX9_looks 98 = .ok (.aload_n 0, 1) := by decide +kernel
theorem dX9_looks_99 : decode cX9_looks 99 = .ok (.getfield 54, 3) := by decide +kernel
theorem dX9_looks_102 : decode cX9_looks 102 = .ok (.bipush 14, 2) := by decide +kernel
theorem dX9_looks_104 : decode cX9_looks 104 = .ok (.iload_n 1, 1) := by decide +kernel
theorem dX9_looks_105 : decode cX9_looks 105 = .ok (.imul, 1) := by decide +kernel
theorem dX9_looks_106 : decode cX9_looks 106 = .ok (.iload 4, 2) := by decide +kernel
theorem dX9_looks_108 : decode cX9_looks 108 = .ok (.iadd, 1) := by decide +kernel
theorem dX9_looks_109 : decode cX9_looks 109 = .ok (.iaload, 1) := by decide +kernel
theorem dX9_looks_110 : decode cX9_looks 110 = .ok (.iaload, 1) := by decide +kernel
theorem dX9_looks_111 : decode cX9_looks 111 = .ok (.aload_n 0, 1) := by decide +kernel
theorem dX9_looks_112 : decode cX9_looks 112 = .ok (.getfield 60, 3) := by decide +kernel
theorem dX9_looks_115 : decode cX9_looks 115 = .ok (.iload_n 3, 1) := by decide +kernel
theorem dX9_looks_116 : decode cX9_looks 116 = .ok (.iaload, 1) := by decide +kernel
theorem dX9_looks_117 : decode cX9_looks 117 = .ok (.if_icmp .ne 7, 3) := by decide +kernel
theorem dX9_looks_120 : decode cX9_looks 120 = .ok (.iconst 1, 1) := by decide +kernel
theorem dX9_looks_121 : decode cX9_looks 121 = .ok (.goto 4, 3) := by decide +kernel
theorem dX9_looks_124 : decode cX9_looks 124 = .ok (.iconst 0, 1) := by decide +kernel
theorem dX9_looks_125 : decode cX9_looks 125 = .ok (.putfield 188, 3) := by decide +kernel
theorem dX9_looks_128 : decode cX9_looks 128 = .ok (.iinc 4 1, 3) := by decide +kernel
theorem dX9_looks_131 : decode cX9_looks 131 = .ok (.goto (-51), 3) := by decide +kernel
theorem dX9_looks_134 : decode cX9_looks 134 = .ok (.iinc 2 1, 3) := by decide +kernel
theorem dX9_looks_137 : decode cX9_looks 137 = .ok (.goto (-115), 3) := by decide +kernel
theorem dX9_looks_140 : decode cX9_looks 140 = .ok (.return_, 1) := by decide +kernel
abbrev rm_X9_looks : Room := { frames := 2, cells := 0, slots := 0, locals := 48 }
def f_X9_looks_L125 (rec22 : Int32 × Sg → Option (Unit × Sg)) (rec80 : Int32 × Sg → Option (Unit × Sg)) (x0 : Nat) (x1 : Int32) (x2 : Int32) (x3 : Int32) (x4 : Int32) (y0 : Nat) (y1 : Int32) (σ : Sg) : Option (Unit × Sg) := ck (b01 y1) (lB (pI σ y0 24 y1) fun s1 => lB (x4 + (1 : Int32)) fun v2 => rec80 (v2, s1))
def f_X9_looks_L120 (rec22 : Int32 × Sg → Option (Unit × Sg)) (rec80 : Int32 × Sg → Option (Unit × Sg)) (x0 : Nat) (x1 : Int32) (x2 : Int32) (x3 : Int32) (x4 : Int32) (y0 : Nat) (σ : Sg) : Option (Unit × Sg) := f_X9_looks_L125 rec22 rec80 x0 x1 x2 x3 x4 y0 (1 : Int32) σ
def f_X9_looks_L80 (rec22 : Int32 × Sg → Option (Unit × Sg)) (x0 : Nat) (x1 : Int32) (x2 : Int32) (x3 : Int32) (rec80 : Int32 × Sg → Option (Unit × Sg)) (s : Int32 × Sg) : Option (Unit × Sg) := (if x2 ≤ (s.1) then lB (x2 + (1 : Int32)) fun v1 => rec22 (v1, (s.2)) else (if (gI (s.2) x0 24) = 0 then ck (inb (((14 : Int32) * x1) + (s.1)) (aL (gR (s.2) x0 17))) (ck (inb (gI (s.2) (gR (s.2) x0 17) (((14 : Int32) * x1) + (s.1)).toNatClampNeg) (aL (gR (s.2) x0 19))) (ck (inb x3 (aL (gR (s.2) x0 19))) ((if (gI (s.2) (gR (s.2) x0 19) (gI (s.2) (gR (s.2) x0 17) (((14 : Int32) * x1) + (s.1)).toNatClampNeg).toNatClampNeg) = (gI (s.2) (gR (s.2) x0 19) x3.toNatClampNeg) then f_X9_looks_L120 rec22 rec80 x0 x1 x2 x3 (s.1) x0 (s.2) else f_X9_looks_L125 rec22 rec80 x0 x1 x2 x3 (s.1) x0 (0 : Int32) (s.2))))) else f_X9_looks_L120 rec22 rec80 x0 x1 x2 x3 (s.1) x0 (s.2)))
def f_X9_looks_L74 (rec22 : Int32 × Sg → Option (Unit × Sg)) (x0 : Nat) (x1 : Int32) (x2 : Int32) (x3 : Int32) (y0 : Nat) (y1 : Int32) (σ : Sg) : Option (Unit × Sg) := ck (b01 y1) (lB (pI σ y0 25 y1) fun s1 => fx (f_X9_looks_L80 rec22 x0 x1 x2 x3) FU ((0 : Int32), s1))
def f_X9_looks_L69 (rec22 : Int32 × Sg → Option (Unit × Sg)) (x0 : Nat) (x1 : Int32) (x2 : Int32) (x3 : Int32) (y0 : Nat) (σ : Sg) : Option (Unit × Sg) := f_X9_looks_L74 rec22 x0 x1 x2 x3 y0 (1 : Int32) σ
def f_X9_looks_L22  (x0 : Nat) (x1 : Int32) (rec22 : Int32 × Sg → Option (Unit × Sg)) (s : Int32 × Sg) : Option (Unit × Sg) := ck (inb x1 (aL (gR (s.2) x0 18))) ((if (gI (s.2) (gR (s.2) x0 18) x1.toNatClampNeg) ≤ (s.1) then some ((), (s.2)) else ck (inb (((14 : Int32) * x1) + (s.1)) (aL (gR (s.2) x0 17))) (lB ((gI (s.2) (gR (s.2) x0 17) (((14 : Int32) * x1) + (s.1)).toNatClampNeg)) fun v3 => (if (gI (s.2) x0 25) = 0 then bd (f_X9_fretOf x0 v3 (s.2)) fun r5 s4 => (if r5 ≤ ((gI s4 x0 21) + (gI s4 x0 3)) then f_X9_looks_L74 rec22 x0 x1 (s.1) v3 x0 (0 : Int32) s4 else f_X9_looks_L69 rec22 x0 x1 (s.1) v3 x0 s4) else f_X9_looks_L69 rec22 x0 x1 (s.1) v3 x0 (s.2)))))
def f_X9_looks (x0 : Nat) (x1 : Int32) (σ : Sg) : Option (Unit × Sg) := bd (f_X9_findsLow x0 x1 σ) fun _ s1 => bd (f_X9_findsBar x0 x1 s1) fun _ s2 => ck (b01 (0 : Int32)) (lB (pI s2 x0 24 (0 : Int32)) fun s3 => ck (b01 (0 : Int32)) (lB (pI s3 x0 25 (0 : Int32)) fun s4 => fx (f_X9_looks_L22 x0 x1) FU ((0 : Int32), s4)))
theorem t_X9_looks_L125 {K : Cx} (h : Ok K cX9_looks RX9 5 rm_X9_looks none) (hs : kiv K = St) (x0 : Nat) (x1 : Int32) (x2 : Int32) (x3 : Int32) (x4 : Int32) (y0 : Nat) (y1 : Int32) (σ : Sg) (rec22 : Int32 × Sg → Option (Unit × Sg)) (hr22 : ∀ u, T K (QV K) 22 [(0, .ref x0), (1, .int x1), (2, .int (u.1))] [] 0 0 (u.2) (rec22 u)) (rec80 : Int32 × Sg → Option (Unit × Sg)) (hr80 : ∀ u, T K (QV K) 80 [(0, .ref x0), (1, .int x1), (2, .int x2), (3, .int x3), (4, .int (u.1))] [] 0 0 (u.2) (rec80 u)) (hk0 : kd x0 9) (hy0 : kd y0 9) : T K (QV K) 125 [(0, .ref x0), (1, .int x1), (2, .int x2), (3, .int x3), (4, .int x4)] [.int y1, .ref y0] 0 0 σ (f_X9_looks_L125 rec22 rec80 x0 x1 x2 x3 x4 y0 y1 σ) := by
  unfold f_X9_looks_L125
  refine T_putZ (pc := 125) h hs hy0 fl_X9_188 rfl rfl dX9_looks_125 ?_
  refine T_letS fun s1 => ?_
  refine T_iinc (fl := fun v2 => [(4, .int v2), (0, .ref x0), (1, .int x1), (2, .int x2), (3, .int x3)]) (pc := 128) h dX9_looks_128 4 rfl ki_1 (by decide) (fun _ => rfl) (fun v2 => ?_)
  refine T_goto (pc := 131) (tgt := 80) h dX9_looks_131 (by decide) ?_
  refine T_sub [1, 2, 3, 4, 0] rfl ?_
  exact hr80 (v2, s1)
theorem t_X9_looks_L120 {K : Cx} (h : Ok K cX9_looks RX9 5 rm_X9_looks none) (hs : kiv K = St) (x0 : Nat) (x1 : Int32) (x2 : Int32) (x3 : Int32) (x4 : Int32) (y0 : Nat) (σ : Sg) (rec22 : Int32 × Sg → Option (Unit × Sg)) (hr22 : ∀ u, T K (QV K) 22 [(0, .ref x0), (1, .int x1), (2, .int (u.1))] [] 0 0 (u.2) (rec22 u)) (rec80 : Int32 × Sg → Option (Unit × Sg)) (hr80 : ∀ u, T K (QV K) 80 [(0, .ref x0), (1, .int x1), (2, .int x2), (3, .int x3), (4, .int (u.1))] [] 0 0 (u.2) (rec80 u)) (hk0 : kd x0 9) (hy0 : kd y0 9) : T K (QV K) 120 [(0, .ref x0), (1, .int x1), (2, .int x2), (3, .int x3), (4, .int x4)] [.ref y0] 0 0 σ (f_X9_looks_L120 rec22 rec80 x0 x1 x2 x3 x4 y0 σ) := by
  unfold f_X9_looks_L120
  refine T_iconst (pc := 120) h dX9_looks_120 ki_1 ?_
  refine T_goto (pc := 121) (tgt := 125) h dX9_looks_121 (by decide) ?_
  refine T_sub [0, 1, 2, 3, 4] rfl ?_
  exact t_X9_looks_L125 h hs x0 x1 x2 x3 x4 y0 (1 : Int32) σ rec22 hr22 rec80 hr80 hk0 hy0
theorem t_X9_looks_L80 {K : Cx} (h : Ok K cX9_looks RX9 5 rm_X9_looks none) (hs : kiv K = St) (x0 : Nat) (x1 : Int32) (x2 : Int32) (x3 : Int32) (rec22 : Int32 × Sg → Option (Unit × Sg)) (hr22 : ∀ u, T K (QV K) 22 [(0, .ref x0), (1, .int x1), (2, .int (u.1))] [] 0 0 (u.2) (rec22 u)) (hk0 : kd x0 9) (rec80 : Int32 × Sg → Option (Unit × Sg)) (hr80 : ∀ u, T K (QV K) 80 [(0, .ref x0), (1, .int x1), (2, .int x2), (3, .int x3), (4, .int (u.1))] [] 0 0 (u.2) (rec80 u)) (s : Int32 × Sg) : T K (QV K) 80 [(0, .ref x0), (1, .int x1), (2, .int x2), (3, .int x3), (4, .int (s.1))] [] 0 0 (s.2) (f_X9_looks_L80 rec22 x0 x1 x2 x3 rec80 s) := by
  unfold f_X9_looks_L80
  refine T_iload (pc := 80) h dX9_looks_80 4 rfl ?_
  refine T_iload_n (pc := 82) h dX9_looks_82 rfl 2 rfl ?_
  refine T_icmp_ge (pc := 83) (tgt := 134) h dX9_looks_83 (by decide) ?_ ?_
  · refine T_iinc (fl := fun v1 => [(2, .int v1), (0, .ref x0), (1, .int x1), (3, .int x3), (4, .int (s.1))]) (pc := 134) h dX9_looks_134 2 rfl ki_1 (by decide) (fun _ => rfl) (fun v1 => ?_)
    refine T_goto (pc := 137) (tgt := 22) h dX9_looks_137 (by decide) ?_
    refine T_sub [1, 2, 0] rfl ?_
    exact hr22 (v1, (s.2))
  · refine T_aload_n (pc := 86) h dX9_looks_86 rfl 0 rfl ?_
    refine T_aload_n (pc := 87) h dX9_looks_87 rfl 0 rfl ?_
    refine T_getI (pc := 88) h hs hk0 fl_X9_188 rfl dX9_looks_88 ?_
    refine T_if_ne (pc := 91) (tgt := 120) h dX9_looks_91 (by decide) ?_ ?_
    · refine T_sub [0, 1, 2, 3, 4] rfl ?_
      exact t_X9_looks_L120 h hs x0 x1 x2 x3 (s.1) x0 (s.2) rec22 hr22 rec80 hr80 hk0 hk0
    · refine T_aload_n (pc := 94) h dX9_looks_94 rfl 0 rfl ?_
      refine T_gR (pc := 95) h hs hk0 fl_X9_60 rfl fk_9_19 dX9_looks_95 (fun hq2 => ?_)
      refine T_aload_n (pc := 98) h dX9_looks_98 rfl 0 rfl ?_
      refine T_gR (pc := 99) h hs hk0 fl_X9_54 rfl fk_9_17 dX9_looks_99 (fun hq3 => ?_)
      refine T_bipush (pc := 102) h dX9_looks_102 kb_14 ?_
      refine T_iload_n (pc := 104) h dX9_looks_104 rfl 1 rfl ?_
      refine T_imul (pc := 105) h dX9_looks_105 ?_
      refine T_iload (pc := 106) h dX9_looks_106 4 rfl ?_
      refine T_iadd (pc := 108) h dX9_looks_108 ?_
      refine T_iald (pc := 109) h hs hq3 dX9_looks_109 ?_
      refine T_iald (pc := 110) h hs hq2 dX9_looks_110 ?_
      refine T_aload_n (pc := 111) h dX9_looks_111 rfl 0 rfl ?_
      refine T_gR (pc := 112) h hs hk0 fl_X9_60 rfl fk_9_19 dX9_looks_112 (fun hq4 => ?_)
      refine T_iload_n (pc := 115) h dX9_looks_115 rfl 3 rfl ?_
      refine T_iald (pc := 116) h hs hq4 dX9_looks_116 ?_
      refine T_icmp_ne (pc := 117) (tgt := 124) h dX9_looks_117 (by decide) ?_ ?_
      · refine T_iconst (pc := 124) h dX9_looks_124 ki_0 ?_
        refine T_sub [0, 1, 2, 3, 4] rfl ?_
        exact t_X9_looks_L125 h hs x0 x1 x2 x3 (s.1) x0 (0 : Int32) (s.2) rec22 hr22 rec80 hr80 hk0 hk0
      · refine T_sub [0, 1, 2, 3, 4] rfl ?_
        exact t_X9_looks_L120 h hs x0 x1 x2 x3 (s.1) x0 (s.2) rec22 hr22 rec80 hr80 hk0 hk0
theorem t_X9_looks_L74 {K : Cx} (h : Ok K cX9_looks RX9 5 rm_X9_looks none) (hs : kiv K = St) (x0 : Nat) (x1 : Int32) (x2 : Int32) (x3 : Int32) (y0 : Nat) (y1 : Int32) (σ : Sg) (rec22 : Int32 × Sg → Option (Unit × Sg)) (hr22 : ∀ u, T K (QV K) 22 [(0, .ref x0), (1, .int x1), (2, .int (u.1))] [] 0 0 (u.2) (rec22 u)) (hk0 : kd x0 9) (hy0 : kd y0 9) : T K (QV K) 74 [(0, .ref x0), (1, .int x1), (2, .int x2), (3, .int x3)] [.int y1, .ref y0] 0 0 σ (f_X9_looks_L74 rec22 x0 x1 x2 x3 y0 y1 σ) := by
  unfold f_X9_looks_L74
  refine T_putZ (pc := 74) h hs hy0 fl_X9_191 rfl rfl dX9_looks_74 ?_
  refine T_letS fun s1 => ?_
  refine T_iconst (pc := 77) h dX9_looks_77 ki_0 ?_
  refine T_istore (lv' := [(4, .int (0 : Int32)), (0, .ref x0), (1, .int x1), (2, .int x2), (3, .int x3)]) (pc := 78) h dX9_looks_78 (by decide) rfl ?_
  refine T_sub [1, 2, 3, 4, 0] rfl ?_
  exact T_fx (B := f_X9_looks_L80 rec22 x0 x1 x2 x3) (fl := fun u => [(0, .ref x0), (1, .int x1), (2, .int x2), (3, .int x3), (4, .int (u.1))]) (f := fun u => (u.2)) (fun rec80 hr80 u => t_X9_looks_L80 h hs x0 x1 x2 x3 rec22 hr22 hk0 rec80 hr80 u) FU ((0 : Int32), s1)
theorem t_X9_looks_L69 {K : Cx} (h : Ok K cX9_looks RX9 5 rm_X9_looks none) (hs : kiv K = St) (x0 : Nat) (x1 : Int32) (x2 : Int32) (x3 : Int32) (y0 : Nat) (σ : Sg) (rec22 : Int32 × Sg → Option (Unit × Sg)) (hr22 : ∀ u, T K (QV K) 22 [(0, .ref x0), (1, .int x1), (2, .int (u.1))] [] 0 0 (u.2) (rec22 u)) (hk0 : kd x0 9) (hy0 : kd y0 9) : T K (QV K) 69 [(0, .ref x0), (1, .int x1), (2, .int x2), (3, .int x3)] [.ref y0] 0 0 σ (f_X9_looks_L69 rec22 x0 x1 x2 x3 y0 σ) := by
  unfold f_X9_looks_L69
  refine T_iconst (pc := 69) h dX9_looks_69 ki_1 ?_
  refine T_goto (pc := 70) (tgt := 74) h dX9_looks_70 (by decide) ?_
  refine T_sub [0, 1, 2, 3] rfl ?_
  exact t_X9_looks_L74 h hs x0 x1 x2 x3 y0 (1 : Int32) σ rec22 hr22 hk0 hy0
theorem t_X9_looks_L22 {K : Cx} (h : Ok K cX9_looks RX9 5 rm_X9_looks none) (hs : kiv K = St) (x0 : Nat) (x1 : Int32)  (hk0 : kd x0 9) (rec22 : Int32 × Sg → Option (Unit × Sg)) (hr22 : ∀ u, T K (QV K) 22 [(0, .ref x0), (1, .int x1), (2, .int (u.1))] [] 0 0 (u.2) (rec22 u)) (s : Int32 × Sg) : T K (QV K) 22 [(0, .ref x0), (1, .int x1), (2, .int (s.1))] [] 0 0 (s.2) (f_X9_looks_L22 x0 x1 rec22 s) := by
  unfold f_X9_looks_L22
  refine T_iload_n (pc := 22) h dX9_looks_22 rfl 2 rfl ?_
  refine T_aload_n (pc := 23) h dX9_looks_23 rfl 0 rfl ?_
  refine T_gR (pc := 24) h hs hk0 fl_X9_57 rfl fk_9_18 dX9_looks_24 (fun hq1 => ?_)
  refine T_iload_n (pc := 27) h dX9_looks_27 rfl 1 rfl ?_
  refine T_iald (pc := 28) h hs hq1 dX9_looks_28 ?_
  refine T_icmp_ge (pc := 29) (tgt := 140) h dX9_looks_29 (by decide) ?_ ?_
  · exact T_return (pc := 140) h (Nat.zero_le _) (Nat.zero_le _) dX9_looks_140
  · refine T_aload_n (pc := 32) h dX9_looks_32 rfl 0 rfl ?_
    refine T_gR (pc := 33) h hs hk0 fl_X9_54 rfl fk_9_17 dX9_looks_33 (fun hq2 => ?_)
    refine T_bipush (pc := 36) h dX9_looks_36 kb_14 ?_
    refine T_iload_n (pc := 38) h dX9_looks_38 rfl 1 rfl ?_
    refine T_imul (pc := 39) h dX9_looks_39 ?_
    refine T_iload_n (pc := 40) h dX9_looks_40 rfl 2 rfl ?_
    refine T_iadd (pc := 41) h dX9_looks_41 ?_
    refine T_iald (pc := 42) h hs hq2 dX9_looks_42 ?_
    refine T_letI fun v3 => ?_
    refine T_istore_n (lv' := [(3, .int v3), (0, .ref x0), (1, .int x1), (2, .int (s.1))]) (pc := 43) h dX9_looks_43 rfl (by decide) rfl ?_
    refine T_aload_n (pc := 44) h dX9_looks_44 rfl 1 rfl ?_
    refine T_aload_n (pc := 45) h dX9_looks_45 rfl 1 rfl ?_
    refine T_getI (pc := 46) h hs hk0 fl_X9_191 rfl dX9_looks_46 ?_
    refine T_if_ne (pc := 49) (tgt := 69) h dX9_looks_49 (by decide) ?_ ?_
    · refine T_sub [1, 2, 3, 0] rfl ?_
      exact t_X9_looks_L69 h hs x0 x1 (s.1) v3 x0 (s.2) rec22 hr22 hk0 hk0
    · refine T_aload_n (pc := 52) h dX9_looks_52 rfl 1 rfl ?_
      refine T_iload_n (pc := 53) h dX9_looks_53 rfl 0 rfl ?_
      refine T_callVi (pc := 54) h (M_X9_fretOf (kl K) hs x0 v3 (s.2) hk0) mv_X9_fretOf hs hk0 ml_X9_175 rfl ⟨Nat.le_of_ble_eq_true rfl, Nat.le_of_ble_eq_true rfl⟩ ⟨Nat.le_refl 0, Nat.le_refl 0⟩ (Nat.le_of_ble_eq_true rfl) dX9_looks_54 rfl (fun r5 s4 => ?_)
      refine T_aload_n (pc := 57) h dX9_looks_57 rfl 1 rfl ?_
      refine T_getI (pc := 58) h hs hk0 fl_X9_166 rfl dX9_looks_58 ?_
      refine T_aload_n (pc := 61) h dX9_looks_61 rfl 1 rfl ?_
      refine T_getI (pc := 62) h hs hk0 fl_X9_20 rfl dX9_looks_62 ?_
      refine T_iadd (pc := 65) h dX9_looks_65 ?_
      refine T_icmp_le (pc := 66) (tgt := 73) h dX9_looks_66 (by decide) ?_ ?_
      · refine T_iconst (pc := 73) h dX9_looks_73 ki_0 ?_
        refine T_sub [1, 2, 3, 0] rfl ?_
        exact t_X9_looks_L74 h hs x0 x1 (s.1) v3 x0 (0 : Int32) s4 rec22 hr22 hk0 hk0
      · refine T_sub [1, 2, 3, 0] rfl ?_
        exact t_X9_looks_L69 h hs x0 x1 (s.1) v3 x0 s4 rec22 hr22 hk0 hk0
theorem t_X9_looks {K : Cx} (h : Ok K cX9_looks RX9 5 rm_X9_looks none) (hs : kiv K = St) (x0 : Nat) (x1 : Int32) (σ : Sg) (hk0 : kd x0 9) : T K (QV K) 0 [(0, .ref x0), (1, .int x1)] [] 0 0 σ (f_X9_looks x0 x1 σ) := by
  unfold f_X9_looks
  refine T_aload_n (pc := 0) h dX9_looks_0 rfl 0 rfl ?_
  refine T_iload_n (pc := 1) h dX9_looks_1 rfl 1 rfl ?_
  refine T_callVv (pc := 2) h (M_X9_findsLow (kl K) hs x0 x1 σ hk0) mv_X9_findsLow hs hk0 ml_X9_181 rfl ⟨Nat.le_of_ble_eq_true rfl, Nat.le_of_ble_eq_true rfl⟩ ⟨Nat.le_refl 0, Nat.le_refl 0⟩ (Nat.le_of_ble_eq_true rfl) dX9_looks_2 rfl (fun _ s1 => ?_)
  refine T_aload_n (pc := 5) h dX9_looks_5 rfl 0 rfl ?_
  refine T_iload_n (pc := 6) h dX9_looks_6 rfl 1 rfl ?_
  refine T_callVv (pc := 7) h (M_X9_findsBar (kl K) hs x0 x1 s1 hk0) mv_X9_findsBar hs hk0 ml_X9_185 rfl ⟨Nat.le_of_ble_eq_true rfl, Nat.le_of_ble_eq_true rfl⟩ ⟨Nat.le_refl 0, Nat.le_refl 0⟩ (Nat.le_of_ble_eq_true rfl) dX9_looks_7 rfl (fun _ s2 => ?_)
  refine T_aload_n (pc := 10) h dX9_looks_10 rfl 0 rfl ?_
  refine T_iconst (pc := 11) h dX9_looks_11 ki_0 ?_
  refine T_putZ (pc := 12) h hs hk0 fl_X9_188 rfl rfl dX9_looks_12 ?_
  refine T_letS fun s3 => ?_
  refine T_aload_n (pc := 15) h dX9_looks_15 rfl 0 rfl ?_
  refine T_iconst (pc := 16) h dX9_looks_16 ki_0 ?_
  refine T_putZ (pc := 17) h hs hk0 fl_X9_191 rfl rfl dX9_looks_17 ?_
  refine T_letS fun s4 => ?_
  refine T_iconst (pc := 20) h dX9_looks_20 ki_0 ?_
  refine T_istore_n (lv' := [(2, .int (0 : Int32)), (0, .ref x0), (1, .int x1)]) (pc := 21) h dX9_looks_21 rfl (by decide) rfl ?_
  refine T_sub [1, 2, 0] rfl ?_
  exact T_fx (B := f_X9_looks_L22 x0 x1) (fl := fun u => [(0, .ref x0), (1, .int x1), (2, .int (u.1))]) (f := fun u => (u.2)) (fun rec22 hr22 u => t_X9_looks_L22 h hs x0 x1 hk0 rec22 hr22 u) FU ((0 : Int32), s4)
theorem M_X9_looks (l : Launch) {iv : Sg → Prop} (hi : iv = St) (x0 : Nat) (x1 : Int32) (σ : Sg) (hk0 : kd x0 9) : CTv l yX9_looks cX9_looks 5 none rm_X9_looks iv [.ref x0, .int x1] σ (f_X9_looks x0 x1 σ) := by
  subst hi
  exact CT_of (by decide) (Nat.le_of_ble_eq_true rfl) (fun K _ h _ hs _ _ => t_X9_looks h hs x0 x1 σ hk0)
/-! LuteTabsModel.isGood(I)Z -/
theorem dX9_isGood_0 : decode cX9_isGood 0 = .ok (.aload_n 0, 1) := by decide +kernel
theorem dX9_isGood_1 : decode cX9_isGood 1 = .ok (.iload_n 1, 1) := by decide +kernel
theorem dX9_isGood_2 : decode cX9_isGood 2 = .ok (.invokevirtual 194, 3) := by decide +kernel
theorem dX9_isGood_5 : decode cX9_isGood 5 = .ok (.aload_n 0, 1) := by decide +kernel
theorem dX9_isGood_6 : decode cX9_isGood 6 = .ok (.getfield 188, 3) := by decide +kernel
theorem dX9_isGood_9 : decode cX9_isGood 9 = .ok (.ifCond .ne 22, 3) := by decide +kernel
theorem dX9_isGood_12 : decode cX9_isGood 12 = .ok (.aload_n 0, 1) := by decide +kernel
theorem dX9_isGood_13 : decode cX9_isGood 13 = .ok (.getfield 191, 3) := by decide +kernel
theorem dX9_isGood_16 : decode cX9_isGood 16 = .ok (.ifCond .ne 15, 3) := by decide +kernel
theorem dX9_isGood_19 : decode cX9_isGood 19 = .ok (.aload_n 0, 1) := by decide +kernel
theorem dX9_isGood_20 : decode cX9_isGood 20 = .ok (.getfield 169, 3) := by decide +kernel
theorem dX9_isGood_23 : decode cX9_isGood 23 = .ok (.iconst 4, 1) := by decide +kernel
theorem dX9_isGood_24 : decode cX9_isGood 24 = .ok (.if_icmp .gt 7, 3) := by decide +kernel
theorem dX9_isGood_27 : decode cX9_isGood 27 = .ok (.iconst 1, 1) := by decide +kernel
theorem dX9_isGood_28 : decode cX9_isGood 28 = .ok (.goto 4, 3) := by decide +kernel
theorem dX9_isGood_31 : decode cX9_isGood 31 = .ok (.iconst 0, 1) := by decide +kernel
theorem dX9_isGood_32 : decode cX9_isGood 32 = .ok (.istore_n 2, 1) := by decide +kernel
theorem dX9_isGood_33 : decode cX9_isGood 33 = .ok (.iconst 0, 1) := by decide +kernel
theorem dX9_isGood_34 : decode cX9_isGood 34 = .ok (.istore_n 3, 1) := by decide +kernel
theorem dX9_isGood_35 : decode cX9_isGood 35 = .ok (.iload_n 3, 1) := by decide +kernel
theorem dX9_isGood_36 : decode cX9_isGood 36 = .ok (.aload_n 0, 1) := by decide +kernel
theorem dX9_isGood_37 : decode cX9_isGood 37 = .ok (.getfield 57, 3) := by decide +kernel
theorem dX9_isGood_40 : decode cX9_isGood 40 = .ok (.iload_n 1, 1) := by decide +kernel
theorem dX9_isGood_41 : decode cX9_isGood 41 = .ok (.iaload, 1) := by decide +kernel
theorem dX9_isGood_42 : decode cX9_isGood 42 = .ok (.if_icmp .ge 41, 3) := by decide +kernel
theorem dX9_isGood_45 : decode cX9_isGood 45 = .ok (.iload_n 2, 1) := by decide +kernel
theorem dX9_isGood_46 : decode cX9_isGood 46 = .ok (.ifCond .eq 29, 3) := by decide +kernel
theorem dX9_isGood_49 : decode cX9_isGood 49 = .ok (.aload_n 0, 1) := by decide +kernel
theorem dX9_isGood_50 : decode cX9_isGood 50 = .ok (.aload_n 0, 1) := by decide +kernel
theorem dX9_isGood_51 : decode cX9_isGood 51 = .ok (.aload_n 0, 1) := by decide +kernel
theorem dX9_isGood_52 : decode cX9_isGood 52 = .ok (.getfield 54, 3) := by decide +kernel
theorem dX9_isGood_55 : decode cX9_isGood 55 = .ok (.bipush 14, 2) := by decide +kernel
theorem dX9_isGood_57 : decode cX9_isGood 57 = .ok (.iload_n 1, 1) := by decide +kernel
theorem dX9_isGood_58 : decode cX9_isGood 58 = .ok (.imul, 1) := by decide +kernel
theorem dX9_isGood_59 : decode cX9_isGood 59 = .ok (.iload_n 3, 1) := by decide +kernel
theorem dX9_isGood_60 : decode cX9_isGood 60 = .ok (.iadd, 1) := by decide +kernel
theorem dX9_isGood_61 : decode cX9_isGood 61 = .ok (.iaload, 1) := by decide +kernel
theorem dX9_isGood_62 : decode cX9_isGood 62 = .ok (.invokevirtual 175, 3) := by decide +kernel
theorem dX9_isGood_65 : decode cX9_isGood 65 = .ok (.invokevirtual 197, 3) := by decide +kernel
theorem dX9_isGood_68 : decode cX9_isGood 68 = .ok (.ifCond .eq 7, 3) := by decide +kernel
theorem dX9_isGood_71 : decode cX9_isGood 71 = .ok (.iconst 1, 1) := by decide +kernel
theorem dX9_isGood_72 : decode cX9_isGood 72 = .ok (.goto 4, 3) := by decide +kernel
theorem dX9_isGood_75 : decode cX9_isGood 75 = .ok (.iconst 0, 1) := by decide +kernel
theorem dX9_isGood_76 : decode cX9_isGood 76 = .ok (.istore_n 2, 1) := by decide +kernel
theorem dX9_isGood_77 : decode cX9_isGood 77 = .ok (.iinc 3 1, 3) := by decide +kernel
theorem dX9_isGood_80 : decode cX9_isGood 80 = .ok (.goto (-45), 3) := by decide +kernel
theorem dX9_isGood_83 : decode cX9_isGood 83 = .ok (.iload_n 2, 1) := by decide +kernel
theorem dX9_isGood_84 : decode cX9_isGood 84 = .ok (.ireturn, 1) := by decide +kernel
abbrev rm_X9_isGood : Room := { frames := 3, cells := 0, slots := 0, locals := 72 }
def f_X9_isGood_L76 (rec35 : Int32 × Int32 × Sg → Option (Int32 × Sg)) (x0 : Nat) (x1 : Int32) (x3 : Int32) (y0 : Int32) (σ : Sg) : Option (Int32 × Sg) := lB (x3 + (1 : Int32)) fun v1 => rec35 (y0, v1, σ)
def f_X9_isGood_L75 (rec35 : Int32 × Int32 × Sg → Option (Int32 × Sg)) (x0 : Nat) (x1 : Int32) (x3 : Int32)  (σ : Sg) : Option (Int32 × Sg) := f_X9_isGood_L76 rec35 x0 x1 x3 (0 : Int32) σ
def f_X9_isGood_L35  (x0 : Nat) (x1 : Int32) (rec35 : Int32 × Int32 × Sg → Option (Int32 × Sg)) (s : Int32 × Int32 × Sg) : Option (Int32 × Sg) := ck (inb x1 (aL (gR (s.2.2) x0 18))) ((if (gI (s.2.2) (gR (s.2.2) x0 18) x1.toNatClampNeg) ≤ (s.2.1) then ck (b01 (s.1)) (some ((s.1), (s.2.2))) else (if (s.1) = 0 then f_X9_isGood_L75 rec35 x0 x1 (s.2.1) (s.2.2) else ck (inb (((14 : Int32) * x1) + (s.2.1)) (aL (gR (s.2.2) x0 17))) (bd (f_X9_fretOf x0 (gI (s.2.2) (gR (s.2.2) x0 17) (((14 : Int32) * x1) + (s.2.1)).toNatClampNeg) (s.2.2)) fun r4 s3 => bd (f_X9_isOnCourse x0 r4 s3) fun r6 s5 => (if r6 = 0 then f_X9_isGood_L75 rec35 x0 x1 (s.2.1) s5 else f_X9_isGood_L76 rec35 x0 x1 (s.2.1) (1 : Int32) s5)))))
def f_X9_isGood_L32  (x0 : Nat) (x1 : Int32) (y0 : Int32) (σ : Sg) : Option (Int32 × Sg) := fx (f_X9_isGood_L35 x0 x1) FU (y0, (0 : Int32), σ)
def f_X9_isGood_L31  (x0 : Nat) (x1 : Int32)  (σ : Sg) : Option (Int32 × Sg) := f_X9_isGood_L32 x0 x1 (0 : Int32) σ
def f_X9_isGood (x0 : Nat) (x1 : Int32) (σ : Sg) : Option (Int32 × Sg) := bd (f_X9_looks x0 x1 σ) fun _ s1 => (if (gI s1 x0 24) = 0 then (if (gI s1 x0 25) = 0 then (if (4 : Int32) < (gI s1 x0 22) then f_X9_isGood_L31 x0 x1 s1 else f_X9_isGood_L32 x0 x1 (1 : Int32) s1) else f_X9_isGood_L31 x0 x1 s1) else f_X9_isGood_L31 x0 x1 s1)
theorem t_X9_isGood_L76 {K : Cx} (h : Ok K cX9_isGood RX9 4 rm_X9_isGood (some .boolean)) (hs : kiv K = St) (x0 : Nat) (x1 : Int32) (x3 : Int32) (y0 : Int32) (σ : Sg) (rec35 : Int32 × Int32 × Sg → Option (Int32 × Sg)) (hr35 : ∀ u, T K (QI K) 35 [(0, .ref x0), (1, .int x1), (2, .int (u.1)), (3, .int (u.2.1))] [] 0 0 (u.2.2) (rec35 u)) (hk0 : kd x0 9)  : T K (QI K) 76 [(0, .ref x0), (1, .int x1), (3, .int x3)] [.int y0] 0 0 σ (f_X9_isGood_L76 rec35 x0 x1 x3 y0 σ) := by
  unfold f_X9_isGood_L76
  refine T_istore_n (lv' := [(2, .int y0), (0, .ref x0), (1, .int x1), (3, .int x3)]) (pc := 76) h dX9_isGood_76 rfl (by decide) rfl ?_
  refine T_iinc (fl := fun v1 => [(3, .int v1), (2, .int y0), (0, .ref x0), (1, .int x1)]) (pc := 77) h dX9_isGood_77 3 rfl ki_1 (by decide) (fun _ => rfl) (fun v1 => ?_)
  refine T_goto (pc := 80) (tgt := 35) h dX9_isGood_80 (by decide) ?_
  refine T_sub [2, 3, 1, 0] rfl ?_
  exact hr35 (y0, v1, σ)
theorem t_X9_isGood_L75 {K : Cx} (h : Ok K cX9_isGood RX9 4 rm_X9_isGood (some .boolean)) (hs : kiv K = St) (x0 : Nat) (x1 : Int32) (x3 : Int32)  (σ : Sg) (rec35 : Int32 × Int32 × Sg → Option (Int32 × Sg)) (hr35 : ∀ u, T K (QI K) 35 [(0, .ref x0), (1, .int x1), (2, .int (u.1)), (3, .int (u.2.1))] [] 0 0 (u.2.2) (rec35 u)) (hk0 : kd x0 9)  : T K (QI K) 75 [(0, .ref x0), (1, .int x1), (3, .int x3)] [] 0 0 σ (f_X9_isGood_L75 rec35 x0 x1 x3 σ) := by
  unfold f_X9_isGood_L75
  refine T_iconst (pc := 75) h dX9_isGood_75 ki_0 ?_
  refine T_sub [0, 1, 2] rfl ?_
  exact t_X9_isGood_L76 h hs x0 x1 x3 (0 : Int32) σ rec35 hr35 hk0
theorem t_X9_isGood_L35 {K : Cx} (h : Ok K cX9_isGood RX9 4 rm_X9_isGood (some .boolean)) (hs : kiv K = St) (x0 : Nat) (x1 : Int32)  (hk0 : kd x0 9) (rec35 : Int32 × Int32 × Sg → Option (Int32 × Sg)) (hr35 : ∀ u, T K (QI K) 35 [(0, .ref x0), (1, .int x1), (2, .int (u.1)), (3, .int (u.2.1))] [] 0 0 (u.2.2) (rec35 u)) (s : Int32 × Int32 × Sg) : T K (QI K) 35 [(0, .ref x0), (1, .int x1), (2, .int (s.1)), (3, .int (s.2.1))] [] 0 0 (s.2.2) (f_X9_isGood_L35 x0 x1 rec35 s) := by
  unfold f_X9_isGood_L35
  refine T_iload_n (pc := 35) h dX9_isGood_35 rfl 3 rfl ?_
  refine T_aload_n (pc := 36) h dX9_isGood_36 rfl 0 rfl ?_
  refine T_gR (pc := 37) h hs hk0 fl_X9_57 rfl fk_9_18 dX9_isGood_37 (fun hq1 => ?_)
  refine T_iload_n (pc := 40) h dX9_isGood_40 rfl 1 rfl ?_
  refine T_iald (pc := 41) h hs hq1 dX9_isGood_41 ?_
  refine T_icmp_ge (pc := 42) (tgt := 83) h dX9_isGood_42 (by decide) ?_ ?_
  · refine T_iload_n (pc := 83) h dX9_isGood_83 rfl 2 rfl ?_
    exact T_zreturn (pc := 84) h (Nat.zero_le _) (Nat.zero_le _) dX9_isGood_84
  · refine T_iload_n (pc := 45) h dX9_isGood_45 rfl 2 rfl ?_
    refine T_if_eq (pc := 46) (tgt := 75) h dX9_isGood_46 (by decide) ?_ ?_
    · refine T_sub [0, 1, 3] rfl ?_
      exact t_X9_isGood_L75 h hs x0 x1 (s.2.1) (s.2.2) rec35 hr35 hk0
    · refine T_aload_n (pc := 49) h dX9_isGood_49 rfl 0 rfl ?_
      refine T_aload_n (pc := 50) h dX9_isGood_50 rfl 0 rfl ?_
      refine T_aload_n (pc := 51) h dX9_isGood_51 rfl 0 rfl ?_
      refine T_gR (pc := 52) h hs hk0 fl_X9_54 rfl fk_9_17 dX9_isGood_52 (fun hq2 => ?_)
      refine T_bipush (pc := 55) h dX9_isGood_55 kb_14 ?_
      refine T_iload_n (pc := 57) h dX9_isGood_57 rfl 1 rfl ?_
      refine T_imul (pc := 58) h dX9_isGood_58 ?_
      refine T_iload_n (pc := 59) h dX9_isGood_59 rfl 3 rfl ?_
      refine T_iadd (pc := 60) h dX9_isGood_60 ?_
      refine T_iald (pc := 61) h hs hq2 dX9_isGood_61 ?_
      refine T_callVi (pc := 62) h (M_X9_fretOf (kl K) hs x0 (gI (s.2.2) (gR (s.2.2) x0 17) (((14 : Int32) * x1) + (s.2.1)).toNatClampNeg) (s.2.2) hk0) mv_X9_fretOf hs hk0 ml_X9_175 rfl ⟨Nat.le_of_ble_eq_true rfl, Nat.le_of_ble_eq_true rfl⟩ ⟨Nat.le_refl 0, Nat.le_refl 0⟩ (Nat.le_of_ble_eq_true rfl) dX9_isGood_62 rfl (fun r4 s3 => ?_)
      refine T_callVi (pc := 65) h (M_X9_isOnCourse (kl K) hs x0 r4 s3 hk0) mv_X9_isOnCourse hs hk0 ml_X9_197 rfl ⟨Nat.le_of_ble_eq_true rfl, Nat.le_of_ble_eq_true rfl⟩ ⟨Nat.le_refl 0, Nat.le_refl 0⟩ (Nat.le_of_ble_eq_true rfl) dX9_isGood_65 rfl (fun r6 s5 => ?_)
      refine T_if_eq (pc := 68) (tgt := 75) h dX9_isGood_68 (by decide) ?_ ?_
      · refine T_sub [0, 1, 3] rfl ?_
        exact t_X9_isGood_L75 h hs x0 x1 (s.2.1) s5 rec35 hr35 hk0
      · refine T_iconst (pc := 71) h dX9_isGood_71 ki_1 ?_
        refine T_goto (pc := 72) (tgt := 76) h dX9_isGood_72 (by decide) ?_
        refine T_sub [0, 1, 3] rfl ?_
        exact t_X9_isGood_L76 h hs x0 x1 (s.2.1) (1 : Int32) s5 rec35 hr35 hk0
theorem t_X9_isGood_L32 {K : Cx} (h : Ok K cX9_isGood RX9 4 rm_X9_isGood (some .boolean)) (hs : kiv K = St) (x0 : Nat) (x1 : Int32) (y0 : Int32) (σ : Sg)  (hk0 : kd x0 9)  : T K (QI K) 32 [(0, .ref x0), (1, .int x1)] [.int y0] 0 0 σ (f_X9_isGood_L32 x0 x1 y0 σ) := by
  unfold f_X9_isGood_L32
  refine T_istore_n (lv' := [(2, .int y0), (0, .ref x0), (1, .int x1)]) (pc := 32) h dX9_isGood_32 rfl (by decide) rfl ?_
  refine T_iconst (pc := 33) h dX9_isGood_33 ki_0 ?_
  refine T_istore_n (lv' := [(3, .int (0 : Int32)), (2, .int y0), (0, .ref x0), (1, .int x1)]) (pc := 34) h dX9_isGood_34 rfl (by decide) rfl ?_
  refine T_sub [2, 3, 1, 0] rfl ?_
  exact T_fx (B := f_X9_isGood_L35 x0 x1) (fl := fun u => [(0, .ref x0), (1, .int x1), (2, .int (u.1)), (3, .int (u.2.1))]) (f := fun u => (u.2.2)) (fun rec35 hr35 u => t_X9_isGood_L35 h hs x0 x1 hk0 rec35 hr35 u) FU (y0, (0 : Int32), σ)
theorem t_X9_isGood_L31 {K : Cx} (h : Ok K cX9_isGood RX9 4 rm_X9_isGood (some .boolean)) (hs : kiv K = St) (x0 : Nat) (x1 : Int32)  (σ : Sg)  (hk0 : kd x0 9)  : T K (QI K) 31 [(0, .ref x0), (1, .int x1)] [] 0 0 σ (f_X9_isGood_L31 x0 x1 σ) := by
  unfold f_X9_isGood_L31
  refine T_iconst (pc := 31) h dX9_isGood_31 ki_0 ?_
  refine T_sub [0, 1] rfl ?_
  exact t_X9_isGood_L32 h hs x0 x1 (0 : Int32) σ hk0
theorem t_X9_isGood {K : Cx} (h : Ok K cX9_isGood RX9 4 rm_X9_isGood (some .boolean)) (hs : kiv K = St) (x0 : Nat) (x1 : Int32) (σ : Sg) (hk0 : kd x0 9) : T K (QI K) 0 [(0, .ref x0), (1, .int x1)] [] 0 0 σ (f_X9_isGood x0 x1 σ) := by
  unfold f_X9_isGood
  refine T_aload_n (pc := 0) h dX9_isGood_0 rfl 0 rfl ?_
  refine T_iload_n (pc := 1) h dX9_isGood_1 rfl 1 rfl ?_
  refine T_callVv (pc := 2) h (M_X9_looks (kl K) hs x0 x1 σ hk0) mv_X9_looks hs hk0 ml_X9_194 rfl ⟨Nat.le_of_ble_eq_true rfl, Nat.le_of_ble_eq_true rfl⟩ ⟨Nat.le_refl 0, Nat.le_refl 0⟩ (Nat.le_of_ble_eq_true rfl) dX9_isGood_2 rfl (fun _ s1 => ?_)
  refine T_aload_n (pc := 5) h dX9_isGood_5 rfl 0 rfl ?_
  refine T_getI (pc := 6) h hs hk0 fl_X9_188 rfl dX9_isGood_6 ?_
  refine T_if_ne (pc := 9) (tgt := 31) h dX9_isGood_9 (by decide) ?_ ?_
  · refine T_sub [0, 1] rfl ?_
    exact t_X9_isGood_L31 h hs x0 x1 s1 hk0
  · refine T_aload_n (pc := 12) h dX9_isGood_12 rfl 0 rfl ?_
    refine T_getI (pc := 13) h hs hk0 fl_X9_191 rfl dX9_isGood_13 ?_
    refine T_if_ne (pc := 16) (tgt := 31) h dX9_isGood_16 (by decide) ?_ ?_
    · refine T_sub [0, 1] rfl ?_
      exact t_X9_isGood_L31 h hs x0 x1 s1 hk0
    · refine T_aload_n (pc := 19) h dX9_isGood_19 rfl 0 rfl ?_
      refine T_getI (pc := 20) h hs hk0 fl_X9_169 rfl dX9_isGood_20 ?_
      refine T_iconst (pc := 23) h dX9_isGood_23 ki_4 ?_
      refine T_icmp_gt (pc := 24) (tgt := 31) h dX9_isGood_24 (by decide) ?_ ?_
      · refine T_sub [0, 1] rfl ?_
        exact t_X9_isGood_L31 h hs x0 x1 s1 hk0
      · refine T_iconst (pc := 27) h dX9_isGood_27 ki_1 ?_
        refine T_goto (pc := 28) (tgt := 32) h dX9_isGood_28 (by decide) ?_
        refine T_sub [0, 1] rfl ?_
        exact t_X9_isGood_L32 h hs x0 x1 (1 : Int32) s1 hk0
theorem M_X9_isGood (l : Launch) {iv : Sg → Prop} (hi : iv = St) (x0 : Nat) (x1 : Int32) (σ : Sg) (hk0 : kd x0 9) : CTi l yX9_isGood cX9_isGood 4 (some .boolean) rm_X9_isGood iv [.ref x0, .int x1] σ (f_X9_isGood x0 x1 σ) := by
  subst hi
  exact CT_of (by decide) (Nat.le_of_ble_eq_true rfl) (fun K _ h _ hs _ _ => t_X9_isGood h hs x0 x1 σ hk0)
/-! LuteTabsModel.ownCost()I -/
theorem dX9_ownCost_0 : decode cX9_ownCost 0 = .ok (.aload_n 0, 1) := by decide +kernel
theorem dX9_ownCost_1 : decode cX9_ownCost 1 = .ok (.getfield 26, 3) := by decide +kernel
theorem dX9_ownCost_4 : decode cX9_ownCost 4 = .ok (.aload_n 0, 1) := by decide +kernel
theorem dX9_ownCost_5 : decode cX9_ownCost 5 = .ok (.getfield 172, 3) := by decide +kernel
theorem dX9_ownCost_8 : decode cX9_ownCost 8 = .ok (.imul, 1) := by decide +kernel
theorem dX9_ownCost_9 : decode cX9_ownCost 9 = .ok (.aload_n 0, 1) := by decide +kernel
theorem dX9_ownCost_10 : decode cX9_ownCost 10 = .ok (.getfield 178, 3) := by decide +kernel
theorem dX9_ownCost_13 : decode cX9_ownCost 13 = .ok (.ifCond .eq 10, 3) := by decide +kernel
theorem dX9_ownCost_16 : decode cX9_ownCost 16 = .ok (.aload_n 0, 1) := by decide +kernel
theorem dX9_ownCost_17 : decode cX9_ownCost 17 = .ok (.getfield 29, 3) := by decide +kernel
theorem dX9_ownCost_20 : decode cX9_ownCost 20 = .ok (.goto 4, 3) := by decide +kernel
theorem dX9_ownCost_23 : decode cX9_ownCost 23 = .ok (.iconst 0, 1) := by decide +kernel
theorem dX9_ownCost_24 : decode cX9_ownCost 24 = .ok (.iadd, 1) := by decide +kernel
theorem dX9_ownCost_25 : decode cX9_ownCost 25 = .ok (.ireturn, 1) := by decide +kernel
abbrev rm_X9_ownCost : Room := { frames := 0, cells := 0, slots := 0, locals := 0 }
def f_X9_ownCost_L24   (y0 : Int32) (y1 : Int32) (σ : Sg) : Option (Int32 × Sg) := some ((y0 + y1), σ)
def f_X9_ownCost (x0 : Nat) (σ : Sg) : Option (Int32 × Sg) := (if (gI σ x0 23) = 0 then f_X9_ownCost_L24 ((gI σ x0 5) * (gI σ x0 26)) (0 : Int32) σ else f_X9_ownCost_L24 ((gI σ x0 5) * (gI σ x0 26)) (gI σ x0 6) σ)
theorem t_X9_ownCost_L24 {K : Cx} (h : Ok K cX9_ownCost RX9 1 rm_X9_ownCost (some .int)) (hs : kiv K = St)  (y0 : Int32) (y1 : Int32) (σ : Sg)    : T K (QI K) 24 [] [.int y1, .int y0] 0 0 σ (f_X9_ownCost_L24 y0 y1 σ) := by
  unfold f_X9_ownCost_L24
  refine T_iadd (pc := 24) h dX9_ownCost_24 ?_
  exact T_ireturn (pc := 25) h (Nat.zero_le _) (Nat.zero_le _) dX9_ownCost_25
theorem t_X9_ownCost {K : Cx} (h : Ok K cX9_ownCost RX9 1 rm_X9_ownCost (some .int)) (hs : kiv K = St) (x0 : Nat) (σ : Sg) (hk0 : kd x0 9) : T K (QI K) 0 [(0, .ref x0)] [] 0 0 σ (f_X9_ownCost x0 σ) := by
  unfold f_X9_ownCost
  refine T_aload_n (pc := 0) h dX9_ownCost_0 rfl 0 rfl ?_
  refine T_getI (pc := 1) h hs hk0 fl_X9_26 rfl dX9_ownCost_1 ?_
  refine T_aload_n (pc := 4) h dX9_ownCost_4 rfl 0 rfl ?_
  refine T_getI (pc := 5) h hs hk0 fl_X9_172 rfl dX9_ownCost_5 ?_
  refine T_imul (pc := 8) h dX9_ownCost_8 ?_
  refine T_aload_n (pc := 9) h dX9_ownCost_9 rfl 0 rfl ?_
  refine T_getI (pc := 10) h hs hk0 fl_X9_178 rfl dX9_ownCost_10 ?_
  refine T_if_eq (pc := 13) (tgt := 23) h dX9_ownCost_13 (by decide) ?_ ?_
  · refine T_iconst (pc := 23) h dX9_ownCost_23 ki_0 ?_
    refine T_sub [] rfl ?_
    exact t_X9_ownCost_L24 h hs ((gI σ x0 5) * (gI σ x0 26)) (0 : Int32) σ
  · refine T_aload_n (pc := 16) h dX9_ownCost_16 rfl 0 rfl ?_
    refine T_getI (pc := 17) h hs hk0 fl_X9_29 rfl dX9_ownCost_17 ?_
    refine T_goto (pc := 20) (tgt := 24) h dX9_ownCost_20 (by decide) ?_
    refine T_sub [] rfl ?_
    exact t_X9_ownCost_L24 h hs ((gI σ x0 5) * (gI σ x0 26)) (gI σ x0 6) σ
theorem M_X9_ownCost (l : Launch) {iv : Sg → Prop} (hi : iv = St) (x0 : Nat) (σ : Sg) (hk0 : kd x0 9) : CTi l yX9_ownCost cX9_ownCost 1 (some .int) rm_X9_ownCost iv [.ref x0] σ (f_X9_ownCost x0 σ) := by
  subst hi
  exact CT_of (by decide) (Nat.le_of_ble_eq_true rfl) (fun K _ h _ hs _ _ => t_X9_ownCost h hs x0 σ hk0)
/-! LuteTabsModel.shiftCost(II)I -/
theorem dX9_shiftCost_0 : decode cX9_shiftCost 0 = .ok (.iload_n 1, 1) := by decide +kernel
theorem dX9_shiftCost_1 : decode cX9_shiftCost 1 = .ok (.ifCond .eq 7, 3) := by decide +kernel
theorem dX9_shiftCost_4 : decode cX9_shiftCost 4 = .ok (.iload_n 2, 1) := by decide +kernel
theorem dX9_shiftCost_5 : decode cX9_shiftCost 5 = .ok (.ifCond .ne 7, 3) := by decide +kernel
theorem dX9_shiftCost_8 : decode cX9_shiftCost 8 = .ok (.iconst 0, 1) := by decide +kernel
theorem dX9_shiftCost_9 : decode cX9_shiftCost 9 = .ok (.goto 22, 3) := by decide +kernel
theorem dX9_shiftCost_12 : decode cX9_shiftCost 12 = .ok (.aload_n 0, 1) := by decide +kernel
theorem dX9_shiftCost_13 : decode cX9_shiftCost 13 = .ok (.getfield 23, 3) := by decide +kernel
theorem dX9_shiftCost_16 : decode cX9_shiftCost 16 = .ok (.iload_n 1, 1) := by decide +kernel
theorem dX9_shiftCost_17 : decode cX9_shiftCost 17 = .ok (.iload_n 2, 1) := by decide +kernel
theorem dX9_shiftCost_18 : decode cX9_shiftCost 18 = .ok (.if_icmp .ge 9, 3) := by decide +kernel
theorem dX9_shiftCost_21 : decode cX9_shiftCost 21 = .ok (.iload_n 2, 1) := by decide +kernel
theorem dX9_shiftCost_22 : decode cX9_shiftCost 22 = .ok (.iload_n 1, 1) := by decide +kernel
theorem dX9_shiftCost_23 : decode cX9_shiftCost 23 = .ok (.isub, 1) := by decide +kernel
theorem dX9_shiftCost_24 : decode cX9_shiftCost 24 = .ok (.goto 6, 3) := by decide +kernel
theorem dX9_shiftCost_27 : decode cX9_shiftCost 27 = .ok (.iload_n 1, 1) := by decide +kernel
theorem dX9_shiftCost_28 : decode cX9_shiftCost 28 = .ok (.iload_n 2, 1) := by decide +kernel
theorem dX9_shiftCost_29 : decode cX9_shiftCost 29 = .ok (.isub, 1) := by decide +kernel
theorem dX9_shiftCost_30 : decode cX9_shiftCost 30 = .ok (.imul, 1) := by decide +kernel
theorem dX9_shiftCost_31 : decode cX9_shiftCost 31 = .ok (.ireturn, 1) := by decide +kernel
abbrev rm_X9_shiftCost : Room := { frames := 0, cells := 0, slots := 0, locals := 0 }
def f_X9_shiftCost_L31   (y0 : Int32) (σ : Sg) : Option (Int32 × Sg) := some (y0, σ)
def f_X9_shiftCost_L8    (σ : Sg) : Option (Int32 × Sg) := f_X9_shiftCost_L31 (0 : Int32) σ
def f_X9_shiftCost_L30   (y0 : Int32) (y1 : Int32) (σ : Sg) : Option (Int32 × Sg) := f_X9_shiftCost_L31 (y0 * y1) σ
def f_X9_shiftCost (x0 : Nat) (x1 : Int32) (x2 : Int32) (σ : Sg) : Option (Int32 × Sg) := (if x1 = 0 then f_X9_shiftCost_L8 σ else (if x2 = 0 then f_X9_shiftCost_L8 σ else (if x2 ≤ x1 then f_X9_shiftCost_L30 (gI σ x0 4) (x1 - x2) σ else f_X9_shiftCost_L30 (gI σ x0 4) (x2 - x1) σ)))
theorem t_X9_shiftCost_L31 {K : Cx} (h : Ok K cX9_shiftCost RX9 3 rm_X9_shiftCost (some .int)) (hs : kiv K = St)  (y0 : Int32) (σ : Sg)    : T K (QI K) 31 [] [.int y0] 0 0 σ (f_X9_shiftCost_L31 y0 σ) := by
  unfold f_X9_shiftCost_L31
  exact T_ireturn (pc := 31) h (Nat.zero_le _) (Nat.zero_le _) dX9_shiftCost_31
theorem t_X9_shiftCost_L8 {K : Cx} (h : Ok K cX9_shiftCost RX9 3 rm_X9_shiftCost (some .int)) (hs : kiv K = St)   (σ : Sg)    : T K (QI K) 8 [] [] 0 0 σ (f_X9_shiftCost_L8 σ) := by
  unfold f_X9_shiftCost_L8
  refine T_iconst (pc := 8) h dX9_shiftCost_8 ki_0 ?_
  refine T_goto (pc := 9) (tgt := 31) h dX9_shiftCost_9 (by decide) ?_
  refine T_sub [] rfl ?_
  exact t_X9_shiftCost_L31 h hs (0 : Int32) σ
theorem t_X9_shiftCost_L30 {K : Cx} (h : Ok K cX9_shiftCost RX9 3 rm_X9_shiftCost (some .int)) (hs : kiv K = St)  (y0 : Int32) (y1 : Int32) (σ : Sg)    : T K (QI K) 30 [] [.int y1, .int y0] 0 0 σ (f_X9_shiftCost_L30 y0 y1 σ) := by
  unfold f_X9_shiftCost_L30
  refine T_imul (pc := 30) h dX9_shiftCost_30 ?_
  refine T_sub [] rfl ?_
  exact t_X9_shiftCost_L31 h hs (y0 * y1) σ
theorem t_X9_shiftCost {K : Cx} (h : Ok K cX9_shiftCost RX9 3 rm_X9_shiftCost (some .int)) (hs : kiv K = St) (x0 : Nat) (x1 : Int32) (x2 : Int32) (σ : Sg) (hk0 : kd x0 9) : T K (QI K) 0 [(0, .ref x0), (1, .int x1), (2, .int x2)] [] 0 0 σ (f_X9_shiftCost x0 x1 x2 σ) := by
  unfold f_X9_shiftCost
  refine T_iload_n (pc := 0) h dX9_shiftCost_0 rfl 1 rfl ?_
  refine T_if_eq (pc := 1) (tgt := 8) h dX9_shiftCost_1 (by decide) ?_ ?_
  · refine T_sub [] rfl ?_
    exact t_X9_shiftCost_L8 h hs σ
  · refine T_iload_n (pc := 4) h dX9_shiftCost_4 rfl 2 rfl ?_
    refine T_if_ne (pc := 5) (tgt := 12) h dX9_shiftCost_5 (by decide) ?_ ?_
    · refine T_aload_n (pc := 12) h dX9_shiftCost_12 rfl 0 rfl ?_
      refine T_getI (pc := 13) h hs hk0 fl_X9_23 rfl dX9_shiftCost_13 ?_
      refine T_iload_n (pc := 16) h dX9_shiftCost_16 rfl 1 rfl ?_
      refine T_iload_n (pc := 17) h dX9_shiftCost_17 rfl 2 rfl ?_
      refine T_icmp_ge (pc := 18) (tgt := 27) h dX9_shiftCost_18 (by decide) ?_ ?_
      · refine T_iload_n (pc := 27) h dX9_shiftCost_27 rfl 1 rfl ?_
        refine T_iload_n (pc := 28) h dX9_shiftCost_28 rfl 2 rfl ?_
        refine T_isub (pc := 29) h dX9_shiftCost_29 ?_
        refine T_sub [] rfl ?_
        exact t_X9_shiftCost_L30 h hs (gI σ x0 4) (x1 - x2) σ
      · refine T_iload_n (pc := 21) h dX9_shiftCost_21 rfl 2 rfl ?_
        refine T_iload_n (pc := 22) h dX9_shiftCost_22 rfl 1 rfl ?_
        refine T_isub (pc := 23) h dX9_shiftCost_23 ?_
        refine T_goto (pc := 24) (tgt := 30) h dX9_shiftCost_24 (by decide) ?_
        refine T_sub [] rfl ?_
        exact t_X9_shiftCost_L30 h hs (gI σ x0 4) (x2 - x1) σ
    · refine T_sub [] rfl ?_
      exact t_X9_shiftCost_L8 h hs σ
theorem M_X9_shiftCost (l : Launch) {iv : Sg → Prop} (hi : iv = St) (x0 : Nat) (x1 : Int32) (x2 : Int32) (σ : Sg) (hk0 : kd x0 9) : CTi l yX9_shiftCost cX9_shiftCost 3 (some .int) rm_X9_shiftCost iv [.ref x0, .int x1, .int x2] σ (f_X9_shiftCost x0 x1 x2 σ) := by
  subst hi
  exact CT_of (by decide) (Nat.le_of_ble_eq_true rfl) (fun K _ h _ hs _ _ => t_X9_shiftCost h hs x0 x1 x2 σ hk0)
/-! LuteTabsModel.courseIn(II)I -/
theorem dX9_courseIn_0 : decode cX9_courseIn 0 = .ok (.iload_n 0, 1) := by decide +kernel
theorem dX9_courseIn_1 : decode cX9_courseIn 1 = .ok (.iconst 3, 1) := by decide +kernel
theorem dX9_courseIn_2 : decode cX9_courseIn 2 = .ok (.iload_n 1, 1) := by decide +kernel
theorem dX9_courseIn_3 : decode cX9_courseIn 3 = .ok (.imul, 1) := by decide +kernel
theorem dX9_courseIn_4 : decode cX9_courseIn 4 = .ok (.ishr, 1) := by decide +kernel
theorem dX9_courseIn_5 : decode cX9_courseIn 5 = .ok (.bipush 7, 2) := by decide +kernel
theorem dX9_courseIn_7 : decode cX9_courseIn 7 = .ok (.iand, 1) := by decide +kernel
theorem dX9_courseIn_8 : decode cX9_courseIn 8 = .ok (.ireturn, 1) := by decide +kernel
abbrev rm_X9_courseIn : Room := { frames := 0, cells := 0, slots := 0, locals := 0 }
def f_X9_courseIn (x0 : Int32) (x1 : Int32) (σ : Sg) : Option (Int32 × Sg) := some (((x0 >>> (((3 : Int32) * x1) &&& 31)) &&& (7 : Int32)), σ)
theorem t_X9_courseIn {K : Cx} (h : Ok K cX9_courseIn RX9 2 rm_X9_courseIn (some .int)) (hs : kiv K = St) (x0 : Int32) (x1 : Int32) (σ : Sg)  : T K (QI K) 0 [(0, .int x0), (1, .int x1)] [] 0 0 σ (f_X9_courseIn x0 x1 σ) := by
  unfold f_X9_courseIn
  refine T_iload_n (pc := 0) h dX9_courseIn_0 rfl 0 rfl ?_
  refine T_iconst (pc := 1) h dX9_courseIn_1 ki_3 ?_
  refine T_iload_n (pc := 2) h dX9_courseIn_2 rfl 1 rfl ?_
  refine T_imul (pc := 3) h dX9_courseIn_3 ?_
  refine T_ishr (pc := 4) h dX9_courseIn_4 ?_
  refine T_bipush (pc := 5) h dX9_courseIn_5 kb_7 ?_
  refine T_iand (pc := 7) h dX9_courseIn_7 ?_
  exact T_ireturn (pc := 8) h (Nat.zero_le _) (Nat.zero_le _) dX9_courseIn_8
theorem M_X9_courseIn (l : Launch) {iv : Sg → Prop} (hi : iv = St) (x0 : Int32) (x1 : Int32) (σ : Sg)  : CTi l yX9_courseIn cX9_courseIn 2 (some .int) rm_X9_courseIn iv [.int x0, .int x1] σ (f_X9_courseIn x0 x1 σ) := by
  subst hi
  exact CT_of (by decide) (Nat.le_of_ble_eq_true rfl) (fun K _ h _ hs _ _ => t_X9_courseIn h hs x0 x1 σ )
/-! LuteTabsModel.layWay(II)V -/
theorem dX9_layWay_0 : decode cX9_layWay 0 = .ok (.iconst 0, 1) := by decide +kernel
theorem dX9_layWay_1 : decode cX9_layWay 1 = .ok (.istore_n 3, 1) := by decide +kernel
theorem dX9_layWay_2 : decode cX9_layWay 2 = .ok (.iload_n 3, 1) := by decide +kernel
theorem dX9_layWay_3 : decode cX9_layWay 3 = .ok (.aload_n 0, 1) := by decide +kernel
theorem dX9_layWay_4 : decode cX9_layWay 4 = .ok (.getfield 57, 3) := by decide +kernel
theorem dX9_layWay_7 : decode cX9_layWay 7 = .ok (.iload_n 1, 1) := by decide +kernel
theorem dX9_layWay_8 : decode cX9_layWay 8 = .ok (.iaload, 1) := by decide +kernel
theorem dX9_layWay_9 : decode cX9_layWay 9 = .ok (.if_icmp .ge 30, 3) := by decide +kernel
theorem dX9_layWay_12 : decode cX9_layWay 12 = .ok (.aload_n 0, 1) := by decide +kernel
theorem dX9_layWay_13 : decode cX9_layWay 13 = .ok (.getfield 60, 3) := by decide +kernel
theorem dX9_layWay_16 : decode cX9_layWay 16 = .ok (.aload_n 0, 1) := by decide +kernel
theorem dX9_layWay_17 : decode cX9_layWay 17 = .ok (.getfield 54, 3) := by decide +kernel
theorem dX9_layWay_20 : decode cX9_layWay 20 = .ok (.bipush 14, 2) := by decide +kernel
theorem dX9_layWay_22 : decode cX9_layWay 22 = .ok (.iload_n 1, 1) := by decide +kernel
theorem dX9_layWay_23 : decode cX9_layWay 23 = .ok (.imul, 1) := by decide +kernel
theorem dX9_layWay_24 : decode cX9_layWay 24 = .ok (.iload_n 3, 1) := by decide +kernel
theorem dX9_layWay_25 : decode cX9_layWay 25 = .ok (.iadd, 1) := by decide +kernel
theorem dX9_layWay_26 : decode cX9_layWay 26 = .ok (.iaload, 1) := by decide +kernel
theorem dX9_layWay_27 : decode cX9_layWay 27 = .ok (.iload_n 2, 1) := by decide +kernel
theorem dX9_layWay_28 : decode cX9_layWay 28 = .ok (.iload_n 3, 1) := by decide +kernel
theorem dX9_layWay_29 : decode cX9_layWay 29 = .ok (.invokestatic 200, 3) := by decide +kernel
theorem dX9_layWay_32 : decode cX9_layWay 32 = .ok (.iastore, 1) := by decide +kernel
theorem dX9_layWay_33 : decode cX9_layWay 33 = .ok (.iinc 3 1, 3) := by decide +kernel
theorem dX9_layWay_36 : decode cX9_layWay 36 = .ok (.goto (-34), 3) := by decide +kernel
theorem dX9_layWay_39 : decode cX9_layWay 39 = .ok (.return_, 1) := by decide +kernel
abbrev rm_X9_layWay : Room := { frames := 1, cells := 0, slots := 0, locals := 21 }
def f_X9_layWay_L2  (x0 : Nat) (x1 : Int32) (x2 : Int32) (rec2 : Int32 × Sg → Option (Unit × Sg)) (s : Int32 × Sg) : Option (Unit × Sg) := ck (inb x1 (aL (gR (s.2) x0 18))) ((if (gI (s.2) (gR (s.2) x0 18) x1.toNatClampNeg) ≤ (s.1) then some ((), (s.2)) else ck (inb (((14 : Int32) * x1) + (s.1)) (aL (gR (s.2) x0 17))) (bd (f_X9_courseIn x2 (s.1) (s.2)) fun r5 s4 => ck (inb (gI (s.2) (gR (s.2) x0 17) (((14 : Int32) * x1) + (s.1)).toNatClampNeg) (aL (gR (s.2) x0 19))) (lB (pI s4 (gR (s.2) x0 19) (gI (s.2) (gR (s.2) x0 17) (((14 : Int32) * x1) + (s.1)).toNatClampNeg).toNatClampNeg r5) fun s6 => lB ((s.1) + (1 : Int32)) fun v7 => rec2 (v7, s6)))))
def f_X9_layWay (x0 : Nat) (x1 : Int32) (x2 : Int32) (σ : Sg) : Option (Unit × Sg) := fx (f_X9_layWay_L2 x0 x1 x2) FU ((0 : Int32), σ)
theorem t_X9_layWay_L2 {K : Cx} (h : Ok K cX9_layWay RX9 4 rm_X9_layWay none) (hs : kiv K = St) (x0 : Nat) (x1 : Int32) (x2 : Int32)  (hk0 : kd x0 9) (rec2 : Int32 × Sg → Option (Unit × Sg)) (hr2 : ∀ u, T K (QV K) 2 [(0, .ref x0), (1, .int x1), (2, .int x2), (3, .int (u.1))] [] 0 0 (u.2) (rec2 u)) (s : Int32 × Sg) : T K (QV K) 2 [(0, .ref x0), (1, .int x1), (2, .int x2), (3, .int (s.1))] [] 0 0 (s.2) (f_X9_layWay_L2 x0 x1 x2 rec2 s) := by
  unfold f_X9_layWay_L2
  refine T_iload_n (pc := 2) h dX9_layWay_2 rfl 3 rfl ?_
  refine T_aload_n (pc := 3) h dX9_layWay_3 rfl 0 rfl ?_
  refine T_gR (pc := 4) h hs hk0 fl_X9_57 rfl fk_9_18 dX9_layWay_4 (fun hq1 => ?_)
  refine T_iload_n (pc := 7) h dX9_layWay_7 rfl 1 rfl ?_
  refine T_iald (pc := 8) h hs hq1 dX9_layWay_8 ?_
  refine T_icmp_ge (pc := 9) (tgt := 39) h dX9_layWay_9 (by decide) ?_ ?_
  · exact T_return (pc := 39) h (Nat.zero_le _) (Nat.zero_le _) dX9_layWay_39
  · refine T_aload_n (pc := 12) h dX9_layWay_12 rfl 0 rfl ?_
    refine T_gR (pc := 13) h hs hk0 fl_X9_60 rfl fk_9_19 dX9_layWay_13 (fun hq2 => ?_)
    refine T_aload_n (pc := 16) h dX9_layWay_16 rfl 0 rfl ?_
    refine T_gR (pc := 17) h hs hk0 fl_X9_54 rfl fk_9_17 dX9_layWay_17 (fun hq3 => ?_)
    refine T_bipush (pc := 20) h dX9_layWay_20 kb_14 ?_
    refine T_iload_n (pc := 22) h dX9_layWay_22 rfl 1 rfl ?_
    refine T_imul (pc := 23) h dX9_layWay_23 ?_
    refine T_iload_n (pc := 24) h dX9_layWay_24 rfl 3 rfl ?_
    refine T_iadd (pc := 25) h dX9_layWay_25 ?_
    refine T_iald (pc := 26) h hs hq3 dX9_layWay_26 ?_
    refine T_iload_n (pc := 27) h dX9_layWay_27 rfl 2 rfl ?_
    refine T_iload_n (pc := 28) h dX9_layWay_28 rfl 3 rfl ?_
    refine T_callSi (pc := 29) h (M_X9_courseIn (kl K) hs x2 (s.1) (s.2) ) mst_X9_courseIn ml_X9_200 rfl ⟨Nat.le_of_ble_eq_true rfl, Nat.le_of_ble_eq_true rfl⟩ ⟨Nat.le_refl 0, Nat.le_refl 0⟩ (Nat.le_of_ble_eq_true rfl) dX9_layWay_29 rfl (fun r5 s4 => ?_)
    refine T_iast (pc := 32) h hs hq2 dX9_layWay_32 ?_
    refine T_letS fun s6 => ?_
    refine T_iinc (fl := fun v7 => [(3, .int v7), (0, .ref x0), (1, .int x1), (2, .int x2)]) (pc := 33) h dX9_layWay_33 3 rfl ki_1 (by decide) (fun _ => rfl) (fun v7 => ?_)
    refine T_goto (pc := 36) (tgt := 2) h dX9_layWay_36 (by decide) ?_
    refine T_sub [1, 2, 3, 0] rfl ?_
    exact hr2 (v7, s6)
theorem t_X9_layWay {K : Cx} (h : Ok K cX9_layWay RX9 4 rm_X9_layWay none) (hs : kiv K = St) (x0 : Nat) (x1 : Int32) (x2 : Int32) (σ : Sg) (hk0 : kd x0 9) : T K (QV K) 0 [(0, .ref x0), (1, .int x1), (2, .int x2)] [] 0 0 σ (f_X9_layWay x0 x1 x2 σ) := by
  unfold f_X9_layWay
  refine T_iconst (pc := 0) h dX9_layWay_0 ki_0 ?_
  refine T_istore_n (lv' := [(3, .int (0 : Int32)), (0, .ref x0), (1, .int x1), (2, .int x2)]) (pc := 1) h dX9_layWay_1 rfl (by decide) rfl ?_
  refine T_sub [1, 2, 3, 0] rfl ?_
  exact T_fx (B := f_X9_layWay_L2 x0 x1 x2) (fl := fun u => [(0, .ref x0), (1, .int x1), (2, .int x2), (3, .int (u.1))]) (f := fun u => (u.2)) (fun rec2 hr2 u => t_X9_layWay_L2 h hs x0 x1 x2 hk0 rec2 hr2 u) FU ((0 : Int32), σ)
theorem M_X9_layWay (l : Launch) {iv : Sg → Prop} (hi : iv = St) (x0 : Nat) (x1 : Int32) (x2 : Int32) (σ : Sg) (hk0 : kd x0 9) : CTv l yX9_layWay cX9_layWay 4 none rm_X9_layWay iv [.ref x0, .int x1, .int x2] σ (f_X9_layWay x0 x1 x2 σ) := by
  subst hi
  exact CT_of (by decide) (Nat.le_of_ble_eq_true rfl) (fun K _ h _ hs _ _ => t_X9_layWay h hs x0 x1 x2 σ hk0)
/-! LuteTabsModel.findsWays(II)V -/
theorem dX9_findsWays_0 : decode cX9_findsWays 0 = .ok (.aload_n 0, 1) := by decide +kernel
theorem dX9_findsWays_1 : decode cX9_findsWays 1 = .ok (.getfield 66, 3) := by decide +kernel
theorem dX9_findsWays_4 : decode cX9_findsWays 4 = .ok (.iload_n 1, 1) := by decide +kernel
theorem dX9_findsWays_5 : decode cX9_findsWays 5 = .ok (.iconst 0, 1) := by decide +kernel
theorem dX9_findsWays_6 : decode cX9_findsWays 6 = .ok (.iastore, 1) := by decide +kernel
theorem dX9_findsWays_7 : decode cX9_findsWays 7 = .ok (.iconst 1, 1) := by decide +kernel
theorem dX9_findsWays_8 : decode cX9_findsWays 8 = .ok (.istore_n 3, 1) := by decide +kernel
theorem dX9_findsWays_9 : decode cX9_findsWays 9 = .ok (.iconst 0, 1) := by decide +kernel
theorem dX9_findsWays_10 : decode cX9_findsWays 10 = .ok (.istore 4, 2) := by decide +kernel
theorem dX9_findsWays_12 : decode cX9_findsWays 12 = .ok (.iload 4, 2) := by decide +kernel
theorem dX9_findsWays_14 : decode cX9_findsWays 14 = .ok (.aload_n 0, 1) := by decide +kernel
theorem dX9_findsWays_15 : decode cX9_findsWays 15 = .ok (.getfield 57, 3) := by decide +kernel
theorem dX9_findsWays_18 : decode cX9_findsWays 18 = .ok (.iload_n 1, 1) := by decide +kernel
theorem dX9_findsWays_19 : decode cX9_findsWays 19 = .ok (.iaload, 1) := by decide +kernel
theorem dX9_findsWays_20 : decode cX9_findsWays 20 = .ok (.if_icmp .ge 23, 3) := by decide +kernel
theorem dX9_findsWays_23 : decode cX9_findsWays 23 = .ok (.iload 4, 2) := by decide +kernel
theorem dX9_findsWays_25 : decode cX9_findsWays 25 = .ok (.bipush 6, 2) := by decide +kernel
theorem dX9_findsWays_27 : decode cX9_findsWays 27 = .ok (.if_icmp .ge 16, 3) := by decide +kernel
theorem dX9_findsWays_30 : decode cX9_findsWays 30 = .ok (.iload_n 3, 1) := by decide +kernel
theorem dX9_findsWays_31 : decode cX9_findsWays 31 = .ok (.aload_n 0, 1) := by decide +kernel
theorem dX9_findsWays_32 : decode cX9_findsWays 32 = .ok (.getfield 7, 3) := by decide +kernel
theorem dX9_findsWays_35 : decode cX9_findsWays 35 = .ok (.imul, 1) := by decide +kernel
theorem dX9_findsWays_36 : decode cX9_findsWays 36 = .ok (.istore_n 3, 1) := by decide +kernel
theorem dX9_findsWays_37 : decode cX9_findsWays 37 = .ok (.iinc 4 1, 3) := by decide +kernel
theorem dX9_findsWays_40 : decode cX9_findsWays 40 = .ok (.goto (-28), 3) := by decide +kernel
theorem dX9_findsWays_43 : decode cX9_findsWays 43 = .ok (.iconst 0, 1) := by decide +kernel
theorem dX9_findsWays_44 : decode cX9_findsWays 44 = .ok (.istore 4, 2) := by decide +kernel
theorem dX9_findsWays_46 : decode cX9_findsWays 46 = .ok (.iload 4, 2) := by decide +kernel
theorem dX9_findsWays_48 : decode cX9_findsWays 48 = .ok (.iload_n 3, 1) := by decide +kernel
theorem dX9_findsWays_49 : decode cX9_findsWays 49 = .ok (.if_icmp .ge 218, 3) := by decide +kernel
theorem dX9_findsWays_52 : decode cX9_findsWays 52 = .ok (.aload_n 0, 1) := by decide +kernel
theorem dX9_findsWays_53 : decode cX9_findsWays 53 = .ok (.getfield 57, 3) := by decide +kernel
theorem dX9_findsWays_56 : decode cX9_findsWays 56 = .ok (.iload_n 1, 1) := by decide +kernel
theorem dX9_findsWays_57 : decode cX9_findsWays 57 = .ok (.iaload, 1) := by decide +kernel
theorem dX9_findsWays_58 : decode cX9_findsWays 58 = .ok (.aload_n 0, 1) := by decide +kernel
theorem dX9_findsWays_59 : decode cX9_findsWays 59 = .ok (.getfield 7, 3) := by decide +kernel
theorem dX9_findsWays_62 : decode cX9_findsWays 62 = .ok (.if_icmp .gt 205, 3) := by decide +kernel
theorem dX9_findsWays_65 : decode cX9_findsWays 65 = .ok (.iconst 0, 1) := by decide +kernel
theorem dX9_findsWays_66 : decode cX9_findsWays 66 = .ok (.istore 5, 2) := by decide +kernel
theorem dX9_findsWays_68 : decode cX9_findsWays 68 = .ok (.iload 4, 2) := by decide +kernel
theorem dX9_findsWays_70 : decode cX9_findsWays 70 = .ok (.istore 6, 2) := by decide +kernel
theorem dX9_findsWays_72 : decode cX9_findsWays 72 = .ok (.iconst 1, 1) := by decide +kernel
theorem dX9_findsWays_73 : decode cX9_findsWays 73 = .ok (.istore 7, 2) := by decide +kernel
theorem dX9_findsWays_75 : decode cX9_findsWays 75 = .ok (.aload_n 0, 1) := by decide +kernel
theorem dX9_findsWays_76 : decode cX9_findsWays 76 = .ok (.getfield 57, 3) := by decide +kernel
theorem dX9_findsWays_79 : decode cX9_findsWays 79 = .ok (.iload_n 1, 1) := by decide +kernel
theorem dX9_findsWays_80 : decode cX9_findsWays 80 = .ok (.iaload, 1) := by decide +kernel
theorem dX9_findsWays_81 : decode cX9_findsWays 81 = .ok (.iconst 1, 1) := by decide +kernel
theorem dX9_findsWays_82 : decode cX9_findsWays 82 = .ok (.isub, 1) := by decide +kernel
theorem dX9_findsWays_83 : decode cX9_findsWays 83 = .ok (.istore 8, 2) := by decide +kernel
theorem dX9_findsWays_85 : decode cX9_findsWays 85 = .ok (.iload 8, 2) := by decide +kernel
theorem dX9_findsWays_87 : decode cX9_findsWays 87 = .ok (.ifCond .lt 94, 3) := by decide +kernel
theorem dX9_findsWays_90 : decode cX9_findsWays 90 = .ok (.iload 6, 2) := by decide +kernel
theorem dX9_findsWays_92 : decode cX9_findsWays 92 = .ok (.aload_n 0, 1) := by decide +kernel
theorem dX9_findsWays_93 : decode cX9_findsWays 93 = .ok (.getfield 7, 3) := by decide +kernel
theorem dX9_findsWays_96 : decode cX9_findsWays 96 = .ok (.irem, 1) := by decide +kernel
theorem dX9_findsWays_97 : decode cX9_findsWays 97 = .ok (.istore 9, 2) := by decide +kernel
theorem dX9_findsWays_99 : decode cX9_findsWays 99 = .ok (.iload 5, 2) := by decide +kernel
theorem dX9_findsWays_101 : decode cX9_findsWays 101 = .ok (.iload 9, 2) := by decide +kernel
theorem dX9_findsWays_103 : decode cX9_findsWays 103 = .ok (.iconst 3, 1) := by decide +kernel
theorem dX9_findsWays_104 : decode cX9_findsWays 104 = .ok (.iload 8, 2) := by decide +kernel
theorem dX9_findsWays_106 : decode cX9_findsWays 106 = .ok (.imul, 1) := by decide +kernel
theorem dX9_findsWays_107 : decode cX9_findsWays 107 = .ok (.ishl, 1) := by decide +kernel
theorem dX9_findsWays_108 : decode cX9_findsWays 108 = .ok (.ior, 1) := by decide +kernel
theorem dX9_findsWays_109 : decode cX9_findsWays 109 = .ok (.istore 5, 2) := by decide +kernel
theorem dX9_findsWays_111 : decode cX9_findsWays 111 = .ok (.iload 6, 2) := by decide +kernel
theorem dX9_findsWays_113 : decode cX9_findsWays 113 = .ok (.aload_n 0, 1) := by decide +kernel
theorem dX9_findsWays_114 : decode cX9_findsWays 114 = .ok (.getfield 7, 3) := by decide +kernel
theorem dX9_findsWays_117 : decode cX9_findsWays 117 = .ok (.idiv, 1) := by decide +kernel
theorem dX9_findsWays_118 : decode cX9_findsWays 118 = .ok (.istore 6, 2) := by decide +kernel
theorem dX9_findsWays_120 : decode cX9_findsWays 120 = .ok (.iload 7, 2) := by decide +kernel
theorem dX9_findsWays_122 : decode cX9_findsWays 122 = .ok (.ifCond .eq 50, 3) := by decide +kernel
theorem dX9_findsWays_125 : decode cX9_findsWays 125 = .ok (.iload 9, 2) := by decide +kernel
theorem dX9_findsWays_127 : decode cX9_findsWays 127 = .ok (.iload_n 2, 1) := by decide +kernel
theorem dX9_findsWays_128 : decode cX9_findsWays 128 = .ok (.if_icmp .eq 44, 3) := by decide +kernel
theorem dX9_findsWays_131 : decode cX9_findsWays 131 = .ok (.aload_n 0, 1) := by decide +kernel
theorem dX9_findsWays_132 : decode cX9_findsWays 132 = .ok (.aload_n 0, 1) := by decide +kernel
theorem dX9_findsWays_133 : decode cX9_findsWays 133 = .ok (.getfield 35, 3) := by decide +kernel
theorem dX9_findsWays_136 : decode cX9_findsWays 136 = .ok (.aload_n 0, 1) := by decide +kernel
theorem dX9_findsWays_137 : decode cX9_findsWays 137 = .ok (.getfield 54, 3) := by decide +kernel
theorem dX9_findsWays_140 : decode cX9_findsWays 140 = .ok (.bipush 14, 2) := by decide +kernel
theorem dX9_findsWays_142 : decode cX9_findsWays 142 = .ok (.iload_n 1, 1) := by decide +kernel
theorem dX9_findsWays_143 : decode cX9_findsWays 143 = .ok (.imul, 1) := by decide +kernel
theorem dX9_findsWays_144 : decode cX9_findsWays 144 = .ok (.iload 8, 2) := by decide +kernel
theorem dX9_findsWays_146 : decode cX9_findsWays 146 = .ok (.iadd, 1) := by decide +kernel
theorem dX9_findsWays_147 : decode cX9_findsWays 147 = .ok (.iaload, 1) := by decide +kernel
theorem dX9_findsWays_148 : decode cX9_findsWays 148 = .ok (.iaload, 1) := by decide +kernel
theorem dX9_findsWays_149 : decode cX9_findsWays 149 = .ok (.aload_n 0, 1) := by decide +kernel
theorem dX9_findsWays_150 : decode cX9_findsWays 150 = .ok (.getfield 163, 3) := by decide +kernel
theorem dX9_findsWays_153 : decode cX9_findsWays 153 = .ok (.iadd, 1) := by decide +kernel
theorem dX9_findsWays_154 : decode cX9_findsWays 154 = .ok (.aload_n 0, 1) := by decide +kernel
theorem dX9_findsWays_155 : decode cX9_findsWays 155 = .ok (.getfield 13, 3) := by decide +kernel
theorem dX9_findsWays_158 : decode cX9_findsWays 158 = .ok (.iload 9, 2) := by decide +kernel
theorem dX9_findsWays_160 : decode cX9_findsWays 160 = .ok (.iaload, 1) := by decide +kernel
theorem dX9_findsWays_161 : decode cX9_findsWays 161 = .ok (.isub, 1) := by decide +kernel
theorem dX9_findsWays_162 : decode cX9_findsWays 162 = .ok (.invokevirtual 197, 3) := by decide +kernel
theorem dX9_findsWays_165 : decode cX9_findsWays 165 = .ok (.ifCond .eq 7, 3) := by decide +kernel
theorem dX9_findsWays_168 : decode cX9_findsWays 168 = .ok (.iconst 1, 1) := by decide +kernel
theorem dX9_findsWays_169 : decode cX9_findsWays 169 = .ok (.goto 4, 3) := by decide +kernel
theorem dX9_findsWays_172 : decode cX9_findsWays 172 = .ok (.iconst 0, 1) := by decide +kernel
theorem dX9_findsWays_173 : decode cX9_findsWays 173 = .ok (.istore 7, 2) := by decide +kernel
theorem dX9_findsWays_175 : decode cX9_findsWays 175 = .ok (.iinc 8 (-1), 3) := by decide +kernel
theorem dX9_findsWays_178 : decode cX9_findsWays 178 = .ok (.goto (-93), 3) := by decide +kernel
theorem dX9_findsWays_181 : decode cX9_findsWays 181 = .ok (.iload 7, 2) := by decide +kernel
theorem dX9_findsWays_183 : decode cX9_findsWays 183 = .ok (.ifCond .eq 10, 3) := by decide +kernel
theorem dX9_findsWays_186 : decode cX9_findsWays 186 = .ok (.aload_n 0, 1) := by decide +kernel
theorem dX9_findsWays_187 : decode cX9_findsWays 187 = .ok (.iload_n 1, 1) := by decide +kernel
theorem dX9_findsWays_188 : decode cX9_findsWays 188 = .ok (.iload 5, 2) := by decide +kernel
theorem dX9_findsWays_190 : decode cX9_findsWays 190 = .ok (.invokevirtual 204, 3) := by decide +kernel
theorem dX9_findsWays_193 : decode cX9_findsWays 193 = .ok (.iload 7, 2) := by decide +kernel
theorem dX9_findsWays_195 : decode cX9_findsWays 195 = .ok (.ifCond .eq 66, 3) := by decide +kernel
theorem dX9_findsWays_198 : decode cX9_findsWays 198 = .ok (.aload_n 0, 1) := by decide +kernel
theorem dX9_findsWays_199 : decode cX9_findsWays 199 = .ok (.iload_n 1, 1) := by decide +kernel
theorem dX9_findsWays_200 : decode cX9_findsWays 200 = .ok (.invokevirtual 208, 3) := by decide +kernel
theorem dX9_findsWays_203 : decode cX9_findsWays 203 = .ok (.ifCond .eq 58, 3) := by decide +kernel
theorem dX9_findsWays_206 : decode cX9_findsWays 206 = .ok (.sipush 128, 3) := by decide +kernel
theorem dX9_findsWays_209 : decode cX9_findsWays 209 = .ok (.iload_n 1, 1) := by decide +kernel
theorem dX9_findsWays_210 : decode cX9_findsWays 210 = .ok (.imul, 1) := by decide +kernel
theorem dX9_findsWays_211 : decode cX9_findsWays 211 = .ok (.aload_n 0, 1) := by decide +kernel
theorem dX9_findsWays_212 : decode cX9_findsWays 212 = .ok (.getfield 66, 3) := by decide +kernel
theorem dX9_findsWays_215 : decode cX9_findsWays 215 = .ok (.iload_n 1, 1) := by decide +kernel
theorem dX9_findsWays_216 : decode cX9_findsWays 216 = .ok (.iaload, 1) := by decide +kernel
theorem dX9_findsWays_217 : decode cX9_findsWays 217 = .ok (.iadd, 1) := by decide +kernel
theorem dX9_findsWays_218 : decode cX9_findsWays 218 = .ok (.istore 8, 2) := by decide +kernel
theorem dX9_findsWays_220 : decode cX9_findsWays 220 = .ok (.aload_n 0, 1) := by decide +kernel
theorem dX9_findsWays_221 : decode cX9_findsWays 221 = .ok (.getfield 63, 3) := by decide +kernel
theorem dX9_findsWays_224 : decode cX9_findsWays 224 = .ok (.iload 8, 2) := by decide +kernel
theorem dX9_findsWays_226 : decode cX9_findsWays 226 = .ok (.iload 5, 2) := by decide +kernel
theorem dX9_findsWays_228 : decode cX9_findsWays 228 = .ok (.iastore, 1) := by decide +kernel
theorem dX9_findsWays_229 : decode cX9_findsWays 229 = .ok (.aload_n 0, 1) := by decide +kernel
theorem dX9_findsWays_230 : decode cX9_findsWays 230 = .ok (.getfield 69, 3) := by decide +kernel
theorem dX9_findsWays_233 : decode cX9_findsWays 233 = .ok (.iload 8, 2) := by decide +kernel
theorem dX9_findsWays_235 : decode cX9_findsWays 235 = .ok (.aload_n 0, 1) := by decide +kernel
theorem dX9_findsWays_236 : decode cX9_findsWays 236 = .ok (.getfield 166, 3) := by decide +kernel
theorem dX9_findsWays_239 : decode cX9_findsWays 239 = .ok (.iastore, 1) := by decide +kernel
theorem dX9_findsWays_240 : decode cX9_findsWays 240 = .ok (.aload_n 0, 1) := by decide +kernel
theorem dX9_findsWays_241 : decode cX9_findsWays 241 = .ok (.getfield 72, 3) := by decide +kernel
theorem dX9_findsWays_244 : decode cX9_findsWays 244 = .ok (.iload 8, 2) := by decide +kernel
theorem dX9_findsWays_246 : decode cX9_findsWays 246 = .ok (.aload_n 0, 1) := by decide +kernel
theorem dX9_findsWays_247 : decode cX9_findsWays 247 = .ok (.invokevirtual 211, 3) := by decide +kernel
theorem dX9_findsWays_250 : decode cX9_findsWays 250 = .ok (.iastore, 1) := by decide +kernel
theorem dX9_findsWays_251 : decode cX9_findsWays 251 = .ok (.aload_n 0, 1) := by decide +kernel
theorem dX9_findsWays_252 : decode cX9_findsWays 252 = .ok (.getfield 66, 3) := by decide +kernel
theorem dX9_findsWays_255 : decode cX9_findsWays 255 = .ok (.iload_n 1, 1) := by decide +kernel
theorem dX9_findsWays_256 : decode cX9_findsWays 256 = .ok (.dup2, 1) := by decide +kernel
theorem dX9_findsWays_257 : decode cX9_findsWays 257 = .ok (.iaload, 1) := by decide +kernel
theorem dX9_findsWays_258 : decode cX9_findsWays 258 = .ok (.iconst 1, 1) := by decide +kernel
theorem dX9_findsWays_259 : decode cX9_findsWays 259 = .ok (.iadd, 1) := by decide +kernel
theorem dX9_findsWays_260 : decode cX9_findsWays 260 = .ok (.iastore, 1) := by decide +kernel
theorem dX9_findsWays_261 : decode cX9_findsWays 261 = .ok (.iinc 4 1, 3) := by decide +kernel
theorem dX9_findsWays_264 : decode cX9_findsWays 264 = .ok (.goto (-218), 3) := by decide +kernel
theorem dX9_findsWays_267 : decode cX9_findsWays 267 = .ok (.return_, 1) := by decide +kernel
abbrev rm_X9_findsWays : Room := { frames := 4, cells := 0, slots := 0, locals := 95 }
def f_X9_findsWays_L173 (rec46 : Int32 × Sg → Option (Unit × Sg)) (rec85 : Int32 × Int32 × Int32 × Int32 × Sg → Option (Unit × Sg)) (x0 : Nat) (x1 : Int32) (x2 : Int32) (x3 : Int32) (x4 : Int32) (x5 : Int32) (x6 : Int32) (x8 : Int32) (y0 : Int32) (σ : Sg) : Option (Unit × Sg) := lB (x8 + (-1 : Int32)) fun v1 => rec85 (x5, x6, y0, v1, σ)
def f_X9_findsWays_L172 (rec46 : Int32 × Sg → Option (Unit × Sg)) (rec85 : Int32 × Int32 × Int32 × Int32 × Sg → Option (Unit × Sg)) (x0 : Nat) (x1 : Int32) (x2 : Int32) (x3 : Int32) (x4 : Int32) (x5 : Int32) (x6 : Int32) (x8 : Int32)  (σ : Sg) : Option (Unit × Sg) := f_X9_findsWays_L173 rec46 rec85 x0 x1 x2 x3 x4 x5 x6 x8 (0 : Int32) σ
def f_X9_findsWays_L261 (rec46 : Int32 × Sg → Option (Unit × Sg)) (x0 : Nat) (x1 : Int32) (x2 : Int32) (x3 : Int32) (x4 : Int32)  (σ : Sg) : Option (Unit × Sg) := lB (x4 + (1 : Int32)) fun v1 => rec46 (v1, σ)
def f_X9_findsWays_L193 (rec46 : Int32 × Sg → Option (Unit × Sg)) (x0 : Nat) (x1 : Int32) (x2 : Int32) (x3 : Int32) (x4 : Int32) (x5 : Int32) (x7 : Int32)  (σ : Sg) : Option (Unit × Sg) := (if x7 = 0 then f_X9_findsWays_L261 rec46 x0 x1 x2 x3 x4 σ else bd (f_X9_isGood x0 x1 σ) fun r2 s1 => (if r2 = 0 then f_X9_findsWays_L261 rec46 x0 x1 x2 x3 x4 s1 else ck (inb x1 (aL (gR s1 x0 28))) (lB ((((128 : Int32) * x1) + (gI s1 (gR s1 x0 28) x1.toNatClampNeg))) fun v4 => ck (inb v4 (aL (gR s1 x0 27))) (lB (pI s1 (gR s1 x0 27) v4.toNatClampNeg x5) fun s6 => ck (inb v4 (aL (gR s6 x0 29))) (lB (pI s6 (gR s6 x0 29) v4.toNatClampNeg (gI s6 x0 21)) fun s8 => bd (f_X9_ownCost x0 s8) fun r11 s10 => ck (inb v4 (aL (gR s8 x0 30))) (lB (pI s10 (gR s8 x0 30) v4.toNatClampNeg r11) fun s12 => ck (inb x1 (aL (gR s12 x0 28))) (ck (inb x1 (aL (gR s12 x0 28))) (lB (pI s12 (gR s12 x0 28) x1.toNatClampNeg ((gI s12 (gR s12 x0 28) x1.toNatClampNeg) + (1 : Int32))) fun s14 => f_X9_findsWays_L261 rec46 x0 x1 x2 x3 x4 s14))))))))
def f_X9_findsWays_L85 (rec46 : Int32 × Sg → Option (Unit × Sg)) (x0 : Nat) (x1 : Int32) (x2 : Int32) (x3 : Int32) (x4 : Int32) (rec85 : Int32 × Int32 × Int32 × Int32 × Sg → Option (Unit × Sg)) (s : Int32 × Int32 × Int32 × Int32 × Sg) : Option (Unit × Sg) := (if (s.2.2.2.1) < 0 then (if (s.2.2.1) = 0 then f_X9_findsWays_L193 rec46 x0 x1 x2 x3 x4 (s.1) (s.2.2.1) (s.2.2.2.2) else bd (f_X9_layWay x0 x1 (s.1) (s.2.2.2.2)) fun _ s1 => f_X9_findsWays_L193 rec46 x0 x1 x2 x3 x4 (s.1) (s.2.2.1) s1) else ck (decide (¬ (gI (s.2.2.2.2) x0 0) = 0)) (lB (((s.2.1) - (s.2.1) / (gI (s.2.2.2.2) x0 0) * (gI (s.2.2.2.2) x0 0))) fun v2 => lB (((s.1) ||| (v2 <<< (((3 : Int32) * (s.2.2.2.1)) &&& 31)))) fun v3 => ck (decide (¬ (gI (s.2.2.2.2) x0 0) = 0)) (lB (((s.2.1) / (gI (s.2.2.2.2) x0 0))) fun v4 => (if (s.2.2.1) = 0 then f_X9_findsWays_L172 rec46 rec85 x0 x1 x2 x3 x4 v3 v4 (s.2.2.2.1) (s.2.2.2.2) else (if v2 = x2 then f_X9_findsWays_L172 rec46 rec85 x0 x1 x2 x3 x4 v3 v4 (s.2.2.2.1) (s.2.2.2.2) else ck (inb (((14 : Int32) * x1) + (s.2.2.2.1)) (aL (gR (s.2.2.2.2) x0 17))) (ck (inb (gI (s.2.2.2.2) (gR (s.2.2.2.2) x0 17) (((14 : Int32) * x1) + (s.2.2.2.1)).toNatClampNeg) (aL (gR (s.2.2.2.2) x0 8))) (ck (inb v2 (aL (gR (s.2.2.2.2) x0 1))) (bd (f_X9_isOnCourse x0 (((gI (s.2.2.2.2) (gR (s.2.2.2.2) x0 8) (gI (s.2.2.2.2) (gR (s.2.2.2.2) x0 17) (((14 : Int32) * x1) + (s.2.2.2.1)).toNatClampNeg).toNatClampNeg) + (gI (s.2.2.2.2) x0 20)) - (gI (s.2.2.2.2) (gR (s.2.2.2.2) x0 1) v2.toNatClampNeg)) (s.2.2.2.2)) fun r9 s8 => (if r9 = 0 then f_X9_findsWays_L172 rec46 rec85 x0 x1 x2 x3 x4 v3 v4 (s.2.2.2.1) s8 else f_X9_findsWays_L173 rec46 rec85 x0 x1 x2 x3 x4 v3 v4 (s.2.2.2.1) (1 : Int32) s8)))))))))
def f_X9_findsWays_L267    (σ : Sg) : Option (Unit × Sg) := some ((), σ)
def f_X9_findsWays_L46  (x0 : Nat) (x1 : Int32) (x2 : Int32) (x3 : Int32) (rec46 : Int32 × Sg → Option (Unit × Sg)) (s : Int32 × Sg) : Option (Unit × Sg) := (if x3 ≤ (s.1) then f_X9_findsWays_L267 (s.2) else ck (inb x1 (aL (gR (s.2) x0 18))) ((if (gI (s.2) x0 0) < (gI (s.2) (gR (s.2) x0 18) x1.toNatClampNeg) then f_X9_findsWays_L267 (s.2) else lB ((s.1)) fun v2 => ck (inb x1 (aL (gR (s.2) x0 18))) (lB (((gI (s.2) (gR (s.2) x0 18) x1.toNatClampNeg) - (1 : Int32))) fun v4 => fx (f_X9_findsWays_L85 rec46 x0 x1 x2 x3 (s.1)) FU ((0 : Int32), v2, (1 : Int32), v4, (s.2))))))
def f_X9_findsWays_L43  (x0 : Nat) (x1 : Int32) (x2 : Int32) (x3 : Int32)  (σ : Sg) : Option (Unit × Sg) := fx (f_X9_findsWays_L46 x0 x1 x2 x3) FU ((0 : Int32), σ)
def f_X9_findsWays_L12  (x0 : Nat) (x1 : Int32) (x2 : Int32) (σ : Sg) (rec12 : Int32 × Int32 → Option (Unit × Sg)) (s : Int32 × Int32) : Option (Unit × Sg) := ck (inb x1 (aL (gR σ x0 18))) ((if (gI σ (gR σ x0 18) x1.toNatClampNeg) ≤ (s.2) then f_X9_findsWays_L43 x0 x1 x2 (s.1) σ else (if (6 : Int32) ≤ (s.2) then f_X9_findsWays_L43 x0 x1 x2 (s.1) σ else lB (((s.1) * (gI σ x0 0))) fun v2 => lB ((s.2) + (1 : Int32)) fun v3 => rec12 (v2, v3))))
def f_X9_findsWays (x0 : Nat) (x1 : Int32) (x2 : Int32) (σ : Sg) : Option (Unit × Sg) := ck (inb x1 (aL (gR σ x0 28))) (lB (pI σ (gR σ x0 28) x1.toNatClampNeg (0 : Int32)) fun s2 => fx (f_X9_findsWays_L12 x0 x1 x2 s2) FU ((1 : Int32), (0 : Int32)))
theorem t_X9_findsWays_L173 {K : Cx} (h : Ok K cX9_findsWays RX9 10 rm_X9_findsWays none) (hs : kiv K = St) (x0 : Nat) (x1 : Int32) (x2 : Int32) (x3 : Int32) (x4 : Int32) (x5 : Int32) (x6 : Int32) (x8 : Int32) (y0 : Int32) (σ : Sg) (rec46 : Int32 × Sg → Option (Unit × Sg)) (hr46 : ∀ u, T K (QV K) 46 [(0, .ref x0), (1, .int x1), (2, .int x2), (3, .int x3), (4, .int (u.1))] [] 0 0 (u.2) (rec46 u)) (rec85 : Int32 × Int32 × Int32 × Int32 × Sg → Option (Unit × Sg)) (hr85 : ∀ u, T K (QV K) 85 [(0, .ref x0), (1, .int x1), (2, .int x2), (3, .int x3), (4, .int x4), (5, .int (u.1)), (6, .int (u.2.1)), (7, .int (u.2.2.1)), (8, .int (u.2.2.2.1))] [] 0 0 (u.2.2.2.2) (rec85 u)) (hk0 : kd x0 9)  : T K (QV K) 173 [(0, .ref x0), (1, .int x1), (2, .int x2), (3, .int x3), (4, .int x4), (5, .int x5), (6, .int x6), (8, .int x8)] [.int y0] 0 0 σ (f_X9_findsWays_L173 rec46 rec85 x0 x1 x2 x3 x4 x5 x6 x8 y0 σ) := by
  unfold f_X9_findsWays_L173
  refine T_istore (lv' := [(7, .int y0), (0, .ref x0), (1, .int x1), (2, .int x2), (3, .int x3), (4, .int x4), (5, .int x5), (6, .int x6), (8, .int x8)]) (pc := 173) h dX9_findsWays_173 (by decide) rfl ?_
  refine T_iinc (fl := fun v1 => [(8, .int v1), (7, .int y0), (0, .ref x0), (1, .int x1), (2, .int x2), (3, .int x3), (4, .int x4), (5, .int x5), (6, .int x6)]) (pc := 175) h dX9_findsWays_175 8 rfl ki_m1 (by decide) (fun _ => rfl) (fun v1 => ?_)
  refine T_goto (pc := 178) (tgt := 85) h dX9_findsWays_178 (by decide) ?_
  refine T_sub [2, 3, 4, 5, 6, 7, 8, 1, 0] rfl ?_
  exact hr85 (x5, x6, y0, v1, σ)
theorem t_X9_findsWays_L172 {K : Cx} (h : Ok K cX9_findsWays RX9 10 rm_X9_findsWays none) (hs : kiv K = St) (x0 : Nat) (x1 : Int32) (x2 : Int32) (x3 : Int32) (x4 : Int32) (x5 : Int32) (x6 : Int32) (x8 : Int32)  (σ : Sg) (rec46 : Int32 × Sg → Option (Unit × Sg)) (hr46 : ∀ u, T K (QV K) 46 [(0, .ref x0), (1, .int x1), (2, .int x2), (3, .int x3), (4, .int (u.1))] [] 0 0 (u.2) (rec46 u)) (rec85 : Int32 × Int32 × Int32 × Int32 × Sg → Option (Unit × Sg)) (hr85 : ∀ u, T K (QV K) 85 [(0, .ref x0), (1, .int x1), (2, .int x2), (3, .int x3), (4, .int x4), (5, .int (u.1)), (6, .int (u.2.1)), (7, .int (u.2.2.1)), (8, .int (u.2.2.2.1))] [] 0 0 (u.2.2.2.2) (rec85 u)) (hk0 : kd x0 9)  : T K (QV K) 172 [(0, .ref x0), (1, .int x1), (2, .int x2), (3, .int x3), (4, .int x4), (5, .int x5), (6, .int x6), (8, .int x8)] [] 0 0 σ (f_X9_findsWays_L172 rec46 rec85 x0 x1 x2 x3 x4 x5 x6 x8 σ) := by
  unfold f_X9_findsWays_L172
  refine T_iconst (pc := 172) h dX9_findsWays_172 ki_0 ?_
  refine T_sub [0, 1, 2, 3, 4, 5, 6, 7] rfl ?_
  exact t_X9_findsWays_L173 h hs x0 x1 x2 x3 x4 x5 x6 x8 (0 : Int32) σ rec46 hr46 rec85 hr85 hk0
theorem t_X9_findsWays_L261 {K : Cx} (h : Ok K cX9_findsWays RX9 10 rm_X9_findsWays none) (hs : kiv K = St) (x0 : Nat) (x1 : Int32) (x2 : Int32) (x3 : Int32) (x4 : Int32)  (σ : Sg) (rec46 : Int32 × Sg → Option (Unit × Sg)) (hr46 : ∀ u, T K (QV K) 46 [(0, .ref x0), (1, .int x1), (2, .int x2), (3, .int x3), (4, .int (u.1))] [] 0 0 (u.2) (rec46 u)) (hk0 : kd x0 9)  : T K (QV K) 261 [(0, .ref x0), (1, .int x1), (2, .int x2), (3, .int x3), (4, .int x4)] [] 0 0 σ (f_X9_findsWays_L261 rec46 x0 x1 x2 x3 x4 σ) := by
  unfold f_X9_findsWays_L261
  refine T_iinc (fl := fun v1 => [(4, .int v1), (0, .ref x0), (1, .int x1), (2, .int x2), (3, .int x3)]) (pc := 261) h dX9_findsWays_261 4 rfl ki_1 (by decide) (fun _ => rfl) (fun v1 => ?_)
  refine T_goto (pc := 264) (tgt := 46) h dX9_findsWays_264 (by decide) ?_
  refine T_sub [1, 2, 3, 4, 0] rfl ?_
  exact hr46 (v1, σ)
theorem t_X9_findsWays_L193 {K : Cx} (h : Ok K cX9_findsWays RX9 10 rm_X9_findsWays none) (hs : kiv K = St) (x0 : Nat) (x1 : Int32) (x2 : Int32) (x3 : Int32) (x4 : Int32) (x5 : Int32) (x7 : Int32)  (σ : Sg) (rec46 : Int32 × Sg → Option (Unit × Sg)) (hr46 : ∀ u, T K (QV K) 46 [(0, .ref x0), (1, .int x1), (2, .int x2), (3, .int x3), (4, .int (u.1))] [] 0 0 (u.2) (rec46 u)) (hk0 : kd x0 9)  : T K (QV K) 193 [(0, .ref x0), (1, .int x1), (2, .int x2), (3, .int x3), (4, .int x4), (5, .int x5), (7, .int x7)] [] 0 0 σ (f_X9_findsWays_L193 rec46 x0 x1 x2 x3 x4 x5 x7 σ) := by
  unfold f_X9_findsWays_L193
  refine T_iload (pc := 193) h dX9_findsWays_193 6 rfl ?_
  refine T_if_eq (pc := 195) (tgt := 261) h dX9_findsWays_195 (by decide) ?_ ?_
  · refine T_sub [0, 1, 2, 3, 4] rfl ?_
    exact t_X9_findsWays_L261 h hs x0 x1 x2 x3 x4 σ rec46 hr46 hk0
  · refine T_aload_n (pc := 198) h dX9_findsWays_198 rfl 0 rfl ?_
    refine T_iload_n (pc := 199) h dX9_findsWays_199 rfl 1 rfl ?_
    refine T_callVi (pc := 200) h (M_X9_isGood (kl K) hs x0 x1 σ hk0) mv_X9_isGood hs hk0 ml_X9_208 rfl ⟨Nat.le_of_ble_eq_true rfl, Nat.le_of_ble_eq_true rfl⟩ ⟨Nat.le_refl 0, Nat.le_refl 0⟩ (Nat.le_of_ble_eq_true rfl) dX9_findsWays_200 rfl (fun r2 s1 => ?_)
    refine T_if_eq (pc := 203) (tgt := 261) h dX9_findsWays_203 (by decide) ?_ ?_
    · refine T_sub [0, 1, 2, 3, 4] rfl ?_
      exact t_X9_findsWays_L261 h hs x0 x1 x2 x3 x4 s1 rec46 hr46 hk0
    · refine T_sipush (pc := 206) h dX9_findsWays_206 ks_128 ?_
      refine T_iload_n (pc := 209) h dX9_findsWays_209 rfl 1 rfl ?_
      refine T_imul (pc := 210) h dX9_findsWays_210 ?_
      refine T_aload_n (pc := 211) h dX9_findsWays_211 rfl 0 rfl ?_
      refine T_gR (pc := 212) h hs hk0 fl_X9_66 rfl fk_9_28 dX9_findsWays_212 (fun hq3 => ?_)
      refine T_iload_n (pc := 215) h dX9_findsWays_215 rfl 1 rfl ?_
      refine T_iald (pc := 216) h hs hq3 dX9_findsWays_216 ?_
      refine T_iadd (pc := 217) h dX9_findsWays_217 ?_
      refine T_letI fun v4 => ?_
      refine T_istore (lv' := [(8, .int v4), (0, .ref x0), (1, .int x1), (2, .int x2), (3, .int x3), (4, .int x4), (5, .int x5), (7, .int x7)]) (pc := 218) h dX9_findsWays_218 (by decide) rfl ?_
      refine T_aload_n (pc := 220) h dX9_findsWays_220 rfl 1 rfl ?_
      refine T_gR (pc := 221) h hs hk0 fl_X9_63 rfl fk_9_27 dX9_findsWays_221 (fun hq5 => ?_)
      refine T_iload (pc := 224) h dX9_findsWays_224 0 rfl ?_
      refine T_iload (pc := 226) h dX9_findsWays_226 6 rfl ?_
      refine T_iast (pc := 228) h hs hq5 dX9_findsWays_228 ?_
      refine T_letS fun s6 => ?_
      refine T_aload_n (pc := 229) h dX9_findsWays_229 rfl 1 rfl ?_
      refine T_gR (pc := 230) h hs hk0 fl_X9_69 rfl fk_9_29 dX9_findsWays_230 (fun hq7 => ?_)
      refine T_iload (pc := 233) h dX9_findsWays_233 0 rfl ?_
      refine T_aload_n (pc := 235) h dX9_findsWays_235 rfl 1 rfl ?_
      refine T_getI (pc := 236) h hs hk0 fl_X9_166 rfl dX9_findsWays_236 ?_
      refine T_iast (pc := 239) h hs hq7 dX9_findsWays_239 ?_
      refine T_letS fun s8 => ?_
      refine T_aload_n (pc := 240) h dX9_findsWays_240 rfl 1 rfl ?_
      refine T_gR (pc := 241) h hs hk0 fl_X9_72 rfl fk_9_30 dX9_findsWays_241 (fun hq9 => ?_)
      refine T_iload (pc := 244) h dX9_findsWays_244 0 rfl ?_
      refine T_aload_n (pc := 246) h dX9_findsWays_246 rfl 1 rfl ?_
      refine T_callVi (pc := 247) h (M_X9_ownCost (kl K) hs x0 s8 hk0) mv_X9_ownCost hs hk0 ml_X9_211 rfl ⟨Nat.le_of_ble_eq_true rfl, Nat.le_of_ble_eq_true rfl⟩ ⟨Nat.le_refl 0, Nat.le_refl 0⟩ (Nat.le_of_ble_eq_true rfl) dX9_findsWays_247 rfl (fun r11 s10 => ?_)
      refine T_iast (pc := 250) h hs hq9 dX9_findsWays_250 ?_
      refine T_letS fun s12 => ?_
      refine T_aload_n (pc := 251) h dX9_findsWays_251 rfl 1 rfl ?_
      refine T_gR (pc := 252) h hs hk0 fl_X9_66 rfl fk_9_28 dX9_findsWays_252 (fun hq13 => ?_)
      refine T_iload_n (pc := 255) h dX9_findsWays_255 rfl 2 rfl ?_
      refine T_dup2 (pc := 256) h dX9_findsWays_256 rfl rfl ?_
      refine T_iald (pc := 257) h hs hq13 dX9_findsWays_257 ?_
      refine T_iconst (pc := 258) h dX9_findsWays_258 ki_1 ?_
      refine T_iadd (pc := 259) h dX9_findsWays_259 ?_
      refine T_iast (pc := 260) h hs hq13 dX9_findsWays_260 ?_
      refine T_letS fun s14 => ?_
      refine T_sub [1, 2, 3, 4, 5] rfl ?_
      exact t_X9_findsWays_L261 h hs x0 x1 x2 x3 x4 s14 rec46 hr46 hk0
theorem t_X9_findsWays_L85 {K : Cx} (h : Ok K cX9_findsWays RX9 10 rm_X9_findsWays none) (hs : kiv K = St) (x0 : Nat) (x1 : Int32) (x2 : Int32) (x3 : Int32) (x4 : Int32) (rec46 : Int32 × Sg → Option (Unit × Sg)) (hr46 : ∀ u, T K (QV K) 46 [(0, .ref x0), (1, .int x1), (2, .int x2), (3, .int x3), (4, .int (u.1))] [] 0 0 (u.2) (rec46 u)) (hk0 : kd x0 9) (rec85 : Int32 × Int32 × Int32 × Int32 × Sg → Option (Unit × Sg)) (hr85 : ∀ u, T K (QV K) 85 [(0, .ref x0), (1, .int x1), (2, .int x2), (3, .int x3), (4, .int x4), (5, .int (u.1)), (6, .int (u.2.1)), (7, .int (u.2.2.1)), (8, .int (u.2.2.2.1))] [] 0 0 (u.2.2.2.2) (rec85 u)) (s : Int32 × Int32 × Int32 × Int32 × Sg) : T K (QV K) 85 [(0, .ref x0), (1, .int x1), (2, .int x2), (3, .int x3), (4, .int x4), (5, .int (s.1)), (6, .int (s.2.1)), (7, .int (s.2.2.1)), (8, .int (s.2.2.2.1))] [] 0 0 (s.2.2.2.2) (f_X9_findsWays_L85 rec46 x0 x1 x2 x3 x4 rec85 s) := by
  unfold f_X9_findsWays_L85
  refine T_iload (pc := 85) h dX9_findsWays_85 8 rfl ?_
  refine T_if_lt (pc := 87) (tgt := 181) h dX9_findsWays_87 (by decide) ?_ ?_
  · refine T_iload (pc := 181) h dX9_findsWays_181 7 rfl ?_
    refine T_if_eq (pc := 183) (tgt := 193) h dX9_findsWays_183 (by decide) ?_ ?_
    · refine T_sub [0, 1, 2, 3, 4, 5, 7] rfl ?_
      exact t_X9_findsWays_L193 h hs x0 x1 x2 x3 x4 (s.1) (s.2.2.1) (s.2.2.2.2) rec46 hr46 hk0
    · refine T_aload_n (pc := 186) h dX9_findsWays_186 rfl 0 rfl ?_
      refine T_iload_n (pc := 187) h dX9_findsWays_187 rfl 1 rfl ?_
      refine T_iload (pc := 188) h dX9_findsWays_188 5 rfl ?_
      refine T_callVv (pc := 190) h (M_X9_layWay (kl K) hs x0 x1 (s.1) (s.2.2.2.2) hk0) mv_X9_layWay hs hk0 ml_X9_204 rfl ⟨Nat.le_of_ble_eq_true rfl, Nat.le_of_ble_eq_true rfl⟩ ⟨Nat.le_refl 0, Nat.le_refl 0⟩ (Nat.le_of_ble_eq_true rfl) dX9_findsWays_190 rfl (fun _ s1 => ?_)
      refine T_sub [0, 1, 2, 3, 4, 5, 7] rfl ?_
      exact t_X9_findsWays_L193 h hs x0 x1 x2 x3 x4 (s.1) (s.2.2.1) s1 rec46 hr46 hk0
  · refine T_iload (pc := 90) h dX9_findsWays_90 6 rfl ?_
    refine T_aload_n (pc := 92) h dX9_findsWays_92 rfl 0 rfl ?_
    refine T_getI (pc := 93) h hs hk0 fl_X9_7 rfl dX9_findsWays_93 ?_
    refine T_irem (pc := 96) h dX9_findsWays_96 ?_
    refine T_letI fun v2 => ?_
    refine T_istore (lv' := [(9, .int v2), (0, .ref x0), (1, .int x1), (2, .int x2), (3, .int x3), (4, .int x4), (5, .int (s.1)), (6, .int (s.2.1)), (7, .int (s.2.2.1)), (8, .int (s.2.2.2.1))]) (pc := 97) h dX9_findsWays_97 (by decide) rfl ?_
    refine T_iload (pc := 99) h dX9_findsWays_99 6 rfl ?_
    refine T_iload (pc := 101) h dX9_findsWays_101 0 rfl ?_
    refine T_iconst (pc := 103) h dX9_findsWays_103 ki_3 ?_
    refine T_iload (pc := 104) h dX9_findsWays_104 9 rfl ?_
    refine T_imul (pc := 106) h dX9_findsWays_106 ?_
    refine T_ishl (pc := 107) h dX9_findsWays_107 ?_
    refine T_ior (pc := 108) h dX9_findsWays_108 ?_
    refine T_letI fun v3 => ?_
    refine T_istore (lv' := [(5, .int v3), (9, .int v2), (0, .ref x0), (1, .int x1), (2, .int x2), (3, .int x3), (4, .int x4), (6, .int (s.2.1)), (7, .int (s.2.2.1)), (8, .int (s.2.2.2.1))]) (pc := 109) h dX9_findsWays_109 (by decide) rfl ?_
    refine T_iload (pc := 111) h dX9_findsWays_111 7 rfl ?_
    refine T_aload_n (pc := 113) h dX9_findsWays_113 rfl 2 rfl ?_
    refine T_getI (pc := 114) h hs hk0 fl_X9_7 rfl dX9_findsWays_114 ?_
    refine T_idiv (pc := 117) h dX9_findsWays_117 ?_
    refine T_letI fun v4 => ?_
    refine T_istore (lv' := [(6, .int v4), (5, .int v3), (9, .int v2), (0, .ref x0), (1, .int x1), (2, .int x2), (3, .int x3), (4, .int x4), (7, .int (s.2.2.1)), (8, .int (s.2.2.2.1))]) (pc := 118) h dX9_findsWays_118 (by decide) rfl ?_
    refine T_iload (pc := 120) h dX9_findsWays_120 8 rfl ?_
    refine T_if_eq (pc := 122) (tgt := 172) h dX9_findsWays_122 (by decide) ?_ ?_
    · refine T_sub [3, 4, 5, 6, 7, 1, 0, 9] rfl ?_
      exact t_X9_findsWays_L172 h hs x0 x1 x2 x3 x4 v3 v4 (s.2.2.2.1) (s.2.2.2.2) rec46 hr46 rec85 hr85 hk0
    · refine T_iload (pc := 125) h dX9_findsWays_125 2 rfl ?_
      refine T_iload_n (pc := 127) h dX9_findsWays_127 rfl 5 rfl ?_
      refine T_icmp_eq (pc := 128) (tgt := 172) h dX9_findsWays_128 (by decide) ?_ ?_
      · refine T_sub [3, 4, 5, 6, 7, 1, 0, 9] rfl ?_
        exact t_X9_findsWays_L172 h hs x0 x1 x2 x3 x4 v3 v4 (s.2.2.2.1) (s.2.2.2.2) rec46 hr46 rec85 hr85 hk0
      · refine T_aload_n (pc := 131) h dX9_findsWays_131 rfl 3 rfl ?_
        refine T_aload_n (pc := 132) h dX9_findsWays_132 rfl 3 rfl ?_
        refine T_gR (pc := 133) h hs hk0 fl_X9_35 rfl fk_9_8 dX9_findsWays_133 (fun hq5 => ?_)
        refine T_aload_n (pc := 136) h dX9_findsWays_136 rfl 3 rfl ?_
        refine T_gR (pc := 137) h hs hk0 fl_X9_54 rfl fk_9_17 dX9_findsWays_137 (fun hq6 => ?_)
        refine T_bipush (pc := 140) h dX9_findsWays_140 kb_14 ?_
        refine T_iload_n (pc := 142) h dX9_findsWays_142 rfl 4 rfl ?_
        refine T_imul (pc := 143) h dX9_findsWays_143 ?_
        refine T_iload (pc := 144) h dX9_findsWays_144 9 rfl ?_
        refine T_iadd (pc := 146) h dX9_findsWays_146 ?_
        refine T_iald (pc := 147) h hs hq6 dX9_findsWays_147 ?_
        refine T_iald (pc := 148) h hs hq5 dX9_findsWays_148 ?_
        refine T_aload_n (pc := 149) h dX9_findsWays_149 rfl 3 rfl ?_
        refine T_getI (pc := 150) h hs hk0 fl_X9_163 rfl dX9_findsWays_150 ?_
        refine T_iadd (pc := 153) h dX9_findsWays_153 ?_
        refine T_aload_n (pc := 154) h dX9_findsWays_154 rfl 3 rfl ?_
        refine T_gR (pc := 155) h hs hk0 fl_X9_13 rfl fk_9_1 dX9_findsWays_155 (fun hq7 => ?_)
        refine T_iload (pc := 158) h dX9_findsWays_158 2 rfl ?_
        refine T_iald (pc := 160) h hs hq7 dX9_findsWays_160 ?_
        refine T_isub (pc := 161) h dX9_findsWays_161 ?_
        refine T_callVi (pc := 162) h (M_X9_isOnCourse (kl K) hs x0 (((gI (s.2.2.2.2) (gR (s.2.2.2.2) x0 8) (gI (s.2.2.2.2) (gR (s.2.2.2.2) x0 17) (((14 : Int32) * x1) + (s.2.2.2.1)).toNatClampNeg).toNatClampNeg) + (gI (s.2.2.2.2) x0 20)) - (gI (s.2.2.2.2) (gR (s.2.2.2.2) x0 1) v2.toNatClampNeg)) (s.2.2.2.2) hk0) mv_X9_isOnCourse hs hk0 ml_X9_197 rfl ⟨Nat.le_of_ble_eq_true rfl, Nat.le_of_ble_eq_true rfl⟩ ⟨Nat.le_refl 0, Nat.le_refl 0⟩ (Nat.le_of_ble_eq_true rfl) dX9_findsWays_162 rfl (fun r9 s8 => ?_)
        refine T_if_eq (pc := 165) (tgt := 172) h dX9_findsWays_165 (by decide) ?_ ?_
        · refine T_sub [3, 4, 5, 6, 7, 1, 0, 9] rfl ?_
          exact t_X9_findsWays_L172 h hs x0 x1 x2 x3 x4 v3 v4 (s.2.2.2.1) s8 rec46 hr46 rec85 hr85 hk0
        · refine T_iconst (pc := 168) h dX9_findsWays_168 ki_1 ?_
          refine T_goto (pc := 169) (tgt := 173) h dX9_findsWays_169 (by decide) ?_
          refine T_sub [3, 4, 5, 6, 7, 1, 0, 9] rfl ?_
          exact t_X9_findsWays_L173 h hs x0 x1 x2 x3 x4 v3 v4 (s.2.2.2.1) (1 : Int32) s8 rec46 hr46 rec85 hr85 hk0
theorem t_X9_findsWays_L267 {K : Cx} (h : Ok K cX9_findsWays RX9 10 rm_X9_findsWays none) (hs : kiv K = St)   (σ : Sg)    : T K (QV K) 267 [] [] 0 0 σ (f_X9_findsWays_L267 σ) := by
  unfold f_X9_findsWays_L267
  exact T_return (pc := 267) h (Nat.zero_le _) (Nat.zero_le _) dX9_findsWays_267
theorem t_X9_findsWays_L46 {K : Cx} (h : Ok K cX9_findsWays RX9 10 rm_X9_findsWays none) (hs : kiv K = St) (x0 : Nat) (x1 : Int32) (x2 : Int32) (x3 : Int32)  (hk0 : kd x0 9) (rec46 : Int32 × Sg → Option (Unit × Sg)) (hr46 : ∀ u, T K (QV K) 46 [(0, .ref x0), (1, .int x1), (2, .int x2), (3, .int x3), (4, .int (u.1))] [] 0 0 (u.2) (rec46 u)) (s : Int32 × Sg) : T K (QV K) 46 [(0, .ref x0), (1, .int x1), (2, .int x2), (3, .int x3), (4, .int (s.1))] [] 0 0 (s.2) (f_X9_findsWays_L46 x0 x1 x2 x3 rec46 s) := by
  unfold f_X9_findsWays_L46
  refine T_iload (pc := 46) h dX9_findsWays_46 4 rfl ?_
  refine T_iload_n (pc := 48) h dX9_findsWays_48 rfl 3 rfl ?_
  refine T_icmp_ge (pc := 49) (tgt := 267) h dX9_findsWays_49 (by decide) ?_ ?_
  · refine T_sub [] rfl ?_
    exact t_X9_findsWays_L267 h hs (s.2)
  · refine T_aload_n (pc := 52) h dX9_findsWays_52 rfl 0 rfl ?_
    refine T_gR (pc := 53) h hs hk0 fl_X9_57 rfl fk_9_18 dX9_findsWays_53 (fun hq1 => ?_)
    refine T_iload_n (pc := 56) h dX9_findsWays_56 rfl 1 rfl ?_
    refine T_iald (pc := 57) h hs hq1 dX9_findsWays_57 ?_
    refine T_aload_n (pc := 58) h dX9_findsWays_58 rfl 0 rfl ?_
    refine T_getI (pc := 59) h hs hk0 fl_X9_7 rfl dX9_findsWays_59 ?_
    refine T_icmp_gt (pc := 62) (tgt := 267) h dX9_findsWays_62 (by decide) ?_ ?_
    · refine T_sub [] rfl ?_
      exact t_X9_findsWays_L267 h hs (s.2)
    · refine T_iconst (pc := 65) h dX9_findsWays_65 ki_0 ?_
      refine T_istore (lv' := [(5, .int (0 : Int32)), (0, .ref x0), (1, .int x1), (2, .int x2), (3, .int x3), (4, .int (s.1))]) (pc := 66) h dX9_findsWays_66 (by decide) rfl ?_
      refine T_iload (pc := 68) h dX9_findsWays_68 5 rfl ?_
      refine T_letI fun v2 => ?_
      refine T_istore (lv' := [(6, .int v2), (5, .int (0 : Int32)), (0, .ref x0), (1, .int x1), (2, .int x2), (3, .int x3), (4, .int (s.1))]) (pc := 70) h dX9_findsWays_70 (by decide) rfl ?_
      refine T_iconst (pc := 72) h dX9_findsWays_72 ki_1 ?_
      refine T_istore (lv' := [(7, .int (1 : Int32)), (6, .int v2), (5, .int (0 : Int32)), (0, .ref x0), (1, .int x1), (2, .int x2), (3, .int x3), (4, .int (s.1))]) (pc := 73) h dX9_findsWays_73 (by decide) rfl ?_
      refine T_aload_n (pc := 75) h dX9_findsWays_75 rfl 3 rfl ?_
      refine T_gR (pc := 76) h hs hk0 fl_X9_57 rfl fk_9_18 dX9_findsWays_76 (fun hq3 => ?_)
      refine T_iload_n (pc := 79) h dX9_findsWays_79 rfl 4 rfl ?_
      refine T_iald (pc := 80) h hs hq3 dX9_findsWays_80 ?_
      refine T_iconst (pc := 81) h dX9_findsWays_81 ki_1 ?_
      refine T_isub (pc := 82) h dX9_findsWays_82 ?_
      refine T_letI fun v4 => ?_
      refine T_istore (lv' := [(8, .int v4), (7, .int (1 : Int32)), (6, .int v2), (5, .int (0 : Int32)), (0, .ref x0), (1, .int x1), (2, .int x2), (3, .int x3), (4, .int (s.1))]) (pc := 83) h dX9_findsWays_83 (by decide) rfl ?_
      refine T_sub [4, 5, 6, 7, 8, 3, 2, 1, 0] rfl ?_
      exact T_fx (B := f_X9_findsWays_L85 rec46 x0 x1 x2 x3 (s.1)) (fl := fun u => [(0, .ref x0), (1, .int x1), (2, .int x2), (3, .int x3), (4, .int (s.1)), (5, .int (u.1)), (6, .int (u.2.1)), (7, .int (u.2.2.1)), (8, .int (u.2.2.2.1))]) (f := fun u => (u.2.2.2.2)) (fun rec85 hr85 u => t_X9_findsWays_L85 h hs x0 x1 x2 x3 (s.1) rec46 hr46 hk0 rec85 hr85 u) FU ((0 : Int32), v2, (1 : Int32), v4, (s.2))
theorem t_X9_findsWays_L43 {K : Cx} (h : Ok K cX9_findsWays RX9 10 rm_X9_findsWays none) (hs : kiv K = St) (x0 : Nat) (x1 : Int32) (x2 : Int32) (x3 : Int32)  (σ : Sg)  (hk0 : kd x0 9)  : T K (QV K) 43 [(0, .ref x0), (1, .int x1), (2, .int x2), (3, .int x3)] [] 0 0 σ (f_X9_findsWays_L43 x0 x1 x2 x3 σ) := by
  unfold f_X9_findsWays_L43
  refine T_iconst (pc := 43) h dX9_findsWays_43 ki_0 ?_
  refine T_istore (lv' := [(4, .int (0 : Int32)), (0, .ref x0), (1, .int x1), (2, .int x2), (3, .int x3)]) (pc := 44) h dX9_findsWays_44 (by decide) rfl ?_
  refine T_sub [1, 2, 3, 4, 0] rfl ?_
  exact T_fx (B := f_X9_findsWays_L46 x0 x1 x2 x3) (fl := fun u => [(0, .ref x0), (1, .int x1), (2, .int x2), (3, .int x3), (4, .int (u.1))]) (f := fun u => (u.2)) (fun rec46 hr46 u => t_X9_findsWays_L46 h hs x0 x1 x2 x3 hk0 rec46 hr46 u) FU ((0 : Int32), σ)
theorem t_X9_findsWays_L12 {K : Cx} (h : Ok K cX9_findsWays RX9 10 rm_X9_findsWays none) (hs : kiv K = St) (x0 : Nat) (x1 : Int32) (x2 : Int32) (σ : Sg)  (hk0 : kd x0 9) (rec12 : Int32 × Int32 → Option (Unit × Sg)) (hr12 : ∀ u, T K (QV K) 12 [(0, .ref x0), (1, .int x1), (2, .int x2), (3, .int (u.1)), (4, .int (u.2))] [] 0 0 σ (rec12 u)) (s : Int32 × Int32) : T K (QV K) 12 [(0, .ref x0), (1, .int x1), (2, .int x2), (3, .int (s.1)), (4, .int (s.2))] [] 0 0 σ (f_X9_findsWays_L12 x0 x1 x2 σ rec12 s) := by
  unfold f_X9_findsWays_L12
  refine T_iload (pc := 12) h dX9_findsWays_12 4 rfl ?_
  refine T_aload_n (pc := 14) h dX9_findsWays_14 rfl 0 rfl ?_
  refine T_gR (pc := 15) h hs hk0 fl_X9_57 rfl fk_9_18 dX9_findsWays_15 (fun hq1 => ?_)
  refine T_iload_n (pc := 18) h dX9_findsWays_18 rfl 1 rfl ?_
  refine T_iald (pc := 19) h hs hq1 dX9_findsWays_19 ?_
  refine T_icmp_ge (pc := 20) (tgt := 43) h dX9_findsWays_20 (by decide) ?_ ?_
  · refine T_sub [0, 1, 2, 3] rfl ?_
    exact t_X9_findsWays_L43 h hs x0 x1 x2 (s.1) σ hk0
  · refine T_iload (pc := 23) h dX9_findsWays_23 4 rfl ?_
    refine T_bipush (pc := 25) h dX9_findsWays_25 kb_6 ?_
    refine T_icmp_ge (pc := 27) (tgt := 43) h dX9_findsWays_27 (by decide) ?_ ?_
    · refine T_sub [0, 1, 2, 3] rfl ?_
      exact t_X9_findsWays_L43 h hs x0 x1 x2 (s.1) σ hk0
    · refine T_iload_n (pc := 30) h dX9_findsWays_30 rfl 3 rfl ?_
      refine T_aload_n (pc := 31) h dX9_findsWays_31 rfl 0 rfl ?_
      refine T_getI (pc := 32) h hs hk0 fl_X9_7 rfl dX9_findsWays_32 ?_
      refine T_imul (pc := 35) h dX9_findsWays_35 ?_
      refine T_letI fun v2 => ?_
      refine T_istore_n (lv' := [(3, .int v2), (0, .ref x0), (1, .int x1), (2, .int x2), (4, .int (s.2))]) (pc := 36) h dX9_findsWays_36 rfl (by decide) rfl ?_
      refine T_iinc (fl := fun v3 => [(4, .int v3), (3, .int v2), (0, .ref x0), (1, .int x1), (2, .int x2)]) (pc := 37) h dX9_findsWays_37 4 rfl ki_1 (by decide) (fun _ => rfl) (fun v3 => ?_)
      refine T_goto (pc := 40) (tgt := 12) h dX9_findsWays_40 (by decide) ?_
      refine T_sub [2, 3, 4, 1, 0] rfl ?_
      exact hr12 (v2, v3)
theorem t_X9_findsWays {K : Cx} (h : Ok K cX9_findsWays RX9 10 rm_X9_findsWays none) (hs : kiv K = St) (x0 : Nat) (x1 : Int32) (x2 : Int32) (σ : Sg) (hk0 : kd x0 9) : T K (QV K) 0 [(0, .ref x0), (1, .int x1), (2, .int x2)] [] 0 0 σ (f_X9_findsWays x0 x1 x2 σ) := by
  unfold f_X9_findsWays
  refine T_aload_n (pc := 0) h dX9_findsWays_0 rfl 0 rfl ?_
  refine T_gR (pc := 1) h hs hk0 fl_X9_66 rfl fk_9_28 dX9_findsWays_1 (fun hq1 => ?_)
  refine T_iload_n (pc := 4) h dX9_findsWays_4 rfl 1 rfl ?_
  refine T_iconst (pc := 5) h dX9_findsWays_5 ki_0 ?_
  refine T_iast (pc := 6) h hs hq1 dX9_findsWays_6 ?_
  refine T_letS fun s2 => ?_
  refine T_iconst (pc := 7) h dX9_findsWays_7 ki_1 ?_
  refine T_istore_n (lv' := [(3, .int (1 : Int32)), (0, .ref x0), (1, .int x1), (2, .int x2)]) (pc := 8) h dX9_findsWays_8 rfl (by decide) rfl ?_
  refine T_iconst (pc := 9) h dX9_findsWays_9 ki_0 ?_
  refine T_istore (lv' := [(4, .int (0 : Int32)), (3, .int (1 : Int32)), (0, .ref x0), (1, .int x1), (2, .int x2)]) (pc := 10) h dX9_findsWays_10 (by decide) rfl ?_
  refine T_sub [2, 3, 4, 1, 0] rfl ?_
  exact T_fx (B := f_X9_findsWays_L12 x0 x1 x2 s2) (fl := fun u => [(0, .ref x0), (1, .int x1), (2, .int x2), (3, .int (u.1)), (4, .int (u.2))]) (f := fun u => s2) (fun rec12 hr12 u => t_X9_findsWays_L12 h hs x0 x1 x2 s2 hk0 rec12 hr12 u) FU ((1 : Int32), (0 : Int32))
theorem M_X9_findsWays (l : Launch) {iv : Sg → Prop} (hi : iv = St) (x0 : Nat) (x1 : Int32) (x2 : Int32) (σ : Sg) (hk0 : kd x0 9) : CTv l yX9_findsWays cX9_findsWays 10 none rm_X9_findsWays iv [.ref x0, .int x1, .int x2] σ (f_X9_findsWays x0 x1 x2 σ) := by
  subst hi
  exact CT_of (by decide) (Nat.le_of_ble_eq_true rfl) (fun K _ h _ hs _ _ => t_X9_findsWays h hs x0 x1 x2 σ hk0)
