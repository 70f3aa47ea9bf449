/-! LuteTabs$Hand.stretched()Z -/
theorem dX0_stretched_0 : decode cX0_stretched 0 = .ok (.aload_n 0, 1) := by decide +kernel
theorem dX0_stretched_1 : decode cX0_stretched 1 = .ok (.getfield 28, 3) := by decide +kernel
theorem dX0_stretched_4 : decode cX0_stretched 4 = .ok (.aload_n 0, 1) := by decide +kernel
theorem dX0_stretched_5 : decode cX0_stretched 5 = .ok (.getfield 17, 3) := by decide +kernel
theorem dX0_stretched_8 : decode cX0_stretched 8 = .ok (.isub, 1) := by decide +kernel
theorem dX0_stretched_9 : decode cX0_stretched 9 = .ok (.aload_n 0, 1) := by decide +kernel
theorem dX0_stretched_10 : decode cX0_stretched 10 = .ok (.getfield 7, 3) := by decide +kernel
theorem dX0_stretched_13 : decode cX0_stretched 13 = .ok (.getfield 86, 3) := by decide +kernel
theorem dX0_stretched_16 : decode cX0_stretched 16 = .ok (.iconst 1, 1) := by decide +kernel
theorem dX0_stretched_17 : decode cX0_stretched 17 = .ok (.iaload, 1) := by decide +kernel
theorem dX0_stretched_18 : decode cX0_stretched 18 = .ok (.if_icmp .le 7, 3) := by decide +kernel
theorem dX0_stretched_21 : decode cX0_stretched 21 = .ok (.iconst 1, 1) := by decide +kernel
theorem dX0_stretched_22 : decode cX0_stretched 22 = .ok (.goto 4, 3) := by decide +kernel
theorem dX0_stretched_25 : decode cX0_stretched 25 = .ok (.iconst 0, 1) := by decide +kernel
theorem dX0_stretched_26 : decode cX0_stretched 26 = .ok (.ireturn, 1) := by decide +kernel
abbrev rm_X0_stretched : Room := { frames := 0, cells := 0, slots := 0, locals := 0 }
def f_X0_stretched_L26   (y0 : Int32) (σ : Sg) : Option (Int32 × Sg) := ck (b01 y0) (some (y0, σ))
def f_X0_stretched (x0 : Nat) (σ : Sg) : Option (Int32 × Sg) := ck (inb (1 : Int32) (aL (gR σ (gR σ x0 0) 2))) ((if ((gI σ x0 6) - (gI σ x0 2)) ≤ (gI σ (gR σ (gR σ x0 0) 2) (1 : Int32).toNatClampNeg) then f_X0_stretched_L26 (0 : Int32) σ else f_X0_stretched_L26 (1 : Int32) σ))
theorem t_X0_stretched_L26 {K : Cx} (h : Ok K cX0_stretched RX0 1 rm_X0_stretched (some .boolean)) (hs : kiv K = St)  (y0 : Int32) (σ : Sg)    : T K (QI K) 26 [] [.int y0] 0 0 σ (f_X0_stretched_L26 y0 σ) := by
  unfold f_X0_stretched_L26
  exact T_zreturn (pc := 26) h (Nat.zero_le _) (Nat.zero_le _) dX0_stretched_26
theorem t_X0_stretched {K : Cx} (h : Ok K cX0_stretched RX0 1 rm_X0_stretched (some .boolean)) (hs : kiv K = St) (x0 : Nat) (σ : Sg) (hk0 : kd x0 0) : T K (QI K) 0 [(0, .ref x0)] [] 0 0 σ (f_X0_stretched x0 σ) := by
  unfold f_X0_stretched
  refine T_aload_n (pc := 0) h dX0_stretched_0 rfl 0 rfl ?_
  refine T_getI (pc := 1) h hs hk0 fl_X0_28 rfl dX0_stretched_1 ?_
  refine T_aload_n (pc := 4) h dX0_stretched_4 rfl 0 rfl ?_
  refine T_getI (pc := 5) h hs hk0 fl_X0_17 rfl dX0_stretched_5 ?_
  refine T_isub (pc := 8) h dX0_stretched_8 ?_
  refine T_aload_n (pc := 9) h dX0_stretched_9 rfl 0 rfl ?_
  refine T_gR (pc := 10) h hs hk0 fl_X0_7 rfl fk_0_0 dX0_stretched_10 (fun hq1 => ?_)
  refine T_gR (pc := 13) h hs hq1 fl_X0_86 rfl fk_1_2 dX0_stretched_13 (fun hq2 => ?_)
  refine T_iconst (pc := 16) h dX0_stretched_16 ki_1 ?_
  refine T_iald (pc := 17) h hs hq2 dX0_stretched_17 ?_
  refine T_icmp_le (pc := 18) (tgt := 25) h dX0_stretched_18 (by decide) ?_ ?_
  · refine T_iconst (pc := 25) h dX0_stretched_25 ki_0 ?_
    refine T_sub [] rfl ?_
    exact t_X0_stretched_L26 h hs (0 : Int32) σ
  · refine T_iconst (pc := 21) h dX0_stretched_21 ki_1 ?_
    refine T_goto (pc := 22) (tgt := 26) h dX0_stretched_22 (by decide) ?_
    refine T_sub [] rfl ?_
    exact t_X0_stretched_L26 h hs (1 : Int32) σ
theorem M_X0_stretched (l : Launch) {iv : Sg → Prop} (hi : iv = St) (x0 : Nat) (σ : Sg) (hk0 : kd x0 0) : CTi l yX0_stretched cX0_stretched 1 (some .boolean) rm_X0_stretched iv [.ref x0] σ (f_X0_stretched x0 σ) := by
  subst hi
  exact CT_of (by decide) (Nat.le_of_ble_eq_true rfl) (fun K _ h _ hs _ _ => t_X0_stretched h hs x0 σ hk0)
/-! LuteTabs$Hand.wrongs()I -/
theorem dX0_wrongs_0 : decode cX0_wrongs 0 = .ok (.aload_n 0, 1) := by decide +kernel
theorem dX0_wrongs_1 : decode cX0_wrongs 1 = .ok (.getfield 24, 3) := by decide +kernel
theorem dX0_wrongs_4 : decode cX0_wrongs 4 = .ok (.ifCond .eq 7, 3) := by decide +kernel
theorem dX0_wrongs_7 : decode cX0_wrongs 7 = .ok (.iconst 1, 1) := by decide +kernel
theorem dX0_wrongs_8 : decode cX0_wrongs 8 = .ok (.goto 4, 3) := by decide +kernel
theorem dX0_wrongs_11 : decode cX0_wrongs 11 = .ok (.iconst 0, 1) := by decide +kernel
theorem dX0_wrongs_12 : decode cX0_wrongs 12 = .ok (.aload_n 0, 1) := by decide +kernel
theorem dX0_wrongs_13 : decode cX0_wrongs 13 = .ok (.getfield 21, 3) := by decide +kernel
theorem dX0_wrongs_16 : decode cX0_wrongs 16 = .ok (.iconst 4, 1) := by decide +kernel
theorem dX0_wrongs_17 : decode cX0_wrongs 17 = .ok (.if_icmp .le 7, 3) := by decide +kernel
theorem dX0_wrongs_20 : decode cX0_wrongs 20 = .ok (.iconst 1, 1) := by decide +kernel
theorem dX0_wrongs_21 : decode cX0_wrongs 21 = .ok (.goto 4, 3) := by decide +kernel
theorem dX0_wrongs_24 : decode cX0_wrongs 24 = .ok (.iconst 0, 1) := by decide +kernel
theorem dX0_wrongs_25 : decode cX0_wrongs 25 = .ok (.iadd, 1) := by decide +kernel
theorem dX0_wrongs_26 : decode cX0_wrongs 26 = .ok (.aload_n 0, 1) := by decide +kernel
theorem dX0_wrongs_27 : decode cX0_wrongs 27 = .ok (.invokevirtual 89, 3) := by decide +kernel
theorem dX0_wrongs_30 : decode cX0_wrongs 30 = .ok (.ifCond .eq 7, 3) := by decide +kernel
theorem dX0_wrongs_33 : decode cX0_wrongs 33 = .ok (.iconst 1, 1) := by decide +kernel
theorem dX0_wrongs_34 : decode cX0_wrongs 34 = .ok (.goto 4, 3) := by decide +kernel
theorem dX0_wrongs_37 : decode cX0_wrongs 37 = .ok (.iconst 0, 1) := by decide +kernel
theorem dX0_wrongs_38 : decode cX0_wrongs 38 = .ok (.iadd, 1) := by decide +kernel
theorem dX0_wrongs_39 : decode cX0_wrongs 39 = .ok (.ireturn, 1) := by decide +kernel
abbrev rm_X0_wrongs : Room := { frames := 1, cells := 0, slots := 0, locals := 20 }
def f_X0_wrongs_L38   (y0 : Int32) (y1 : Int32) (σ : Sg) : Option (Int32 × Sg) := some ((y0 + y1), σ)
def f_X0_wrongs_L25  (x0 : Nat) (y0 : Int32) (y1 : Int32) (σ : Sg) : Option (Int32 × Sg) := bd (f_X0_stretched x0 σ) fun r2 s1 => (if r2 = 0 then f_X0_wrongs_L38 (y0 + y1) (0 : Int32) s1 else f_X0_wrongs_L38 (y0 + y1) (1 : Int32) s1)
def f_X0_wrongs_L12  (x0 : Nat) (y0 : Int32) (σ : Sg) : Option (Int32 × Sg) := (if (gI σ x0 3) ≤ (4 : Int32) then f_X0_wrongs_L25 x0 y0 (0 : Int32) σ else f_X0_wrongs_L25 x0 y0 (1 : Int32) σ)
def f_X0_wrongs (x0 : Nat) (σ : Sg) : Option (Int32 × Sg) := (if (gI σ x0 5) = 0 then f_X0_wrongs_L12 x0 (0 : Int32) σ else f_X0_wrongs_L12 x0 (1 : Int32) σ)
theorem t_X0_wrongs_L38 {K : Cx} (h : Ok K cX0_wrongs RX0 1 rm_X0_wrongs (some .int)) (hs : kiv K = St)  (y0 : Int32) (y1 : Int32) (σ : Sg)    : T K (QI K) 38 [] [.int y1, .int y0] 0 0 σ (f_X0_wrongs_L38 y0 y1 σ) := by
  unfold f_X0_wrongs_L38
  refine T_iadd (pc := 38) h dX0_wrongs_38 ?_
  exact T_ireturn (pc := 39) h (Nat.zero_le _) (Nat.zero_le _) dX0_wrongs_39
theorem t_X0_wrongs_L25 {K : Cx} (h : Ok K cX0_wrongs RX0 1 rm_X0_wrongs (some .int)) (hs : kiv K = St) (x0 : Nat) (y0 : Int32) (y1 : Int32) (σ : Sg)  (hk0 : kd x0 0)  : T K (QI K) 25 [(0, .ref x0)] [.int y1, .int y0] 0 0 σ (f_X0_wrongs_L25 x0 y0 y1 σ) := by
  unfold f_X0_wrongs_L25
  refine T_iadd (pc := 25) h dX0_wrongs_25 ?_
  refine T_aload_n (pc := 26) h dX0_wrongs_26 rfl 0 rfl ?_
  refine T_callVi (pc := 27) h (M_X0_stretched (kl K) hs x0 σ hk0) mv_X0_stretched hs hk0 ml_X0_89 rfl ⟨Nat.le_of_ble_eq_true rfl, Nat.le_of_ble_eq_true rfl⟩ ⟨Nat.le_refl 0, Nat.le_refl 0⟩ (Nat.le_of_ble_eq_true rfl) dX0_wrongs_27 rfl (fun r2 s1 => ?_)
  refine T_if_eq (pc := 30) (tgt := 37) h dX0_wrongs_30 (by decide) ?_ ?_
  · refine T_iconst (pc := 37) h dX0_wrongs_37 ki_0 ?_
    refine T_sub [] rfl ?_
    exact t_X0_wrongs_L38 h hs (y0 + y1) (0 : Int32) s1
  · refine T_iconst (pc := 33) h dX0_wrongs_33 ki_1 ?_
    refine T_goto (pc := 34) (tgt := 38) h dX0_wrongs_34 (by decide) ?_
    refine T_sub [] rfl ?_
    exact t_X0_wrongs_L38 h hs (y0 + y1) (1 : Int32) s1
theorem t_X0_wrongs_L12 {K : Cx} (h : Ok K cX0_wrongs RX0 1 rm_X0_wrongs (some .int)) (hs : kiv K = St) (x0 : Nat) (y0 : Int32) (σ : Sg)  (hk0 : kd x0 0)  : T K (QI K) 12 [(0, .ref x0)] [.int y0] 0 0 σ (f_X0_wrongs_L12 x0 y0 σ) := by
  unfold f_X0_wrongs_L12
  refine T_aload_n (pc := 12) h dX0_wrongs_12 rfl 0 rfl ?_
  refine T_getI (pc := 13) h hs hk0 fl_X0_21 rfl dX0_wrongs_13 ?_
  refine T_iconst (pc := 16) h dX0_wrongs_16 ki_4 ?_
  refine T_icmp_le (pc := 17) (tgt := 24) h dX0_wrongs_17 (by decide) ?_ ?_
  · refine T_iconst (pc := 24) h dX0_wrongs_24 ki_0 ?_
    refine T_sub [0] rfl ?_
    exact t_X0_wrongs_L25 h hs x0 y0 (0 : Int32) σ hk0
  · refine T_iconst (pc := 20) h dX0_wrongs_20 ki_1 ?_
    refine T_goto (pc := 21) (tgt := 25) h dX0_wrongs_21 (by decide) ?_
    refine T_sub [0] rfl ?_
    exact t_X0_wrongs_L25 h hs x0 y0 (1 : Int32) σ hk0
theorem t_X0_wrongs {K : Cx} (h : Ok K cX0_wrongs RX0 1 rm_X0_wrongs (some .int)) (hs : kiv K = St) (x0 : Nat) (σ : Sg) (hk0 : kd x0 0) : T K (QI K) 0 [(0, .ref x0)] [] 0 0 σ (f_X0_wrongs x0 σ) := by
  unfold f_X0_wrongs
  refine T_aload_n (pc := 0) h dX0_wrongs_0 rfl 0 rfl ?_
  refine T_getI (pc := 1) h hs hk0 fl_X0_24 rfl dX0_wrongs_1 ?_
  refine T_if_eq (pc := 4) (tgt := 11) h dX0_wrongs_4 (by decide) ?_ ?_
  · refine T_iconst (pc := 11) h dX0_wrongs_11 ki_0 ?_
    refine T_sub [0] rfl ?_
    exact t_X0_wrongs_L12 h hs x0 (0 : Int32) σ hk0
  · refine T_iconst (pc := 7) h dX0_wrongs_7 ki_1 ?_
    refine T_goto (pc := 8) (tgt := 12) h dX0_wrongs_8 (by decide) ?_
    refine T_sub [0] rfl ?_
    exact t_X0_wrongs_L12 h hs x0 (1 : Int32) σ hk0
theorem M_X0_wrongs (l : Launch) {iv : Sg → Prop} (hi : iv = St) (x0 : Nat) (σ : Sg) (hk0 : kd x0 0) : CTi l yX0_wrongs cX0_wrongs 1 (some .int) rm_X0_wrongs iv [.ref x0] σ (f_X0_wrongs x0 σ) := by
  subst hi
  exact CT_of (by decide) (Nat.le_of_ble_eq_true rfl) (fun K _ h _ hs _ _ => t_X0_wrongs h hs x0 σ hk0)
/-! LuteTabs$Lute.chargeOfShift(II)I -/
theorem dX1_chargeOfShift_0 : decode cX1_chargeOfShift 0 = .ok (.iload_n 1, 1) := by decide +kernel
theorem dX1_chargeOfShift_1 : decode cX1_chargeOfShift 1 = .ok (.ifCond .le 23, 3) := by decide +kernel
theorem dX1_chargeOfShift_4 : decode cX1_chargeOfShift 4 = .ok (.iload_n 2, 1) := by decide +kernel
theorem dX1_chargeOfShift_5 : decode cX1_chargeOfShift 5 = .ok (.ifCond .le 19, 3) := by decide +kernel
theorem dX1_chargeOfShift_8 : decode cX1_chargeOfShift 8 = .ok (.aload_n 0, 1) := by decide +kernel
theorem dX1_chargeOfShift_9 : decode cX1_chargeOfShift 9 = .ok (.getfield 17, 3) := by decide +kernel
theorem dX1_chargeOfShift_12 : decode cX1_chargeOfShift 12 = .ok (.iconst 2, 1) := by decide +kernel
theorem dX1_chargeOfShift_13 : decode cX1_chargeOfShift 13 = .ok (.iaload, 1) := by decide +kernel
theorem dX1_chargeOfShift_14 : decode cX1_chargeOfShift 14 = .ok (.iload_n 2, 1) := by decide +kernel
theorem dX1_chargeOfShift_15 : decode cX1_chargeOfShift 15 = .ok (.iload_n 1, 1) := by decide +kernel
theorem dX1_chargeOfShift_16 : decode cX1_chargeOfShift 16 = .ok (.isub, 1) := by decide +kernel
theorem dX1_chargeOfShift_17 : decode cX1_chargeOfShift 17 = .ok (.invokestatic 26, 3) := by decide +kernel
theorem dX1_chargeOfShift_20 : decode cX1_chargeOfShift 20 = .ok (.imul, 1) := by decide +kernel
theorem dX1_chargeOfShift_21 : decode cX1_chargeOfShift 21 = .ok (.goto 4, 3) := by decide +kernel
theorem dX1_chargeOfShift_24 : decode cX1_chargeOfShift 24 = .ok (.iconst 0, 1) := by decide +kernel
theorem dX1_chargeOfShift_25 : decode cX1_chargeOfShift 25 = .ok (.ireturn, 1) := by decide +kernel
abbrev rm_X1_chargeOfShift : Room := { frames := 1, cells := 0, slots := 0, locals := 23 }
def f_X1_chargeOfShift_L25   (y0 : Int32) (σ : Sg) : Option (Int32 × Sg) := some (y0, σ)
def f_X1_chargeOfShift_L24    (σ : Sg) : Option (Int32 × Sg) := f_X1_chargeOfShift_L25 (0 : Int32) σ
def f_X1_chargeOfShift (x0 : Nat) (x1 : Int32) (x2 : Int32) (σ : Sg) : Option (Int32 × Sg) := (if x1 ≤ 0 then f_X1_chargeOfShift_L24 σ else (if x2 ≤ 0 then f_X1_chargeOfShift_L24 σ else ck (inb (2 : Int32) (aL (gR σ x0 2))) (f_X1_chargeOfShift_L25 ((gI σ (gR σ x0 2) (2 : Int32).toNatClampNeg) * (abI (x2 - x1))) σ)))
theorem t_X1_chargeOfShift_L25 {K : Cx} (h : Ok K cX1_chargeOfShift RX1 3 rm_X1_chargeOfShift (some .int)) (hs : kiv K = St)  (y0 : Int32) (σ : Sg)    : T K (QI K) 25 [] [.int y0] 0 0 σ (f_X1_chargeOfShift_L25 y0 σ) := by
  unfold f_X1_chargeOfShift_L25
  exact T_ireturn (pc := 25) h (Nat.zero_le _) (Nat.zero_le _) dX1_chargeOfShift_25
theorem t_X1_chargeOfShift_L24 {K : Cx} (h : Ok K cX1_chargeOfShift RX1 3 rm_X1_chargeOfShift (some .int)) (hs : kiv K = St)   (σ : Sg)    : T K (QI K) 24 [] [] 0 0 σ (f_X1_chargeOfShift_L24 σ) := by
  unfold f_X1_chargeOfShift_L24
  refine T_iconst (pc := 24) h dX1_chargeOfShift_24 ki_0 ?_
  refine T_sub [] rfl ?_
  exact t_X1_chargeOfShift_L25 h hs (0 : Int32) σ
theorem t_X1_chargeOfShift {K : Cx} (h : Ok K cX1_chargeOfShift RX1 3 rm_X1_chargeOfShift (some .int)) (hs : kiv K = St) (x0 : Nat) (x1 : Int32) (x2 : Int32) (σ : Sg) (hk0 : kd x0 1) : T K (QI K) 0 [(0, .ref x0), (1, .int x1), (2, .int x2)] [] 0 0 σ (f_X1_chargeOfShift x0 x1 x2 σ) := by
  unfold f_X1_chargeOfShift
  refine T_iload_n (pc := 0) h dX1_chargeOfShift_0 rfl 1 rfl ?_
  refine T_if_le (pc := 1) (tgt := 24) h dX1_chargeOfShift_1 (by decide) ?_ ?_
  · refine T_sub [] rfl ?_
    exact t_X1_chargeOfShift_L24 h hs σ
  · refine T_iload_n (pc := 4) h dX1_chargeOfShift_4 rfl 2 rfl ?_
    refine T_if_le (pc := 5) (tgt := 24) h dX1_chargeOfShift_5 (by decide) ?_ ?_
    · refine T_sub [] rfl ?_
      exact t_X1_chargeOfShift_L24 h hs σ
    · refine T_aload_n (pc := 8) h dX1_chargeOfShift_8 rfl 0 rfl ?_
      refine T_gR (pc := 9) h hs hk0 fl_X1_17 rfl fk_1_2 dX1_chargeOfShift_9 (fun hq1 => ?_)
      refine T_iconst (pc := 12) h dX1_chargeOfShift_12 ki_2 ?_
      refine T_iald (pc := 13) h hs hq1 dX1_chargeOfShift_13 ?_
      refine T_iload_n (pc := 14) h dX1_chargeOfShift_14 rfl 2 rfl ?_
      refine T_iload_n (pc := 15) h dX1_chargeOfShift_15 rfl 1 rfl ?_
      refine T_isub (pc := 16) h dX1_chargeOfShift_16 ?_
      refine T_mabs (pc := 17) h ml_X1_26 mm_abs_s mm_i mm_abs_c ⟨Nat.le_of_ble_eq_true rfl, Nat.le_of_ble_eq_true rfl⟩ ⟨Nat.zero_le _, Nat.zero_le _⟩ (Nat.le_of_ble_eq_true rfl) dX1_chargeOfShift_17 ?_
      refine T_imul (pc := 20) h dX1_chargeOfShift_20 ?_
      refine T_goto (pc := 21) (tgt := 25) h dX1_chargeOfShift_21 (by decide) ?_
      refine T_sub [] rfl ?_
      exact t_X1_chargeOfShift_L25 h hs ((gI σ (gR σ x0 2) (2 : Int32).toNatClampNeg) * (abI (x2 - x1))) σ
theorem M_X1_chargeOfShift (l : Launch) {iv : Sg → Prop} (hi : iv = St) (x0 : Nat) (x1 : Int32) (x2 : Int32) (σ : Sg) (hk0 : kd x0 1) : CTi l yX1_chargeOfShift cX1_chargeOfShift 3 (some .int) rm_X1_chargeOfShift iv [.ref x0, .int x1, .int x2] σ (f_X1_chargeOfShift x0 x1 x2 σ) := by
  subst hi
  exact CT_of (by decide) (Nat.le_of_ble_eq_true rfl) (fun K _ h _ hs _ _ => t_X1_chargeOfShift h hs x0 x1 x2 σ hk0)
/-! LuteTabs$Hand.charge()I -/
theorem dX0_charge_0 : decode cX0_charge 0 = .ok (.aload_n 0, 1) := by decide +kernel
theorem dX0_charge_1 : decode cX0_charge 1 = .ok (.getfield 7, 3) := by decide +kernel
theorem dX0_charge_4 : decode cX0_charge 4 = .ok (.getfield 86, 3) := by decide +kernel
theorem dX0_charge_7 : decode cX0_charge 7 = .ok (.iconst 3, 1) := by decide +kernel
theorem dX0_charge_8 : decode cX0_charge 8 = .ok (.iaload, 1) := by decide +kernel
theorem dX0_charge_9 : decode cX0_charge 9 = .ok (.aload_n 0, 1) := by decide +kernel
theorem dX0_charge_10 : decode cX0_charge 10 = .ok (.getfield 31, 3) := by decide +kernel
theorem dX0_charge_13 : decode cX0_charge 13 = .ok (.imul, 1) := by decide +kernel
theorem dX0_charge_14 : decode cX0_charge 14 = .ok (.aload_n 0, 1) := by decide +kernel
theorem dX0_charge_15 : decode cX0_charge 15 = .ok (.getfield 68, 3) := by decide +kernel
theorem dX0_charge_18 : decode cX0_charge 18 = .ok (.ifCond .eq 15, 3) := by decide +kernel
theorem dX0_charge_21 : decode cX0_charge 21 = .ok (.aload_n 0, 1) := by decide +kernel
theorem dX0_charge_22 : decode cX0_charge 22 = .ok (.getfield 7, 3) := by decide +kernel
theorem dX0_charge_25 : decode cX0_charge 25 = .ok (.getfield 86, 3) := by decide +kernel
theorem dX0_charge_28 : decode cX0_charge 28 = .ok (.iconst 4, 1) := by decide +kernel
theorem dX0_charge_29 : decode cX0_charge 29 = .ok (.iaload, 1) := by decide +kernel
theorem dX0_charge_30 : decode cX0_charge 30 = .ok (.goto 4, 3) := by decide +kernel
theorem dX0_charge_33 : decode cX0_charge 33 = .ok (.iconst 0, 1) := by decide +kernel
theorem dX0_charge_34 : decode cX0_charge 34 = .ok (.iadd, 1) := by decide +kernel
theorem dX0_charge_35 : decode cX0_charge 35 = .ok (.ireturn, 1) := by decide +kernel
abbrev rm_X0_charge : Room := { frames := 0, cells := 0, slots := 0, locals := 0 }
def f_X0_charge_L34   (y0 : Int32) (y1 : Int32) (σ : Sg) : Option (Int32 × Sg) := some ((y0 + y1), σ)
def f_X0_charge (x0 : Nat) (σ : Sg) : Option (Int32 × Sg) := ck (inb (3 : Int32) (aL (gR σ (gR σ x0 0) 2))) ((if (gI σ x0 4) = 0 then f_X0_charge_L34 ((gI σ (gR σ (gR σ x0 0) 2) (3 : Int32).toNatClampNeg) * (gI σ x0 7)) (0 : Int32) σ else ck (inb (4 : Int32) (aL (gR σ (gR σ x0 0) 2))) (f_X0_charge_L34 ((gI σ (gR σ (gR σ x0 0) 2) (3 : Int32).toNatClampNeg) * (gI σ x0 7)) (gI σ (gR σ (gR σ x0 0) 2) (4 : Int32).toNatClampNeg) σ)))
theorem t_X0_charge_L34 {K : Cx} (h : Ok K cX0_charge RX0 1 rm_X0_charge (some .int)) (hs : kiv K = St)  (y0 : Int32) (y1 : Int32) (σ : Sg)    : T K (QI K) 34 [] [.int y1, .int y0] 0 0 σ (f_X0_charge_L34 y0 y1 σ) := by
  unfold f_X0_charge_L34
  refine T_iadd (pc := 34) h dX0_charge_34 ?_
  exact T_ireturn (pc := 35) h (Nat.zero_le _) (Nat.zero_le _) dX0_charge_35
theorem t_X0_charge {K : Cx} (h : Ok K cX0_charge RX0 1 rm_X0_charge (some .int)) (hs : kiv K = St) (x0 : Nat) (σ : Sg) (hk0 : kd x0 0) : T K (QI K) 0 [(0, .ref x0)] [] 0 0 σ (f_X0_charge x0 σ) := by
  unfold f_X0_charge
  refine T_aload_n (pc := 0) h dX0_charge_0 rfl 0 rfl ?_
  refine T_gR (pc := 1) h hs hk0 fl_X0_7 rfl fk_0_0 dX0_charge_1 (fun hq1 => ?_)
  refine T_gR (pc := 4) h hs hq1 fl_X0_86 rfl fk_1_2 dX0_charge_4 (fun hq2 => ?_)
  refine T_iconst (pc := 7) h dX0_charge_7 ki_3 ?_
  refine T_iald (pc := 8) h hs hq2 dX0_charge_8 ?_
  refine T_aload_n (pc := 9) h dX0_charge_9 rfl 0 rfl ?_
  refine T_getI (pc := 10) h hs hk0 fl_X0_31 rfl dX0_charge_10 ?_
  refine T_imul (pc := 13) h dX0_charge_13 ?_
  refine T_aload_n (pc := 14) h dX0_charge_14 rfl 0 rfl ?_
  refine T_getI (pc := 15) h hs hk0 fl_X0_68 rfl dX0_charge_15 ?_
  refine T_if_eq (pc := 18) (tgt := 33) h dX0_charge_18 (by decide) ?_ ?_
  · refine T_iconst (pc := 33) h dX0_charge_33 ki_0 ?_
    refine T_sub [] rfl ?_
    exact t_X0_charge_L34 h hs ((gI σ (gR σ (gR σ x0 0) 2) (3 : Int32).toNatClampNeg) * (gI σ x0 7)) (0 : Int32) σ
  · refine T_aload_n (pc := 21) h dX0_charge_21 rfl 0 rfl ?_
    refine T_gR (pc := 22) h hs hk0 fl_X0_7 rfl fk_0_0 dX0_charge_22 (fun hq3 => ?_)
    refine T_gR (pc := 25) h hs hq3 fl_X0_86 rfl fk_1_2 dX0_charge_25 (fun hq4 => ?_)
    refine T_iconst (pc := 28) h dX0_charge_28 ki_4 ?_
    refine T_iald (pc := 29) h hs hq4 dX0_charge_29 ?_
    refine T_goto (pc := 30) (tgt := 34) h dX0_charge_30 (by decide) ?_
    refine T_sub [] rfl ?_
    exact t_X0_charge_L34 h hs ((gI σ (gR σ (gR σ x0 0) 2) (3 : Int32).toNatClampNeg) * (gI σ x0 7)) (gI σ (gR σ (gR σ x0 0) 2) (4 : Int32).toNatClampNeg) σ
theorem M_X0_charge (l : Launch) {iv : Sg → Prop} (hi : iv = St) (x0 : Nat) (σ : Sg) (hk0 : kd x0 0) : CTi l yX0_charge cX0_charge 1 (some .int) rm_X0_charge iv [.ref x0] σ (f_X0_charge x0 σ) := by
  subst hi
  exact CT_of (by decide) (Nat.le_of_ble_eq_true rfl) (fun K _ h _ hs _ _ => t_X0_charge h hs x0 σ hk0)
/-! LuteTabs$Ways.leastBest()J -/
theorem dX7_leastBest_0 : decode cX7_leastBest 0 = .ok (.aload_n 0, 1) := by decide +kernel
theorem dX7_leastBest_1 : decode cX7_leastBest 1 = .ok (.getfield 20, 3) := by decide +kernel
theorem dX7_leastBest_4 : decode cX7_leastBest 4 = .ok (.iconst 0, 1) := by decide +kernel
theorem dX7_leastBest_5 : decode cX7_leastBest 5 = .ok (.laload, 1) := by decide +kernel
theorem dX7_leastBest_6 : decode cX7_leastBest 6 = .ok (.lstore_n 1, 1) := by decide +kernel
theorem dX7_leastBest_7 : decode cX7_leastBest 7 = .ok (.iconst 1, 1) := by decide +kernel
theorem dX7_leastBest_8 : decode cX7_leastBest 8 = .ok (.istore_n 3, 1) := by decide +kernel
theorem dX7_leastBest_9 : decode cX7_leastBest 9 = .ok (.iload_n 3, 1) := by decide +kernel
theorem dX7_leastBest_10 : decode cX7_leastBest 10 = .ok (.aload_n 0, 1) := by decide +kernel
theorem dX7_leastBest_11 : decode cX7_leastBest 11 = .ok (.getfield 23, 3) := by decide +kernel
theorem dX7_leastBest_14 : decode cX7_leastBest 14 = .ok (.if_icmp .ge 20, 3) := by decide +kernel
theorem dX7_leastBest_17 : decode cX7_leastBest 17 = .ok (.lload_n 1, 1) := by decide +kernel
theorem dX7_leastBest_18 : decode cX7_leastBest 18 = .ok (.aload_n 0, 1) := by decide +kernel
theorem dX7_leastBest_19 : decode cX7_leastBest 19 = .ok (.getfield 20, 3) := by decide +kernel
theorem dX7_leastBest_22 : decode cX7_leastBest 22 = .ok (.iload_n 3, 1) := by decide +kernel
theorem dX7_leastBest_23 : decode cX7_leastBest 23 = .ok (.laload, 1) := by decide +kernel
theorem dX7_leastBest_24 : decode cX7_leastBest 24 = .ok (.invokestatic 27, 3) := by decide +kernel
theorem dX7_leastBest_27 : decode cX7_leastBest 27 = .ok (.lstore_n 1, 1) := by decide +kernel
theorem dX7_leastBest_28 : decode cX7_leastBest 28 = .ok (.iinc 3 1, 3) := by decide +kernel
theorem dX7_leastBest_31 : decode cX7_leastBest 31 = .ok (.goto (-22), 3) := by decide +kernel
theorem dX7_leastBest_34 : decode cX7_leastBest 34 = .ok (.lload_n 1, 1) := by decide +kernel
theorem dX7_leastBest_35 : decode cX7_leastBest 35 = .ok (.lreturn, 1) := by decide +kernel
abbrev rm_X7_leastBest : Room := { frames := 1, cells := 0, slots := 0, locals := 23 }
def f_X7_leastBest_L9  (x0 : Nat) (rec9 : Int64 × Int32 × Sg → Option (Int64 × Sg)) (s : Int64 × Int32 × Sg) : Option (Int64 × Sg) := (if (gI (s.2.2) x0 4) ≤ (s.2.1) then some ((s.1), (s.2.2)) else ck (inb (s.2.1) (aL (gR (s.2.2) x0 3))) (lB ((mnL (s.1) (gL (s.2.2) (gR (s.2.2) x0 3) (s.2.1).toNatClampNeg))) fun v2 => lB ((s.2.1) + (1 : Int32)) fun v3 => rec9 (v2, v3, (s.2.2))))
def f_X7_leastBest (x0 : Nat) (σ : Sg) : Option (Int64 × Sg) := ck (inb (0 : Int32) (aL (gR σ x0 3))) (lB ((gL σ (gR σ x0 3) (0 : Int32).toNatClampNeg)) fun v2 => fx (f_X7_leastBest_L9 x0) FU (v2, (1 : Int32), σ))
theorem t_X7_leastBest_L9 {K : Cx} (h : Ok K cX7_leastBest RX7 4 rm_X7_leastBest (some .long)) (hs : kiv K = St) (x0 : Nat)  (hk0 : kd x0 7) (rec9 : Int64 × Int32 × Sg → Option (Int64 × Sg)) (hr9 : ∀ u, T K (QL K) 9 [(0, .ref x0), (1, .long (u.1)), (3, .int (u.2.1))] [] 0 0 (u.2.2) (rec9 u)) (s : Int64 × Int32 × Sg) : T K (QL K) 9 [(0, .ref x0), (1, .long (s.1)), (3, .int (s.2.1))] [] 0 0 (s.2.2) (f_X7_leastBest_L9 x0 rec9 s) := by
  unfold f_X7_leastBest_L9
  refine T_iload_n (pc := 9) h dX7_leastBest_9 rfl 2 rfl ?_
  refine T_aload_n (pc := 10) h dX7_leastBest_10 rfl 0 rfl ?_
  refine T_getI (pc := 11) h hs hk0 fl_X7_23 rfl dX7_leastBest_11 ?_
  refine T_icmp_ge (pc := 14) (tgt := 34) h dX7_leastBest_14 (by decide) ?_ ?_
  · refine T_lload_n (pc := 34) h dX7_leastBest_34 rfl 1 rfl ?_
    exact T_lreturn (pc := 35) h (Nat.zero_le _) (Nat.zero_le _) dX7_leastBest_35
  · refine T_lload_n (pc := 17) h dX7_leastBest_17 rfl 1 rfl ?_
    refine T_aload_n (pc := 18) h dX7_leastBest_18 rfl 0 rfl ?_
    refine T_gR (pc := 19) h hs hk0 fl_X7_20 rfl fk_7_3 dX7_leastBest_19 (fun hq1 => ?_)
    refine T_iload_n (pc := 22) h dX7_leastBest_22 rfl 2 rfl ?_
    refine T_lald (pc := 23) h hs hq1 dX7_leastBest_23 ?_
    refine T_mminL (pc := 24) h ml_X7_27 mm_minL_s mm_i mm_minL_c ⟨Nat.le_of_ble_eq_true rfl, Nat.le_of_ble_eq_true rfl⟩ ⟨Nat.zero_le _, Nat.zero_le _⟩ (Nat.le_of_ble_eq_true rfl) dX7_leastBest_24 ?_
    refine T_letL fun v2 => ?_
    refine T_lstore_n (lv' := [(1, .long v2), (0, .ref x0), (3, .int (s.2.1))]) (pc := 27) h dX7_leastBest_27 rfl (by decide) rfl ?_
    refine T_iinc (fl := fun v3 => [(3, .int v3), (1, .long v2), (0, .ref x0)]) (pc := 28) h dX7_leastBest_28 2 rfl ki_1 (by decide) (fun _ => rfl) (fun v3 => ?_)
    refine T_goto (pc := 31) (tgt := 9) h dX7_leastBest_31 (by decide) ?_
    refine T_sub [2, 1, 0] rfl ?_
    exact hr9 (v2, v3, (s.2.2))
theorem t_X7_leastBest {K : Cx} (h : Ok K cX7_leastBest RX7 4 rm_X7_leastBest (some .long)) (hs : kiv K = St) (x0 : Nat) (σ : Sg) (hk0 : kd x0 7) : T K (QL K) 0 [(0, .ref x0)] [] 0 0 σ (f_X7_leastBest x0 σ) := by
  unfold f_X7_leastBest
  refine T_aload_n (pc := 0) h dX7_leastBest_0 rfl 0 rfl ?_
  refine T_gR (pc := 1) h hs hk0 fl_X7_20 rfl fk_7_3 dX7_leastBest_1 (fun hq1 => ?_)
  refine T_iconst (pc := 4) h dX7_leastBest_4 ki_0 ?_
  refine T_lald (pc := 5) h hs hq1 dX7_leastBest_5 ?_
  refine T_letL fun v2 => ?_
  refine T_lstore_n (lv' := [(1, .long v2), (0, .ref x0)]) (pc := 6) h dX7_leastBest_6 rfl (by decide) rfl ?_
  refine T_iconst (pc := 7) h dX7_leastBest_7 ki_1 ?_
  refine T_istore_n (lv' := [(3, .int (1 : Int32)), (1, .long v2), (0, .ref x0)]) (pc := 8) h dX7_leastBest_8 rfl (by decide) rfl ?_
  refine T_sub [2, 1, 0] rfl ?_
  exact T_fx (B := f_X7_leastBest_L9 x0) (fl := fun u => [(0, .ref x0), (1, .long (u.1)), (3, .int (u.2.1))]) (f := fun u => (u.2.2)) (fun rec9 hr9 u => t_X7_leastBest_L9 h hs x0 hk0 rec9 hr9 u) FU (v2, (1 : Int32), σ)
theorem M_X7_leastBest (l : Launch) {iv : Sg → Prop} (hi : iv = St) (x0 : Nat) (σ : Sg) (hk0 : kd x0 7) : CTl l yX7_leastBest cX7_leastBest 4 (some .long) rm_X7_leastBest iv [.ref x0] σ (f_X7_leastBest x0 σ) := by
  subst hi
  exact CT_of (by decide) (Nat.le_of_ble_eq_true rfl) (fun K _ h _ hs _ _ => t_X7_leastBest h hs x0 σ hk0)
/-! LuteTabs$Notes.hasChord(I)Z -/
theorem dX2_hasChord_0 : decode cX2_hasChord 0 = .ok (.iload_n 1, 1) := by decide +kernel
theorem dX2_hasChord_1 : decode cX2_hasChord 1 = .ok (.ifCond .lt 15, 3) := by decide +kernel
theorem dX2_hasChord_4 : decode cX2_hasChord 4 = .ok (.iload_n 1, 1) := by decide +kernel
theorem dX2_hasChord_5 : decode cX2_hasChord 5 = .ok (.aload_n 0, 1) := by decide +kernel
theorem dX2_hasChord_6 : decode cX2_hasChord 6 = .ok (.getfield 32, 3) := by decide +kernel
theorem dX2_hasChord_9 : decode cX2_hasChord 9 = .ok (.if_icmp .ge 7, 3) := by decide +kernel
theorem dX2_hasChord_12 : decode cX2_hasChord 12 = .ok (.iconst 1, 1) := by decide +kernel
theorem dX2_hasChord_13 : decode cX2_hasChord 13 = .ok (.goto 4, 3) := by decide +kernel
theorem dX2_hasChord_16 : decode cX2_hasChord 16 = .ok (.iconst 0, 1) := by decide +kernel
theorem dX2_hasChord_17 : decode cX2_hasChord 17 = .ok (.ireturn, 1) := by decide +kernel
abbrev rm_X2_hasChord : Room := { frames := 0, cells := 0, slots := 0, locals := 0 }
def f_X2_hasChord_L17   (y0 : Int32) (σ : Sg) : Option (Int32 × Sg) := ck (b01 y0) (some (y0, σ))
def f_X2_hasChord_L16    (σ : Sg) : Option (Int32 × Sg) := f_X2_hasChord_L17 (0 : Int32) σ
def f_X2_hasChord (x0 : Nat) (x1 : Int32) (σ : Sg) : Option (Int32 × Sg) := (if x1 < 0 then f_X2_hasChord_L16 σ else (if (gI σ x0 7) ≤ x1 then f_X2_hasChord_L16 σ else f_X2_hasChord_L17 (1 : Int32) σ))
theorem t_X2_hasChord_L17 {K : Cx} (h : Ok K cX2_hasChord RX2 2 rm_X2_hasChord (some .boolean)) (hs : kiv K = St)  (y0 : Int32) (σ : Sg)    : T K (QI K) 17 [] [.int y0] 0 0 σ (f_X2_hasChord_L17 y0 σ) := by
  unfold f_X2_hasChord_L17
  exact T_zreturn (pc := 17) h (Nat.zero_le _) (Nat.zero_le _) dX2_hasChord_17
theorem t_X2_hasChord_L16 {K : Cx} (h : Ok K cX2_hasChord RX2 2 rm_X2_hasChord (some .boolean)) (hs : kiv K = St)   (σ : Sg)    : T K (QI K) 16 [] [] 0 0 σ (f_X2_hasChord_L16 σ) := by
  unfold f_X2_hasChord_L16
  refine T_iconst (pc := 16) h dX2_hasChord_16 ki_0 ?_
  refine T_sub [] rfl ?_
  exact t_X2_hasChord_L17 h hs (0 : Int32) σ
theorem t_X2_hasChord {K : Cx} (h : Ok K cX2_hasChord RX2 2 rm_X2_hasChord (some .boolean)) (hs : kiv K = St) (x0 : Nat) (x1 : Int32) (σ : Sg) (hk0 : kd x0 2) : T K (QI K) 0 [(0, .ref x0), (1, .int x1)] [] 0 0 σ (f_X2_hasChord x0 x1 σ) := by
  unfold f_X2_hasChord
  refine T_iload_n (pc := 0) h dX2_hasChord_0 rfl 1 rfl ?_
  refine T_if_lt (pc := 1) (tgt := 16) h dX2_hasChord_1 (by decide) ?_ ?_
  · refine T_sub [] rfl ?_
    exact t_X2_hasChord_L16 h hs σ
  · refine T_iload_n (pc := 4) h dX2_hasChord_4 rfl 1 rfl ?_
    refine T_aload_n (pc := 5) h dX2_hasChord_5 rfl 0 rfl ?_
    refine T_getI (pc := 6) h hs hk0 fl_X2_32 rfl dX2_hasChord_6 ?_
    refine T_icmp_ge (pc := 9) (tgt := 16) h dX2_hasChord_9 (by decide) ?_ ?_
    · refine T_sub [] rfl ?_
      exact t_X2_hasChord_L16 h hs σ
    · refine T_iconst (pc := 12) h dX2_hasChord_12 ki_1 ?_
      refine T_goto (pc := 13) (tgt := 17) h dX2_hasChord_13 (by decide) ?_
      refine T_sub [] rfl ?_
      exact t_X2_hasChord_L17 h hs (1 : Int32) σ
theorem M_X2_hasChord (l : Launch) {iv : Sg → Prop} (hi : iv = St) (x0 : Nat) (x1 : Int32) (σ : Sg) (hk0 : kd x0 2) : CTi l yX2_hasChord cX2_hasChord 2 (some .boolean) rm_X2_hasChord iv [.ref x0, .int x1] σ (f_X2_hasChord x0 x1 σ) := by
  subst hi
  exact CT_of (by decide) (Nat.le_of_ble_eq_true rfl) (fun K _ h _ hs _ _ => t_X2_hasChord h hs x0 x1 σ hk0)
/-! LuteTabs$Script.append(I)V -/
theorem dX4_append_0 : decode cX4_append 0 = .ok (.aload_n 0, 1) := by decide +kernel
theorem dX4_append_1 : decode cX4_append 1 = .ok (.getfield 7, 3) := by decide +kernel
theorem dX4_append_4 : decode cX4_append 4 = .ok (.aload_n 0, 1) := by decide +kernel
theorem dX4_append_5 : decode cX4_append 5 = .ok (.getfield 13, 3) := by decide +kernel
theorem dX4_append_8 : decode cX4_append 8 = .ok (.arraylength, 1) := by decide +kernel
theorem dX4_append_9 : decode cX4_append 9 = .ok (.if_icmp .ge 23, 3) := by decide +kernel
theorem dX4_append_12 : decode cX4_append 12 = .ok (.aload_n 0, 1) := by decide +kernel
theorem dX4_append_13 : decode cX4_append 13 = .ok (.getfield 13, 3) := by decide +kernel
theorem dX4_append_16 : decode cX4_append 16 = .ok (.aload_n 0, 1) := by decide +kernel
theorem dX4_append_17 : decode cX4_append 17 = .ok (.getfield 7, 3) := by decide +kernel
theorem dX4_append_20 : decode cX4_append 20 = .ok (.iload_n 1, 1) := by decide +kernel
theorem dX4_append_21 : decode cX4_append 21 = .ok (.iastore, 1) := by decide +kernel
theorem dX4_append_22 : decode cX4_append 22 = .ok (.aload_n 0, 1) := by decide +kernel
theorem dX4_append_23 : decode cX4_append 23 = .ok (.dup, 1) := by decide +kernel
theorem dX4_append_24 : decode cX4_append 24 = .ok (.getfield 7, 3) := by decide +kernel
theorem dX4_append_27 : decode cX4_append 27 = .ok (.iconst 1, 1) := by decide +kernel
theorem dX4_append_28 : decode cX4_append 28 = .ok (.iadd, 1) := by decide +kernel
theorem dX4_append_29 : decode cX4_append 29 = .ok (.putfield 7, 3) := by decide +kernel
theorem dX4_append_32 : decode cX4_append 32 = .ok (.return_, 1) := by decide +kernel
abbrev rm_X4_append : Room := { frames := 0, cells := 0, slots := 0, locals := 0 }
def f_X4_append_L32    (σ : Sg) : Option (Unit × Sg) := some ((), σ)
def f_X4_append (x0 : Nat) (x1 : Int32) (σ : Sg) : Option (Unit × Sg) := (if (Int32.ofNat (aL (gR σ x0 0))) ≤ (gI σ x0 1) then f_X4_append_L32 σ else ck (inb (gI σ x0 1) (aL (gR σ x0 0))) (lB (pI σ (gR σ x0 0) (gI σ x0 1).toNatClampNeg x1) fun s3 => lB (pI s3 x0 1 ((gI s3 x0 1) + (1 : Int32))) fun s4 => f_X4_append_L32 s4))
theorem t_X4_append_L32 {K : Cx} (h : Ok K cX4_append RX4 2 rm_X4_append none) (hs : kiv K = St)   (σ : Sg)    : T K (QV K) 32 [] [] 0 0 σ (f_X4_append_L32 σ) := by
  unfold f_X4_append_L32
  exact T_return (pc := 32) h (Nat.zero_le _) (Nat.zero_le _) dX4_append_32
theorem t_X4_append {K : Cx} (h : Ok K cX4_append RX4 2 rm_X4_append none) (hs : kiv K = St) (x0 : Nat) (x1 : Int32) (σ : Sg) (hk0 : kd x0 4) : T K (QV K) 0 [(0, .ref x0), (1, .int x1)] [] 0 0 σ (f_X4_append x0 x1 σ) := by
  unfold f_X4_append
  refine T_aload_n (pc := 0) h dX4_append_0 rfl 0 rfl ?_
  refine T_getI (pc := 1) h hs hk0 fl_X4_7 rfl dX4_append_1 ?_
  refine T_aload_n (pc := 4) h dX4_append_4 rfl 0 rfl ?_
  refine T_gR (pc := 5) h hs hk0 fl_X4_13 rfl fk_4_0 dX4_append_5 (fun hq1 => ?_)
  refine T_alen (c := 10) (pc := 8) h hs hq1 (by decide) dX4_append_8 ?_
  refine T_icmp_ge (pc := 9) (tgt := 32) h dX4_append_9 (by decide) ?_ ?_
  · refine T_sub [] rfl ?_
    exact t_X4_append_L32 h hs σ
  · refine T_aload_n (pc := 12) h dX4_append_12 rfl 0 rfl ?_
    refine T_gR (pc := 13) h hs hk0 fl_X4_13 rfl fk_4_0 dX4_append_13 (fun hq2 => ?_)
    refine T_aload_n (pc := 16) h dX4_append_16 rfl 0 rfl ?_
    refine T_getI (pc := 17) h hs hk0 fl_X4_7 rfl dX4_append_17 ?_
    refine T_iload_n (pc := 20) h dX4_append_20 rfl 1 rfl ?_
    refine T_iast (pc := 21) h hs hq2 dX4_append_21 ?_
    refine T_letS fun s3 => ?_
    refine T_aload_n (pc := 22) h dX4_append_22 rfl 0 rfl ?_
    refine T_dup (pc := 23) h dX4_append_23 rfl ?_
    refine T_getI (pc := 24) h hs hk0 fl_X4_7 rfl dX4_append_24 ?_
    refine T_iconst (pc := 27) h dX4_append_27 ki_1 ?_
    refine T_iadd (pc := 28) h dX4_append_28 ?_
    refine T_putI (pc := 29) h hs hk0 fl_X4_7 rfl rfl dX4_append_29 ?_
    refine T_letS fun s4 => ?_
    refine T_sub [] rfl ?_
    exact t_X4_append_L32 h hs s4
theorem M_X4_append (l : Launch) {iv : Sg → Prop} (hi : iv = St) (x0 : Nat) (x1 : Int32) (σ : Sg) (hk0 : kd x0 4) : CTv l yX4_append cX4_append 2 none rm_X4_append iv [.ref x0, .int x1] σ (f_X4_append x0 x1 σ) := by
  subst hi
  exact CT_of (by decide) (Nat.le_of_ble_eq_true rfl) (fun K _ h _ hs _ _ => t_X4_append h hs x0 x1 σ hk0)
/-! LuteTabs$Script.appendFigures(I)V -/
theorem dX4_appendFigures_0 : decode cX4_appendFigures 0 = .ok (.iload_n 1, 1) := by decide +kernel
theorem dX4_appendFigures_1 : decode cX4_appendFigures 1 = .ok (.bipush 100, 2) := by decide +kernel
theorem dX4_appendFigures_3 : decode cX4_appendFigures 3 = .ok (.if_icmp .lt 14, 3) := by decide +kernel
theorem dX4_appendFigures_6 : decode cX4_appendFigures 6 = .ok (.aload_n 0, 1) := by decide +kernel
theorem dX4_appendFigures_7 : decode cX4_appendFigures 7 = .ok (.bipush 48, 2) := by decide +kernel
theorem dX4_appendFigures_9 : decode cX4_appendFigures 9 = .ok (.iload_n 1, 1) := by decide +kernel
theorem dX4_appendFigures_10 : decode cX4_appendFigures 10 = .ok (.bipush 100, 2) := by decide +kernel
theorem dX4_appendFigures_12 : decode cX4_appendFigures 12 = .ok (.idiv, 1) := by decide +kernel
theorem dX4_appendFigures_13 : decode cX4_appendFigures 13 = .ok (.iadd, 1) := by decide +kernel
theorem dX4_appendFigures_14 : decode cX4_appendFigures 14 = .ok (.invokevirtual 17, 3) := by decide +kernel
theorem dX4_appendFigures_17 : decode cX4_appendFigures 17 = .ok (.iload_n 1, 1) := by decide +kernel
theorem dX4_appendFigures_18 : decode cX4_appendFigures 18 = .ok (.bipush 10, 2) := by decide +kernel
theorem dX4_appendFigures_20 : decode cX4_appendFigures 20 = .ok (.if_icmp .lt 17, 3) := by decide +kernel
theorem dX4_appendFigures_23 : decode cX4_appendFigures 23 = .ok (.aload_n 0, 1) := by decide +kernel
theorem dX4_appendFigures_24 : decode cX4_appendFigures 24 = .ok (.bipush 48, 2) := by decide +kernel
theorem dX4_appendFigures_26 : decode cX4_appendFigures 26 = .ok (.iload_n 1, 1) := by decide +kernel
theorem dX4_appendFigures_27 : decode cX4_appendFigures 27 = .ok (.bipush 10, 2) := by decide +kernel
theorem dX4_appendFigures_29 : decode cX4_appendFigures 29 = .ok (.idiv, 1) := by decide +kernel
theorem dX4_appendFigures_30 : decode cX4_appendFigures 30 = .ok (.bipush 10, 2) := by decide +kernel
theorem dX4_appendFigures_32 : decode cX4_appendFigures 32 = .ok (.irem, 1) := by decide +kernel
theorem dX4_appendFigures_33 : decode cX4_appendFigures 33 = .ok (.iadd, 1) := by decide +kernel
theorem dX4_appendFigures_34 : decode cX4_appendFigures 34 = .ok (.invokevirtual 17, 3) := by decide +kernel
theorem dX4_appendFigures_37 : decode cX4_appendFigures 37 = .ok (.aload_n 0, 1) := by decide +kernel
theorem dX4_appendFigures_38 : decode cX4_appendFigures 38 = .ok (.bipush 48, 2) := by decide +kernel
theorem dX4_appendFigures_40 : decode cX4_appendFigures 40 = .ok (.iload_n 1, 1) := by decide +kernel
theorem dX4_appendFigures_41 : decode cX4_appendFigures 41 = .ok (.bipush 10, 2) := by decide +kernel
theorem dX4_appendFigures_43 : decode cX4_appendFigures 43 = .ok (.irem, 1) := by decide +kernel
theorem dX4_appendFigures_44 : decode cX4_appendFigures 44 = .ok (.iadd, 1) := by decide +kernel
theorem dX4_appendFigures_45 : decode cX4_appendFigures 45 = .ok (.invokevirtual 17, 3) := by decide +kernel
theorem dX4_appendFigures_48 : decode cX4_appendFigures 48 = .ok (.return_, 1) := by decide +kernel
abbrev rm_X4_appendFigures : Room := { frames := 1, cells := 0, slots := 0, locals := 21 }
def f_X4_appendFigures_L37  (x0 : Nat) (x1 : Int32)  (σ : Sg) : Option (Unit × Sg) := ck (decide (¬ (10 : Int32) = 0)) (bd (f_X4_append x0 ((48 : Int32) + (x1 - x1 / (10 : Int32) * (10 : Int32))) σ) fun _ s1 => some ((), s1))
def f_X4_appendFigures_L17  (x0 : Nat) (x1 : Int32)  (σ : Sg) : Option (Unit × Sg) := (if x1 < (10 : Int32) then f_X4_appendFigures_L37 x0 x1 σ else ck (decide (¬ (10 : Int32) = 0)) (ck (decide (¬ (10 : Int32) = 0)) (bd (f_X4_append x0 ((48 : Int32) + ((x1 / (10 : Int32)) - (x1 / (10 : Int32)) / (10 : Int32) * (10 : Int32))) σ) fun _ s1 => f_X4_appendFigures_L37 x0 x1 s1)))
def f_X4_appendFigures (x0 : Nat) (x1 : Int32) (σ : Sg) : Option (Unit × Sg) := (if x1 < (100 : Int32) then f_X4_appendFigures_L17 x0 x1 σ else ck (decide (¬ (100 : Int32) = 0)) (bd (f_X4_append x0 ((48 : Int32) + (x1 / (100 : Int32))) σ) fun _ s1 => f_X4_appendFigures_L17 x0 x1 s1))
theorem t_X4_appendFigures_L37 {K : Cx} (h : Ok K cX4_appendFigures RX4 2 rm_X4_appendFigures none) (hs : kiv K = St) (x0 : Nat) (x1 : Int32)  (σ : Sg)  (hk0 : kd x0 4)  : T K (QV K) 37 [(0, .ref x0), (1, .int x1)] [] 0 0 σ (f_X4_appendFigures_L37 x0 x1 σ) := by
  unfold f_X4_appendFigures_L37
  refine T_aload_n (pc := 37) h dX4_appendFigures_37 rfl 0 rfl ?_
  refine T_bipush (pc := 38) h dX4_appendFigures_38 kb_48 ?_
  refine T_iload_n (pc := 40) h dX4_appendFigures_40 rfl 1 rfl ?_
  refine T_bipush (pc := 41) h dX4_appendFigures_41 kb_10 ?_
  refine T_irem (pc := 43) h dX4_appendFigures_43 ?_
  refine T_iadd (pc := 44) h dX4_appendFigures_44 ?_
  refine T_callVv (pc := 45) h (M_X4_append (kl K) hs x0 ((48 : Int32) + (x1 - x1 / (10 : Int32) * (10 : Int32))) σ hk0) mv_X4_append hs hk0 ml_X4_17 rfl ⟨Nat.le_of_ble_eq_true rfl, Nat.le_of_ble_eq_true rfl⟩ ⟨Nat.le_refl 0, Nat.le_refl 0⟩ (Nat.le_of_ble_eq_true rfl) dX4_appendFigures_45 rfl (fun _ s1 => ?_)
  exact T_return (pc := 48) h (Nat.zero_le _) (Nat.zero_le _) dX4_appendFigures_48
theorem t_X4_appendFigures_L17 {K : Cx} (h : Ok K cX4_appendFigures RX4 2 rm_X4_appendFigures none) (hs : kiv K = St) (x0 : Nat) (x1 : Int32)  (σ : Sg)  (hk0 : kd x0 4)  : T K (QV K) 17 [(0, .ref x0), (1, .int x1)] [] 0 0 σ (f_X4_appendFigures_L17 x0 x1 σ) := by
  unfold f_X4_appendFigures_L17
  refine T_iload_n (pc := 17) h dX4_appendFigures_17 rfl 1 rfl ?_
  refine T_bipush (pc := 18) h dX4_appendFigures_18 kb_10 ?_
  refine T_icmp_lt (pc := 20) (tgt := 37) h dX4_appendFigures_20 (by decide) ?_ ?_
  · refine T_sub [0, 1] rfl ?_
    exact t_X4_appendFigures_L37 h hs x0 x1 σ hk0
  · refine T_aload_n (pc := 23) h dX4_appendFigures_23 rfl 0 rfl ?_
    refine T_bipush (pc := 24) h dX4_appendFigures_24 kb_48 ?_
    refine T_iload_n (pc := 26) h dX4_appendFigures_26 rfl 1 rfl ?_
    refine T_bipush (pc := 27) h dX4_appendFigures_27 kb_10 ?_
    refine T_idiv (pc := 29) h dX4_appendFigures_29 ?_
    refine T_bipush (pc := 30) h dX4_appendFigures_30 kb_10 ?_
    refine T_irem (pc := 32) h dX4_appendFigures_32 ?_
    refine T_iadd (pc := 33) h dX4_appendFigures_33 ?_
    refine T_callVv (pc := 34) h (M_X4_append (kl K) hs x0 ((48 : Int32) + ((x1 / (10 : Int32)) - (x1 / (10 : Int32)) / (10 : Int32) * (10 : Int32))) σ hk0) mv_X4_append hs hk0 ml_X4_17 rfl ⟨Nat.le_of_ble_eq_true rfl, Nat.le_of_ble_eq_true rfl⟩ ⟨Nat.le_refl 0, Nat.le_refl 0⟩ (Nat.le_of_ble_eq_true rfl) dX4_appendFigures_34 rfl (fun _ s1 => ?_)
    refine T_sub [0, 1] rfl ?_
    exact t_X4_appendFigures_L37 h hs x0 x1 s1 hk0
theorem t_X4_appendFigures {K : Cx} (h : Ok K cX4_appendFigures RX4 2 rm_X4_appendFigures none) (hs : kiv K = St) (x0 : Nat) (x1 : Int32) (σ : Sg) (hk0 : kd x0 4) : T K (QV K) 0 [(0, .ref x0), (1, .int x1)] [] 0 0 σ (f_X4_appendFigures x0 x1 σ) := by
  unfold f_X4_appendFigures
  refine T_iload_n (pc := 0) h dX4_appendFigures_0 rfl 1 rfl ?_
  refine T_bipush (pc := 1) h dX4_appendFigures_1 kb_100 ?_
  refine T_icmp_lt (pc := 3) (tgt := 17) h dX4_appendFigures_3 (by decide) ?_ ?_
  · refine T_sub [0, 1] rfl ?_
    exact t_X4_appendFigures_L17 h hs x0 x1 σ hk0
  · refine T_aload_n (pc := 6) h dX4_appendFigures_6 rfl 0 rfl ?_
    refine T_bipush (pc := 7) h dX4_appendFigures_7 kb_48 ?_
    refine T_iload_n (pc := 9) h dX4_appendFigures_9 rfl 1 rfl ?_
    refine T_bipush (pc := 10) h dX4_appendFigures_10 kb_100 ?_
    refine T_idiv (pc := 12) h dX4_appendFigures_12 ?_
    refine T_iadd (pc := 13) h dX4_appendFigures_13 ?_
    refine T_callVv (pc := 14) h (M_X4_append (kl K) hs x0 ((48 : Int32) + (x1 / (100 : Int32))) σ hk0) mv_X4_append hs hk0 ml_X4_17 rfl ⟨Nat.le_of_ble_eq_true rfl, Nat.le_of_ble_eq_true rfl⟩ ⟨Nat.le_refl 0, Nat.le_refl 0⟩ (Nat.le_of_ble_eq_true rfl) dX4_appendFigures_14 rfl (fun _ s1 => ?_)
    refine T_sub [0, 1] rfl ?_
    exact t_X4_appendFigures_L17 h hs x0 x1 s1 hk0
theorem M_X4_appendFigures (l : Launch) {iv : Sg → Prop} (hi : iv = St) (x0 : Nat) (x1 : Int32) (σ : Sg) (hk0 : kd x0 4) : CTv l yX4_appendFigures cX4_appendFigures 2 none rm_X4_appendFigures iv [.ref x0, .int x1] σ (f_X4_appendFigures x0 x1 σ) := by
  subst hi
  exact CT_of (by decide) (Nat.le_of_ble_eq_true rfl) (fun K _ h _ hs _ _ => t_X4_appendFigures h hs x0 x1 σ hk0)
/-! LuteTabs$Sheet.isForm(I)Z -/
theorem dX6_isForm_0 : decode cX6_isForm 0 = .ok (.iload_n 0, 1) := by decide +kernel
theorem dX6_isForm_1 : decode cX6_isForm 1 = .ok (.ifCond .lt 12, 3) := by decide +kernel
theorem dX6_isForm_4 : decode cX6_isForm 4 = .ok (.iload_n 0, 1) := by decide +kernel
theorem dX6_isForm_5 : decode cX6_isForm 5 = .ok (.iconst 2, 1) := by decide +kernel
theorem dX6_isForm_6 : decode cX6_isForm 6 = .ok (.if_icmp .gt 7, 3) := by decide +kernel
theorem dX6_isForm_9 : decode cX6_isForm 9 = .ok (.iconst 1, 1) := by decide +kernel
theorem dX6_isForm_10 : decode cX6_isForm 10 = .ok (.goto 4, 3) := by decide +kernel
theorem dX6_isForm_13 : decode cX6_isForm 13 = .ok (.iconst 0, 1) := by decide +kernel
theorem dX6_isForm_14 : decode cX6_isForm 14 = .ok (.ireturn, 1) := by decide +kernel
abbrev rm_X6_isForm : Room := { frames := 0, cells := 0, slots := 0, locals := 0 }
def f_X6_isForm_L14   (y0 : Int32) (σ : Sg) : Option (Int32 × Sg) := ck (b01 y0) (some (y0, σ))
def f_X6_isForm_L13    (σ : Sg) : Option (Int32 × Sg) := f_X6_isForm_L14 (0 : Int32) σ
def f_X6_isForm (x0 : Int32) (σ : Sg) : Option (Int32 × Sg) := (if x0 < 0 then f_X6_isForm_L13 σ else (if (2 : Int32) < x0 then f_X6_isForm_L13 σ else f_X6_isForm_L14 (1 : Int32) σ))
theorem t_X6_isForm_L14 {K : Cx} (h : Ok K cX6_isForm RX6 1 rm_X6_isForm (some .boolean)) (hs : kiv K = St)  (y0 : Int32) (σ : Sg)    : T K (QI K) 14 [] [.int y0] 0 0 σ (f_X6_isForm_L14 y0 σ) := by
  unfold f_X6_isForm_L14
  exact T_zreturn (pc := 14) h (Nat.zero_le _) (Nat.zero_le _) dX6_isForm_14
theorem t_X6_isForm_L13 {K : Cx} (h : Ok K cX6_isForm RX6 1 rm_X6_isForm (some .boolean)) (hs : kiv K = St)   (σ : Sg)    : T K (QI K) 13 [] [] 0 0 σ (f_X6_isForm_L13 σ) := by
  unfold f_X6_isForm_L13
  refine T_iconst (pc := 13) h dX6_isForm_13 ki_0 ?_
  refine T_sub [] rfl ?_
  exact t_X6_isForm_L14 h hs (0 : Int32) σ
theorem t_X6_isForm {K : Cx} (h : Ok K cX6_isForm RX6 1 rm_X6_isForm (some .boolean)) (hs : kiv K = St) (x0 : Int32) (σ : Sg)  : T K (QI K) 0 [(0, .int x0)] [] 0 0 σ (f_X6_isForm x0 σ) := by
  unfold f_X6_isForm
  refine T_iload_n (pc := 0) h dX6_isForm_0 rfl 0 rfl ?_
  refine T_if_lt (pc := 1) (tgt := 13) h dX6_isForm_1 (by decide) ?_ ?_
  · refine T_sub [] rfl ?_
    exact t_X6_isForm_L13 h hs σ
  · refine T_iload_n (pc := 4) h dX6_isForm_4 rfl 0 rfl ?_
    refine T_iconst (pc := 5) h dX6_isForm_5 ki_2 ?_
    refine T_icmp_gt (pc := 6) (tgt := 13) h dX6_isForm_6 (by decide) ?_ ?_
    · refine T_sub [] rfl ?_
      exact t_X6_isForm_L13 h hs σ
    · refine T_iconst (pc := 9) h dX6_isForm_9 ki_1 ?_
      refine T_goto (pc := 10) (tgt := 14) h dX6_isForm_10 (by decide) ?_
      refine T_sub [] rfl ?_
      exact t_X6_isForm_L14 h hs (1 : Int32) σ
theorem M_X6_isForm (l : Launch) {iv : Sg → Prop} (hi : iv = St) (x0 : Int32) (σ : Sg)  : CTi l yX6_isForm cX6_isForm 1 (some .boolean) rm_X6_isForm iv [.int x0] σ (f_X6_isForm x0 σ) := by
  subst hi
  exact CT_of (by decide) (Nat.le_of_ble_eq_true rfl) (fun K _ h _ hs _ _ => t_X6_isForm h hs x0 σ )
/-! LuteTabs$Sheet.makeNew(II)V -/
theorem dX6_makeNew_0 : decode cX6_makeNew 0 = .ok (.aload_n 0, 1) := by decide +kernel
theorem dX6_makeNew_1 : decode cX6_makeNew 1 = .ok (.iconst 0, 1) := by decide +kernel
theorem dX6_makeNew_2 : decode cX6_makeNew 2 = .ok (.putfield 7, 3) := by decide +kernel
theorem dX6_makeNew_5 : decode cX6_makeNew 5 = .ok (.aload_n 0, 1) := by decide +kernel
theorem dX6_makeNew_6 : decode cX6_makeNew 6 = .ok (.iload_n 1, 1) := by decide +kernel
theorem dX6_makeNew_7 : decode cX6_makeNew 7 = .ok (.putfield 13, 3) := by decide +kernel
theorem dX6_makeNew_10 : decode cX6_makeNew 10 = .ok (.aload_n 0, 1) := by decide +kernel
theorem dX6_makeNew_11 : decode cX6_makeNew 11 = .ok (.iload_n 2, 1) := by decide +kernel
theorem dX6_makeNew_12 : decode cX6_makeNew 12 = .ok (.putfield 17, 3) := by decide +kernel
theorem dX6_makeNew_15 : decode cX6_makeNew 15 = .ok (.aload_n 0, 1) := by decide +kernel
theorem dX6_makeNew_16 : decode cX6_makeNew 16 = .ok (.getfield 20, 3) := by decide +kernel
theorem dX6_makeNew_19 : decode cX6_makeNew 19 = .ok (.lconst 0, 1) := by decide +kernel
theorem dX6_makeNew_20 : decode cX6_makeNew 20 = .ok (.invokestatic 24, 3) := by decide +kernel
theorem dX6_makeNew_23 : decode cX6_makeNew 23 = .ok (.return_, 1) := by decide +kernel
abbrev rm_X6_makeNew : Room := { frames := 1, cells := 0, slots := 0, locals := 24 }
def f_X6_makeNew (x0 : Nat) (x1 : Int32) (x2 : Int32) (σ : Sg) : Option (Unit × Sg) := ck (b01 (0 : Int32)) (lB (pI σ x0 0 (0 : Int32)) fun s1 => lB (pI s1 x0 1 x1) fun s2 => lB (pI s2 x0 2 x2) fun s3 => bd (f_J7_fill_d0a16 (gR s3 x0 3) (0 : Int64) s3) fun _ s5 => some ((), s5))
theorem t_X6_makeNew {K : Cx} (h : Ok K cX6_makeNew RX6 3 rm_X6_makeNew none) (hs : kiv K = St) (x0 : Nat) (x1 : Int32) (x2 : Int32) (σ : Sg) (hk0 : kd x0 6) : T K (QV K) 0 [(0, .ref x0), (1, .int x1), (2, .int x2)] [] 0 0 σ (f_X6_makeNew x0 x1 x2 σ) := by
  unfold f_X6_makeNew
  refine T_aload_n (pc := 0) h dX6_makeNew_0 rfl 0 rfl ?_
  refine T_iconst (pc := 1) h dX6_makeNew_1 ki_0 ?_
  refine T_putZ (pc := 2) h hs hk0 fl_X6_7 rfl rfl dX6_makeNew_2 ?_
  refine T_letS fun s1 => ?_
  refine T_aload_n (pc := 5) h dX6_makeNew_5 rfl 0 rfl ?_
  refine T_iload_n (pc := 6) h dX6_makeNew_6 rfl 1 rfl ?_
  refine T_putI (pc := 7) h hs hk0 fl_X6_13 rfl rfl dX6_makeNew_7 ?_
  refine T_letS fun s2 => ?_
  refine T_aload_n (pc := 10) h dX6_makeNew_10 rfl 0 rfl ?_
  refine T_iload_n (pc := 11) h dX6_makeNew_11 rfl 2 rfl ?_
  refine T_putI (pc := 12) h hs hk0 fl_X6_17 rfl rfl dX6_makeNew_12 ?_
  refine T_letS fun s3 => ?_
  refine T_aload_n (pc := 15) h dX6_makeNew_15 rfl 0 rfl ?_
  refine T_gR (pc := 16) h hs hk0 fl_X6_20 rfl fk_6_3 dX6_makeNew_16 (fun hq4 => ?_)
  refine T_lconst (pc := 19) h dX6_makeNew_19 kl_0 ?_
  refine T_callSv (pc := 20) h (M_J7_fill_d0a16 (kl K) hs (gR s3 x0 3) (0 : Int64) s3 hq4) mst_J7_fill_d0a16 ml_X6_24 rfl ⟨Nat.le_of_ble_eq_true rfl, Nat.le_of_ble_eq_true rfl⟩ ⟨Nat.le_refl 0, Nat.le_refl 0⟩ (Nat.le_of_ble_eq_true rfl) dX6_makeNew_20 rfl (fun _ s5 => ?_)
  exact T_return (pc := 23) h (Nat.zero_le _) (Nat.zero_le _) dX6_makeNew_23
theorem M_X6_makeNew (l : Launch) {iv : Sg → Prop} (hi : iv = St) (x0 : Nat) (x1 : Int32) (x2 : Int32) (σ : Sg) (hk0 : kd x0 6) : CTv l yX6_makeNew cX6_makeNew 3 none rm_X6_makeNew iv [.ref x0, .int x1, .int x2] σ (f_X6_makeNew x0 x1 x2 σ) := by
  subst hi
  exact CT_of (by decide) (Nat.le_of_ble_eq_true rfl) (fun K _ h _ hs _ _ => t_X6_makeNew h hs x0 x1 x2 σ hk0)
/-! LuteTabs$Sheet.has(I)Z -/
theorem dX6_has_0 : decode cX6_has 0 = .ok (.iload_n 1, 1) := by decide +kernel
theorem dX6_has_1 : decode cX6_has 1 = .ok (.ifCond .lt 15, 3) := by decide +kernel
theorem dX6_has_4 : decode cX6_has 4 = .ok (.iload_n 1, 1) := by decide +kernel
theorem dX6_has_5 : decode cX6_has 5 = .ok (.aload_n 0, 1) := by decide +kernel
theorem dX6_has_6 : decode cX6_has 6 = .ok (.getfield 17, 3) := by decide +kernel
theorem dX6_has_9 : decode cX6_has 9 = .ok (.if_icmp .ge 7, 3) := by decide +kernel
theorem dX6_has_12 : decode cX6_has 12 = .ok (.iconst 1, 1) := by decide +kernel
theorem dX6_has_13 : decode cX6_has 13 = .ok (.goto 4, 3) := by decide +kernel
theorem dX6_has_16 : decode cX6_has 16 = .ok (.iconst 0, 1) := by decide +kernel
theorem dX6_has_17 : decode cX6_has 17 = .ok (.ireturn, 1) := by decide +kernel
abbrev rm_X6_has : Room := { frames := 0, cells := 0, slots := 0, locals := 0 }
def f_X6_has_L17   (y0 : Int32) (σ : Sg) : Option (Int32 × Sg) := ck (b01 y0) (some (y0, σ))
def f_X6_has_L16    (σ : Sg) : Option (Int32 × Sg) := f_X6_has_L17 (0 : Int32) σ
def f_X6_has (x0 : Nat) (x1 : Int32) (σ : Sg) : Option (Int32 × Sg) := (if x1 < 0 then f_X6_has_L16 σ else (if (gI σ x0 2) ≤ x1 then f_X6_has_L16 σ else f_X6_has_L17 (1 : Int32) σ))
theorem t_X6_has_L17 {K : Cx} (h : Ok K cX6_has RX6 2 rm_X6_has (some .boolean)) (hs : kiv K = St)  (y0 : Int32) (σ : Sg)    : T K (QI K) 17 [] [.int y0] 0 0 σ (f_X6_has_L17 y0 σ) := by
  unfold f_X6_has_L17
  exact T_zreturn (pc := 17) h (Nat.zero_le _) (Nat.zero_le _) dX6_has_17
theorem t_X6_has_L16 {K : Cx} (h : Ok K cX6_has RX6 2 rm_X6_has (some .boolean)) (hs : kiv K = St)   (σ : Sg)    : T K (QI K) 16 [] [] 0 0 σ (f_X6_has_L16 σ) := by
  unfold f_X6_has_L16
  refine T_iconst (pc := 16) h dX6_has_16 ki_0 ?_
  refine T_sub [] rfl ?_
  exact t_X6_has_L17 h hs (0 : Int32) σ
theorem t_X6_has {K : Cx} (h : Ok K cX6_has RX6 2 rm_X6_has (some .boolean)) (hs : kiv K = St) (x0 : Nat) (x1 : Int32) (σ : Sg) (hk0 : kd x0 6) : T K (QI K) 0 [(0, .ref x0), (1, .int x1)] [] 0 0 σ (f_X6_has x0 x1 σ) := by
  unfold f_X6_has
  refine T_iload_n (pc := 0) h dX6_has_0 rfl 1 rfl ?_
  refine T_if_lt (pc := 1) (tgt := 16) h dX6_has_1 (by decide) ?_ ?_
  · refine T_sub [] rfl ?_
    exact t_X6_has_L16 h hs σ
  · refine T_iload_n (pc := 4) h dX6_has_4 rfl 1 rfl ?_
    refine T_aload_n (pc := 5) h dX6_has_5 rfl 0 rfl ?_
    refine T_getI (pc := 6) h hs hk0 fl_X6_17 rfl dX6_has_6 ?_
    refine T_icmp_ge (pc := 9) (tgt := 16) h dX6_has_9 (by decide) ?_ ?_
    · refine T_sub [] rfl ?_
      exact t_X6_has_L16 h hs σ
    · refine T_iconst (pc := 12) h dX6_has_12 ki_1 ?_
      refine T_goto (pc := 13) (tgt := 17) h dX6_has_13 (by decide) ?_
      refine T_sub [] rfl ?_
      exact t_X6_has_L17 h hs (1 : Int32) σ
theorem M_X6_has (l : Launch) {iv : Sg → Prop} (hi : iv = St) (x0 : Nat) (x1 : Int32) (σ : Sg) (hk0 : kd x0 6) : CTi l yX6_has cX6_has 2 (some .boolean) rm_X6_has iv [.ref x0, .int x1] σ (f_X6_has x0 x1 σ) := by
  subst hi
  exact CT_of (by decide) (Nat.le_of_ble_eq_true rfl) (fun K _ h _ hs _ _ => t_X6_has h hs x0 x1 σ hk0)
/-! LuteTabs$Sheet.store(IJ)V -/
theorem dX6_store_0 : decode cX6_store 0 = .ok (.aload_n 0, 1) := by decide +kernel
theorem dX6_store_1 : decode cX6_store 1 = .ok (.getfield 20, 3) := by decide +kernel
theorem dX6_store_4 : decode cX6_store 4 = .ok (.iload_n 1, 1) := by decide +kernel
theorem dX6_store_5 : decode cX6_store 5 = .ok (.aload_n 0, 1) := by decide +kernel
theorem dX6_store_6 : decode cX6_store 6 = .ok (.getfield 13, 3) := by decide +kernel
theorem dX6_store_9 : decode cX6_store 9 = .ok (.ifCond .ne 10, 3) := by decide +kernel
theorem dX6_store_12 : decode cX6_store 12 = .ok (.lload_n 2, 1) := by decide +kernel
theorem dX6_store_13 : decode cX6_store 13 = .ok (.l2i, 1) := by decide +kernel
theorem dX6_store_14 : decode cX6_store 14 = .ok (.i2b, 1) := by decide +kernel
theorem dX6_store_15 : decode cX6_store 15 = .ok (.i2l, 1) := by decide +kernel
theorem dX6_store_16 : decode cX6_store 16 = .ok (.goto 4, 3) := by decide +kernel
theorem dX6_store_19 : decode cX6_store 19 = .ok (.lload_n 2, 1) := by decide +kernel
theorem dX6_store_20 : decode cX6_store 20 = .ok (.lastore, 1) := by decide +kernel
theorem dX6_store_21 : decode cX6_store 21 = .ok (.return_, 1) := by decide +kernel
abbrev rm_X6_store : Room := { frames := 0, cells := 0, slots := 0, locals := 0 }
def f_X6_store_L20   (y0 : Nat) (y1 : Int32) (y2 : Int64) (σ : Sg) : Option (Unit × Sg) := ck (inb y1 (aL y0)) (lB (pL σ y0 y1.toNatClampNeg y2) fun s1 => some ((), s1))
def f_X6_store (x0 : Nat) (x1 : Int32) (x2 : Int64) (σ : Sg) : Option (Unit × Sg) := (if (gI σ x0 1) = 0 then f_X6_store_L20 (gR σ x0 3) x1 (((x2.toInt32).toInt8.toInt32).toInt64) σ else f_X6_store_L20 (gR σ x0 3) x1 x2 σ)
theorem t_X6_store_L20 {K : Cx} (h : Ok K cX6_store RX6 4 rm_X6_store none) (hs : kiv K = St)  (y0 : Nat) (y1 : Int32) (y2 : Int64) (σ : Sg)   (hy0 : kd y0 11) : T K (QV K) 20 [] [.long y2, .int y1, .ref y0] 0 0 σ (f_X6_store_L20 y0 y1 y2 σ) := by
  unfold f_X6_store_L20
  refine T_last (pc := 20) h hs hy0 dX6_store_20 ?_
  refine T_letS fun s1 => ?_
  exact T_return (pc := 21) h (Nat.zero_le _) (Nat.zero_le _) dX6_store_21
theorem t_X6_store {K : Cx} (h : Ok K cX6_store RX6 4 rm_X6_store none) (hs : kiv K = St) (x0 : Nat) (x1 : Int32) (x2 : Int64) (σ : Sg) (hk0 : kd x0 6) : T K (QV K) 0 [(0, .ref x0), (1, .int x1), (2, .long x2)] [] 0 0 σ (f_X6_store x0 x1 x2 σ) := by
  unfold f_X6_store
  refine T_aload_n (pc := 0) h dX6_store_0 rfl 0 rfl ?_
  refine T_gR (pc := 1) h hs hk0 fl_X6_20 rfl fk_6_3 dX6_store_1 (fun hq1 => ?_)
  refine T_iload_n (pc := 4) h dX6_store_4 rfl 1 rfl ?_
  refine T_aload_n (pc := 5) h dX6_store_5 rfl 0 rfl ?_
  refine T_getI (pc := 6) h hs hk0 fl_X6_13 rfl dX6_store_6 ?_
  refine T_if_ne (pc := 9) (tgt := 19) h dX6_store_9 (by decide) ?_ ?_
  · refine T_lload_n (pc := 19) h dX6_store_19 rfl 2 rfl ?_
    refine T_sub [] rfl ?_
    exact t_X6_store_L20 h hs (gR σ x0 3) x1 x2 σ hq1
  · refine T_lload_n (pc := 12) h dX6_store_12 rfl 2 rfl ?_
    refine T_l2i (pc := 13) h dX6_store_13 ?_
    refine T_i2b (pc := 14) h dX6_store_14 ?_
    refine T_i2l (pc := 15) h dX6_store_15 ?_
    refine T_goto (pc := 16) (tgt := 20) h dX6_store_16 (by decide) ?_
    refine T_sub [] rfl ?_
    exact t_X6_store_L20 h hs (gR σ x0 3) x1 (((x2.toInt32).toInt8.toInt32).toInt64) σ hq1
theorem M_X6_store (l : Launch) {iv : Sg → Prop} (hi : iv = St) (x0 : Nat) (x1 : Int32) (x2 : Int64) (σ : Sg) (hk0 : kd x0 6) : CTv l yX6_store cX6_store 4 none rm_X6_store iv [.ref x0, .int x1, .long x2] σ (f_X6_store x0 x1 x2 σ) := by
  subst hi
  exact CT_of (by decide) (Nat.le_of_ble_eq_true rfl) (fun K _ h _ hs _ _ => t_X6_store h hs x0 x1 x2 σ hk0)
