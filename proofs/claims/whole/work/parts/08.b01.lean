/-! LuteTabs$Lute.has(I)Z -/
theorem dX1_has_0 : decode cX1_has 0 = .ok (.iload_n 1, 1) := by decide +kernel
theorem dX1_has_1 : decode cX1_has 1 = .ok (.ifCond .lt 15, 3) := by decide +kernel
theorem dX1_has_4 : decode cX1_has 4 = .ok (.iload_n 1, 1) := by decide +kernel
theorem dX1_has_5 : decode cX1_has 5 = .ok (.aload_n 0, 1) := by decide +kernel
theorem dX1_has_6 : decode cX1_has 6 = .ok (.getfield 9, 3) := by decide +kernel
theorem dX1_has_9 : decode cX1_has 9 = .ok (.if_icmp .ge 7, 3) := by decide +kernel
theorem dX1_has_12 : decode cX1_has 12 = .ok (.iconst 1, 1) := by decide +kernel
theorem dX1_has_13 : decode cX1_has 13 = .ok (.goto 4, 3) := by decide +kernel
theorem dX1_has_16 : decode cX1_has 16 = .ok (.iconst 0, 1) := by decide +kernel
theorem dX1_has_17 : decode cX1_has 17 = .ok (.ireturn, 1) := by decide +kernel
abbrev rm_X1_has : Room := { frames := 0, cells := 0, slots := 0, locals := 0 }
def f_X1_has_L17   (y0 : Int32) (σ : Sg) : Option (Int32 × Sg) := ck (b01 y0) (some (y0, σ))
def f_X1_has_L16    (σ : Sg) : Option (Int32 × Sg) := f_X1_has_L17 (0 : Int32) σ
def f_X1_has (x0 : Nat) (x1 : Int32) (σ : Sg) : Option (Int32 × Sg) := (if x1 < 0 then f_X1_has_L16 σ else (if (gI σ x0 0) ≤ x1 then f_X1_has_L16 σ else f_X1_has_L17 (1 : Int32) σ))
theorem t_X1_has_L17 {K : Cx} (h : Ok K cX1_has RX1 2 rm_X1_has (some .boolean)) (hs : kiv K = St)  (y0 : Int32) (σ : Sg)    : T K (QI K) 17 [] [.int y0] 0 0 σ (f_X1_has_L17 y0 σ) := by
  unfold f_X1_has_L17
  exact T_zreturn (pc := 17) h (Nat.zero_le _) (Nat.zero_le _) dX1_has_17
theorem t_X1_has_L16 {K : Cx} (h : Ok K cX1_has RX1 2 rm_X1_has (some .boolean)) (hs : kiv K = St)   (σ : Sg)    : T K (QI K) 16 [] [] 0 0 σ (f_X1_has_L16 σ) := by
  unfold f_X1_has_L16
  refine T_iconst (pc := 16) h dX1_has_16 ki_0 ?_
  refine T_sub [] rfl ?_
  exact t_X1_has_L17 h hs (0 : Int32) σ
theorem t_X1_has {K : Cx} (h : Ok K cX1_has RX1 2 rm_X1_has (some .boolean)) (hs : kiv K = St) (x0 : Nat) (x1 : Int32) (σ : Sg) (hk0 : kd x0 1) : T K (QI K) 0 [(0, .ref x0), (1, .int x1)] [] 0 0 σ (f_X1_has x0 x1 σ) := by
  unfold f_X1_has
  refine T_iload_n (pc := 0) h dX1_has_0 rfl 1 rfl ?_
  refine T_if_lt (pc := 1) (tgt := 16) h dX1_has_1 (by decide) ?_ ?_
  · refine T_sub [] rfl ?_
    exact t_X1_has_L16 h hs σ
  · refine T_iload_n (pc := 4) h dX1_has_4 rfl 1 rfl ?_
    refine T_aload_n (pc := 5) h dX1_has_5 rfl 0 rfl ?_
    refine T_getI (pc := 6) h hs hk0 fl_X1_9 rfl dX1_has_6 ?_
    refine T_icmp_ge (pc := 9) (tgt := 16) h dX1_has_9 (by decide) ?_ ?_
    · refine T_sub [] rfl ?_
      exact t_X1_has_L16 h hs σ
    · refine T_iconst (pc := 12) h dX1_has_12 ki_1 ?_
      refine T_goto (pc := 13) (tgt := 17) h dX1_has_13 (by decide) ?_
      refine T_sub [] rfl ?_
      exact t_X1_has_L17 h hs (1 : Int32) σ
theorem M_X1_has (l : Launch) {iv : Sg → Prop} (hi : iv = St) (x0 : Nat) (x1 : Int32) (σ : Sg) (hk0 : kd x0 1) : CTi l yX1_has cX1_has 2 (some .boolean) rm_X1_has iv [.ref x0, .int x1] σ (f_X1_has x0 x1 σ) := by
  subst hi
  exact CT_of (by decide) (Nat.le_of_ble_eq_true rfl) (fun K _ h _ hs _ _ => t_X1_has h hs x0 x1 σ hk0)
/-! LuteTabs$Lute.mayBeSet(II)Z -/
theorem dX1_mayBeSet_0 : decode cX1_mayBeSet 0 = .ok (.iload_n 0, 1) := by decide +kernel
theorem dX1_mayBeSet_1 : decode cX1_mayBeSet 1 = .ok (.ifCond .lt 30, 3) := by decide +kernel
theorem dX1_mayBeSet_4 : decode cX1_mayBeSet 4 = .ok (.iload_n 0, 1) := by decide +kernel
theorem dX1_mayBeSet_5 : decode cX1_mayBeSet 5 = .ok (.iconst 4, 1) := by decide +kernel
theorem dX1_mayBeSet_6 : decode cX1_mayBeSet 6 = .ok (.if_icmp .gt 25, 3) := by decide +kernel
theorem dX1_mayBeSet_9 : decode cX1_mayBeSet 9 = .ok (.iload_n 1, 1) := by decide +kernel
theorem dX1_mayBeSet_10 : decode cX1_mayBeSet 10 = .ok (.getstatic 20, 3) := by decide +kernel
theorem dX1_mayBeSet_13 : decode cX1_mayBeSet 13 = .ok (.iload_n 0, 1) := by decide +kernel
theorem dX1_mayBeSet_14 : decode cX1_mayBeSet 14 = .ok (.iaload, 1) := by decide +kernel
theorem dX1_mayBeSet_15 : decode cX1_mayBeSet 15 = .ok (.if_icmp .lt 16, 3) := by decide +kernel
theorem dX1_mayBeSet_18 : decode cX1_mayBeSet 18 = .ok (.iload_n 1, 1) := by decide +kernel
theorem dX1_mayBeSet_19 : decode cX1_mayBeSet 19 = .ok (.getstatic 23, 3) := by decide +kernel
theorem dX1_mayBeSet_22 : decode cX1_mayBeSet 22 = .ok (.iload_n 0, 1) := by decide +kernel
theorem dX1_mayBeSet_23 : decode cX1_mayBeSet 23 = .ok (.iaload, 1) := by decide +kernel
theorem dX1_mayBeSet_24 : decode cX1_mayBeSet 24 = .ok (.if_icmp .gt 7, 3) := by decide +kernel
theorem dX1_mayBeSet_27 : decode cX1_mayBeSet 27 = .ok (.iconst 1, 1) := by decide +kernel
theorem dX1_mayBeSet_28 : decode cX1_mayBeSet 28 = .ok (.goto 4, 3) := by decide +kernel
theorem dX1_mayBeSet_31 : decode cX1_mayBeSet 31 = .ok (.iconst 0, 1) := by decide +kernel
theorem dX1_mayBeSet_32 : decode cX1_mayBeSet 32 = .ok (.ireturn, 1) := by decide +kernel
abbrev rm_X1_mayBeSet : Room := { frames := 0, cells := 0, slots := 0, locals := 0 }
def f_X1_mayBeSet_L32   (y0 : Int32) (σ : Sg) : Option (Int32 × Sg) := ck (b01 y0) (some (y0, σ))
def f_X1_mayBeSet_L31    (σ : Sg) : Option (Int32 × Sg) := f_X1_mayBeSet_L32 (0 : Int32) σ
def f_X1_mayBeSet (x0 : Int32) (x1 : Int32) (σ : Sg) : Option (Int32 × Sg) := (if x0 < 0 then f_X1_mayBeSet_L31 σ else (if (4 : Int32) < x0 then f_X1_mayBeSet_L31 σ else ck (inb x0 5) ((if x1 < (st1 x0) then f_X1_mayBeSet_L31 σ else ck (inb x0 5) ((if (st2 x0) < x1 then f_X1_mayBeSet_L31 σ else f_X1_mayBeSet_L32 (1 : Int32) σ))))))
theorem t_X1_mayBeSet_L32 {K : Cx} (h : Ok K cX1_mayBeSet RX1 2 rm_X1_mayBeSet (some .boolean)) (hs : kiv K = St)  (y0 : Int32) (σ : Sg)    : T K (QI K) 32 [] [.int y0] 0 0 σ (f_X1_mayBeSet_L32 y0 σ) := by
  unfold f_X1_mayBeSet_L32
  exact T_zreturn (pc := 32) h (Nat.zero_le _) (Nat.zero_le _) dX1_mayBeSet_32
theorem t_X1_mayBeSet_L31 {K : Cx} (h : Ok K cX1_mayBeSet RX1 2 rm_X1_mayBeSet (some .boolean)) (hs : kiv K = St)   (σ : Sg)    : T K (QI K) 31 [] [] 0 0 σ (f_X1_mayBeSet_L31 σ) := by
  unfold f_X1_mayBeSet_L31
  refine T_iconst (pc := 31) h dX1_mayBeSet_31 ki_0 ?_
  refine T_sub [] rfl ?_
  exact t_X1_mayBeSet_L32 h hs (0 : Int32) σ
theorem t_X1_mayBeSet {K : Cx} (h : Ok K cX1_mayBeSet RX1 2 rm_X1_mayBeSet (some .boolean)) (hs : kiv K = St) (x0 : Int32) (x1 : Int32) (σ : Sg)  : T K (QI K) 0 [(0, .int x0), (1, .int x1)] [] 0 0 σ (f_X1_mayBeSet x0 x1 σ) := by
  unfold f_X1_mayBeSet
  refine T_iload_n (pc := 0) h dX1_mayBeSet_0 rfl 0 rfl ?_
  refine T_if_lt (pc := 1) (tgt := 31) h dX1_mayBeSet_1 (by decide) ?_ ?_
  · refine T_sub [] rfl ?_
    exact t_X1_mayBeSet_L31 h hs σ
  · refine T_iload_n (pc := 4) h dX1_mayBeSet_4 rfl 0 rfl ?_
    refine T_iconst (pc := 5) h dX1_mayBeSet_5 ki_4 ?_
    refine T_icmp_gt (pc := 6) (tgt := 31) h dX1_mayBeSet_6 (by decide) ?_ ?_
    · refine T_sub [] rfl ?_
      exact t_X1_mayBeSet_L31 h hs σ
    · refine T_iload_n (pc := 9) h dX1_mayBeSet_9 rfl 1 rfl ?_
      refine T_gets1 (pc := 10) h (mw (i := 355) (by decide +kernel) (by decide +kernel)) dX1_mayBeSet_10 ?_
      refine T_iload_n (pc := 13) h dX1_mayBeSet_13 rfl 0 rfl ?_
      refine T_sald1 (pc := 14) h dX1_mayBeSet_14 ?_
      refine T_icmp_lt (pc := 15) (tgt := 31) h dX1_mayBeSet_15 (by decide) ?_ ?_
      · refine T_sub [] rfl ?_
        exact t_X1_mayBeSet_L31 h hs σ
      · refine T_iload_n (pc := 18) h dX1_mayBeSet_18 rfl 1 rfl ?_
        refine T_gets2 (pc := 19) h (mw (i := 357) (by decide +kernel) (by decide +kernel)) dX1_mayBeSet_19 ?_
        refine T_iload_n (pc := 22) h dX1_mayBeSet_22 rfl 0 rfl ?_
        refine T_sald2 (pc := 23) h dX1_mayBeSet_23 ?_
        refine T_icmp_gt (pc := 24) (tgt := 31) h dX1_mayBeSet_24 (by decide) ?_ ?_
        · refine T_sub [] rfl ?_
          exact t_X1_mayBeSet_L31 h hs σ
        · refine T_iconst (pc := 27) h dX1_mayBeSet_27 ki_1 ?_
          refine T_goto (pc := 28) (tgt := 32) h dX1_mayBeSet_28 (by decide) ?_
          refine T_sub [] rfl ?_
          exact t_X1_mayBeSet_L32 h hs (1 : Int32) σ
theorem M_X1_mayBeSet (l : Launch) {iv : Sg → Prop} (hi : iv = St) (x0 : Int32) (x1 : Int32) (σ : Sg)  : CTi l yX1_mayBeSet cX1_mayBeSet 2 (some .boolean) rm_X1_mayBeSet iv [.int x0, .int x1] σ (f_X1_mayBeSet x0 x1 σ) := by
  subst hi
  exact CT_of (by decide) (Nat.le_of_ble_eq_true rfl) (fun K _ h _ hs _ _ => t_X1_mayBeSet h hs x0 x1 σ )
/-! LuteTabs$Notes.mayBe(JJJ)Z -/
theorem dX2_mayBe_0 : decode cX2_mayBe 0 = .ok (.lload_n 0, 1) := by decide +kernel
theorem dX2_mayBe_1 : decode cX2_mayBe 1 = .ok (.lconst 0, 1) := by decide +kernel
theorem dX2_mayBe_2 : decode cX2_mayBe 2 = .ok (.lcmp, 1) := by decide +kernel
theorem dX2_mayBe_3 : decode cX2_mayBe 3 = .ok (.ifCond .lt 45, 3) := by decide +kernel
theorem dX2_mayBe_6 : decode cX2_mayBe 6 = .ok (.lload_n 0, 1) := by decide +kernel
theorem dX2_mayBe_7 : decode cX2_mayBe 7 = .ok (.ldc2_w 35, 3) := by decide +kernel
theorem dX2_mayBe_10 : decode cX2_mayBe 10 = .ok (.lcmp, 1) := by decide +kernel
theorem dX2_mayBe_11 : decode cX2_mayBe 11 = .ok (.ifCond .gt 37, 3) := by decide +kernel
theorem dX2_mayBe_14 : decode cX2_mayBe 14 = .ok (.lload_n 2, 1) := by decide +kernel
theorem dX2_mayBe_15 : decode cX2_mayBe 15 = .ok (.lconst 0, 1) := by decide +kernel
theorem dX2_mayBe_16 : decode cX2_mayBe 16 = .ok (.lcmp, 1) := by decide +kernel
theorem dX2_mayBe_17 : decode cX2_mayBe 17 = .ok (.ifCond .lt 31, 3) := by decide +kernel
theorem dX2_mayBe_20 : decode cX2_mayBe 20 = .ok (.lload_n 2, 1) := by decide +kernel
theorem dX2_mayBe_21 : decode cX2_mayBe 21 = .ok (.ldc2_w 37, 3) := by decide +kernel
theorem dX2_mayBe_24 : decode cX2_mayBe 24 = .ok (.lcmp, 1) := by decide +kernel
theorem dX2_mayBe_25 : decode cX2_mayBe 25 = .ok (.ifCond .gt 23, 3) := by decide +kernel
theorem dX2_mayBe_28 : decode cX2_mayBe 28 = .ok (.lload 4, 2) := by decide +kernel
theorem dX2_mayBe_30 : decode cX2_mayBe 30 = .ok (.lconst 1, 1) := by decide +kernel
theorem dX2_mayBe_31 : decode cX2_mayBe 31 = .ok (.lcmp, 1) := by decide +kernel
theorem dX2_mayBe_32 : decode cX2_mayBe 32 = .ok (.ifCond .lt 16, 3) := by decide +kernel
theorem dX2_mayBe_35 : decode cX2_mayBe 35 = .ok (.lload 4, 2) := by decide +kernel
theorem dX2_mayBe_37 : decode cX2_mayBe 37 = .ok (.ldc2_w 39, 3) := by decide +kernel
theorem dX2_mayBe_40 : decode cX2_mayBe 40 = .ok (.lcmp, 1) := by decide +kernel
theorem dX2_mayBe_41 : decode cX2_mayBe 41 = .ok (.ifCond .gt 7, 3) := by decide +kernel
theorem dX2_mayBe_44 : decode cX2_mayBe 44 = .ok (.iconst 1, 1) := by decide +kernel
theorem dX2_mayBe_45 : decode cX2_mayBe 45 = .ok (.goto 4, 3) := by decide +kernel
theorem dX2_mayBe_48 : decode cX2_mayBe 48 = .ok (.iconst 0, 1) := by decide +kernel
theorem dX2_mayBe_49 : decode cX2_mayBe 49 = .ok (.ireturn, 1) := by decide +kernel
abbrev rm_X2_mayBe : Room := { frames := 0, cells := 0, slots := 0, locals := 0 }
def f_X2_mayBe_L49   (y0 : Int32) (σ : Sg) : Option (Int32 × Sg) := ck (b01 y0) (some (y0, σ))
def f_X2_mayBe_L48    (σ : Sg) : Option (Int32 × Sg) := f_X2_mayBe_L49 (0 : Int32) σ
def f_X2_mayBe (x0 : Int64) (x2 : Int64) (x4 : Int64) (σ : Sg) : Option (Int32 × Sg) := (if (lg_cmp x0 (0 : Int64)) < 0 then f_X2_mayBe_L48 σ else (if 0 < (lg_cmp x0 (199 : Int64)) then f_X2_mayBe_L48 σ else (if (lg_cmp x2 (0 : Int64)) < 0 then f_X2_mayBe_L48 σ else (if 0 < (lg_cmp x2 (70 : Int64)) then f_X2_mayBe_L48 σ else (if (lg_cmp x4 (1 : Int64)) < 0 then f_X2_mayBe_L48 σ else (if 0 < (lg_cmp x4 (40 : Int64)) then f_X2_mayBe_L48 σ else f_X2_mayBe_L49 (1 : Int32) σ))))))
theorem t_X2_mayBe_L49 {K : Cx} (h : Ok K cX2_mayBe RX2 6 rm_X2_mayBe (some .boolean)) (hs : kiv K = St)  (y0 : Int32) (σ : Sg)    : T K (QI K) 49 [] [.int y0] 0 0 σ (f_X2_mayBe_L49 y0 σ) := by
  unfold f_X2_mayBe_L49
  exact T_zreturn (pc := 49) h (Nat.zero_le _) (Nat.zero_le _) dX2_mayBe_49
theorem t_X2_mayBe_L48 {K : Cx} (h : Ok K cX2_mayBe RX2 6 rm_X2_mayBe (some .boolean)) (hs : kiv K = St)   (σ : Sg)    : T K (QI K) 48 [] [] 0 0 σ (f_X2_mayBe_L48 σ) := by
  unfold f_X2_mayBe_L48
  refine T_iconst (pc := 48) h dX2_mayBe_48 ki_0 ?_
  refine T_sub [] rfl ?_
  exact t_X2_mayBe_L49 h hs (0 : Int32) σ
theorem t_X2_mayBe {K : Cx} (h : Ok K cX2_mayBe RX2 6 rm_X2_mayBe (some .boolean)) (hs : kiv K = St) (x0 : Int64) (x2 : Int64) (x4 : Int64) (σ : Sg)  : T K (QI K) 0 [(0, .long x0), (2, .long x2), (4, .long x4)] [] 0 0 σ (f_X2_mayBe x0 x2 x4 σ) := by
  unfold f_X2_mayBe
  refine T_lload_n (pc := 0) h dX2_mayBe_0 rfl 0 rfl ?_
  refine T_lconst (pc := 1) h dX2_mayBe_1 kl_0 ?_
  refine T_lcmp (pc := 2) h dX2_mayBe_2 ?_
  refine T_if_lt (pc := 3) (tgt := 48) h dX2_mayBe_3 (by decide) ?_ ?_
  · refine T_sub [] rfl ?_
    exact t_X2_mayBe_L48 h hs σ
  · refine T_lload_n (pc := 6) h dX2_mayBe_6 rfl 0 rfl ?_
    refine T_ldc2 (pc := 7) h kc_X2_35 dX2_mayBe_7 ?_
    refine T_lcmp (pc := 10) h dX2_mayBe_10 ?_
    refine T_if_gt (pc := 11) (tgt := 48) h dX2_mayBe_11 (by decide) ?_ ?_
    · refine T_sub [] rfl ?_
      exact t_X2_mayBe_L48 h hs σ
    · refine T_lload_n (pc := 14) h dX2_mayBe_14 rfl 1 rfl ?_
      refine T_lconst (pc := 15) h dX2_mayBe_15 kl_0 ?_
      refine T_lcmp (pc := 16) h dX2_mayBe_16 ?_
      refine T_if_lt (pc := 17) (tgt := 48) h dX2_mayBe_17 (by decide) ?_ ?_
      · refine T_sub [] rfl ?_
        exact t_X2_mayBe_L48 h hs σ
      · refine T_lload_n (pc := 20) h dX2_mayBe_20 rfl 1 rfl ?_
        refine T_ldc2 (pc := 21) h kc_X2_37 dX2_mayBe_21 ?_
        refine T_lcmp (pc := 24) h dX2_mayBe_24 ?_
        refine T_if_gt (pc := 25) (tgt := 48) h dX2_mayBe_25 (by decide) ?_ ?_
        · refine T_sub [] rfl ?_
          exact t_X2_mayBe_L48 h hs σ
        · refine T_lload (pc := 28) h dX2_mayBe_28 2 rfl ?_
          refine T_lconst (pc := 30) h dX2_mayBe_30 kl_1 ?_
          refine T_lcmp (pc := 31) h dX2_mayBe_31 ?_
          refine T_if_lt (pc := 32) (tgt := 48) h dX2_mayBe_32 (by decide) ?_ ?_
          · refine T_sub [] rfl ?_
            exact t_X2_mayBe_L48 h hs σ
          · refine T_lload (pc := 35) h dX2_mayBe_35 2 rfl ?_
            refine T_ldc2 (pc := 37) h kc_X2_39 dX2_mayBe_37 ?_
            refine T_lcmp (pc := 40) h dX2_mayBe_40 ?_
            refine T_if_gt (pc := 41) (tgt := 48) h dX2_mayBe_41 (by decide) ?_ ?_
            · refine T_sub [] rfl ?_
              exact t_X2_mayBe_L48 h hs σ
            · refine T_iconst (pc := 44) h dX2_mayBe_44 ki_1 ?_
              refine T_goto (pc := 45) (tgt := 49) h dX2_mayBe_45 (by decide) ?_
              refine T_sub [] rfl ?_
              exact t_X2_mayBe_L49 h hs (1 : Int32) σ
theorem M_X2_mayBe (l : Launch) {iv : Sg → Prop} (hi : iv = St) (x0 : Int64) (x2 : Int64) (x4 : Int64) (σ : Sg)  : CTi l yX2_mayBe cX2_mayBe 6 (some .boolean) rm_X2_mayBe iv [.long x0, .long x2, .long x4] σ (f_X2_mayBe x0 x2 x4 σ) := by
  subst hi
  exact CT_of (by decide) (Nat.le_of_ble_eq_true rfl) (fun K _ h _ hs _ _ => t_X2_mayBe h hs x0 x2 x4 σ )
/-! LuteTabs$Notes.hasRoomAt(I)Z -/
theorem dX2_hasRoomAt_0 : decode cX2_hasRoomAt 0 = .ok (.iconst 0, 1) := by decide +kernel
theorem dX2_hasRoomAt_1 : decode cX2_hasRoomAt 1 = .ok (.istore_n 2, 1) := by decide +kernel
theorem dX2_hasRoomAt_2 : decode cX2_hasRoomAt 2 = .ok (.iconst 0, 1) := by decide +kernel
theorem dX2_hasRoomAt_3 : decode cX2_hasRoomAt 3 = .ok (.istore_n 3, 1) := by decide +kernel
theorem dX2_hasRoomAt_4 : decode cX2_hasRoomAt 4 = .ok (.iload_n 3, 1) := by decide +kernel
theorem dX2_hasRoomAt_5 : decode cX2_hasRoomAt 5 = .ok (.aload_n 0, 1) := by decide +kernel
theorem dX2_hasRoomAt_6 : decode cX2_hasRoomAt 6 = .ok (.getfield 28, 3) := by decide +kernel
theorem dX2_hasRoomAt_9 : decode cX2_hasRoomAt 9 = .ok (.if_icmp .ge 22, 3) := by decide +kernel
theorem dX2_hasRoomAt_12 : decode cX2_hasRoomAt 12 = .ok (.aload_n 0, 1) := by decide +kernel
theorem dX2_hasRoomAt_13 : decode cX2_hasRoomAt 13 = .ok (.getfield 9, 3) := by decide +kernel
theorem dX2_hasRoomAt_16 : decode cX2_hasRoomAt 16 = .ok (.iload_n 3, 1) := by decide +kernel
theorem dX2_hasRoomAt_17 : decode cX2_hasRoomAt 17 = .ok (.iaload, 1) := by decide +kernel
theorem dX2_hasRoomAt_18 : decode cX2_hasRoomAt 18 = .ok (.iload_n 1, 1) := by decide +kernel
theorem dX2_hasRoomAt_19 : decode cX2_hasRoomAt 19 = .ok (.if_icmp .ne 6, 3) := by decide +kernel
theorem dX2_hasRoomAt_22 : decode cX2_hasRoomAt 22 = .ok (.iinc 2 1, 3) := by decide +kernel
theorem dX2_hasRoomAt_25 : decode cX2_hasRoomAt 25 = .ok (.iinc 3 1, 3) := by decide +kernel
theorem dX2_hasRoomAt_28 : decode cX2_hasRoomAt 28 = .ok (.goto (-24), 3) := by decide +kernel
theorem dX2_hasRoomAt_31 : decode cX2_hasRoomAt 31 = .ok (.aload_n 0, 1) := by decide +kernel
theorem dX2_hasRoomAt_32 : decode cX2_hasRoomAt 32 = .ok (.getfield 28, 3) := by decide +kernel
theorem dX2_hasRoomAt_35 : decode cX2_hasRoomAt 35 = .ok (.bipush 14, 2) := by decide +kernel
theorem dX2_hasRoomAt_37 : decode cX2_hasRoomAt 37 = .ok (.if_icmp .ge 12, 3) := by decide +kernel
theorem dX2_hasRoomAt_40 : decode cX2_hasRoomAt 40 = .ok (.iload_n 2, 1) := by decide +kernel
theorem dX2_hasRoomAt_41 : decode cX2_hasRoomAt 41 = .ok (.iconst 3, 1) := by decide +kernel
theorem dX2_hasRoomAt_42 : decode cX2_hasRoomAt 42 = .ok (.if_icmp .ge 7, 3) := by decide +kernel
theorem dX2_hasRoomAt_45 : decode cX2_hasRoomAt 45 = .ok (.iconst 1, 1) := by decide +kernel
theorem dX2_hasRoomAt_46 : decode cX2_hasRoomAt 46 = .ok (.goto 4, 3) := by decide +kernel
theorem dX2_hasRoomAt_49 : decode cX2_hasRoomAt 49 = .ok (.iconst 0, 1) := by decide +kernel
theorem dX2_hasRoomAt_50 : decode cX2_hasRoomAt 50 = .ok (.ireturn, 1) := by decide +kernel
abbrev rm_X2_hasRoomAt : Room := { frames := 0, cells := 0, slots := 0, locals := 0 }
def f_X2_hasRoomAt_L25 (rec4 : Int32 × Int32 → Option (Int32 × Sg)) (x0 : Nat) (x1 : Int32) (x2 : Int32) (x3 : Int32)  (σ : Sg) : Option (Int32 × Sg) := lB (x3 + (1 : Int32)) fun v1 => rec4 (x2, v1)
def f_X2_hasRoomAt_L50   (y0 : Int32) (σ : Sg) : Option (Int32 × Sg) := ck (b01 y0) (some (y0, σ))
def f_X2_hasRoomAt_L49    (σ : Sg) : Option (Int32 × Sg) := f_X2_hasRoomAt_L50 (0 : Int32) σ
def f_X2_hasRoomAt_L4  (x0 : Nat) (x1 : Int32) (σ : Sg) (rec4 : Int32 × Int32 → Option (Int32 × Sg)) (s : Int32 × Int32) : Option (Int32 × Sg) := (if (gI σ x0 6) ≤ (s.2) then (if (14 : Int32) ≤ (gI σ x0 6) then f_X2_hasRoomAt_L49 σ else (if (3 : Int32) ≤ (s.1) then f_X2_hasRoomAt_L49 σ else f_X2_hasRoomAt_L50 (1 : Int32) σ)) else ck (inb (s.2) (aL (gR σ x0 0))) ((if (gI σ (gR σ x0 0) (s.2).toNatClampNeg) = x1 then lB ((s.1) + (1 : Int32)) fun v2 => f_X2_hasRoomAt_L25 rec4 x0 x1 v2 (s.2) σ else f_X2_hasRoomAt_L25 rec4 x0 x1 (s.1) (s.2) σ)))
def f_X2_hasRoomAt (x0 : Nat) (x1 : Int32) (σ : Sg) : Option (Int32 × Sg) := fx (f_X2_hasRoomAt_L4 x0 x1 σ) FU ((0 : Int32), (0 : Int32))
theorem t_X2_hasRoomAt_L25 {K : Cx} (h : Ok K cX2_hasRoomAt RX2 4 rm_X2_hasRoomAt (some .boolean)) (hs : kiv K = St) (x0 : Nat) (x1 : Int32) (x2 : Int32) (x3 : Int32)  (σ : Sg) (rec4 : Int32 × Int32 → Option (Int32 × Sg)) (hr4 : ∀ u, T K (QI K) 4 [(0, .ref x0), (1, .int x1), (2, .int (u.1)), (3, .int (u.2))] [] 0 0 σ (rec4 u)) (hk0 : kd x0 2)  : T K (QI K) 25 [(0, .ref x0), (1, .int x1), (2, .int x2), (3, .int x3)] [] 0 0 σ (f_X2_hasRoomAt_L25 rec4 x0 x1 x2 x3 σ) := by
  unfold f_X2_hasRoomAt_L25
  refine T_iinc (fl := fun v1 => [(3, .int v1), (0, .ref x0), (1, .int x1), (2, .int x2)]) (pc := 25) h dX2_hasRoomAt_25 3 rfl ki_1 (by decide) (fun _ => rfl) (fun v1 => ?_)
  refine T_goto (pc := 28) (tgt := 4) h dX2_hasRoomAt_28 (by decide) ?_
  refine T_sub [1, 2, 3, 0] rfl ?_
  exact hr4 (x2, v1)
theorem t_X2_hasRoomAt_L50 {K : Cx} (h : Ok K cX2_hasRoomAt RX2 4 rm_X2_hasRoomAt (some .boolean)) (hs : kiv K = St)  (y0 : Int32) (σ : Sg)    : T K (QI K) 50 [] [.int y0] 0 0 σ (f_X2_hasRoomAt_L50 y0 σ) := by
  unfold f_X2_hasRoomAt_L50
  exact T_zreturn (pc := 50) h (Nat.zero_le _) (Nat.zero_le _) dX2_hasRoomAt_50
theorem t_X2_hasRoomAt_L49 {K : Cx} (h : Ok K cX2_hasRoomAt RX2 4 rm_X2_hasRoomAt (some .boolean)) (hs : kiv K = St)   (σ : Sg)    : T K (QI K) 49 [] [] 0 0 σ (f_X2_hasRoomAt_L49 σ) := by
  unfold f_X2_hasRoomAt_L49
  refine T_iconst (pc := 49) h dX2_hasRoomAt_49 ki_0 ?_
  refine T_sub [] rfl ?_
  exact t_X2_hasRoomAt_L50 h hs (0 : Int32) σ
theorem t_X2_hasRoomAt_L4 {K : Cx} (h : Ok K cX2_hasRoomAt RX2 4 rm_X2_hasRoomAt (some .boolean)) (hs : kiv K = St) (x0 : Nat) (x1 : Int32) (σ : Sg)  (hk0 : kd x0 2) (rec4 : Int32 × Int32 → Option (Int32 × Sg)) (hr4 : ∀ u, T K (QI K) 4 [(0, .ref x0), (1, .int x1), (2, .int (u.1)), (3, .int (u.2))] [] 0 0 σ (rec4 u)) (s : Int32 × Int32) : T K (QI K) 4 [(0, .ref x0), (1, .int x1), (2, .int (s.1)), (3, .int (s.2))] [] 0 0 σ (f_X2_hasRoomAt_L4 x0 x1 σ rec4 s) := by
  unfold f_X2_hasRoomAt_L4
  refine T_iload_n (pc := 4) h dX2_hasRoomAt_4 rfl 3 rfl ?_
  refine T_aload_n (pc := 5) h dX2_hasRoomAt_5 rfl 0 rfl ?_
  refine T_getI (pc := 6) h hs hk0 fl_X2_28 rfl dX2_hasRoomAt_6 ?_
  refine T_icmp_ge (pc := 9) (tgt := 31) h dX2_hasRoomAt_9 (by decide) ?_ ?_
  · refine T_aload_n (pc := 31) h dX2_hasRoomAt_31 rfl 0 rfl ?_
    refine T_getI (pc := 32) h hs hk0 fl_X2_28 rfl dX2_hasRoomAt_32 ?_
    refine T_bipush (pc := 35) h dX2_hasRoomAt_35 kb_14 ?_
    refine T_icmp_ge (pc := 37) (tgt := 49) h dX2_hasRoomAt_37 (by decide) ?_ ?_
    · refine T_sub [] rfl ?_
      exact t_X2_hasRoomAt_L49 h hs σ
    · refine T_iload_n (pc := 40) h dX2_hasRoomAt_40 rfl 2 rfl ?_
      refine T_iconst (pc := 41) h dX2_hasRoomAt_41 ki_3 ?_
      refine T_icmp_ge (pc := 42) (tgt := 49) h dX2_hasRoomAt_42 (by decide) ?_ ?_
      · refine T_sub [] rfl ?_
        exact t_X2_hasRoomAt_L49 h hs σ
      · refine T_iconst (pc := 45) h dX2_hasRoomAt_45 ki_1 ?_
        refine T_goto (pc := 46) (tgt := 50) h dX2_hasRoomAt_46 (by decide) ?_
        refine T_sub [] rfl ?_
        exact t_X2_hasRoomAt_L50 h hs (1 : Int32) σ
  · refine T_aload_n (pc := 12) h dX2_hasRoomAt_12 rfl 0 rfl ?_
    refine T_gR (pc := 13) h hs hk0 fl_X2_9 rfl fk_2_0 dX2_hasRoomAt_13 (fun hq1 => ?_)
    refine T_iload_n (pc := 16) h dX2_hasRoomAt_16 rfl 3 rfl ?_
    refine T_iald (pc := 17) h hs hq1 dX2_hasRoomAt_17 ?_
    refine T_iload_n (pc := 18) h dX2_hasRoomAt_18 rfl 1 rfl ?_
    refine T_icmp_ne (pc := 19) (tgt := 25) h dX2_hasRoomAt_19 (by decide) ?_ ?_
    · refine T_sub [0, 1, 2, 3] rfl ?_
      exact t_X2_hasRoomAt_L25 h hs x0 x1 (s.1) (s.2) σ rec4 hr4 hk0
    · refine T_iinc (fl := fun v2 => [(2, .int v2), (0, .ref x0), (1, .int x1), (3, .int (s.2))]) (pc := 22) h dX2_hasRoomAt_22 2 rfl ki_1 (by decide) (fun _ => rfl) (fun v2 => ?_)
      refine T_sub [1, 2, 0, 3] rfl ?_
      exact t_X2_hasRoomAt_L25 h hs x0 x1 v2 (s.2) σ rec4 hr4 hk0
theorem t_X2_hasRoomAt {K : Cx} (h : Ok K cX2_hasRoomAt RX2 4 rm_X2_hasRoomAt (some .boolean)) (hs : kiv K = St) (x0 : Nat) (x1 : Int32) (σ : Sg) (hk0 : kd x0 2) : T K (QI K) 0 [(0, .ref x0), (1, .int x1)] [] 0 0 σ (f_X2_hasRoomAt x0 x1 σ) := by
  unfold f_X2_hasRoomAt
  refine T_iconst (pc := 0) h dX2_hasRoomAt_0 ki_0 ?_
  refine T_istore_n (lv' := [(2, .int (0 : Int32)), (0, .ref x0), (1, .int x1)]) (pc := 1) h dX2_hasRoomAt_1 rfl (by decide) rfl ?_
  refine T_iconst (pc := 2) h dX2_hasRoomAt_2 ki_0 ?_
  refine T_istore_n (lv' := [(3, .int (0 : Int32)), (2, .int (0 : Int32)), (0, .ref x0), (1, .int x1)]) (pc := 3) h dX2_hasRoomAt_3 rfl (by decide) rfl ?_
  refine T_sub [2, 3, 1, 0] rfl ?_
  exact T_fx (B := f_X2_hasRoomAt_L4 x0 x1 σ) (fl := fun u => [(0, .ref x0), (1, .int x1), (2, .int (u.1)), (3, .int (u.2))]) (f := fun u => σ) (fun rec4 hr4 u => t_X2_hasRoomAt_L4 h hs x0 x1 σ hk0 rec4 hr4 u) FU ((0 : Int32), (0 : Int32))
theorem M_X2_hasRoomAt (l : Launch) {iv : Sg → Prop} (hi : iv = St) (x0 : Nat) (x1 : Int32) (σ : Sg) (hk0 : kd x0 2) : CTi l yX2_hasRoomAt cX2_hasRoomAt 4 (some .boolean) rm_X2_hasRoomAt iv [.ref x0, .int x1] σ (f_X2_hasRoomAt x0 x1 σ) := by
  subst hi
  exact CT_of (by decide) (Nat.le_of_ble_eq_true rfl) (fun K _ h _ hs _ _ => t_X2_hasRoomAt h hs x0 x1 σ hk0)
/-! LuteTabs$Notes.move(II)V -/
theorem dX2_move_0 : decode cX2_move 0 = .ok (.aload_n 0, 1) := by decide +kernel
theorem dX2_move_1 : decode cX2_move 1 = .ok (.getfield 9, 3) := by decide +kernel
theorem dX2_move_4 : decode cX2_move 4 = .ok (.iload_n 2, 1) := by decide +kernel
theorem dX2_move_5 : decode cX2_move 5 = .ok (.aload_n 0, 1) := by decide +kernel
theorem dX2_move_6 : decode cX2_move 6 = .ok (.getfield 9, 3) := by decide +kernel
theorem dX2_move_9 : decode cX2_move 9 = .ok (.iload_n 1, 1) := by decide +kernel
theorem dX2_move_10 : decode cX2_move 10 = .ok (.iaload, 1) := by decide +kernel
theorem dX2_move_11 : decode cX2_move 11 = .ok (.iastore, 1) := by decide +kernel
theorem dX2_move_12 : decode cX2_move 12 = .ok (.aload_n 0, 1) := by decide +kernel
theorem dX2_move_13 : decode cX2_move 13 = .ok (.getfield 13, 3) := by decide +kernel
theorem dX2_move_16 : decode cX2_move 16 = .ok (.iload_n 2, 1) := by decide +kernel
theorem dX2_move_17 : decode cX2_move 17 = .ok (.aload_n 0, 1) := by decide +kernel
theorem dX2_move_18 : decode cX2_move 18 = .ok (.getfield 13, 3) := by decide +kernel
theorem dX2_move_21 : decode cX2_move 21 = .ok (.iload_n 1, 1) := by decide +kernel
theorem dX2_move_22 : decode cX2_move 22 = .ok (.iaload, 1) := by decide +kernel
theorem dX2_move_23 : decode cX2_move 23 = .ok (.iastore, 1) := by decide +kernel
theorem dX2_move_24 : decode cX2_move 24 = .ok (.aload_n 0, 1) := by decide +kernel
theorem dX2_move_25 : decode cX2_move 25 = .ok (.getfield 16, 3) := by decide +kernel
theorem dX2_move_28 : decode cX2_move 28 = .ok (.iload_n 2, 1) := by decide +kernel
theorem dX2_move_29 : decode cX2_move 29 = .ok (.aload_n 0, 1) := by decide +kernel
theorem dX2_move_30 : decode cX2_move 30 = .ok (.getfield 16, 3) := by decide +kernel
theorem dX2_move_33 : decode cX2_move 33 = .ok (.iload_n 1, 1) := by decide +kernel
theorem dX2_move_34 : decode cX2_move 34 = .ok (.iaload, 1) := by decide +kernel
theorem dX2_move_35 : decode cX2_move 35 = .ok (.iastore, 1) := by decide +kernel
theorem dX2_move_36 : decode cX2_move 36 = .ok (.return_, 1) := by decide +kernel
abbrev rm_X2_move : Room := { frames := 0, cells := 0, slots := 0, locals := 0 }
def f_X2_move (x0 : Nat) (x1 : Int32) (x2 : Int32) (σ : Sg) : Option (Unit × Sg) := ck (inb x1 (aL (gR σ x0 0))) (ck (inb x2 (aL (gR σ x0 0))) (lB (pI σ (gR σ x0 0) x2.toNatClampNeg (gI σ (gR σ x0 0) x1.toNatClampNeg)) fun s3 => ck (inb x1 (aL (gR s3 x0 1))) (ck (inb x2 (aL (gR s3 x0 1))) (lB (pI s3 (gR s3 x0 1) x2.toNatClampNeg (gI s3 (gR s3 x0 1) x1.toNatClampNeg)) fun s6 => ck (inb x1 (aL (gR s6 x0 2))) (ck (inb x2 (aL (gR s6 x0 2))) (lB (pI s6 (gR s6 x0 2) x2.toNatClampNeg (gI s6 (gR s6 x0 2) x1.toNatClampNeg)) fun s9 => some ((), s9)))))))
theorem t_X2_move {K : Cx} (h : Ok K cX2_move RX2 3 rm_X2_move none) (hs : kiv K = St) (x0 : Nat) (x1 : Int32) (x2 : Int32) (σ : Sg) (hk0 : kd x0 2) : T K (QV K) 0 [(0, .ref x0), (1, .int x1), (2, .int x2)] [] 0 0 σ (f_X2_move x0 x1 x2 σ) := by
  unfold f_X2_move
  refine T_aload_n (pc := 0) h dX2_move_0 rfl 0 rfl ?_
  refine T_gR (pc := 1) h hs hk0 fl_X2_9 rfl fk_2_0 dX2_move_1 (fun hq1 => ?_)
  refine T_iload_n (pc := 4) h dX2_move_4 rfl 2 rfl ?_
  refine T_aload_n (pc := 5) h dX2_move_5 rfl 0 rfl ?_
  refine T_gR (pc := 6) h hs hk0 fl_X2_9 rfl fk_2_0 dX2_move_6 (fun hq2 => ?_)
  refine T_iload_n (pc := 9) h dX2_move_9 rfl 1 rfl ?_
  refine T_iald (pc := 10) h hs hq2 dX2_move_10 ?_
  refine T_iast (pc := 11) h hs hq1 dX2_move_11 ?_
  refine T_letS fun s3 => ?_
  refine T_aload_n (pc := 12) h dX2_move_12 rfl 0 rfl ?_
  refine T_gR (pc := 13) h hs hk0 fl_X2_13 rfl fk_2_1 dX2_move_13 (fun hq4 => ?_)
  refine T_iload_n (pc := 16) h dX2_move_16 rfl 2 rfl ?_
  refine T_aload_n (pc := 17) h dX2_move_17 rfl 0 rfl ?_
  refine T_gR (pc := 18) h hs hk0 fl_X2_13 rfl fk_2_1 dX2_move_18 (fun hq5 => ?_)
  refine T_iload_n (pc := 21) h dX2_move_21 rfl 1 rfl ?_
  refine T_iald (pc := 22) h hs hq5 dX2_move_22 ?_
  refine T_iast (pc := 23) h hs hq4 dX2_move_23 ?_
  refine T_letS fun s6 => ?_
  refine T_aload_n (pc := 24) h dX2_move_24 rfl 0 rfl ?_
  refine T_gR (pc := 25) h hs hk0 fl_X2_16 rfl fk_2_2 dX2_move_25 (fun hq7 => ?_)
  refine T_iload_n (pc := 28) h dX2_move_28 rfl 2 rfl ?_
  refine T_aload_n (pc := 29) h dX2_move_29 rfl 0 rfl ?_
  refine T_gR (pc := 30) h hs hk0 fl_X2_16 rfl fk_2_2 dX2_move_30 (fun hq8 => ?_)
  refine T_iload_n (pc := 33) h dX2_move_33 rfl 1 rfl ?_
  refine T_iald (pc := 34) h hs hq8 dX2_move_34 ?_
  refine T_iast (pc := 35) h hs hq7 dX2_move_35 ?_
  refine T_letS fun s9 => ?_
  exact T_return (pc := 36) h (Nat.zero_le _) (Nat.zero_le _) dX2_move_36
theorem M_X2_move (l : Launch) {iv : Sg → Prop} (hi : iv = St) (x0 : Nat) (x1 : Int32) (x2 : Int32) (σ : Sg) (hk0 : kd x0 2) : CTv l yX2_move cX2_move 3 none rm_X2_move iv [.ref x0, .int x1, .int x2] σ (f_X2_move x0 x1 x2 σ) := by
  subst hi
  exact CT_of (by decide) (Nat.le_of_ble_eq_true rfl) (fun K _ h _ hs _ _ => t_X2_move h hs x0 x1 x2 σ hk0)
/-! LuteTabs$Notes.timeOfChord(I)I -/
theorem dX2_timeOfChord_0 : decode cX2_timeOfChord 0 = .ok (.aload_n 0, 1) := by decide +kernel
theorem dX2_timeOfChord_1 : decode cX2_timeOfChord 1 = .ok (.getfield 9, 3) := by decide +kernel
theorem dX2_timeOfChord_4 : decode cX2_timeOfChord 4 = .ok (.aload_n 0, 1) := by decide +kernel
theorem dX2_timeOfChord_5 : decode cX2_timeOfChord 5 = .ok (.getfield 22, 3) := by decide +kernel
theorem dX2_timeOfChord_8 : decode cX2_timeOfChord 8 = .ok (.iload_n 1, 1) := by decide +kernel
theorem dX2_timeOfChord_9 : decode cX2_timeOfChord 9 = .ok (.iaload, 1) := by decide +kernel
theorem dX2_timeOfChord_10 : decode cX2_timeOfChord 10 = .ok (.iaload, 1) := by decide +kernel
theorem dX2_timeOfChord_11 : decode cX2_timeOfChord 11 = .ok (.ireturn, 1) := by decide +kernel
abbrev rm_X2_timeOfChord : Room := { frames := 0, cells := 0, slots := 0, locals := 0 }
def f_X2_timeOfChord (x0 : Nat) (x1 : Int32) (σ : Sg) : Option (Int32 × Sg) := ck (inb x1 (aL (gR σ x0 4))) (ck (inb (gI σ (gR σ x0 4) x1.toNatClampNeg) (aL (gR σ x0 0))) (some ((gI σ (gR σ x0 0) (gI σ (gR σ x0 4) x1.toNatClampNeg).toNatClampNeg), σ)))
theorem t_X2_timeOfChord {K : Cx} (h : Ok K cX2_timeOfChord RX2 2 rm_X2_timeOfChord (some .int)) (hs : kiv K = St) (x0 : Nat) (x1 : Int32) (σ : Sg) (hk0 : kd x0 2) : T K (QI K) 0 [(0, .ref x0), (1, .int x1)] [] 0 0 σ (f_X2_timeOfChord x0 x1 σ) := by
  unfold f_X2_timeOfChord
  refine T_aload_n (pc := 0) h dX2_timeOfChord_0 rfl 0 rfl ?_
  refine T_gR (pc := 1) h hs hk0 fl_X2_9 rfl fk_2_0 dX2_timeOfChord_1 (fun hq1 => ?_)
  refine T_aload_n (pc := 4) h dX2_timeOfChord_4 rfl 0 rfl ?_
  refine T_gR (pc := 5) h hs hk0 fl_X2_22 rfl fk_2_4 dX2_timeOfChord_5 (fun hq2 => ?_)
  refine T_iload_n (pc := 8) h dX2_timeOfChord_8 rfl 1 rfl ?_
  refine T_iald (pc := 9) h hs hq2 dX2_timeOfChord_9 ?_
  refine T_iald (pc := 10) h hs hq1 dX2_timeOfChord_10 ?_
  exact T_ireturn (pc := 11) h (Nat.zero_le _) (Nat.zero_le _) dX2_timeOfChord_11
theorem M_X2_timeOfChord (l : Launch) {iv : Sg → Prop} (hi : iv = St) (x0 : Nat) (x1 : Int32) (σ : Sg) (hk0 : kd x0 2) : CTi l yX2_timeOfChord cX2_timeOfChord 2 (some .int) rm_X2_timeOfChord iv [.ref x0, .int x1] σ (f_X2_timeOfChord x0 x1 σ) := by
  subst hi
  exact CT_of (by decide) (Nat.le_of_ble_eq_true rfl) (fun K _ h _ hs _ _ => t_X2_timeOfChord h hs x0 x1 σ hk0)
/-! LuteTabs$Notes.soundingAt(I)I -/
theorem dX2_soundingAt_0 : decode cX2_soundingAt 0 = .ok (.iconst 0, 1) := by decide +kernel
theorem dX2_soundingAt_1 : decode cX2_soundingAt 1 = .ok (.istore_n 2, 1) := by decide +kernel
theorem dX2_soundingAt_2 : decode cX2_soundingAt 2 = .ok (.iconst 0, 1) := by decide +kernel
theorem dX2_soundingAt_3 : decode cX2_soundingAt 3 = .ok (.istore_n 3, 1) := by decide +kernel
theorem dX2_soundingAt_4 : decode cX2_soundingAt 4 = .ok (.iload_n 3, 1) := by decide +kernel
theorem dX2_soundingAt_5 : decode cX2_soundingAt 5 = .ok (.aload_n 0, 1) := by decide +kernel
theorem dX2_soundingAt_6 : decode cX2_soundingAt 6 = .ok (.getfield 22, 3) := by decide +kernel
theorem dX2_soundingAt_9 : decode cX2_soundingAt 9 = .ok (.iload_n 1, 1) := by decide +kernel
theorem dX2_soundingAt_10 : decode cX2_soundingAt 10 = .ok (.iconst 1, 1) := by decide +kernel
theorem dX2_soundingAt_11 : decode cX2_soundingAt 11 = .ok (.iadd, 1) := by decide +kernel
theorem dX2_soundingAt_12 : decode cX2_soundingAt 12 = .ok (.iaload, 1) := by decide +kernel
theorem dX2_soundingAt_13 : decode cX2_soundingAt 13 = .ok (.if_icmp .ge 46, 3) := by decide +kernel
theorem dX2_soundingAt_16 : decode cX2_soundingAt 16 = .ok (.iload_n 3, 1) := by decide +kernel
theorem dX2_soundingAt_17 : decode cX2_soundingAt 17 = .ok (.aload_n 0, 1) := by decide +kernel
theorem dX2_soundingAt_18 : decode cX2_soundingAt 18 = .ok (.getfield 22, 3) := by decide +kernel
theorem dX2_soundingAt_21 : decode cX2_soundingAt 21 = .ok (.iload_n 1, 1) := by decide +kernel
theorem dX2_soundingAt_22 : decode cX2_soundingAt 22 = .ok (.iaload, 1) := by decide +kernel
theorem dX2_soundingAt_23 : decode cX2_soundingAt 23 = .ok (.if_icmp .ge 24, 3) := by decide +kernel
theorem dX2_soundingAt_26 : decode cX2_soundingAt 26 = .ok (.aload_n 0, 1) := by decide +kernel
theorem dX2_soundingAt_27 : decode cX2_soundingAt 27 = .ok (.getfield 9, 3) := by decide +kernel
theorem dX2_soundingAt_30 : decode cX2_soundingAt 30 = .ok (.iload_n 3, 1) := by decide +kernel
theorem dX2_soundingAt_31 : decode cX2_soundingAt 31 = .ok (.iaload, 1) := by decide +kernel
theorem dX2_soundingAt_32 : decode cX2_soundingAt 32 = .ok (.aload_n 0, 1) := by decide +kernel
theorem dX2_soundingAt_33 : decode cX2_soundingAt 33 = .ok (.getfield 16, 3) := by decide +kernel
theorem dX2_soundingAt_36 : decode cX2_soundingAt 36 = .ok (.iload_n 3, 1) := by decide +kernel
theorem dX2_soundingAt_37 : decode cX2_soundingAt 37 = .ok (.iaload, 1) := by decide +kernel
theorem dX2_soundingAt_38 : decode cX2_soundingAt 38 = .ok (.iadd, 1) := by decide +kernel
theorem dX2_soundingAt_39 : decode cX2_soundingAt 39 = .ok (.aload_n 0, 1) := by decide +kernel
theorem dX2_soundingAt_40 : decode cX2_soundingAt 40 = .ok (.iload_n 1, 1) := by decide +kernel
theorem dX2_soundingAt_41 : decode cX2_soundingAt 41 = .ok (.invokevirtual 52, 3) := by decide +kernel
theorem dX2_soundingAt_44 : decode cX2_soundingAt 44 = .ok (.if_icmp .le 9, 3) := by decide +kernel
theorem dX2_soundingAt_47 : decode cX2_soundingAt 47 = .ok (.iload_n 2, 1) := by decide +kernel
theorem dX2_soundingAt_48 : decode cX2_soundingAt 48 = .ok (.iconst 1, 1) := by decide +kernel
theorem dX2_soundingAt_49 : decode cX2_soundingAt 49 = .ok (.iload_n 3, 1) := by decide +kernel
theorem dX2_soundingAt_50 : decode cX2_soundingAt 50 = .ok (.ishl, 1) := by decide +kernel
theorem dX2_soundingAt_51 : decode cX2_soundingAt 51 = .ok (.ior, 1) := by decide +kernel
theorem dX2_soundingAt_52 : decode cX2_soundingAt 52 = .ok (.istore_n 2, 1) := by decide +kernel
theorem dX2_soundingAt_53 : decode cX2_soundingAt 53 = .ok (.iinc 3 1, 3) := by decide +kernel
theorem dX2_soundingAt_56 : decode cX2_soundingAt 56 = .ok (.goto (-52), 3) := by decide +kernel
theorem dX2_soundingAt_59 : decode cX2_soundingAt 59 = .ok (.iload_n 2, 1) := by decide +kernel
theorem dX2_soundingAt_60 : decode cX2_soundingAt 60 = .ok (.ireturn, 1) := by decide +kernel
abbrev rm_X2_soundingAt : Room := { frames := 1, cells := 0, slots := 0, locals := 21 }
def f_X2_soundingAt_L53 (rec4 : Int32 × Int32 × Sg → Option (Int32 × Sg)) (x0 : Nat) (x1 : Int32) (x2 : Int32) (x3 : Int32)  (σ : Sg) : Option (Int32 × Sg) := lB (x3 + (1 : Int32)) fun v1 => rec4 (x2, v1, σ)
def f_X2_soundingAt_L47 (rec4 : Int32 × Int32 × Sg → Option (Int32 × Sg)) (x0 : Nat) (x1 : Int32) (x2 : Int32) (x3 : Int32)  (σ : Sg) : Option (Int32 × Sg) := lB ((x2 ||| ((1 : Int32) <<< (x3 &&& 31)))) fun v1 => f_X2_soundingAt_L53 rec4 x0 x1 v1 x3 σ
def f_X2_soundingAt_L4  (x0 : Nat) (x1 : Int32) (rec4 : Int32 × Int32 × Sg → Option (Int32 × Sg)) (s : Int32 × Int32 × Sg) : Option (Int32 × Sg) := ck (inb (x1 + (1 : Int32)) (aL (gR (s.2.2) x0 4))) ((if (gI (s.2.2) (gR (s.2.2) x0 4) (x1 + (1 : Int32)).toNatClampNeg) ≤ (s.2.1) then some ((s.1), (s.2.2)) else ck (inb x1 (aL (gR (s.2.2) x0 4))) ((if (gI (s.2.2) (gR (s.2.2) x0 4) x1.toNatClampNeg) ≤ (s.2.1) then f_X2_soundingAt_L47 rec4 x0 x1 (s.1) (s.2.1) (s.2.2) else ck (inb (s.2.1) (aL (gR (s.2.2) x0 0))) (ck (inb (s.2.1) (aL (gR (s.2.2) x0 2))) (bd (f_X2_timeOfChord x0 x1 (s.2.2)) fun r6 s5 => (if ((gI (s.2.2) (gR (s.2.2) x0 0) (s.2.1).toNatClampNeg) + (gI (s.2.2) (gR (s.2.2) x0 2) (s.2.1).toNatClampNeg)) ≤ r6 then f_X2_soundingAt_L53 rec4 x0 x1 (s.1) (s.2.1) s5 else f_X2_soundingAt_L47 rec4 x0 x1 (s.1) (s.2.1) s5)))))))
def f_X2_soundingAt (x0 : Nat) (x1 : Int32) (σ : Sg) : Option (Int32 × Sg) := fx (f_X2_soundingAt_L4 x0 x1) FU ((0 : Int32), (0 : Int32), σ)
theorem t_X2_soundingAt_L53 {K : Cx} (h : Ok K cX2_soundingAt RX2 4 rm_X2_soundingAt (some .int)) (hs : kiv K = St) (x0 : Nat) (x1 : Int32) (x2 : Int32) (x3 : Int32)  (σ : Sg) (rec4 : Int32 × Int32 × Sg → Option (Int32 × Sg)) (hr4 : ∀ u, T K (QI K) 4 [(0, .ref x0), (1, .int x1), (2, .int (u.1)), (3, .int (u.2.1))] [] 0 0 (u.2.2) (rec4 u)) (hk0 : kd x0 2)  : T K (QI K) 53 [(0, .ref x0), (1, .int x1), (2, .int x2), (3, .int x3)] [] 0 0 σ (f_X2_soundingAt_L53 rec4 x0 x1 x2 x3 σ) := by
  unfold f_X2_soundingAt_L53
  refine T_iinc (fl := fun v1 => [(3, .int v1), (0, .ref x0), (1, .int x1), (2, .int x2)]) (pc := 53) h dX2_soundingAt_53 3 rfl ki_1 (by decide) (fun _ => rfl) (fun v1 => ?_)
  refine T_goto (pc := 56) (tgt := 4) h dX2_soundingAt_56 (by decide) ?_
  refine T_sub [1, 2, 3, 0] rfl ?_
  exact hr4 (x2, v1, σ)
theorem t_X2_soundingAt_L47 {K : Cx} (h : Ok K cX2_soundingAt RX2 4 rm_X2_soundingAt (some .int)) (hs : kiv K = St) (x0 : Nat) (x1 : Int32) (x2 : Int32) (x3 : Int32)  (σ : Sg) (rec4 : Int32 × Int32 × Sg → Option (Int32 × Sg)) (hr4 : ∀ u, T K (QI K) 4 [(0, .ref x0), (1, .int x1), (2, .int (u.1)), (3, .int (u.2.1))] [] 0 0 (u.2.2) (rec4 u)) (hk0 : kd x0 2)  : T K (QI K) 47 [(0, .ref x0), (1, .int x1), (2, .int x2), (3, .int x3)] [] 0 0 σ (f_X2_soundingAt_L47 rec4 x0 x1 x2 x3 σ) := by
  unfold f_X2_soundingAt_L47
  refine T_iload_n (pc := 47) h dX2_soundingAt_47 rfl 2 rfl ?_
  refine T_iconst (pc := 48) h dX2_soundingAt_48 ki_1 ?_
  refine T_iload_n (pc := 49) h dX2_soundingAt_49 rfl 3 rfl ?_
  refine T_ishl (pc := 50) h dX2_soundingAt_50 ?_
  refine T_ior (pc := 51) h dX2_soundingAt_51 ?_
  refine T_letI fun v1 => ?_
  refine T_istore_n (lv' := [(2, .int v1), (0, .ref x0), (1, .int x1), (3, .int x3)]) (pc := 52) h dX2_soundingAt_52 rfl (by decide) rfl ?_
  refine T_sub [1, 2, 0, 3] rfl ?_
  exact t_X2_soundingAt_L53 h hs x0 x1 v1 x3 σ rec4 hr4 hk0
theorem t_X2_soundingAt_L4 {K : Cx} (h : Ok K cX2_soundingAt RX2 4 rm_X2_soundingAt (some .int)) (hs : kiv K = St) (x0 : Nat) (x1 : Int32)  (hk0 : kd x0 2) (rec4 : Int32 × Int32 × Sg → Option (Int32 × Sg)) (hr4 : ∀ u, T K (QI K) 4 [(0, .ref x0), (1, .int x1), (2, .int (u.1)), (3, .int (u.2.1))] [] 0 0 (u.2.2) (rec4 u)) (s : Int32 × Int32 × Sg) : T K (QI K) 4 [(0, .ref x0), (1, .int x1), (2, .int (s.1)), (3, .int (s.2.1))] [] 0 0 (s.2.2) (f_X2_soundingAt_L4 x0 x1 rec4 s) := by
  unfold f_X2_soundingAt_L4
  refine T_iload_n (pc := 4) h dX2_soundingAt_4 rfl 3 rfl ?_
  refine T_aload_n (pc := 5) h dX2_soundingAt_5 rfl 0 rfl ?_
  refine T_gR (pc := 6) h hs hk0 fl_X2_22 rfl fk_2_4 dX2_soundingAt_6 (fun hq1 => ?_)
  refine T_iload_n (pc := 9) h dX2_soundingAt_9 rfl 1 rfl ?_
  refine T_iconst (pc := 10) h dX2_soundingAt_10 ki_1 ?_
  refine T_iadd (pc := 11) h dX2_soundingAt_11 ?_
  refine T_iald (pc := 12) h hs hq1 dX2_soundingAt_12 ?_
  refine T_icmp_ge (pc := 13) (tgt := 59) h dX2_soundingAt_13 (by decide) ?_ ?_
  · refine T_iload_n (pc := 59) h dX2_soundingAt_59 rfl 2 rfl ?_
    exact T_ireturn (pc := 60) h (Nat.zero_le _) (Nat.zero_le _) dX2_soundingAt_60
  · refine T_iload_n (pc := 16) h dX2_soundingAt_16 rfl 3 rfl ?_
    refine T_aload_n (pc := 17) h dX2_soundingAt_17 rfl 0 rfl ?_
    refine T_gR (pc := 18) h hs hk0 fl_X2_22 rfl fk_2_4 dX2_soundingAt_18 (fun hq2 => ?_)
    refine T_iload_n (pc := 21) h dX2_soundingAt_21 rfl 1 rfl ?_
    refine T_iald (pc := 22) h hs hq2 dX2_soundingAt_22 ?_
    refine T_icmp_ge (pc := 23) (tgt := 47) h dX2_soundingAt_23 (by decide) ?_ ?_
    · refine T_sub [0, 1, 2, 3] rfl ?_
      exact t_X2_soundingAt_L47 h hs x0 x1 (s.1) (s.2.1) (s.2.2) rec4 hr4 hk0
    · refine T_aload_n (pc := 26) h dX2_soundingAt_26 rfl 0 rfl ?_
      refine T_gR (pc := 27) h hs hk0 fl_X2_9 rfl fk_2_0 dX2_soundingAt_27 (fun hq3 => ?_)
      refine T_iload_n (pc := 30) h dX2_soundingAt_30 rfl 3 rfl ?_
      refine T_iald (pc := 31) h hs hq3 dX2_soundingAt_31 ?_
      refine T_aload_n (pc := 32) h dX2_soundingAt_32 rfl 0 rfl ?_
      refine T_gR (pc := 33) h hs hk0 fl_X2_16 rfl fk_2_2 dX2_soundingAt_33 (fun hq4 => ?_)
      refine T_iload_n (pc := 36) h dX2_soundingAt_36 rfl 3 rfl ?_
      refine T_iald (pc := 37) h hs hq4 dX2_soundingAt_37 ?_
      refine T_iadd (pc := 38) h dX2_soundingAt_38 ?_
      refine T_aload_n (pc := 39) h dX2_soundingAt_39 rfl 0 rfl ?_
      refine T_iload_n (pc := 40) h dX2_soundingAt_40 rfl 1 rfl ?_
      refine T_callVi (pc := 41) h (M_X2_timeOfChord (kl K) hs x0 x1 (s.2.2) hk0) mv_X2_timeOfChord hs hk0 ml_X2_52 rfl ⟨Nat.le_of_ble_eq_true rfl, Nat.le_of_ble_eq_true rfl⟩ ⟨Nat.le_refl 0, Nat.le_refl 0⟩ (Nat.le_of_ble_eq_true rfl) dX2_soundingAt_41 rfl (fun r6 s5 => ?_)
      refine T_icmp_le (pc := 44) (tgt := 53) h dX2_soundingAt_44 (by decide) ?_ ?_
      · refine T_sub [0, 1, 2, 3] rfl ?_
        exact t_X2_soundingAt_L53 h hs x0 x1 (s.1) (s.2.1) s5 rec4 hr4 hk0
      · refine T_sub [0, 1, 2, 3] rfl ?_
        exact t_X2_soundingAt_L47 h hs x0 x1 (s.1) (s.2.1) s5 rec4 hr4 hk0
theorem t_X2_soundingAt {K : Cx} (h : Ok K cX2_soundingAt RX2 4 rm_X2_soundingAt (some .int)) (hs : kiv K = St) (x0 : Nat) (x1 : Int32) (σ : Sg) (hk0 : kd x0 2) : T K (QI K) 0 [(0, .ref x0), (1, .int x1)] [] 0 0 σ (f_X2_soundingAt x0 x1 σ) := by
  unfold f_X2_soundingAt
  refine T_iconst (pc := 0) h dX2_soundingAt_0 ki_0 ?_
  refine T_istore_n (lv' := [(2, .int (0 : Int32)), (0, .ref x0), (1, .int x1)]) (pc := 1) h dX2_soundingAt_1 rfl (by decide) rfl ?_
  refine T_iconst (pc := 2) h dX2_soundingAt_2 ki_0 ?_
  refine T_istore_n (lv' := [(3, .int (0 : Int32)), (2, .int (0 : Int32)), (0, .ref x0), (1, .int x1)]) (pc := 3) h dX2_soundingAt_3 rfl (by decide) rfl ?_
  refine T_sub [2, 3, 1, 0] rfl ?_
  exact T_fx (B := f_X2_soundingAt_L4 x0 x1) (fl := fun u => [(0, .ref x0), (1, .int x1), (2, .int (u.1)), (3, .int (u.2.1))]) (f := fun u => (u.2.2)) (fun rec4 hr4 u => t_X2_soundingAt_L4 h hs x0 x1 hk0 rec4 hr4 u) FU ((0 : Int32), (0 : Int32), σ)
theorem M_X2_soundingAt (l : Launch) {iv : Sg → Prop} (hi : iv = St) (x0 : Nat) (x1 : Int32) (σ : Sg) (hk0 : kd x0 2) : CTi l yX2_soundingAt cX2_soundingAt 4 (some .int) rm_X2_soundingAt iv [.ref x0, .int x1] σ (f_X2_soundingAt x0 x1 σ) := by
  subst hi
  exact CT_of (by decide) (Nat.le_of_ble_eq_true rfl) (fun K _ h _ hs _ _ => t_X2_soundingAt h hs x0 x1 σ hk0)
/-! LuteTabs$Notes.findChords()V -/
theorem dX2_findChords_0 : decode cX2_findChords 0 = .ok (.aload_n 0, 1) := by decide +kernel
theorem dX2_findChords_1 : decode cX2_findChords 1 = .ok (.iconst 0, 1) := by decide +kernel
theorem dX2_findChords_2 : decode cX2_findChords 2 = .ok (.putfield 32, 3) := by decide +kernel
theorem dX2_findChords_5 : decode cX2_findChords 5 = .ok (.iconst 0, 1) := by decide +kernel
theorem dX2_findChords_6 : decode cX2_findChords 6 = .ok (.istore_n 1, 1) := by decide +kernel
theorem dX2_findChords_7 : decode cX2_findChords 7 = .ok (.iload_n 1, 1) := by decide +kernel
theorem dX2_findChords_8 : decode cX2_findChords 8 = .ok (.aload_n 0, 1) := by decide +kernel
theorem dX2_findChords_9 : decode cX2_findChords 9 = .ok (.getfield 28, 3) := by decide +kernel
theorem dX2_findChords_12 : decode cX2_findChords 12 = .ok (.if_icmp .ge 62, 3) := by decide +kernel
theorem dX2_findChords_15 : decode cX2_findChords 15 = .ok (.iload_n 1, 1) := by decide +kernel
theorem dX2_findChords_16 : decode cX2_findChords 16 = .ok (.ifCond .eq 20, 3) := by decide +kernel
theorem dX2_findChords_19 : decode cX2_findChords 19 = .ok (.aload_n 0, 1) := by decide +kernel
theorem dX2_findChords_20 : decode cX2_findChords 20 = .ok (.getfield 9, 3) := by decide +kernel
theorem dX2_findChords_23 : decode cX2_findChords 23 = .ok (.iload_n 1, 1) := by decide +kernel
theorem dX2_findChords_24 : decode cX2_findChords 24 = .ok (.iaload, 1) := by decide +kernel
theorem dX2_findChords_25 : decode cX2_findChords 25 = .ok (.aload_n 0, 1) := by decide +kernel
theorem dX2_findChords_26 : decode cX2_findChords 26 = .ok (.getfield 9, 3) := by decide +kernel
theorem dX2_findChords_29 : decode cX2_findChords 29 = .ok (.iload_n 1, 1) := by decide +kernel
theorem dX2_findChords_30 : decode cX2_findChords 30 = .ok (.iconst 1, 1) := by decide +kernel
theorem dX2_findChords_31 : decode cX2_findChords 31 = .ok (.isub, 1) := by decide +kernel
theorem dX2_findChords_32 : decode cX2_findChords 32 = .ok (.iaload, 1) := by decide +kernel
theorem dX2_findChords_33 : decode cX2_findChords 33 = .ok (.if_icmp .eq 23, 3) := by decide +kernel
theorem dX2_findChords_36 : decode cX2_findChords 36 = .ok (.aload_n 0, 1) := by decide +kernel
theorem dX2_findChords_37 : decode cX2_findChords 37 = .ok (.getfield 22, 3) := by decide +kernel
theorem dX2_findChords_40 : decode cX2_findChords 40 = .ok (.aload_n 0, 1) := by decide +kernel
theorem dX2_findChords_41 : decode cX2_findChords 41 = .ok (.getfield 32, 3) := by decide +kernel
theorem dX2_findChords_44 : decode cX2_findChords 44 = .ok (.iload_n 1, 1) := by decide +kernel
theorem dX2_findChords_45 : decode cX2_findChords 45 = .ok (.iastore, 1) := by decide +kernel
theorem dX2_findChords_46 : decode cX2_findChords 46 = .ok (.aload_n 0, 1) := by decide +kernel
theorem dX2_findChords_47 : decode cX2_findChords 47 = .ok (.dup, 1) := by decide +kernel
theorem dX2_findChords_48 : decode cX2_findChords 48 = .ok (.getfield 32, 3) := by decide +kernel
theorem dX2_findChords_51 : decode cX2_findChords 51 = .ok (.iconst 1, 1) := by decide +kernel
theorem dX2_findChords_52 : decode cX2_findChords 52 = .ok (.iadd, 1) := by decide +kernel
theorem dX2_findChords_53 : decode cX2_findChords 53 = .ok (.putfield 32, 3) := by decide +kernel
theorem dX2_findChords_56 : decode cX2_findChords 56 = .ok (.aload_n 0, 1) := by decide +kernel
theorem dX2_findChords_57 : decode cX2_findChords 57 = .ok (.getfield 19, 3) := by decide +kernel
theorem dX2_findChords_60 : decode cX2_findChords 60 = .ok (.iload_n 1, 1) := by decide +kernel
theorem dX2_findChords_61 : decode cX2_findChords 61 = .ok (.aload_n 0, 1) := by decide +kernel
theorem dX2_findChords_62 : decode cX2_findChords 62 = .ok (.getfield 32, 3) := by decide +kernel
theorem dX2_findChords_65 : decode cX2_findChords 65 = .ok (.iconst 1, 1) := by decide +kernel
theorem dX2_findChords_66 : decode cX2_findChords 66 = .ok (.isub, 1) := by decide +kernel
theorem dX2_findChords_67 : decode cX2_findChords 67 = .ok (.iastore, 1) := by decide +kernel
theorem dX2_findChords_68 : decode cX2_findChords 68 = .ok (.iinc 1 1, 3) := by decide +kernel
theorem dX2_findChords_71 : decode cX2_findChords 71 = .ok (.goto (-64), 3) := by decide +kernel
theorem dX2_findChords_74 : decode cX2_findChords 74 = .ok (.aload_n 0, 1) := by decide +kernel
theorem dX2_findChords_75 : decode cX2_findChords 75 = .ok (.getfield 22, 3) := by decide +kernel
theorem dX2_findChords_78 : decode cX2_findChords 78 = .ok (.aload_n 0, 1) := by decide +kernel
theorem dX2_findChords_79 : decode cX2_findChords 79 = .ok (.getfield 32, 3) := by decide +kernel
theorem dX2_findChords_82 : decode cX2_findChords 82 = .ok (.aload_n 0, 1) := by decide +kernel
theorem dX2_findChords_83 : decode cX2_findChords 83 = .ok (.getfield 28, 3) := by decide +kernel
theorem dX2_findChords_86 : decode cX2_findChords 86 = .ok (.iastore, 1) := by decide +kernel
theorem dX2_findChords_87 : decode cX2_findChords 87 = .ok (.iconst 0, 1) := by decide +kernel
theorem dX2_findChords_88 : decode cX2_findChords 88 = .ok (.istore_n 1, 1) := by decide +kernel
theorem dX2_findChords_89 : decode cX2_findChords 89 = .ok (.iload_n 1, 1) := by decide +kernel
theorem dX2_findChords_90 : decode cX2_findChords 90 = .ok (.aload_n 0, 1) := by decide +kernel
theorem dX2_findChords_91 : decode cX2_findChords 91 = .ok (.getfield 32, 3) := by decide +kernel
theorem dX2_findChords_94 : decode cX2_findChords 94 = .ok (.if_icmp .ge 20, 3) := by decide +kernel
theorem dX2_findChords_97 : decode cX2_findChords 97 = .ok (.aload_n 0, 1) := by decide +kernel
theorem dX2_findChords_98 : decode cX2_findChords 98 = .ok (.getfield 25, 3) := by decide +kernel
theorem dX2_findChords_101 : decode cX2_findChords 101 = .ok (.iload_n 1, 1) := by decide +kernel
theorem dX2_findChords_102 : decode cX2_findChords 102 = .ok (.aload_n 0, 1) := by decide +kernel
theorem dX2_findChords_103 : decode cX2_findChords 103 = .ok (.iload_n 1, 1) := by decide +kernel
theorem dX2_findChords_104 : decode cX2_findChords 104 = .ok (.invokevirtual 48, 3) := by decide +kernel
theorem dX2_findChords_107 : decode cX2_findChords 107 = .ok (.iastore, 1) := by decide +kernel
theorem dX2_findChords_108 : decode cX2_findChords 108 = .ok (.iinc 1 1, 3) := by decide +kernel
theorem dX2_findChords_111 : decode cX2_findChords 111 = .ok (.goto (-22), 3) := by decide +kernel
theorem dX2_findChords_114 : decode cX2_findChords 114 = .ok (.return_, 1) := by decide +kernel
abbrev rm_X2_findChords : Room := { frames := 2, cells := 0, slots := 0, locals := 44 }
def f_X2_findChords_L56 (rec7 : Int32 × Sg → Option (Unit × Sg)) (x0 : Nat) (x1 : Int32)  (σ : Sg) : Option (Unit × Sg) := ck (inb x1 (aL (gR σ x0 3))) (lB (pI σ (gR σ x0 3) x1.toNatClampNeg ((gI σ x0 7) - (1 : Int32))) fun s2 => lB (x1 + (1 : Int32)) fun v3 => rec7 (v3, s2))
def f_X2_findChords_L36 (rec7 : Int32 × Sg → Option (Unit × Sg)) (x0 : Nat) (x1 : Int32)  (σ : Sg) : Option (Unit × Sg) := ck (inb (gI σ x0 7) (aL (gR σ x0 4))) (lB (pI σ (gR σ x0 4) (gI σ x0 7).toNatClampNeg x1) fun s2 => lB (pI s2 x0 7 ((gI s2 x0 7) + (1 : Int32))) fun s3 => f_X2_findChords_L56 rec7 x0 x1 s3)
def f_X2_findChords_L89  (x0 : Nat) (rec89 : Int32 × Sg → Option (Unit × Sg)) (s : Int32 × Sg) : Option (Unit × Sg) := (if (gI (s.2) x0 7) ≤ (s.1) then some ((), (s.2)) else bd (f_X2_soundingAt x0 (s.1) (s.2)) fun r3 s2 => ck (inb (s.1) (aL (gR (s.2) x0 5))) (lB (pI s2 (gR (s.2) x0 5) (s.1).toNatClampNeg r3) fun s4 => lB ((s.1) + (1 : Int32)) fun v5 => rec89 (v5, s4)))
def f_X2_findChords_L7  (x0 : Nat) (rec7 : Int32 × Sg → Option (Unit × Sg)) (s : Int32 × Sg) : Option (Unit × Sg) := (if (gI (s.2) x0 6) ≤ (s.1) then ck (inb (gI (s.2) x0 7) (aL (gR (s.2) x0 4))) (lB (pI (s.2) (gR (s.2) x0 4) (gI (s.2) x0 7).toNatClampNeg (gI (s.2) x0 6)) fun s2 => fx (f_X2_findChords_L89 x0) FU ((0 : Int32), s2)) else (if (s.1) = 0 then f_X2_findChords_L36 rec7 x0 (s.1) (s.2) else ck (inb (s.1) (aL (gR (s.2) x0 0))) (ck (inb ((s.1) - (1 : Int32)) (aL (gR (s.2) x0 0))) ((if (gI (s.2) (gR (s.2) x0 0) (s.1).toNatClampNeg) = (gI (s.2) (gR (s.2) x0 0) ((s.1) - (1 : Int32)).toNatClampNeg) then f_X2_findChords_L56 rec7 x0 (s.1) (s.2) else f_X2_findChords_L36 rec7 x0 (s.1) (s.2))))))
def f_X2_findChords (x0 : Nat) (σ : Sg) : Option (Unit × Sg) := lB (pI σ x0 7 (0 : Int32)) fun s1 => fx (f_X2_findChords_L7 x0) FU ((0 : Int32), s1)
theorem t_X2_findChords_L56 {K : Cx} (h : Ok K cX2_findChords RX2 2 rm_X2_findChords none) (hs : kiv K = St) (x0 : Nat) (x1 : Int32)  (σ : Sg) (rec7 : Int32 × Sg → Option (Unit × Sg)) (hr7 : ∀ u, T K (QV K) 7 [(0, .ref x0), (1, .int (u.1))] [] 0 0 (u.2) (rec7 u)) (hk0 : kd x0 2)  : T K (QV K) 56 [(0, .ref x0), (1, .int x1)] [] 0 0 σ (f_X2_findChords_L56 rec7 x0 x1 σ) := by
  unfold f_X2_findChords_L56
  refine T_aload_n (pc := 56) h dX2_findChords_56 rfl 0 rfl ?_
  refine T_gR (pc := 57) h hs hk0 fl_X2_19 rfl fk_2_3 dX2_findChords_57 (fun hq1 => ?_)
  refine T_iload_n (pc := 60) h dX2_findChords_60 rfl 1 rfl ?_
  refine T_aload_n (pc := 61) h dX2_findChords_61 rfl 0 rfl ?_
  refine T_getI (pc := 62) h hs hk0 fl_X2_32 rfl dX2_findChords_62 ?_
  refine T_iconst (pc := 65) h dX2_findChords_65 ki_1 ?_
  refine T_isub (pc := 66) h dX2_findChords_66 ?_
  refine T_iast (pc := 67) h hs hq1 dX2_findChords_67 ?_
  refine T_letS fun s2 => ?_
  refine T_iinc (fl := fun v3 => [(1, .int v3), (0, .ref x0)]) (pc := 68) h dX2_findChords_68 1 rfl ki_1 (by decide) (fun _ => rfl) (fun v3 => ?_)
  refine T_goto (pc := 71) (tgt := 7) h dX2_findChords_71 (by decide) ?_
  refine T_sub [1, 0] rfl ?_
  exact hr7 (v3, s2)
theorem t_X2_findChords_L36 {K : Cx} (h : Ok K cX2_findChords RX2 2 rm_X2_findChords none) (hs : kiv K = St) (x0 : Nat) (x1 : Int32)  (σ : Sg) (rec7 : Int32 × Sg → Option (Unit × Sg)) (hr7 : ∀ u, T K (QV K) 7 [(0, .ref x0), (1, .int (u.1))] [] 0 0 (u.2) (rec7 u)) (hk0 : kd x0 2)  : T K (QV K) 36 [(0, .ref x0), (1, .int x1)] [] 0 0 σ (f_X2_findChords_L36 rec7 x0 x1 σ) := by
  unfold f_X2_findChords_L36
  refine T_aload_n (pc := 36) h dX2_findChords_36 rfl 0 rfl ?_
  refine T_gR (pc := 37) h hs hk0 fl_X2_22 rfl fk_2_4 dX2_findChords_37 (fun hq1 => ?_)
  refine T_aload_n (pc := 40) h dX2_findChords_40 rfl 0 rfl ?_
  refine T_getI (pc := 41) h hs hk0 fl_X2_32 rfl dX2_findChords_41 ?_
  refine T_iload_n (pc := 44) h dX2_findChords_44 rfl 1 rfl ?_
  refine T_iast (pc := 45) h hs hq1 dX2_findChords_45 ?_
  refine T_letS fun s2 => ?_
  refine T_aload_n (pc := 46) h dX2_findChords_46 rfl 0 rfl ?_
  refine T_dup (pc := 47) h dX2_findChords_47 rfl ?_
  refine T_getI (pc := 48) h hs hk0 fl_X2_32 rfl dX2_findChords_48 ?_
  refine T_iconst (pc := 51) h dX2_findChords_51 ki_1 ?_
  refine T_iadd (pc := 52) h dX2_findChords_52 ?_
  refine T_putI (pc := 53) h hs hk0 fl_X2_32 rfl rfl dX2_findChords_53 ?_
  refine T_letS fun s3 => ?_
  refine T_sub [0, 1] rfl ?_
  exact t_X2_findChords_L56 h hs x0 x1 s3 rec7 hr7 hk0
theorem t_X2_findChords_L89 {K : Cx} (h : Ok K cX2_findChords RX2 2 rm_X2_findChords none) (hs : kiv K = St) (x0 : Nat)  (hk0 : kd x0 2) (rec89 : Int32 × Sg → Option (Unit × Sg)) (hr89 : ∀ u, T K (QV K) 89 [(0, .ref x0), (1, .int (u.1))] [] 0 0 (u.2) (rec89 u)) (s : Int32 × Sg) : T K (QV K) 89 [(0, .ref x0), (1, .int (s.1))] [] 0 0 (s.2) (f_X2_findChords_L89 x0 rec89 s) := by
  unfold f_X2_findChords_L89
  refine T_iload_n (pc := 89) h dX2_findChords_89 rfl 1 rfl ?_
  refine T_aload_n (pc := 90) h dX2_findChords_90 rfl 0 rfl ?_
  refine T_getI (pc := 91) h hs hk0 fl_X2_32 rfl dX2_findChords_91 ?_
  refine T_icmp_ge (pc := 94) (tgt := 114) h dX2_findChords_94 (by decide) ?_ ?_
  · exact T_return (pc := 114) h (Nat.zero_le _) (Nat.zero_le _) dX2_findChords_114
  · refine T_aload_n (pc := 97) h dX2_findChords_97 rfl 0 rfl ?_
    refine T_gR (pc := 98) h hs hk0 fl_X2_25 rfl fk_2_5 dX2_findChords_98 (fun hq1 => ?_)
    refine T_iload_n (pc := 101) h dX2_findChords_101 rfl 1 rfl ?_
    refine T_aload_n (pc := 102) h dX2_findChords_102 rfl 0 rfl ?_
    refine T_iload_n (pc := 103) h dX2_findChords_103 rfl 1 rfl ?_
    refine T_callVi (pc := 104) h (M_X2_soundingAt (kl K) hs x0 (s.1) (s.2) hk0) mv_X2_soundingAt hs hk0 ml_X2_48 rfl ⟨Nat.le_of_ble_eq_true rfl, Nat.le_of_ble_eq_true rfl⟩ ⟨Nat.le_refl 0, Nat.le_refl 0⟩ (Nat.le_of_ble_eq_true rfl) dX2_findChords_104 rfl (fun r3 s2 => ?_)
    refine T_iast (pc := 107) h hs hq1 dX2_findChords_107 ?_
    refine T_letS fun s4 => ?_
    refine T_iinc (fl := fun v5 => [(1, .int v5), (0, .ref x0)]) (pc := 108) h dX2_findChords_108 1 rfl ki_1 (by decide) (fun _ => rfl) (fun v5 => ?_)
    refine T_goto (pc := 111) (tgt := 89) h dX2_findChords_111 (by decide) ?_
    refine T_sub [1, 0] rfl ?_
    exact hr89 (v5, s4)
theorem t_X2_findChords_L7 {K : Cx} (h : Ok K cX2_findChords RX2 2 rm_X2_findChords none) (hs : kiv K = St) (x0 : Nat)  (hk0 : kd x0 2) (rec7 : Int32 × Sg → Option (Unit × Sg)) (hr7 : ∀ u, T K (QV K) 7 [(0, .ref x0), (1, .int (u.1))] [] 0 0 (u.2) (rec7 u)) (s : Int32 × Sg) : T K (QV K) 7 [(0, .ref x0), (1, .int (s.1))] [] 0 0 (s.2) (f_X2_findChords_L7 x0 rec7 s) := by
  unfold f_X2_findChords_L7
  refine T_iload_n (pc := 7) h dX2_findChords_7 rfl 1 rfl ?_
  refine T_aload_n (pc := 8) h dX2_findChords_8 rfl 0 rfl ?_
  refine T_getI (pc := 9) h hs hk0 fl_X2_28 rfl dX2_findChords_9 ?_
  refine T_icmp_ge (pc := 12) (tgt := 74) h dX2_findChords_12 (by decide) ?_ ?_
  · refine T_aload_n (pc := 74) h dX2_findChords_74 rfl 0 rfl ?_
    refine T_gR (pc := 75) h hs hk0 fl_X2_22 rfl fk_2_4 dX2_findChords_75 (fun hq1 => ?_)
    refine T_aload_n (pc := 78) h dX2_findChords_78 rfl 0 rfl ?_
    refine T_getI (pc := 79) h hs hk0 fl_X2_32 rfl dX2_findChords_79 ?_
    refine T_aload_n (pc := 82) h dX2_findChords_82 rfl 0 rfl ?_
    refine T_getI (pc := 83) h hs hk0 fl_X2_28 rfl dX2_findChords_83 ?_
    refine T_iast (pc := 86) h hs hq1 dX2_findChords_86 ?_
    refine T_letS fun s2 => ?_
    refine T_iconst (pc := 87) h dX2_findChords_87 ki_0 ?_
    refine T_istore_n (lv' := [(1, .int (0 : Int32)), (0, .ref x0)]) (pc := 88) h dX2_findChords_88 rfl (by decide) rfl ?_
    refine T_sub [1, 0] rfl ?_
    exact T_fx (B := f_X2_findChords_L89 x0) (fl := fun u => [(0, .ref x0), (1, .int (u.1))]) (f := fun u => (u.2)) (fun rec89 hr89 u => t_X2_findChords_L89 h hs x0 hk0 rec89 hr89 u) FU ((0 : Int32), s2)
  · refine T_iload_n (pc := 15) h dX2_findChords_15 rfl 1 rfl ?_
    refine T_if_eq (pc := 16) (tgt := 36) h dX2_findChords_16 (by decide) ?_ ?_
    · refine T_sub [0, 1] rfl ?_
      exact t_X2_findChords_L36 h hs x0 (s.1) (s.2) rec7 hr7 hk0
    · refine T_aload_n (pc := 19) h dX2_findChords_19 rfl 0 rfl ?_
      refine T_gR (pc := 20) h hs hk0 fl_X2_9 rfl fk_2_0 dX2_findChords_20 (fun hq3 => ?_)
      refine T_iload_n (pc := 23) h dX2_findChords_23 rfl 1 rfl ?_
      refine T_iald (pc := 24) h hs hq3 dX2_findChords_24 ?_
      refine T_aload_n (pc := 25) h dX2_findChords_25 rfl 0 rfl ?_
      refine T_gR (pc := 26) h hs hk0 fl_X2_9 rfl fk_2_0 dX2_findChords_26 (fun hq4 => ?_)
      refine T_iload_n (pc := 29) h dX2_findChords_29 rfl 1 rfl ?_
      refine T_iconst (pc := 30) h dX2_findChords_30 ki_1 ?_
      refine T_isub (pc := 31) h dX2_findChords_31 ?_
      refine T_iald (pc := 32) h hs hq4 dX2_findChords_32 ?_
      refine T_icmp_eq (pc := 33) (tgt := 56) h dX2_findChords_33 (by decide) ?_ ?_
      · refine T_sub [0, 1] rfl ?_
        exact t_X2_findChords_L56 h hs x0 (s.1) (s.2) rec7 hr7 hk0
      · refine T_sub [0, 1] rfl ?_
        exact t_X2_findChords_L36 h hs x0 (s.1) (s.2) rec7 hr7 hk0
theorem t_X2_findChords {K : Cx} (h : Ok K cX2_findChords RX2 2 rm_X2_findChords none) (hs : kiv K = St) (x0 : Nat) (σ : Sg) (hk0 : kd x0 2) : T K (QV K) 0 [(0, .ref x0)] [] 0 0 σ (f_X2_findChords x0 σ) := by
  unfold f_X2_findChords
  refine T_aload_n (pc := 0) h dX2_findChords_0 rfl 0 rfl ?_
  refine T_iconst (pc := 1) h dX2_findChords_1 ki_0 ?_
  refine T_putI (pc := 2) h hs hk0 fl_X2_32 rfl rfl dX2_findChords_2 ?_
  refine T_letS fun s1 => ?_
  refine T_iconst (pc := 5) h dX2_findChords_5 ki_0 ?_
  refine T_istore_n (lv' := [(1, .int (0 : Int32)), (0, .ref x0)]) (pc := 6) h dX2_findChords_6 rfl (by decide) rfl ?_
  refine T_sub [1, 0] rfl ?_
  exact T_fx (B := f_X2_findChords_L7 x0) (fl := fun u => [(0, .ref x0), (1, .int (u.1))]) (f := fun u => (u.2)) (fun rec7 hr7 u => t_X2_findChords_L7 h hs x0 hk0 rec7 hr7 u) FU ((0 : Int32), s1)
theorem M_X2_findChords (l : Launch) {iv : Sg → Prop} (hi : iv = St) (x0 : Nat) (σ : Sg) (hk0 : kd x0 2) : CTv l yX2_findChords cX2_findChords 2 none rm_X2_findChords iv [.ref x0] σ (f_X2_findChords x0 σ) := by
  subst hi
  exact CT_of (by decide) (Nat.le_of_ble_eq_true rfl) (fun K _ h _ hs _ _ => t_X2_findChords h hs x0 σ hk0)
/-! LuteTabs$Notes.add(III)I -/
theorem dX2_add_0 : decode cX2_add 0 = .ok (.aload_n 0, 1) := by decide +kernel
theorem dX2_add_1 : decode cX2_add 1 = .ok (.getfield 28, 3) := by decide +kernel
theorem dX2_add_4 : decode cX2_add 4 = .ok (.istore 4, 2) := by decide +kernel
theorem dX2_add_6 : decode cX2_add 6 = .ok (.iload 4, 2) := by decide +kernel
theorem dX2_add_8 : decode cX2_add 8 = .ok (.ifCond .le 58, 3) := by decide +kernel
theorem dX2_add_11 : decode cX2_add 11 = .ok (.aload_n 0, 1) := by decide +kernel
theorem dX2_add_12 : decode cX2_add 12 = .ok (.getfield 9, 3) := by decide +kernel
theorem dX2_add_15 : decode cX2_add 15 = .ok (.iload 4, 2) := by decide +kernel
theorem dX2_add_17 : decode cX2_add 17 = .ok (.iconst 1, 1) := by decide +kernel
theorem dX2_add_18 : decode cX2_add 18 = .ok (.isub, 1) := by decide +kernel
theorem dX2_add_19 : decode cX2_add 19 = .ok (.iaload, 1) := by decide +kernel
theorem dX2_add_20 : decode cX2_add 20 = .ok (.iload_n 1, 1) := by decide +kernel
theorem dX2_add_21 : decode cX2_add 21 = .ok (.if_icmp .gt 29, 3) := by decide +kernel
theorem dX2_add_24 : decode cX2_add 24 = .ok (.aload_n 0, 1) := by decide +kernel
theorem dX2_add_25 : decode cX2_add 25 = .ok (.getfield 9, 3) := by decide +kernel
theorem dX2_add_28 : decode cX2_add 28 = .ok (.iload 4, 2) := by decide +kernel
theorem dX2_add_30 : decode cX2_add 30 = .ok (.iconst 1, 1) := by decide +kernel
theorem dX2_add_31 : decode cX2_add 31 = .ok (.isub, 1) := by decide +kernel
theorem dX2_add_32 : decode cX2_add 32 = .ok (.iaload, 1) := by decide +kernel
theorem dX2_add_33 : decode cX2_add 33 = .ok (.iload_n 1, 1) := by decide +kernel
theorem dX2_add_34 : decode cX2_add 34 = .ok (.if_icmp .ne 32, 3) := by decide +kernel
theorem dX2_add_37 : decode cX2_add 37 = .ok (.aload_n 0, 1) := by decide +kernel
theorem dX2_add_38 : decode cX2_add 38 = .ok (.getfield 13, 3) := by decide +kernel
theorem dX2_add_41 : decode cX2_add 41 = .ok (.iload 4, 2) := by decide +kernel
theorem dX2_add_43 : decode cX2_add 43 = .ok (.iconst 1, 1) := by decide +kernel
theorem dX2_add_44 : decode cX2_add 44 = .ok (.isub, 1) := by decide +kernel
theorem dX2_add_45 : decode cX2_add 45 = .ok (.iaload, 1) := by decide +kernel
theorem dX2_add_46 : decode cX2_add 46 = .ok (.iload_n 2, 1) := by decide +kernel
theorem dX2_add_47 : decode cX2_add 47 = .ok (.if_icmp .le 19, 3) := by decide +kernel
theorem dX2_add_50 : decode cX2_add 50 = .ok (.aload_n 0, 1) := by decide +kernel
theorem dX2_add_51 : decode cX2_add 51 = .ok (.iload 4, 2) := by decide +kernel
theorem dX2_add_53 : decode cX2_add 53 = .ok (.iconst 1, 1) := by decide +kernel
theorem dX2_add_54 : decode cX2_add 54 = .ok (.isub, 1) := by decide +kernel
theorem dX2_add_55 : decode cX2_add 55 = .ok (.iload 4, 2) := by decide +kernel
theorem dX2_add_57 : decode cX2_add 57 = .ok (.invokevirtual 41, 3) := by decide +kernel
theorem dX2_add_60 : decode cX2_add 60 = .ok (.iinc 4 (-1), 3) := by decide +kernel
theorem dX2_add_63 : decode cX2_add 63 = .ok (.goto (-57), 3) := by decide +kernel
theorem dX2_add_66 : decode cX2_add 66 = .ok (.aload_n 0, 1) := by decide +kernel
theorem dX2_add_67 : decode cX2_add 67 = .ok (.getfield 9, 3) := by decide +kernel
theorem dX2_add_70 : decode cX2_add 70 = .ok (.iload 4, 2) := by decide +kernel
theorem dX2_add_72 : decode cX2_add 72 = .ok (.iload_n 1, 1) := by decide +kernel
theorem dX2_add_73 : decode cX2_add 73 = .ok (.iastore, 1) := by decide +kernel
theorem dX2_add_74 : decode cX2_add 74 = .ok (.aload_n 0, 1) := by decide +kernel
theorem dX2_add_75 : decode cX2_add 75 = .ok (.getfield 13, 3) := by decide +kernel
theorem dX2_add_78 : decode cX2_add 78 = .ok (.iload 4, 2) := by decide +kernel
theorem dX2_add_80 : decode cX2_add 80 = .ok (.iload_n 2, 1) := by decide +kernel
theorem dX2_add_81 : decode cX2_add 81 = .ok (.iastore, 1) := by decide +kernel
theorem dX2_add_82 : decode cX2_add 82 = .ok (.aload_n 0, 1) := by decide +kernel
theorem dX2_add_83 : decode cX2_add 83 = .ok (.getfield 16, 3) := by decide +kernel
theorem dX2_add_86 : decode cX2_add 86 = .ok (.iload 4, 2) := by decide +kernel
theorem dX2_add_88 : decode cX2_add 88 = .ok (.iload_n 3, 1) := by decide +kernel
theorem dX2_add_89 : decode cX2_add 89 = .ok (.iastore, 1) := by decide +kernel
theorem dX2_add_90 : decode cX2_add 90 = .ok (.aload_n 0, 1) := by decide +kernel
theorem dX2_add_91 : decode cX2_add 91 = .ok (.dup, 1) := by decide +kernel
theorem dX2_add_92 : decode cX2_add 92 = .ok (.getfield 28, 3) := by decide +kernel
theorem dX2_add_95 : decode cX2_add 95 = .ok (.iconst 1, 1) := by decide +kernel
theorem dX2_add_96 : decode cX2_add 96 = .ok (.iadd, 1) := by decide +kernel
theorem dX2_add_97 : decode cX2_add 97 = .ok (.putfield 28, 3) := by decide +kernel
theorem dX2_add_100 : decode cX2_add 100 = .ok (.aload_n 0, 1) := by decide +kernel
theorem dX2_add_101 : decode cX2_add 101 = .ok (.invokevirtual 45, 3) := by decide +kernel
theorem dX2_add_104 : decode cX2_add 104 = .ok (.iload 4, 2) := by decide +kernel
theorem dX2_add_106 : decode cX2_add 106 = .ok (.ireturn, 1) := by decide +kernel
abbrev rm_X2_add : Room := { frames := 3, cells := 0, slots := 0, locals := 65 }
def f_X2_add_L50 (rec6 : Int32 × Sg → Option (Int32 × Sg)) (x0 : Nat) (x1 : Int32) (x2 : Int32) (x3 : Int32) (x4 : Int32)  (σ : Sg) : Option (Int32 × Sg) := bd (f_X2_move x0 (x4 - (1 : Int32)) x4 σ) fun _ s1 => lB (x4 + (-1 : Int32)) fun v2 => rec6 (v2, s1)
def f_X2_add_L66  (x0 : Nat) (x1 : Int32) (x2 : Int32) (x3 : Int32) (x4 : Int32)  (σ : Sg) : Option (Int32 × Sg) := ck (inb x4 (aL (gR σ x0 0))) (lB (pI σ (gR σ x0 0) x4.toNatClampNeg x1) fun s2 => ck (inb x4 (aL (gR s2 x0 1))) (lB (pI s2 (gR s2 x0 1) x4.toNatClampNeg x2) fun s4 => ck (inb x4 (aL (gR s4 x0 2))) (lB (pI s4 (gR s4 x0 2) x4.toNatClampNeg x3) fun s6 => lB (pI s6 x0 6 ((gI s6 x0 6) + (1 : Int32))) fun s7 => bd (f_X2_findChords x0 s7) fun _ s8 => some (x4, s8))))
def f_X2_add_L6  (x0 : Nat) (x1 : Int32) (x2 : Int32) (x3 : Int32) (rec6 : Int32 × Sg → Option (Int32 × Sg)) (s : Int32 × Sg) : Option (Int32 × Sg) := (if (s.1) ≤ 0 then f_X2_add_L66 x0 x1 x2 x3 (s.1) (s.2) else ck (inb ((s.1) - (1 : Int32)) (aL (gR (s.2) x0 0))) ((if x1 < (gI (s.2) (gR (s.2) x0 0) ((s.1) - (1 : Int32)).toNatClampNeg) then f_X2_add_L50 rec6 x0 x1 x2 x3 (s.1) (s.2) else ck (inb ((s.1) - (1 : Int32)) (aL (gR (s.2) x0 0))) ((if (gI (s.2) (gR (s.2) x0 0) ((s.1) - (1 : Int32)).toNatClampNeg) = x1 then ck (inb ((s.1) - (1 : Int32)) (aL (gR (s.2) x0 1))) ((if (gI (s.2) (gR (s.2) x0 1) ((s.1) - (1 : Int32)).toNatClampNeg) ≤ x2 then f_X2_add_L66 x0 x1 x2 x3 (s.1) (s.2) else f_X2_add_L50 rec6 x0 x1 x2 x3 (s.1) (s.2))) else f_X2_add_L66 x0 x1 x2 x3 (s.1) (s.2))))))
def f_X2_add (x0 : Nat) (x1 : Int32) (x2 : Int32) (x3 : Int32) (σ : Sg) : Option (Int32 × Sg) := lB ((gI σ x0 6)) fun v1 => fx (f_X2_add_L6 x0 x1 x2 x3) FU (v1, σ)
theorem t_X2_add_L50 {K : Cx} (h : Ok K cX2_add RX2 5 rm_X2_add (some .int)) (hs : kiv K = St) (x0 : Nat) (x1 : Int32) (x2 : Int32) (x3 : Int32) (x4 : Int32)  (σ : Sg) (rec6 : Int32 × Sg → Option (Int32 × Sg)) (hr6 : ∀ u, T K (QI K) 6 [(0, .ref x0), (1, .int x1), (2, .int x2), (3, .int x3), (4, .int (u.1))] [] 0 0 (u.2) (rec6 u)) (hk0 : kd x0 2)  : T K (QI K) 50 [(0, .ref x0), (1, .int x1), (2, .int x2), (3, .int x3), (4, .int x4)] [] 0 0 σ (f_X2_add_L50 rec6 x0 x1 x2 x3 x4 σ) := by
  unfold f_X2_add_L50
  refine T_aload_n (pc := 50) h dX2_add_50 rfl 0 rfl ?_
  refine T_iload (pc := 51) h dX2_add_51 4 rfl ?_
  refine T_iconst (pc := 53) h dX2_add_53 ki_1 ?_
  refine T_isub (pc := 54) h dX2_add_54 ?_
  refine T_iload (pc := 55) h dX2_add_55 4 rfl ?_
  refine T_callVv (pc := 57) h (M_X2_move (kl K) hs x0 (x4 - (1 : Int32)) x4 σ hk0) mv_X2_move hs hk0 ml_X2_41 rfl ⟨Nat.le_of_ble_eq_true rfl, Nat.le_of_ble_eq_true rfl⟩ ⟨Nat.le_refl 0, Nat.le_refl 0⟩ (Nat.le_of_ble_eq_true rfl) dX2_add_57 rfl (fun _ s1 => ?_)
  refine T_iinc (fl := fun v2 => [(4, .int v2), (0, .ref x0), (1, .int x1), (2, .int x2), (3, .int x3)]) (pc := 60) h dX2_add_60 4 rfl ki_m1 (by decide) (fun _ => rfl) (fun v2 => ?_)
  refine T_goto (pc := 63) (tgt := 6) h dX2_add_63 (by decide) ?_
  refine T_sub [1, 2, 3, 4, 0] rfl ?_
  exact hr6 (v2, s1)
theorem t_X2_add_L66 {K : Cx} (h : Ok K cX2_add RX2 5 rm_X2_add (some .int)) (hs : kiv K = St) (x0 : Nat) (x1 : Int32) (x2 : Int32) (x3 : Int32) (x4 : Int32)  (σ : Sg)  (hk0 : kd x0 2)  : T K (QI K) 66 [(0, .ref x0), (1, .int x1), (2, .int x2), (3, .int x3), (4, .int x4)] [] 0 0 σ (f_X2_add_L66 x0 x1 x2 x3 x4 σ) := by
  unfold f_X2_add_L66
  refine T_aload_n (pc := 66) h dX2_add_66 rfl 0 rfl ?_
  refine T_gR (pc := 67) h hs hk0 fl_X2_9 rfl fk_2_0 dX2_add_67 (fun hq1 => ?_)
  refine T_iload (pc := 70) h dX2_add_70 4 rfl ?_
  refine T_iload_n (pc := 72) h dX2_add_72 rfl 1 rfl ?_
  refine T_iast (pc := 73) h hs hq1 dX2_add_73 ?_
  refine T_letS fun s2 => ?_
  refine T_aload_n (pc := 74) h dX2_add_74 rfl 0 rfl ?_
  refine T_gR (pc := 75) h hs hk0 fl_X2_13 rfl fk_2_1 dX2_add_75 (fun hq3 => ?_)
  refine T_iload (pc := 78) h dX2_add_78 4 rfl ?_
  refine T_iload_n (pc := 80) h dX2_add_80 rfl 2 rfl ?_
  refine T_iast (pc := 81) h hs hq3 dX2_add_81 ?_
  refine T_letS fun s4 => ?_
  refine T_aload_n (pc := 82) h dX2_add_82 rfl 0 rfl ?_
  refine T_gR (pc := 83) h hs hk0 fl_X2_16 rfl fk_2_2 dX2_add_83 (fun hq5 => ?_)
  refine T_iload (pc := 86) h dX2_add_86 4 rfl ?_
  refine T_iload_n (pc := 88) h dX2_add_88 rfl 3 rfl ?_
  refine T_iast (pc := 89) h hs hq5 dX2_add_89 ?_
  refine T_letS fun s6 => ?_
  refine T_aload_n (pc := 90) h dX2_add_90 rfl 0 rfl ?_
  refine T_dup (pc := 91) h dX2_add_91 rfl ?_
  refine T_getI (pc := 92) h hs hk0 fl_X2_28 rfl dX2_add_92 ?_
  refine T_iconst (pc := 95) h dX2_add_95 ki_1 ?_
  refine T_iadd (pc := 96) h dX2_add_96 ?_
  refine T_putI (pc := 97) h hs hk0 fl_X2_28 rfl rfl dX2_add_97 ?_
  refine T_letS fun s7 => ?_
  refine T_aload_n (pc := 100) h dX2_add_100 rfl 0 rfl ?_
  refine T_callVv (pc := 101) h (M_X2_findChords (kl K) hs x0 s7 hk0) mv_X2_findChords hs hk0 ml_X2_45 rfl ⟨Nat.le_of_ble_eq_true rfl, Nat.le_of_ble_eq_true rfl⟩ ⟨Nat.le_refl 0, Nat.le_refl 0⟩ (Nat.le_of_ble_eq_true rfl) dX2_add_101 rfl (fun _ s8 => ?_)
  refine T_iload (pc := 104) h dX2_add_104 4 rfl ?_
  exact T_ireturn (pc := 106) h (Nat.zero_le _) (Nat.zero_le _) dX2_add_106
theorem t_X2_add_L6 {K : Cx} (h : Ok K cX2_add RX2 5 rm_X2_add (some .int)) (hs : kiv K = St) (x0 : Nat) (x1 : Int32) (x2 : Int32) (x3 : Int32)  (hk0 : kd x0 2) (rec6 : Int32 × Sg → Option (Int32 × Sg)) (hr6 : ∀ u, T K (QI K) 6 [(0, .ref x0), (1, .int x1), (2, .int x2), (3, .int x3), (4, .int (u.1))] [] 0 0 (u.2) (rec6 u)) (s : Int32 × Sg) : T K (QI K) 6 [(0, .ref x0), (1, .int x1), (2, .int x2), (3, .int x3), (4, .int (s.1))] [] 0 0 (s.2) (f_X2_add_L6 x0 x1 x2 x3 rec6 s) := by
  unfold f_X2_add_L6
  refine T_iload (pc := 6) h dX2_add_6 4 rfl ?_
  refine T_if_le (pc := 8) (tgt := 66) h dX2_add_8 (by decide) ?_ ?_
  · refine T_sub [0, 1, 2, 3, 4] rfl ?_
    exact t_X2_add_L66 h hs x0 x1 x2 x3 (s.1) (s.2) hk0
  · refine T_aload_n (pc := 11) h dX2_add_11 rfl 0 rfl ?_
    refine T_gR (pc := 12) h hs hk0 fl_X2_9 rfl fk_2_0 dX2_add_12 (fun hq1 => ?_)
    refine T_iload (pc := 15) h dX2_add_15 4 rfl ?_
    refine T_iconst (pc := 17) h dX2_add_17 ki_1 ?_
    refine T_isub (pc := 18) h dX2_add_18 ?_
    refine T_iald (pc := 19) h hs hq1 dX2_add_19 ?_
    refine T_iload_n (pc := 20) h dX2_add_20 rfl 1 rfl ?_
    refine T_icmp_gt (pc := 21) (tgt := 50) h dX2_add_21 (by decide) ?_ ?_
    · refine T_sub [0, 1, 2, 3, 4] rfl ?_
      exact t_X2_add_L50 h hs x0 x1 x2 x3 (s.1) (s.2) rec6 hr6 hk0
    · refine T_aload_n (pc := 24) h dX2_add_24 rfl 0 rfl ?_
      refine T_gR (pc := 25) h hs hk0 fl_X2_9 rfl fk_2_0 dX2_add_25 (fun hq2 => ?_)
      refine T_iload (pc := 28) h dX2_add_28 4 rfl ?_
      refine T_iconst (pc := 30) h dX2_add_30 ki_1 ?_
      refine T_isub (pc := 31) h dX2_add_31 ?_
      refine T_iald (pc := 32) h hs hq2 dX2_add_32 ?_
      refine T_iload_n (pc := 33) h dX2_add_33 rfl 1 rfl ?_
      refine T_icmp_ne (pc := 34) (tgt := 66) h dX2_add_34 (by decide) ?_ ?_
      · refine T_sub [0, 1, 2, 3, 4] rfl ?_
        exact t_X2_add_L66 h hs x0 x1 x2 x3 (s.1) (s.2) hk0
      · refine T_aload_n (pc := 37) h dX2_add_37 rfl 0 rfl ?_
        refine T_gR (pc := 38) h hs hk0 fl_X2_13 rfl fk_2_1 dX2_add_38 (fun hq3 => ?_)
        refine T_iload (pc := 41) h dX2_add_41 4 rfl ?_
        refine T_iconst (pc := 43) h dX2_add_43 ki_1 ?_
        refine T_isub (pc := 44) h dX2_add_44 ?_
        refine T_iald (pc := 45) h hs hq3 dX2_add_45 ?_
        refine T_iload_n (pc := 46) h dX2_add_46 rfl 2 rfl ?_
        refine T_icmp_le (pc := 47) (tgt := 66) h dX2_add_47 (by decide) ?_ ?_
        · refine T_sub [0, 1, 2, 3, 4] rfl ?_
          exact t_X2_add_L66 h hs x0 x1 x2 x3 (s.1) (s.2) hk0
        · refine T_sub [0, 1, 2, 3, 4] rfl ?_
          exact t_X2_add_L50 h hs x0 x1 x2 x3 (s.1) (s.2) rec6 hr6 hk0
theorem t_X2_add {K : Cx} (h : Ok K cX2_add RX2 5 rm_X2_add (some .int)) (hs : kiv K = St) (x0 : Nat) (x1 : Int32) (x2 : Int32) (x3 : Int32) (σ : Sg) (hk0 : kd x0 2) : T K (QI K) 0 [(0, .ref x0), (1, .int x1), (2, .int x2), (3, .int x3)] [] 0 0 σ (f_X2_add x0 x1 x2 x3 σ) := by
  unfold f_X2_add
  refine T_aload_n (pc := 0) h dX2_add_0 rfl 0 rfl ?_
  refine T_getI (pc := 1) h hs hk0 fl_X2_28 rfl dX2_add_1 ?_
  refine T_letI fun v1 => ?_
  refine T_istore (lv' := [(4, .int v1), (0, .ref x0), (1, .int x1), (2, .int x2), (3, .int x3)]) (pc := 4) h dX2_add_4 (by decide) rfl ?_
  refine T_sub [1, 2, 3, 4, 0] rfl ?_
  exact T_fx (B := f_X2_add_L6 x0 x1 x2 x3) (fl := fun u => [(0, .ref x0), (1, .int x1), (2, .int x2), (3, .int x3), (4, .int (u.1))]) (f := fun u => (u.2)) (fun rec6 hr6 u => t_X2_add_L6 h hs x0 x1 x2 x3 hk0 rec6 hr6 u) FU (v1, σ)
theorem M_X2_add (l : Launch) {iv : Sg → Prop} (hi : iv = St) (x0 : Nat) (x1 : Int32) (x2 : Int32) (x3 : Int32) (σ : Sg) (hk0 : kd x0 2) : CTi l yX2_add cX2_add 5 (some .int) rm_X2_add iv [.ref x0, .int x1, .int x2, .int x3] σ (f_X2_add x0 x1 x2 x3 σ) := by
  subst hi
  exact CT_of (by decide) (Nat.le_of_ble_eq_true rfl) (fun K _ h _ hs _ _ => t_X2_add h hs x0 x1 x2 x3 σ hk0)
/-! LuteTabs$Notes.has(I)Z -/
theorem dX2_has_0 : decode cX2_has 0 = .ok (.iload_n 1, 1) := by decide +kernel
theorem dX2_has_1 : decode cX2_has 1 = .ok (.ifCond .lt 15, 3) := by decide +kernel
theorem dX2_has_4 : decode cX2_has 4 = .ok (.iload_n 1, 1) := by decide +kernel
theorem dX2_has_5 : decode cX2_has 5 = .ok (.aload_n 0, 1) := by decide +kernel
theorem dX2_has_6 : decode cX2_has 6 = .ok (.getfield 28, 3) := by decide +kernel
theorem dX2_has_9 : decode cX2_has 9 = .ok (.if_icmp .ge 7, 3) := by decide +kernel
theorem dX2_has_12 : decode cX2_has 12 = .ok (.iconst 1, 1) := by decide +kernel
theorem dX2_has_13 : decode cX2_has 13 = .ok (.goto 4, 3) := by decide +kernel
theorem dX2_has_16 : decode cX2_has 16 = .ok (.iconst 0, 1) := by decide +kernel
theorem dX2_has_17 : decode cX2_has 17 = .ok (.ireturn, 1) := by decide +kernel
abbrev rm_X2_has : Room := { frames := 0, cells := 0, slots := 0, locals := 0 }
def f_X2_has_L17   (y0 : Int32) (σ : Sg) : Option (Int32 × Sg) := ck (b01 y0) (some (y0, σ))
def f_X2_has_L16    (σ : Sg) : Option (Int32 × Sg) := f_X2_has_L17 (0 : Int32) σ
def f_X2_has (x0 : Nat) (x1 : Int32) (σ : Sg) : Option (Int32 × Sg) := (if x1 < 0 then f_X2_has_L16 σ else (if (gI σ x0 6) ≤ x1 then f_X2_has_L16 σ else f_X2_has_L17 (1 : Int32) σ))
theorem t_X2_has_L17 {K : Cx} (h : Ok K cX2_has RX2 2 rm_X2_has (some .boolean)) (hs : kiv K = St)  (y0 : Int32) (σ : Sg)    : T K (QI K) 17 [] [.int y0] 0 0 σ (f_X2_has_L17 y0 σ) := by
  unfold f_X2_has_L17
  exact T_zreturn (pc := 17) h (Nat.zero_le _) (Nat.zero_le _) dX2_has_17
theorem t_X2_has_L16 {K : Cx} (h : Ok K cX2_has RX2 2 rm_X2_has (some .boolean)) (hs : kiv K = St)   (σ : Sg)    : T K (QI K) 16 [] [] 0 0 σ (f_X2_has_L16 σ) := by
  unfold f_X2_has_L16
  refine T_iconst (pc := 16) h dX2_has_16 ki_0 ?_
  refine T_sub [] rfl ?_
  exact t_X2_has_L17 h hs (0 : Int32) σ
theorem t_X2_has {K : Cx} (h : Ok K cX2_has RX2 2 rm_X2_has (some .boolean)) (hs : kiv K = St) (x0 : Nat) (x1 : Int32) (σ : Sg) (hk0 : kd x0 2) : T K (QI K) 0 [(0, .ref x0), (1, .int x1)] [] 0 0 σ (f_X2_has x0 x1 σ) := by
  unfold f_X2_has
  refine T_iload_n (pc := 0) h dX2_has_0 rfl 1 rfl ?_
  refine T_if_lt (pc := 1) (tgt := 16) h dX2_has_1 (by decide) ?_ ?_
  · refine T_sub [] rfl ?_
    exact t_X2_has_L16 h hs σ
  · refine T_iload_n (pc := 4) h dX2_has_4 rfl 1 rfl ?_
    refine T_aload_n (pc := 5) h dX2_has_5 rfl 0 rfl ?_
    refine T_getI (pc := 6) h hs hk0 fl_X2_28 rfl dX2_has_6 ?_
    refine T_icmp_ge (pc := 9) (tgt := 16) h dX2_has_9 (by decide) ?_ ?_
    · refine T_sub [] rfl ?_
      exact t_X2_has_L16 h hs σ
    · refine T_iconst (pc := 12) h dX2_has_12 ki_1 ?_
      refine T_goto (pc := 13) (tgt := 17) h dX2_has_13 (by decide) ?_
      refine T_sub [] rfl ?_
      exact t_X2_has_L17 h hs (1 : Int32) σ
theorem M_X2_has (l : Launch) {iv : Sg → Prop} (hi : iv = St) (x0 : Nat) (x1 : Int32) (σ : Sg) (hk0 : kd x0 2) : CTi l yX2_has cX2_has 2 (some .boolean) rm_X2_has iv [.ref x0, .int x1] σ (f_X2_has x0 x1 σ) := by
  subst hi
  exact CT_of (by decide) (Nat.le_of_ble_eq_true rfl) (fun K _ h _ hs _ _ => t_X2_has h hs x0 x1 σ hk0)
/-! LuteTabs$Notes.remove(I)V -/
theorem dX2_remove_0 : decode cX2_remove 0 = .ok (.aload_n 0, 1) := by decide +kernel
theorem dX2_remove_1 : decode cX2_remove 1 = .ok (.dup, 1) := by decide +kernel
theorem dX2_remove_2 : decode cX2_remove 2 = .ok (.getfield 28, 3) := by decide +kernel
theorem dX2_remove_5 : decode cX2_remove 5 = .ok (.iconst 1, 1) := by decide +kernel
theorem dX2_remove_6 : decode cX2_remove 6 = .ok (.isub, 1) := by decide +kernel
theorem dX2_remove_7 : decode cX2_remove 7 = .ok (.putfield 28, 3) := by decide +kernel
theorem dX2_remove_10 : decode cX2_remove 10 = .ok (.iload_n 1, 1) := by decide +kernel
theorem dX2_remove_11 : decode cX2_remove 11 = .ok (.istore_n 2, 1) := by decide +kernel
theorem dX2_remove_12 : decode cX2_remove 12 = .ok (.iload_n 2, 1) := by decide +kernel
theorem dX2_remove_13 : decode cX2_remove 13 = .ok (.aload_n 0, 1) := by decide +kernel
theorem dX2_remove_14 : decode cX2_remove 14 = .ok (.getfield 28, 3) := by decide +kernel
theorem dX2_remove_17 : decode cX2_remove 17 = .ok (.if_icmp .ge 17, 3) := by decide +kernel
theorem dX2_remove_20 : decode cX2_remove 20 = .ok (.aload_n 0, 1) := by decide +kernel
theorem dX2_remove_21 : decode cX2_remove 21 = .ok (.iload_n 2, 1) := by decide +kernel
theorem dX2_remove_22 : decode cX2_remove 22 = .ok (.iconst 1, 1) := by decide +kernel
theorem dX2_remove_23 : decode cX2_remove 23 = .ok (.iadd, 1) := by decide +kernel
theorem dX2_remove_24 : decode cX2_remove 24 = .ok (.iload_n 2, 1) := by decide +kernel
theorem dX2_remove_25 : decode cX2_remove 25 = .ok (.invokevirtual 41, 3) := by decide +kernel
theorem dX2_remove_28 : decode cX2_remove 28 = .ok (.iinc 2 1, 3) := by decide +kernel
theorem dX2_remove_31 : decode cX2_remove 31 = .ok (.goto (-19), 3) := by decide +kernel
theorem dX2_remove_34 : decode cX2_remove 34 = .ok (.aload_n 0, 1) := by decide +kernel
theorem dX2_remove_35 : decode cX2_remove 35 = .ok (.invokevirtual 45, 3) := by decide +kernel
theorem dX2_remove_38 : decode cX2_remove 38 = .ok (.return_, 1) := by decide +kernel
abbrev rm_X2_remove : Room := { frames := 3, cells := 0, slots := 0, locals := 65 }
def f_X2_remove_L12  (x0 : Nat) (rec12 : Int32 × Sg → Option (Unit × Sg)) (s : Int32 × Sg) : Option (Unit × Sg) := (if (gI (s.2) x0 6) ≤ (s.1) then bd (f_X2_findChords x0 (s.2)) fun _ s1 => some ((), s1) else bd (f_X2_move x0 ((s.1) + (1 : Int32)) (s.1) (s.2)) fun _ s2 => lB ((s.1) + (1 : Int32)) fun v3 => rec12 (v3, s2))
def f_X2_remove (x0 : Nat) (x1 : Int32) (σ : Sg) : Option (Unit × Sg) := lB (pI σ x0 6 ((gI σ x0 6) - (1 : Int32))) fun s1 => fx (f_X2_remove_L12 x0) FU (x1, s1)
theorem t_X2_remove_L12 {K : Cx} (h : Ok K cX2_remove RX2 3 rm_X2_remove none) (hs : kiv K = St) (x0 : Nat)  (hk0 : kd x0 2) (rec12 : Int32 × Sg → Option (Unit × Sg)) (hr12 : ∀ u, T K (QV K) 12 [(0, .ref x0), (2, .int (u.1))] [] 0 0 (u.2) (rec12 u)) (s : Int32 × Sg) : T K (QV K) 12 [(0, .ref x0), (2, .int (s.1))] [] 0 0 (s.2) (f_X2_remove_L12 x0 rec12 s) := by
  unfold f_X2_remove_L12
  refine T_iload_n (pc := 12) h dX2_remove_12 rfl 1 rfl ?_
  refine T_aload_n (pc := 13) h dX2_remove_13 rfl 0 rfl ?_
  refine T_getI (pc := 14) h hs hk0 fl_X2_28 rfl dX2_remove_14 ?_
  refine T_icmp_ge (pc := 17) (tgt := 34) h dX2_remove_17 (by decide) ?_ ?_
  · refine T_aload_n (pc := 34) h dX2_remove_34 rfl 0 rfl ?_
    refine T_callVv (pc := 35) h (M_X2_findChords (kl K) hs x0 (s.2) hk0) mv_X2_findChords hs hk0 ml_X2_45 rfl ⟨Nat.le_of_ble_eq_true rfl, Nat.le_of_ble_eq_true rfl⟩ ⟨Nat.le_refl 0, Nat.le_refl 0⟩ (Nat.le_of_ble_eq_true rfl) dX2_remove_35 rfl (fun _ s1 => ?_)
    exact T_return (pc := 38) h (Nat.zero_le _) (Nat.zero_le _) dX2_remove_38
  · refine T_aload_n (pc := 20) h dX2_remove_20 rfl 0 rfl ?_
    refine T_iload_n (pc := 21) h dX2_remove_21 rfl 1 rfl ?_
    refine T_iconst (pc := 22) h dX2_remove_22 ki_1 ?_
    refine T_iadd (pc := 23) h dX2_remove_23 ?_
    refine T_iload_n (pc := 24) h dX2_remove_24 rfl 1 rfl ?_
    refine T_callVv (pc := 25) h (M_X2_move (kl K) hs x0 ((s.1) + (1 : Int32)) (s.1) (s.2) hk0) mv_X2_move hs hk0 ml_X2_41 rfl ⟨Nat.le_of_ble_eq_true rfl, Nat.le_of_ble_eq_true rfl⟩ ⟨Nat.le_refl 0, Nat.le_refl 0⟩ (Nat.le_of_ble_eq_true rfl) dX2_remove_25 rfl (fun _ s2 => ?_)
    refine T_iinc (fl := fun v3 => [(2, .int v3), (0, .ref x0)]) (pc := 28) h dX2_remove_28 1 rfl ki_1 (by decide) (fun _ => rfl) (fun v3 => ?_)
    refine T_goto (pc := 31) (tgt := 12) h dX2_remove_31 (by decide) ?_
    refine T_sub [1, 0] rfl ?_
    exact hr12 (v3, s2)
theorem t_X2_remove {K : Cx} (h : Ok K cX2_remove RX2 3 rm_X2_remove none) (hs : kiv K = St) (x0 : Nat) (x1 : Int32) (σ : Sg) (hk0 : kd x0 2) : T K (QV K) 0 [(0, .ref x0), (1, .int x1)] [] 0 0 σ (f_X2_remove x0 x1 σ) := by
  unfold f_X2_remove
  refine T_aload_n (pc := 0) h dX2_remove_0 rfl 0 rfl ?_
  refine T_dup (pc := 1) h dX2_remove_1 rfl ?_
  refine T_getI (pc := 2) h hs hk0 fl_X2_28 rfl dX2_remove_2 ?_
  refine T_iconst (pc := 5) h dX2_remove_5 ki_1 ?_
  refine T_isub (pc := 6) h dX2_remove_6 ?_
  refine T_putI (pc := 7) h hs hk0 fl_X2_28 rfl rfl dX2_remove_7 ?_
  refine T_letS fun s1 => ?_
  refine T_iload_n (pc := 10) h dX2_remove_10 rfl 1 rfl ?_
  refine T_istore_n (lv' := [(2, .int x1), (0, .ref x0), (1, .int x1)]) (pc := 11) h dX2_remove_11 rfl (by decide) rfl ?_
  refine T_sub [1, 0] rfl ?_
  exact T_fx (B := f_X2_remove_L12 x0) (fl := fun u => [(0, .ref x0), (2, .int (u.1))]) (f := fun u => (u.2)) (fun rec12 hr12 u => t_X2_remove_L12 h hs x0 hk0 rec12 hr12 u) FU (x1, s1)
theorem M_X2_remove (l : Launch) {iv : Sg → Prop} (hi : iv = St) (x0 : Nat) (x1 : Int32) (σ : Sg) (hk0 : kd x0 2) : CTv l yX2_remove cX2_remove 3 none rm_X2_remove iv [.ref x0, .int x1] σ (f_X2_remove x0 x1 σ) := by
  subst hi
  exact CT_of (by decide) (Nat.le_of_ble_eq_true rfl) (fun K _ h _ hs _ _ => t_X2_remove h hs x0 x1 σ hk0)
/-! LuteTabs$Notes.removeAll()V -/
theorem dX2_removeAll_0 : decode cX2_removeAll 0 = .ok (.aload_n 0, 1) := by decide +kernel
theorem dX2_removeAll_1 : decode cX2_removeAll 1 = .ok (.iconst 0, 1) := by decide +kernel
theorem dX2_removeAll_2 : decode cX2_removeAll 2 = .ok (.putfield 28, 3) := by decide +kernel
theorem dX2_removeAll_5 : decode cX2_removeAll 5 = .ok (.aload_n 0, 1) := by decide +kernel
theorem dX2_removeAll_6 : decode cX2_removeAll 6 = .ok (.invokevirtual 45, 3) := by decide +kernel
theorem dX2_removeAll_9 : decode cX2_removeAll 9 = .ok (.return_, 1) := by decide +kernel
abbrev rm_X2_removeAll : Room := { frames := 3, cells := 0, slots := 0, locals := 65 }
def f_X2_removeAll (x0 : Nat) (σ : Sg) : Option (Unit × Sg) := lB (pI σ x0 6 (0 : Int32)) fun s1 => bd (f_X2_findChords x0 s1) fun _ s2 => some ((), s2)
theorem t_X2_removeAll {K : Cx} (h : Ok K cX2_removeAll RX2 1 rm_X2_removeAll none) (hs : kiv K = St) (x0 : Nat) (σ : Sg) (hk0 : kd x0 2) : T K (QV K) 0 [(0, .ref x0)] [] 0 0 σ (f_X2_removeAll x0 σ) := by
  unfold f_X2_removeAll
  refine T_aload_n (pc := 0) h dX2_removeAll_0 rfl 0 rfl ?_
  refine T_iconst (pc := 1) h dX2_removeAll_1 ki_0 ?_
  refine T_putI (pc := 2) h hs hk0 fl_X2_28 rfl rfl dX2_removeAll_2 ?_
  refine T_letS fun s1 => ?_
  refine T_aload_n (pc := 5) h dX2_removeAll_5 rfl 0 rfl ?_
  refine T_callVv (pc := 6) h (M_X2_findChords (kl K) hs x0 s1 hk0) mv_X2_findChords hs hk0 ml_X2_45 rfl ⟨Nat.le_of_ble_eq_true rfl, Nat.le_of_ble_eq_true rfl⟩ ⟨Nat.le_refl 0, Nat.le_refl 0⟩ (Nat.le_of_ble_eq_true rfl) dX2_removeAll_6 rfl (fun _ s2 => ?_)
  exact T_return (pc := 9) h (Nat.zero_le _) (Nat.zero_le _) dX2_removeAll_9
theorem M_X2_removeAll (l : Launch) {iv : Sg → Prop} (hi : iv = St) (x0 : Nat) (σ : Sg) (hk0 : kd x0 2) : CTv l yX2_removeAll cX2_removeAll 1 none rm_X2_removeAll iv [.ref x0] σ (f_X2_removeAll x0 σ) := by
  subst hi
  exact CT_of (by decide) (Nat.le_of_ble_eq_true rfl) (fun K _ h _ hs _ _ => t_X2_removeAll h hs x0 σ hk0)
/-! LuteTabs$Sheet.hasRow(II)Z -/
theorem dX6_hasRow_0 : decode cX6_hasRow 0 = .ok (.iload_n 1, 1) := by decide +kernel
theorem dX6_hasRow_1 : decode cX6_hasRow 1 = .ok (.ifCond .lt 21, 3) := by decide +kernel
theorem dX6_hasRow_4 : decode cX6_hasRow 4 = .ok (.iload_n 2, 1) := by decide +kernel
theorem dX6_hasRow_5 : decode cX6_hasRow 5 = .ok (.ifCond .lt 17, 3) := by decide +kernel
theorem dX6_hasRow_8 : decode cX6_hasRow 8 = .ok (.iload_n 2, 1) := by decide +kernel
theorem dX6_hasRow_9 : decode cX6_hasRow 9 = .ok (.aload_n 0, 1) := by decide +kernel
theorem dX6_hasRow_10 : decode cX6_hasRow 10 = .ok (.getfield 17, 3) := by decide +kernel
theorem dX6_hasRow_13 : decode cX6_hasRow 13 = .ok (.iload_n 1, 1) := by decide +kernel
theorem dX6_hasRow_14 : decode cX6_hasRow 14 = .ok (.isub, 1) := by decide +kernel
theorem dX6_hasRow_15 : decode cX6_hasRow 15 = .ok (.if_icmp .gt 7, 3) := by decide +kernel
theorem dX6_hasRow_18 : decode cX6_hasRow 18 = .ok (.iconst 1, 1) := by decide +kernel
theorem dX6_hasRow_19 : decode cX6_hasRow 19 = .ok (.goto 4, 3) := by decide +kernel
theorem dX6_hasRow_22 : decode cX6_hasRow 22 = .ok (.iconst 0, 1) := by decide +kernel
theorem dX6_hasRow_23 : decode cX6_hasRow 23 = .ok (.ireturn, 1) := by decide +kernel
abbrev rm_X6_hasRow : Room := { frames := 0, cells := 0, slots := 0, locals := 0 }
def f_X6_hasRow_L23   (y0 : Int32) (σ : Sg) : Option (Int32 × Sg) := ck (b01 y0) (some (y0, σ))
def f_X6_hasRow_L22    (σ : Sg) : Option (Int32 × Sg) := f_X6_hasRow_L23 (0 : Int32) σ
def f_X6_hasRow (x0 : Nat) (x1 : Int32) (x2 : Int32) (σ : Sg) : Option (Int32 × Sg) := (if x1 < 0 then f_X6_hasRow_L22 σ else (if x2 < 0 then f_X6_hasRow_L22 σ else (if ((gI σ x0 2) - x1) < x2 then f_X6_hasRow_L22 σ else f_X6_hasRow_L23 (1 : Int32) σ)))
theorem t_X6_hasRow_L23 {K : Cx} (h : Ok K cX6_hasRow RX6 3 rm_X6_hasRow (some .boolean)) (hs : kiv K = St)  (y0 : Int32) (σ : Sg)    : T K (QI K) 23 [] [.int y0] 0 0 σ (f_X6_hasRow_L23 y0 σ) := by
  unfold f_X6_hasRow_L23
  exact T_zreturn (pc := 23) h (Nat.zero_le _) (Nat.zero_le _) dX6_hasRow_23
theorem t_X6_hasRow_L22 {K : Cx} (h : Ok K cX6_hasRow RX6 3 rm_X6_hasRow (some .boolean)) (hs : kiv K = St)   (σ : Sg)    : T K (QI K) 22 [] [] 0 0 σ (f_X6_hasRow_L22 σ) := by
  unfold f_X6_hasRow_L22
  refine T_iconst (pc := 22) h dX6_hasRow_22 ki_0 ?_
  refine T_sub [] rfl ?_
  exact t_X6_hasRow_L23 h hs (0 : Int32) σ
theorem t_X6_hasRow {K : Cx} (h : Ok K cX6_hasRow RX6 3 rm_X6_hasRow (some .boolean)) (hs : kiv K = St) (x0 : Nat) (x1 : Int32) (x2 : Int32) (σ : Sg) (hk0 : kd x0 6) : T K (QI K) 0 [(0, .ref x0), (1, .int x1), (2, .int x2)] [] 0 0 σ (f_X6_hasRow x0 x1 x2 σ) := by
  unfold f_X6_hasRow
  refine T_iload_n (pc := 0) h dX6_hasRow_0 rfl 1 rfl ?_
  refine T_if_lt (pc := 1) (tgt := 22) h dX6_hasRow_1 (by decide) ?_ ?_
  · refine T_sub [] rfl ?_
    exact t_X6_hasRow_L22 h hs σ
  · refine T_iload_n (pc := 4) h dX6_hasRow_4 rfl 2 rfl ?_
    refine T_if_lt (pc := 5) (tgt := 22) h dX6_hasRow_5 (by decide) ?_ ?_
    · refine T_sub [] rfl ?_
      exact t_X6_hasRow_L22 h hs σ
    · refine T_iload_n (pc := 8) h dX6_hasRow_8 rfl 2 rfl ?_
      refine T_aload_n (pc := 9) h dX6_hasRow_9 rfl 0 rfl ?_
      refine T_getI (pc := 10) h hs hk0 fl_X6_17 rfl dX6_hasRow_10 ?_
      refine T_iload_n (pc := 13) h dX6_hasRow_13 rfl 1 rfl ?_
      refine T_isub (pc := 14) h dX6_hasRow_14 ?_
      refine T_icmp_gt (pc := 15) (tgt := 22) h dX6_hasRow_15 (by decide) ?_ ?_
      · refine T_sub [] rfl ?_
        exact t_X6_hasRow_L22 h hs σ
      · refine T_iconst (pc := 18) h dX6_hasRow_18 ki_1 ?_
        refine T_goto (pc := 19) (tgt := 23) h dX6_hasRow_19 (by decide) ?_
        refine T_sub [] rfl ?_
        exact t_X6_hasRow_L23 h hs (1 : Int32) σ
theorem M_X6_hasRow (l : Launch) {iv : Sg → Prop} (hi : iv = St) (x0 : Nat) (x1 : Int32) (x2 : Int32) (σ : Sg) (hk0 : kd x0 6) : CTi l yX6_hasRow cX6_hasRow 3 (some .boolean) rm_X6_hasRow iv [.ref x0, .int x1, .int x2] σ (f_X6_hasRow x0 x1 x2 σ) := by
  subst hi
  exact CT_of (by decide) (Nat.le_of_ble_eq_true rfl) (fun K _ h _ hs _ _ => t_X6_hasRow h hs x0 x1 x2 σ hk0)
/-! LuteTabs$Lute.hasFret(I)Z -/
theorem dX1_hasFret_0 : decode cX1_hasFret 0 = .ok (.iload_n 1, 1) := by decide +kernel
theorem dX1_hasFret_1 : decode cX1_hasFret 1 = .ok (.ifCond .lt 17, 3) := by decide +kernel
theorem dX1_hasFret_4 : decode cX1_hasFret 4 = .ok (.iload_n 1, 1) := by decide +kernel
theorem dX1_hasFret_5 : decode cX1_hasFret 5 = .ok (.aload_n 0, 1) := by decide +kernel
theorem dX1_hasFret_6 : decode cX1_hasFret 6 = .ok (.getfield 17, 3) := by decide +kernel
theorem dX1_hasFret_9 : decode cX1_hasFret 9 = .ok (.iconst 0, 1) := by decide +kernel
theorem dX1_hasFret_10 : decode cX1_hasFret 10 = .ok (.iaload, 1) := by decide +kernel
theorem dX1_hasFret_11 : decode cX1_hasFret 11 = .ok (.if_icmp .gt 7, 3) := by decide +kernel
theorem dX1_hasFret_14 : decode cX1_hasFret 14 = .ok (.iconst 1, 1) := by decide +kernel
theorem dX1_hasFret_15 : decode cX1_hasFret 15 = .ok (.goto 4, 3) := by decide +kernel
theorem dX1_hasFret_18 : decode cX1_hasFret 18 = .ok (.iconst 0, 1) := by decide +kernel
theorem dX1_hasFret_19 : decode cX1_hasFret 19 = .ok (.ireturn, 1) := by decide +kernel
abbrev rm_X1_hasFret : Room := { frames := 0, cells := 0, slots := 0, locals := 0 }
def f_X1_hasFret_L19   (y0 : Int32) (σ : Sg) : Option (Int32 × Sg) := ck (b01 y0) (some (y0, σ))
def f_X1_hasFret_L18    (σ : Sg) : Option (Int32 × Sg) := f_X1_hasFret_L19 (0 : Int32) σ
def f_X1_hasFret (x0 : Nat) (x1 : Int32) (σ : Sg) : Option (Int32 × Sg) := (if x1 < 0 then f_X1_hasFret_L18 σ else ck (inb (0 : Int32) (aL (gR σ x0 2))) ((if (gI σ (gR σ x0 2) (0 : Int32).toNatClampNeg) < x1 then f_X1_hasFret_L18 σ else f_X1_hasFret_L19 (1 : Int32) σ)))
theorem t_X1_hasFret_L19 {K : Cx} (h : Ok K cX1_hasFret RX1 2 rm_X1_hasFret (some .boolean)) (hs : kiv K = St)  (y0 : Int32) (σ : Sg)    : T K (QI K) 19 [] [.int y0] 0 0 σ (f_X1_hasFret_L19 y0 σ) := by
  unfold f_X1_hasFret_L19
  exact T_zreturn (pc := 19) h (Nat.zero_le _) (Nat.zero_le _) dX1_hasFret_19
theorem t_X1_hasFret_L18 {K : Cx} (h : Ok K cX1_hasFret RX1 2 rm_X1_hasFret (some .boolean)) (hs : kiv K = St)   (σ : Sg)    : T K (QI K) 18 [] [] 0 0 σ (f_X1_hasFret_L18 σ) := by
  unfold f_X1_hasFret_L18
  refine T_iconst (pc := 18) h dX1_hasFret_18 ki_0 ?_
  refine T_sub [] rfl ?_
  exact t_X1_hasFret_L19 h hs (0 : Int32) σ
theorem t_X1_hasFret {K : Cx} (h : Ok K cX1_hasFret RX1 2 rm_X1_hasFret (some .boolean)) (hs : kiv K = St) (x0 : Nat) (x1 : Int32) (σ : Sg) (hk0 : kd x0 1) : T K (QI K) 0 [(0, .ref x0), (1, .int x1)] [] 0 0 σ (f_X1_hasFret x0 x1 σ) := by
  unfold f_X1_hasFret
  refine T_iload_n (pc := 0) h dX1_hasFret_0 rfl 1 rfl ?_
  refine T_if_lt (pc := 1) (tgt := 18) h dX1_hasFret_1 (by decide) ?_ ?_
  · refine T_sub [] rfl ?_
    exact t_X1_hasFret_L18 h hs σ
  · refine T_iload_n (pc := 4) h dX1_hasFret_4 rfl 1 rfl ?_
    refine T_aload_n (pc := 5) h dX1_hasFret_5 rfl 0 rfl ?_
    refine T_gR (pc := 6) h hs hk0 fl_X1_17 rfl fk_1_2 dX1_hasFret_6 (fun hq1 => ?_)
    refine T_iconst (pc := 9) h dX1_hasFret_9 ki_0 ?_
    refine T_iald (pc := 10) h hs hq1 dX1_hasFret_10 ?_
    refine T_icmp_gt (pc := 11) (tgt := 18) h dX1_hasFret_11 (by decide) ?_ ?_
    · refine T_sub [] rfl ?_
      exact t_X1_hasFret_L18 h hs σ
    · refine T_iconst (pc := 14) h dX1_hasFret_14 ki_1 ?_
      refine T_goto (pc := 15) (tgt := 19) h dX1_hasFret_15 (by decide) ?_
      refine T_sub [] rfl ?_
      exact t_X1_hasFret_L19 h hs (1 : Int32) σ
theorem M_X1_hasFret (l : Launch) {iv : Sg → Prop} (hi : iv = St) (x0 : Nat) (x1 : Int32) (σ : Sg) (hk0 : kd x0 1) : CTi l yX1_hasFret cX1_hasFret 2 (some .boolean) rm_X1_hasFret iv [.ref x0, .int x1] σ (f_X1_hasFret x0 x1 σ) := by
  subst hi
  exact CT_of (by decide) (Nat.le_of_ble_eq_true rfl) (fun K _ h _ hs _ _ => t_X1_hasFret h hs x0 x1 σ hk0)
/-! LuteTabs$Ways.startWithNothingLaid()V -/
theorem dX7_startWithNothingLaid_0 : decode cX7_startWithNothingLaid 0 = .ok (.aload_n 0, 1) := by decide +kernel
theorem dX7_startWithNothingLaid_1 : decode cX7_startWithNothingLaid 1 = .ok (.iconst 1, 1) := by decide +kernel
theorem dX7_startWithNothingLaid_2 : decode cX7_startWithNothingLaid 2 = .ok (.putfield 23, 3) := by decide +kernel
theorem dX7_startWithNothingLaid_5 : decode cX7_startWithNothingLaid 5 = .ok (.aload_n 0, 1) := by decide +kernel
theorem dX7_startWithNothingLaid_6 : decode cX7_startWithNothingLaid 6 = .ok (.getfield 9, 3) := by decide +kernel
theorem dX7_startWithNothingLaid_9 : decode cX7_startWithNothingLaid 9 = .ok (.iconst 0, 1) := by decide +kernel
theorem dX7_startWithNothingLaid_10 : decode cX7_startWithNothingLaid 10 = .ok (.lconst 0, 1) := by decide +kernel
theorem dX7_startWithNothingLaid_11 : decode cX7_startWithNothingLaid 11 = .ok (.lastore, 1) := by decide +kernel
theorem dX7_startWithNothingLaid_12 : decode cX7_startWithNothingLaid 12 = .ok (.aload_n 0, 1) := by decide +kernel
theorem dX7_startWithNothingLaid_13 : decode cX7_startWithNothingLaid 13 = .ok (.getfield 13, 3) := by decide +kernel
theorem dX7_startWithNothingLaid_16 : decode cX7_startWithNothingLaid 16 = .ok (.iconst 0, 1) := by decide +kernel
theorem dX7_startWithNothingLaid_17 : decode cX7_startWithNothingLaid 17 = .ok (.iconst 0, 1) := by decide +kernel
theorem dX7_startWithNothingLaid_18 : decode cX7_startWithNothingLaid 18 = .ok (.iastore, 1) := by decide +kernel
theorem dX7_startWithNothingLaid_19 : decode cX7_startWithNothingLaid 19 = .ok (.aload_n 0, 1) := by decide +kernel
theorem dX7_startWithNothingLaid_20 : decode cX7_startWithNothingLaid 20 = .ok (.getfield 17, 3) := by decide +kernel
theorem dX7_startWithNothingLaid_23 : decode cX7_startWithNothingLaid 23 = .ok (.iconst 0, 1) := by decide +kernel
theorem dX7_startWithNothingLaid_24 : decode cX7_startWithNothingLaid 24 = .ok (.iconst 0, 1) := by decide +kernel
theorem dX7_startWithNothingLaid_25 : decode cX7_startWithNothingLaid 25 = .ok (.iastore, 1) := by decide +kernel
theorem dX7_startWithNothingLaid_26 : decode cX7_startWithNothingLaid 26 = .ok (.aload_n 0, 1) := by decide +kernel
theorem dX7_startWithNothingLaid_27 : decode cX7_startWithNothingLaid 27 = .ok (.getfield 20, 3) := by decide +kernel
theorem dX7_startWithNothingLaid_30 : decode cX7_startWithNothingLaid 30 = .ok (.iconst 0, 1) := by decide +kernel
theorem dX7_startWithNothingLaid_31 : decode cX7_startWithNothingLaid 31 = .ok (.lconst 0, 1) := by decide +kernel
theorem dX7_startWithNothingLaid_32 : decode cX7_startWithNothingLaid 32 = .ok (.lastore, 1) := by decide +kernel
theorem dX7_startWithNothingLaid_33 : decode cX7_startWithNothingLaid 33 = .ok (.return_, 1) := by decide +kernel
abbrev rm_X7_startWithNothingLaid : Room := { frames := 0, cells := 0, slots := 0, locals := 0 }
def f_X7_startWithNothingLaid (x0 : Nat) (σ : Sg) : Option (Unit × Sg) := lB (pI σ x0 4 (1 : Int32)) fun s1 => ck (inb (0 : Int32) (aL (gR s1 x0 0))) (lB (pL s1 (gR s1 x0 0) (0 : Int32).toNatClampNeg (0 : Int64)) fun s3 => ck (inb (0 : Int32) (aL (gR s3 x0 1))) (lB (pI s3 (gR s3 x0 1) (0 : Int32).toNatClampNeg (0 : Int32)) fun s5 => ck (inb (0 : Int32) (aL (gR s5 x0 2))) (lB (pI s5 (gR s5 x0 2) (0 : Int32).toNatClampNeg (0 : Int32)) fun s7 => ck (inb (0 : Int32) (aL (gR s7 x0 3))) (lB (pL s7 (gR s7 x0 3) (0 : Int32).toNatClampNeg (0 : Int64)) fun s9 => some ((), s9)))))
theorem t_X7_startWithNothingLaid {K : Cx} (h : Ok K cX7_startWithNothingLaid RX7 1 rm_X7_startWithNothingLaid none) (hs : kiv K = St) (x0 : Nat) (σ : Sg) (hk0 : kd x0 7) : T K (QV K) 0 [(0, .ref x0)] [] 0 0 σ (f_X7_startWithNothingLaid x0 σ) := by
  unfold f_X7_startWithNothingLaid
  refine T_aload_n (pc := 0) h dX7_startWithNothingLaid_0 rfl 0 rfl ?_
  refine T_iconst (pc := 1) h dX7_startWithNothingLaid_1 ki_1 ?_
  refine T_putI (pc := 2) h hs hk0 fl_X7_23 rfl rfl dX7_startWithNothingLaid_2 ?_
  refine T_letS fun s1 => ?_
  refine T_aload_n (pc := 5) h dX7_startWithNothingLaid_5 rfl 0 rfl ?_
  refine T_gR (pc := 6) h hs hk0 fl_X7_9 rfl fk_7_0 dX7_startWithNothingLaid_6 (fun hq2 => ?_)
  refine T_iconst (pc := 9) h dX7_startWithNothingLaid_9 ki_0 ?_
  refine T_lconst (pc := 10) h dX7_startWithNothingLaid_10 kl_0 ?_
  refine T_last (pc := 11) h hs hq2 dX7_startWithNothingLaid_11 ?_
  refine T_letS fun s3 => ?_
  refine T_aload_n (pc := 12) h dX7_startWithNothingLaid_12 rfl 0 rfl ?_
  refine T_gR (pc := 13) h hs hk0 fl_X7_13 rfl fk_7_1 dX7_startWithNothingLaid_13 (fun hq4 => ?_)
  refine T_iconst (pc := 16) h dX7_startWithNothingLaid_16 ki_0 ?_
  refine T_iconst (pc := 17) h dX7_startWithNothingLaid_17 ki_0 ?_
  refine T_iast (pc := 18) h hs hq4 dX7_startWithNothingLaid_18 ?_
  refine T_letS fun s5 => ?_
  refine T_aload_n (pc := 19) h dX7_startWithNothingLaid_19 rfl 0 rfl ?_
  refine T_gR (pc := 20) h hs hk0 fl_X7_17 rfl fk_7_2 dX7_startWithNothingLaid_20 (fun hq6 => ?_)
  refine T_iconst (pc := 23) h dX7_startWithNothingLaid_23 ki_0 ?_
  refine T_iconst (pc := 24) h dX7_startWithNothingLaid_24 ki_0 ?_
  refine T_iast (pc := 25) h hs hq6 dX7_startWithNothingLaid_25 ?_
  refine T_letS fun s7 => ?_
  refine T_aload_n (pc := 26) h dX7_startWithNothingLaid_26 rfl 0 rfl ?_
  refine T_gR (pc := 27) h hs hk0 fl_X7_20 rfl fk_7_3 dX7_startWithNothingLaid_27 (fun hq8 => ?_)
  refine T_iconst (pc := 30) h dX7_startWithNothingLaid_30 ki_0 ?_
  refine T_lconst (pc := 31) h dX7_startWithNothingLaid_31 kl_0 ?_
  refine T_last (pc := 32) h hs hq8 dX7_startWithNothingLaid_32 ?_
  refine T_letS fun s9 => ?_
  exact T_return (pc := 33) h (Nat.zero_le _) (Nat.zero_le _) dX7_startWithNothingLaid_33
theorem M_X7_startWithNothingLaid (l : Launch) {iv : Sg → Prop} (hi : iv = St) (x0 : Nat) (σ : Sg) (hk0 : kd x0 7) : CTv l yX7_startWithNothingLaid cX7_startWithNothingLaid 1 none rm_X7_startWithNothingLaid iv [.ref x0] σ (f_X7_startWithNothingLaid x0 σ) := by
  subst hi
  exact CT_of (by decide) (Nat.le_of_ble_eq_true rfl) (fun K _ h _ hs _ _ => t_X7_startWithNothingLaid h hs x0 σ hk0)
/-! LuteTabs$Ways.add(JI)V -/
theorem dX7_add_0 : decode cX7_add 0 = .ok (.aload_n 0, 1) := by decide +kernel
theorem dX7_add_1 : decode cX7_add 1 = .ok (.getfield 23, 3) := by decide +kernel
theorem dX7_add_4 : decode cX7_add 4 = .ok (.bipush 120, 2) := by decide +kernel
theorem dX7_add_6 : decode cX7_add 6 = .ok (.if_icmp .ge 33, 3) := by decide +kernel
theorem dX7_add_9 : decode cX7_add 9 = .ok (.aload_n 0, 1) := by decide +kernel
theorem dX7_add_10 : decode cX7_add 10 = .ok (.getfield 9, 3) := by decide +kernel
theorem dX7_add_13 : decode cX7_add 13 = .ok (.aload_n 0, 1) := by decide +kernel
theorem dX7_add_14 : decode cX7_add 14 = .ok (.getfield 23, 3) := by decide +kernel
theorem dX7_add_17 : decode cX7_add 17 = .ok (.lload_n 1, 1) := by decide +kernel
theorem dX7_add_18 : decode cX7_add 18 = .ok (.lastore, 1) := by decide +kernel
theorem dX7_add_19 : decode cX7_add 19 = .ok (.aload_n 0, 1) := by decide +kernel
theorem dX7_add_20 : decode cX7_add 20 = .ok (.getfield 13, 3) := by decide +kernel
theorem dX7_add_23 : decode cX7_add 23 = .ok (.aload_n 0, 1) := by decide +kernel
theorem dX7_add_24 : decode cX7_add 24 = .ok (.getfield 23, 3) := by decide +kernel
theorem dX7_add_27 : decode cX7_add 27 = .ok (.iload_n 3, 1) := by decide +kernel
theorem dX7_add_28 : decode cX7_add 28 = .ok (.iastore, 1) := by decide +kernel
theorem dX7_add_29 : decode cX7_add 29 = .ok (.aload_n 0, 1) := by decide +kernel
theorem dX7_add_30 : decode cX7_add 30 = .ok (.dup, 1) := by decide +kernel
theorem dX7_add_31 : decode cX7_add 31 = .ok (.getfield 23, 3) := by decide +kernel
theorem dX7_add_34 : decode cX7_add 34 = .ok (.iconst 1, 1) := by decide +kernel
theorem dX7_add_35 : decode cX7_add 35 = .ok (.iadd, 1) := by decide +kernel
theorem dX7_add_36 : decode cX7_add 36 = .ok (.putfield 23, 3) := by decide +kernel
theorem dX7_add_39 : decode cX7_add 39 = .ok (.return_, 1) := by decide +kernel
abbrev rm_X7_add : Room := { frames := 0, cells := 0, slots := 0, locals := 0 }
def f_X7_add_L39    (σ : Sg) : Option (Unit × Sg) := some ((), σ)
def f_X7_add (x0 : Nat) (x1 : Int64) (x3 : Int32) (σ : Sg) : Option (Unit × Sg) := (if (120 : Int32) ≤ (gI σ x0 4) then f_X7_add_L39 σ else ck (inb (gI σ x0 4) (aL (gR σ x0 0))) (lB (pL σ (gR σ x0 0) (gI σ x0 4).toNatClampNeg x1) fun s2 => ck (inb (gI s2 x0 4) (aL (gR s2 x0 1))) (lB (pI s2 (gR s2 x0 1) (gI s2 x0 4).toNatClampNeg x3) fun s4 => lB (pI s4 x0 4 ((gI s4 x0 4) + (1 : Int32))) fun s5 => f_X7_add_L39 s5)))
theorem t_X7_add_L39 {K : Cx} (h : Ok K cX7_add RX7 4 rm_X7_add none) (hs : kiv K = St)   (σ : Sg)    : T K (QV K) 39 [] [] 0 0 σ (f_X7_add_L39 σ) := by
  unfold f_X7_add_L39
  exact T_return (pc := 39) h (Nat.zero_le _) (Nat.zero_le _) dX7_add_39
theorem t_X7_add {K : Cx} (h : Ok K cX7_add RX7 4 rm_X7_add none) (hs : kiv K = St) (x0 : Nat) (x1 : Int64) (x3 : Int32) (σ : Sg) (hk0 : kd x0 7) : T K (QV K) 0 [(0, .ref x0), (1, .long x1), (3, .int x3)] [] 0 0 σ (f_X7_add x0 x1 x3 σ) := by
  unfold f_X7_add
  refine T_aload_n (pc := 0) h dX7_add_0 rfl 0 rfl ?_
  refine T_getI (pc := 1) h hs hk0 fl_X7_23 rfl dX7_add_1 ?_
  refine T_bipush (pc := 4) h dX7_add_4 kb_120 ?_
  refine T_icmp_ge (pc := 6) (tgt := 39) h dX7_add_6 (by decide) ?_ ?_
  · refine T_sub [] rfl ?_
    exact t_X7_add_L39 h hs σ
  · refine T_aload_n (pc := 9) h dX7_add_9 rfl 0 rfl ?_
    refine T_gR (pc := 10) h hs hk0 fl_X7_9 rfl fk_7_0 dX7_add_10 (fun hq1 => ?_)
    refine T_aload_n (pc := 13) h dX7_add_13 rfl 0 rfl ?_
    refine T_getI (pc := 14) h hs hk0 fl_X7_23 rfl dX7_add_14 ?_
    refine T_lload_n (pc := 17) h dX7_add_17 rfl 1 rfl ?_
    refine T_last (pc := 18) h hs hq1 dX7_add_18 ?_
    refine T_letS fun s2 => ?_
    refine T_aload_n (pc := 19) h dX7_add_19 rfl 0 rfl ?_
    refine T_gR (pc := 20) h hs hk0 fl_X7_13 rfl fk_7_1 dX7_add_20 (fun hq3 => ?_)
    refine T_aload_n (pc := 23) h dX7_add_23 rfl 0 rfl ?_
    refine T_getI (pc := 24) h hs hk0 fl_X7_23 rfl dX7_add_24 ?_
    refine T_iload_n (pc := 27) h dX7_add_27 rfl 2 rfl ?_
    refine T_iast (pc := 28) h hs hq3 dX7_add_28 ?_
    refine T_letS fun s4 => ?_
    refine T_aload_n (pc := 29) h dX7_add_29 rfl 0 rfl ?_
    refine T_dup (pc := 30) h dX7_add_30 rfl ?_
    refine T_getI (pc := 31) h hs hk0 fl_X7_23 rfl dX7_add_31 ?_
    refine T_iconst (pc := 34) h dX7_add_34 ki_1 ?_
    refine T_iadd (pc := 35) h dX7_add_35 ?_
    refine T_putI (pc := 36) h hs hk0 fl_X7_23 rfl rfl dX7_add_36 ?_
    refine T_letS fun s5 => ?_
    refine T_sub [] rfl ?_
    exact t_X7_add_L39 h hs s5
theorem M_X7_add (l : Launch) {iv : Sg → Prop} (hi : iv = St) (x0 : Nat) (x1 : Int64) (x3 : Int32) (σ : Sg) (hk0 : kd x0 7) : CTv l yX7_add cX7_add 4 none rm_X7_add iv [.ref x0, .long x1, .int x3] σ (f_X7_add x0 x1 x3 σ) := by
  subst hi
  exact CT_of (by decide) (Nat.le_of_ble_eq_true rfl) (fun K _ h _ hs _ _ => t_X7_add h hs x0 x1 x3 σ hk0)
/-! LuteTabs$Hand.take(IIZ)V -/
theorem dX0_take_0 : decode cX0_take 0 = .ok (.aload_n 0, 1) := by decide +kernel
theorem dX0_take_1 : decode cX0_take 1 = .ok (.aload_n 0, 1) := by decide +kernel
theorem dX0_take_2 : decode cX0_take 2 = .ok (.getfield 24, 3) := by decide +kernel
theorem dX0_take_5 : decode cX0_take 5 = .ok (.ifCond .ne 15, 3) := by decide +kernel
theorem dX0_take_8 : decode cX0_take 8 = .ok (.aload_n 0, 1) := by decide +kernel
theorem dX0_take_9 : decode cX0_take 9 = .ok (.getfield 37, 3) := by decide +kernel
theorem dX0_take_12 : decode cX0_take 12 = .ok (.iload_n 1, 1) := by decide +kernel
theorem dX0_take_13 : decode cX0_take 13 = .ok (.ishr, 1) := by decide +kernel
theorem dX0_take_14 : decode cX0_take 14 = .ok (.iconst 1, 1) := by decide +kernel
theorem dX0_take_15 : decode cX0_take 15 = .ok (.iand, 1) := by decide +kernel
theorem dX0_take_16 : decode cX0_take 16 = .ok (.iconst 1, 1) := by decide +kernel
theorem dX0_take_17 : decode cX0_take 17 = .ok (.if_icmp .ne 7, 3) := by decide +kernel
theorem dX0_take_20 : decode cX0_take 20 = .ok (.iconst 1, 1) := by decide +kernel
theorem dX0_take_21 : decode cX0_take 21 = .ok (.goto 4, 3) := by decide +kernel
theorem dX0_take_24 : decode cX0_take 24 = .ok (.iconst 0, 1) := by decide +kernel
theorem dX0_take_25 : decode cX0_take 25 = .ok (.putfield 24, 3) := by decide +kernel
theorem dX0_take_28 : decode cX0_take 28 = .ok (.aload_n 0, 1) := by decide +kernel
theorem dX0_take_29 : decode cX0_take 29 = .ok (.dup, 1) := by decide +kernel
theorem dX0_take_30 : decode cX0_take 30 = .ok (.getfield 37, 3) := by decide +kernel
theorem dX0_take_33 : decode cX0_take 33 = .ok (.iconst 1, 1) := by decide +kernel
theorem dX0_take_34 : decode cX0_take 34 = .ok (.iload_n 1, 1) := by decide +kernel
theorem dX0_take_35 : decode cX0_take 35 = .ok (.ishl, 1) := by decide +kernel
theorem dX0_take_36 : decode cX0_take 36 = .ok (.ior, 1) := by decide +kernel
theorem dX0_take_37 : decode cX0_take 37 = .ok (.putfield 37, 3) := by decide +kernel
theorem dX0_take_40 : decode cX0_take 40 = .ok (.iload_n 2, 1) := by decide +kernel
theorem dX0_take_41 : decode cX0_take 41 = .ok (.ifCond .gt 16, 3) := by decide +kernel
theorem dX0_take_44 : decode cX0_take 44 = .ok (.aload_n 0, 1) := by decide +kernel
theorem dX0_take_45 : decode cX0_take 45 = .ok (.dup, 1) := by decide +kernel
theorem dX0_take_46 : decode cX0_take 46 = .ok (.getfield 40, 3) := by decide +kernel
theorem dX0_take_49 : decode cX0_take 49 = .ok (.iconst 1, 1) := by decide +kernel
theorem dX0_take_50 : decode cX0_take 50 = .ok (.iload_n 1, 1) := by decide +kernel
theorem dX0_take_51 : decode cX0_take 51 = .ok (.ishl, 1) := by decide +kernel
theorem dX0_take_52 : decode cX0_take 52 = .ok (.ior, 1) := by decide +kernel
theorem dX0_take_53 : decode cX0_take 53 = .ok (.putfield 40, 3) := by decide +kernel
theorem dX0_take_56 : decode cX0_take 56 = .ok (.return_, 1) := by decide +kernel
theorem dX0_take_57 : decode cX0_take 57 = .ok (.aload_n 0, 1) := by decide +kernel
theorem dX0_take_58 : decode cX0_take 58 = .ok (.dup, 1) := by decide +kernel
theorem dX0_take_59 : decode cX0_take 59 = .ok (.getfield 21, 3) := by decide +kernel
theorem dX0_take_62 : decode cX0_take 62 = .ok (.iconst 1, 1) := by decide +kernel
theorem dX0_take_63 : decode cX0_take 63 = .ok (.iadd, 1) := by decide +kernel
theorem dX0_take_64 : decode cX0_take 64 = .ok (.putfield 21, 3) := by decide +kernel
theorem dX0_take_67 : decode cX0_take 67 = .ok (.aload_n 0, 1) := by decide +kernel
theorem dX0_take_68 : decode cX0_take 68 = .ok (.aload_n 0, 1) := by decide +kernel
theorem dX0_take_69 : decode cX0_take 69 = .ok (.getfield 28, 3) := by decide +kernel
theorem dX0_take_72 : decode cX0_take 72 = .ok (.iload_n 2, 1) := by decide +kernel
theorem dX0_take_73 : decode cX0_take 73 = .ok (.invokestatic 71, 3) := by decide +kernel
theorem dX0_take_76 : decode cX0_take 76 = .ok (.putfield 28, 3) := by decide +kernel
theorem dX0_take_79 : decode cX0_take 79 = .ok (.iload_n 3, 1) := by decide +kernel
theorem dX0_take_80 : decode cX0_take 80 = .ok (.ifCond .eq 13, 3) := by decide +kernel
theorem dX0_take_83 : decode cX0_take 83 = .ok (.aload_n 0, 1) := by decide +kernel
theorem dX0_take_84 : decode cX0_take 84 = .ok (.dup, 1) := by decide +kernel
theorem dX0_take_85 : decode cX0_take 85 = .ok (.getfield 31, 3) := by decide +kernel
theorem dX0_take_88 : decode cX0_take 88 = .ok (.iconst 1, 1) := by decide +kernel
theorem dX0_take_89 : decode cX0_take 89 = .ok (.iadd, 1) := by decide +kernel
theorem dX0_take_90 : decode cX0_take 90 = .ok (.putfield 31, 3) := by decide +kernel
theorem dX0_take_93 : decode cX0_take 93 = .ok (.aload_n 0, 1) := by decide +kernel
theorem dX0_take_94 : decode cX0_take 94 = .ok (.getfield 17, 3) := by decide +kernel
theorem dX0_take_97 : decode cX0_take 97 = .ok (.ifCond .eq 11, 3) := by decide +kernel
theorem dX0_take_100 : decode cX0_take 100 = .ok (.iload_n 2, 1) := by decide +kernel
theorem dX0_take_101 : decode cX0_take 101 = .ok (.aload_n 0, 1) := by decide +kernel
theorem dX0_take_102 : decode cX0_take 102 = .ok (.getfield 17, 3) := by decide +kernel
theorem dX0_take_105 : decode cX0_take 105 = .ok (.if_icmp .ge 23, 3) := by decide +kernel
theorem dX0_take_108 : decode cX0_take 108 = .ok (.aload_n 0, 1) := by decide +kernel
theorem dX0_take_109 : decode cX0_take 109 = .ok (.iload_n 2, 1) := by decide +kernel
theorem dX0_take_110 : decode cX0_take 110 = .ok (.putfield 17, 3) := by decide +kernel
theorem dX0_take_113 : decode cX0_take 113 = .ok (.aload_n 0, 1) := by decide +kernel
theorem dX0_take_114 : decode cX0_take 114 = .ok (.iconst 0, 1) := by decide +kernel
theorem dX0_take_115 : decode cX0_take 115 = .ok (.putfield 34, 3) := by decide +kernel
theorem dX0_take_118 : decode cX0_take 118 = .ok (.aload_n 0, 1) := by decide +kernel
theorem dX0_take_119 : decode cX0_take 119 = .ok (.iload_n 1, 1) := by decide +kernel
theorem dX0_take_120 : decode cX0_take 120 = .ok (.putfield 77, 3) := by decide +kernel
theorem dX0_take_123 : decode cX0_take 123 = .ok (.aload_n 0, 1) := by decide +kernel
theorem dX0_take_124 : decode cX0_take 124 = .ok (.iload_n 1, 1) := by decide +kernel
theorem dX0_take_125 : decode cX0_take 125 = .ok (.putfield 80, 3) := by decide +kernel
theorem dX0_take_128 : decode cX0_take 128 = .ok (.iload_n 2, 1) := by decide +kernel
theorem dX0_take_129 : decode cX0_take 129 = .ok (.aload_n 0, 1) := by decide +kernel
theorem dX0_take_130 : decode cX0_take 130 = .ok (.getfield 17, 3) := by decide +kernel
theorem dX0_take_133 : decode cX0_take 133 = .ok (.if_icmp .ne 37, 3) := by decide +kernel
theorem dX0_take_136 : decode cX0_take 136 = .ok (.aload_n 0, 1) := by decide +kernel
theorem dX0_take_137 : decode cX0_take 137 = .ok (.dup, 1) := by decide +kernel
theorem dX0_take_138 : decode cX0_take 138 = .ok (.getfield 34, 3) := by decide +kernel
theorem dX0_take_141 : decode cX0_take 141 = .ok (.iconst 1, 1) := by decide +kernel
theorem dX0_take_142 : decode cX0_take 142 = .ok (.iadd, 1) := by decide +kernel
theorem dX0_take_143 : decode cX0_take 143 = .ok (.putfield 34, 3) := by decide +kernel
theorem dX0_take_146 : decode cX0_take 146 = .ok (.aload_n 0, 1) := by decide +kernel
theorem dX0_take_147 : decode cX0_take 147 = .ok (.aload_n 0, 1) := by decide +kernel
theorem dX0_take_148 : decode cX0_take 148 = .ok (.getfield 77, 3) := by decide +kernel
theorem dX0_take_151 : decode cX0_take 151 = .ok (.iload_n 1, 1) := by decide +kernel
theorem dX0_take_152 : decode cX0_take 152 = .ok (.invokestatic 83, 3) := by decide +kernel
theorem dX0_take_155 : decode cX0_take 155 = .ok (.putfield 77, 3) := by decide +kernel
theorem dX0_take_158 : decode cX0_take 158 = .ok (.aload_n 0, 1) := by decide +kernel
theorem dX0_take_159 : decode cX0_take 159 = .ok (.aload_n 0, 1) := by decide +kernel
theorem dX0_take_160 : decode cX0_take 160 = .ok (.getfield 80, 3) := by decide +kernel
theorem dX0_take_163 : decode cX0_take 163 = .ok (.iload_n 1, 1) := by decide +kernel
theorem dX0_take_164 : decode cX0_take 164 = .ok (.invokestatic 71, 3) := by decide +kernel
theorem dX0_take_167 : decode cX0_take 167 = .ok (.putfield 80, 3) := by decide +kernel
theorem dX0_take_170 : decode cX0_take 170 = .ok (.return_, 1) := by decide +kernel
abbrev rm_X0_take : Room := { frames := 1, cells := 0, slots := 0, locals := 23 }
def f_X0_take_L170    (σ : Sg) : Option (Unit × Sg) := some ((), σ)
def f_X0_take_L128  (x0 : Nat) (x1 : Int32) (x2 : Int32)  (σ : Sg) : Option (Unit × Sg) := (if x2 = (gI σ x0 2) then lB (pI σ x0 8 ((gI σ x0 8) + (1 : Int32))) fun s1 => lB (pI s1 x0 9 (mnI (gI s1 x0 9) x1)) fun s2 => lB (pI s2 x0 10 (mxI (gI s2 x0 10) x1)) fun s3 => f_X0_take_L170 s3 else f_X0_take_L170 σ)
def f_X0_take_L108  (x0 : Nat) (x1 : Int32) (x2 : Int32)  (σ : Sg) : Option (Unit × Sg) := lB (pI σ x0 2 x2) fun s1 => lB (pI s1 x0 8 (0 : Int32)) fun s2 => lB (pI s2 x0 9 x1) fun s3 => lB (pI s3 x0 10 x1) fun s4 => f_X0_take_L128 x0 x1 x2 s4
def f_X0_take_L93  (x0 : Nat) (x1 : Int32) (x2 : Int32)  (σ : Sg) : Option (Unit × Sg) := (if (gI σ x0 2) = 0 then f_X0_take_L108 x0 x1 x2 σ else (if (gI σ x0 2) ≤ x2 then f_X0_take_L128 x0 x1 x2 σ else f_X0_take_L108 x0 x1 x2 σ))
def f_X0_take_L25  (x0 : Nat) (x1 : Int32) (x2 : Int32) (x3 : Int32) (y0 : Nat) (y1 : Int32) (σ : Sg) : Option (Unit × Sg) := ck (b01 y1) (lB (pI σ y0 5 y1) fun s1 => lB (pI s1 x0 11 ((gI s1 x0 11) ||| ((1 : Int32) <<< (x1 &&& 31)))) fun s2 => (if 0 < x2 then lB (pI s2 x0 3 ((gI s2 x0 3) + (1 : Int32))) fun s3 => lB (pI s3 x0 6 (mxI (gI s3 x0 6) x2)) fun s4 => (if x3 = 0 then f_X0_take_L93 x0 x1 x2 s4 else lB (pI s4 x0 7 ((gI s4 x0 7) + (1 : Int32))) fun s5 => f_X0_take_L93 x0 x1 x2 s5) else lB (pI s2 x0 12 ((gI s2 x0 12) ||| ((1 : Int32) <<< (x1 &&& 31)))) fun s6 => some ((), s6)))
def f_X0_take_L20  (x0 : Nat) (x1 : Int32) (x2 : Int32) (x3 : Int32) (y0 : Nat) (σ : Sg) : Option (Unit × Sg) := f_X0_take_L25 x0 x1 x2 x3 y0 (1 : Int32) σ
def f_X0_take (x0 : Nat) (x1 : Int32) (x2 : Int32) (x3 : Int32) (σ : Sg) : Option (Unit × Sg) := (if (gI σ x0 5) = 0 then (if (((gI σ x0 11) >>> (x1 &&& 31)) &&& (1 : Int32)) = (1 : Int32) then f_X0_take_L20 x0 x1 x2 x3 x0 σ else f_X0_take_L25 x0 x1 x2 x3 x0 (0 : Int32) σ) else f_X0_take_L20 x0 x1 x2 x3 x0 σ)
theorem t_X0_take_L170 {K : Cx} (h : Ok K cX0_take RX0 4 rm_X0_take none) (hs : kiv K = St)   (σ : Sg)    : T K (QV K) 170 [] [] 0 0 σ (f_X0_take_L170 σ) := by
  unfold f_X0_take_L170
  exact T_return (pc := 170) h (Nat.zero_le _) (Nat.zero_le _) dX0_take_170
theorem t_X0_take_L128 {K : Cx} (h : Ok K cX0_take RX0 4 rm_X0_take none) (hs : kiv K = St) (x0 : Nat) (x1 : Int32) (x2 : Int32)  (σ : Sg)  (hk0 : kd x0 0)  : T K (QV K) 128 [(0, .ref x0), (1, .int x1), (2, .int x2)] [] 0 0 σ (f_X0_take_L128 x0 x1 x2 σ) := by
  unfold f_X0_take_L128
  refine T_iload_n (pc := 128) h dX0_take_128 rfl 2 rfl ?_
  refine T_aload_n (pc := 129) h dX0_take_129 rfl 0 rfl ?_
  refine T_getI (pc := 130) h hs hk0 fl_X0_17 rfl dX0_take_130 ?_
  refine T_icmp_ne (pc := 133) (tgt := 170) h dX0_take_133 (by decide) ?_ ?_
  · refine T_sub [] rfl ?_
    exact t_X0_take_L170 h hs σ
  · refine T_aload_n (pc := 136) h dX0_take_136 rfl 0 rfl ?_
    refine T_dup (pc := 137) h dX0_take_137 rfl ?_
    refine T_getI (pc := 138) h hs hk0 fl_X0_34 rfl dX0_take_138 ?_
    refine T_iconst (pc := 141) h dX0_take_141 ki_1 ?_
    refine T_iadd (pc := 142) h dX0_take_142 ?_
    refine T_putI (pc := 143) h hs hk0 fl_X0_34 rfl rfl dX0_take_143 ?_
    refine T_letS fun s1 => ?_
    refine T_aload_n (pc := 146) h dX0_take_146 rfl 0 rfl ?_
    refine T_aload_n (pc := 147) h dX0_take_147 rfl 0 rfl ?_
    refine T_getI (pc := 148) h hs hk0 fl_X0_77 rfl dX0_take_148 ?_
    refine T_iload_n (pc := 151) h dX0_take_151 rfl 1 rfl ?_
    refine T_mmin (pc := 152) h ml_X0_83 mm_min_s mm_i mm_min_c ⟨Nat.le_of_ble_eq_true rfl, Nat.le_of_ble_eq_true rfl⟩ ⟨Nat.zero_le _, Nat.zero_le _⟩ (Nat.le_of_ble_eq_true rfl) dX0_take_152 ?_
    refine T_putI (pc := 155) h hs hk0 fl_X0_77 rfl rfl dX0_take_155 ?_
    refine T_letS fun s2 => ?_
    refine T_aload_n (pc := 158) h dX0_take_158 rfl 0 rfl ?_
    refine T_aload_n (pc := 159) h dX0_take_159 rfl 0 rfl ?_
    refine T_getI (pc := 160) h hs hk0 fl_X0_80 rfl dX0_take_160 ?_
    refine T_iload_n (pc := 163) h dX0_take_163 rfl 1 rfl ?_
    refine T_mmax (pc := 164) h ml_X0_71 mm_max_s mm_i mm_max_c ⟨Nat.le_of_ble_eq_true rfl, Nat.le_of_ble_eq_true rfl⟩ ⟨Nat.zero_le _, Nat.zero_le _⟩ (Nat.le_of_ble_eq_true rfl) dX0_take_164 ?_
    refine T_putI (pc := 167) h hs hk0 fl_X0_80 rfl rfl dX0_take_167 ?_
    refine T_letS fun s3 => ?_
    refine T_sub [] rfl ?_
    exact t_X0_take_L170 h hs s3
theorem t_X0_take_L108 {K : Cx} (h : Ok K cX0_take RX0 4 rm_X0_take none) (hs : kiv K = St) (x0 : Nat) (x1 : Int32) (x2 : Int32)  (σ : Sg)  (hk0 : kd x0 0)  : T K (QV K) 108 [(0, .ref x0), (1, .int x1), (2, .int x2)] [] 0 0 σ (f_X0_take_L108 x0 x1 x2 σ) := by
  unfold f_X0_take_L108
  refine T_aload_n (pc := 108) h dX0_take_108 rfl 0 rfl ?_
  refine T_iload_n (pc := 109) h dX0_take_109 rfl 2 rfl ?_
  refine T_putI (pc := 110) h hs hk0 fl_X0_17 rfl rfl dX0_take_110 ?_
  refine T_letS fun s1 => ?_
  refine T_aload_n (pc := 113) h dX0_take_113 rfl 0 rfl ?_
  refine T_iconst (pc := 114) h dX0_take_114 ki_0 ?_
  refine T_putI (pc := 115) h hs hk0 fl_X0_34 rfl rfl dX0_take_115 ?_
  refine T_letS fun s2 => ?_
  refine T_aload_n (pc := 118) h dX0_take_118 rfl 0 rfl ?_
  refine T_iload_n (pc := 119) h dX0_take_119 rfl 1 rfl ?_
  refine T_putI (pc := 120) h hs hk0 fl_X0_77 rfl rfl dX0_take_120 ?_
  refine T_letS fun s3 => ?_
  refine T_aload_n (pc := 123) h dX0_take_123 rfl 0 rfl ?_
  refine T_iload_n (pc := 124) h dX0_take_124 rfl 1 rfl ?_
  refine T_putI (pc := 125) h hs hk0 fl_X0_80 rfl rfl dX0_take_125 ?_
  refine T_letS fun s4 => ?_
  refine T_sub [0, 1, 2] rfl ?_
  exact t_X0_take_L128 h hs x0 x1 x2 s4 hk0
theorem t_X0_take_L93 {K : Cx} (h : Ok K cX0_take RX0 4 rm_X0_take none) (hs : kiv K = St) (x0 : Nat) (x1 : Int32) (x2 : Int32)  (σ : Sg)  (hk0 : kd x0 0)  : T K (QV K) 93 [(0, .ref x0), (1, .int x1), (2, .int x2)] [] 0 0 σ (f_X0_take_L93 x0 x1 x2 σ) := by
  unfold f_X0_take_L93
  refine T_aload_n (pc := 93) h dX0_take_93 rfl 0 rfl ?_
  refine T_getI (pc := 94) h hs hk0 fl_X0_17 rfl dX0_take_94 ?_
  refine T_if_eq (pc := 97) (tgt := 108) h dX0_take_97 (by decide) ?_ ?_
  · refine T_sub [0, 1, 2] rfl ?_
    exact t_X0_take_L108 h hs x0 x1 x2 σ hk0
  · refine T_iload_n (pc := 100) h dX0_take_100 rfl 2 rfl ?_
    refine T_aload_n (pc := 101) h dX0_take_101 rfl 0 rfl ?_
    refine T_getI (pc := 102) h hs hk0 fl_X0_17 rfl dX0_take_102 ?_
    refine T_icmp_ge (pc := 105) (tgt := 128) h dX0_take_105 (by decide) ?_ ?_
    · refine T_sub [0, 1, 2] rfl ?_
      exact t_X0_take_L128 h hs x0 x1 x2 σ hk0
    · refine T_sub [0, 1, 2] rfl ?_
      exact t_X0_take_L108 h hs x0 x1 x2 σ hk0
theorem t_X0_take_L25 {K : Cx} (h : Ok K cX0_take RX0 4 rm_X0_take none) (hs : kiv K = St) (x0 : Nat) (x1 : Int32) (x2 : Int32) (x3 : Int32) (y0 : Nat) (y1 : Int32) (σ : Sg)  (hk0 : kd x0 0) (hy0 : kd y0 0) : T K (QV K) 25 [(0, .ref x0), (1, .int x1), (2, .int x2), (3, .int x3)] [.int y1, .ref y0] 0 0 σ (f_X0_take_L25 x0 x1 x2 x3 y0 y1 σ) := by
  unfold f_X0_take_L25
  refine T_putZ (pc := 25) h hs hy0 fl_X0_24 rfl rfl dX0_take_25 ?_
  refine T_letS fun s1 => ?_
  refine T_aload_n (pc := 28) h dX0_take_28 rfl 0 rfl ?_
  refine T_dup (pc := 29) h dX0_take_29 rfl ?_
  refine T_getI (pc := 30) h hs hk0 fl_X0_37 rfl dX0_take_30 ?_
  refine T_iconst (pc := 33) h dX0_take_33 ki_1 ?_
  refine T_iload_n (pc := 34) h dX0_take_34 rfl 1 rfl ?_
  refine T_ishl (pc := 35) h dX0_take_35 ?_
  refine T_ior (pc := 36) h dX0_take_36 ?_
  refine T_putI (pc := 37) h hs hk0 fl_X0_37 rfl rfl dX0_take_37 ?_
  refine T_letS fun s2 => ?_
  refine T_iload_n (pc := 40) h dX0_take_40 rfl 2 rfl ?_
  refine T_if_gt (pc := 41) (tgt := 57) h dX0_take_41 (by decide) ?_ ?_
  · refine T_aload_n (pc := 57) h dX0_take_57 rfl 0 rfl ?_
    refine T_dup (pc := 58) h dX0_take_58 rfl ?_
    refine T_getI (pc := 59) h hs hk0 fl_X0_21 rfl dX0_take_59 ?_
    refine T_iconst (pc := 62) h dX0_take_62 ki_1 ?_
    refine T_iadd (pc := 63) h dX0_take_63 ?_
    refine T_putI (pc := 64) h hs hk0 fl_X0_21 rfl rfl dX0_take_64 ?_
    refine T_letS fun s3 => ?_
    refine T_aload_n (pc := 67) h dX0_take_67 rfl 0 rfl ?_
    refine T_aload_n (pc := 68) h dX0_take_68 rfl 0 rfl ?_
    refine T_getI (pc := 69) h hs hk0 fl_X0_28 rfl dX0_take_69 ?_
    refine T_iload_n (pc := 72) h dX0_take_72 rfl 2 rfl ?_
    refine T_mmax (pc := 73) h ml_X0_71 mm_max_s mm_i mm_max_c ⟨Nat.le_of_ble_eq_true rfl, Nat.le_of_ble_eq_true rfl⟩ ⟨Nat.zero_le _, Nat.zero_le _⟩ (Nat.le_of_ble_eq_true rfl) dX0_take_73 ?_
    refine T_putI (pc := 76) h hs hk0 fl_X0_28 rfl rfl dX0_take_76 ?_
    refine T_letS fun s4 => ?_
    refine T_iload_n (pc := 79) h dX0_take_79 rfl 3 rfl ?_
    refine T_if_eq (pc := 80) (tgt := 93) h dX0_take_80 (by decide) ?_ ?_
    · refine T_sub [0, 1, 2] rfl ?_
      exact t_X0_take_L93 h hs x0 x1 x2 s4 hk0
    · refine T_aload_n (pc := 83) h dX0_take_83 rfl 0 rfl ?_
      refine T_dup (pc := 84) h dX0_take_84 rfl ?_
      refine T_getI (pc := 85) h hs hk0 fl_X0_31 rfl dX0_take_85 ?_
      refine T_iconst (pc := 88) h dX0_take_88 ki_1 ?_
      refine T_iadd (pc := 89) h dX0_take_89 ?_
      refine T_putI (pc := 90) h hs hk0 fl_X0_31 rfl rfl dX0_take_90 ?_
      refine T_letS fun s5 => ?_
      refine T_sub [0, 1, 2] rfl ?_
      exact t_X0_take_L93 h hs x0 x1 x2 s5 hk0
  · refine T_aload_n (pc := 44) h dX0_take_44 rfl 0 rfl ?_
    refine T_dup (pc := 45) h dX0_take_45 rfl ?_
    refine T_getI (pc := 46) h hs hk0 fl_X0_40 rfl dX0_take_46 ?_
    refine T_iconst (pc := 49) h dX0_take_49 ki_1 ?_
    refine T_iload_n (pc := 50) h dX0_take_50 rfl 1 rfl ?_
    refine T_ishl (pc := 51) h dX0_take_51 ?_
    refine T_ior (pc := 52) h dX0_take_52 ?_
    refine T_putI (pc := 53) h hs hk0 fl_X0_40 rfl rfl dX0_take_53 ?_
    refine T_letS fun s6 => ?_
    exact T_return (pc := 56) h (Nat.zero_le _) (Nat.zero_le _) dX0_take_56
theorem t_X0_take_L20 {K : Cx} (h : Ok K cX0_take RX0 4 rm_X0_take none) (hs : kiv K = St) (x0 : Nat) (x1 : Int32) (x2 : Int32) (x3 : Int32) (y0 : Nat) (σ : Sg)  (hk0 : kd x0 0) (hy0 : kd y0 0) : T K (QV K) 20 [(0, .ref x0), (1, .int x1), (2, .int x2), (3, .int x3)] [.ref y0] 0 0 σ (f_X0_take_L20 x0 x1 x2 x3 y0 σ) := by
  unfold f_X0_take_L20
  refine T_iconst (pc := 20) h dX0_take_20 ki_1 ?_
  refine T_goto (pc := 21) (tgt := 25) h dX0_take_21 (by decide) ?_
  refine T_sub [0, 1, 2, 3] rfl ?_
  exact t_X0_take_L25 h hs x0 x1 x2 x3 y0 (1 : Int32) σ hk0 hy0
theorem t_X0_take {K : Cx} (h : Ok K cX0_take RX0 4 rm_X0_take none) (hs : kiv K = St) (x0 : Nat) (x1 : Int32) (x2 : Int32) (x3 : Int32) (σ : Sg) (hk0 : kd x0 0) : T K (QV K) 0 [(0, .ref x0), (1, .int x1), (2, .int x2), (3, .int x3)] [] 0 0 σ (f_X0_take x0 x1 x2 x3 σ) := by
  unfold f_X0_take
  refine T_aload_n (pc := 0) h dX0_take_0 rfl 0 rfl ?_
  refine T_aload_n (pc := 1) h dX0_take_1 rfl 0 rfl ?_
  refine T_getI (pc := 2) h hs hk0 fl_X0_24 rfl dX0_take_2 ?_
  refine T_if_ne (pc := 5) (tgt := 20) h dX0_take_5 (by decide) ?_ ?_
  · refine T_sub [0, 1, 2, 3] rfl ?_
    exact t_X0_take_L20 h hs x0 x1 x2 x3 x0 σ hk0 hk0
  · refine T_aload_n (pc := 8) h dX0_take_8 rfl 0 rfl ?_
    refine T_getI (pc := 9) h hs hk0 fl_X0_37 rfl dX0_take_9 ?_
    refine T_iload_n (pc := 12) h dX0_take_12 rfl 1 rfl ?_
    refine T_ishr (pc := 13) h dX0_take_13 ?_
    refine T_iconst (pc := 14) h dX0_take_14 ki_1 ?_
    refine T_iand (pc := 15) h dX0_take_15 ?_
    refine T_iconst (pc := 16) h dX0_take_16 ki_1 ?_
    refine T_icmp_ne (pc := 17) (tgt := 24) h dX0_take_17 (by decide) ?_ ?_
    · refine T_iconst (pc := 24) h dX0_take_24 ki_0 ?_
      refine T_sub [0, 1, 2, 3] rfl ?_
      exact t_X0_take_L25 h hs x0 x1 x2 x3 x0 (0 : Int32) σ hk0 hk0
    · refine T_sub [0, 1, 2, 3] rfl ?_
      exact t_X0_take_L20 h hs x0 x1 x2 x3 x0 σ hk0 hk0
theorem M_X0_take (l : Launch) {iv : Sg → Prop} (hi : iv = St) (x0 : Nat) (x1 : Int32) (x2 : Int32) (x3 : Int32) (σ : Sg) (hk0 : kd x0 0) : CTv l yX0_take cX0_take 4 none rm_X0_take iv [.ref x0, .int x1, .int x2, .int x3] σ (f_X0_take x0 x1 x2 x3 σ) := by
  subst hi
  exact CT_of (by decide) (Nat.le_of_ble_eq_true rfl) (fun K _ h _ hs _ _ => t_X0_take h hs x0 x1 x2 x3 σ hk0)
/-! LuteTabs$Hand.nutBetween()Z -/
theorem dX0_nutBetween_0 : decode cX0_nutBetween 0 = .ok (.aload_n 0, 1) := by decide +kernel
theorem dX0_nutBetween_1 : decode cX0_nutBetween 1 = .ok (.getfield 77, 3) := by decide +kernel
theorem dX0_nutBetween_4 : decode cX0_nutBetween 4 = .ok (.iconst 1, 1) := by decide +kernel
theorem dX0_nutBetween_5 : decode cX0_nutBetween 5 = .ok (.iadd, 1) := by decide +kernel
theorem dX0_nutBetween_6 : decode cX0_nutBetween 6 = .ok (.istore_n 1, 1) := by decide +kernel
theorem dX0_nutBetween_7 : decode cX0_nutBetween 7 = .ok (.iload_n 1, 1) := by decide +kernel
theorem dX0_nutBetween_8 : decode cX0_nutBetween 8 = .ok (.aload_n 0, 1) := by decide +kernel
theorem dX0_nutBetween_9 : decode cX0_nutBetween 9 = .ok (.getfield 80, 3) := by decide +kernel
theorem dX0_nutBetween_12 : decode cX0_nutBetween 12 = .ok (.if_icmp .ge 23, 3) := by decide +kernel
theorem dX0_nutBetween_15 : decode cX0_nutBetween 15 = .ok (.aload_n 0, 1) := by decide +kernel
theorem dX0_nutBetween_16 : decode cX0_nutBetween 16 = .ok (.getfield 40, 3) := by decide +kernel
theorem dX0_nutBetween_19 : decode cX0_nutBetween 19 = .ok (.iload_n 1, 1) := by decide +kernel
theorem dX0_nutBetween_20 : decode cX0_nutBetween 20 = .ok (.ishr, 1) := by decide +kernel
theorem dX0_nutBetween_21 : decode cX0_nutBetween 21 = .ok (.iconst 1, 1) := by decide +kernel
theorem dX0_nutBetween_22 : decode cX0_nutBetween 22 = .ok (.iand, 1) := by decide +kernel
theorem dX0_nutBetween_23 : decode cX0_nutBetween 23 = .ok (.iconst 1, 1) := by decide +kernel
theorem dX0_nutBetween_24 : decode cX0_nutBetween 24 = .ok (.if_icmp .ne 5, 3) := by decide +kernel
theorem dX0_nutBetween_27 : decode cX0_nutBetween 27 = .ok (.iconst 1, 1) := by decide +kernel
theorem dX0_nutBetween_28 : decode cX0_nutBetween 28 = .ok (.ireturn, 1) := by decide +kernel
theorem dX0_nutBetween_29 : decode cX0_nutBetween 29 = .ok (.iinc 1 1, 3) := by decide +kernel
theorem dX0_nutBetween_32 : decode cX0_nutBetween 32 = .ok (.goto (-25), 3) := by decide +kernel
theorem dX0_nutBetween_35 : decode cX0_nutBetween 35 = .ok (.iconst 0, 1) := by decide +kernel
theorem dX0_nutBetween_36 : decode cX0_nutBetween 36 = .ok (.ireturn, 1) := by decide +kernel
abbrev rm_X0_nutBetween : Room := { frames := 0, cells := 0, slots := 0, locals := 0 }
def f_X0_nutBetween_L7  (x0 : Nat) (σ : Sg) (rec7 : Int32 → Option (Int32 × Sg)) (s : Int32) : Option (Int32 × Sg) := (if (gI σ x0 10) ≤ s then ck (b01 (0 : Int32)) (some ((0 : Int32), σ)) else (if (((gI σ x0 12) >>> (s &&& 31)) &&& (1 : Int32)) = (1 : Int32) then ck (b01 (1 : Int32)) (some ((1 : Int32), σ)) else lB (s + (1 : Int32)) fun v1 => rec7 v1))
def f_X0_nutBetween (x0 : Nat) (σ : Sg) : Option (Int32 × Sg) := lB (((gI σ x0 9) + (1 : Int32))) fun v1 => fx (f_X0_nutBetween_L7 x0 σ) FU v1
theorem t_X0_nutBetween_L7 {K : Cx} (h : Ok K cX0_nutBetween RX0 2 rm_X0_nutBetween (some .boolean)) (hs : kiv K = St) (x0 : Nat) (σ : Sg)  (hk0 : kd x0 0) (rec7 : Int32 → Option (Int32 × Sg)) (hr7 : ∀ u, T K (QI K) 7 [(0, .ref x0), (1, .int u)] [] 0 0 σ (rec7 u)) (s : Int32) : T K (QI K) 7 [(0, .ref x0), (1, .int s)] [] 0 0 σ (f_X0_nutBetween_L7 x0 σ rec7 s) := by
  unfold f_X0_nutBetween_L7
  refine T_iload_n (pc := 7) h dX0_nutBetween_7 rfl 1 rfl ?_
  refine T_aload_n (pc := 8) h dX0_nutBetween_8 rfl 0 rfl ?_
  refine T_getI (pc := 9) h hs hk0 fl_X0_80 rfl dX0_nutBetween_9 ?_
  refine T_icmp_ge (pc := 12) (tgt := 35) h dX0_nutBetween_12 (by decide) ?_ ?_
  · refine T_iconst (pc := 35) h dX0_nutBetween_35 ki_0 ?_
    exact T_zreturn (pc := 36) h (Nat.zero_le _) (Nat.zero_le _) dX0_nutBetween_36
  · refine T_aload_n (pc := 15) h dX0_nutBetween_15 rfl 0 rfl ?_
    refine T_getI (pc := 16) h hs hk0 fl_X0_40 rfl dX0_nutBetween_16 ?_
    refine T_iload_n (pc := 19) h dX0_nutBetween_19 rfl 1 rfl ?_
    refine T_ishr (pc := 20) h dX0_nutBetween_20 ?_
    refine T_iconst (pc := 21) h dX0_nutBetween_21 ki_1 ?_
    refine T_iand (pc := 22) h dX0_nutBetween_22 ?_
    refine T_iconst (pc := 23) h dX0_nutBetween_23 ki_1 ?_
    refine T_icmp_ne (pc := 24) (tgt := 29) h dX0_nutBetween_24 (by decide) ?_ ?_
    · refine T_iinc (fl := fun v1 => [(1, .int v1), (0, .ref x0)]) (pc := 29) h dX0_nutBetween_29 1 rfl ki_1 (by decide) (fun _ => rfl) (fun v1 => ?_)
      refine T_goto (pc := 32) (tgt := 7) h dX0_nutBetween_32 (by decide) ?_
      refine T_sub [1, 0] rfl ?_
      exact hr7 v1
    · refine T_iconst (pc := 27) h dX0_nutBetween_27 ki_1 ?_
      exact T_zreturn (pc := 28) h (Nat.zero_le _) (Nat.zero_le _) dX0_nutBetween_28
theorem t_X0_nutBetween {K : Cx} (h : Ok K cX0_nutBetween RX0 2 rm_X0_nutBetween (some .boolean)) (hs : kiv K = St) (x0 : Nat) (σ : Sg) (hk0 : kd x0 0) : T K (QI K) 0 [(0, .ref x0)] [] 0 0 σ (f_X0_nutBetween x0 σ) := by
  unfold f_X0_nutBetween
  refine T_aload_n (pc := 0) h dX0_nutBetween_0 rfl 0 rfl ?_
  refine T_getI (pc := 1) h hs hk0 fl_X0_77 rfl dX0_nutBetween_1 ?_
  refine T_iconst (pc := 4) h dX0_nutBetween_4 ki_1 ?_
  refine T_iadd (pc := 5) h dX0_nutBetween_5 ?_
  refine T_letI fun v1 => ?_
  refine T_istore_n (lv' := [(1, .int v1), (0, .ref x0)]) (pc := 6) h dX0_nutBetween_6 rfl (by decide) rfl ?_
  refine T_sub [1, 0] rfl ?_
  exact T_fx (B := f_X0_nutBetween_L7 x0 σ) (fl := fun u => [(0, .ref x0), (1, .int u)]) (f := fun u => σ) (fun rec7 hr7 u => t_X0_nutBetween_L7 h hs x0 σ hk0 rec7 hr7 u) FU v1
theorem M_X0_nutBetween (l : Launch) {iv : Sg → Prop} (hi : iv = St) (x0 : Nat) (σ : Sg) (hk0 : kd x0 0) : CTi l yX0_nutBetween cX0_nutBetween 2 (some .boolean) rm_X0_nutBetween iv [.ref x0] σ (f_X0_nutBetween x0 σ) := by
  subst hi
  exact CT_of (by decide) (Nat.le_of_ble_eq_true rfl) (fun K _ h _ hs _ _ => t_X0_nutBetween h hs x0 σ hk0)
/-! LuteTabs$Hand.look(I[II)V -/
theorem dX0_look_0 : decode cX0_look 0 = .ok (.aload_n 0, 1) := by decide +kernel
theorem dX0_look_1 : decode cX0_look 1 = .ok (.iconst 0, 1) := by decide +kernel
theorem dX0_look_2 : decode cX0_look 2 = .ok (.putfield 17, 3) := by decide +kernel
theorem dX0_look_5 : decode cX0_look 5 = .ok (.aload_n 0, 1) := by decide +kernel
theorem dX0_look_6 : decode cX0_look 6 = .ok (.iconst 0, 1) := by decide +kernel
theorem dX0_look_7 : decode cX0_look 7 = .ok (.putfield 21, 3) := by decide +kernel
theorem dX0_look_10 : decode cX0_look 10 = .ok (.aload_n 0, 1) := by decide +kernel
theorem dX0_look_11 : decode cX0_look 11 = .ok (.iconst 0, 1) := by decide +kernel
theorem dX0_look_12 : decode cX0_look 12 = .ok (.putfield 24, 3) := by decide +kernel
theorem dX0_look_15 : decode cX0_look 15 = .ok (.aload_n 0, 1) := by decide +kernel
theorem dX0_look_16 : decode cX0_look 16 = .ok (.iconst 0, 1) := by decide +kernel
theorem dX0_look_17 : decode cX0_look 17 = .ok (.putfield 28, 3) := by decide +kernel
theorem dX0_look_20 : decode cX0_look 20 = .ok (.aload_n 0, 1) := by decide +kernel
theorem dX0_look_21 : decode cX0_look 21 = .ok (.iconst 0, 1) := by decide +kernel
theorem dX0_look_22 : decode cX0_look 22 = .ok (.putfield 31, 3) := by decide +kernel
theorem dX0_look_25 : decode cX0_look 25 = .ok (.aload_n 0, 1) := by decide +kernel
theorem dX0_look_26 : decode cX0_look 26 = .ok (.iconst 0, 1) := by decide +kernel
theorem dX0_look_27 : decode cX0_look 27 = .ok (.putfield 34, 3) := by decide +kernel
theorem dX0_look_30 : decode cX0_look 30 = .ok (.aload_n 0, 1) := by decide +kernel
theorem dX0_look_31 : decode cX0_look 31 = .ok (.iconst 0, 1) := by decide +kernel
theorem dX0_look_32 : decode cX0_look 32 = .ok (.putfield 37, 3) := by decide +kernel
theorem dX0_look_35 : decode cX0_look 35 = .ok (.aload_n 0, 1) := by decide +kernel
theorem dX0_look_36 : decode cX0_look 36 = .ok (.iconst 0, 1) := by decide +kernel
theorem dX0_look_37 : decode cX0_look 37 = .ok (.putfield 40, 3) := by decide +kernel
theorem dX0_look_40 : decode cX0_look 40 = .ok (.iconst 0, 1) := by decide +kernel
theorem dX0_look_41 : decode cX0_look 41 = .ok (.istore 4, 2) := by decide +kernel
theorem dX0_look_43 : decode cX0_look 43 = .ok (.iload 4, 2) := by decide +kernel
theorem dX0_look_45 : decode cX0_look 45 = .ok (.aload_n 0, 1) := by decide +kernel
theorem dX0_look_46 : decode cX0_look 46 = .ok (.getfield 13, 3) := by decide +kernel
theorem dX0_look_49 : decode cX0_look 49 = .ok (.getfield 43, 3) := by decide +kernel
theorem dX0_look_52 : decode cX0_look 52 = .ok (.iload_n 1, 1) := by decide +kernel
theorem dX0_look_53 : decode cX0_look 53 = .ok (.iconst 1, 1) := by decide +kernel
theorem dX0_look_54 : decode cX0_look 54 = .ok (.iadd, 1) := by decide +kernel
theorem dX0_look_55 : decode cX0_look 55 = .ok (.iaload, 1) := by decide +kernel
theorem dX0_look_56 : decode cX0_look 56 = .ok (.if_icmp .ge 81, 3) := by decide +kernel
theorem dX0_look_59 : decode cX0_look 59 = .ok (.aload_n 0, 1) := by decide +kernel
theorem dX0_look_60 : decode cX0_look 60 = .ok (.getfield 13, 3) := by decide +kernel
theorem dX0_look_63 : decode cX0_look 63 = .ok (.getfield 49, 3) := by decide +kernel
theorem dX0_look_66 : decode cX0_look 66 = .ok (.iload_n 1, 1) := by decide +kernel
theorem dX0_look_67 : decode cX0_look 67 = .ok (.iaload, 1) := by decide +kernel
theorem dX0_look_68 : decode cX0_look 68 = .ok (.iload 4, 2) := by decide +kernel
theorem dX0_look_70 : decode cX0_look 70 = .ok (.ishr, 1) := by decide +kernel
theorem dX0_look_71 : decode cX0_look 71 = .ok (.iconst 1, 1) := by decide +kernel
theorem dX0_look_72 : decode cX0_look 72 = .ok (.iand, 1) := by decide +kernel
theorem dX0_look_73 : decode cX0_look 73 = .ok (.iconst 1, 1) := by decide +kernel
theorem dX0_look_74 : decode cX0_look 74 = .ok (.if_icmp .ne 57, 3) := by decide +kernel
theorem dX0_look_77 : decode cX0_look 77 = .ok (.aload_n 2, 1) := by decide +kernel
theorem dX0_look_78 : decode cX0_look 78 = .ok (.iload 4, 2) := by decide +kernel
theorem dX0_look_80 : decode cX0_look 80 = .ok (.iaload, 1) := by decide +kernel
theorem dX0_look_81 : decode cX0_look 81 = .ok (.istore 5, 2) := by decide +kernel
theorem dX0_look_83 : decode cX0_look 83 = .ok (.aload_n 0, 1) := by decide +kernel
theorem dX0_look_84 : decode cX0_look 84 = .ok (.iload 5, 2) := by decide +kernel
theorem dX0_look_86 : decode cX0_look 86 = .ok (.aload_n 0, 1) := by decide +kernel
theorem dX0_look_87 : decode cX0_look 87 = .ok (.getfield 13, 3) := by decide +kernel
theorem dX0_look_90 : decode cX0_look 90 = .ok (.getfield 52, 3) := by decide +kernel
theorem dX0_look_93 : decode cX0_look 93 = .ok (.iload 4, 2) := by decide +kernel
theorem dX0_look_95 : decode cX0_look 95 = .ok (.iaload, 1) := by decide +kernel
theorem dX0_look_96 : decode cX0_look 96 = .ok (.iload_n 3, 1) := by decide +kernel
theorem dX0_look_97 : decode cX0_look 97 = .ok (.iadd, 1) := by decide +kernel
theorem dX0_look_98 : decode cX0_look 98 = .ok (.aload_n 0, 1) := by decide +kernel
theorem dX0_look_99 : decode cX0_look 99 = .ok (.getfield 7, 3) := by decide +kernel
theorem dX0_look_102 : decode cX0_look 102 = .ok (.getfield 55, 3) := by decide +kernel
theorem dX0_look_105 : decode cX0_look 105 = .ok (.iload 5, 2) := by decide +kernel
theorem dX0_look_107 : decode cX0_look 107 = .ok (.iaload, 1) := by decide +kernel
theorem dX0_look_108 : decode cX0_look 108 = .ok (.isub, 1) := by decide +kernel
theorem dX0_look_109 : decode cX0_look 109 = .ok (.iload 4, 2) := by decide +kernel
theorem dX0_look_111 : decode cX0_look 111 = .ok (.aload_n 0, 1) := by decide +kernel
theorem dX0_look_112 : decode cX0_look 112 = .ok (.getfield 13, 3) := by decide +kernel
theorem dX0_look_115 : decode cX0_look 115 = .ok (.getfield 43, 3) := by decide +kernel
theorem dX0_look_118 : decode cX0_look 118 = .ok (.iload_n 1, 1) := by decide +kernel
theorem dX0_look_119 : decode cX0_look 119 = .ok (.iaload, 1) := by decide +kernel
theorem dX0_look_120 : decode cX0_look 120 = .ok (.if_icmp .lt 7, 3) := by decide +kernel
theorem dX0_look_123 : decode cX0_look 123 = .ok (.iconst 1, 1) := by decide +kernel
theorem dX0_look_124 : decode cX0_look 124 = .ok (.goto 4, 3) := by decide +kernel
theorem dX0_look_127 : decode cX0_look 127 = .ok (.iconst 0, 1) := by decide +kernel
theorem dX0_look_128 : decode cX0_look 128 = .ok (.invokevirtual 60, 3) := by decide +kernel
theorem dX0_look_131 : decode cX0_look 131 = .ok (.iinc 4 1, 3) := by decide +kernel
theorem dX0_look_134 : decode cX0_look 134 = .ok (.goto (-91), 3) := by decide +kernel
theorem dX0_look_137 : decode cX0_look 137 = .ok (.aload_n 0, 1) := by decide +kernel
theorem dX0_look_138 : decode cX0_look 138 = .ok (.aload_n 0, 1) := by decide +kernel
theorem dX0_look_139 : decode cX0_look 139 = .ok (.getfield 34, 3) := by decide +kernel
theorem dX0_look_142 : decode cX0_look 142 = .ok (.iconst 2, 1) := by decide +kernel
theorem dX0_look_143 : decode cX0_look 143 = .ok (.if_icmp .lt 14, 3) := by decide +kernel
theorem dX0_look_146 : decode cX0_look 146 = .ok (.aload_n 0, 1) := by decide +kernel
theorem dX0_look_147 : decode cX0_look 147 = .ok (.invokevirtual 64, 3) := by decide +kernel
theorem dX0_look_150 : decode cX0_look 150 = .ok (.ifCond .ne 7, 3) := by decide +kernel
theorem dX0_look_153 : decode cX0_look 153 = .ok (.iconst 1, 1) := by decide +kernel
theorem dX0_look_154 : decode cX0_look 154 = .ok (.goto 4, 3) := by decide +kernel
theorem dX0_look_157 : decode cX0_look 157 = .ok (.iconst 0, 1) := by decide +kernel
theorem dX0_look_158 : decode cX0_look 158 = .ok (.putfield 68, 3) := by decide +kernel
theorem dX0_look_161 : decode cX0_look 161 = .ok (.aload_n 0, 1) := by decide +kernel
theorem dX0_look_162 : decode cX0_look 162 = .ok (.getfield 68, 3) := by decide +kernel
theorem dX0_look_165 : decode cX0_look 165 = .ok (.ifCond .eq 18, 3) := by decide +kernel
theorem dX0_look_168 : decode cX0_look 168 = .ok (.aload_n 0, 1) := by decide +kernel
theorem dX0_look_169 : decode cX0_look 169 = .ok (.dup, 1) := by decide +kernel
theorem dX0_look_170 : decode cX0_look 170 = .ok (.getfield 21, 3) := by decide +kernel
theorem dX0_look_173 : decode cX0_look 173 = .ok (.aload_n 0, 1) := by decide +kernel
theorem dX0_look_174 : decode cX0_look 174 = .ok (.getfield 34, 3) := by decide +kernel
theorem dX0_look_177 : decode cX0_look 177 = .ok (.iconst 1, 1) := by decide +kernel
theorem dX0_look_178 : decode cX0_look 178 = .ok (.isub, 1) := by decide +kernel
theorem dX0_look_179 : decode cX0_look 179 = .ok (.isub, 1) := by decide +kernel
theorem dX0_look_180 : decode cX0_look 180 = .ok (.putfield 21, 3) := by decide +kernel
theorem dX0_look_183 : decode cX0_look 183 = .ok (.return_, 1) := by decide +kernel
abbrev rm_X0_look : Room := { frames := 2, cells := 0, slots := 0, locals := 46 }
def f_X0_look_L131 (rec43 : Int32 × Sg → Option (Unit × Sg)) (x0 : Nat) (x1 : Int32) (x2 : Nat) (x3 : Int32) (x4 : Int32)  (σ : Sg) : Option (Unit × Sg) := lB (x4 + (1 : Int32)) fun v1 => rec43 (v1, σ)
def f_X0_look_L128 (rec43 : Int32 × Sg → Option (Unit × Sg)) (x0 : Nat) (x1 : Int32) (x2 : Nat) (x3 : Int32) (x4 : Int32) (y0 : Nat) (y1 : Int32) (y2 : Int32) (y3 : Int32) (σ : Sg) : Option (Unit × Sg) := bd (f_X0_take y0 y1 y2 y3 σ) fun _ s1 => f_X0_look_L131 rec43 x0 x1 x2 x3 x4 s1
def f_X0_look_L183    (σ : Sg) : Option (Unit × Sg) := some ((), σ)
def f_X0_look_L158  (x0 : Nat) (y0 : Nat) (y1 : Int32) (σ : Sg) : Option (Unit × Sg) := ck (b01 y1) (lB (pI σ y0 4 y1) fun s1 => (if (gI s1 x0 4) = 0 then f_X0_look_L183 s1 else lB (pI s1 x0 3 ((gI s1 x0 3) - ((gI s1 x0 8) - (1 : Int32)))) fun s2 => f_X0_look_L183 s2))
def f_X0_look_L157  (x0 : Nat) (y0 : Nat) (σ : Sg) : Option (Unit × Sg) := f_X0_look_L158 x0 y0 (0 : Int32) σ
def f_X0_look_L43  (x0 : Nat) (x1 : Int32) (x2 : Nat) (x3 : Int32) (rec43 : Int32 × Sg → Option (Unit × Sg)) (s : Int32 × Sg) : Option (Unit × Sg) := ck (inb (x1 + (1 : Int32)) (aL (gR (s.2) (gR (s.2) x0 1) 4))) ((if (gI (s.2) (gR (s.2) (gR (s.2) x0 1) 4) (x1 + (1 : Int32)).toNatClampNeg) ≤ (s.1) then (if (gI (s.2) x0 8) < (2 : Int32) then f_X0_look_L157 x0 x0 (s.2) else bd (f_X0_nutBetween x0 (s.2)) fun r4 s3 => (if r4 = 0 then f_X0_look_L158 x0 x0 (1 : Int32) s3 else f_X0_look_L157 x0 x0 s3)) else ck (inb x1 (aL (gR (s.2) (gR (s.2) x0 1) 5))) ((if (((gI (s.2) (gR (s.2) (gR (s.2) x0 1) 5) x1.toNatClampNeg) >>> ((s.1) &&& 31)) &&& (1 : Int32)) = (1 : Int32) then ck (inb (s.1) (aL x2)) (lB ((gI (s.2) x2 (s.1).toNatClampNeg)) fun v7 => ck (inb (s.1) (aL (gR (s.2) (gR (s.2) x0 1) 1))) (ck (inb v7 (aL (gR (s.2) (gR (s.2) x0 0) 1))) (ck (inb x1 (aL (gR (s.2) (gR (s.2) x0 1) 4))) ((if (s.1) < (gI (s.2) (gR (s.2) (gR (s.2) x0 1) 4) x1.toNatClampNeg) then f_X0_look_L128 rec43 x0 x1 x2 x3 (s.1) x0 v7 (((gI (s.2) (gR (s.2) (gR (s.2) x0 1) 1) (s.1).toNatClampNeg) + x3) - (gI (s.2) (gR (s.2) (gR (s.2) x0 0) 1) v7.toNatClampNeg)) (0 : Int32) (s.2) else f_X0_look_L128 rec43 x0 x1 x2 x3 (s.1) x0 v7 (((gI (s.2) (gR (s.2) (gR (s.2) x0 1) 1) (s.1).toNatClampNeg) + x3) - (gI (s.2) (gR (s.2) (gR (s.2) x0 0) 1) v7.toNatClampNeg)) (1 : Int32) (s.2)))))) else f_X0_look_L131 rec43 x0 x1 x2 x3 (s.1) (s.2)))))
def f_X0_look (x0 : Nat) (x1 : Int32) (x2 : Nat) (x3 : Int32) (σ : Sg) : Option (Unit × Sg) := lB (pI σ x0 2 (0 : Int32)) fun s1 => lB (pI s1 x0 3 (0 : Int32)) fun s2 => ck (b01 (0 : Int32)) (lB (pI s2 x0 5 (0 : Int32)) fun s3 => lB (pI s3 x0 6 (0 : Int32)) fun s4 => lB (pI s4 x0 7 (0 : Int32)) fun s5 => lB (pI s5 x0 8 (0 : Int32)) fun s6 => lB (pI s6 x0 11 (0 : Int32)) fun s7 => lB (pI s7 x0 12 (0 : Int32)) fun s8 => fx (f_X0_look_L43 x0 x1 x2 x3) FU ((0 : Int32), s8))
theorem t_X0_look_L131 {K : Cx} (h : Ok K cX0_look RX0 6 rm_X0_look none) (hs : kiv K = St) (x0 : Nat) (x1 : Int32) (x2 : Nat) (x3 : Int32) (x4 : Int32)  (σ : Sg) (rec43 : Int32 × Sg → Option (Unit × Sg)) (hr43 : ∀ u, T K (QV K) 43 [(0, .ref x0), (1, .int x1), (2, .ref x2), (3, .int x3), (4, .int (u.1))] [] 0 0 (u.2) (rec43 u)) (hk0 : kd x0 0) (hk2 : kd x2 10)  : T K (QV K) 131 [(0, .ref x0), (1, .int x1), (2, .ref x2), (3, .int x3), (4, .int x4)] [] 0 0 σ (f_X0_look_L131 rec43 x0 x1 x2 x3 x4 σ) := by
  unfold f_X0_look_L131
  refine T_iinc (fl := fun v1 => [(4, .int v1), (0, .ref x0), (1, .int x1), (2, .ref x2), (3, .int x3)]) (pc := 131) h dX0_look_131 4 rfl ki_1 (by decide) (fun _ => rfl) (fun v1 => ?_)
  refine T_goto (pc := 134) (tgt := 43) h dX0_look_134 (by decide) ?_
  refine T_sub [1, 2, 3, 4, 0] rfl ?_
  exact hr43 (v1, σ)
theorem t_X0_look_L128 {K : Cx} (h : Ok K cX0_look RX0 6 rm_X0_look none) (hs : kiv K = St) (x0 : Nat) (x1 : Int32) (x2 : Nat) (x3 : Int32) (x4 : Int32) (y0 : Nat) (y1 : Int32) (y2 : Int32) (y3 : Int32) (σ : Sg) (rec43 : Int32 × Sg → Option (Unit × Sg)) (hr43 : ∀ u, T K (QV K) 43 [(0, .ref x0), (1, .int x1), (2, .ref x2), (3, .int x3), (4, .int (u.1))] [] 0 0 (u.2) (rec43 u)) (hk0 : kd x0 0) (hk2 : kd x2 10) (hy0 : kd y0 0) : T K (QV K) 128 [(0, .ref x0), (1, .int x1), (2, .ref x2), (3, .int x3), (4, .int x4)] [.int y3, .int y2, .int y1, .ref y0] 0 0 σ (f_X0_look_L128 rec43 x0 x1 x2 x3 x4 y0 y1 y2 y3 σ) := by
  unfold f_X0_look_L128
  refine T_callVv (pc := 128) h (M_X0_take (kl K) hs y0 y1 y2 y3 σ hy0) mv_X0_take hs hy0 ml_X0_60 rfl ⟨Nat.le_of_ble_eq_true rfl, Nat.le_of_ble_eq_true rfl⟩ ⟨Nat.le_refl 0, Nat.le_refl 0⟩ (Nat.le_of_ble_eq_true rfl) dX0_look_128 rfl (fun _ s1 => ?_)
  refine T_sub [0, 1, 2, 3, 4] rfl ?_
  exact t_X0_look_L131 h hs x0 x1 x2 x3 x4 s1 rec43 hr43 hk0 hk2
theorem t_X0_look_L183 {K : Cx} (h : Ok K cX0_look RX0 6 rm_X0_look none) (hs : kiv K = St)   (σ : Sg)    : T K (QV K) 183 [] [] 0 0 σ (f_X0_look_L183 σ) := by
  unfold f_X0_look_L183
  exact T_return (pc := 183) h (Nat.zero_le _) (Nat.zero_le _) dX0_look_183
theorem t_X0_look_L158 {K : Cx} (h : Ok K cX0_look RX0 6 rm_X0_look none) (hs : kiv K = St) (x0 : Nat) (y0 : Nat) (y1 : Int32) (σ : Sg)  (hk0 : kd x0 0) (hy0 : kd y0 0) : T K (QV K) 158 [(0, .ref x0)] [.int y1, .ref y0] 0 0 σ (f_X0_look_L158 x0 y0 y1 σ) := by
  unfold f_X0_look_L158
  refine T_putZ (pc := 158) h hs hy0 fl_X0_68 rfl rfl dX0_look_158 ?_
  refine T_letS fun s1 => ?_
  refine T_aload_n (pc := 161) h dX0_look_161 rfl 0 rfl ?_
  refine T_getI (pc := 162) h hs hk0 fl_X0_68 rfl dX0_look_162 ?_
  refine T_if_eq (pc := 165) (tgt := 183) h dX0_look_165 (by decide) ?_ ?_
  · refine T_sub [] rfl ?_
    exact t_X0_look_L183 h hs s1
  · refine T_aload_n (pc := 168) h dX0_look_168 rfl 0 rfl ?_
    refine T_dup (pc := 169) h dX0_look_169 rfl ?_
    refine T_getI (pc := 170) h hs hk0 fl_X0_21 rfl dX0_look_170 ?_
    refine T_aload_n (pc := 173) h dX0_look_173 rfl 0 rfl ?_
    refine T_getI (pc := 174) h hs hk0 fl_X0_34 rfl dX0_look_174 ?_
    refine T_iconst (pc := 177) h dX0_look_177 ki_1 ?_
    refine T_isub (pc := 178) h dX0_look_178 ?_
    refine T_isub (pc := 179) h dX0_look_179 ?_
    refine T_putI (pc := 180) h hs hk0 fl_X0_21 rfl rfl dX0_look_180 ?_
    refine T_letS fun s2 => ?_
    refine T_sub [] rfl ?_
    exact t_X0_look_L183 h hs s2
theorem t_X0_look_L157 {K : Cx} (h : Ok K cX0_look RX0 6 rm_X0_look none) (hs : kiv K = St) (x0 : Nat) (y0 : Nat) (σ : Sg)  (hk0 : kd x0 0) (hy0 : kd y0 0) : T K (QV K) 157 [(0, .ref x0)] [.ref y0] 0 0 σ (f_X0_look_L157 x0 y0 σ) := by
  unfold f_X0_look_L157
  refine T_iconst (pc := 157) h dX0_look_157 ki_0 ?_
  refine T_sub [0] rfl ?_
  exact t_X0_look_L158 h hs x0 y0 (0 : Int32) σ hk0 hy0
theorem t_X0_look_L43 {K : Cx} (h : Ok K cX0_look RX0 6 rm_X0_look none) (hs : kiv K = St) (x0 : Nat) (x1 : Int32) (x2 : Nat) (x3 : Int32)  (hk0 : kd x0 0) (hk2 : kd x2 10) (rec43 : Int32 × Sg → Option (Unit × Sg)) (hr43 : ∀ u, T K (QV K) 43 [(0, .ref x0), (1, .int x1), (2, .ref x2), (3, .int x3), (4, .int (u.1))] [] 0 0 (u.2) (rec43 u)) (s : Int32 × Sg) : T K (QV K) 43 [(0, .ref x0), (1, .int x1), (2, .ref x2), (3, .int x3), (4, .int (s.1))] [] 0 0 (s.2) (f_X0_look_L43 x0 x1 x2 x3 rec43 s) := by
  unfold f_X0_look_L43
  refine T_iload (pc := 43) h dX0_look_43 4 rfl ?_
  refine T_aload_n (pc := 45) h dX0_look_45 rfl 0 rfl ?_
  refine T_gR (pc := 46) h hs hk0 fl_X0_13 rfl fk_0_1 dX0_look_46 (fun hq1 => ?_)
  refine T_gR (pc := 49) h hs hq1 fl_X0_43 rfl fk_2_4 dX0_look_49 (fun hq2 => ?_)
  refine T_iload_n (pc := 52) h dX0_look_52 rfl 1 rfl ?_
  refine T_iconst (pc := 53) h dX0_look_53 ki_1 ?_
  refine T_iadd (pc := 54) h dX0_look_54 ?_
  refine T_iald (pc := 55) h hs hq2 dX0_look_55 ?_
  refine T_icmp_ge (pc := 56) (tgt := 137) h dX0_look_56 (by decide) ?_ ?_
  · refine T_aload_n (pc := 137) h dX0_look_137 rfl 0 rfl ?_
    refine T_aload_n (pc := 138) h dX0_look_138 rfl 0 rfl ?_
    refine T_getI (pc := 139) h hs hk0 fl_X0_34 rfl dX0_look_139 ?_
    refine T_iconst (pc := 142) h dX0_look_142 ki_2 ?_
    refine T_icmp_lt (pc := 143) (tgt := 157) h dX0_look_143 (by decide) ?_ ?_
    · refine T_sub [0] rfl ?_
      exact t_X0_look_L157 h hs x0 x0 (s.2) hk0 hk0
    · refine T_aload_n (pc := 146) h dX0_look_146 rfl 0 rfl ?_
      refine T_callVi (pc := 147) h (M_X0_nutBetween (kl K) hs x0 (s.2) hk0) mv_X0_nutBetween hs hk0 ml_X0_64 rfl ⟨Nat.le_of_ble_eq_true rfl, Nat.le_of_ble_eq_true rfl⟩ ⟨Nat.le_refl 0, Nat.le_refl 0⟩ (Nat.le_of_ble_eq_true rfl) dX0_look_147 rfl (fun r4 s3 => ?_)
      refine T_if_ne (pc := 150) (tgt := 157) h dX0_look_150 (by decide) ?_ ?_
      · refine T_sub [0] rfl ?_
        exact t_X0_look_L157 h hs x0 x0 s3 hk0 hk0
      · refine T_iconst (pc := 153) h dX0_look_153 ki_1 ?_
        refine T_goto (pc := 154) (tgt := 158) h dX0_look_154 (by decide) ?_
        refine T_sub [0] rfl ?_
        exact t_X0_look_L158 h hs x0 x0 (1 : Int32) s3 hk0 hk0
  · refine T_aload_n (pc := 59) h dX0_look_59 rfl 0 rfl ?_
    refine T_gR (pc := 60) h hs hk0 fl_X0_13 rfl fk_0_1 dX0_look_60 (fun hq5 => ?_)
    refine T_gR (pc := 63) h hs hq5 fl_X0_49 rfl fk_2_5 dX0_look_63 (fun hq6 => ?_)
    refine T_iload_n (pc := 66) h dX0_look_66 rfl 1 rfl ?_
    refine T_iald (pc := 67) h hs hq6 dX0_look_67 ?_
    refine T_iload (pc := 68) h dX0_look_68 4 rfl ?_
    refine T_ishr (pc := 70) h dX0_look_70 ?_
    refine T_iconst (pc := 71) h dX0_look_71 ki_1 ?_
    refine T_iand (pc := 72) h dX0_look_72 ?_
    refine T_iconst (pc := 73) h dX0_look_73 ki_1 ?_
    refine T_icmp_ne (pc := 74) (tgt := 131) h dX0_look_74 (by decide) ?_ ?_
    · refine T_sub [0, 1, 2, 3, 4] rfl ?_
      exact t_X0_look_L131 h hs x0 x1 x2 x3 (s.1) (s.2) rec43 hr43 hk0 hk2
    · refine T_aload_n (pc := 77) h dX0_look_77 rfl 2 rfl ?_
      refine T_iload (pc := 78) h dX0_look_78 4 rfl ?_
      refine T_iald (pc := 80) h hs hk2 dX0_look_80 ?_
      refine T_letI fun v7 => ?_
      refine T_istore (lv' := [(5, .int v7), (0, .ref x0), (1, .int x1), (2, .ref x2), (3, .int x3), (4, .int (s.1))]) (pc := 81) h dX0_look_81 (by decide) rfl ?_
      refine T_aload_n (pc := 83) h dX0_look_83 rfl 1 rfl ?_
      refine T_iload (pc := 84) h dX0_look_84 0 rfl ?_
      refine T_aload_n (pc := 86) h dX0_look_86 rfl 1 rfl ?_
      refine T_gR (pc := 87) h hs hk0 fl_X0_13 rfl fk_0_1 dX0_look_87 (fun hq8 => ?_)
      refine T_gR (pc := 90) h hs hq8 fl_X0_52 rfl fk_2_1 dX0_look_90 (fun hq9 => ?_)
      refine T_iload (pc := 93) h dX0_look_93 5 rfl ?_
      refine T_iald (pc := 95) h hs hq9 dX0_look_95 ?_
      refine T_iload_n (pc := 96) h dX0_look_96 rfl 4 rfl ?_
      refine T_iadd (pc := 97) h dX0_look_97 ?_
      refine T_aload_n (pc := 98) h dX0_look_98 rfl 1 rfl ?_
      refine T_gR (pc := 99) h hs hk0 fl_X0_7 rfl fk_0_0 dX0_look_99 (fun hq10 => ?_)
      refine T_gR (pc := 102) h hs hq10 fl_X0_55 rfl fk_1_1 dX0_look_102 (fun hq11 => ?_)
      refine T_iload (pc := 105) h dX0_look_105 0 rfl ?_
      refine T_iald (pc := 107) h hs hq11 dX0_look_107 ?_
      refine T_isub (pc := 108) h dX0_look_108 ?_
      refine T_iload (pc := 109) h dX0_look_109 5 rfl ?_
      refine T_aload_n (pc := 111) h dX0_look_111 rfl 1 rfl ?_
      refine T_gR (pc := 112) h hs hk0 fl_X0_13 rfl fk_0_1 dX0_look_112 (fun hq12 => ?_)
      refine T_gR (pc := 115) h hs hq12 fl_X0_43 rfl fk_2_4 dX0_look_115 (fun hq13 => ?_)
      refine T_iload_n (pc := 118) h dX0_look_118 rfl 2 rfl ?_
      refine T_iald (pc := 119) h hs hq13 dX0_look_119 ?_
      refine T_icmp_lt (pc := 120) (tgt := 127) h dX0_look_120 (by decide) ?_ ?_
      · refine T_iconst (pc := 127) h dX0_look_127 ki_0 ?_
        refine T_sub [1, 2, 3, 4, 5] rfl ?_
        exact t_X0_look_L128 h hs x0 x1 x2 x3 (s.1) x0 v7 (((gI (s.2) (gR (s.2) (gR (s.2) x0 1) 1) (s.1).toNatClampNeg) + x3) - (gI (s.2) (gR (s.2) (gR (s.2) x0 0) 1) v7.toNatClampNeg)) (0 : Int32) (s.2) rec43 hr43 hk0 hk2 hk0
      · refine T_iconst (pc := 123) h dX0_look_123 ki_1 ?_
        refine T_goto (pc := 124) (tgt := 128) h dX0_look_124 (by decide) ?_
        refine T_sub [1, 2, 3, 4, 5] rfl ?_
        exact t_X0_look_L128 h hs x0 x1 x2 x3 (s.1) x0 v7 (((gI (s.2) (gR (s.2) (gR (s.2) x0 1) 1) (s.1).toNatClampNeg) + x3) - (gI (s.2) (gR (s.2) (gR (s.2) x0 0) 1) v7.toNatClampNeg)) (1 : Int32) (s.2) rec43 hr43 hk0 hk2 hk0
theorem t_X0_look {K : Cx} (h : Ok K cX0_look RX0 6 rm_X0_look none) (hs : kiv K = St) (x0 : Nat) (x1 : Int32) (x2 : Nat) (x3 : Int32) (σ : Sg) (hk0 : kd x0 0) (hk2 : kd x2 10) : T K (QV K) 0 [(0, .ref x0), (1, .int x1), (2, .ref x2), (3, .int x3)] [] 0 0 σ (f_X0_look x0 x1 x2 x3 σ) := by
  unfold f_X0_look
  refine T_aload_n (pc := 0) h dX0_look_0 rfl 0 rfl ?_
  refine T_iconst (pc := 1) h dX0_look_1 ki_0 ?_
  refine T_putI (pc := 2) h hs hk0 fl_X0_17 rfl rfl dX0_look_2 ?_
  refine T_letS fun s1 => ?_
  refine T_aload_n (pc := 5) h dX0_look_5 rfl 0 rfl ?_
  refine T_iconst (pc := 6) h dX0_look_6 ki_0 ?_
  refine T_putI (pc := 7) h hs hk0 fl_X0_21 rfl rfl dX0_look_7 ?_
  refine T_letS fun s2 => ?_
  refine T_aload_n (pc := 10) h dX0_look_10 rfl 0 rfl ?_
  refine T_iconst (pc := 11) h dX0_look_11 ki_0 ?_
  refine T_putZ (pc := 12) h hs hk0 fl_X0_24 rfl rfl dX0_look_12 ?_
  refine T_letS fun s3 => ?_
  refine T_aload_n (pc := 15) h dX0_look_15 rfl 0 rfl ?_
  refine T_iconst (pc := 16) h dX0_look_16 ki_0 ?_
  refine T_putI (pc := 17) h hs hk0 fl_X0_28 rfl rfl dX0_look_17 ?_
  refine T_letS fun s4 => ?_
  refine T_aload_n (pc := 20) h dX0_look_20 rfl 0 rfl ?_
  refine T_iconst (pc := 21) h dX0_look_21 ki_0 ?_
  refine T_putI (pc := 22) h hs hk0 fl_X0_31 rfl rfl dX0_look_22 ?_
  refine T_letS fun s5 => ?_
  refine T_aload_n (pc := 25) h dX0_look_25 rfl 0 rfl ?_
  refine T_iconst (pc := 26) h dX0_look_26 ki_0 ?_
  refine T_putI (pc := 27) h hs hk0 fl_X0_34 rfl rfl dX0_look_27 ?_
  refine T_letS fun s6 => ?_
  refine T_aload_n (pc := 30) h dX0_look_30 rfl 0 rfl ?_
  refine T_iconst (pc := 31) h dX0_look_31 ki_0 ?_
  refine T_putI (pc := 32) h hs hk0 fl_X0_37 rfl rfl dX0_look_32 ?_
  refine T_letS fun s7 => ?_
  refine T_aload_n (pc := 35) h dX0_look_35 rfl 0 rfl ?_
  refine T_iconst (pc := 36) h dX0_look_36 ki_0 ?_
  refine T_putI (pc := 37) h hs hk0 fl_X0_40 rfl rfl dX0_look_37 ?_
  refine T_letS fun s8 => ?_
  refine T_iconst (pc := 40) h dX0_look_40 ki_0 ?_
  refine T_istore (lv' := [(4, .int (0 : Int32)), (0, .ref x0), (1, .int x1), (2, .ref x2), (3, .int x3)]) (pc := 41) h dX0_look_41 (by decide) rfl ?_
  refine T_sub [1, 2, 3, 4, 0] rfl ?_
  exact T_fx (B := f_X0_look_L43 x0 x1 x2 x3) (fl := fun u => [(0, .ref x0), (1, .int x1), (2, .ref x2), (3, .int x3), (4, .int (u.1))]) (f := fun u => (u.2)) (fun rec43 hr43 u => t_X0_look_L43 h hs x0 x1 x2 x3 hk0 hk2 rec43 hr43 u) FU ((0 : Int32), s8)
theorem M_X0_look (l : Launch) {iv : Sg → Prop} (hi : iv = St) (x0 : Nat) (x1 : Int32) (x2 : Nat) (x3 : Int32) (σ : Sg) (hk0 : kd x0 0) (hk2 : kd x2 10) : CTv l yX0_look cX0_look 6 none rm_X0_look iv [.ref x0, .int x1, .ref x2, .int x3] σ (f_X0_look x0 x1 x2 x3 σ) := by
  subst hi
  exact CT_of (by decide) (Nat.le_of_ble_eq_true rfl) (fun K _ h _ hs _ _ => t_X0_look h hs x0 x1 x2 x3 σ hk0 hk2)
