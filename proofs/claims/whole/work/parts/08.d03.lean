/-! LuteTabs.sheet(III)I -/
theorem dX8_sheet_0 : decode cX8_sheet 0 = .ok (.iload_n 1, 1) := by decide +kernel
theorem dX8_sheet_1 : decode cX8_sheet 1 = .ok (.invokestatic 253, 3) := by decide +kernel
theorem dX8_sheet_4 : decode cX8_sheet 4 = .ok (.ifCond .eq 16, 3) := by decide +kernel
theorem dX8_sheet_7 : decode cX8_sheet 7 = .ok (.iload_n 2, 1) := by decide +kernel
theorem dX8_sheet_8 : decode cX8_sheet 8 = .ok (.invokestatic 256, 3) := by decide +kernel
theorem dX8_sheet_11 : decode cX8_sheet 11 = .ok (.ifCond .eq 9, 3) := by decide +kernel
theorem dX8_sheet_14 : decode cX8_sheet 14 = .ok (.iload_n 3, 1) := by decide +kernel
theorem dX8_sheet_15 : decode cX8_sheet 15 = .ok (.bipush 48, 2) := by decide +kernel
theorem dX8_sheet_17 : decode cX8_sheet 17 = .ok (.if_icmp .le 6, 3) := by decide +kernel
theorem dX8_sheet_20 : decode cX8_sheet 20 = .ok (.bipush (-2), 2) := by decide +kernel
theorem dX8_sheet_22 : decode cX8_sheet 22 = .ok (.ireturn, 1) := by decide +kernel
theorem dX8_sheet_23 : decode cX8_sheet 23 = .ok (.iload_n 3, 1) := by decide +kernel
theorem dX8_sheet_24 : decode cX8_sheet 24 = .ok (.ifCond .ge 9, 3) := by decide +kernel
theorem dX8_sheet_27 : decode cX8_sheet 27 = .ok (.aload_n 0, 1) := by decide +kernel
theorem dX8_sheet_28 : decode cX8_sheet 28 = .ok (.iconst 5, 1) := by decide +kernel
theorem dX8_sheet_29 : decode cX8_sheet 29 = .ok (.invokevirtual 229, 3) := by decide +kernel
theorem dX8_sheet_32 : decode cX8_sheet 32 = .ok (.ireturn, 1) := by decide +kernel
theorem dX8_sheet_33 : decode cX8_sheet 33 = .ok (.aload_n 0, 1) := by decide +kernel
theorem dX8_sheet_34 : decode cX8_sheet 34 = .ok (.getfield 64, 3) := by decide +kernel
theorem dX8_sheet_37 : decode cX8_sheet 37 = .ok (.iload_n 1, 1) := by decide +kernel
theorem dX8_sheet_38 : decode cX8_sheet 38 = .ok (.aaload, 1) := by decide +kernel
theorem dX8_sheet_39 : decode cX8_sheet 39 = .ok (.iload_n 2, 1) := by decide +kernel
theorem dX8_sheet_40 : decode cX8_sheet 40 = .ok (.iload_n 3, 1) := by decide +kernel
theorem dX8_sheet_41 : decode cX8_sheet 41 = .ok (.invokevirtual 259, 3) := by decide +kernel
theorem dX8_sheet_44 : decode cX8_sheet 44 = .ok (.iload_n 3, 1) := by decide +kernel
theorem dX8_sheet_45 : decode cX8_sheet 45 = .ok (.ireturn, 1) := by decide +kernel
abbrev rm_X8_sheet : Room := { frames := 2, cells := 0, slots := 0, locals := 46 }
def f_X8_sheet_L20    (σ : Sg) : Option (Int32 × Sg) := some ((-2 : Int32), σ)
def f_X8_sheet (x0 : Nat) (x1 : Int32) (x2 : Int32) (x3 : Int32) (σ : Sg) : Option (Int32 × Sg) := bd (f_X8_isSheet x1 σ) fun r2 s1 => (if r2 = 0 then f_X8_sheet_L20 s1 else bd (f_X6_isForm x2 s1) fun r4 s3 => (if r4 = 0 then f_X8_sheet_L20 s3 else (if x3 ≤ (48 : Int32) then (if 0 ≤ x3 then ck (inb x1 (aL (gR s3 x0 7))) (bd (f_X6_makeNew (gR s3 (gR s3 x0 7) x1.toNatClampNeg) x2 x3 s3) fun _ s7 => some (x3, s7)) else bd (f_X8_finding x0 (5 : Int32) s3) fun r9 s8 => some (r9, s8)) else f_X8_sheet_L20 s3)))
theorem t_X8_sheet_L20 {K : Cx} (h : Ok K cX8_sheet RX8 4 rm_X8_sheet (some .int)) (hs : kiv K = St)   (σ : Sg)    : T K (QI K) 20 [] [] 0 0 σ (f_X8_sheet_L20 σ) := by
  unfold f_X8_sheet_L20
  refine T_bipush (pc := 20) h dX8_sheet_20 kb_m2 ?_
  exact T_ireturn (pc := 22) h (Nat.zero_le _) (Nat.zero_le _) dX8_sheet_22
theorem t_X8_sheet {K : Cx} (h : Ok K cX8_sheet RX8 4 rm_X8_sheet (some .int)) (hs : kiv K = St) (x0 : Nat) (x1 : Int32) (x2 : Int32) (x3 : Int32) (σ : Sg) (hk0 : kd x0 8) : T K (QI K) 0 [(0, .ref x0), (1, .int x1), (2, .int x2), (3, .int x3)] [] 0 0 σ (f_X8_sheet x0 x1 x2 x3 σ) := by
  unfold f_X8_sheet
  refine T_iload_n (pc := 0) h dX8_sheet_0 rfl 1 rfl ?_
  refine T_callSi (pc := 1) h (M_X8_isSheet (kl K) hs x1 σ ) mst_X8_isSheet ml_X8_253 rfl ⟨Nat.le_of_ble_eq_true rfl, Nat.le_of_ble_eq_true rfl⟩ ⟨Nat.le_refl 0, Nat.le_refl 0⟩ (Nat.le_of_ble_eq_true rfl) dX8_sheet_1 rfl (fun r2 s1 => ?_)
  refine T_if_eq (pc := 4) (tgt := 20) h dX8_sheet_4 (by decide) ?_ ?_
  · refine T_sub [] rfl ?_
    exact t_X8_sheet_L20 h hs s1
  · refine T_iload_n (pc := 7) h dX8_sheet_7 rfl 2 rfl ?_
    refine T_callSi (pc := 8) h (M_X6_isForm (kl K) hs x2 s1 ) mst_X6_isForm ml_X8_256 rfl ⟨Nat.le_of_ble_eq_true rfl, Nat.le_of_ble_eq_true rfl⟩ ⟨Nat.le_refl 0, Nat.le_refl 0⟩ (Nat.le_of_ble_eq_true rfl) dX8_sheet_8 rfl (fun r4 s3 => ?_)
    refine T_if_eq (pc := 11) (tgt := 20) h dX8_sheet_11 (by decide) ?_ ?_
    · refine T_sub [] rfl ?_
      exact t_X8_sheet_L20 h hs s3
    · refine T_iload_n (pc := 14) h dX8_sheet_14 rfl 3 rfl ?_
      refine T_bipush (pc := 15) h dX8_sheet_15 kb_48 ?_
      refine T_icmp_le (pc := 17) (tgt := 23) h dX8_sheet_17 (by decide) ?_ ?_
      · refine T_iload_n (pc := 23) h dX8_sheet_23 rfl 3 rfl ?_
        refine T_if_ge (pc := 24) (tgt := 33) h dX8_sheet_24 (by decide) ?_ ?_
        · refine T_aload_n (pc := 33) h dX8_sheet_33 rfl 0 rfl ?_
          refine T_gR (pc := 34) h hs hk0 fl_X8_64 rfl fk_8_7 dX8_sheet_34 (fun hq5 => ?_)
          refine T_iload_n (pc := 37) h dX8_sheet_37 rfl 1 rfl ?_
          refine T_aald (c := 13) (c' := 6) (pc := 38) h hs hq5 (by decide) dX8_sheet_38 (fun hq6 => ?_)
          refine T_iload_n (pc := 39) h dX8_sheet_39 rfl 2 rfl ?_
          refine T_iload_n (pc := 40) h dX8_sheet_40 rfl 3 rfl ?_
          refine T_callVv (pc := 41) h (M_X6_makeNew (kl K) hs (gR s3 (gR s3 x0 7) x1.toNatClampNeg) x2 x3 s3 hq6) mv_X6_makeNew hs hq6 ml_X8_259 rfl ⟨Nat.le_of_ble_eq_true rfl, Nat.le_of_ble_eq_true rfl⟩ ⟨Nat.le_refl 0, Nat.le_refl 0⟩ (Nat.le_of_ble_eq_true rfl) dX8_sheet_41 rfl (fun _ s7 => ?_)
          refine T_iload_n (pc := 44) h dX8_sheet_44 rfl 3 rfl ?_
          exact T_ireturn (pc := 45) h (Nat.zero_le _) (Nat.zero_le _) dX8_sheet_45
        · refine T_aload_n (pc := 27) h dX8_sheet_27 rfl 0 rfl ?_
          refine T_iconst (pc := 28) h dX8_sheet_28 ki_5 ?_
          refine T_callVi (pc := 29) h (M_X8_finding (kl K) hs x0 (5 : Int32) s3 hk0) mv_X8_finding hs hk0 ml_X8_229 rfl ⟨Nat.le_of_ble_eq_true rfl, Nat.le_of_ble_eq_true rfl⟩ ⟨Nat.le_refl 0, Nat.le_refl 0⟩ (Nat.le_of_ble_eq_true rfl) dX8_sheet_29 rfl (fun r9 s8 => ?_)
          exact T_ireturn (pc := 32) h (Nat.zero_le _) (Nat.zero_le _) dX8_sheet_32
      · refine T_sub [] rfl ?_
        exact t_X8_sheet_L20 h hs s3
theorem M_X8_sheet (l : Launch) {iv : Sg → Prop} (hi : iv = St) (x0 : Nat) (x1 : Int32) (x2 : Int32) (x3 : Int32) (σ : Sg) (hk0 : kd x0 8) : CTi l yX8_sheet cX8_sheet 4 (some .int) rm_X8_sheet iv [.ref x0, .int x1, .int x2, .int x3] σ (f_X8_sheet x0 x1 x2 x3 σ) := by
  subst hi
  exact CT_of (by decide) (Nat.le_of_ble_eq_true rfl) (fun K _ h _ hs _ _ => t_X8_sheet h hs x0 x1 x2 x3 σ hk0)
/-! LuteTabs.lose(I)I -/
theorem dX8_lose_0 : decode cX8_lose 0 = .ok (.aload_n 0, 1) := by decide +kernel
theorem dX8_lose_1 : decode cX8_lose 1 = .ok (.iload_n 1, 1) := by decide +kernel
theorem dX8_lose_2 : decode cX8_lose 2 = .ok (.invokevirtual 132, 3) := by decide +kernel
theorem dX8_lose_5 : decode cX8_lose 5 = .ok (.istore_n 2, 1) := by decide +kernel
theorem dX8_lose_6 : decode cX8_lose 6 = .ok (.iload_n 2, 1) := by decide +kernel
theorem dX8_lose_7 : decode cX8_lose 7 = .ok (.ifCond .eq 5, 3) := by decide +kernel
theorem dX8_lose_10 : decode cX8_lose 10 = .ok (.iload_n 2, 1) := by decide +kernel
theorem dX8_lose_11 : decode cX8_lose 11 = .ok (.ireturn, 1) := by decide +kernel
theorem dX8_lose_12 : decode cX8_lose 12 = .ok (.aload_n 0, 1) := by decide +kernel
theorem dX8_lose_13 : decode cX8_lose 13 = .ok (.getfield 64, 3) := by decide +kernel
theorem dX8_lose_16 : decode cX8_lose 16 = .ok (.iload_n 1, 1) := by decide +kernel
theorem dX8_lose_17 : decode cX8_lose 17 = .ok (.aaload, 1) := by decide +kernel
theorem dX8_lose_18 : decode cX8_lose 18 = .ok (.iconst 1, 1) := by decide +kernel
theorem dX8_lose_19 : decode cX8_lose 19 = .ok (.putfield 263, 3) := by decide +kernel
theorem dX8_lose_22 : decode cX8_lose 22 = .ok (.aload_n 0, 1) := by decide +kernel
theorem dX8_lose_23 : decode cX8_lose 23 = .ok (.getfield 64, 3) := by decide +kernel
theorem dX8_lose_26 : decode cX8_lose 26 = .ok (.iload_n 1, 1) := by decide +kernel
theorem dX8_lose_27 : decode cX8_lose 27 = .ok (.aaload, 1) := by decide +kernel
theorem dX8_lose_28 : decode cX8_lose 28 = .ok (.getfield 266, 3) := by decide +kernel
theorem dX8_lose_31 : decode cX8_lose 31 = .ok (.ireturn, 1) := by decide +kernel
abbrev rm_X8_lose : Room := { frames := 2, cells := 0, slots := 0, locals := 42 }
def f_X8_lose (x0 : Nat) (x1 : Int32) (σ : Sg) : Option (Int32 × Sg) := bd (f_X8_refusalOfSheet x0 x1 σ) fun r2 s1 => (if r2 = 0 then ck (inb x1 (aL (gR s1 x0 7))) (ck (b01 (1 : Int32)) (lB (pI s1 (gR s1 (gR s1 x0 7) x1.toNatClampNeg) 0 (1 : Int32)) fun s5 => ck (inb x1 (aL (gR s5 x0 7))) (some ((gI s5 (gR s5 (gR s5 x0 7) x1.toNatClampNeg) 2), s5)))) else some (r2, s1))
theorem t_X8_lose {K : Cx} (h : Ok K cX8_lose RX8 3 rm_X8_lose (some .int)) (hs : kiv K = St) (x0 : Nat) (x1 : Int32) (σ : Sg) (hk0 : kd x0 8) : T K (QI K) 0 [(0, .ref x0), (1, .int x1)] [] 0 0 σ (f_X8_lose x0 x1 σ) := by
  unfold f_X8_lose
  refine T_aload_n (pc := 0) h dX8_lose_0 rfl 0 rfl ?_
  refine T_iload_n (pc := 1) h dX8_lose_1 rfl 1 rfl ?_
  refine T_callVi (pc := 2) h (M_X8_refusalOfSheet (kl K) hs x0 x1 σ hk0) mv_X8_refusalOfSheet hs hk0 ml_X8_132 rfl ⟨Nat.le_of_ble_eq_true rfl, Nat.le_of_ble_eq_true rfl⟩ ⟨Nat.le_refl 0, Nat.le_refl 0⟩ (Nat.le_of_ble_eq_true rfl) dX8_lose_2 rfl (fun r2 s1 => ?_)
  refine T_istore_n (lv' := [(2, .int r2), (0, .ref x0), (1, .int x1)]) (pc := 5) h dX8_lose_5 rfl (by decide) rfl ?_
  refine T_iload_n (pc := 6) h dX8_lose_6 rfl 0 rfl ?_
  refine T_if_eq (pc := 7) (tgt := 12) h dX8_lose_7 (by decide) ?_ ?_
  · refine T_aload_n (pc := 12) h dX8_lose_12 rfl 1 rfl ?_
    refine T_gR (pc := 13) h hs hk0 fl_X8_64 rfl fk_8_7 dX8_lose_13 (fun hq3 => ?_)
    refine T_iload_n (pc := 16) h dX8_lose_16 rfl 2 rfl ?_
    refine T_aald (c := 13) (c' := 6) (pc := 17) h hs hq3 (by decide) dX8_lose_17 (fun hq4 => ?_)
    refine T_iconst (pc := 18) h dX8_lose_18 ki_1 ?_
    refine T_putZ (pc := 19) h hs hq4 fl_X8_263 rfl rfl dX8_lose_19 ?_
    refine T_letS fun s5 => ?_
    refine T_aload_n (pc := 22) h dX8_lose_22 rfl 1 rfl ?_
    refine T_gR (pc := 23) h hs hk0 fl_X8_64 rfl fk_8_7 dX8_lose_23 (fun hq6 => ?_)
    refine T_iload_n (pc := 26) h dX8_lose_26 rfl 2 rfl ?_
    refine T_aald (c := 13) (c' := 6) (pc := 27) h hs hq6 (by decide) dX8_lose_27 (fun hq7 => ?_)
    refine T_getI (pc := 28) h hs hq7 fl_X8_266 rfl dX8_lose_28 ?_
    exact T_ireturn (pc := 31) h (Nat.zero_le _) (Nat.zero_le _) dX8_lose_31
  · refine T_iload_n (pc := 10) h dX8_lose_10 rfl 0 rfl ?_
    exact T_ireturn (pc := 11) h (Nat.zero_le _) (Nat.zero_le _) dX8_lose_11
theorem M_X8_lose (l : Launch) {iv : Sg → Prop} (hi : iv = St) (x0 : Nat) (x1 : Int32) (σ : Sg) (hk0 : kd x0 8) : CTi l yX8_lose cX8_lose 3 (some .int) rm_X8_lose iv [.ref x0, .int x1] σ (f_X8_lose x0 x1 σ) := by
  subst hi
  exact CT_of (by decide) (Nat.le_of_ble_eq_true rfl) (fun K _ h _ hs _ _ => t_X8_lose h hs x0 x1 σ hk0)
/-! LuteTabs.put(IIII)I -/
theorem dX8_put_0 : decode cX8_put 0 = .ok (.iload_n 1, 1) := by decide +kernel
theorem dX8_put_1 : decode cX8_put 1 = .ok (.invokestatic 253, 3) := by decide +kernel
theorem dX8_put_4 : decode cX8_put 4 = .ok (.ifCond .eq 10, 3) := by decide +kernel
theorem dX8_put_7 : decode cX8_put 7 = .ok (.iload_n 2, 1) := by decide +kernel
theorem dX8_put_8 : decode cX8_put 8 = .ok (.invokestatic 256, 3) := by decide +kernel
theorem dX8_put_11 : decode cX8_put 11 = .ok (.ifCond .ne 6, 3) := by decide +kernel
theorem dX8_put_14 : decode cX8_put 14 = .ok (.bipush (-2), 2) := by decide +kernel
theorem dX8_put_16 : decode cX8_put 16 = .ok (.ireturn, 1) := by decide +kernel
theorem dX8_put_17 : decode cX8_put 17 = .ok (.aload_n 0, 1) := by decide +kernel
theorem dX8_put_18 : decode cX8_put 18 = .ok (.getfield 64, 3) := by decide +kernel
theorem dX8_put_21 : decode cX8_put 21 = .ok (.iload_n 1, 1) := by decide +kernel
theorem dX8_put_22 : decode cX8_put 22 = .ok (.aaload, 1) := by decide +kernel
theorem dX8_put_23 : decode cX8_put 23 = .ok (.astore 5, 2) := by decide +kernel
theorem dX8_put_25 : decode cX8_put 25 = .ok (.aload 5, 2) := by decide +kernel
theorem dX8_put_27 : decode cX8_put 27 = .ok (.getfield 263, 3) := by decide +kernel
theorem dX8_put_30 : decode cX8_put 30 = .ok (.ifCond .eq 9, 3) := by decide +kernel
theorem dX8_put_33 : decode cX8_put 33 = .ok (.aload_n 0, 1) := by decide +kernel
theorem dX8_put_34 : decode cX8_put 34 = .ok (.iconst 1, 1) := by decide +kernel
theorem dX8_put_35 : decode cX8_put 35 = .ok (.invokevirtual 229, 3) := by decide +kernel
theorem dX8_put_38 : decode cX8_put 38 = .ok (.ireturn, 1) := by decide +kernel
theorem dX8_put_39 : decode cX8_put 39 = .ok (.aload 5, 2) := by decide +kernel
theorem dX8_put_41 : decode cX8_put 41 = .ok (.getfield 267, 3) := by decide +kernel
theorem dX8_put_44 : decode cX8_put 44 = .ok (.iload_n 2, 1) := by decide +kernel
theorem dX8_put_45 : decode cX8_put 45 = .ok (.if_icmp .eq 9, 3) := by decide +kernel
theorem dX8_put_48 : decode cX8_put 48 = .ok (.aload_n 0, 1) := by decide +kernel
theorem dX8_put_49 : decode cX8_put 49 = .ok (.iconst 3, 1) := by decide +kernel
theorem dX8_put_50 : decode cX8_put 50 = .ok (.invokevirtual 229, 3) := by decide +kernel
theorem dX8_put_53 : decode cX8_put 53 = .ok (.ireturn, 1) := by decide +kernel
theorem dX8_put_54 : decode cX8_put 54 = .ok (.aload 5, 2) := by decide +kernel
theorem dX8_put_56 : decode cX8_put 56 = .ok (.iload_n 3, 1) := by decide +kernel
theorem dX8_put_57 : decode cX8_put 57 = .ok (.invokevirtual 270, 3) := by decide +kernel
theorem dX8_put_60 : decode cX8_put 60 = .ok (.ifCond .ne 9, 3) := by decide +kernel
theorem dX8_put_63 : decode cX8_put 63 = .ok (.aload_n 0, 1) := by decide +kernel
theorem dX8_put_64 : decode cX8_put 64 = .ok (.iconst 2, 1) := by decide +kernel
theorem dX8_put_65 : decode cX8_put 65 = .ok (.invokevirtual 229, 3) := by decide +kernel
theorem dX8_put_68 : decode cX8_put 68 = .ok (.ireturn, 1) := by decide +kernel
theorem dX8_put_69 : decode cX8_put 69 = .ok (.aload 5, 2) := by decide +kernel
theorem dX8_put_71 : decode cX8_put 71 = .ok (.iload_n 3, 1) := by decide +kernel
theorem dX8_put_72 : decode cX8_put 72 = .ok (.iload_n 2, 1) := by decide +kernel
theorem dX8_put_73 : decode cX8_put 73 = .ok (.iconst 2, 1) := by decide +kernel
theorem dX8_put_74 : decode cX8_put 74 = .ok (.if_icmp .ne 13, 3) := by decide +kernel
theorem dX8_put_77 : decode cX8_put 77 = .ok (.iload 4, 2) := by decide +kernel
theorem dX8_put_79 : decode cX8_put 79 = .ok (.i2l, 1) := by decide +kernel
theorem dX8_put_80 : decode cX8_put 80 = .ok (.ldc2_w 271, 3) := by decide +kernel
theorem dX8_put_83 : decode cX8_put 83 = .ok (.lmul, 1) := by decide +kernel
theorem dX8_put_84 : decode cX8_put 84 = .ok (.goto 6, 3) := by decide +kernel
theorem dX8_put_87 : decode cX8_put 87 = .ok (.iload 4, 2) := by decide +kernel
theorem dX8_put_89 : decode cX8_put 89 = .ok (.i2l, 1) := by decide +kernel
theorem dX8_put_90 : decode cX8_put 90 = .ok (.invokevirtual 273, 3) := by decide +kernel
theorem dX8_put_93 : decode cX8_put 93 = .ok (.iconst 1, 1) := by decide +kernel
theorem dX8_put_94 : decode cX8_put 94 = .ok (.ireturn, 1) := by decide +kernel
abbrev rm_X8_put : Room := { frames := 1, cells := 0, slots := 0, locals := 23 }
def f_X8_put_L14    (σ : Sg) : Option (Int32 × Sg) := some ((-2 : Int32), σ)
def f_X8_put_L90   (y0 : Nat) (y1 : Int32) (y2 : Int64) (σ : Sg) : Option (Int32 × Sg) := bd (f_X6_store y0 y1 y2 σ) fun _ s1 => some ((1 : Int32), s1)
def f_X8_put (x0 : Nat) (x1 : Int32) (x2 : Int32) (x3 : Int32) (x4 : Int32) (σ : Sg) : Option (Int32 × Sg) := bd (f_X8_isSheet x1 σ) fun r2 s1 => (if r2 = 0 then f_X8_put_L14 s1 else bd (f_X6_isForm x2 s1) fun r4 s3 => (if r4 = 0 then f_X8_put_L14 s3 else ck (inb x1 (aL (gR s3 x0 7))) ((if (gI s3 (gR s3 (gR s3 x0 7) x1.toNatClampNeg) 0) = 0 then (if (gI s3 (gR s3 (gR s3 x0 7) x1.toNatClampNeg) 1) = x2 then bd (f_X6_has (gR s3 (gR s3 x0 7) x1.toNatClampNeg) x3 s3) fun r8 s7 => (if r8 = 0 then bd (f_X8_finding x0 (2 : Int32) s7) fun r10 s9 => some (r10, s9) else (if x2 = (2 : Int32) then f_X8_put_L90 (gR s3 (gR s3 x0 7) x1.toNatClampNeg) x3 (x4.toInt64 * (100000007 : Int64)) s7 else f_X8_put_L90 (gR s3 (gR s3 x0 7) x1.toNatClampNeg) x3 (x4.toInt64) s7)) else bd (f_X8_finding x0 (3 : Int32) s3) fun r12 s11 => some (r12, s11)) else bd (f_X8_finding x0 (1 : Int32) s3) fun r14 s13 => some (r14, s13)))))
theorem t_X8_put_L14 {K : Cx} (h : Ok K cX8_put RX8 6 rm_X8_put (some .int)) (hs : kiv K = St)   (σ : Sg)    : T K (QI K) 14 [] [] 0 0 σ (f_X8_put_L14 σ) := by
  unfold f_X8_put_L14
  refine T_bipush (pc := 14) h dX8_put_14 kb_m2 ?_
  exact T_ireturn (pc := 16) h (Nat.zero_le _) (Nat.zero_le _) dX8_put_16
theorem t_X8_put_L90 {K : Cx} (h : Ok K cX8_put RX8 6 rm_X8_put (some .int)) (hs : kiv K = St)  (y0 : Nat) (y1 : Int32) (y2 : Int64) (σ : Sg)   (hy0 : kd y0 6) : T K (QI K) 90 [] [.long y2, .int y1, .ref y0] 0 0 σ (f_X8_put_L90 y0 y1 y2 σ) := by
  unfold f_X8_put_L90
  refine T_callVv (pc := 90) h (M_X6_store (kl K) hs y0 y1 y2 σ hy0) mv_X6_store hs hy0 ml_X8_273 rfl ⟨Nat.le_of_ble_eq_true rfl, Nat.le_of_ble_eq_true rfl⟩ ⟨Nat.le_refl 0, Nat.le_refl 0⟩ (Nat.le_of_ble_eq_true rfl) dX8_put_90 rfl (fun _ s1 => ?_)
  refine T_iconst (pc := 93) h dX8_put_93 ki_1 ?_
  exact T_ireturn (pc := 94) h (Nat.zero_le _) (Nat.zero_le _) dX8_put_94
theorem t_X8_put {K : Cx} (h : Ok K cX8_put RX8 6 rm_X8_put (some .int)) (hs : kiv K = St) (x0 : Nat) (x1 : Int32) (x2 : Int32) (x3 : Int32) (x4 : Int32) (σ : Sg) (hk0 : kd x0 8) : T K (QI K) 0 [(0, .ref x0), (1, .int x1), (2, .int x2), (3, .int x3), (4, .int x4)] [] 0 0 σ (f_X8_put x0 x1 x2 x3 x4 σ) := by
  unfold f_X8_put
  refine T_iload_n (pc := 0) h dX8_put_0 rfl 1 rfl ?_
  refine T_callSi (pc := 1) h (M_X8_isSheet (kl K) hs x1 σ ) mst_X8_isSheet ml_X8_253 rfl ⟨Nat.le_of_ble_eq_true rfl, Nat.le_of_ble_eq_true rfl⟩ ⟨Nat.le_refl 0, Nat.le_refl 0⟩ (Nat.le_of_ble_eq_true rfl) dX8_put_1 rfl (fun r2 s1 => ?_)
  refine T_if_eq (pc := 4) (tgt := 14) h dX8_put_4 (by decide) ?_ ?_
  · refine T_sub [] rfl ?_
    exact t_X8_put_L14 h hs s1
  · refine T_iload_n (pc := 7) h dX8_put_7 rfl 2 rfl ?_
    refine T_callSi (pc := 8) h (M_X6_isForm (kl K) hs x2 s1 ) mst_X6_isForm ml_X8_256 rfl ⟨Nat.le_of_ble_eq_true rfl, Nat.le_of_ble_eq_true rfl⟩ ⟨Nat.le_refl 0, Nat.le_refl 0⟩ (Nat.le_of_ble_eq_true rfl) dX8_put_8 rfl (fun r4 s3 => ?_)
    refine T_if_ne (pc := 11) (tgt := 17) h dX8_put_11 (by decide) ?_ ?_
    · refine T_aload_n (pc := 17) h dX8_put_17 rfl 0 rfl ?_
      refine T_gR (pc := 18) h hs hk0 fl_X8_64 rfl fk_8_7 dX8_put_18 (fun hq5 => ?_)
      refine T_iload_n (pc := 21) h dX8_put_21 rfl 1 rfl ?_
      refine T_aald (c := 13) (c' := 6) (pc := 22) h hs hq5 (by decide) dX8_put_22 (fun hq6 => ?_)
      refine T_astore (lv' := [(5, .ref (gR s3 (gR s3 x0 7) x1.toNatClampNeg)), (0, .ref x0), (1, .int x1), (2, .int x2), (3, .int x3), (4, .int x4)]) (pc := 23) h dX8_put_23 (by decide) rfl ?_
      refine T_aload (pc := 25) h dX8_put_25 0 rfl ?_
      refine T_getI (pc := 27) h hs hq6 fl_X8_263 rfl dX8_put_27 ?_
      refine T_if_eq (pc := 30) (tgt := 39) h dX8_put_30 (by decide) ?_ ?_
      · refine T_aload (pc := 39) h dX8_put_39 0 rfl ?_
        refine T_getI (pc := 41) h hs hq6 fl_X8_267 rfl dX8_put_41 ?_
        refine T_iload_n (pc := 44) h dX8_put_44 rfl 3 rfl ?_
        refine T_icmp_eq (pc := 45) (tgt := 54) h dX8_put_45 (by decide) ?_ ?_
        · refine T_aload (pc := 54) h dX8_put_54 0 rfl ?_
          refine T_iload_n (pc := 56) h dX8_put_56 rfl 4 rfl ?_
          refine T_callVi (pc := 57) h (M_X6_has (kl K) hs (gR s3 (gR s3 x0 7) x1.toNatClampNeg) x3 s3 hq6) mv_X6_has hs hq6 ml_X8_270 rfl ⟨Nat.le_of_ble_eq_true rfl, Nat.le_of_ble_eq_true rfl⟩ ⟨Nat.le_refl 0, Nat.le_refl 0⟩ (Nat.le_of_ble_eq_true rfl) dX8_put_57 rfl (fun r8 s7 => ?_)
          refine T_if_ne (pc := 60) (tgt := 69) h dX8_put_60 (by decide) ?_ ?_
          · refine T_aload (pc := 69) h dX8_put_69 0 rfl ?_
            refine T_iload_n (pc := 71) h dX8_put_71 rfl 4 rfl ?_
            refine T_iload_n (pc := 72) h dX8_put_72 rfl 3 rfl ?_
            refine T_iconst (pc := 73) h dX8_put_73 ki_2 ?_
            refine T_icmp_ne (pc := 74) (tgt := 87) h dX8_put_74 (by decide) ?_ ?_
            · refine T_iload (pc := 87) h dX8_put_87 5 rfl ?_
              refine T_i2l (pc := 89) h dX8_put_89 ?_
              refine T_sub [] rfl ?_
              exact t_X8_put_L90 h hs (gR s3 (gR s3 x0 7) x1.toNatClampNeg) x3 (x4.toInt64) s7 hq6
            · refine T_iload (pc := 77) h dX8_put_77 5 rfl ?_
              refine T_i2l (pc := 79) h dX8_put_79 ?_
              refine T_ldc2 (pc := 80) h kc_X8_271 dX8_put_80 ?_
              refine T_lmul (pc := 83) h dX8_put_83 ?_
              refine T_goto (pc := 84) (tgt := 90) h dX8_put_84 (by decide) ?_
              refine T_sub [] rfl ?_
              exact t_X8_put_L90 h hs (gR s3 (gR s3 x0 7) x1.toNatClampNeg) x3 (x4.toInt64 * (100000007 : Int64)) s7 hq6
          · refine T_aload_n (pc := 63) h dX8_put_63 rfl 1 rfl ?_
            refine T_iconst (pc := 64) h dX8_put_64 ki_2 ?_
            refine T_callVi (pc := 65) h (M_X8_finding (kl K) hs x0 (2 : Int32) s7 hk0) mv_X8_finding hs hk0 ml_X8_229 rfl ⟨Nat.le_of_ble_eq_true rfl, Nat.le_of_ble_eq_true rfl⟩ ⟨Nat.le_refl 0, Nat.le_refl 0⟩ (Nat.le_of_ble_eq_true rfl) dX8_put_65 rfl (fun r10 s9 => ?_)
            exact T_ireturn (pc := 68) h (Nat.zero_le _) (Nat.zero_le _) dX8_put_68
        · refine T_aload_n (pc := 48) h dX8_put_48 rfl 1 rfl ?_
          refine T_iconst (pc := 49) h dX8_put_49 ki_3 ?_
          refine T_callVi (pc := 50) h (M_X8_finding (kl K) hs x0 (3 : Int32) s3 hk0) mv_X8_finding hs hk0 ml_X8_229 rfl ⟨Nat.le_of_ble_eq_true rfl, Nat.le_of_ble_eq_true rfl⟩ ⟨Nat.le_refl 0, Nat.le_refl 0⟩ (Nat.le_of_ble_eq_true rfl) dX8_put_50 rfl (fun r12 s11 => ?_)
          exact T_ireturn (pc := 53) h (Nat.zero_le _) (Nat.zero_le _) dX8_put_53
      · refine T_aload_n (pc := 33) h dX8_put_33 rfl 1 rfl ?_
        refine T_iconst (pc := 34) h dX8_put_34 ki_1 ?_
        refine T_callVi (pc := 35) h (M_X8_finding (kl K) hs x0 (1 : Int32) s3 hk0) mv_X8_finding hs hk0 ml_X8_229 rfl ⟨Nat.le_of_ble_eq_true rfl, Nat.le_of_ble_eq_true rfl⟩ ⟨Nat.le_refl 0, Nat.le_refl 0⟩ (Nat.le_of_ble_eq_true rfl) dX8_put_35 rfl (fun r14 s13 => ?_)
        exact T_ireturn (pc := 38) h (Nat.zero_le _) (Nat.zero_le _) dX8_put_38
    · refine T_sub [] rfl ?_
      exact t_X8_put_L14 h hs s3
theorem M_X8_put (l : Launch) {iv : Sg → Prop} (hi : iv = St) (x0 : Nat) (x1 : Int32) (x2 : Int32) (x3 : Int32) (x4 : Int32) (σ : Sg) (hk0 : kd x0 8) : CTi l yX8_put cX8_put 6 (some .int) rm_X8_put iv [.ref x0, .int x1, .int x2, .int x3, .int x4] σ (f_X8_put x0 x1 x2 x3 x4 σ) := by
  subst hi
  exact CT_of (by decide) (Nat.le_of_ble_eq_true rfl) (fun K _ h _ hs _ _ => t_X8_put h hs x0 x1 x2 x3 x4 σ hk0)
/-! LuteTabs.get(II)J -/
theorem dX8_get_0 : decode cX8_get 0 = .ok (.aload_n 0, 1) := by decide +kernel
theorem dX8_get_1 : decode cX8_get 1 = .ok (.iload_n 1, 1) := by decide +kernel
theorem dX8_get_2 : decode cX8_get 2 = .ok (.invokevirtual 132, 3) := by decide +kernel
theorem dX8_get_5 : decode cX8_get 5 = .ok (.istore_n 3, 1) := by decide +kernel
theorem dX8_get_6 : decode cX8_get 6 = .ok (.iload_n 3, 1) := by decide +kernel
theorem dX8_get_7 : decode cX8_get 7 = .ok (.ifCond .ne 22, 3) := by decide +kernel
theorem dX8_get_10 : decode cX8_get 10 = .ok (.aload_n 0, 1) := by decide +kernel
theorem dX8_get_11 : decode cX8_get 11 = .ok (.getfield 64, 3) := by decide +kernel
theorem dX8_get_14 : decode cX8_get 14 = .ok (.iload_n 1, 1) := by decide +kernel
theorem dX8_get_15 : decode cX8_get 15 = .ok (.aaload, 1) := by decide +kernel
theorem dX8_get_16 : decode cX8_get 16 = .ok (.iload_n 2, 1) := by decide +kernel
theorem dX8_get_17 : decode cX8_get 17 = .ok (.invokevirtual 270, 3) := by decide +kernel
theorem dX8_get_20 : decode cX8_get 20 = .ok (.ifCond .ne 9, 3) := by decide +kernel
theorem dX8_get_23 : decode cX8_get 23 = .ok (.aload_n 0, 1) := by decide +kernel
theorem dX8_get_24 : decode cX8_get 24 = .ok (.iconst 2, 1) := by decide +kernel
theorem dX8_get_25 : decode cX8_get 25 = .ok (.invokevirtual 229, 3) := by decide +kernel
theorem dX8_get_28 : decode cX8_get 28 = .ok (.istore_n 3, 1) := by decide +kernel
theorem dX8_get_29 : decode cX8_get 29 = .ok (.iload_n 3, 1) := by decide +kernel
theorem dX8_get_30 : decode cX8_get 30 = .ok (.ifCond .ne 17, 3) := by decide +kernel
theorem dX8_get_33 : decode cX8_get 33 = .ok (.aload_n 0, 1) := by decide +kernel
theorem dX8_get_34 : decode cX8_get 34 = .ok (.getfield 64, 3) := by decide +kernel
theorem dX8_get_37 : decode cX8_get 37 = .ok (.iload_n 1, 1) := by decide +kernel
theorem dX8_get_38 : decode cX8_get 38 = .ok (.aaload, 1) := by decide +kernel
theorem dX8_get_39 : decode cX8_get 39 = .ok (.getfield 277, 3) := by decide +kernel
theorem dX8_get_42 : decode cX8_get 42 = .ok (.iload_n 2, 1) := by decide +kernel
theorem dX8_get_43 : decode cX8_get 43 = .ok (.laload, 1) := by decide +kernel
theorem dX8_get_44 : decode cX8_get 44 = .ok (.goto 9, 3) := by decide +kernel
theorem dX8_get_47 : decode cX8_get 47 = .ok (.ldc2_w 281, 3) := by decide +kernel
theorem dX8_get_50 : decode cX8_get 50 = .ok (.iload_n 3, 1) := by decide +kernel
theorem dX8_get_51 : decode cX8_get 51 = .ok (.i2l, 1) := by decide +kernel
theorem dX8_get_52 : decode cX8_get 52 = .ok (.lsub, 1) := by decide +kernel
theorem dX8_get_53 : decode cX8_get 53 = .ok (.lreturn, 1) := by decide +kernel
abbrev rm_X8_get : Room := { frames := 2, cells := 0, slots := 0, locals := 42 }
def f_X8_get_L53   (y0 : Int64) (σ : Sg) : Option (Int64 × Sg) := some (y0, σ)
def f_X8_get_L29  (x0 : Nat) (x1 : Int32) (x2 : Int32) (x3 : Int32)  (σ : Sg) : Option (Int64 × Sg) := (if x3 = 0 then ck (inb x1 (aL (gR σ x0 7))) (ck (inb x2 (aL (gR σ (gR σ (gR σ x0 7) x1.toNatClampNeg) 3))) (f_X8_get_L53 (gL σ (gR σ (gR σ (gR σ x0 7) x1.toNatClampNeg) 3) x2.toNatClampNeg) σ)) else f_X8_get_L53 ((-9223372036854775808 : Int64) - x3.toInt64) σ)
def f_X8_get (x0 : Nat) (x1 : Int32) (x2 : Int32) (σ : Sg) : Option (Int64 × Sg) := bd (f_X8_refusalOfSheet x0 x1 σ) fun r2 s1 => (if r2 = 0 then ck (inb x1 (aL (gR s1 x0 7))) (bd (f_X6_has (gR s1 (gR s1 x0 7) x1.toNatClampNeg) x2 s1) fun r6 s5 => (if r6 = 0 then bd (f_X8_finding x0 (2 : Int32) s5) fun r8 s7 => f_X8_get_L29 x0 x1 x2 r8 s7 else f_X8_get_L29 x0 x1 x2 r2 s5)) else f_X8_get_L29 x0 x1 x2 r2 s1)
theorem t_X8_get_L53 {K : Cx} (h : Ok K cX8_get RX8 4 rm_X8_get (some .long)) (hs : kiv K = St)  (y0 : Int64) (σ : Sg)    : T K (QL K) 53 [] [.long y0] 0 0 σ (f_X8_get_L53 y0 σ) := by
  unfold f_X8_get_L53
  exact T_lreturn (pc := 53) h (Nat.zero_le _) (Nat.zero_le _) dX8_get_53
theorem t_X8_get_L29 {K : Cx} (h : Ok K cX8_get RX8 4 rm_X8_get (some .long)) (hs : kiv K = St) (x0 : Nat) (x1 : Int32) (x2 : Int32) (x3 : Int32)  (σ : Sg)  (hk0 : kd x0 8)  : T K (QL K) 29 [(0, .ref x0), (1, .int x1), (2, .int x2), (3, .int x3)] [] 0 0 σ (f_X8_get_L29 x0 x1 x2 x3 σ) := by
  unfold f_X8_get_L29
  refine T_iload_n (pc := 29) h dX8_get_29 rfl 3 rfl ?_
  refine T_if_ne (pc := 30) (tgt := 47) h dX8_get_30 (by decide) ?_ ?_
  · refine T_ldc2 (pc := 47) h kc_X8_281 dX8_get_47 ?_
    refine T_iload_n (pc := 50) h dX8_get_50 rfl 3 rfl ?_
    refine T_i2l (pc := 51) h dX8_get_51 ?_
    refine T_lsub (pc := 52) h dX8_get_52 ?_
    refine T_sub [] rfl ?_
    exact t_X8_get_L53 h hs ((-9223372036854775808 : Int64) - x3.toInt64) σ
  · refine T_aload_n (pc := 33) h dX8_get_33 rfl 0 rfl ?_
    refine T_gR (pc := 34) h hs hk0 fl_X8_64 rfl fk_8_7 dX8_get_34 (fun hq1 => ?_)
    refine T_iload_n (pc := 37) h dX8_get_37 rfl 1 rfl ?_
    refine T_aald (c := 13) (c' := 6) (pc := 38) h hs hq1 (by decide) dX8_get_38 (fun hq2 => ?_)
    refine T_gR (pc := 39) h hs hq2 fl_X8_277 rfl fk_6_3 dX8_get_39 (fun hq3 => ?_)
    refine T_iload_n (pc := 42) h dX8_get_42 rfl 2 rfl ?_
    refine T_lald (pc := 43) h hs hq3 dX8_get_43 ?_
    refine T_goto (pc := 44) (tgt := 53) h dX8_get_44 (by decide) ?_
    refine T_sub [] rfl ?_
    exact t_X8_get_L53 h hs (gL σ (gR σ (gR σ (gR σ x0 7) x1.toNatClampNeg) 3) x2.toNatClampNeg) σ
theorem t_X8_get {K : Cx} (h : Ok K cX8_get RX8 4 rm_X8_get (some .long)) (hs : kiv K = St) (x0 : Nat) (x1 : Int32) (x2 : Int32) (σ : Sg) (hk0 : kd x0 8) : T K (QL K) 0 [(0, .ref x0), (1, .int x1), (2, .int x2)] [] 0 0 σ (f_X8_get x0 x1 x2 σ) := by
  unfold f_X8_get
  refine T_aload_n (pc := 0) h dX8_get_0 rfl 0 rfl ?_
  refine T_iload_n (pc := 1) h dX8_get_1 rfl 1 rfl ?_
  refine T_callVi (pc := 2) h (M_X8_refusalOfSheet (kl K) hs x0 x1 σ hk0) mv_X8_refusalOfSheet hs hk0 ml_X8_132 rfl ⟨Nat.le_of_ble_eq_true rfl, Nat.le_of_ble_eq_true rfl⟩ ⟨Nat.le_refl 0, Nat.le_refl 0⟩ (Nat.le_of_ble_eq_true rfl) dX8_get_2 rfl (fun r2 s1 => ?_)
  refine T_istore_n (lv' := [(3, .int r2), (0, .ref x0), (1, .int x1), (2, .int x2)]) (pc := 5) h dX8_get_5 rfl (by decide) rfl ?_
  refine T_iload_n (pc := 6) h dX8_get_6 rfl 0 rfl ?_
  refine T_if_ne (pc := 7) (tgt := 29) h dX8_get_7 (by decide) ?_ ?_
  · refine T_sub [1, 2, 3, 0] rfl ?_
    exact t_X8_get_L29 h hs x0 x1 x2 r2 s1 hk0
  · refine T_aload_n (pc := 10) h dX8_get_10 rfl 1 rfl ?_
    refine T_gR (pc := 11) h hs hk0 fl_X8_64 rfl fk_8_7 dX8_get_11 (fun hq3 => ?_)
    refine T_iload_n (pc := 14) h dX8_get_14 rfl 2 rfl ?_
    refine T_aald (c := 13) (c' := 6) (pc := 15) h hs hq3 (by decide) dX8_get_15 (fun hq4 => ?_)
    refine T_iload_n (pc := 16) h dX8_get_16 rfl 3 rfl ?_
    refine T_callVi (pc := 17) h (M_X6_has (kl K) hs (gR s1 (gR s1 x0 7) x1.toNatClampNeg) x2 s1 hq4) mv_X6_has hs hq4 ml_X8_270 rfl ⟨Nat.le_of_ble_eq_true rfl, Nat.le_of_ble_eq_true rfl⟩ ⟨Nat.le_refl 0, Nat.le_refl 0⟩ (Nat.le_of_ble_eq_true rfl) dX8_get_17 rfl (fun r6 s5 => ?_)
    refine T_if_ne (pc := 20) (tgt := 29) h dX8_get_20 (by decide) ?_ ?_
    · refine T_sub [1, 2, 3, 0] rfl ?_
      exact t_X8_get_L29 h hs x0 x1 x2 r2 s5 hk0
    · refine T_aload_n (pc := 23) h dX8_get_23 rfl 1 rfl ?_
      refine T_iconst (pc := 24) h dX8_get_24 ki_2 ?_
      refine T_callVi (pc := 25) h (M_X8_finding (kl K) hs x0 (2 : Int32) s5 hk0) mv_X8_finding hs hk0 ml_X8_229 rfl ⟨Nat.le_of_ble_eq_true rfl, Nat.le_of_ble_eq_true rfl⟩ ⟨Nat.le_refl 0, Nat.le_refl 0⟩ (Nat.le_of_ble_eq_true rfl) dX8_get_25 rfl (fun r8 s7 => ?_)
      refine T_istore_n (lv' := [(3, .int r8), (0, .ref x0), (1, .int x1), (2, .int x2)]) (pc := 28) h dX8_get_28 rfl (by decide) rfl ?_
      refine T_sub [1, 2, 3, 0] rfl ?_
      exact t_X8_get_L29 h hs x0 x1 x2 r8 s7 hk0
theorem M_X8_get (l : Launch) {iv : Sg → Prop} (hi : iv = St) (x0 : Nat) (x1 : Int32) (x2 : Int32) (σ : Sg) (hk0 : kd x0 8) : CTl l yX8_get cX8_get 4 (some .long) rm_X8_get iv [.ref x0, .int x1, .int x2] σ (f_X8_get x0 x1 x2 σ) := by
  subst hi
  exact CT_of (by decide) (Nat.le_of_ble_eq_true rfl) (fun K _ h _ hs _ _ => t_X8_get h hs x0 x1 x2 σ hk0)
/-! LuteTabs.copy(IIIII)I -/
theorem dX8_copy_0 : decode cX8_copy 0 = .ok (.iload_n 1, 1) := by decide +kernel
theorem dX8_copy_1 : decode cX8_copy 1 = .ok (.invokestatic 253, 3) := by decide +kernel
theorem dX8_copy_4 : decode cX8_copy 4 = .ok (.ifCond .eq 10, 3) := by decide +kernel
theorem dX8_copy_7 : decode cX8_copy 7 = .ok (.iload_n 3, 1) := by decide +kernel
theorem dX8_copy_8 : decode cX8_copy 8 = .ok (.invokestatic 253, 3) := by decide +kernel
theorem dX8_copy_11 : decode cX8_copy 11 = .ok (.ifCond .ne 6, 3) := by decide +kernel
theorem dX8_copy_14 : decode cX8_copy 14 = .ok (.bipush (-2), 2) := by decide +kernel
theorem dX8_copy_16 : decode cX8_copy 16 = .ok (.ireturn, 1) := by decide +kernel
theorem dX8_copy_17 : decode cX8_copy 17 = .ok (.aload_n 0, 1) := by decide +kernel
theorem dX8_copy_18 : decode cX8_copy 18 = .ok (.getfield 64, 3) := by decide +kernel
theorem dX8_copy_21 : decode cX8_copy 21 = .ok (.iload_n 1, 1) := by decide +kernel
theorem dX8_copy_22 : decode cX8_copy 22 = .ok (.aaload, 1) := by decide +kernel
theorem dX8_copy_23 : decode cX8_copy 23 = .ok (.astore 6, 2) := by decide +kernel
theorem dX8_copy_25 : decode cX8_copy 25 = .ok (.aload_n 0, 1) := by decide +kernel
theorem dX8_copy_26 : decode cX8_copy 26 = .ok (.getfield 64, 3) := by decide +kernel
theorem dX8_copy_29 : decode cX8_copy 29 = .ok (.iload_n 3, 1) := by decide +kernel
theorem dX8_copy_30 : decode cX8_copy 30 = .ok (.aaload, 1) := by decide +kernel
theorem dX8_copy_31 : decode cX8_copy 31 = .ok (.astore 7, 2) := by decide +kernel
theorem dX8_copy_33 : decode cX8_copy 33 = .ok (.aload 6, 2) := by decide +kernel
theorem dX8_copy_35 : decode cX8_copy 35 = .ok (.getfield 263, 3) := by decide +kernel
theorem dX8_copy_38 : decode cX8_copy 38 = .ok (.ifCond .ne 11, 3) := by decide +kernel
theorem dX8_copy_41 : decode cX8_copy 41 = .ok (.aload 7, 2) := by decide +kernel
theorem dX8_copy_43 : decode cX8_copy 43 = .ok (.getfield 263, 3) := by decide +kernel
theorem dX8_copy_46 : decode cX8_copy 46 = .ok (.ifCond .eq 9, 3) := by decide +kernel
theorem dX8_copy_49 : decode cX8_copy 49 = .ok (.aload_n 0, 1) := by decide +kernel
theorem dX8_copy_50 : decode cX8_copy 50 = .ok (.iconst 1, 1) := by decide +kernel
theorem dX8_copy_51 : decode cX8_copy 51 = .ok (.invokevirtual 229, 3) := by decide +kernel
theorem dX8_copy_54 : decode cX8_copy 54 = .ok (.ireturn, 1) := by decide +kernel
theorem dX8_copy_55 : decode cX8_copy 55 = .ok (.aload 6, 2) := by decide +kernel
theorem dX8_copy_57 : decode cX8_copy 57 = .ok (.getfield 267, 3) := by decide +kernel
theorem dX8_copy_60 : decode cX8_copy 60 = .ok (.aload 7, 2) := by decide +kernel
theorem dX8_copy_62 : decode cX8_copy 62 = .ok (.getfield 267, 3) := by decide +kernel
theorem dX8_copy_65 : decode cX8_copy 65 = .ok (.if_icmp .eq 9, 3) := by decide +kernel
theorem dX8_copy_68 : decode cX8_copy 68 = .ok (.aload_n 0, 1) := by decide +kernel
theorem dX8_copy_69 : decode cX8_copy 69 = .ok (.iconst 4, 1) := by decide +kernel
theorem dX8_copy_70 : decode cX8_copy 70 = .ok (.invokevirtual 229, 3) := by decide +kernel
theorem dX8_copy_73 : decode cX8_copy 73 = .ok (.ireturn, 1) := by decide +kernel
theorem dX8_copy_74 : decode cX8_copy 74 = .ok (.aload 6, 2) := by decide +kernel
theorem dX8_copy_76 : decode cX8_copy 76 = .ok (.iload_n 2, 1) := by decide +kernel
theorem dX8_copy_77 : decode cX8_copy 77 = .ok (.iload 5, 2) := by decide +kernel
theorem dX8_copy_79 : decode cX8_copy 79 = .ok (.invokevirtual 283, 3) := by decide +kernel
theorem dX8_copy_82 : decode cX8_copy 82 = .ok (.ifCond .eq 15, 3) := by decide +kernel
theorem dX8_copy_85 : decode cX8_copy 85 = .ok (.aload 7, 2) := by decide +kernel
theorem dX8_copy_87 : decode cX8_copy 87 = .ok (.iload 4, 2) := by decide +kernel
theorem dX8_copy_89 : decode cX8_copy 89 = .ok (.iload 5, 2) := by decide +kernel
theorem dX8_copy_91 : decode cX8_copy 91 = .ok (.invokevirtual 283, 3) := by decide +kernel
theorem dX8_copy_94 : decode cX8_copy 94 = .ok (.ifCond .ne 9, 3) := by decide +kernel
theorem dX8_copy_97 : decode cX8_copy 97 = .ok (.aload_n 0, 1) := by decide +kernel
theorem dX8_copy_98 : decode cX8_copy 98 = .ok (.iconst 2, 1) := by decide +kernel
theorem dX8_copy_99 : decode cX8_copy 99 = .ok (.invokevirtual 229, 3) := by decide +kernel
theorem dX8_copy_102 : decode cX8_copy 102 = .ok (.ireturn, 1) := by decide +kernel
theorem dX8_copy_103 : decode cX8_copy 103 = .ok (.aload 6, 2) := by decide +kernel
theorem dX8_copy_105 : decode cX8_copy 105 = .ok (.getfield 277, 3) := by decide +kernel
theorem dX8_copy_108 : decode cX8_copy 108 = .ok (.iload_n 2, 1) := by decide +kernel
theorem dX8_copy_109 : decode cX8_copy 109 = .ok (.aload 7, 2) := by decide +kernel
theorem dX8_copy_111 : decode cX8_copy 111 = .ok (.getfield 277, 3) := by decide +kernel
theorem dX8_copy_114 : decode cX8_copy 114 = .ok (.iload 4, 2) := by decide +kernel
theorem dX8_copy_116 : decode cX8_copy 116 = .ok (.iload 5, 2) := by decide +kernel
theorem dX8_copy_118 : decode cX8_copy 118 = .ok (.invokestatic 220, 3) := by decide +kernel
theorem dX8_copy_121 : decode cX8_copy 121 = .ok (.iconst 1, 1) := by decide +kernel
theorem dX8_copy_122 : decode cX8_copy 122 = .ok (.ireturn, 1) := by decide +kernel
abbrev rm_X8_copy : Room := { frames := 1, cells := 0, slots := 0, locals := 26 }
def f_X8_copy_L14    (σ : Sg) : Option (Int32 × Sg) := some ((-2 : Int32), σ)
def f_X8_copy_L49  (x0 : Nat)  (σ : Sg) : Option (Int32 × Sg) := bd (f_X8_finding x0 (1 : Int32) σ) fun r2 s1 => some (r2, s1)
def f_X8_copy_L97  (x0 : Nat)  (σ : Sg) : Option (Int32 × Sg) := bd (f_X8_finding x0 (2 : Int32) σ) fun r2 s1 => some (r2, s1)
def f_X8_copy (x0 : Nat) (x1 : Int32) (x2 : Int32) (x3 : Int32) (x4 : Int32) (x5 : Int32) (σ : Sg) : Option (Int32 × Sg) := bd (f_X8_isSheet x1 σ) fun r2 s1 => (if r2 = 0 then f_X8_copy_L14 s1 else bd (f_X8_isSheet x3 s1) fun r4 s3 => (if r4 = 0 then f_X8_copy_L14 s3 else ck (inb x1 (aL (gR s3 x0 7))) (ck (inb x3 (aL (gR s3 x0 7))) ((if (gI s3 (gR s3 (gR s3 x0 7) x1.toNatClampNeg) 0) = 0 then (if (gI s3 (gR s3 (gR s3 x0 7) x3.toNatClampNeg) 0) = 0 then (if (gI s3 (gR s3 (gR s3 x0 7) x1.toNatClampNeg) 1) = (gI s3 (gR s3 (gR s3 x0 7) x3.toNatClampNeg) 1) then bd (f_X6_hasRow (gR s3 (gR s3 x0 7) x1.toNatClampNeg) x2 x5 s3) fun r10 s9 => (if r10 = 0 then f_X8_copy_L97 x0 s9 else bd (f_X6_hasRow (gR s3 (gR s3 x0 7) x3.toNatClampNeg) x4 x5 s9) fun r12 s11 => (if r12 = 0 then f_X8_copy_L97 x0 s11 else ck (cpb x2 x4 x5 (aL (gR s11 (gR s3 (gR s3 x0 7) x1.toNatClampNeg) 3)) (aL (gR s11 (gR s3 (gR s3 x0 7) x3.toNatClampNeg) 3))) (lB (cpyL s11 (gR s11 (gR s3 (gR s3 x0 7) x1.toNatClampNeg) 3) x2.toNatClampNeg (gR s11 (gR s3 (gR s3 x0 7) x3.toNatClampNeg) 3) x4.toNatClampNeg x5.toNatClampNeg) fun s15 => some ((1 : Int32), s15)))) else bd (f_X8_finding x0 (4 : Int32) s3) fun r17 s16 => some (r17, s16)) else f_X8_copy_L49 x0 s3) else f_X8_copy_L49 x0 s3)))))
theorem t_X8_copy_L14 {K : Cx} (h : Ok K cX8_copy RX8 8 rm_X8_copy (some .int)) (hs : kiv K = St)   (σ : Sg)    : T K (QI K) 14 [] [] 0 0 σ (f_X8_copy_L14 σ) := by
  unfold f_X8_copy_L14
  refine T_bipush (pc := 14) h dX8_copy_14 kb_m2 ?_
  exact T_ireturn (pc := 16) h (Nat.zero_le _) (Nat.zero_le _) dX8_copy_16
theorem t_X8_copy_L49 {K : Cx} (h : Ok K cX8_copy RX8 8 rm_X8_copy (some .int)) (hs : kiv K = St) (x0 : Nat)  (σ : Sg)  (hk0 : kd x0 8)  : T K (QI K) 49 [(0, .ref x0)] [] 0 0 σ (f_X8_copy_L49 x0 σ) := by
  unfold f_X8_copy_L49
  refine T_aload_n (pc := 49) h dX8_copy_49 rfl 0 rfl ?_
  refine T_iconst (pc := 50) h dX8_copy_50 ki_1 ?_
  refine T_callVi (pc := 51) h (M_X8_finding (kl K) hs x0 (1 : Int32) σ hk0) mv_X8_finding hs hk0 ml_X8_229 rfl ⟨Nat.le_of_ble_eq_true rfl, Nat.le_of_ble_eq_true rfl⟩ ⟨Nat.le_refl 0, Nat.le_refl 0⟩ (Nat.le_of_ble_eq_true rfl) dX8_copy_51 rfl (fun r2 s1 => ?_)
  exact T_ireturn (pc := 54) h (Nat.zero_le _) (Nat.zero_le _) dX8_copy_54
theorem t_X8_copy_L97 {K : Cx} (h : Ok K cX8_copy RX8 8 rm_X8_copy (some .int)) (hs : kiv K = St) (x0 : Nat)  (σ : Sg)  (hk0 : kd x0 8)  : T K (QI K) 97 [(0, .ref x0)] [] 0 0 σ (f_X8_copy_L97 x0 σ) := by
  unfold f_X8_copy_L97
  refine T_aload_n (pc := 97) h dX8_copy_97 rfl 0 rfl ?_
  refine T_iconst (pc := 98) h dX8_copy_98 ki_2 ?_
  refine T_callVi (pc := 99) h (M_X8_finding (kl K) hs x0 (2 : Int32) σ hk0) mv_X8_finding hs hk0 ml_X8_229 rfl ⟨Nat.le_of_ble_eq_true rfl, Nat.le_of_ble_eq_true rfl⟩ ⟨Nat.le_refl 0, Nat.le_refl 0⟩ (Nat.le_of_ble_eq_true rfl) dX8_copy_99 rfl (fun r2 s1 => ?_)
  exact T_ireturn (pc := 102) h (Nat.zero_le _) (Nat.zero_le _) dX8_copy_102
theorem t_X8_copy {K : Cx} (h : Ok K cX8_copy RX8 8 rm_X8_copy (some .int)) (hs : kiv K = St) (x0 : Nat) (x1 : Int32) (x2 : Int32) (x3 : Int32) (x4 : Int32) (x5 : Int32) (σ : Sg) (hk0 : kd x0 8) : T K (QI K) 0 [(0, .ref x0), (1, .int x1), (2, .int x2), (3, .int x3), (4, .int x4), (5, .int x5)] [] 0 0 σ (f_X8_copy x0 x1 x2 x3 x4 x5 σ) := by
  unfold f_X8_copy
  refine T_iload_n (pc := 0) h dX8_copy_0 rfl 1 rfl ?_
  refine T_callSi (pc := 1) h (M_X8_isSheet (kl K) hs x1 σ ) mst_X8_isSheet ml_X8_253 rfl ⟨Nat.le_of_ble_eq_true rfl, Nat.le_of_ble_eq_true rfl⟩ ⟨Nat.le_refl 0, Nat.le_refl 0⟩ (Nat.le_of_ble_eq_true rfl) dX8_copy_1 rfl (fun r2 s1 => ?_)
  refine T_if_eq (pc := 4) (tgt := 14) h dX8_copy_4 (by decide) ?_ ?_
  · refine T_sub [] rfl ?_
    exact t_X8_copy_L14 h hs s1
  · refine T_iload_n (pc := 7) h dX8_copy_7 rfl 3 rfl ?_
    refine T_callSi (pc := 8) h (M_X8_isSheet (kl K) hs x3 s1 ) mst_X8_isSheet ml_X8_253 rfl ⟨Nat.le_of_ble_eq_true rfl, Nat.le_of_ble_eq_true rfl⟩ ⟨Nat.le_refl 0, Nat.le_refl 0⟩ (Nat.le_of_ble_eq_true rfl) dX8_copy_8 rfl (fun r4 s3 => ?_)
    refine T_if_ne (pc := 11) (tgt := 17) h dX8_copy_11 (by decide) ?_ ?_
    · refine T_aload_n (pc := 17) h dX8_copy_17 rfl 0 rfl ?_
      refine T_gR (pc := 18) h hs hk0 fl_X8_64 rfl fk_8_7 dX8_copy_18 (fun hq5 => ?_)
      refine T_iload_n (pc := 21) h dX8_copy_21 rfl 1 rfl ?_
      refine T_aald (c := 13) (c' := 6) (pc := 22) h hs hq5 (by decide) dX8_copy_22 (fun hq6 => ?_)
      refine T_astore (lv' := [(6, .ref (gR s3 (gR s3 x0 7) x1.toNatClampNeg)), (0, .ref x0), (1, .int x1), (2, .int x2), (3, .int x3), (4, .int x4), (5, .int x5)]) (pc := 23) h dX8_copy_23 (by decide) rfl ?_
      refine T_aload_n (pc := 25) h dX8_copy_25 rfl 1 rfl ?_
      refine T_gR (pc := 26) h hs hk0 fl_X8_64 rfl fk_8_7 dX8_copy_26 (fun hq7 => ?_)
      refine T_iload_n (pc := 29) h dX8_copy_29 rfl 4 rfl ?_
      refine T_aald (c := 13) (c' := 6) (pc := 30) h hs hq7 (by decide) dX8_copy_30 (fun hq8 => ?_)
      refine T_astore (lv' := [(7, .ref (gR s3 (gR s3 x0 7) x3.toNatClampNeg)), (6, .ref (gR s3 (gR s3 x0 7) x1.toNatClampNeg)), (0, .ref x0), (1, .int x1), (2, .int x2), (3, .int x3), (4, .int x4), (5, .int x5)]) (pc := 31) h dX8_copy_31 (by decide) rfl ?_
      refine T_aload (pc := 33) h dX8_copy_33 1 rfl ?_
      refine T_getI (pc := 35) h hs hq6 fl_X8_263 rfl dX8_copy_35 ?_
      refine T_if_ne (pc := 38) (tgt := 49) h dX8_copy_38 (by decide) ?_ ?_
      · refine T_sub [2] rfl ?_
        exact t_X8_copy_L49 h hs x0 s3 hk0
      · refine T_aload (pc := 41) h dX8_copy_41 0 rfl ?_
        refine T_getI (pc := 43) h hs hq8 fl_X8_263 rfl dX8_copy_43 ?_
        refine T_if_eq (pc := 46) (tgt := 55) h dX8_copy_46 (by decide) ?_ ?_
        · refine T_aload (pc := 55) h dX8_copy_55 1 rfl ?_
          refine T_getI (pc := 57) h hs hq6 fl_X8_267 rfl dX8_copy_57 ?_
          refine T_aload (pc := 60) h dX8_copy_60 0 rfl ?_
          refine T_getI (pc := 62) h hs hq8 fl_X8_267 rfl dX8_copy_62 ?_
          refine T_icmp_eq (pc := 65) (tgt := 74) h dX8_copy_65 (by decide) ?_ ?_
          · refine T_aload (pc := 74) h dX8_copy_74 1 rfl ?_
            refine T_iload_n (pc := 76) h dX8_copy_76 rfl 4 rfl ?_
            refine T_iload (pc := 77) h dX8_copy_77 7 rfl ?_
            refine T_callVi (pc := 79) h (M_X6_hasRow (kl K) hs (gR s3 (gR s3 x0 7) x1.toNatClampNeg) x2 x5 s3 hq6) mv_X6_hasRow hs hq6 ml_X8_283 rfl ⟨Nat.le_of_ble_eq_true rfl, Nat.le_of_ble_eq_true rfl⟩ ⟨Nat.le_refl 0, Nat.le_refl 0⟩ (Nat.le_of_ble_eq_true rfl) dX8_copy_79 rfl (fun r10 s9 => ?_)
            refine T_if_eq (pc := 82) (tgt := 97) h dX8_copy_82 (by decide) ?_ ?_
            · refine T_sub [2] rfl ?_
              exact t_X8_copy_L97 h hs x0 s9 hk0
            · refine T_aload (pc := 85) h dX8_copy_85 0 rfl ?_
              refine T_iload (pc := 87) h dX8_copy_87 6 rfl ?_
              refine T_iload (pc := 89) h dX8_copy_89 7 rfl ?_
              refine T_callVi (pc := 91) h (M_X6_hasRow (kl K) hs (gR s3 (gR s3 x0 7) x3.toNatClampNeg) x4 x5 s9 hq8) mv_X6_hasRow hs hq8 ml_X8_283 rfl ⟨Nat.le_of_ble_eq_true rfl, Nat.le_of_ble_eq_true rfl⟩ ⟨Nat.le_refl 0, Nat.le_refl 0⟩ (Nat.le_of_ble_eq_true rfl) dX8_copy_91 rfl (fun r12 s11 => ?_)
              refine T_if_ne (pc := 94) (tgt := 103) h dX8_copy_94 (by decide) ?_ ?_
              · refine T_aload (pc := 103) h dX8_copy_103 1 rfl ?_
                refine T_gR (pc := 105) h hs hq6 fl_X8_277 rfl fk_6_3 dX8_copy_105 (fun hq13 => ?_)
                refine T_iload_n (pc := 108) h dX8_copy_108 rfl 4 rfl ?_
                refine T_aload (pc := 109) h dX8_copy_109 0 rfl ?_
                refine T_gR (pc := 111) h hs hq8 fl_X8_277 rfl fk_6_3 dX8_copy_111 (fun hq14 => ?_)
                refine T_iload (pc := 114) h dX8_copy_114 6 rfl ?_
                refine T_iload (pc := 116) h dX8_copy_116 7 rfl ?_
                refine T_copyL (pc := 118) h hs hq13 hq14 ml_X8_220 ac_nat ac_sta ac_ini ⟨Nat.le_of_ble_eq_true rfl, Nat.le_of_ble_eq_true rfl⟩ (Nat.le_of_ble_eq_true rfl) dX8_copy_118 ?_
                refine T_letS fun s15 => ?_
                refine T_iconst (pc := 121) h dX8_copy_121 ki_1 ?_
                exact T_ireturn (pc := 122) h (Nat.zero_le _) (Nat.zero_le _) dX8_copy_122
              · refine T_sub [2] rfl ?_
                exact t_X8_copy_L97 h hs x0 s11 hk0
          · refine T_aload_n (pc := 68) h dX8_copy_68 rfl 2 rfl ?_
            refine T_iconst (pc := 69) h dX8_copy_69 ki_4 ?_
            refine T_callVi (pc := 70) h (M_X8_finding (kl K) hs x0 (4 : Int32) s3 hk0) mv_X8_finding hs hk0 ml_X8_229 rfl ⟨Nat.le_of_ble_eq_true rfl, Nat.le_of_ble_eq_true rfl⟩ ⟨Nat.le_refl 0, Nat.le_refl 0⟩ (Nat.le_of_ble_eq_true rfl) dX8_copy_70 rfl (fun r17 s16 => ?_)
            exact T_ireturn (pc := 73) h (Nat.zero_le _) (Nat.zero_le _) dX8_copy_73
        · refine T_sub [2] rfl ?_
          exact t_X8_copy_L49 h hs x0 s3 hk0
    · refine T_sub [] rfl ?_
      exact t_X8_copy_L14 h hs s3
theorem M_X8_copy (l : Launch) {iv : Sg → Prop} (hi : iv = St) (x0 : Nat) (x1 : Int32) (x2 : Int32) (x3 : Int32) (x4 : Int32) (x5 : Int32) (σ : Sg) (hk0 : kd x0 8) : CTi l yX8_copy cX8_copy 8 (some .int) rm_X8_copy iv [.ref x0, .int x1, .int x2, .int x3, .int x4, .int x5] σ (f_X8_copy x0 x1 x2 x3 x4 x5 σ) := by
  subst hi
  exact CT_of (by decide) (Nat.le_of_ble_eq_true rfl) (fun K _ h _ hs _ _ => t_X8_copy h hs x0 x1 x2 x3 x4 x5 σ hk0)
/-! LuteTabs.write(I)I -/
theorem dX8_write_0 : decode cX8_write 0 = .ok (.aload_n 0, 1) := by decide +kernel
theorem dX8_write_1 : decode cX8_write 1 = .ok (.iload_n 1, 1) := by decide +kernel
theorem dX8_write_2 : decode cX8_write 2 = .ok (.invokevirtual 132, 3) := by decide +kernel
theorem dX8_write_5 : decode cX8_write 5 = .ok (.istore_n 2, 1) := by decide +kernel
theorem dX8_write_6 : decode cX8_write 6 = .ok (.iload_n 2, 1) := by decide +kernel
theorem dX8_write_7 : decode cX8_write 7 = .ok (.ifCond .eq 5, 3) := by decide +kernel
theorem dX8_write_10 : decode cX8_write 10 = .ok (.iload_n 2, 1) := by decide +kernel
theorem dX8_write_11 : decode cX8_write 11 = .ok (.ireturn, 1) := by decide +kernel
theorem dX8_write_12 : decode cX8_write 12 = .ok (.aload_n 0, 1) := by decide +kernel
theorem dX8_write_13 : decode cX8_write 13 = .ok (.getfield 81, 3) := by decide +kernel
theorem dX8_write_16 : decode cX8_write 16 = .ok (.ifCond .ne 6, 3) := by decide +kernel
theorem dX8_write_19 : decode cX8_write 19 = .ok (.bipush (-3), 2) := by decide +kernel
theorem dX8_write_21 : decode cX8_write 21 = .ok (.ireturn, 1) := by decide +kernel
theorem dX8_write_22 : decode cX8_write 22 = .ok (.aload_n 0, 1) := by decide +kernel
theorem dX8_write_23 : decode cX8_write 23 = .ok (.getfield 64, 3) := by decide +kernel
theorem dX8_write_26 : decode cX8_write 26 = .ok (.iload_n 1, 1) := by decide +kernel
theorem dX8_write_27 : decode cX8_write 27 = .ok (.aaload, 1) := by decide +kernel
theorem dX8_write_28 : decode cX8_write 28 = .ok (.getfield 266, 3) := by decide +kernel
theorem dX8_write_31 : decode cX8_write 31 = .ok (.aload_n 0, 1) := by decide +kernel
theorem dX8_write_32 : decode cX8_write 32 = .ok (.getfield 19, 3) := by decide +kernel
theorem dX8_write_35 : decode cX8_write 35 = .ok (.getfield 128, 3) := by decide +kernel
theorem dX8_write_38 : decode cX8_write 38 = .ok (.invokestatic 286, 3) := by decide +kernel
theorem dX8_write_41 : decode cX8_write 41 = .ok (.istore_n 3, 1) := by decide +kernel
theorem dX8_write_42 : decode cX8_write 42 = .ok (.iconst 0, 1) := by decide +kernel
theorem dX8_write_43 : decode cX8_write 43 = .ok (.istore 4, 2) := by decide +kernel
theorem dX8_write_45 : decode cX8_write 45 = .ok (.iload 4, 2) := by decide +kernel
theorem dX8_write_47 : decode cX8_write 47 = .ok (.iload_n 3, 1) := by decide +kernel
theorem dX8_write_48 : decode cX8_write 48 = .ok (.if_icmp .ge 27, 3) := by decide +kernel
theorem dX8_write_51 : decode cX8_write 51 = .ok (.aload_n 0, 1) := by decide +kernel
theorem dX8_write_52 : decode cX8_write 52 = .ok (.getfield 64, 3) := by decide +kernel
theorem dX8_write_55 : decode cX8_write 55 = .ok (.iload_n 1, 1) := by decide +kernel
theorem dX8_write_56 : decode cX8_write 56 = .ok (.aaload, 1) := by decide +kernel
theorem dX8_write_57 : decode cX8_write 57 = .ok (.iload 4, 2) := by decide +kernel
theorem dX8_write_59 : decode cX8_write 59 = .ok (.aload_n 0, 1) := by decide +kernel
theorem dX8_write_60 : decode cX8_write 60 = .ok (.iload 4, 2) := by decide +kernel
theorem dX8_write_62 : decode cX8_write 62 = .ok (.invokevirtual 291, 3) := by decide +kernel
theorem dX8_write_65 : decode cX8_write 65 = .ok (.i2l, 1) := by decide +kernel
theorem dX8_write_66 : decode cX8_write 66 = .ok (.invokevirtual 273, 3) := by decide +kernel
theorem dX8_write_69 : decode cX8_write 69 = .ok (.iinc 4 1, 3) := by decide +kernel
theorem dX8_write_72 : decode cX8_write 72 = .ok (.goto (-27), 3) := by decide +kernel
theorem dX8_write_75 : decode cX8_write 75 = .ok (.iload_n 3, 1) := by decide +kernel
theorem dX8_write_76 : decode cX8_write 76 = .ok (.ireturn, 1) := by decide +kernel
abbrev rm_X8_write : Room := { frames := 2, cells := 0, slots := 0, locals := 42 }
def f_X8_write_L45  (x0 : Nat) (x1 : Int32) (x3 : Int32) (rec45 : Int32 × Sg → Option (Int32 × Sg)) (s : Int32 × Sg) : Option (Int32 × Sg) := (if x3 ≤ (s.1) then some (x3, (s.2)) else ck (inb x1 (aL (gR (s.2) x0 7))) (bd (f_X8_fretOfLaid x0 (s.1) (s.2)) fun r4 s3 => bd (f_X6_store (gR (s.2) (gR (s.2) x0 7) x1.toNatClampNeg) (s.1) (r4.toInt64) s3) fun _ s5 => lB ((s.1) + (1 : Int32)) fun v6 => rec45 (v6, s5)))
def f_X8_write (x0 : Nat) (x1 : Int32) (σ : Sg) : Option (Int32 × Sg) := bd (f_X8_refusalOfSheet x0 x1 σ) fun r2 s1 => (if r2 = 0 then (if (gI s1 x0 11) = 0 then some ((-3 : Int32), s1) else ck (inb x1 (aL (gR s1 x0 7))) (lB ((mnI (gI s1 (gR s1 (gR s1 x0 7) x1.toNatClampNeg) 2) (gI s1 (gR s1 x0 1) 6))) fun v6 => fx (f_X8_write_L45 x0 x1 v6) FU ((0 : Int32), s1))) else some (r2, s1))
theorem t_X8_write_L45 {K : Cx} (h : Ok K cX8_write RX8 5 rm_X8_write (some .int)) (hs : kiv K = St) (x0 : Nat) (x1 : Int32) (x3 : Int32)  (hk0 : kd x0 8) (rec45 : Int32 × Sg → Option (Int32 × Sg)) (hr45 : ∀ u, T K (QI K) 45 [(0, .ref x0), (1, .int x1), (3, .int x3), (4, .int (u.1))] [] 0 0 (u.2) (rec45 u)) (s : Int32 × Sg) : T K (QI K) 45 [(0, .ref x0), (1, .int x1), (3, .int x3), (4, .int (s.1))] [] 0 0 (s.2) (f_X8_write_L45 x0 x1 x3 rec45 s) := by
  unfold f_X8_write_L45
  refine T_iload (pc := 45) h dX8_write_45 3 rfl ?_
  refine T_iload_n (pc := 47) h dX8_write_47 rfl 2 rfl ?_
  refine T_icmp_ge (pc := 48) (tgt := 75) h dX8_write_48 (by decide) ?_ ?_
  · refine T_iload_n (pc := 75) h dX8_write_75 rfl 2 rfl ?_
    exact T_ireturn (pc := 76) h (Nat.zero_le _) (Nat.zero_le _) dX8_write_76
  · refine T_aload_n (pc := 51) h dX8_write_51 rfl 0 rfl ?_
    refine T_gR (pc := 52) h hs hk0 fl_X8_64 rfl fk_8_7 dX8_write_52 (fun hq1 => ?_)
    refine T_iload_n (pc := 55) h dX8_write_55 rfl 1 rfl ?_
    refine T_aald (c := 13) (c' := 6) (pc := 56) h hs hq1 (by decide) dX8_write_56 (fun hq2 => ?_)
    refine T_iload (pc := 57) h dX8_write_57 3 rfl ?_
    refine T_aload_n (pc := 59) h dX8_write_59 rfl 0 rfl ?_
    refine T_iload (pc := 60) h dX8_write_60 3 rfl ?_
    refine T_callVi (pc := 62) h (M_X8_fretOfLaid (kl K) hs x0 (s.1) (s.2) hk0) mv_X8_fretOfLaid hs hk0 ml_X8_291 rfl ⟨Nat.le_of_ble_eq_true rfl, Nat.le_of_ble_eq_true rfl⟩ ⟨Nat.le_refl 0, Nat.le_refl 0⟩ (Nat.le_of_ble_eq_true rfl) dX8_write_62 rfl (fun r4 s3 => ?_)
    refine T_i2l (pc := 65) h dX8_write_65 ?_
    refine T_callVv (pc := 66) h (M_X6_store (kl K) hs (gR (s.2) (gR (s.2) x0 7) x1.toNatClampNeg) (s.1) (r4.toInt64) s3 hq2) mv_X6_store hs hq2 ml_X8_273 rfl ⟨Nat.le_of_ble_eq_true rfl, Nat.le_of_ble_eq_true rfl⟩ ⟨Nat.le_refl 0, Nat.le_refl 0⟩ (Nat.le_of_ble_eq_true rfl) dX8_write_66 rfl (fun _ s5 => ?_)
    refine T_iinc (fl := fun v6 => [(4, .int v6), (0, .ref x0), (1, .int x1), (3, .int x3)]) (pc := 69) h dX8_write_69 3 rfl ki_1 (by decide) (fun _ => rfl) (fun v6 => ?_)
    refine T_goto (pc := 72) (tgt := 45) h dX8_write_72 (by decide) ?_
    refine T_sub [1, 2, 3, 0] rfl ?_
    exact hr45 (v6, s5)
theorem t_X8_write {K : Cx} (h : Ok K cX8_write RX8 5 rm_X8_write (some .int)) (hs : kiv K = St) (x0 : Nat) (x1 : Int32) (σ : Sg) (hk0 : kd x0 8) : T K (QI K) 0 [(0, .ref x0), (1, .int x1)] [] 0 0 σ (f_X8_write x0 x1 σ) := by
  unfold f_X8_write
  refine T_aload_n (pc := 0) h dX8_write_0 rfl 0 rfl ?_
  refine T_iload_n (pc := 1) h dX8_write_1 rfl 1 rfl ?_
  refine T_callVi (pc := 2) h (M_X8_refusalOfSheet (kl K) hs x0 x1 σ hk0) mv_X8_refusalOfSheet hs hk0 ml_X8_132 rfl ⟨Nat.le_of_ble_eq_true rfl, Nat.le_of_ble_eq_true rfl⟩ ⟨Nat.le_refl 0, Nat.le_refl 0⟩ (Nat.le_of_ble_eq_true rfl) dX8_write_2 rfl (fun r2 s1 => ?_)
  refine T_istore_n (lv' := [(2, .int r2), (0, .ref x0), (1, .int x1)]) (pc := 5) h dX8_write_5 rfl (by decide) rfl ?_
  refine T_iload_n (pc := 6) h dX8_write_6 rfl 0 rfl ?_
  refine T_if_eq (pc := 7) (tgt := 12) h dX8_write_7 (by decide) ?_ ?_
  · refine T_aload_n (pc := 12) h dX8_write_12 rfl 1 rfl ?_
    refine T_getI (pc := 13) h hs hk0 fl_X8_81 rfl dX8_write_13 ?_
    refine T_if_ne (pc := 16) (tgt := 22) h dX8_write_16 (by decide) ?_ ?_
    · refine T_aload_n (pc := 22) h dX8_write_22 rfl 1 rfl ?_
      refine T_gR (pc := 23) h hs hk0 fl_X8_64 rfl fk_8_7 dX8_write_23 (fun hq3 => ?_)
      refine T_iload_n (pc := 26) h dX8_write_26 rfl 2 rfl ?_
      refine T_aald (c := 13) (c' := 6) (pc := 27) h hs hq3 (by decide) dX8_write_27 (fun hq4 => ?_)
      refine T_getI (pc := 28) h hs hq4 fl_X8_266 rfl dX8_write_28 ?_
      refine T_aload_n (pc := 31) h dX8_write_31 rfl 1 rfl ?_
      refine T_gR (pc := 32) h hs hk0 fl_X8_19 rfl fk_8_1 dX8_write_32 (fun hq5 => ?_)
      refine T_getI (pc := 35) h hs hq5 fl_X8_128 rfl dX8_write_35 ?_
      refine T_mmin (pc := 38) h ml_X8_286 mm_min_s mm_i mm_min_c ⟨Nat.le_of_ble_eq_true rfl, Nat.le_of_ble_eq_true rfl⟩ ⟨Nat.zero_le _, Nat.zero_le _⟩ (Nat.le_of_ble_eq_true rfl) dX8_write_38 ?_
      refine T_letI fun v6 => ?_
      refine T_istore_n (lv' := [(3, .int v6), (2, .int r2), (0, .ref x0), (1, .int x1)]) (pc := 41) h dX8_write_41 rfl (by decide) rfl ?_
      refine T_iconst (pc := 42) h dX8_write_42 ki_0 ?_
      refine T_istore (lv' := [(4, .int (0 : Int32)), (3, .int v6), (2, .int r2), (0, .ref x0), (1, .int x1)]) (pc := 43) h dX8_write_43 (by decide) rfl ?_
      refine T_sub [3, 4, 1, 0] rfl ?_
      exact T_fx (B := f_X8_write_L45 x0 x1 v6) (fl := fun u => [(0, .ref x0), (1, .int x1), (3, .int v6), (4, .int (u.1))]) (f := fun u => (u.2)) (fun rec45 hr45 u => t_X8_write_L45 h hs x0 x1 v6 hk0 rec45 hr45 u) FU ((0 : Int32), s1)
    · refine T_bipush (pc := 19) h dX8_write_19 kb_m3 ?_
      exact T_ireturn (pc := 21) h (Nat.zero_le _) (Nat.zero_le _) dX8_write_21
  · refine T_iload_n (pc := 10) h dX8_write_10 rfl 0 rfl ?_
    exact T_ireturn (pc := 11) h (Nat.zero_le _) (Nat.zero_le _) dX8_write_11
theorem M_X8_write (l : Launch) {iv : Sg → Prop} (hi : iv = St) (x0 : Nat) (x1 : Int32) (σ : Sg) (hk0 : kd x0 8) : CTi l yX8_write cX8_write 5 (some .int) rm_X8_write iv [.ref x0, .int x1] σ (f_X8_write x0 x1 σ) := by
  subst hi
  exact CT_of (by decide) (Nat.le_of_ble_eq_true rfl) (fun K _ h _ hs _ _ => t_X8_write h hs x0 x1 σ hk0)
/-! LuteTabs.count(I)I -/
theorem dX8_count_0 : decode cX8_count 0 = .ok (.iload_n 1, 1) := by decide +kernel
theorem dX8_count_1 : decode cX8_count 1 = .ok (.tableswitch 141 0 8 #[51, 59, 67, 75, 94, 107, 123, 128, 136], 51) := by decide +kernel
theorem dX8_count_52 : decode cX8_count 52 = .ok (.aload_n 0, 1) := by decide +kernel
theorem dX8_count_53 : decode cX8_count 53 = .ok (.getfield 19, 3) := by decide +kernel
theorem dX8_count_56 : decode cX8_count 56 = .ok (.getfield 128, 3) := by decide +kernel
theorem dX8_count_59 : decode cX8_count 59 = .ok (.ireturn, 1) := by decide +kernel
theorem dX8_count_60 : decode cX8_count 60 = .ok (.aload_n 0, 1) := by decide +kernel
theorem dX8_count_61 : decode cX8_count 61 = .ok (.getfield 19, 3) := by decide +kernel
theorem dX8_count_64 : decode cX8_count 64 = .ok (.getfield 294, 3) := by decide +kernel
theorem dX8_count_67 : decode cX8_count 67 = .ok (.ireturn, 1) := by decide +kernel
theorem dX8_count_68 : decode cX8_count 68 = .ok (.aload_n 0, 1) := by decide +kernel
theorem dX8_count_69 : decode cX8_count 69 = .ok (.getfield 10, 3) := by decide +kernel
theorem dX8_count_72 : decode cX8_count 72 = .ok (.getfield 90, 3) := by decide +kernel
theorem dX8_count_75 : decode cX8_count 75 = .ok (.ireturn, 1) := by decide +kernel
theorem dX8_count_76 : decode cX8_count 76 = .ok (.aload_n 0, 1) := by decide +kernel
theorem dX8_count_77 : decode cX8_count 77 = .ok (.getfield 37, 3) := by decide +kernel
theorem dX8_count_80 : decode cX8_count 80 = .ok (.iconst 0, 1) := by decide +kernel
theorem dX8_count_81 : decode cX8_count 81 = .ok (.invokevirtual 161, 3) := by decide +kernel
theorem dX8_count_84 : decode cX8_count 84 = .ok (.lconst 0, 1) := by decide +kernel
theorem dX8_count_85 : decode cX8_count 85 = .ok (.lcmp, 1) := by decide +kernel
theorem dX8_count_86 : decode cX8_count 86 = .ok (.ifCond .ge 7, 3) := by decide +kernel
theorem dX8_count_89 : decode cX8_count 89 = .ok (.iconst 0, 1) := by decide +kernel
theorem dX8_count_90 : decode cX8_count 90 = .ok (.goto 4, 3) := by decide +kernel
theorem dX8_count_93 : decode cX8_count 93 = .ok (.iconst 1, 1) := by decide +kernel
theorem dX8_count_94 : decode cX8_count 94 = .ok (.ireturn, 1) := by decide +kernel
theorem dX8_count_95 : decode cX8_count 95 = .ok (.aload_n 0, 1) := by decide +kernel
theorem dX8_count_96 : decode cX8_count 96 = .ok (.getfield 81, 3) := by decide +kernel
theorem dX8_count_99 : decode cX8_count 99 = .ok (.ifCond .eq 7, 3) := by decide +kernel
theorem dX8_count_102 : decode cX8_count 102 = .ok (.iconst 1, 1) := by decide +kernel
theorem dX8_count_103 : decode cX8_count 103 = .ok (.goto 4, 3) := by decide +kernel
theorem dX8_count_106 : decode cX8_count 106 = .ok (.iconst 0, 1) := by decide +kernel
theorem dX8_count_107 : decode cX8_count 107 = .ok (.ireturn, 1) := by decide +kernel
theorem dX8_count_108 : decode cX8_count 108 = .ok (.aload_n 0, 1) := by decide +kernel
theorem dX8_count_109 : decode cX8_count 109 = .ok (.getfield 81, 3) := by decide +kernel
theorem dX8_count_112 : decode cX8_count 112 = .ok (.ifCond .eq 10, 3) := by decide +kernel
theorem dX8_count_115 : decode cX8_count 115 = .ok (.aload_n 0, 1) := by decide +kernel
theorem dX8_count_116 : decode cX8_count 116 = .ok (.invokevirtual 182, 3) := by decide +kernel
theorem dX8_count_119 : decode cX8_count 119 = .ok (.goto 4, 3) := by decide +kernel
theorem dX8_count_122 : decode cX8_count 122 = .ok (.iconst (-1), 1) := by decide +kernel
theorem dX8_count_123 : decode cX8_count 123 = .ok (.ireturn, 1) := by decide +kernel
theorem dX8_count_124 : decode cX8_count 124 = .ok (.aload_n 0, 1) := by decide +kernel
theorem dX8_count_125 : decode cX8_count 125 = .ok (.invokevirtual 226, 3) := by decide +kernel
theorem dX8_count_128 : decode cX8_count 128 = .ok (.ireturn, 1) := by decide +kernel
theorem dX8_count_129 : decode cX8_count 129 = .ok (.aload_n 0, 1) := by decide +kernel
theorem dX8_count_130 : decode cX8_count 130 = .ok (.getfield 48, 3) := by decide +kernel
theorem dX8_count_133 : decode cX8_count 133 = .ok (.getfield 236, 3) := by decide +kernel
theorem dX8_count_136 : decode cX8_count 136 = .ok (.ireturn, 1) := by decide +kernel
theorem dX8_count_137 : decode cX8_count 137 = .ok (.aload_n 0, 1) := by decide +kernel
theorem dX8_count_138 : decode cX8_count 138 = .ok (.getfield 85, 3) := by decide +kernel
theorem dX8_count_141 : decode cX8_count 141 = .ok (.ireturn, 1) := by decide +kernel
theorem dX8_count_142 : decode cX8_count 142 = .ok (.bipush (-2), 2) := by decide +kernel
theorem dX8_count_144 : decode cX8_count 144 = .ok (.ireturn, 1) := by decide +kernel
abbrev rm_X8_count : Room := { frames := 6, cells := 0, slots := 0, locals := 153 }
def f_X8_count_L94   (y0 : Int32) (σ : Sg) : Option (Int32 × Sg) := some (y0, σ)
def f_X8_count_L107   (y0 : Int32) (σ : Sg) : Option (Int32 × Sg) := some (y0, σ)
def f_X8_count_L123   (y0 : Int32) (σ : Sg) : Option (Int32 × Sg) := some (y0, σ)
def f_X8_count (x0 : Nat) (x1 : Int32) (σ : Sg) : Option (Int32 × Sg) := (if x1.toInt < 0 ∨ 8 < x1.toInt then some ((-2 : Int32), σ) else swt [some ((gI σ (gR σ x0 1) 6), σ), some ((gI σ (gR σ x0 1) 7), σ), some ((gI σ (gR σ x0 0) 0), σ), bd (f_X5_inKey (gR σ x0 3) (0 : Int32) σ) fun r6 s5 => (if 0 ≤ (lg_cmp r6 (0 : Int64)) then f_X8_count_L94 (1 : Int32) s5 else f_X8_count_L94 (0 : Int32) s5), (if (gI σ x0 11) = 0 then f_X8_count_L107 (0 : Int32) σ else f_X8_count_L107 (1 : Int32) σ), (if (gI σ x0 11) = 0 then f_X8_count_L123 (-1 : Int32) σ else bd (f_X8_wrongs x0 σ) fun r8 s7 => f_X8_count_L123 r8 s7), bd (f_X8_slotsKept x0 σ) fun r10 s9 => some (r10, s9), some ((gI σ (gR σ x0 4) 1), σ), some ((gI σ x0 12), σ)] (x1.toInt - 0).toNat)
theorem t_X8_count_L94 {K : Cx} (h : Ok K cX8_count RX8 2 rm_X8_count (some .int)) (hs : kiv K = St)  (y0 : Int32) (σ : Sg)    : T K (QI K) 94 [] [.int y0] 0 0 σ (f_X8_count_L94 y0 σ) := by
  unfold f_X8_count_L94
  exact T_ireturn (pc := 94) h (Nat.zero_le _) (Nat.zero_le _) dX8_count_94
theorem t_X8_count_L107 {K : Cx} (h : Ok K cX8_count RX8 2 rm_X8_count (some .int)) (hs : kiv K = St)  (y0 : Int32) (σ : Sg)    : T K (QI K) 107 [] [.int y0] 0 0 σ (f_X8_count_L107 y0 σ) := by
  unfold f_X8_count_L107
  exact T_ireturn (pc := 107) h (Nat.zero_le _) (Nat.zero_le _) dX8_count_107
theorem t_X8_count_L123 {K : Cx} (h : Ok K cX8_count RX8 2 rm_X8_count (some .int)) (hs : kiv K = St)  (y0 : Int32) (σ : Sg)    : T K (QI K) 123 [] [.int y0] 0 0 σ (f_X8_count_L123 y0 σ) := by
  unfold f_X8_count_L123
  exact T_ireturn (pc := 123) h (Nat.zero_le _) (Nat.zero_le _) dX8_count_123
theorem t_X8_count {K : Cx} (h : Ok K cX8_count RX8 2 rm_X8_count (some .int)) (hs : kiv K = St) (x0 : Nat) (x1 : Int32) (σ : Sg) (hk0 : kd x0 8) : T K (QI K) 0 [(0, .ref x0), (1, .int x1)] [] 0 0 σ (f_X8_count x0 x1 σ) := by
  unfold f_X8_count
  refine T_iload_n (pc := 0) h dX8_count_0 rfl 1 rfl ?_
  refine T_tsw (pc := 1) (tgt := 142) h dX8_count_1 (by decide) [52, 60, 68, 76, 95, 108, 124, 129, 137] rfl (by decide) rfl (by decide) ?_ (List.forall_mem_cons.mpr ⟨?_, List.forall_mem_cons.mpr ⟨?_, List.forall_mem_cons.mpr ⟨?_, List.forall_mem_cons.mpr ⟨?_, List.forall_mem_cons.mpr ⟨?_, List.forall_mem_cons.mpr ⟨?_, List.forall_mem_cons.mpr ⟨?_, List.forall_mem_cons.mpr ⟨?_, List.forall_mem_cons.mpr ⟨?_, fun _ hq => by cases hq⟩⟩⟩⟩⟩⟩⟩⟩⟩)
  · refine T_bipush (pc := 142) h dX8_count_142 kb_m2 ?_
    exact T_ireturn (pc := 144) h (Nat.zero_le _) (Nat.zero_le _) dX8_count_144
  · dsimp only
    refine T_aload_n (pc := 52) h dX8_count_52 rfl 0 rfl ?_
    refine T_gR (pc := 53) h hs hk0 fl_X8_19 rfl fk_8_1 dX8_count_53 (fun hq1 => ?_)
    refine T_getI (pc := 56) h hs hq1 fl_X8_128 rfl dX8_count_56 ?_
    exact T_ireturn (pc := 59) h (Nat.zero_le _) (Nat.zero_le _) dX8_count_59
  · dsimp only
    refine T_aload_n (pc := 60) h dX8_count_60 rfl 0 rfl ?_
    refine T_gR (pc := 61) h hs hk0 fl_X8_19 rfl fk_8_1 dX8_count_61 (fun hq2 => ?_)
    refine T_getI (pc := 64) h hs hq2 fl_X8_294 rfl dX8_count_64 ?_
    exact T_ireturn (pc := 67) h (Nat.zero_le _) (Nat.zero_le _) dX8_count_67
  · dsimp only
    refine T_aload_n (pc := 68) h dX8_count_68 rfl 0 rfl ?_
    refine T_gR (pc := 69) h hs hk0 fl_X8_10 rfl fk_8_0 dX8_count_69 (fun hq3 => ?_)
    refine T_getI (pc := 72) h hs hq3 fl_X8_90 rfl dX8_count_72 ?_
    exact T_ireturn (pc := 75) h (Nat.zero_le _) (Nat.zero_le _) dX8_count_75
  · dsimp only
    refine T_aload_n (pc := 76) h dX8_count_76 rfl 0 rfl ?_
    refine T_gR (pc := 77) h hs hk0 fl_X8_37 rfl fk_8_3 dX8_count_77 (fun hq4 => ?_)
    refine T_iconst (pc := 80) h dX8_count_80 ki_0 ?_
    refine T_callVl (pc := 81) h (M_X5_inKey (kl K) hs (gR σ x0 3) (0 : Int32) σ hq4) mv_X5_inKey hs hq4 ml_X8_161 rfl ⟨Nat.le_of_ble_eq_true rfl, Nat.le_of_ble_eq_true rfl⟩ ⟨Nat.le_refl 0, Nat.le_refl 0⟩ (Nat.le_of_ble_eq_true rfl) dX8_count_81 rfl (fun r6 s5 => ?_)
    refine T_lconst (pc := 84) h dX8_count_84 kl_0 ?_
    refine T_lcmp (pc := 85) h dX8_count_85 ?_
    refine T_if_ge (pc := 86) (tgt := 93) h dX8_count_86 (by decide) ?_ ?_
    · refine T_iconst (pc := 93) h dX8_count_93 ki_1 ?_
      refine T_sub [] rfl ?_
      exact t_X8_count_L94 h hs (1 : Int32) s5
    · refine T_iconst (pc := 89) h dX8_count_89 ki_0 ?_
      refine T_goto (pc := 90) (tgt := 94) h dX8_count_90 (by decide) ?_
      refine T_sub [] rfl ?_
      exact t_X8_count_L94 h hs (0 : Int32) s5
  · dsimp only
    refine T_aload_n (pc := 95) h dX8_count_95 rfl 0 rfl ?_
    refine T_getI (pc := 96) h hs hk0 fl_X8_81 rfl dX8_count_96 ?_
    refine T_if_eq (pc := 99) (tgt := 106) h dX8_count_99 (by decide) ?_ ?_
    · refine T_iconst (pc := 106) h dX8_count_106 ki_0 ?_
      refine T_sub [] rfl ?_
      exact t_X8_count_L107 h hs (0 : Int32) σ
    · refine T_iconst (pc := 102) h dX8_count_102 ki_1 ?_
      refine T_goto (pc := 103) (tgt := 107) h dX8_count_103 (by decide) ?_
      refine T_sub [] rfl ?_
      exact t_X8_count_L107 h hs (1 : Int32) σ
  · dsimp only
    refine T_aload_n (pc := 108) h dX8_count_108 rfl 0 rfl ?_
    refine T_getI (pc := 109) h hs hk0 fl_X8_81 rfl dX8_count_109 ?_
    refine T_if_eq (pc := 112) (tgt := 122) h dX8_count_112 (by decide) ?_ ?_
    · refine T_iconst (pc := 122) h dX8_count_122 ki_m1 ?_
      refine T_sub [] rfl ?_
      exact t_X8_count_L123 h hs (-1 : Int32) σ
    · refine T_aload_n (pc := 115) h dX8_count_115 rfl 0 rfl ?_
      refine T_callVi (pc := 116) h (M_X8_wrongs (kl K) hs x0 σ hk0) mv_X8_wrongs hs hk0 ml_X8_182 rfl ⟨Nat.le_of_ble_eq_true rfl, Nat.le_of_ble_eq_true rfl⟩ ⟨Nat.le_refl 0, Nat.le_refl 0⟩ (Nat.le_of_ble_eq_true rfl) dX8_count_116 rfl (fun r8 s7 => ?_)
      refine T_goto (pc := 119) (tgt := 123) h dX8_count_119 (by decide) ?_
      refine T_sub [] rfl ?_
      exact t_X8_count_L123 h hs r8 s7
  · dsimp only
    refine T_aload_n (pc := 124) h dX8_count_124 rfl 0 rfl ?_
    refine T_callVi (pc := 125) h (M_X8_slotsKept (kl K) hs x0 σ hk0) mv_X8_slotsKept hs hk0 ml_X8_226 rfl ⟨Nat.le_of_ble_eq_true rfl, Nat.le_of_ble_eq_true rfl⟩ ⟨Nat.le_refl 0, Nat.le_refl 0⟩ (Nat.le_of_ble_eq_true rfl) dX8_count_125 rfl (fun r10 s9 => ?_)
    exact T_ireturn (pc := 128) h (Nat.zero_le _) (Nat.zero_le _) dX8_count_128
  · dsimp only
    refine T_aload_n (pc := 129) h dX8_count_129 rfl 0 rfl ?_
    refine T_gR (pc := 130) h hs hk0 fl_X8_48 rfl fk_8_4 dX8_count_130 (fun hq11 => ?_)
    refine T_getI (pc := 133) h hs hq11 fl_X8_236 rfl dX8_count_133 ?_
    exact T_ireturn (pc := 136) h (Nat.zero_le _) (Nat.zero_le _) dX8_count_136
  · dsimp only
    refine T_aload_n (pc := 137) h dX8_count_137 rfl 0 rfl ?_
    refine T_getI (pc := 138) h hs hk0 fl_X8_85 rfl dX8_count_138 ?_
    exact T_ireturn (pc := 141) h (Nat.zero_le _) (Nat.zero_le _) dX8_count_141
theorem M_X8_count (l : Launch) {iv : Sg → Prop} (hi : iv = St) (x0 : Nat) (x1 : Int32) (σ : Sg) (hk0 : kd x0 8) : CTi l yX8_count cX8_count 2 (some .int) rm_X8_count iv [.ref x0, .int x1] σ (f_X8_count x0 x1 σ) := by
  subst hi
  exact CT_of (by decide) (Nat.le_of_ble_eq_true rfl) (fun K _ h _ hs _ _ => t_X8_count h hs x0 x1 σ hk0)
/-! LuteTabs.mixed(JJ)J -/
theorem dX8_mixed_0 : decode cX8_mixed 0 = .ok (.ldc2_w 343, 3) := by decide +kernel
theorem dX8_mixed_3 : decode cX8_mixed 3 = .ok (.lload_n 0, 1) := by decide +kernel
theorem dX8_mixed_4 : decode cX8_mixed 4 = .ok (.lmul, 1) := by decide +kernel
theorem dX8_mixed_5 : decode cX8_mixed 5 = .ok (.lload_n 2, 1) := by decide +kernel
theorem dX8_mixed_6 : decode cX8_mixed 6 = .ok (.ladd, 1) := by decide +kernel
theorem dX8_mixed_7 : decode cX8_mixed 7 = .ok (.lreturn, 1) := by decide +kernel
abbrev rm_X8_mixed : Room := { frames := 0, cells := 0, slots := 0, locals := 0 }
def f_X8_mixed (x0 : Int64) (x2 : Int64) (σ : Sg) : Option (Int64 × Sg) := some ((((31 : Int64) * x0) + x2), σ)
theorem t_X8_mixed {K : Cx} (h : Ok K cX8_mixed RX8 4 rm_X8_mixed (some .long)) (hs : kiv K = St) (x0 : Int64) (x2 : Int64) (σ : Sg)  : T K (QL K) 0 [(0, .long x0), (2, .long x2)] [] 0 0 σ (f_X8_mixed x0 x2 σ) := by
  unfold f_X8_mixed
  refine T_ldc2 (pc := 0) h kc_X8_343 dX8_mixed_0 ?_
  refine T_lload_n (pc := 3) h dX8_mixed_3 rfl 0 rfl ?_
  refine T_lmul (pc := 4) h dX8_mixed_4 ?_
  refine T_lload_n (pc := 5) h dX8_mixed_5 rfl 1 rfl ?_
  refine T_ladd (pc := 6) h dX8_mixed_6 ?_
  exact T_lreturn (pc := 7) h (Nat.zero_le _) (Nat.zero_le _) dX8_mixed_7
theorem M_X8_mixed (l : Launch) {iv : Sg → Prop} (hi : iv = St) (x0 : Int64) (x2 : Int64) (σ : Sg)  : CTl l yX8_mixed cX8_mixed 4 (some .long) rm_X8_mixed iv [.long x0, .long x2] σ (f_X8_mixed x0 x2 σ) := by
  subst hi
  exact CT_of (by decide) (Nat.le_of_ble_eq_true rfl) (fun K _ h _ hs _ _ => t_X8_mixed h hs x0 x2 σ )
/-! LuteTabs.mixedNotes(J)J -/
theorem dX8_mixedNotes_0 : decode cX8_mixedNotes 0 = .ok (.lload_n 1, 1) := by decide +kernel
theorem dX8_mixedNotes_1 : decode cX8_mixedNotes 1 = .ok (.lstore_n 3, 1) := by decide +kernel
theorem dX8_mixedNotes_2 : decode cX8_mixedNotes 2 = .ok (.iconst 0, 1) := by decide +kernel
theorem dX8_mixedNotes_3 : decode cX8_mixedNotes 3 = .ok (.istore 5, 2) := by decide +kernel
theorem dX8_mixedNotes_5 : decode cX8_mixedNotes 5 = .ok (.iload 5, 2) := by decide +kernel
theorem dX8_mixedNotes_7 : decode cX8_mixedNotes 7 = .ok (.aload_n 0, 1) := by decide +kernel
theorem dX8_mixedNotes_8 : decode cX8_mixedNotes 8 = .ok (.getfield 19, 3) := by decide +kernel
theorem dX8_mixedNotes_11 : decode cX8_mixedNotes 11 = .ok (.getfield 128, 3) := by decide +kernel
theorem dX8_mixedNotes_14 : decode cX8_mixedNotes 14 = .ok (.if_icmp .ge 38, 3) := by decide +kernel
theorem dX8_mixedNotes_17 : decode cX8_mixedNotes 17 = .ok (.iconst 0, 1) := by decide +kernel
theorem dX8_mixedNotes_18 : decode cX8_mixedNotes 18 = .ok (.istore 6, 2) := by decide +kernel
theorem dX8_mixedNotes_20 : decode cX8_mixedNotes 20 = .ok (.iload 6, 2) := by decide +kernel
theorem dX8_mixedNotes_22 : decode cX8_mixedNotes 22 = .ok (.iconst 5, 1) := by decide +kernel
theorem dX8_mixedNotes_23 : decode cX8_mixedNotes 23 = .ok (.if_icmp .gt 23, 3) := by decide +kernel
theorem dX8_mixedNotes_26 : decode cX8_mixedNotes 26 = .ok (.lload_n 3, 1) := by decide +kernel
theorem dX8_mixedNotes_27 : decode cX8_mixedNotes 27 = .ok (.aload_n 0, 1) := by decide +kernel
theorem dX8_mixedNotes_28 : decode cX8_mixedNotes 28 = .ok (.iload 5, 2) := by decide +kernel
theorem dX8_mixedNotes_30 : decode cX8_mixedNotes 30 = .ok (.iload 6, 2) := by decide +kernel
theorem dX8_mixedNotes_32 : decode cX8_mixedNotes 32 = .ok (.invokevirtual 345, 3) := by decide +kernel
theorem dX8_mixedNotes_35 : decode cX8_mixedNotes 35 = .ok (.i2l, 1) := by decide +kernel
theorem dX8_mixedNotes_36 : decode cX8_mixedNotes 36 = .ok (.invokestatic 302, 3) := by decide +kernel
theorem dX8_mixedNotes_39 : decode cX8_mixedNotes 39 = .ok (.lstore_n 3, 1) := by decide +kernel
theorem dX8_mixedNotes_40 : decode cX8_mixedNotes 40 = .ok (.iinc 6 1, 3) := by decide +kernel
theorem dX8_mixedNotes_43 : decode cX8_mixedNotes 43 = .ok (.goto (-23), 3) := by decide +kernel
theorem dX8_mixedNotes_46 : decode cX8_mixedNotes 46 = .ok (.iinc 5 1, 3) := by decide +kernel
theorem dX8_mixedNotes_49 : decode cX8_mixedNotes 49 = .ok (.goto (-44), 3) := by decide +kernel
theorem dX8_mixedNotes_52 : decode cX8_mixedNotes 52 = .ok (.lload_n 3, 1) := by decide +kernel
theorem dX8_mixedNotes_53 : decode cX8_mixedNotes 53 = .ok (.lreturn, 1) := by decide +kernel
abbrev rm_X8_mixedNotes : Room := { frames := 3, cells := 0, slots := 0, locals := 66 }
def f_X8_mixedNotes_L20 (rec5 : Int64 × Int32 × Sg → Option (Int64 × Sg)) (x0 : Nat) (x5 : Int32) (rec20 : Int64 × Int32 × Sg → Option (Int64 × Sg)) (s : Int64 × Int32 × Sg) : Option (Int64 × Sg) := (if (5 : Int32) < (s.2.1) then lB (x5 + (1 : Int32)) fun v1 => rec5 ((s.1), v1, (s.2.2)) else bd (f_X8_info x0 x5 (s.2.1) (s.2.2)) fun r3 s2 => bd (f_X8_mixed (s.1) (r3.toInt64) s2) fun r5 s4 => lB ((s.2.1) + (1 : Int32)) fun v6 => rec20 (r5, v6, s4))
def f_X8_mixedNotes_L5  (x0 : Nat) (rec5 : Int64 × Int32 × Sg → Option (Int64 × Sg)) (s : Int64 × Int32 × Sg) : Option (Int64 × Sg) := (if (gI (s.2.2) (gR (s.2.2) x0 1) 6) ≤ (s.2.1) then some ((s.1), (s.2.2)) else fx (f_X8_mixedNotes_L20 rec5 x0 (s.2.1)) FU ((s.1), (0 : Int32), (s.2.2)))
def f_X8_mixedNotes (x0 : Nat) (x1 : Int64) (σ : Sg) : Option (Int64 × Sg) := fx (f_X8_mixedNotes_L5 x0) FU (x1, (0 : Int32), σ)
theorem t_X8_mixedNotes_L20 {K : Cx} (h : Ok K cX8_mixedNotes RX8 7 rm_X8_mixedNotes (some .long)) (hs : kiv K = St) (x0 : Nat) (x5 : Int32) (rec5 : Int64 × Int32 × Sg → Option (Int64 × Sg)) (hr5 : ∀ u, T K (QL K) 5 [(0, .ref x0), (3, .long (u.1)), (5, .int (u.2.1))] [] 0 0 (u.2.2) (rec5 u)) (hk0 : kd x0 8) (rec20 : Int64 × Int32 × Sg → Option (Int64 × Sg)) (hr20 : ∀ u, T K (QL K) 20 [(0, .ref x0), (3, .long (u.1)), (5, .int x5), (6, .int (u.2.1))] [] 0 0 (u.2.2) (rec20 u)) (s : Int64 × Int32 × Sg) : T K (QL K) 20 [(0, .ref x0), (3, .long (s.1)), (5, .int x5), (6, .int (s.2.1))] [] 0 0 (s.2.2) (f_X8_mixedNotes_L20 rec5 x0 x5 rec20 s) := by
  unfold f_X8_mixedNotes_L20
  refine T_iload (pc := 20) h dX8_mixedNotes_20 3 rfl ?_
  refine T_iconst (pc := 22) h dX8_mixedNotes_22 ki_5 ?_
  refine T_icmp_gt (pc := 23) (tgt := 46) h dX8_mixedNotes_23 (by decide) ?_ ?_
  · refine T_iinc (fl := fun v1 => [(5, .int v1), (0, .ref x0), (3, .long (s.1)), (6, .int (s.2.1))]) (pc := 46) h dX8_mixedNotes_46 2 rfl ki_1 (by decide) (fun _ => rfl) (fun v1 => ?_)
    refine T_goto (pc := 49) (tgt := 5) h dX8_mixedNotes_49 (by decide) ?_
    refine T_sub [1, 2, 0] rfl ?_
    exact hr5 ((s.1), v1, (s.2.2))
  · refine T_lload_n (pc := 26) h dX8_mixedNotes_26 rfl 1 rfl ?_
    refine T_aload_n (pc := 27) h dX8_mixedNotes_27 rfl 0 rfl ?_
    refine T_iload (pc := 28) h dX8_mixedNotes_28 2 rfl ?_
    refine T_iload (pc := 30) h dX8_mixedNotes_30 3 rfl ?_
    refine T_callVi (pc := 32) h (M_X8_info (kl K) hs x0 x5 (s.2.1) (s.2.2) hk0) mv_X8_info hs hk0 ml_X8_345 rfl ⟨Nat.le_of_ble_eq_true rfl, Nat.le_of_ble_eq_true rfl⟩ ⟨Nat.le_refl 0, Nat.le_refl 0⟩ (Nat.le_of_ble_eq_true rfl) dX8_mixedNotes_32 rfl (fun r3 s2 => ?_)
    refine T_i2l (pc := 35) h dX8_mixedNotes_35 ?_
    refine T_callSl (pc := 36) h (M_X8_mixed (kl K) hs (s.1) (r3.toInt64) s2 ) mst_X8_mixed ml_X8_302 rfl ⟨Nat.le_of_ble_eq_true rfl, Nat.le_of_ble_eq_true rfl⟩ ⟨Nat.le_refl 0, Nat.le_refl 0⟩ (Nat.le_of_ble_eq_true rfl) dX8_mixedNotes_36 rfl (fun r5 s4 => ?_)
    refine T_lstore_n (lv' := [(3, .long r5), (0, .ref x0), (5, .int x5), (6, .int (s.2.1))]) (pc := 39) h dX8_mixedNotes_39 rfl (by decide) rfl ?_
    refine T_iinc (fl := fun v6 => [(6, .int v6), (3, .long r5), (0, .ref x0), (5, .int x5)]) (pc := 40) h dX8_mixedNotes_40 3 rfl ki_1 (by decide) (fun _ => rfl) (fun v6 => ?_)
    refine T_goto (pc := 43) (tgt := 20) h dX8_mixedNotes_43 (by decide) ?_
    refine T_sub [2, 1, 3, 0] rfl ?_
    exact hr20 (r5, v6, s4)
theorem t_X8_mixedNotes_L5 {K : Cx} (h : Ok K cX8_mixedNotes RX8 7 rm_X8_mixedNotes (some .long)) (hs : kiv K = St) (x0 : Nat)  (hk0 : kd x0 8) (rec5 : Int64 × Int32 × Sg → Option (Int64 × Sg)) (hr5 : ∀ u, T K (QL K) 5 [(0, .ref x0), (3, .long (u.1)), (5, .int (u.2.1))] [] 0 0 (u.2.2) (rec5 u)) (s : Int64 × Int32 × Sg) : T K (QL K) 5 [(0, .ref x0), (3, .long (s.1)), (5, .int (s.2.1))] [] 0 0 (s.2.2) (f_X8_mixedNotes_L5 x0 rec5 s) := by
  unfold f_X8_mixedNotes_L5
  refine T_iload (pc := 5) h dX8_mixedNotes_5 2 rfl ?_
  refine T_aload_n (pc := 7) h dX8_mixedNotes_7 rfl 0 rfl ?_
  refine T_gR (pc := 8) h hs hk0 fl_X8_19 rfl fk_8_1 dX8_mixedNotes_8 (fun hq1 => ?_)
  refine T_getI (pc := 11) h hs hq1 fl_X8_128 rfl dX8_mixedNotes_11 ?_
  refine T_icmp_ge (pc := 14) (tgt := 52) h dX8_mixedNotes_14 (by decide) ?_ ?_
  · refine T_lload_n (pc := 52) h dX8_mixedNotes_52 rfl 1 rfl ?_
    exact T_lreturn (pc := 53) h (Nat.zero_le _) (Nat.zero_le _) dX8_mixedNotes_53
  · refine T_iconst (pc := 17) h dX8_mixedNotes_17 ki_0 ?_
    refine T_istore (lv' := [(6, .int (0 : Int32)), (0, .ref x0), (3, .long (s.1)), (5, .int (s.2.1))]) (pc := 18) h dX8_mixedNotes_18 (by decide) rfl ?_
    refine T_sub [1, 2, 3, 0] rfl ?_
    exact T_fx (B := f_X8_mixedNotes_L20 rec5 x0 (s.2.1)) (fl := fun u => [(0, .ref x0), (3, .long (u.1)), (5, .int (s.2.1)), (6, .int (u.2.1))]) (f := fun u => (u.2.2)) (fun rec20 hr20 u => t_X8_mixedNotes_L20 h hs x0 (s.2.1) rec5 hr5 hk0 rec20 hr20 u) FU ((s.1), (0 : Int32), (s.2.2))
theorem t_X8_mixedNotes {K : Cx} (h : Ok K cX8_mixedNotes RX8 7 rm_X8_mixedNotes (some .long)) (hs : kiv K = St) (x0 : Nat) (x1 : Int64) (σ : Sg) (hk0 : kd x0 8) : T K (QL K) 0 [(0, .ref x0), (1, .long x1)] [] 0 0 σ (f_X8_mixedNotes x0 x1 σ) := by
  unfold f_X8_mixedNotes
  refine T_lload_n (pc := 0) h dX8_mixedNotes_0 rfl 1 rfl ?_
  refine T_lstore_n (lv' := [(3, .long x1), (0, .ref x0), (1, .long x1)]) (pc := 1) h dX8_mixedNotes_1 rfl (by decide) rfl ?_
  refine T_iconst (pc := 2) h dX8_mixedNotes_2 ki_0 ?_
  refine T_istore (lv' := [(5, .int (0 : Int32)), (3, .long x1), (0, .ref x0), (1, .long x1)]) (pc := 3) h dX8_mixedNotes_3 (by decide) rfl ?_
  refine T_sub [2, 1, 0] rfl ?_
  exact T_fx (B := f_X8_mixedNotes_L5 x0) (fl := fun u => [(0, .ref x0), (3, .long (u.1)), (5, .int (u.2.1))]) (f := fun u => (u.2.2)) (fun rec5 hr5 u => t_X8_mixedNotes_L5 h hs x0 hk0 rec5 hr5 u) FU (x1, (0 : Int32), σ)
theorem M_X8_mixedNotes (l : Launch) {iv : Sg → Prop} (hi : iv = St) (x0 : Nat) (x1 : Int64) (σ : Sg) (hk0 : kd x0 8) : CTl l yX8_mixedNotes cX8_mixedNotes 7 (some .long) rm_X8_mixedNotes iv [.ref x0, .long x1] σ (f_X8_mixedNotes x0 x1 σ) := by
  subst hi
  exact CT_of (by decide) (Nat.le_of_ble_eq_true rfl) (fun K _ h _ hs _ _ => t_X8_mixedNotes h hs x0 x1 σ hk0)
/-! LuteTabs.mixedChords(J)J -/
theorem dX8_mixedChords_0 : decode cX8_mixedChords 0 = .ok (.lload_n 1, 1) := by decide +kernel
theorem dX8_mixedChords_1 : decode cX8_mixedChords 1 = .ok (.lstore_n 3, 1) := by decide +kernel
theorem dX8_mixedChords_2 : decode cX8_mixedChords 2 = .ok (.iconst 0, 1) := by decide +kernel
theorem dX8_mixedChords_3 : decode cX8_mixedChords 3 = .ok (.istore 5, 2) := by decide +kernel
theorem dX8_mixedChords_5 : decode cX8_mixedChords 5 = .ok (.iload 5, 2) := by decide +kernel
theorem dX8_mixedChords_7 : decode cX8_mixedChords 7 = .ok (.aload_n 0, 1) := by decide +kernel
theorem dX8_mixedChords_8 : decode cX8_mixedChords 8 = .ok (.getfield 19, 3) := by decide +kernel
theorem dX8_mixedChords_11 : decode cX8_mixedChords 11 = .ok (.getfield 294, 3) := by decide +kernel
theorem dX8_mixedChords_14 : decode cX8_mixedChords 14 = .ok (.if_icmp .ge 39, 3) := by decide +kernel
theorem dX8_mixedChords_17 : decode cX8_mixedChords 17 = .ok (.iconst 0, 1) := by decide +kernel
theorem dX8_mixedChords_18 : decode cX8_mixedChords 18 = .ok (.istore 6, 2) := by decide +kernel
theorem dX8_mixedChords_20 : decode cX8_mixedChords 20 = .ok (.iload 6, 2) := by decide +kernel
theorem dX8_mixedChords_22 : decode cX8_mixedChords 22 = .ok (.bipush 6, 2) := by decide +kernel
theorem dX8_mixedChords_24 : decode cX8_mixedChords 24 = .ok (.if_icmp .gt 23, 3) := by decide +kernel
theorem dX8_mixedChords_27 : decode cX8_mixedChords 27 = .ok (.lload_n 3, 1) := by decide +kernel
theorem dX8_mixedChords_28 : decode cX8_mixedChords 28 = .ok (.aload_n 0, 1) := by decide +kernel
theorem dX8_mixedChords_29 : decode cX8_mixedChords 29 = .ok (.iload 5, 2) := by decide +kernel
theorem dX8_mixedChords_31 : decode cX8_mixedChords 31 = .ok (.iload 6, 2) := by decide +kernel
theorem dX8_mixedChords_33 : decode cX8_mixedChords 33 = .ok (.invokevirtual 348, 3) := by decide +kernel
theorem dX8_mixedChords_36 : decode cX8_mixedChords 36 = .ok (.i2l, 1) := by decide +kernel
theorem dX8_mixedChords_37 : decode cX8_mixedChords 37 = .ok (.invokestatic 302, 3) := by decide +kernel
theorem dX8_mixedChords_40 : decode cX8_mixedChords 40 = .ok (.lstore_n 3, 1) := by decide +kernel
theorem dX8_mixedChords_41 : decode cX8_mixedChords 41 = .ok (.iinc 6 1, 3) := by decide +kernel
theorem dX8_mixedChords_44 : decode cX8_mixedChords 44 = .ok (.goto (-24), 3) := by decide +kernel
theorem dX8_mixedChords_47 : decode cX8_mixedChords 47 = .ok (.iinc 5 1, 3) := by decide +kernel
theorem dX8_mixedChords_50 : decode cX8_mixedChords 50 = .ok (.goto (-45), 3) := by decide +kernel
theorem dX8_mixedChords_53 : decode cX8_mixedChords 53 = .ok (.lload_n 3, 1) := by decide +kernel
theorem dX8_mixedChords_54 : decode cX8_mixedChords 54 = .ok (.lreturn, 1) := by decide +kernel
abbrev rm_X8_mixedChords : Room := { frames := 5, cells := 0, slots := 0, locals := 116 }
def f_X8_mixedChords_L20 (rec5 : Int64 × Int32 × Sg → Option (Int64 × Sg)) (x0 : Nat) (x5 : Int32) (rec20 : Int64 × Int32 × Sg → Option (Int64 × Sg)) (s : Int64 × Int32 × Sg) : Option (Int64 × Sg) := (if (6 : Int32) < (s.2.1) then lB (x5 + (1 : Int32)) fun v1 => rec5 ((s.1), v1, (s.2.2)) else bd (f_X8_chord x0 x5 (s.2.1) (s.2.2)) fun r3 s2 => bd (f_X8_mixed (s.1) (r3.toInt64) s2) fun r5 s4 => lB ((s.2.1) + (1 : Int32)) fun v6 => rec20 (r5, v6, s4))
def f_X8_mixedChords_L5  (x0 : Nat) (rec5 : Int64 × Int32 × Sg → Option (Int64 × Sg)) (s : Int64 × Int32 × Sg) : Option (Int64 × Sg) := (if (gI (s.2.2) (gR (s.2.2) x0 1) 7) ≤ (s.2.1) then some ((s.1), (s.2.2)) else fx (f_X8_mixedChords_L20 rec5 x0 (s.2.1)) FU ((s.1), (0 : Int32), (s.2.2)))
def f_X8_mixedChords (x0 : Nat) (x1 : Int64) (σ : Sg) : Option (Int64 × Sg) := fx (f_X8_mixedChords_L5 x0) FU (x1, (0 : Int32), σ)
theorem t_X8_mixedChords_L20 {K : Cx} (h : Ok K cX8_mixedChords RX8 7 rm_X8_mixedChords (some .long)) (hs : kiv K = St) (x0 : Nat) (x5 : Int32) (rec5 : Int64 × Int32 × Sg → Option (Int64 × Sg)) (hr5 : ∀ u, T K (QL K) 5 [(0, .ref x0), (3, .long (u.1)), (5, .int (u.2.1))] [] 0 0 (u.2.2) (rec5 u)) (hk0 : kd x0 8) (rec20 : Int64 × Int32 × Sg → Option (Int64 × Sg)) (hr20 : ∀ u, T K (QL K) 20 [(0, .ref x0), (3, .long (u.1)), (5, .int x5), (6, .int (u.2.1))] [] 0 0 (u.2.2) (rec20 u)) (s : Int64 × Int32 × Sg) : T K (QL K) 20 [(0, .ref x0), (3, .long (s.1)), (5, .int x5), (6, .int (s.2.1))] [] 0 0 (s.2.2) (f_X8_mixedChords_L20 rec5 x0 x5 rec20 s) := by
  unfold f_X8_mixedChords_L20
  refine T_iload (pc := 20) h dX8_mixedChords_20 3 rfl ?_
  refine T_bipush (pc := 22) h dX8_mixedChords_22 kb_6 ?_
  refine T_icmp_gt (pc := 24) (tgt := 47) h dX8_mixedChords_24 (by decide) ?_ ?_
  · refine T_iinc (fl := fun v1 => [(5, .int v1), (0, .ref x0), (3, .long (s.1)), (6, .int (s.2.1))]) (pc := 47) h dX8_mixedChords_47 2 rfl ki_1 (by decide) (fun _ => rfl) (fun v1 => ?_)
    refine T_goto (pc := 50) (tgt := 5) h dX8_mixedChords_50 (by decide) ?_
    refine T_sub [1, 2, 0] rfl ?_
    exact hr5 ((s.1), v1, (s.2.2))
  · refine T_lload_n (pc := 27) h dX8_mixedChords_27 rfl 1 rfl ?_
    refine T_aload_n (pc := 28) h dX8_mixedChords_28 rfl 0 rfl ?_
    refine T_iload (pc := 29) h dX8_mixedChords_29 2 rfl ?_
    refine T_iload (pc := 31) h dX8_mixedChords_31 3 rfl ?_
    refine T_callVi (pc := 33) h (M_X8_chord (kl K) hs x0 x5 (s.2.1) (s.2.2) hk0) mv_X8_chord hs hk0 ml_X8_348 rfl ⟨Nat.le_of_ble_eq_true rfl, Nat.le_of_ble_eq_true rfl⟩ ⟨Nat.le_refl 0, Nat.le_refl 0⟩ (Nat.le_of_ble_eq_true rfl) dX8_mixedChords_33 rfl (fun r3 s2 => ?_)
    refine T_i2l (pc := 36) h dX8_mixedChords_36 ?_
    refine T_callSl (pc := 37) h (M_X8_mixed (kl K) hs (s.1) (r3.toInt64) s2 ) mst_X8_mixed ml_X8_302 rfl ⟨Nat.le_of_ble_eq_true rfl, Nat.le_of_ble_eq_true rfl⟩ ⟨Nat.le_refl 0, Nat.le_refl 0⟩ (Nat.le_of_ble_eq_true rfl) dX8_mixedChords_37 rfl (fun r5 s4 => ?_)
    refine T_lstore_n (lv' := [(3, .long r5), (0, .ref x0), (5, .int x5), (6, .int (s.2.1))]) (pc := 40) h dX8_mixedChords_40 rfl (by decide) rfl ?_
    refine T_iinc (fl := fun v6 => [(6, .int v6), (3, .long r5), (0, .ref x0), (5, .int x5)]) (pc := 41) h dX8_mixedChords_41 3 rfl ki_1 (by decide) (fun _ => rfl) (fun v6 => ?_)
    refine T_goto (pc := 44) (tgt := 20) h dX8_mixedChords_44 (by decide) ?_
    refine T_sub [2, 1, 3, 0] rfl ?_
    exact hr20 (r5, v6, s4)
theorem t_X8_mixedChords_L5 {K : Cx} (h : Ok K cX8_mixedChords RX8 7 rm_X8_mixedChords (some .long)) (hs : kiv K = St) (x0 : Nat)  (hk0 : kd x0 8) (rec5 : Int64 × Int32 × Sg → Option (Int64 × Sg)) (hr5 : ∀ u, T K (QL K) 5 [(0, .ref x0), (3, .long (u.1)), (5, .int (u.2.1))] [] 0 0 (u.2.2) (rec5 u)) (s : Int64 × Int32 × Sg) : T K (QL K) 5 [(0, .ref x0), (3, .long (s.1)), (5, .int (s.2.1))] [] 0 0 (s.2.2) (f_X8_mixedChords_L5 x0 rec5 s) := by
  unfold f_X8_mixedChords_L5
  refine T_iload (pc := 5) h dX8_mixedChords_5 2 rfl ?_
  refine T_aload_n (pc := 7) h dX8_mixedChords_7 rfl 0 rfl ?_
  refine T_gR (pc := 8) h hs hk0 fl_X8_19 rfl fk_8_1 dX8_mixedChords_8 (fun hq1 => ?_)
  refine T_getI (pc := 11) h hs hq1 fl_X8_294 rfl dX8_mixedChords_11 ?_
  refine T_icmp_ge (pc := 14) (tgt := 53) h dX8_mixedChords_14 (by decide) ?_ ?_
  · refine T_lload_n (pc := 53) h dX8_mixedChords_53 rfl 1 rfl ?_
    exact T_lreturn (pc := 54) h (Nat.zero_le _) (Nat.zero_le _) dX8_mixedChords_54
  · refine T_iconst (pc := 17) h dX8_mixedChords_17 ki_0 ?_
    refine T_istore (lv' := [(6, .int (0 : Int32)), (0, .ref x0), (3, .long (s.1)), (5, .int (s.2.1))]) (pc := 18) h dX8_mixedChords_18 (by decide) rfl ?_
    refine T_sub [1, 2, 3, 0] rfl ?_
    exact T_fx (B := f_X8_mixedChords_L20 rec5 x0 (s.2.1)) (fl := fun u => [(0, .ref x0), (3, .long (u.1)), (5, .int (s.2.1)), (6, .int (u.2.1))]) (f := fun u => (u.2.2)) (fun rec20 hr20 u => t_X8_mixedChords_L20 h hs x0 (s.2.1) rec5 hr5 hk0 rec20 hr20 u) FU ((s.1), (0 : Int32), (s.2.2))
theorem t_X8_mixedChords {K : Cx} (h : Ok K cX8_mixedChords RX8 7 rm_X8_mixedChords (some .long)) (hs : kiv K = St) (x0 : Nat) (x1 : Int64) (σ : Sg) (hk0 : kd x0 8) : T K (QL K) 0 [(0, .ref x0), (1, .long x1)] [] 0 0 σ (f_X8_mixedChords x0 x1 σ) := by
  unfold f_X8_mixedChords
  refine T_lload_n (pc := 0) h dX8_mixedChords_0 rfl 1 rfl ?_
  refine T_lstore_n (lv' := [(3, .long x1), (0, .ref x0), (1, .long x1)]) (pc := 1) h dX8_mixedChords_1 rfl (by decide) rfl ?_
  refine T_iconst (pc := 2) h dX8_mixedChords_2 ki_0 ?_
  refine T_istore (lv' := [(5, .int (0 : Int32)), (3, .long x1), (0, .ref x0), (1, .long x1)]) (pc := 3) h dX8_mixedChords_3 (by decide) rfl ?_
  refine T_sub [2, 1, 0] rfl ?_
  exact T_fx (B := f_X8_mixedChords_L5 x0) (fl := fun u => [(0, .ref x0), (3, .long (u.1)), (5, .int (u.2.1))]) (f := fun u => (u.2.2)) (fun rec5 hr5 u => t_X8_mixedChords_L5 h hs x0 hk0 rec5 hr5 u) FU (x1, (0 : Int32), σ)
theorem M_X8_mixedChords (l : Launch) {iv : Sg → Prop} (hi : iv = St) (x0 : Nat) (x1 : Int64) (σ : Sg) (hk0 : kd x0 8) : CTl l yX8_mixedChords cX8_mixedChords 7 (some .long) rm_X8_mixedChords iv [.ref x0, .long x1] σ (f_X8_mixedChords x0 x1 σ) := by
  subst hi
  exact CT_of (by decide) (Nat.le_of_ble_eq_true rfl) (fun K _ h _ hs _ _ => t_X8_mixedChords h hs x0 x1 σ hk0)
/-! LuteTabs.mixedTablature(J)J -/
theorem dX8_mixedTablature_0 : decode cX8_mixedTablature 0 = .ok (.aload_n 0, 1) := by decide +kernel
theorem dX8_mixedTablature_1 : decode cX8_mixedTablature 1 = .ok (.invokevirtual 232, 3) := by decide +kernel
theorem dX8_mixedTablature_4 : decode cX8_mixedTablature 4 = .ok (.ifCond .ne 11, 3) := by decide +kernel
theorem dX8_mixedTablature_7 : decode cX8_mixedTablature 7 = .ok (.lload_n 1, 1) := by decide +kernel
theorem dX8_mixedTablature_8 : decode cX8_mixedTablature 8 = .ok (.ldc2_w 351, 3) := by decide +kernel
theorem dX8_mixedTablature_11 : decode cX8_mixedTablature 11 = .ok (.invokestatic 302, 3) := by decide +kernel
theorem dX8_mixedTablature_14 : decode cX8_mixedTablature 14 = .ok (.lreturn, 1) := by decide +kernel
theorem dX8_mixedTablature_15 : decode cX8_mixedTablature 15 = .ok (.lload_n 1, 1) := by decide +kernel
theorem dX8_mixedTablature_16 : decode cX8_mixedTablature 16 = .ok (.aload_n 0, 1) := by decide +kernel
theorem dX8_mixedTablature_17 : decode cX8_mixedTablature 17 = .ok (.getfield 59, 3) := by decide +kernel
theorem dX8_mixedTablature_20 : decode cX8_mixedTablature 20 = .ok (.getfield 236, 3) := by decide +kernel
theorem dX8_mixedTablature_23 : decode cX8_mixedTablature 23 = .ok (.i2l, 1) := by decide +kernel
theorem dX8_mixedTablature_24 : decode cX8_mixedTablature 24 = .ok (.invokestatic 302, 3) := by decide +kernel
theorem dX8_mixedTablature_27 : decode cX8_mixedTablature 27 = .ok (.lstore_n 3, 1) := by decide +kernel
theorem dX8_mixedTablature_28 : decode cX8_mixedTablature 28 = .ok (.iconst 0, 1) := by decide +kernel
theorem dX8_mixedTablature_29 : decode cX8_mixedTablature 29 = .ok (.istore 5, 2) := by decide +kernel
theorem dX8_mixedTablature_31 : decode cX8_mixedTablature 31 = .ok (.iload 5, 2) := by decide +kernel
theorem dX8_mixedTablature_33 : decode cX8_mixedTablature 33 = .ok (.aload_n 0, 1) := by decide +kernel
theorem dX8_mixedTablature_34 : decode cX8_mixedTablature 34 = .ok (.getfield 59, 3) := by decide +kernel
theorem dX8_mixedTablature_37 : decode cX8_mixedTablature 37 = .ok (.getfield 236, 3) := by decide +kernel
theorem dX8_mixedTablature_40 : decode cX8_mixedTablature 40 = .ok (.if_icmp .ge 25, 3) := by decide +kernel
theorem dX8_mixedTablature_43 : decode cX8_mixedTablature 43 = .ok (.lload_n 3, 1) := by decide +kernel
theorem dX8_mixedTablature_44 : decode cX8_mixedTablature 44 = .ok (.aload_n 0, 1) := by decide +kernel
theorem dX8_mixedTablature_45 : decode cX8_mixedTablature 45 = .ok (.getfield 59, 3) := by decide +kernel
theorem dX8_mixedTablature_48 : decode cX8_mixedTablature 48 = .ok (.getfield 237, 3) := by decide +kernel
theorem dX8_mixedTablature_51 : decode cX8_mixedTablature 51 = .ok (.iload 5, 2) := by decide +kernel
theorem dX8_mixedTablature_53 : decode cX8_mixedTablature 53 = .ok (.iaload, 1) := by decide +kernel
theorem dX8_mixedTablature_54 : decode cX8_mixedTablature 54 = .ok (.i2l, 1) := by decide +kernel
theorem dX8_mixedTablature_55 : decode cX8_mixedTablature 55 = .ok (.invokestatic 302, 3) := by decide +kernel
theorem dX8_mixedTablature_58 : decode cX8_mixedTablature 58 = .ok (.lstore_n 3, 1) := by decide +kernel
theorem dX8_mixedTablature_59 : decode cX8_mixedTablature 59 = .ok (.iinc 5 1, 3) := by decide +kernel
theorem dX8_mixedTablature_62 : decode cX8_mixedTablature 62 = .ok (.goto (-31), 3) := by decide +kernel
theorem dX8_mixedTablature_65 : decode cX8_mixedTablature 65 = .ok (.lload_n 3, 1) := by decide +kernel
theorem dX8_mixedTablature_66 : decode cX8_mixedTablature 66 = .ok (.lreturn, 1) := by decide +kernel
abbrev rm_X8_mixedTablature : Room := { frames := 5, cells := 0, slots := 0, locals := 115 }
def f_X8_mixedTablature_L31  (x0 : Nat) (rec31 : Int64 × Int32 × Sg → Option (Int64 × Sg)) (s : Int64 × Int32 × Sg) : Option (Int64 × Sg) := (if (gI (s.2.2) (gR (s.2.2) x0 6) 1) ≤ (s.2.1) then some ((s.1), (s.2.2)) else ck (inb (s.2.1) (aL (gR (s.2.2) (gR (s.2.2) x0 6) 0))) (bd (f_X8_mixed (s.1) ((gI (s.2.2) (gR (s.2.2) (gR (s.2.2) x0 6) 0) (s.2.1).toNatClampNeg).toInt64) (s.2.2)) fun r5 s4 => lB ((s.2.1) + (1 : Int32)) fun v6 => rec31 (r5, v6, s4)))
def f_X8_mixedTablature (x0 : Nat) (x1 : Int64) (σ : Sg) : Option (Int64 × Sg) := bd (f_X8_makeTablature x0 σ) fun r2 s1 => (if r2 = 0 then bd (f_X8_mixed x1 (-3 : Int64) s1) fun r7 s6 => some (r7, s6) else bd (f_X8_mixed x1 ((gI s1 (gR s1 x0 6) 1).toInt64) s1) fun r5 s4 => fx (f_X8_mixedTablature_L31 x0) FU (r5, (0 : Int32), s4))
theorem t_X8_mixedTablature_L31 {K : Cx} (h : Ok K cX8_mixedTablature RX8 6 rm_X8_mixedTablature (some .long)) (hs : kiv K = St) (x0 : Nat)  (hk0 : kd x0 8) (rec31 : Int64 × Int32 × Sg → Option (Int64 × Sg)) (hr31 : ∀ u, T K (QL K) 31 [(0, .ref x0), (3, .long (u.1)), (5, .int (u.2.1))] [] 0 0 (u.2.2) (rec31 u)) (s : Int64 × Int32 × Sg) : T K (QL K) 31 [(0, .ref x0), (3, .long (s.1)), (5, .int (s.2.1))] [] 0 0 (s.2.2) (f_X8_mixedTablature_L31 x0 rec31 s) := by
  unfold f_X8_mixedTablature_L31
  refine T_iload (pc := 31) h dX8_mixedTablature_31 2 rfl ?_
  refine T_aload_n (pc := 33) h dX8_mixedTablature_33 rfl 0 rfl ?_
  refine T_gR (pc := 34) h hs hk0 fl_X8_59 rfl fk_8_6 dX8_mixedTablature_34 (fun hq1 => ?_)
  refine T_getI (pc := 37) h hs hq1 fl_X8_236 rfl dX8_mixedTablature_37 ?_
  refine T_icmp_ge (pc := 40) (tgt := 65) h dX8_mixedTablature_40 (by decide) ?_ ?_
  · refine T_lload_n (pc := 65) h dX8_mixedTablature_65 rfl 1 rfl ?_
    exact T_lreturn (pc := 66) h (Nat.zero_le _) (Nat.zero_le _) dX8_mixedTablature_66
  · refine T_lload_n (pc := 43) h dX8_mixedTablature_43 rfl 1 rfl ?_
    refine T_aload_n (pc := 44) h dX8_mixedTablature_44 rfl 0 rfl ?_
    refine T_gR (pc := 45) h hs hk0 fl_X8_59 rfl fk_8_6 dX8_mixedTablature_45 (fun hq2 => ?_)
    refine T_gR (pc := 48) h hs hq2 fl_X8_237 rfl fk_4_0 dX8_mixedTablature_48 (fun hq3 => ?_)
    refine T_iload (pc := 51) h dX8_mixedTablature_51 2 rfl ?_
    refine T_iald (pc := 53) h hs hq3 dX8_mixedTablature_53 ?_
    refine T_i2l (pc := 54) h dX8_mixedTablature_54 ?_
    refine T_callSl (pc := 55) h (M_X8_mixed (kl K) hs (s.1) ((gI (s.2.2) (gR (s.2.2) (gR (s.2.2) x0 6) 0) (s.2.1).toNatClampNeg).toInt64) (s.2.2) ) mst_X8_mixed ml_X8_302 rfl ⟨Nat.le_of_ble_eq_true rfl, Nat.le_of_ble_eq_true rfl⟩ ⟨Nat.le_refl 0, Nat.le_refl 0⟩ (Nat.le_of_ble_eq_true rfl) dX8_mixedTablature_55 rfl (fun r5 s4 => ?_)
    refine T_lstore_n (lv' := [(3, .long r5), (0, .ref x0), (5, .int (s.2.1))]) (pc := 58) h dX8_mixedTablature_58 rfl (by decide) rfl ?_
    refine T_iinc (fl := fun v6 => [(5, .int v6), (3, .long r5), (0, .ref x0)]) (pc := 59) h dX8_mixedTablature_59 2 rfl ki_1 (by decide) (fun _ => rfl) (fun v6 => ?_)
    refine T_goto (pc := 62) (tgt := 31) h dX8_mixedTablature_62 (by decide) ?_
    refine T_sub [2, 1, 0] rfl ?_
    exact hr31 (r5, v6, s4)
theorem t_X8_mixedTablature {K : Cx} (h : Ok K cX8_mixedTablature RX8 6 rm_X8_mixedTablature (some .long)) (hs : kiv K = St) (x0 : Nat) (x1 : Int64) (σ : Sg) (hk0 : kd x0 8) : T K (QL K) 0 [(0, .ref x0), (1, .long x1)] [] 0 0 σ (f_X8_mixedTablature x0 x1 σ) := by
  unfold f_X8_mixedTablature
  refine T_aload_n (pc := 0) h dX8_mixedTablature_0 rfl 0 rfl ?_
  refine T_callVi (pc := 1) h (M_X8_makeTablature (kl K) hs x0 σ hk0) mv_X8_makeTablature hs hk0 ml_X8_232 rfl ⟨Nat.le_of_ble_eq_true rfl, Nat.le_of_ble_eq_true rfl⟩ ⟨Nat.le_refl 0, Nat.le_refl 0⟩ (Nat.le_of_ble_eq_true rfl) dX8_mixedTablature_1 rfl (fun r2 s1 => ?_)
  refine T_if_ne (pc := 4) (tgt := 15) h dX8_mixedTablature_4 (by decide) ?_ ?_
  · refine T_lload_n (pc := 15) h dX8_mixedTablature_15 rfl 1 rfl ?_
    refine T_aload_n (pc := 16) h dX8_mixedTablature_16 rfl 0 rfl ?_
    refine T_gR (pc := 17) h hs hk0 fl_X8_59 rfl fk_8_6 dX8_mixedTablature_17 (fun hq3 => ?_)
    refine T_getI (pc := 20) h hs hq3 fl_X8_236 rfl dX8_mixedTablature_20 ?_
    refine T_i2l (pc := 23) h dX8_mixedTablature_23 ?_
    refine T_callSl (pc := 24) h (M_X8_mixed (kl K) hs x1 ((gI s1 (gR s1 x0 6) 1).toInt64) s1 ) mst_X8_mixed ml_X8_302 rfl ⟨Nat.le_of_ble_eq_true rfl, Nat.le_of_ble_eq_true rfl⟩ ⟨Nat.le_refl 0, Nat.le_refl 0⟩ (Nat.le_of_ble_eq_true rfl) dX8_mixedTablature_24 rfl (fun r5 s4 => ?_)
    refine T_lstore_n (lv' := [(3, .long r5), (0, .ref x0), (1, .long x1)]) (pc := 27) h dX8_mixedTablature_27 rfl (by decide) rfl ?_
    refine T_iconst (pc := 28) h dX8_mixedTablature_28 ki_0 ?_
    refine T_istore (lv' := [(5, .int (0 : Int32)), (3, .long r5), (0, .ref x0), (1, .long x1)]) (pc := 29) h dX8_mixedTablature_29 (by decide) rfl ?_
    refine T_sub [2, 1, 0] rfl ?_
    exact T_fx (B := f_X8_mixedTablature_L31 x0) (fl := fun u => [(0, .ref x0), (3, .long (u.1)), (5, .int (u.2.1))]) (f := fun u => (u.2.2)) (fun rec31 hr31 u => t_X8_mixedTablature_L31 h hs x0 hk0 rec31 hr31 u) FU (r5, (0 : Int32), s4)
  · refine T_lload_n (pc := 7) h dX8_mixedTablature_7 rfl 1 rfl ?_
    refine T_ldc2 (pc := 8) h kc_X8_351 dX8_mixedTablature_8 ?_
    refine T_callSl (pc := 11) h (M_X8_mixed (kl K) hs x1 (-3 : Int64) s1 ) mst_X8_mixed ml_X8_302 rfl ⟨Nat.le_of_ble_eq_true rfl, Nat.le_of_ble_eq_true rfl⟩ ⟨Nat.le_refl 0, Nat.le_refl 0⟩ (Nat.le_of_ble_eq_true rfl) dX8_mixedTablature_11 rfl (fun r7 s6 => ?_)
    exact T_lreturn (pc := 14) h (Nat.zero_le _) (Nat.zero_le _) dX8_mixedTablature_14
theorem M_X8_mixedTablature (l : Launch) {iv : Sg → Prop} (hi : iv = St) (x0 : Nat) (x1 : Int64) (σ : Sg) (hk0 : kd x0 8) : CTl l yX8_mixedTablature cX8_mixedTablature 6 (some .long) rm_X8_mixedTablature iv [.ref x0, .long x1] σ (f_X8_mixedTablature x0 x1 σ) := by
  subst hi
  exact CT_of (by decide) (Nat.le_of_ble_eq_true rfl) (fun K _ h _ hs _ _ => t_X8_mixedTablature h hs x0 x1 σ hk0)
/-! LuteTabs.digest()J -/
theorem dX8_digest_0 : decode cX8_digest 0 = .ok (.ldc2_w 297, 3) := by decide +kernel
theorem dX8_digest_3 : decode cX8_digest 3 = .ok (.lstore_n 1, 1) := by decide +kernel
theorem dX8_digest_4 : decode cX8_digest 4 = .ok (.iconst 0, 1) := by decide +kernel
theorem dX8_digest_5 : decode cX8_digest 5 = .ok (.istore_n 3, 1) := by decide +kernel
theorem dX8_digest_6 : decode cX8_digest 6 = .ok (.iload_n 3, 1) := by decide +kernel
theorem dX8_digest_7 : decode cX8_digest 7 = .ok (.bipush 7, 2) := by decide +kernel
theorem dX8_digest_9 : decode cX8_digest 9 = .ok (.if_icmp .gt 20, 3) := by decide +kernel
theorem dX8_digest_12 : decode cX8_digest 12 = .ok (.lload_n 1, 1) := by decide +kernel
theorem dX8_digest_13 : decode cX8_digest 13 = .ok (.aload_n 0, 1) := by decide +kernel
theorem dX8_digest_14 : decode cX8_digest 14 = .ok (.iload_n 3, 1) := by decide +kernel
theorem dX8_digest_15 : decode cX8_digest 15 = .ok (.invokevirtual 299, 3) := by decide +kernel
theorem dX8_digest_18 : decode cX8_digest 18 = .ok (.i2l, 1) := by decide +kernel
theorem dX8_digest_19 : decode cX8_digest 19 = .ok (.invokestatic 302, 3) := by decide +kernel
theorem dX8_digest_22 : decode cX8_digest 22 = .ok (.lstore_n 1, 1) := by decide +kernel
theorem dX8_digest_23 : decode cX8_digest 23 = .ok (.iinc 3 1, 3) := by decide +kernel
theorem dX8_digest_26 : decode cX8_digest 26 = .ok (.goto (-20), 3) := by decide +kernel
theorem dX8_digest_29 : decode cX8_digest 29 = .ok (.lload_n 1, 1) := by decide +kernel
theorem dX8_digest_30 : decode cX8_digest 30 = .ok (.aload_n 0, 1) := by decide +kernel
theorem dX8_digest_31 : decode cX8_digest 31 = .ok (.invokevirtual 306, 3) := by decide +kernel
theorem dX8_digest_34 : decode cX8_digest 34 = .ok (.i2l, 1) := by decide +kernel
theorem dX8_digest_35 : decode cX8_digest 35 = .ok (.invokestatic 302, 3) := by decide +kernel
theorem dX8_digest_38 : decode cX8_digest 38 = .ok (.lstore_n 1, 1) := by decide +kernel
theorem dX8_digest_39 : decode cX8_digest 39 = .ok (.lload_n 1, 1) := by decide +kernel
theorem dX8_digest_40 : decode cX8_digest 40 = .ok (.aload_n 0, 1) := by decide +kernel
theorem dX8_digest_41 : decode cX8_digest 41 = .ok (.invokevirtual 309, 3) := by decide +kernel
theorem dX8_digest_44 : decode cX8_digest 44 = .ok (.i2l, 1) := by decide +kernel
theorem dX8_digest_45 : decode cX8_digest 45 = .ok (.invokestatic 302, 3) := by decide +kernel
theorem dX8_digest_48 : decode cX8_digest 48 = .ok (.lstore_n 1, 1) := by decide +kernel
theorem dX8_digest_49 : decode cX8_digest 49 = .ok (.lload_n 1, 1) := by decide +kernel
theorem dX8_digest_50 : decode cX8_digest 50 = .ok (.aload_n 0, 1) := by decide +kernel
theorem dX8_digest_51 : decode cX8_digest 51 = .ok (.invokevirtual 312, 3) := by decide +kernel
theorem dX8_digest_54 : decode cX8_digest 54 = .ok (.i2l, 1) := by decide +kernel
theorem dX8_digest_55 : decode cX8_digest 55 = .ok (.invokestatic 302, 3) := by decide +kernel
theorem dX8_digest_58 : decode cX8_digest 58 = .ok (.lstore_n 1, 1) := by decide +kernel
theorem dX8_digest_59 : decode cX8_digest 59 = .ok (.iconst 0, 1) := by decide +kernel
theorem dX8_digest_60 : decode cX8_digest 60 = .ok (.istore_n 3, 1) := by decide +kernel
theorem dX8_digest_61 : decode cX8_digest 61 = .ok (.iload_n 3, 1) := by decide +kernel
theorem dX8_digest_62 : decode cX8_digest 62 = .ok (.aload_n 0, 1) := by decide +kernel
theorem dX8_digest_63 : decode cX8_digest 63 = .ok (.getfield 10, 3) := by decide +kernel
theorem dX8_digest_66 : decode cX8_digest 66 = .ok (.getfield 90, 3) := by decide +kernel
theorem dX8_digest_69 : decode cX8_digest 69 = .ok (.if_icmp .ge 48, 3) := by decide +kernel
theorem dX8_digest_72 : decode cX8_digest 72 = .ok (.iconst 0, 1) := by decide +kernel
theorem dX8_digest_73 : decode cX8_digest 73 = .ok (.istore 4, 2) := by decide +kernel
theorem dX8_digest_75 : decode cX8_digest 75 = .ok (.iload 4, 2) := by decide +kernel
theorem dX8_digest_77 : decode cX8_digest 77 = .ok (.iconst 2, 1) := by decide +kernel
theorem dX8_digest_78 : decode cX8_digest 78 = .ok (.if_icmp .gt 22, 3) := by decide +kernel
theorem dX8_digest_81 : decode cX8_digest 81 = .ok (.lload_n 1, 1) := by decide +kernel
theorem dX8_digest_82 : decode cX8_digest 82 = .ok (.aload_n 0, 1) := by decide +kernel
theorem dX8_digest_83 : decode cX8_digest 83 = .ok (.iload_n 3, 1) := by decide +kernel
theorem dX8_digest_84 : decode cX8_digest 84 = .ok (.iload 4, 2) := by decide +kernel
theorem dX8_digest_86 : decode cX8_digest 86 = .ok (.invokevirtual 315, 3) := by decide +kernel
theorem dX8_digest_89 : decode cX8_digest 89 = .ok (.i2l, 1) := by decide +kernel
theorem dX8_digest_90 : decode cX8_digest 90 = .ok (.invokestatic 302, 3) := by decide +kernel
theorem dX8_digest_93 : decode cX8_digest 93 = .ok (.lstore_n 1, 1) := by decide +kernel
theorem dX8_digest_94 : decode cX8_digest 94 = .ok (.iinc 4 1, 3) := by decide +kernel
theorem dX8_digest_97 : decode cX8_digest 97 = .ok (.goto (-22), 3) := by decide +kernel
theorem dX8_digest_100 : decode cX8_digest 100 = .ok (.lload_n 1, 1) := by decide +kernel
theorem dX8_digest_101 : decode cX8_digest 101 = .ok (.aload_n 0, 1) := by decide +kernel
theorem dX8_digest_102 : decode cX8_digest 102 = .ok (.iload_n 3, 1) := by decide +kernel
theorem dX8_digest_103 : decode cX8_digest 103 = .ok (.invokevirtual 318, 3) := by decide +kernel
theorem dX8_digest_106 : decode cX8_digest 106 = .ok (.i2l, 1) := by decide +kernel
theorem dX8_digest_107 : decode cX8_digest 107 = .ok (.invokestatic 302, 3) := by decide +kernel
theorem dX8_digest_110 : decode cX8_digest 110 = .ok (.lstore_n 1, 1) := by decide +kernel
theorem dX8_digest_111 : decode cX8_digest 111 = .ok (.iinc 3 1, 3) := by decide +kernel
theorem dX8_digest_114 : decode cX8_digest 114 = .ok (.goto (-53), 3) := by decide +kernel
theorem dX8_digest_117 : decode cX8_digest 117 = .ok (.aload_n 0, 1) := by decide +kernel
theorem dX8_digest_118 : decode cX8_digest 118 = .ok (.lload_n 1, 1) := by decide +kernel
theorem dX8_digest_119 : decode cX8_digest 119 = .ok (.invokevirtual 321, 3) := by decide +kernel
theorem dX8_digest_122 : decode cX8_digest 122 = .ok (.lstore_n 1, 1) := by decide +kernel
theorem dX8_digest_123 : decode cX8_digest 123 = .ok (.aload_n 0, 1) := by decide +kernel
theorem dX8_digest_124 : decode cX8_digest 124 = .ok (.lload_n 1, 1) := by decide +kernel
theorem dX8_digest_125 : decode cX8_digest 125 = .ok (.invokevirtual 325, 3) := by decide +kernel
theorem dX8_digest_128 : decode cX8_digest 128 = .ok (.lstore_n 1, 1) := by decide +kernel
theorem dX8_digest_129 : decode cX8_digest 129 = .ok (.bipush (-2), 2) := by decide +kernel
theorem dX8_digest_131 : decode cX8_digest 131 = .ok (.istore_n 3, 1) := by decide +kernel
theorem dX8_digest_132 : decode cX8_digest 132 = .ok (.iload_n 3, 1) := by decide +kernel
theorem dX8_digest_133 : decode cX8_digest 133 = .ok (.iconst 2, 1) := by decide +kernel
theorem dX8_digest_134 : decode cX8_digest 134 = .ok (.if_icmp .gt 20, 3) := by decide +kernel
theorem dX8_digest_137 : decode cX8_digest 137 = .ok (.lload_n 1, 1) := by decide +kernel
theorem dX8_digest_138 : decode cX8_digest 138 = .ok (.aload_n 0, 1) := by decide +kernel
theorem dX8_digest_139 : decode cX8_digest 139 = .ok (.iload_n 3, 1) := by decide +kernel
theorem dX8_digest_140 : decode cX8_digest 140 = .ok (.invokevirtual 328, 3) := by decide +kernel
theorem dX8_digest_143 : decode cX8_digest 143 = .ok (.i2l, 1) := by decide +kernel
theorem dX8_digest_144 : decode cX8_digest 144 = .ok (.invokestatic 302, 3) := by decide +kernel
theorem dX8_digest_147 : decode cX8_digest 147 = .ok (.lstore_n 1, 1) := by decide +kernel
theorem dX8_digest_148 : decode cX8_digest 148 = .ok (.iinc 3 1, 3) := by decide +kernel
theorem dX8_digest_151 : decode cX8_digest 151 = .ok (.goto (-19), 3) := by decide +kernel
theorem dX8_digest_154 : decode cX8_digest 154 = .ok (.lload_n 1, 1) := by decide +kernel
theorem dX8_digest_155 : decode cX8_digest 155 = .ok (.aload_n 0, 1) := by decide +kernel
theorem dX8_digest_156 : decode cX8_digest 156 = .ok (.iconst 0, 1) := by decide +kernel
theorem dX8_digest_157 : decode cX8_digest 157 = .ok (.invokevirtual 331, 3) := by decide +kernel
theorem dX8_digest_160 : decode cX8_digest 160 = .ok (.i2l, 1) := by decide +kernel
theorem dX8_digest_161 : decode cX8_digest 161 = .ok (.invokestatic 302, 3) := by decide +kernel
theorem dX8_digest_164 : decode cX8_digest 164 = .ok (.lstore_n 1, 1) := by decide +kernel
theorem dX8_digest_165 : decode cX8_digest 165 = .ok (.lload_n 1, 1) := by decide +kernel
theorem dX8_digest_166 : decode cX8_digest 166 = .ok (.aload_n 0, 1) := by decide +kernel
theorem dX8_digest_167 : decode cX8_digest 167 = .ok (.iconst 1, 1) := by decide +kernel
theorem dX8_digest_168 : decode cX8_digest 168 = .ok (.invokevirtual 331, 3) := by decide +kernel
theorem dX8_digest_171 : decode cX8_digest 171 = .ok (.i2l, 1) := by decide +kernel
theorem dX8_digest_172 : decode cX8_digest 172 = .ok (.invokestatic 302, 3) := by decide +kernel
theorem dX8_digest_175 : decode cX8_digest 175 = .ok (.lstore_n 1, 1) := by decide +kernel
theorem dX8_digest_176 : decode cX8_digest 176 = .ok (.lload_n 1, 1) := by decide +kernel
theorem dX8_digest_177 : decode cX8_digest 177 = .ok (.aload_n 0, 1) := by decide +kernel
theorem dX8_digest_178 : decode cX8_digest 178 = .ok (.invokevirtual 334, 3) := by decide +kernel
theorem dX8_digest_181 : decode cX8_digest 181 = .ok (.i2l, 1) := by decide +kernel
theorem dX8_digest_182 : decode cX8_digest 182 = .ok (.invokestatic 302, 3) := by decide +kernel
theorem dX8_digest_185 : decode cX8_digest 185 = .ok (.lstore_n 1, 1) := by decide +kernel
theorem dX8_digest_186 : decode cX8_digest 186 = .ok (.aload_n 0, 1) := by decide +kernel
theorem dX8_digest_187 : decode cX8_digest 187 = .ok (.lload_n 1, 1) := by decide +kernel
theorem dX8_digest_188 : decode cX8_digest 188 = .ok (.invokevirtual 337, 3) := by decide +kernel
theorem dX8_digest_191 : decode cX8_digest 191 = .ok (.lstore_n 1, 1) := by decide +kernel
theorem dX8_digest_192 : decode cX8_digest 192 = .ok (.iconst 0, 1) := by decide +kernel
theorem dX8_digest_193 : decode cX8_digest 193 = .ok (.istore_n 3, 1) := by decide +kernel
theorem dX8_digest_194 : decode cX8_digest 194 = .ok (.iload_n 3, 1) := by decide +kernel
theorem dX8_digest_195 : decode cX8_digest 195 = .ok (.iconst 4, 1) := by decide +kernel
theorem dX8_digest_196 : decode cX8_digest 196 = .ok (.if_icmp .ge 29, 3) := by decide +kernel
theorem dX8_digest_199 : decode cX8_digest 199 = .ok (.aload_n 0, 1) := by decide +kernel
theorem dX8_digest_200 : decode cX8_digest 200 = .ok (.getfield 73, 3) := by decide +kernel
theorem dX8_digest_203 : decode cX8_digest 203 = .ok (.iload_n 3, 1) := by decide +kernel
theorem dX8_digest_204 : decode cX8_digest 204 = .ok (.baload, 1) := by decide +kernel
theorem dX8_digest_205 : decode cX8_digest 205 = .ok (.ifCond .eq 14, 3) := by decide +kernel
theorem dX8_digest_208 : decode cX8_digest 208 = .ok (.lload_n 1, 1) := by decide +kernel
theorem dX8_digest_209 : decode cX8_digest 209 = .ok (.aload_n 0, 1) := by decide +kernel
theorem dX8_digest_210 : decode cX8_digest 210 = .ok (.iload_n 3, 1) := by decide +kernel
theorem dX8_digest_211 : decode cX8_digest 211 = .ok (.invokevirtual 340, 3) := by decide +kernel
theorem dX8_digest_214 : decode cX8_digest 214 = .ok (.i2l, 1) := by decide +kernel
theorem dX8_digest_215 : decode cX8_digest 215 = .ok (.invokestatic 302, 3) := by decide +kernel
theorem dX8_digest_218 : decode cX8_digest 218 = .ok (.lstore_n 1, 1) := by decide +kernel
theorem dX8_digest_219 : decode cX8_digest 219 = .ok (.iinc 3 1, 3) := by decide +kernel
theorem dX8_digest_222 : decode cX8_digest 222 = .ok (.goto (-28), 3) := by decide +kernel
theorem dX8_digest_225 : decode cX8_digest 225 = .ok (.lload_n 1, 1) := by decide +kernel
theorem dX8_digest_226 : decode cX8_digest 226 = .ok (.lreturn, 1) := by decide +kernel
abbrev rm_X8_digest : Room := { frames := 7, cells := 0, slots := 0, locals := 180 }
def f_X8_digest_L75 (rec61 : Int64 × Int32 × Sg → Option (Int64 × Sg)) (x0 : Nat) (x3 : Int32) (rec75 : Int64 × Int32 × Sg → Option (Int64 × Sg)) (s : Int64 × Int32 × Sg) : Option (Int64 × Sg) := (if (2 : Int32) < (s.2.1) then bd (f_X8_without x0 x3 (s.2.2)) fun r2 s1 => bd (f_X8_mixed (s.1) (r2.toInt64) s1) fun r4 s3 => lB (x3 + (1 : Int32)) fun v5 => rec61 (r4, v5, s3) else bd (f_X8_course x0 x3 (s.2.1) (s.2.2)) fun r7 s6 => bd (f_X8_mixed (s.1) (r7.toInt64) s6) fun r9 s8 => lB ((s.2.1) + (1 : Int32)) fun v10 => rec75 (r9, v10, s8))
def f_X8_digest_L219 (rec194 : Int64 × Int32 × Sg → Option (Int64 × Sg)) (x0 : Nat) (x1 : Int64) (x3 : Int32)  (σ : Sg) : Option (Int64 × Sg) := lB (x3 + (1 : Int32)) fun v1 => rec194 (x1, v1, σ)
def f_X8_digest_L194  (x0 : Nat) (rec194 : Int64 × Int32 × Sg → Option (Int64 × Sg)) (s : Int64 × Int32 × Sg) : Option (Int64 × Sg) := (if (4 : Int32) ≤ (s.2.1) then some ((s.1), (s.2.2)) else ck (inb (s.2.1) (aL (gR (s.2.2) x0 9))) ((if (gI (s.2.2) (gR (s.2.2) x0 9) (s.2.1).toNatClampNeg) = 0 then f_X8_digest_L219 rec194 x0 (s.1) (s.2.1) (s.2.2) else bd (f_X8_differ x0 (s.2.1) (s.2.2)) fun r3 s2 => bd (f_X8_mixed (s.1) (r3.toInt64) s2) fun r5 s4 => f_X8_digest_L219 rec194 x0 r5 (s.2.1) s4)))
def f_X8_digest_L132  (x0 : Nat) (rec132 : Int64 × Int32 × Sg → Option (Int64 × Sg)) (s : Int64 × Int32 × Sg) : Option (Int64 × Sg) := (if (2 : Int32) < (s.2.1) then bd (f_X8_easiest x0 (0 : Int32) (s.2.2)) fun r2 s1 => bd (f_X8_mixed (s.1) (r2.toInt64) s1) fun r4 s3 => bd (f_X8_easiest x0 (1 : Int32) s3) fun r6 s5 => bd (f_X8_mixed r4 (r6.toInt64) s5) fun r8 s7 => bd (f_X8_flaw x0 s7) fun r10 s9 => bd (f_X8_mixed r8 (r10.toInt64) s9) fun r12 s11 => bd (f_X8_mixedTablature x0 r12 s11) fun r14 s13 => fx (f_X8_digest_L194 x0) FU (r14, (0 : Int32), s13) else bd (f_X8_key x0 (s.2.1) (s.2.2)) fun r16 s15 => bd (f_X8_mixed (s.1) (r16.toInt64) s15) fun r18 s17 => lB ((s.2.1) + (1 : Int32)) fun v19 => rec132 (r18, v19, s17))
def f_X8_digest_L61  (x0 : Nat) (rec61 : Int64 × Int32 × Sg → Option (Int64 × Sg)) (s : Int64 × Int32 × Sg) : Option (Int64 × Sg) := (if (gI (s.2.2) (gR (s.2.2) x0 0) 0) ≤ (s.2.1) then bd (f_X8_mixedNotes x0 (s.1) (s.2.2)) fun r3 s2 => bd (f_X8_mixedChords x0 r3 s2) fun r5 s4 => fx (f_X8_digest_L132 x0) FU (r5, (-2 : Int32), s4) else fx (f_X8_digest_L75 rec61 x0 (s.2.1)) FU ((s.1), (0 : Int32), (s.2.2)))
def f_X8_digest_L6  (x0 : Nat) (rec6 : Int64 × Int32 × Sg → Option (Int64 × Sg)) (s : Int64 × Int32 × Sg) : Option (Int64 × Sg) := (if (7 : Int32) < (s.2.1) then bd (f_X8_least x0 (s.2.2)) fun r2 s1 => bd (f_X8_mixed (s.1) (r2.toInt64) s1) fun r4 s3 => bd (f_X8_fault x0 s3) fun r6 s5 => bd (f_X8_mixed r4 (r6.toInt64) s5) fun r8 s7 => bd (f_X8_cost x0 s7) fun r10 s9 => bd (f_X8_mixed r8 (r10.toInt64) s9) fun r12 s11 => fx (f_X8_digest_L61 x0) FU (r12, (0 : Int32), s11) else bd (f_X8_count x0 (s.2.1) (s.2.2)) fun r14 s13 => bd (f_X8_mixed (s.1) (r14.toInt64) s13) fun r16 s15 => lB ((s.2.1) + (1 : Int32)) fun v17 => rec6 (r16, v17, s15))
def f_X8_digest (x0 : Nat) (σ : Sg) : Option (Int64 × Sg) := fx (f_X8_digest_L6 x0) FU ((17 : Int64), (0 : Int32), σ)
theorem t_X8_digest_L75 {K : Cx} (h : Ok K cX8_digest RX8 5 rm_X8_digest (some .long)) (hs : kiv K = St) (x0 : Nat) (x3 : Int32) (rec61 : Int64 × Int32 × Sg → Option (Int64 × Sg)) (hr61 : ∀ u, T K (QL K) 61 [(0, .ref x0), (1, .long (u.1)), (3, .int (u.2.1))] [] 0 0 (u.2.2) (rec61 u)) (hk0 : kd x0 8) (rec75 : Int64 × Int32 × Sg → Option (Int64 × Sg)) (hr75 : ∀ u, T K (QL K) 75 [(0, .ref x0), (1, .long (u.1)), (3, .int x3), (4, .int (u.2.1))] [] 0 0 (u.2.2) (rec75 u)) (s : Int64 × Int32 × Sg) : T K (QL K) 75 [(0, .ref x0), (1, .long (s.1)), (3, .int x3), (4, .int (s.2.1))] [] 0 0 (s.2.2) (f_X8_digest_L75 rec61 x0 x3 rec75 s) := by
  unfold f_X8_digest_L75
  refine T_iload (pc := 75) h dX8_digest_75 3 rfl ?_
  refine T_iconst (pc := 77) h dX8_digest_77 ki_2 ?_
  refine T_icmp_gt (pc := 78) (tgt := 100) h dX8_digest_78 (by decide) ?_ ?_
  · refine T_lload_n (pc := 100) h dX8_digest_100 rfl 1 rfl ?_
    refine T_aload_n (pc := 101) h dX8_digest_101 rfl 0 rfl ?_
    refine T_iload_n (pc := 102) h dX8_digest_102 rfl 2 rfl ?_
    refine T_callVi (pc := 103) h (M_X8_without (kl K) hs x0 x3 (s.2.2) hk0) mv_X8_without hs hk0 ml_X8_318 rfl ⟨Nat.le_of_ble_eq_true rfl, Nat.le_of_ble_eq_true rfl⟩ ⟨Nat.le_refl 0, Nat.le_refl 0⟩ (Nat.le_of_ble_eq_true rfl) dX8_digest_103 rfl (fun r2 s1 => ?_)
    refine T_i2l (pc := 106) h dX8_digest_106 ?_
    refine T_callSl (pc := 107) h (M_X8_mixed (kl K) hs (s.1) (r2.toInt64) s1 ) mst_X8_mixed ml_X8_302 rfl ⟨Nat.le_of_ble_eq_true rfl, Nat.le_of_ble_eq_true rfl⟩ ⟨Nat.le_refl 0, Nat.le_refl 0⟩ (Nat.le_of_ble_eq_true rfl) dX8_digest_107 rfl (fun r4 s3 => ?_)
    refine T_lstore_n (lv' := [(1, .long r4), (0, .ref x0), (3, .int x3), (4, .int (s.2.1))]) (pc := 110) h dX8_digest_110 rfl (by decide) rfl ?_
    refine T_iinc (fl := fun v5 => [(3, .int v5), (1, .long r4), (0, .ref x0), (4, .int (s.2.1))]) (pc := 111) h dX8_digest_111 2 rfl ki_1 (by decide) (fun _ => rfl) (fun v5 => ?_)
    refine T_goto (pc := 114) (tgt := 61) h dX8_digest_114 (by decide) ?_
    refine T_sub [2, 1, 0] rfl ?_
    exact hr61 (r4, v5, s3)
  · refine T_lload_n (pc := 81) h dX8_digest_81 rfl 1 rfl ?_
    refine T_aload_n (pc := 82) h dX8_digest_82 rfl 0 rfl ?_
    refine T_iload_n (pc := 83) h dX8_digest_83 rfl 2 rfl ?_
    refine T_iload (pc := 84) h dX8_digest_84 3 rfl ?_
    refine T_callVi (pc := 86) h (M_X8_course (kl K) hs x0 x3 (s.2.1) (s.2.2) hk0) mv_X8_course hs hk0 ml_X8_315 rfl ⟨Nat.le_of_ble_eq_true rfl, Nat.le_of_ble_eq_true rfl⟩ ⟨Nat.le_refl 0, Nat.le_refl 0⟩ (Nat.le_of_ble_eq_true rfl) dX8_digest_86 rfl (fun r7 s6 => ?_)
    refine T_i2l (pc := 89) h dX8_digest_89 ?_
    refine T_callSl (pc := 90) h (M_X8_mixed (kl K) hs (s.1) (r7.toInt64) s6 ) mst_X8_mixed ml_X8_302 rfl ⟨Nat.le_of_ble_eq_true rfl, Nat.le_of_ble_eq_true rfl⟩ ⟨Nat.le_refl 0, Nat.le_refl 0⟩ (Nat.le_of_ble_eq_true rfl) dX8_digest_90 rfl (fun r9 s8 => ?_)
    refine T_lstore_n (lv' := [(1, .long r9), (0, .ref x0), (3, .int x3), (4, .int (s.2.1))]) (pc := 93) h dX8_digest_93 rfl (by decide) rfl ?_
    refine T_iinc (fl := fun v10 => [(4, .int v10), (1, .long r9), (0, .ref x0), (3, .int x3)]) (pc := 94) h dX8_digest_94 3 rfl ki_1 (by decide) (fun _ => rfl) (fun v10 => ?_)
    refine T_goto (pc := 97) (tgt := 75) h dX8_digest_97 (by decide) ?_
    refine T_sub [2, 1, 3, 0] rfl ?_
    exact hr75 (r9, v10, s8)
theorem t_X8_digest_L219 {K : Cx} (h : Ok K cX8_digest RX8 5 rm_X8_digest (some .long)) (hs : kiv K = St) (x0 : Nat) (x1 : Int64) (x3 : Int32)  (σ : Sg) (rec194 : Int64 × Int32 × Sg → Option (Int64 × Sg)) (hr194 : ∀ u, T K (QL K) 194 [(0, .ref x0), (1, .long (u.1)), (3, .int (u.2.1))] [] 0 0 (u.2.2) (rec194 u)) (hk0 : kd x0 8)  : T K (QL K) 219 [(0, .ref x0), (1, .long x1), (3, .int x3)] [] 0 0 σ (f_X8_digest_L219 rec194 x0 x1 x3 σ) := by
  unfold f_X8_digest_L219
  refine T_iinc (fl := fun v1 => [(3, .int v1), (0, .ref x0), (1, .long x1)]) (pc := 219) h dX8_digest_219 2 rfl ki_1 (by decide) (fun _ => rfl) (fun v1 => ?_)
  refine T_goto (pc := 222) (tgt := 194) h dX8_digest_222 (by decide) ?_
  refine T_sub [1, 2, 0] rfl ?_
  exact hr194 (x1, v1, σ)
theorem t_X8_digest_L194 {K : Cx} (h : Ok K cX8_digest RX8 5 rm_X8_digest (some .long)) (hs : kiv K = St) (x0 : Nat)  (hk0 : kd x0 8) (rec194 : Int64 × Int32 × Sg → Option (Int64 × Sg)) (hr194 : ∀ u, T K (QL K) 194 [(0, .ref x0), (1, .long (u.1)), (3, .int (u.2.1))] [] 0 0 (u.2.2) (rec194 u)) (s : Int64 × Int32 × Sg) : T K (QL K) 194 [(0, .ref x0), (1, .long (s.1)), (3, .int (s.2.1))] [] 0 0 (s.2.2) (f_X8_digest_L194 x0 rec194 s) := by
  unfold f_X8_digest_L194
  refine T_iload_n (pc := 194) h dX8_digest_194 rfl 2 rfl ?_
  refine T_iconst (pc := 195) h dX8_digest_195 ki_4 ?_
  refine T_icmp_ge (pc := 196) (tgt := 225) h dX8_digest_196 (by decide) ?_ ?_
  · refine T_lload_n (pc := 225) h dX8_digest_225 rfl 1 rfl ?_
    exact T_lreturn (pc := 226) h (Nat.zero_le _) (Nat.zero_le _) dX8_digest_226
  · refine T_aload_n (pc := 199) h dX8_digest_199 rfl 0 rfl ?_
    refine T_gR (pc := 200) h hs hk0 fl_X8_73 rfl fk_8_9 dX8_digest_200 (fun hq1 => ?_)
    refine T_iload_n (pc := 203) h dX8_digest_203 rfl 2 rfl ?_
    refine T_zald (pc := 204) h hs hq1 dX8_digest_204 ?_
    refine T_if_eq (pc := 205) (tgt := 219) h dX8_digest_205 (by decide) ?_ ?_
    · refine T_sub [0, 1, 2] rfl ?_
      exact t_X8_digest_L219 h hs x0 (s.1) (s.2.1) (s.2.2) rec194 hr194 hk0
    · refine T_lload_n (pc := 208) h dX8_digest_208 rfl 1 rfl ?_
      refine T_aload_n (pc := 209) h dX8_digest_209 rfl 0 rfl ?_
      refine T_iload_n (pc := 210) h dX8_digest_210 rfl 2 rfl ?_
      refine T_callVi (pc := 211) h (M_X8_differ (kl K) hs x0 (s.2.1) (s.2.2) hk0) mv_X8_differ hs hk0 ml_X8_340 rfl ⟨Nat.le_of_ble_eq_true rfl, Nat.le_of_ble_eq_true rfl⟩ ⟨Nat.le_refl 0, Nat.le_refl 0⟩ (Nat.le_of_ble_eq_true rfl) dX8_digest_211 rfl (fun r3 s2 => ?_)
      refine T_i2l (pc := 214) h dX8_digest_214 ?_
      refine T_callSl (pc := 215) h (M_X8_mixed (kl K) hs (s.1) (r3.toInt64) s2 ) mst_X8_mixed ml_X8_302 rfl ⟨Nat.le_of_ble_eq_true rfl, Nat.le_of_ble_eq_true rfl⟩ ⟨Nat.le_refl 0, Nat.le_refl 0⟩ (Nat.le_of_ble_eq_true rfl) dX8_digest_215 rfl (fun r5 s4 => ?_)
      refine T_lstore_n (lv' := [(1, .long r5), (0, .ref x0), (3, .int (s.2.1))]) (pc := 218) h dX8_digest_218 rfl (by decide) rfl ?_
      refine T_sub [1, 0, 2] rfl ?_
      exact t_X8_digest_L219 h hs x0 r5 (s.2.1) s4 rec194 hr194 hk0
theorem t_X8_digest_L132 {K : Cx} (h : Ok K cX8_digest RX8 5 rm_X8_digest (some .long)) (hs : kiv K = St) (x0 : Nat)  (hk0 : kd x0 8) (rec132 : Int64 × Int32 × Sg → Option (Int64 × Sg)) (hr132 : ∀ u, T K (QL K) 132 [(0, .ref x0), (1, .long (u.1)), (3, .int (u.2.1))] [] 0 0 (u.2.2) (rec132 u)) (s : Int64 × Int32 × Sg) : T K (QL K) 132 [(0, .ref x0), (1, .long (s.1)), (3, .int (s.2.1))] [] 0 0 (s.2.2) (f_X8_digest_L132 x0 rec132 s) := by
  unfold f_X8_digest_L132
  refine T_iload_n (pc := 132) h dX8_digest_132 rfl 2 rfl ?_
  refine T_iconst (pc := 133) h dX8_digest_133 ki_2 ?_
  refine T_icmp_gt (pc := 134) (tgt := 154) h dX8_digest_134 (by decide) ?_ ?_
  · refine T_lload_n (pc := 154) h dX8_digest_154 rfl 1 rfl ?_
    refine T_aload_n (pc := 155) h dX8_digest_155 rfl 0 rfl ?_
    refine T_iconst (pc := 156) h dX8_digest_156 ki_0 ?_
    refine T_callVi (pc := 157) h (M_X8_easiest (kl K) hs x0 (0 : Int32) (s.2.2) hk0) mv_X8_easiest hs hk0 ml_X8_331 rfl ⟨Nat.le_of_ble_eq_true rfl, Nat.le_of_ble_eq_true rfl⟩ ⟨Nat.le_refl 0, Nat.le_refl 0⟩ (Nat.le_of_ble_eq_true rfl) dX8_digest_157 rfl (fun r2 s1 => ?_)
    refine T_i2l (pc := 160) h dX8_digest_160 ?_
    refine T_callSl (pc := 161) h (M_X8_mixed (kl K) hs (s.1) (r2.toInt64) s1 ) mst_X8_mixed ml_X8_302 rfl ⟨Nat.le_of_ble_eq_true rfl, Nat.le_of_ble_eq_true rfl⟩ ⟨Nat.le_refl 0, Nat.le_refl 0⟩ (Nat.le_of_ble_eq_true rfl) dX8_digest_161 rfl (fun r4 s3 => ?_)
    refine T_lstore_n (lv' := [(1, .long r4), (0, .ref x0), (3, .int (s.2.1))]) (pc := 164) h dX8_digest_164 rfl (by decide) rfl ?_
    refine T_lload_n (pc := 165) h dX8_digest_165 rfl 0 rfl ?_
    refine T_aload_n (pc := 166) h dX8_digest_166 rfl 1 rfl ?_
    refine T_iconst (pc := 167) h dX8_digest_167 ki_1 ?_
    refine T_callVi (pc := 168) h (M_X8_easiest (kl K) hs x0 (1 : Int32) s3 hk0) mv_X8_easiest hs hk0 ml_X8_331 rfl ⟨Nat.le_of_ble_eq_true rfl, Nat.le_of_ble_eq_true rfl⟩ ⟨Nat.le_refl 0, Nat.le_refl 0⟩ (Nat.le_of_ble_eq_true rfl) dX8_digest_168 rfl (fun r6 s5 => ?_)
    refine T_i2l (pc := 171) h dX8_digest_171 ?_
    refine T_callSl (pc := 172) h (M_X8_mixed (kl K) hs r4 (r6.toInt64) s5 ) mst_X8_mixed ml_X8_302 rfl ⟨Nat.le_of_ble_eq_true rfl, Nat.le_of_ble_eq_true rfl⟩ ⟨Nat.le_refl 0, Nat.le_refl 0⟩ (Nat.le_of_ble_eq_true rfl) dX8_digest_172 rfl (fun r8 s7 => ?_)
    refine T_lstore_n (lv' := [(1, .long r8), (0, .ref x0), (3, .int (s.2.1))]) (pc := 175) h dX8_digest_175 rfl (by decide) rfl ?_
    refine T_lload_n (pc := 176) h dX8_digest_176 rfl 0 rfl ?_
    refine T_aload_n (pc := 177) h dX8_digest_177 rfl 1 rfl ?_
    refine T_callVi (pc := 178) h (M_X8_flaw (kl K) hs x0 s7 hk0) mv_X8_flaw hs hk0 ml_X8_334 rfl ⟨Nat.le_of_ble_eq_true rfl, Nat.le_of_ble_eq_true rfl⟩ ⟨Nat.le_refl 0, Nat.le_refl 0⟩ (Nat.le_of_ble_eq_true rfl) dX8_digest_178 rfl (fun r10 s9 => ?_)
    refine T_i2l (pc := 181) h dX8_digest_181 ?_
    refine T_callSl (pc := 182) h (M_X8_mixed (kl K) hs r8 (r10.toInt64) s9 ) mst_X8_mixed ml_X8_302 rfl ⟨Nat.le_of_ble_eq_true rfl, Nat.le_of_ble_eq_true rfl⟩ ⟨Nat.le_refl 0, Nat.le_refl 0⟩ (Nat.le_of_ble_eq_true rfl) dX8_digest_182 rfl (fun r12 s11 => ?_)
    refine T_lstore_n (lv' := [(1, .long r12), (0, .ref x0), (3, .int (s.2.1))]) (pc := 185) h dX8_digest_185 rfl (by decide) rfl ?_
    refine T_aload_n (pc := 186) h dX8_digest_186 rfl 1 rfl ?_
    refine T_lload_n (pc := 187) h dX8_digest_187 rfl 0 rfl ?_
    refine T_callVl (pc := 188) h (M_X8_mixedTablature (kl K) hs x0 r12 s11 hk0) mv_X8_mixedTablature hs hk0 ml_X8_337 rfl ⟨Nat.le_of_ble_eq_true rfl, Nat.le_of_ble_eq_true rfl⟩ ⟨Nat.le_refl 0, Nat.le_refl 0⟩ (Nat.le_of_ble_eq_true rfl) dX8_digest_188 rfl (fun r14 s13 => ?_)
    refine T_lstore_n (lv' := [(1, .long r14), (0, .ref x0), (3, .int (s.2.1))]) (pc := 191) h dX8_digest_191 rfl (by decide) rfl ?_
    refine T_iconst (pc := 192) h dX8_digest_192 ki_0 ?_
    refine T_istore_n (lv' := [(3, .int (0 : Int32)), (1, .long r14), (0, .ref x0)]) (pc := 193) h dX8_digest_193 rfl (by decide) rfl ?_
    refine T_sub [2, 1, 0] rfl ?_
    exact T_fx (B := f_X8_digest_L194 x0) (fl := fun u => [(0, .ref x0), (1, .long (u.1)), (3, .int (u.2.1))]) (f := fun u => (u.2.2)) (fun rec194 hr194 u => t_X8_digest_L194 h hs x0 hk0 rec194 hr194 u) FU (r14, (0 : Int32), s13)
  · refine T_lload_n (pc := 137) h dX8_digest_137 rfl 1 rfl ?_
    refine T_aload_n (pc := 138) h dX8_digest_138 rfl 0 rfl ?_
    refine T_iload_n (pc := 139) h dX8_digest_139 rfl 2 rfl ?_
    refine T_callVi (pc := 140) h (M_X8_key (kl K) hs x0 (s.2.1) (s.2.2) hk0) mv_X8_key hs hk0 ml_X8_328 rfl ⟨Nat.le_of_ble_eq_true rfl, Nat.le_of_ble_eq_true rfl⟩ ⟨Nat.le_refl 0, Nat.le_refl 0⟩ (Nat.le_of_ble_eq_true rfl) dX8_digest_140 rfl (fun r16 s15 => ?_)
    refine T_i2l (pc := 143) h dX8_digest_143 ?_
    refine T_callSl (pc := 144) h (M_X8_mixed (kl K) hs (s.1) (r16.toInt64) s15 ) mst_X8_mixed ml_X8_302 rfl ⟨Nat.le_of_ble_eq_true rfl, Nat.le_of_ble_eq_true rfl⟩ ⟨Nat.le_refl 0, Nat.le_refl 0⟩ (Nat.le_of_ble_eq_true rfl) dX8_digest_144 rfl (fun r18 s17 => ?_)
    refine T_lstore_n (lv' := [(1, .long r18), (0, .ref x0), (3, .int (s.2.1))]) (pc := 147) h dX8_digest_147 rfl (by decide) rfl ?_
    refine T_iinc (fl := fun v19 => [(3, .int v19), (1, .long r18), (0, .ref x0)]) (pc := 148) h dX8_digest_148 2 rfl ki_1 (by decide) (fun _ => rfl) (fun v19 => ?_)
    refine T_goto (pc := 151) (tgt := 132) h dX8_digest_151 (by decide) ?_
    refine T_sub [2, 1, 0] rfl ?_
    exact hr132 (r18, v19, s17)
theorem t_X8_digest_L61 {K : Cx} (h : Ok K cX8_digest RX8 5 rm_X8_digest (some .long)) (hs : kiv K = St) (x0 : Nat)  (hk0 : kd x0 8) (rec61 : Int64 × Int32 × Sg → Option (Int64 × Sg)) (hr61 : ∀ u, T K (QL K) 61 [(0, .ref x0), (1, .long (u.1)), (3, .int (u.2.1))] [] 0 0 (u.2.2) (rec61 u)) (s : Int64 × Int32 × Sg) : T K (QL K) 61 [(0, .ref x0), (1, .long (s.1)), (3, .int (s.2.1))] [] 0 0 (s.2.2) (f_X8_digest_L61 x0 rec61 s) := by
  unfold f_X8_digest_L61
  refine T_iload_n (pc := 61) h dX8_digest_61 rfl 2 rfl ?_
  refine T_aload_n (pc := 62) h dX8_digest_62 rfl 0 rfl ?_
  refine T_gR (pc := 63) h hs hk0 fl_X8_10 rfl fk_8_0 dX8_digest_63 (fun hq1 => ?_)
  refine T_getI (pc := 66) h hs hq1 fl_X8_90 rfl dX8_digest_66 ?_
  refine T_icmp_ge (pc := 69) (tgt := 117) h dX8_digest_69 (by decide) ?_ ?_
  · refine T_aload_n (pc := 117) h dX8_digest_117 rfl 0 rfl ?_
    refine T_lload_n (pc := 118) h dX8_digest_118 rfl 1 rfl ?_
    refine T_callVl (pc := 119) h (M_X8_mixedNotes (kl K) hs x0 (s.1) (s.2.2) hk0) mv_X8_mixedNotes hs hk0 ml_X8_321 rfl ⟨Nat.le_of_ble_eq_true rfl, Nat.le_of_ble_eq_true rfl⟩ ⟨Nat.le_refl 0, Nat.le_refl 0⟩ (Nat.le_of_ble_eq_true rfl) dX8_digest_119 rfl (fun r3 s2 => ?_)
    refine T_lstore_n (lv' := [(1, .long r3), (0, .ref x0), (3, .int (s.2.1))]) (pc := 122) h dX8_digest_122 rfl (by decide) rfl ?_
    refine T_aload_n (pc := 123) h dX8_digest_123 rfl 1 rfl ?_
    refine T_lload_n (pc := 124) h dX8_digest_124 rfl 0 rfl ?_
    refine T_callVl (pc := 125) h (M_X8_mixedChords (kl K) hs x0 r3 s2 hk0) mv_X8_mixedChords hs hk0 ml_X8_325 rfl ⟨Nat.le_of_ble_eq_true rfl, Nat.le_of_ble_eq_true rfl⟩ ⟨Nat.le_refl 0, Nat.le_refl 0⟩ (Nat.le_of_ble_eq_true rfl) dX8_digest_125 rfl (fun r5 s4 => ?_)
    refine T_lstore_n (lv' := [(1, .long r5), (0, .ref x0), (3, .int (s.2.1))]) (pc := 128) h dX8_digest_128 rfl (by decide) rfl ?_
    refine T_bipush (pc := 129) h dX8_digest_129 kb_m2 ?_
    refine T_istore_n (lv' := [(3, .int (-2 : Int32)), (1, .long r5), (0, .ref x0)]) (pc := 131) h dX8_digest_131 rfl (by decide) rfl ?_
    refine T_sub [2, 1, 0] rfl ?_
    exact T_fx (B := f_X8_digest_L132 x0) (fl := fun u => [(0, .ref x0), (1, .long (u.1)), (3, .int (u.2.1))]) (f := fun u => (u.2.2)) (fun rec132 hr132 u => t_X8_digest_L132 h hs x0 hk0 rec132 hr132 u) FU (r5, (-2 : Int32), s4)
  · refine T_iconst (pc := 72) h dX8_digest_72 ki_0 ?_
    refine T_istore (lv' := [(4, .int (0 : Int32)), (0, .ref x0), (1, .long (s.1)), (3, .int (s.2.1))]) (pc := 73) h dX8_digest_73 (by decide) rfl ?_
    refine T_sub [1, 2, 3, 0] rfl ?_
    exact T_fx (B := f_X8_digest_L75 rec61 x0 (s.2.1)) (fl := fun u => [(0, .ref x0), (1, .long (u.1)), (3, .int (s.2.1)), (4, .int (u.2.1))]) (f := fun u => (u.2.2)) (fun rec75 hr75 u => t_X8_digest_L75 h hs x0 (s.2.1) rec61 hr61 hk0 rec75 hr75 u) FU ((s.1), (0 : Int32), (s.2.2))
theorem t_X8_digest_L6 {K : Cx} (h : Ok K cX8_digest RX8 5 rm_X8_digest (some .long)) (hs : kiv K = St) (x0 : Nat)  (hk0 : kd x0 8) (rec6 : Int64 × Int32 × Sg → Option (Int64 × Sg)) (hr6 : ∀ u, T K (QL K) 6 [(0, .ref x0), (1, .long (u.1)), (3, .int (u.2.1))] [] 0 0 (u.2.2) (rec6 u)) (s : Int64 × Int32 × Sg) : T K (QL K) 6 [(0, .ref x0), (1, .long (s.1)), (3, .int (s.2.1))] [] 0 0 (s.2.2) (f_X8_digest_L6 x0 rec6 s) := by
  unfold f_X8_digest_L6
  refine T_iload_n (pc := 6) h dX8_digest_6 rfl 2 rfl ?_
  refine T_bipush (pc := 7) h dX8_digest_7 kb_7 ?_
  refine T_icmp_gt (pc := 9) (tgt := 29) h dX8_digest_9 (by decide) ?_ ?_
  · refine T_lload_n (pc := 29) h dX8_digest_29 rfl 1 rfl ?_
    refine T_aload_n (pc := 30) h dX8_digest_30 rfl 0 rfl ?_
    refine T_callVi (pc := 31) h (M_X8_least (kl K) hs x0 (s.2.2) hk0) mv_X8_least hs hk0 ml_X8_306 rfl ⟨Nat.le_of_ble_eq_true rfl, Nat.le_of_ble_eq_true rfl⟩ ⟨Nat.le_refl 0, Nat.le_refl 0⟩ (Nat.le_of_ble_eq_true rfl) dX8_digest_31 rfl (fun r2 s1 => ?_)
    refine T_i2l (pc := 34) h dX8_digest_34 ?_
    refine T_callSl (pc := 35) h (M_X8_mixed (kl K) hs (s.1) (r2.toInt64) s1 ) mst_X8_mixed ml_X8_302 rfl ⟨Nat.le_of_ble_eq_true rfl, Nat.le_of_ble_eq_true rfl⟩ ⟨Nat.le_refl 0, Nat.le_refl 0⟩ (Nat.le_of_ble_eq_true rfl) dX8_digest_35 rfl (fun r4 s3 => ?_)
    refine T_lstore_n (lv' := [(1, .long r4), (0, .ref x0), (3, .int (s.2.1))]) (pc := 38) h dX8_digest_38 rfl (by decide) rfl ?_
    refine T_lload_n (pc := 39) h dX8_digest_39 rfl 0 rfl ?_
    refine T_aload_n (pc := 40) h dX8_digest_40 rfl 1 rfl ?_
    refine T_callVi (pc := 41) h (M_X8_fault (kl K) hs x0 s3 hk0) mv_X8_fault hs hk0 ml_X8_309 rfl ⟨Nat.le_of_ble_eq_true rfl, Nat.le_of_ble_eq_true rfl⟩ ⟨Nat.le_refl 0, Nat.le_refl 0⟩ (Nat.le_of_ble_eq_true rfl) dX8_digest_41 rfl (fun r6 s5 => ?_)
    refine T_i2l (pc := 44) h dX8_digest_44 ?_
    refine T_callSl (pc := 45) h (M_X8_mixed (kl K) hs r4 (r6.toInt64) s5 ) mst_X8_mixed ml_X8_302 rfl ⟨Nat.le_of_ble_eq_true rfl, Nat.le_of_ble_eq_true rfl⟩ ⟨Nat.le_refl 0, Nat.le_refl 0⟩ (Nat.le_of_ble_eq_true rfl) dX8_digest_45 rfl (fun r8 s7 => ?_)
    refine T_lstore_n (lv' := [(1, .long r8), (0, .ref x0), (3, .int (s.2.1))]) (pc := 48) h dX8_digest_48 rfl (by decide) rfl ?_
    refine T_lload_n (pc := 49) h dX8_digest_49 rfl 0 rfl ?_
    refine T_aload_n (pc := 50) h dX8_digest_50 rfl 1 rfl ?_
    refine T_callVi (pc := 51) h (M_X8_cost (kl K) hs x0 s7 hk0) mv_X8_cost hs hk0 ml_X8_312 rfl ⟨Nat.le_of_ble_eq_true rfl, Nat.le_of_ble_eq_true rfl⟩ ⟨Nat.le_refl 0, Nat.le_refl 0⟩ (Nat.le_of_ble_eq_true rfl) dX8_digest_51 rfl (fun r10 s9 => ?_)
    refine T_i2l (pc := 54) h dX8_digest_54 ?_
    refine T_callSl (pc := 55) h (M_X8_mixed (kl K) hs r8 (r10.toInt64) s9 ) mst_X8_mixed ml_X8_302 rfl ⟨Nat.le_of_ble_eq_true rfl, Nat.le_of_ble_eq_true rfl⟩ ⟨Nat.le_refl 0, Nat.le_refl 0⟩ (Nat.le_of_ble_eq_true rfl) dX8_digest_55 rfl (fun r12 s11 => ?_)
    refine T_lstore_n (lv' := [(1, .long r12), (0, .ref x0), (3, .int (s.2.1))]) (pc := 58) h dX8_digest_58 rfl (by decide) rfl ?_
    refine T_iconst (pc := 59) h dX8_digest_59 ki_0 ?_
    refine T_istore_n (lv' := [(3, .int (0 : Int32)), (1, .long r12), (0, .ref x0)]) (pc := 60) h dX8_digest_60 rfl (by decide) rfl ?_
    refine T_sub [2, 1, 0] rfl ?_
    exact T_fx (B := f_X8_digest_L61 x0) (fl := fun u => [(0, .ref x0), (1, .long (u.1)), (3, .int (u.2.1))]) (f := fun u => (u.2.2)) (fun rec61 hr61 u => t_X8_digest_L61 h hs x0 hk0 rec61 hr61 u) FU (r12, (0 : Int32), s11)
  · refine T_lload_n (pc := 12) h dX8_digest_12 rfl 1 rfl ?_
    refine T_aload_n (pc := 13) h dX8_digest_13 rfl 0 rfl ?_
    refine T_iload_n (pc := 14) h dX8_digest_14 rfl 2 rfl ?_
    refine T_callVi (pc := 15) h (M_X8_count (kl K) hs x0 (s.2.1) (s.2.2) hk0) mv_X8_count hs hk0 ml_X8_299 rfl ⟨Nat.le_of_ble_eq_true rfl, Nat.le_of_ble_eq_true rfl⟩ ⟨Nat.le_refl 0, Nat.le_refl 0⟩ (Nat.le_of_ble_eq_true rfl) dX8_digest_15 rfl (fun r14 s13 => ?_)
    refine T_i2l (pc := 18) h dX8_digest_18 ?_
    refine T_callSl (pc := 19) h (M_X8_mixed (kl K) hs (s.1) (r14.toInt64) s13 ) mst_X8_mixed ml_X8_302 rfl ⟨Nat.le_of_ble_eq_true rfl, Nat.le_of_ble_eq_true rfl⟩ ⟨Nat.le_refl 0, Nat.le_refl 0⟩ (Nat.le_of_ble_eq_true rfl) dX8_digest_19 rfl (fun r16 s15 => ?_)
    refine T_lstore_n (lv' := [(1, .long r16), (0, .ref x0), (3, .int (s.2.1))]) (pc := 22) h dX8_digest_22 rfl (by decide) rfl ?_
    refine T_iinc (fl := fun v17 => [(3, .int v17), (1, .long r16), (0, .ref x0)]) (pc := 23) h dX8_digest_23 2 rfl ki_1 (by decide) (fun _ => rfl) (fun v17 => ?_)
    refine T_goto (pc := 26) (tgt := 6) h dX8_digest_26 (by decide) ?_
    refine T_sub [2, 1, 0] rfl ?_
    exact hr6 (r16, v17, s15)
theorem t_X8_digest {K : Cx} (h : Ok K cX8_digest RX8 5 rm_X8_digest (some .long)) (hs : kiv K = St) (x0 : Nat) (σ : Sg) (hk0 : kd x0 8) : T K (QL K) 0 [(0, .ref x0)] [] 0 0 σ (f_X8_digest x0 σ) := by
  unfold f_X8_digest
  refine T_ldc2 (pc := 0) h kc_X8_297 dX8_digest_0 ?_
  refine T_lstore_n (lv' := [(1, .long (17 : Int64)), (0, .ref x0)]) (pc := 3) h dX8_digest_3 rfl (by decide) rfl ?_
  refine T_iconst (pc := 4) h dX8_digest_4 ki_0 ?_
  refine T_istore_n (lv' := [(3, .int (0 : Int32)), (1, .long (17 : Int64)), (0, .ref x0)]) (pc := 5) h dX8_digest_5 rfl (by decide) rfl ?_
  refine T_sub [2, 1, 0] rfl ?_
  exact T_fx (B := f_X8_digest_L6 x0) (fl := fun u => [(0, .ref x0), (1, .long (u.1)), (3, .int (u.2.1))]) (f := fun u => (u.2.2)) (fun rec6 hr6 u => t_X8_digest_L6 h hs x0 hk0 rec6 hr6 u) FU ((17 : Int64), (0 : Int32), σ)
theorem M_X8_digest (l : Launch) {iv : Sg → Prop} (hi : iv = St) (x0 : Nat) (σ : Sg) (hk0 : kd x0 8) : CTl l yX8_digest cX8_digest 5 (some .long) rm_X8_digest iv [.ref x0] σ (f_X8_digest x0 σ) := by
  subst hi
  exact CT_of (by decide) (Nat.le_of_ble_eq_true rfl) (fun K _ h _ hs _ _ => t_X8_digest h hs x0 σ hk0)
