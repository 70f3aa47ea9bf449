/-! LuteTabs$Reader.takes(I)Z -/
theorem dX3_takes_0 : decode cX3_takes 0 = .ok (.aload_n 0, 1) := by decide +kernel
theorem dX3_takes_1 : decode cX3_takes 1 = .ok (.getfield 51, 3) := by decide +kernel
theorem dX3_takes_4 : decode cX3_takes 4 = .ok (.iconst (-1), 1) := by decide +kernel
theorem dX3_takes_5 : decode cX3_takes 5 = .ok (.if_icmp .ne 22, 3) := by decide +kernel
theorem dX3_takes_8 : decode cX3_takes 8 = .ok (.iload_n 1, 1) := by decide +kernel
theorem dX3_takes_9 : decode cX3_takes 9 = .ok (.bipush 58, 2) := by decide +kernel
theorem dX3_takes_11 : decode cX3_takes 11 = .ok (.if_icmp .ne 10, 3) := by decide +kernel
theorem dX3_takes_14 : decode cX3_takes 14 = .ok (.aload_n 0, 1) := by decide +kernel
theorem dX3_takes_15 : decode cX3_takes 15 = .ok (.invokevirtual 60, 3) := by decide +kernel
theorem dX3_takes_18 : decode cX3_takes 18 = .ok (.goto 8, 3) := by decide +kernel
theorem dX3_takes_21 : decode cX3_takes 21 = .ok (.aload_n 0, 1) := by decide +kernel
theorem dX3_takes_22 : decode cX3_takes 22 = .ok (.iload_n 1, 1) := by decide +kernel
theorem dX3_takes_23 : decode cX3_takes 23 = .ok (.invokevirtual 64, 3) := by decide +kernel
theorem dX3_takes_26 : decode cX3_takes 26 = .ok (.ireturn, 1) := by decide +kernel
theorem dX3_takes_27 : decode cX3_takes 27 = .ok (.aload_n 0, 1) := by decide +kernel
theorem dX3_takes_28 : decode cX3_takes 28 = .ok (.getfield 51, 3) := by decide +kernel
theorem dX3_takes_31 : decode cX3_takes 31 = .ok (.aload_n 0, 1) := by decide +kernel
theorem dX3_takes_32 : decode cX3_takes 32 = .ok (.getfield 25, 3) := by decide +kernel
theorem dX3_takes_35 : decode cX3_takes 35 = .ok (.getfield 67, 3) := by decide +kernel
theorem dX3_takes_38 : decode cX3_takes 38 = .ok (.if_icmp .ge 25, 3) := by decide +kernel
theorem dX3_takes_41 : decode cX3_takes 41 = .ok (.iload_n 1, 1) := by decide +kernel
theorem dX3_takes_42 : decode cX3_takes 42 = .ok (.bipush 45, 2) := by decide +kernel
theorem dX3_takes_44 : decode cX3_takes 44 = .ok (.if_icmp .ne 10, 3) := by decide +kernel
theorem dX3_takes_47 : decode cX3_takes 47 = .ok (.aload_n 0, 1) := by decide +kernel
theorem dX3_takes_48 : decode cX3_takes 48 = .ok (.invokevirtual 68, 3) := by decide +kernel
theorem dX3_takes_51 : decode cX3_takes 51 = .ok (.goto 11, 3) := by decide +kernel
theorem dX3_takes_54 : decode cX3_takes 54 = .ok (.aload_n 0, 1) := by decide +kernel
theorem dX3_takes_55 : decode cX3_takes 55 = .ok (.iload_n 1, 1) := by decide +kernel
theorem dX3_takes_56 : decode cX3_takes 56 = .ok (.bipush 97, 2) := by decide +kernel
theorem dX3_takes_58 : decode cX3_takes 58 = .ok (.isub, 1) := by decide +kernel
theorem dX3_takes_59 : decode cX3_takes 59 = .ok (.invokevirtual 71, 3) := by decide +kernel
theorem dX3_takes_62 : decode cX3_takes 62 = .ok (.ireturn, 1) := by decide +kernel
theorem dX3_takes_63 : decode cX3_takes 63 = .ok (.iload_n 1, 1) := by decide +kernel
theorem dX3_takes_64 : decode cX3_takes 64 = .ok (.bipush 59, 2) := by decide +kernel
theorem dX3_takes_66 : decode cX3_takes 66 = .ok (.if_icmp .ne 9, 3) := by decide +kernel
theorem dX3_takes_69 : decode cX3_takes 69 = .ok (.aload_n 0, 1) := by decide +kernel
theorem dX3_takes_70 : decode cX3_takes 70 = .ok (.invokevirtual 36, 3) := by decide +kernel
theorem dX3_takes_73 : decode cX3_takes 73 = .ok (.iconst 1, 1) := by decide +kernel
theorem dX3_takes_74 : decode cX3_takes 74 = .ok (.ireturn, 1) := by decide +kernel
theorem dX3_takes_75 : decode cX3_takes 75 = .ok (.iconst 0, 1) := by decide +kernel
theorem dX3_takes_76 : decode cX3_takes 76 = .ok (.ireturn, 1) := by decide +kernel
abbrev rm_X3_takes : Room := { frames := 4, cells := 0, slots := 0, locals := 88 }
def f_X3_takes_L26   (y0 : Int32) (σ : Sg) : Option (Int32 × Sg) := ck (b01 y0) (some (y0, σ))
def f_X3_takes_L62   (y0 : Int32) (σ : Sg) : Option (Int32 × Sg) := ck (b01 y0) (some (y0, σ))
def f_X3_takes (x0 : Nat) (x1 : Int32) (σ : Sg) : Option (Int32 × Sg) := (if (gI σ x0 7) = (-1 : Int32) then (if x1 = (58 : Int32) then bd (f_X3_takesColon x0 σ) fun r10 s9 => f_X3_takes_L26 r10 s9 else bd (f_X3_takesFigure x0 x1 σ) fun r8 s7 => f_X3_takes_L26 r8 s7) else (if (gI σ (gR σ x0 0) 0) ≤ (gI σ x0 7) then (if x1 = (59 : Int32) then bd (f_X3_endChord x0 σ) fun _ s2 => ck (b01 (1 : Int32)) (some ((1 : Int32), s2)) else ck (b01 (0 : Int32)) (some ((0 : Int32), σ))) else (if x1 = (45 : Int32) then bd (f_X3_takesDash x0 σ) fun r6 s5 => f_X3_takes_L62 r6 s5 else bd (f_X3_takesLetter x0 (x1 - (97 : Int32)) σ) fun r4 s3 => f_X3_takes_L62 r4 s3)))
theorem t_X3_takes_L26 {K : Cx} (h : Ok K cX3_takes RX3 2 rm_X3_takes (some .boolean)) (hs : kiv K = St)  (y0 : Int32) (σ : Sg)    : T K (QI K) 26 [] [.int y0] 0 0 σ (f_X3_takes_L26 y0 σ) := by
  unfold f_X3_takes_L26
  exact T_zreturn (pc := 26) h (Nat.zero_le _) (Nat.zero_le _) dX3_takes_26
theorem t_X3_takes_L62 {K : Cx} (h : Ok K cX3_takes RX3 2 rm_X3_takes (some .boolean)) (hs : kiv K = St)  (y0 : Int32) (σ : Sg)    : T K (QI K) 62 [] [.int y0] 0 0 σ (f_X3_takes_L62 y0 σ) := by
  unfold f_X3_takes_L62
  exact T_zreturn (pc := 62) h (Nat.zero_le _) (Nat.zero_le _) dX3_takes_62
theorem t_X3_takes {K : Cx} (h : Ok K cX3_takes RX3 2 rm_X3_takes (some .boolean)) (hs : kiv K = St) (x0 : Nat) (x1 : Int32) (σ : Sg) (hk0 : kd x0 3) : T K (QI K) 0 [(0, .ref x0), (1, .int x1)] [] 0 0 σ (f_X3_takes x0 x1 σ) := by
  unfold f_X3_takes
  refine T_aload_n (pc := 0) h dX3_takes_0 rfl 0 rfl ?_
  refine T_getI (pc := 1) h hs hk0 fl_X3_51 rfl dX3_takes_1 ?_
  refine T_iconst (pc := 4) h dX3_takes_4 ki_m1 ?_
  refine T_icmp_ne (pc := 5) (tgt := 27) h dX3_takes_5 (by decide) ?_ ?_
  · refine T_aload_n (pc := 27) h dX3_takes_27 rfl 0 rfl ?_
    refine T_getI (pc := 28) h hs hk0 fl_X3_51 rfl dX3_takes_28 ?_
    refine T_aload_n (pc := 31) h dX3_takes_31 rfl 0 rfl ?_
    refine T_gR (pc := 32) h hs hk0 fl_X3_25 rfl fk_3_0 dX3_takes_32 (fun hq1 => ?_)
    refine T_getI (pc := 35) h hs hq1 fl_X3_67 rfl dX3_takes_35 ?_
    refine T_icmp_ge (pc := 38) (tgt := 63) h dX3_takes_38 (by decide) ?_ ?_
    · refine T_iload_n (pc := 63) h dX3_takes_63 rfl 1 rfl ?_
      refine T_bipush (pc := 64) h dX3_takes_64 kb_59 ?_
      refine T_icmp_ne (pc := 66) (tgt := 75) h dX3_takes_66 (by decide) ?_ ?_
      · refine T_iconst (pc := 75) h dX3_takes_75 ki_0 ?_
        exact T_zreturn (pc := 76) h (Nat.zero_le _) (Nat.zero_le _) dX3_takes_76
      · refine T_aload_n (pc := 69) h dX3_takes_69 rfl 0 rfl ?_
        refine T_callVv (pc := 70) h (M_X3_endChord (kl K) hs x0 σ hk0) mv_X3_endChord hs hk0 ml_X3_36 rfl ⟨Nat.le_of_ble_eq_true rfl, Nat.le_of_ble_eq_true rfl⟩ ⟨Nat.le_refl 0, Nat.le_refl 0⟩ (Nat.le_of_ble_eq_true rfl) dX3_takes_70 rfl (fun _ s2 => ?_)
        refine T_iconst (pc := 73) h dX3_takes_73 ki_1 ?_
        exact T_zreturn (pc := 74) h (Nat.zero_le _) (Nat.zero_le _) dX3_takes_74
    · refine T_iload_n (pc := 41) h dX3_takes_41 rfl 1 rfl ?_
      refine T_bipush (pc := 42) h dX3_takes_42 kb_45 ?_
      refine T_icmp_ne (pc := 44) (tgt := 54) h dX3_takes_44 (by decide) ?_ ?_
      · refine T_aload_n (pc := 54) h dX3_takes_54 rfl 0 rfl ?_
        refine T_iload_n (pc := 55) h dX3_takes_55 rfl 1 rfl ?_
        refine T_bipush (pc := 56) h dX3_takes_56 kb_97 ?_
        refine T_isub (pc := 58) h dX3_takes_58 ?_
        refine T_callVi (pc := 59) h (M_X3_takesLetter (kl K) hs x0 (x1 - (97 : Int32)) σ hk0) mv_X3_takesLetter hs hk0 ml_X3_71 rfl ⟨Nat.le_of_ble_eq_true rfl, Nat.le_of_ble_eq_true rfl⟩ ⟨Nat.le_refl 0, Nat.le_refl 0⟩ (Nat.le_of_ble_eq_true rfl) dX3_takes_59 rfl (fun r4 s3 => ?_)
        refine T_sub [] rfl ?_
        exact t_X3_takes_L62 h hs r4 s3
      · refine T_aload_n (pc := 47) h dX3_takes_47 rfl 0 rfl ?_
        refine T_callVi (pc := 48) h (M_X3_takesDash (kl K) hs x0 σ hk0) mv_X3_takesDash hs hk0 ml_X3_68 rfl ⟨Nat.le_of_ble_eq_true rfl, Nat.le_of_ble_eq_true rfl⟩ ⟨Nat.le_refl 0, Nat.le_refl 0⟩ (Nat.le_of_ble_eq_true rfl) dX3_takes_48 rfl (fun r6 s5 => ?_)
        refine T_goto (pc := 51) (tgt := 62) h dX3_takes_51 (by decide) ?_
        refine T_sub [] rfl ?_
        exact t_X3_takes_L62 h hs r6 s5
  · refine T_iload_n (pc := 8) h dX3_takes_8 rfl 1 rfl ?_
    refine T_bipush (pc := 9) h dX3_takes_9 kb_58 ?_
    refine T_icmp_ne (pc := 11) (tgt := 21) h dX3_takes_11 (by decide) ?_ ?_
    · refine T_aload_n (pc := 21) h dX3_takes_21 rfl 0 rfl ?_
      refine T_iload_n (pc := 22) h dX3_takes_22 rfl 1 rfl ?_
      refine T_callVi (pc := 23) h (M_X3_takesFigure (kl K) hs x0 x1 σ hk0) mv_X3_takesFigure hs hk0 ml_X3_64 rfl ⟨Nat.le_of_ble_eq_true rfl, Nat.le_of_ble_eq_true rfl⟩ ⟨Nat.le_refl 0, Nat.le_refl 0⟩ (Nat.le_of_ble_eq_true rfl) dX3_takes_23 rfl (fun r8 s7 => ?_)
      refine T_sub [] rfl ?_
      exact t_X3_takes_L26 h hs r8 s7
    · refine T_aload_n (pc := 14) h dX3_takes_14 rfl 0 rfl ?_
      refine T_callVi (pc := 15) h (M_X3_takesColon (kl K) hs x0 σ hk0) mv_X3_takesColon hs hk0 ml_X3_60 rfl ⟨Nat.le_of_ble_eq_true rfl, Nat.le_of_ble_eq_true rfl⟩ ⟨Nat.le_refl 0, Nat.le_refl 0⟩ (Nat.le_of_ble_eq_true rfl) dX3_takes_15 rfl (fun r10 s9 => ?_)
      refine T_goto (pc := 18) (tgt := 26) h dX3_takes_18 (by decide) ?_
      refine T_sub [] rfl ?_
      exact t_X3_takes_L26 h hs r10 s9
theorem M_X3_takes (l : Launch) {iv : Sg → Prop} (hi : iv = St) (x0 : Nat) (x1 : Int32) (σ : Sg) (hk0 : kd x0 3) : CTi l yX3_takes cX3_takes 2 (some .boolean) rm_X3_takes iv [.ref x0, .int x1] σ (f_X3_takes x0 x1 σ) := by
  subst hi
  exact CT_of (by decide) (Nat.le_of_ble_eq_true rfl) (fun K _ h _ hs _ _ => t_X3_takes h hs x0 x1 σ hk0)
/-! LuteTabs$Reader.flawOf(LLuteTabs$Script;)I -/
theorem dX3_flawOf_0 : decode cX3_flawOf 0 = .ok (.aload_n 0, 1) := by decide +kernel
theorem dX3_flawOf_1 : decode cX3_flawOf 1 = .ok (.iconst 0, 1) := by decide +kernel
theorem dX3_flawOf_2 : decode cX3_flawOf 2 = .ok (.putfield 29, 3) := by decide +kernel
theorem dX3_flawOf_5 : decode cX3_flawOf 5 = .ok (.aload_n 0, 1) := by decide +kernel
theorem dX3_flawOf_6 : decode cX3_flawOf 6 = .ok (.iconst (-1), 1) := by decide +kernel
theorem dX3_flawOf_7 : decode cX3_flawOf 7 = .ok (.putfield 33, 3) := by decide +kernel
theorem dX3_flawOf_10 : decode cX3_flawOf 10 = .ok (.aload_n 0, 1) := by decide +kernel
theorem dX3_flawOf_11 : decode cX3_flawOf 11 = .ok (.invokevirtual 36, 3) := by decide +kernel
theorem dX3_flawOf_14 : decode cX3_flawOf 14 = .ok (.iconst 0, 1) := by decide +kernel
theorem dX3_flawOf_15 : decode cX3_flawOf 15 = .ok (.istore_n 2, 1) := by decide +kernel
theorem dX3_flawOf_16 : decode cX3_flawOf 16 = .ok (.iload_n 2, 1) := by decide +kernel
theorem dX3_flawOf_17 : decode cX3_flawOf 17 = .ok (.aload_n 1, 1) := by decide +kernel
theorem dX3_flawOf_18 : decode cX3_flawOf 18 = .ok (.getfield 39, 3) := by decide +kernel
theorem dX3_flawOf_21 : decode cX3_flawOf 21 = .ok (.if_icmp .ge 24, 3) := by decide +kernel
theorem dX3_flawOf_24 : decode cX3_flawOf 24 = .ok (.aload_n 0, 1) := by decide +kernel
theorem dX3_flawOf_25 : decode cX3_flawOf 25 = .ok (.aload_n 1, 1) := by decide +kernel
theorem dX3_flawOf_26 : decode cX3_flawOf 26 = .ok (.getfield 44, 3) := by decide +kernel
theorem dX3_flawOf_29 : decode cX3_flawOf 29 = .ok (.iload_n 2, 1) := by decide +kernel
theorem dX3_flawOf_30 : decode cX3_flawOf 30 = .ok (.iaload, 1) := by decide +kernel
theorem dX3_flawOf_31 : decode cX3_flawOf 31 = .ok (.invokevirtual 47, 3) := by decide +kernel
theorem dX3_flawOf_34 : decode cX3_flawOf 34 = .ok (.ifCond .ne 5, 3) := by decide +kernel
theorem dX3_flawOf_37 : decode cX3_flawOf 37 = .ok (.iload_n 2, 1) := by decide +kernel
theorem dX3_flawOf_38 : decode cX3_flawOf 38 = .ok (.ireturn, 1) := by decide +kernel
theorem dX3_flawOf_39 : decode cX3_flawOf 39 = .ok (.iinc 2 1, 3) := by decide +kernel
theorem dX3_flawOf_42 : decode cX3_flawOf 42 = .ok (.goto (-26), 3) := by decide +kernel
theorem dX3_flawOf_45 : decode cX3_flawOf 45 = .ok (.aload_n 0, 1) := by decide +kernel
theorem dX3_flawOf_46 : decode cX3_flawOf 46 = .ok (.getfield 51, 3) := by decide +kernel
theorem dX3_flawOf_49 : decode cX3_flawOf 49 = .ok (.iconst (-1), 1) := by decide +kernel
theorem dX3_flawOf_50 : decode cX3_flawOf 50 = .ok (.if_icmp .ne 15, 3) := by decide +kernel
theorem dX3_flawOf_53 : decode cX3_flawOf 53 = .ok (.aload_n 0, 1) := by decide +kernel
theorem dX3_flawOf_54 : decode cX3_flawOf 54 = .ok (.getfield 33, 3) := by decide +kernel
theorem dX3_flawOf_57 : decode cX3_flawOf 57 = .ok (.iconst (-1), 1) := by decide +kernel
theorem dX3_flawOf_58 : decode cX3_flawOf 58 = .ok (.if_icmp .ne 7, 3) := by decide +kernel
theorem dX3_flawOf_61 : decode cX3_flawOf 61 = .ok (.iconst 1, 1) := by decide +kernel
theorem dX3_flawOf_62 : decode cX3_flawOf 62 = .ok (.goto 4, 3) := by decide +kernel
theorem dX3_flawOf_65 : decode cX3_flawOf 65 = .ok (.iconst 0, 1) := by decide +kernel
theorem dX3_flawOf_66 : decode cX3_flawOf 66 = .ok (.istore_n 2, 1) := by decide +kernel
theorem dX3_flawOf_67 : decode cX3_flawOf 67 = .ok (.iload_n 2, 1) := by decide +kernel
theorem dX3_flawOf_68 : decode cX3_flawOf 68 = .ok (.ifCond .eq 14, 3) := by decide +kernel
theorem dX3_flawOf_71 : decode cX3_flawOf 71 = .ok (.aload_n 1, 1) := by decide +kernel
theorem dX3_flawOf_72 : decode cX3_flawOf 72 = .ok (.getfield 39, 3) := by decide +kernel
theorem dX3_flawOf_75 : decode cX3_flawOf 75 = .ok (.ifCond .le 7, 3) := by decide +kernel
theorem dX3_flawOf_78 : decode cX3_flawOf 78 = .ok (.iconst (-1), 1) := by decide +kernel
theorem dX3_flawOf_79 : decode cX3_flawOf 79 = .ok (.goto 7, 3) := by decide +kernel
theorem dX3_flawOf_82 : decode cX3_flawOf 82 = .ok (.aload_n 1, 1) := by decide +kernel
theorem dX3_flawOf_83 : decode cX3_flawOf 83 = .ok (.getfield 39, 3) := by decide +kernel
theorem dX3_flawOf_86 : decode cX3_flawOf 86 = .ok (.ireturn, 1) := by decide +kernel
abbrev rm_X3_flawOf : Room := { frames := 5, cells := 0, slots := 0, locals := 109 }
def f_X3_flawOf_L86   (y0 : Int32) (σ : Sg) : Option (Int32 × Sg) := some (y0, σ)
def f_X3_flawOf_L82  (x1 : Nat)  (σ : Sg) : Option (Int32 × Sg) := f_X3_flawOf_L86 (gI σ x1 1) σ
def f_X3_flawOf_L66  (x1 : Nat) (y0 : Int32) (σ : Sg) : Option (Int32 × Sg) := (if y0 = 0 then f_X3_flawOf_L82 x1 σ else (if (gI σ x1 1) ≤ 0 then f_X3_flawOf_L82 x1 σ else f_X3_flawOf_L86 (-1 : Int32) σ))
def f_X3_flawOf_L65  (x1 : Nat)  (σ : Sg) : Option (Int32 × Sg) := f_X3_flawOf_L66 x1 (0 : Int32) σ
def f_X3_flawOf_L16  (x0 : Nat) (x1 : Nat) (rec16 : Int32 × Sg → Option (Int32 × Sg)) (s : Int32 × Sg) : Option (Int32 × Sg) := (if (gI (s.2) x1 1) ≤ (s.1) then (if (gI (s.2) x0 7) = (-1 : Int32) then (if (gI (s.2) x0 6) = (-1 : Int32) then f_X3_flawOf_L66 x1 (1 : Int32) (s.2) else f_X3_flawOf_L65 x1 (s.2)) else f_X3_flawOf_L65 x1 (s.2)) else ck (inb (s.1) (aL (gR (s.2) x1 0))) (bd (f_X3_takes x0 (gI (s.2) (gR (s.2) x1 0) (s.1).toNatClampNeg) (s.2)) fun r3 s2 => (if r3 = 0 then some ((s.1), s2) else lB ((s.1) + (1 : Int32)) fun v4 => rec16 (v4, s2))))
def f_X3_flawOf (x0 : Nat) (x1 : Nat) (σ : Sg) : Option (Int32 × Sg) := lB (pI σ x0 1 (0 : Int32)) fun s1 => lB (pI s1 x0 6 (-1 : Int32)) fun s2 => bd (f_X3_endChord x0 s2) fun _ s3 => fx (f_X3_flawOf_L16 x0 x1) FU ((0 : Int32), s3)
theorem t_X3_flawOf_L86 {K : Cx} (h : Ok K cX3_flawOf RX3 3 rm_X3_flawOf (some .int)) (hs : kiv K = St)  (y0 : Int32) (σ : Sg)    : T K (QI K) 86 [] [.int y0] 0 0 σ (f_X3_flawOf_L86 y0 σ) := by
  unfold f_X3_flawOf_L86
  exact T_ireturn (pc := 86) h (Nat.zero_le _) (Nat.zero_le _) dX3_flawOf_86
theorem t_X3_flawOf_L82 {K : Cx} (h : Ok K cX3_flawOf RX3 3 rm_X3_flawOf (some .int)) (hs : kiv K = St) (x1 : Nat)  (σ : Sg)  (hk1 : kd x1 4)  : T K (QI K) 82 [(1, .ref x1)] [] 0 0 σ (f_X3_flawOf_L82 x1 σ) := by
  unfold f_X3_flawOf_L82
  refine T_aload_n (pc := 82) h dX3_flawOf_82 rfl 0 rfl ?_
  refine T_getI (pc := 83) h hs hk1 fl_X3_39 rfl dX3_flawOf_83 ?_
  refine T_sub [] rfl ?_
  exact t_X3_flawOf_L86 h hs (gI σ x1 1) σ
theorem t_X3_flawOf_L66 {K : Cx} (h : Ok K cX3_flawOf RX3 3 rm_X3_flawOf (some .int)) (hs : kiv K = St) (x1 : Nat) (y0 : Int32) (σ : Sg)  (hk1 : kd x1 4)  : T K (QI K) 66 [(1, .ref x1)] [.int y0] 0 0 σ (f_X3_flawOf_L66 x1 y0 σ) := by
  unfold f_X3_flawOf_L66
  refine T_istore_n (lv' := [(2, .int y0), (1, .ref x1)]) (pc := 66) h dX3_flawOf_66 rfl (by decide) rfl ?_
  refine T_iload_n (pc := 67) h dX3_flawOf_67 rfl 0 rfl ?_
  refine T_if_eq (pc := 68) (tgt := 82) h dX3_flawOf_68 (by decide) ?_ ?_
  · refine T_sub [1] rfl ?_
    exact t_X3_flawOf_L82 h hs x1 σ hk1
  · refine T_aload_n (pc := 71) h dX3_flawOf_71 rfl 1 rfl ?_
    refine T_getI (pc := 72) h hs hk1 fl_X3_39 rfl dX3_flawOf_72 ?_
    refine T_if_le (pc := 75) (tgt := 82) h dX3_flawOf_75 (by decide) ?_ ?_
    · refine T_sub [1] rfl ?_
      exact t_X3_flawOf_L82 h hs x1 σ hk1
    · refine T_iconst (pc := 78) h dX3_flawOf_78 ki_m1 ?_
      refine T_goto (pc := 79) (tgt := 86) h dX3_flawOf_79 (by decide) ?_
      refine T_sub [] rfl ?_
      exact t_X3_flawOf_L86 h hs (-1 : Int32) σ
theorem t_X3_flawOf_L65 {K : Cx} (h : Ok K cX3_flawOf RX3 3 rm_X3_flawOf (some .int)) (hs : kiv K = St) (x1 : Nat)  (σ : Sg)  (hk1 : kd x1 4)  : T K (QI K) 65 [(1, .ref x1)] [] 0 0 σ (f_X3_flawOf_L65 x1 σ) := by
  unfold f_X3_flawOf_L65
  refine T_iconst (pc := 65) h dX3_flawOf_65 ki_0 ?_
  refine T_sub [0] rfl ?_
  exact t_X3_flawOf_L66 h hs x1 (0 : Int32) σ hk1
theorem t_X3_flawOf_L16 {K : Cx} (h : Ok K cX3_flawOf RX3 3 rm_X3_flawOf (some .int)) (hs : kiv K = St) (x0 : Nat) (x1 : Nat)  (hk0 : kd x0 3) (hk1 : kd x1 4) (rec16 : Int32 × Sg → Option (Int32 × Sg)) (hr16 : ∀ u, T K (QI K) 16 [(0, .ref x0), (1, .ref x1), (2, .int (u.1))] [] 0 0 (u.2) (rec16 u)) (s : Int32 × Sg) : T K (QI K) 16 [(0, .ref x0), (1, .ref x1), (2, .int (s.1))] [] 0 0 (s.2) (f_X3_flawOf_L16 x0 x1 rec16 s) := by
  unfold f_X3_flawOf_L16
  refine T_iload_n (pc := 16) h dX3_flawOf_16 rfl 2 rfl ?_
  refine T_aload_n (pc := 17) h dX3_flawOf_17 rfl 1 rfl ?_
  refine T_getI (pc := 18) h hs hk1 fl_X3_39 rfl dX3_flawOf_18 ?_
  refine T_icmp_ge (pc := 21) (tgt := 45) h dX3_flawOf_21 (by decide) ?_ ?_
  · refine T_aload_n (pc := 45) h dX3_flawOf_45 rfl 0 rfl ?_
    refine T_getI (pc := 46) h hs hk0 fl_X3_51 rfl dX3_flawOf_46 ?_
    refine T_iconst (pc := 49) h dX3_flawOf_49 ki_m1 ?_
    refine T_icmp_ne (pc := 50) (tgt := 65) h dX3_flawOf_50 (by decide) ?_ ?_
    · refine T_sub [1] rfl ?_
      exact t_X3_flawOf_L65 h hs x1 (s.2) hk1
    · refine T_aload_n (pc := 53) h dX3_flawOf_53 rfl 0 rfl ?_
      refine T_getI (pc := 54) h hs hk0 fl_X3_33 rfl dX3_flawOf_54 ?_
      refine T_iconst (pc := 57) h dX3_flawOf_57 ki_m1 ?_
      refine T_icmp_ne (pc := 58) (tgt := 65) h dX3_flawOf_58 (by decide) ?_ ?_
      · refine T_sub [1] rfl ?_
        exact t_X3_flawOf_L65 h hs x1 (s.2) hk1
      · refine T_iconst (pc := 61) h dX3_flawOf_61 ki_1 ?_
        refine T_goto (pc := 62) (tgt := 66) h dX3_flawOf_62 (by decide) ?_
        refine T_sub [1] rfl ?_
        exact t_X3_flawOf_L66 h hs x1 (1 : Int32) (s.2) hk1
  · refine T_aload_n (pc := 24) h dX3_flawOf_24 rfl 0 rfl ?_
    refine T_aload_n (pc := 25) h dX3_flawOf_25 rfl 1 rfl ?_
    refine T_gR (pc := 26) h hs hk1 fl_X3_44 rfl fk_4_0 dX3_flawOf_26 (fun hq1 => ?_)
    refine T_iload_n (pc := 29) h dX3_flawOf_29 rfl 2 rfl ?_
    refine T_iald (pc := 30) h hs hq1 dX3_flawOf_30 ?_
    refine T_callVi (pc := 31) h (M_X3_takes (kl K) hs x0 (gI (s.2) (gR (s.2) x1 0) (s.1).toNatClampNeg) (s.2) hk0) mv_X3_takes hs hk0 ml_X3_47 rfl ⟨Nat.le_of_ble_eq_true rfl, Nat.le_of_ble_eq_true rfl⟩ ⟨Nat.le_refl 0, Nat.le_refl 0⟩ (Nat.le_of_ble_eq_true rfl) dX3_flawOf_31 rfl (fun r3 s2 => ?_)
    refine T_if_ne (pc := 34) (tgt := 39) h dX3_flawOf_34 (by decide) ?_ ?_
    · refine T_iinc (fl := fun v4 => [(2, .int v4), (0, .ref x0), (1, .ref x1)]) (pc := 39) h dX3_flawOf_39 2 rfl ki_1 (by decide) (fun _ => rfl) (fun v4 => ?_)
      refine T_goto (pc := 42) (tgt := 16) h dX3_flawOf_42 (by decide) ?_
      refine T_sub [1, 2, 0] rfl ?_
      exact hr16 (v4, s2)
    · refine T_iload_n (pc := 37) h dX3_flawOf_37 rfl 2 rfl ?_
      exact T_ireturn (pc := 38) h (Nat.zero_le _) (Nat.zero_le _) dX3_flawOf_38
theorem t_X3_flawOf {K : Cx} (h : Ok K cX3_flawOf RX3 3 rm_X3_flawOf (some .int)) (hs : kiv K = St) (x0 : Nat) (x1 : Nat) (σ : Sg) (hk0 : kd x0 3) (hk1 : kd x1 4) : T K (QI K) 0 [(0, .ref x0), (1, .ref x1)] [] 0 0 σ (f_X3_flawOf x0 x1 σ) := by
  unfold f_X3_flawOf
  refine T_aload_n (pc := 0) h dX3_flawOf_0 rfl 0 rfl ?_
  refine T_iconst (pc := 1) h dX3_flawOf_1 ki_0 ?_
  refine T_putI (pc := 2) h hs hk0 fl_X3_29 rfl rfl dX3_flawOf_2 ?_
  refine T_letS fun s1 => ?_
  refine T_aload_n (pc := 5) h dX3_flawOf_5 rfl 0 rfl ?_
  refine T_iconst (pc := 6) h dX3_flawOf_6 ki_m1 ?_
  refine T_putI (pc := 7) h hs hk0 fl_X3_33 rfl rfl dX3_flawOf_7 ?_
  refine T_letS fun s2 => ?_
  refine T_aload_n (pc := 10) h dX3_flawOf_10 rfl 0 rfl ?_
  refine T_callVv (pc := 11) h (M_X3_endChord (kl K) hs x0 s2 hk0) mv_X3_endChord hs hk0 ml_X3_36 rfl ⟨Nat.le_of_ble_eq_true rfl, Nat.le_of_ble_eq_true rfl⟩ ⟨Nat.le_refl 0, Nat.le_refl 0⟩ (Nat.le_of_ble_eq_true rfl) dX3_flawOf_11 rfl (fun _ s3 => ?_)
  refine T_iconst (pc := 14) h dX3_flawOf_14 ki_0 ?_
  refine T_istore_n (lv' := [(2, .int (0 : Int32)), (0, .ref x0), (1, .ref x1)]) (pc := 15) h dX3_flawOf_15 rfl (by decide) rfl ?_
  refine T_sub [1, 2, 0] rfl ?_
  exact T_fx (B := f_X3_flawOf_L16 x0 x1) (fl := fun u => [(0, .ref x0), (1, .ref x1), (2, .int (u.1))]) (f := fun u => (u.2)) (fun rec16 hr16 u => t_X3_flawOf_L16 h hs x0 x1 hk0 hk1 rec16 hr16 u) FU ((0 : Int32), s3)
theorem M_X3_flawOf (l : Launch) {iv : Sg → Prop} (hi : iv = St) (x0 : Nat) (x1 : Nat) (σ : Sg) (hk0 : kd x0 3) (hk1 : kd x1 4) : CTi l yX3_flawOf cX3_flawOf 3 (some .int) rm_X3_flawOf iv [.ref x0, .ref x1] σ (f_X3_flawOf x0 x1 σ) := by
  subst hi
  exact CT_of (by decide) (Nat.le_of_ble_eq_true rfl) (fun K _ h _ hs _ _ => t_X3_flawOf h hs x0 x1 σ hk0 hk1)
