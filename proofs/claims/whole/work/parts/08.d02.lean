/-! LuteTabs.cost()I -/
theorem dX8_cost_0 : decode cX8_cost 0 = .ok (.aload_n 0, 1) := by decide +kernel
theorem dX8_cost_1 : decode cX8_cost 1 = .ok (.getfield 81, 3) := by decide +kernel
theorem dX8_cost_4 : decode cX8_cost 4 = .ok (.ifCond .eq 10, 3) := by decide +kernel
theorem dX8_cost_7 : decode cX8_cost 7 = .ok (.aload_n 0, 1) := by decide +kernel
theorem dX8_cost_8 : decode cX8_cost 8 = .ok (.invokevirtual 186, 3) := by decide +kernel
theorem dX8_cost_11 : decode cX8_cost 11 = .ok (.goto 5, 3) := by decide +kernel
theorem dX8_cost_14 : decode cX8_cost 14 = .ok (.bipush (-3), 2) := by decide +kernel
theorem dX8_cost_16 : decode cX8_cost 16 = .ok (.ireturn, 1) := by decide +kernel
abbrev rm_X8_cost : Room := { frames := 4, cells := 0, slots := 0, locals := 94 }
def f_X8_cost_L16   (y0 : Int32) (σ : Sg) : Option (Int32 × Sg) := some (y0, σ)
def f_X8_cost (x0 : Nat) (σ : Sg) : Option (Int32 × Sg) := (if (gI σ x0 11) = 0 then f_X8_cost_L16 (-3 : Int32) σ else bd (f_X8_costOfLaid x0 σ) fun r2 s1 => f_X8_cost_L16 r2 s1)
theorem t_X8_cost_L16 {K : Cx} (h : Ok K cX8_cost RX8 1 rm_X8_cost (some .int)) (hs : kiv K = St)  (y0 : Int32) (σ : Sg)    : T K (QI K) 16 [] [.int y0] 0 0 σ (f_X8_cost_L16 y0 σ) := by
  unfold f_X8_cost_L16
  exact T_ireturn (pc := 16) h (Nat.zero_le _) (Nat.zero_le _) dX8_cost_16
theorem t_X8_cost {K : Cx} (h : Ok K cX8_cost RX8 1 rm_X8_cost (some .int)) (hs : kiv K = St) (x0 : Nat) (σ : Sg) (hk0 : kd x0 8) : T K (QI K) 0 [(0, .ref x0)] [] 0 0 σ (f_X8_cost x0 σ) := by
  unfold f_X8_cost
  refine T_aload_n (pc := 0) h dX8_cost_0 rfl 0 rfl ?_
  refine T_getI (pc := 1) h hs hk0 fl_X8_81 rfl dX8_cost_1 ?_
  refine T_if_eq (pc := 4) (tgt := 14) h dX8_cost_4 (by decide) ?_ ?_
  · refine T_bipush (pc := 14) h dX8_cost_14 kb_m3 ?_
    refine T_sub [] rfl ?_
    exact t_X8_cost_L16 h hs (-3 : Int32) σ
  · refine T_aload_n (pc := 7) h dX8_cost_7 rfl 0 rfl ?_
    refine T_callVi (pc := 8) h (M_X8_costOfLaid (kl K) hs x0 σ hk0) mv_X8_costOfLaid hs hk0 ml_X8_186 rfl ⟨Nat.le_of_ble_eq_true rfl, Nat.le_of_ble_eq_true rfl⟩ ⟨Nat.le_refl 0, Nat.le_refl 0⟩ (Nat.le_of_ble_eq_true rfl) dX8_cost_8 rfl (fun r2 s1 => ?_)
    refine T_goto (pc := 11) (tgt := 16) h dX8_cost_11 (by decide) ?_
    refine T_sub [] rfl ?_
    exact t_X8_cost_L16 h hs r2 s1
theorem M_X8_cost (l : Launch) {iv : Sg → Prop} (hi : iv = St) (x0 : Nat) (σ : Sg) (hk0 : kd x0 8) : CTi l yX8_cost cX8_cost 1 (some .int) rm_X8_cost iv [.ref x0] σ (f_X8_cost x0 σ) := by
  subst hi
  exact CT_of (by decide) (Nat.le_of_ble_eq_true rfl) (fun K _ h _ hs _ _ => t_X8_cost h hs x0 σ hk0)
/-! LuteTabs.ofLaidChord(II)I -/
theorem dX8_ofLaidChord_0 : decode cX8_ofLaidChord 0 = .ok (.iconst 0, 1) := by decide +kernel
theorem dX8_ofLaidChord_1 : decode cX8_ofLaidChord 1 = .ok (.istore_n 3, 1) := by decide +kernel
theorem dX8_ofLaidChord_2 : decode cX8_ofLaidChord 2 = .ok (.iload_n 1, 1) := by decide +kernel
theorem dX8_ofLaidChord_3 : decode cX8_ofLaidChord 3 = .ok (.ifCond .le 26, 3) := by decide +kernel
theorem dX8_ofLaidChord_6 : decode cX8_ofLaidChord 6 = .ok (.aload_n 0, 1) := by decide +kernel
theorem dX8_ofLaidChord_7 : decode cX8_ofLaidChord 7 = .ok (.getfield 28, 3) := by decide +kernel
theorem dX8_ofLaidChord_10 : decode cX8_ofLaidChord 10 = .ok (.iload_n 1, 1) := by decide +kernel
theorem dX8_ofLaidChord_11 : decode cX8_ofLaidChord 11 = .ok (.iconst 1, 1) := by decide +kernel
theorem dX8_ofLaidChord_12 : decode cX8_ofLaidChord 12 = .ok (.isub, 1) := by decide +kernel
theorem dX8_ofLaidChord_13 : decode cX8_ofLaidChord 13 = .ok (.aload_n 0, 1) := by decide +kernel
theorem dX8_ofLaidChord_14 : decode cX8_ofLaidChord 14 = .ok (.getfield 77, 3) := by decide +kernel
theorem dX8_ofLaidChord_17 : decode cX8_ofLaidChord 17 = .ok (.iconst 0, 1) := by decide +kernel
theorem dX8_ofLaidChord_18 : decode cX8_ofLaidChord 18 = .ok (.invokevirtual 356, 3) := by decide +kernel
theorem dX8_ofLaidChord_21 : decode cX8_ofLaidChord 21 = .ok (.aload_n 0, 1) := by decide +kernel
theorem dX8_ofLaidChord_22 : decode cX8_ofLaidChord 22 = .ok (.getfield 28, 3) := by decide +kernel
theorem dX8_ofLaidChord_25 : decode cX8_ofLaidChord 25 = .ok (.getfield 364, 3) := by decide +kernel
theorem dX8_ofLaidChord_28 : decode cX8_ofLaidChord 28 = .ok (.istore_n 3, 1) := by decide +kernel
theorem dX8_ofLaidChord_29 : decode cX8_ofLaidChord 29 = .ok (.aload_n 0, 1) := by decide +kernel
theorem dX8_ofLaidChord_30 : decode cX8_ofLaidChord 30 = .ok (.getfield 28, 3) := by decide +kernel
theorem dX8_ofLaidChord_33 : decode cX8_ofLaidChord 33 = .ok (.iload_n 1, 1) := by decide +kernel
theorem dX8_ofLaidChord_34 : decode cX8_ofLaidChord 34 = .ok (.aload_n 0, 1) := by decide +kernel
theorem dX8_ofLaidChord_35 : decode cX8_ofLaidChord 35 = .ok (.getfield 77, 3) := by decide +kernel
theorem dX8_ofLaidChord_38 : decode cX8_ofLaidChord 38 = .ok (.iconst 0, 1) := by decide +kernel
theorem dX8_ofLaidChord_39 : decode cX8_ofLaidChord 39 = .ok (.invokevirtual 356, 3) := by decide +kernel
theorem dX8_ofLaidChord_42 : decode cX8_ofLaidChord 42 = .ok (.iload_n 2, 1) := by decide +kernel
theorem dX8_ofLaidChord_43 : decode cX8_ofLaidChord 43 = .ok (.iconst 3, 1) := by decide +kernel
theorem dX8_ofLaidChord_44 : decode cX8_ofLaidChord 44 = .ok (.if_icmp .ne 11, 3) := by decide +kernel
theorem dX8_ofLaidChord_47 : decode cX8_ofLaidChord 47 = .ok (.aload_n 0, 1) := by decide +kernel
theorem dX8_ofLaidChord_48 : decode cX8_ofLaidChord 48 = .ok (.getfield 28, 3) := by decide +kernel
theorem dX8_ofLaidChord_51 : decode cX8_ofLaidChord 51 = .ok (.getfield 364, 3) := by decide +kernel
theorem dX8_ofLaidChord_54 : decode cX8_ofLaidChord 54 = .ok (.ireturn, 1) := by decide +kernel
theorem dX8_ofLaidChord_55 : decode cX8_ofLaidChord 55 = .ok (.iload_n 2, 1) := by decide +kernel
theorem dX8_ofLaidChord_56 : decode cX8_ofLaidChord 56 = .ok (.iconst 4, 1) := by decide +kernel
theorem dX8_ofLaidChord_57 : decode cX8_ofLaidChord 57 = .ok (.if_icmp .ne 11, 3) := by decide +kernel
theorem dX8_ofLaidChord_60 : decode cX8_ofLaidChord 60 = .ok (.aload_n 0, 1) := by decide +kernel
theorem dX8_ofLaidChord_61 : decode cX8_ofLaidChord 61 = .ok (.getfield 28, 3) := by decide +kernel
theorem dX8_ofLaidChord_64 : decode cX8_ofLaidChord 64 = .ok (.getfield 370, 3) := by decide +kernel
theorem dX8_ofLaidChord_67 : decode cX8_ofLaidChord 67 = .ok (.ireturn, 1) := by decide +kernel
theorem dX8_ofLaidChord_68 : decode cX8_ofLaidChord 68 = .ok (.iload_n 2, 1) := by decide +kernel
theorem dX8_ofLaidChord_69 : decode cX8_ofLaidChord 69 = .ok (.iconst 5, 1) := by decide +kernel
theorem dX8_ofLaidChord_70 : decode cX8_ofLaidChord 70 = .ok (.if_icmp .ne 19, 3) := by decide +kernel
theorem dX8_ofLaidChord_73 : decode cX8_ofLaidChord 73 = .ok (.aload_n 0, 1) := by decide +kernel
theorem dX8_ofLaidChord_74 : decode cX8_ofLaidChord 74 = .ok (.getfield 28, 3) := by decide +kernel
theorem dX8_ofLaidChord_77 : decode cX8_ofLaidChord 77 = .ok (.getfield 373, 3) := by decide +kernel
theorem dX8_ofLaidChord_80 : decode cX8_ofLaidChord 80 = .ok (.ifCond .eq 7, 3) := by decide +kernel
theorem dX8_ofLaidChord_83 : decode cX8_ofLaidChord 83 = .ok (.iconst 1, 1) := by decide +kernel
theorem dX8_ofLaidChord_84 : decode cX8_ofLaidChord 84 = .ok (.goto 4, 3) := by decide +kernel
theorem dX8_ofLaidChord_87 : decode cX8_ofLaidChord 87 = .ok (.iconst 0, 1) := by decide +kernel
theorem dX8_ofLaidChord_88 : decode cX8_ofLaidChord 88 = .ok (.ireturn, 1) := by decide +kernel
theorem dX8_ofLaidChord_89 : decode cX8_ofLaidChord 89 = .ok (.aload_n 0, 1) := by decide +kernel
theorem dX8_ofLaidChord_90 : decode cX8_ofLaidChord 90 = .ok (.getfield 28, 3) := by decide +kernel
theorem dX8_ofLaidChord_93 : decode cX8_ofLaidChord 93 = .ok (.invokevirtual 361, 3) := by decide +kernel
theorem dX8_ofLaidChord_96 : decode cX8_ofLaidChord 96 = .ok (.aload_n 0, 1) := by decide +kernel
theorem dX8_ofLaidChord_97 : decode cX8_ofLaidChord 97 = .ok (.getfield 10, 3) := by decide +kernel
theorem dX8_ofLaidChord_100 : decode cX8_ofLaidChord 100 = .ok (.iload_n 3, 1) := by decide +kernel
theorem dX8_ofLaidChord_101 : decode cX8_ofLaidChord 101 = .ok (.aload_n 0, 1) := by decide +kernel
theorem dX8_ofLaidChord_102 : decode cX8_ofLaidChord 102 = .ok (.getfield 28, 3) := by decide +kernel
theorem dX8_ofLaidChord_105 : decode cX8_ofLaidChord 105 = .ok (.getfield 364, 3) := by decide +kernel
theorem dX8_ofLaidChord_108 : decode cX8_ofLaidChord 108 = .ok (.invokevirtual 367, 3) := by decide +kernel
theorem dX8_ofLaidChord_111 : decode cX8_ofLaidChord 111 = .ok (.iadd, 1) := by decide +kernel
theorem dX8_ofLaidChord_112 : decode cX8_ofLaidChord 112 = .ok (.ireturn, 1) := by decide +kernel
abbrev rm_X8_ofLaidChord : Room := { frames := 3, cells := 0, slots := 0, locals := 71 }
def f_X8_ofLaidChord_L88   (y0 : Int32) (σ : Sg) : Option (Int32 × Sg) := some (y0, σ)
def f_X8_ofLaidChord_L29  (x0 : Nat) (x1 : Int32) (x2 : Int32) (x3 : Int32)  (σ : Sg) : Option (Int32 × Sg) := bd (f_X0_look (gR σ x0 2) x1 (gR σ x0 10) (0 : Int32) σ) fun _ s3 => (if x2 = (3 : Int32) then some ((gI s3 (gR s3 x0 2) 2), s3) else (if x2 = (4 : Int32) then some ((gI s3 (gR s3 x0 2) 3), s3) else (if x2 = (5 : Int32) then (if (gI s3 (gR s3 x0 2) 4) = 0 then f_X8_ofLaidChord_L88 (0 : Int32) s3 else f_X8_ofLaidChord_L88 (1 : Int32) s3) else bd (f_X0_charge (gR s3 x0 2) s3) fun r6 s5 => bd (f_X1_chargeOfShift (gR s5 x0 0) x3 (gI s5 (gR s5 x0 2) 2) s5) fun r10 s9 => some ((r6 + r10), s9))))
def f_X8_ofLaidChord (x0 : Nat) (x1 : Int32) (x2 : Int32) (σ : Sg) : Option (Int32 × Sg) := (if x1 ≤ 0 then f_X8_ofLaidChord_L29 x0 x1 x2 (0 : Int32) σ else bd (f_X0_look (gR σ x0 2) (x1 - (1 : Int32)) (gR σ x0 10) (0 : Int32) σ) fun _ s3 => lB ((gI s3 (gR s3 x0 2) 2)) fun v5 => f_X8_ofLaidChord_L29 x0 x1 x2 v5 s3)
theorem t_X8_ofLaidChord_L88 {K : Cx} (h : Ok K cX8_ofLaidChord RX8 4 rm_X8_ofLaidChord (some .int)) (hs : kiv K = St)  (y0 : Int32) (σ : Sg)    : T K (QI K) 88 [] [.int y0] 0 0 σ (f_X8_ofLaidChord_L88 y0 σ) := by
  unfold f_X8_ofLaidChord_L88
  exact T_ireturn (pc := 88) h (Nat.zero_le _) (Nat.zero_le _) dX8_ofLaidChord_88
theorem t_X8_ofLaidChord_L29 {K : Cx} (h : Ok K cX8_ofLaidChord RX8 4 rm_X8_ofLaidChord (some .int)) (hs : kiv K = St) (x0 : Nat) (x1 : Int32) (x2 : Int32) (x3 : Int32)  (σ : Sg)  (hk0 : kd x0 8)  : T K (QI K) 29 [(0, .ref x0), (1, .int x1), (2, .int x2), (3, .int x3)] [] 0 0 σ (f_X8_ofLaidChord_L29 x0 x1 x2 x3 σ) := by
  unfold f_X8_ofLaidChord_L29
  refine T_aload_n (pc := 29) h dX8_ofLaidChord_29 rfl 0 rfl ?_
  refine T_gR (pc := 30) h hs hk0 fl_X8_28 rfl fk_8_2 dX8_ofLaidChord_30 (fun hq1 => ?_)
  refine T_iload_n (pc := 33) h dX8_ofLaidChord_33 rfl 1 rfl ?_
  refine T_aload_n (pc := 34) h dX8_ofLaidChord_34 rfl 0 rfl ?_
  refine T_gR (pc := 35) h hs hk0 fl_X8_77 rfl fk_8_10 dX8_ofLaidChord_35 (fun hq2 => ?_)
  refine T_iconst (pc := 38) h dX8_ofLaidChord_38 ki_0 ?_
  refine T_callVv (pc := 39) h (M_X0_look (kl K) hs (gR σ x0 2) x1 (gR σ x0 10) (0 : Int32) σ hq1 hq2) mv_X0_look hs hq1 ml_X8_356 rfl ⟨Nat.le_of_ble_eq_true rfl, Nat.le_of_ble_eq_true rfl⟩ ⟨Nat.le_refl 0, Nat.le_refl 0⟩ (Nat.le_of_ble_eq_true rfl) dX8_ofLaidChord_39 rfl (fun _ s3 => ?_)
  refine T_iload_n (pc := 42) h dX8_ofLaidChord_42 rfl 2 rfl ?_
  refine T_iconst (pc := 43) h dX8_ofLaidChord_43 ki_3 ?_
  refine T_icmp_ne (pc := 44) (tgt := 55) h dX8_ofLaidChord_44 (by decide) ?_ ?_
  · refine T_iload_n (pc := 55) h dX8_ofLaidChord_55 rfl 2 rfl ?_
    refine T_iconst (pc := 56) h dX8_ofLaidChord_56 ki_4 ?_
    refine T_icmp_ne (pc := 57) (tgt := 68) h dX8_ofLaidChord_57 (by decide) ?_ ?_
    · refine T_iload_n (pc := 68) h dX8_ofLaidChord_68 rfl 2 rfl ?_
      refine T_iconst (pc := 69) h dX8_ofLaidChord_69 ki_5 ?_
      refine T_icmp_ne (pc := 70) (tgt := 89) h dX8_ofLaidChord_70 (by decide) ?_ ?_
      · refine T_aload_n (pc := 89) h dX8_ofLaidChord_89 rfl 0 rfl ?_
        refine T_gR (pc := 90) h hs hk0 fl_X8_28 rfl fk_8_2 dX8_ofLaidChord_90 (fun hq4 => ?_)
        refine T_callVi (pc := 93) h (M_X0_charge (kl K) hs (gR s3 x0 2) s3 hq4) mv_X0_charge hs hq4 ml_X8_361 rfl ⟨Nat.le_of_ble_eq_true rfl, Nat.le_of_ble_eq_true rfl⟩ ⟨Nat.le_refl 0, Nat.le_refl 0⟩ (Nat.le_of_ble_eq_true rfl) dX8_ofLaidChord_93 rfl (fun r6 s5 => ?_)
        refine T_aload_n (pc := 96) h dX8_ofLaidChord_96 rfl 0 rfl ?_
        refine T_gR (pc := 97) h hs hk0 fl_X8_10 rfl fk_8_0 dX8_ofLaidChord_97 (fun hq7 => ?_)
        refine T_iload_n (pc := 100) h dX8_ofLaidChord_100 rfl 3 rfl ?_
        refine T_aload_n (pc := 101) h dX8_ofLaidChord_101 rfl 0 rfl ?_
        refine T_gR (pc := 102) h hs hk0 fl_X8_28 rfl fk_8_2 dX8_ofLaidChord_102 (fun hq8 => ?_)
        refine T_getI (pc := 105) h hs hq8 fl_X8_364 rfl dX8_ofLaidChord_105 ?_
        refine T_callVi (pc := 108) h (M_X1_chargeOfShift (kl K) hs (gR s5 x0 0) x3 (gI s5 (gR s5 x0 2) 2) s5 hq7) mv_X1_chargeOfShift hs hq7 ml_X8_367 rfl ⟨Nat.le_of_ble_eq_true rfl, Nat.le_of_ble_eq_true rfl⟩ ⟨Nat.le_refl 0, Nat.le_refl 0⟩ (Nat.le_of_ble_eq_true rfl) dX8_ofLaidChord_108 rfl (fun r10 s9 => ?_)
        refine T_iadd (pc := 111) h dX8_ofLaidChord_111 ?_
        exact T_ireturn (pc := 112) h (Nat.zero_le _) (Nat.zero_le _) dX8_ofLaidChord_112
      · refine T_aload_n (pc := 73) h dX8_ofLaidChord_73 rfl 0 rfl ?_
        refine T_gR (pc := 74) h hs hk0 fl_X8_28 rfl fk_8_2 dX8_ofLaidChord_74 (fun hq11 => ?_)
        refine T_getI (pc := 77) h hs hq11 fl_X8_373 rfl dX8_ofLaidChord_77 ?_
        refine T_if_eq (pc := 80) (tgt := 87) h dX8_ofLaidChord_80 (by decide) ?_ ?_
        · refine T_iconst (pc := 87) h dX8_ofLaidChord_87 ki_0 ?_
          refine T_sub [] rfl ?_
          exact t_X8_ofLaidChord_L88 h hs (0 : Int32) s3
        · refine T_iconst (pc := 83) h dX8_ofLaidChord_83 ki_1 ?_
          refine T_goto (pc := 84) (tgt := 88) h dX8_ofLaidChord_84 (by decide) ?_
          refine T_sub [] rfl ?_
          exact t_X8_ofLaidChord_L88 h hs (1 : Int32) s3
    · refine T_aload_n (pc := 60) h dX8_ofLaidChord_60 rfl 0 rfl ?_
      refine T_gR (pc := 61) h hs hk0 fl_X8_28 rfl fk_8_2 dX8_ofLaidChord_61 (fun hq12 => ?_)
      refine T_getI (pc := 64) h hs hq12 fl_X8_370 rfl dX8_ofLaidChord_64 ?_
      exact T_ireturn (pc := 67) h (Nat.zero_le _) (Nat.zero_le _) dX8_ofLaidChord_67
  · refine T_aload_n (pc := 47) h dX8_ofLaidChord_47 rfl 0 rfl ?_
    refine T_gR (pc := 48) h hs hk0 fl_X8_28 rfl fk_8_2 dX8_ofLaidChord_48 (fun hq13 => ?_)
    refine T_getI (pc := 51) h hs hq13 fl_X8_364 rfl dX8_ofLaidChord_51 ?_
    exact T_ireturn (pc := 54) h (Nat.zero_le _) (Nat.zero_le _) dX8_ofLaidChord_54
theorem t_X8_ofLaidChord {K : Cx} (h : Ok K cX8_ofLaidChord RX8 4 rm_X8_ofLaidChord (some .int)) (hs : kiv K = St) (x0 : Nat) (x1 : Int32) (x2 : Int32) (σ : Sg) (hk0 : kd x0 8) : T K (QI K) 0 [(0, .ref x0), (1, .int x1), (2, .int x2)] [] 0 0 σ (f_X8_ofLaidChord x0 x1 x2 σ) := by
  unfold f_X8_ofLaidChord
  refine T_iconst (pc := 0) h dX8_ofLaidChord_0 ki_0 ?_
  refine T_istore_n (lv' := [(3, .int (0 : Int32)), (0, .ref x0), (1, .int x1), (2, .int x2)]) (pc := 1) h dX8_ofLaidChord_1 rfl (by decide) rfl ?_
  refine T_iload_n (pc := 2) h dX8_ofLaidChord_2 rfl 2 rfl ?_
  refine T_if_le (pc := 3) (tgt := 29) h dX8_ofLaidChord_3 (by decide) ?_ ?_
  · refine T_sub [1, 2, 3, 0] rfl ?_
    exact t_X8_ofLaidChord_L29 h hs x0 x1 x2 (0 : Int32) σ hk0
  · refine T_aload_n (pc := 6) h dX8_ofLaidChord_6 rfl 1 rfl ?_
    refine T_gR (pc := 7) h hs hk0 fl_X8_28 rfl fk_8_2 dX8_ofLaidChord_7 (fun hq1 => ?_)
    refine T_iload_n (pc := 10) h dX8_ofLaidChord_10 rfl 2 rfl ?_
    refine T_iconst (pc := 11) h dX8_ofLaidChord_11 ki_1 ?_
    refine T_isub (pc := 12) h dX8_ofLaidChord_12 ?_
    refine T_aload_n (pc := 13) h dX8_ofLaidChord_13 rfl 1 rfl ?_
    refine T_gR (pc := 14) h hs hk0 fl_X8_77 rfl fk_8_10 dX8_ofLaidChord_14 (fun hq2 => ?_)
    refine T_iconst (pc := 17) h dX8_ofLaidChord_17 ki_0 ?_
    refine T_callVv (pc := 18) h (M_X0_look (kl K) hs (gR σ x0 2) (x1 - (1 : Int32)) (gR σ x0 10) (0 : Int32) σ hq1 hq2) mv_X0_look hs hq1 ml_X8_356 rfl ⟨Nat.le_of_ble_eq_true rfl, Nat.le_of_ble_eq_true rfl⟩ ⟨Nat.le_refl 0, Nat.le_refl 0⟩ (Nat.le_of_ble_eq_true rfl) dX8_ofLaidChord_18 rfl (fun _ s3 => ?_)
    refine T_aload_n (pc := 21) h dX8_ofLaidChord_21 rfl 1 rfl ?_
    refine T_gR (pc := 22) h hs hk0 fl_X8_28 rfl fk_8_2 dX8_ofLaidChord_22 (fun hq4 => ?_)
    refine T_getI (pc := 25) h hs hq4 fl_X8_364 rfl dX8_ofLaidChord_25 ?_
    refine T_letI fun v5 => ?_
    refine T_istore_n (lv' := [(3, .int v5), (0, .ref x0), (1, .int x1), (2, .int x2)]) (pc := 28) h dX8_ofLaidChord_28 rfl (by decide) rfl ?_
    refine T_sub [1, 2, 3, 0] rfl ?_
    exact t_X8_ofLaidChord_L29 h hs x0 x1 x2 v5 s3 hk0
theorem M_X8_ofLaidChord (l : Launch) {iv : Sg → Prop} (hi : iv = St) (x0 : Nat) (x1 : Int32) (x2 : Int32) (σ : Sg) (hk0 : kd x0 8) : CTi l yX8_ofLaidChord cX8_ofLaidChord 4 (some .int) rm_X8_ofLaidChord iv [.ref x0, .int x1, .int x2] σ (f_X8_ofLaidChord x0 x1 x2 σ) := by
  subst hi
  exact CT_of (by decide) (Nat.le_of_ble_eq_true rfl) (fun K _ h _ hs _ _ => t_X8_ofLaidChord h hs x0 x1 x2 σ hk0)
/-! LuteTabs.chord(II)I -/
theorem dX8_chord_0 : decode cX8_chord 0 = .ok (.aload_n 0, 1) := by decide +kernel
theorem dX8_chord_1 : decode cX8_chord 1 = .ok (.getfield 19, 3) := by decide +kernel
theorem dX8_chord_4 : decode cX8_chord 4 = .ok (.iload_n 1, 1) := by decide +kernel
theorem dX8_chord_5 : decode cX8_chord 5 = .ok (.invokevirtual 189, 3) := by decide +kernel
theorem dX8_chord_8 : decode cX8_chord 8 = .ok (.ifCond .eq 13, 3) := by decide +kernel
theorem dX8_chord_11 : decode cX8_chord 11 = .ok (.iload_n 2, 1) := by decide +kernel
theorem dX8_chord_12 : decode cX8_chord 12 = .ok (.ifCond .lt 9, 3) := by decide +kernel
theorem dX8_chord_15 : decode cX8_chord 15 = .ok (.iload_n 2, 1) := by decide +kernel
theorem dX8_chord_16 : decode cX8_chord 16 = .ok (.bipush 6, 2) := by decide +kernel
theorem dX8_chord_18 : decode cX8_chord 18 = .ok (.if_icmp .le 6, 3) := by decide +kernel
theorem dX8_chord_21 : decode cX8_chord 21 = .ok (.bipush (-2), 2) := by decide +kernel
theorem dX8_chord_23 : decode cX8_chord 23 = .ok (.ireturn, 1) := by decide +kernel
theorem dX8_chord_24 : decode cX8_chord 24 = .ok (.iload_n 2, 1) := by decide +kernel
theorem dX8_chord_25 : decode cX8_chord 25 = .ok (.ifCond .ne 12, 3) := by decide +kernel
theorem dX8_chord_28 : decode cX8_chord 28 = .ok (.aload_n 0, 1) := by decide +kernel
theorem dX8_chord_29 : decode cX8_chord 29 = .ok (.getfield 19, 3) := by decide +kernel
theorem dX8_chord_32 : decode cX8_chord 32 = .ok (.iload_n 1, 1) := by decide +kernel
theorem dX8_chord_33 : decode cX8_chord 33 = .ok (.invokevirtual 192, 3) := by decide +kernel
theorem dX8_chord_36 : decode cX8_chord 36 = .ok (.ireturn, 1) := by decide +kernel
theorem dX8_chord_37 : decode cX8_chord 37 = .ok (.iload_n 2, 1) := by decide +kernel
theorem dX8_chord_38 : decode cX8_chord 38 = .ok (.iconst 1, 1) := by decide +kernel
theorem dX8_chord_39 : decode cX8_chord 39 = .ok (.if_icmp .ne 25, 3) := by decide +kernel
theorem dX8_chord_42 : decode cX8_chord 42 = .ok (.aload_n 0, 1) := by decide +kernel
theorem dX8_chord_43 : decode cX8_chord 43 = .ok (.getfield 19, 3) := by decide +kernel
theorem dX8_chord_46 : decode cX8_chord 46 = .ok (.getfield 195, 3) := by decide +kernel
theorem dX8_chord_49 : decode cX8_chord 49 = .ok (.iload_n 1, 1) := by decide +kernel
theorem dX8_chord_50 : decode cX8_chord 50 = .ok (.iconst 1, 1) := by decide +kernel
theorem dX8_chord_51 : decode cX8_chord 51 = .ok (.iadd, 1) := by decide +kernel
theorem dX8_chord_52 : decode cX8_chord 52 = .ok (.iaload, 1) := by decide +kernel
theorem dX8_chord_53 : decode cX8_chord 53 = .ok (.aload_n 0, 1) := by decide +kernel
theorem dX8_chord_54 : decode cX8_chord 54 = .ok (.getfield 19, 3) := by decide +kernel
theorem dX8_chord_57 : decode cX8_chord 57 = .ok (.getfield 195, 3) := by decide +kernel
theorem dX8_chord_60 : decode cX8_chord 60 = .ok (.iload_n 1, 1) := by decide +kernel
theorem dX8_chord_61 : decode cX8_chord 61 = .ok (.iaload, 1) := by decide +kernel
theorem dX8_chord_62 : decode cX8_chord 62 = .ok (.isub, 1) := by decide +kernel
theorem dX8_chord_63 : decode cX8_chord 63 = .ok (.ireturn, 1) := by decide +kernel
theorem dX8_chord_64 : decode cX8_chord 64 = .ok (.iload_n 2, 1) := by decide +kernel
theorem dX8_chord_65 : decode cX8_chord 65 = .ok (.iconst 2, 1) := by decide +kernel
theorem dX8_chord_66 : decode cX8_chord 66 = .ok (.if_icmp .ne 16, 3) := by decide +kernel
theorem dX8_chord_69 : decode cX8_chord 69 = .ok (.aload_n 0, 1) := by decide +kernel
theorem dX8_chord_70 : decode cX8_chord 70 = .ok (.getfield 19, 3) := by decide +kernel
theorem dX8_chord_73 : decode cX8_chord 73 = .ok (.getfield 198, 3) := by decide +kernel
theorem dX8_chord_76 : decode cX8_chord 76 = .ok (.iload_n 1, 1) := by decide +kernel
theorem dX8_chord_77 : decode cX8_chord 77 = .ok (.iaload, 1) := by decide +kernel
theorem dX8_chord_78 : decode cX8_chord 78 = .ok (.invokestatic 201, 3) := by decide +kernel
theorem dX8_chord_81 : decode cX8_chord 81 = .ok (.ireturn, 1) := by decide +kernel
theorem dX8_chord_82 : decode cX8_chord 82 = .ok (.aload_n 0, 1) := by decide +kernel
theorem dX8_chord_83 : decode cX8_chord 83 = .ok (.getfield 81, 3) := by decide +kernel
theorem dX8_chord_86 : decode cX8_chord 86 = .ok (.ifCond .eq 12, 3) := by decide +kernel
theorem dX8_chord_89 : decode cX8_chord 89 = .ok (.aload_n 0, 1) := by decide +kernel
theorem dX8_chord_90 : decode cX8_chord 90 = .ok (.iload_n 1, 1) := by decide +kernel
theorem dX8_chord_91 : decode cX8_chord 91 = .ok (.iload_n 2, 1) := by decide +kernel
theorem dX8_chord_92 : decode cX8_chord 92 = .ok (.invokevirtual 206, 3) := by decide +kernel
theorem dX8_chord_95 : decode cX8_chord 95 = .ok (.goto 5, 3) := by decide +kernel
theorem dX8_chord_98 : decode cX8_chord 98 = .ok (.bipush (-3), 2) := by decide +kernel
theorem dX8_chord_100 : decode cX8_chord 100 = .ok (.ireturn, 1) := by decide +kernel
abbrev rm_X8_chord : Room := { frames := 4, cells := 0, slots := 0, locals := 94 }
def f_X8_chord_L21    (σ : Sg) : Option (Int32 × Sg) := some ((-2 : Int32), σ)
def f_X8_chord_L100   (y0 : Int32) (σ : Sg) : Option (Int32 × Sg) := some (y0, σ)
def f_X8_chord (x0 : Nat) (x1 : Int32) (x2 : Int32) (σ : Sg) : Option (Int32 × Sg) := bd (f_X2_hasChord (gR σ x0 1) x1 σ) fun r3 s2 => (if r3 = 0 then f_X8_chord_L21 s2 else (if x2 < 0 then f_X8_chord_L21 s2 else (if x2 ≤ (6 : Int32) then (if x2 = 0 then bd (f_X2_timeOfChord (gR s2 x0 1) x1 s2) fun r16 s15 => some (r16, s15) else (if x2 = (1 : Int32) then ck (inb (x1 + (1 : Int32)) (aL (gR s2 (gR s2 x0 1) 4))) (ck (inb x1 (aL (gR s2 (gR s2 x0 1) 4))) (some (((gI s2 (gR s2 (gR s2 x0 1) 4) (x1 + (1 : Int32)).toNatClampNeg) - (gI s2 (gR s2 (gR s2 x0 1) 4) x1.toNatClampNeg)), s2))) else (if x2 = (2 : Int32) then ck (inb x1 (aL (gR s2 (gR s2 x0 1) 5))) (bd (f_J6_bitCount_0f7a4 (gI s2 (gR s2 (gR s2 x0 1) 5) x1.toNatClampNeg) s2) fun r9 s8 => some (r9, s8)) else (if (gI s2 x0 11) = 0 then f_X8_chord_L100 (-3 : Int32) s2 else bd (f_X8_ofLaidChord x0 x1 x2 s2) fun r5 s4 => f_X8_chord_L100 r5 s4)))) else f_X8_chord_L21 s2)))
theorem t_X8_chord_L21 {K : Cx} (h : Ok K cX8_chord RX8 3 rm_X8_chord (some .int)) (hs : kiv K = St)   (σ : Sg)    : T K (QI K) 21 [] [] 0 0 σ (f_X8_chord_L21 σ) := by
  unfold f_X8_chord_L21
  refine T_bipush (pc := 21) h dX8_chord_21 kb_m2 ?_
  exact T_ireturn (pc := 23) h (Nat.zero_le _) (Nat.zero_le _) dX8_chord_23
theorem t_X8_chord_L100 {K : Cx} (h : Ok K cX8_chord RX8 3 rm_X8_chord (some .int)) (hs : kiv K = St)  (y0 : Int32) (σ : Sg)    : T K (QI K) 100 [] [.int y0] 0 0 σ (f_X8_chord_L100 y0 σ) := by
  unfold f_X8_chord_L100
  exact T_ireturn (pc := 100) h (Nat.zero_le _) (Nat.zero_le _) dX8_chord_100
theorem t_X8_chord {K : Cx} (h : Ok K cX8_chord RX8 3 rm_X8_chord (some .int)) (hs : kiv K = St) (x0 : Nat) (x1 : Int32) (x2 : Int32) (σ : Sg) (hk0 : kd x0 8) : T K (QI K) 0 [(0, .ref x0), (1, .int x1), (2, .int x2)] [] 0 0 σ (f_X8_chord x0 x1 x2 σ) := by
  unfold f_X8_chord
  refine T_aload_n (pc := 0) h dX8_chord_0 rfl 0 rfl ?_
  refine T_gR (pc := 1) h hs hk0 fl_X8_19 rfl fk_8_1 dX8_chord_1 (fun hq1 => ?_)
  refine T_iload_n (pc := 4) h dX8_chord_4 rfl 1 rfl ?_
  refine T_callVi (pc := 5) h (M_X2_hasChord (kl K) hs (gR σ x0 1) x1 σ hq1) mv_X2_hasChord hs hq1 ml_X8_189 rfl ⟨Nat.le_of_ble_eq_true rfl, Nat.le_of_ble_eq_true rfl⟩ ⟨Nat.le_refl 0, Nat.le_refl 0⟩ (Nat.le_of_ble_eq_true rfl) dX8_chord_5 rfl (fun r3 s2 => ?_)
  refine T_if_eq (pc := 8) (tgt := 21) h dX8_chord_8 (by decide) ?_ ?_
  · refine T_sub [] rfl ?_
    exact t_X8_chord_L21 h hs s2
  · refine T_iload_n (pc := 11) h dX8_chord_11 rfl 2 rfl ?_
    refine T_if_lt (pc := 12) (tgt := 21) h dX8_chord_12 (by decide) ?_ ?_
    · refine T_sub [] rfl ?_
      exact t_X8_chord_L21 h hs s2
    · refine T_iload_n (pc := 15) h dX8_chord_15 rfl 2 rfl ?_
      refine T_bipush (pc := 16) h dX8_chord_16 kb_6 ?_
      refine T_icmp_le (pc := 18) (tgt := 24) h dX8_chord_18 (by decide) ?_ ?_
      · refine T_iload_n (pc := 24) h dX8_chord_24 rfl 2 rfl ?_
        refine T_if_ne (pc := 25) (tgt := 37) h dX8_chord_25 (by decide) ?_ ?_
        · refine T_iload_n (pc := 37) h dX8_chord_37 rfl 2 rfl ?_
          refine T_iconst (pc := 38) h dX8_chord_38 ki_1 ?_
          refine T_icmp_ne (pc := 39) (tgt := 64) h dX8_chord_39 (by decide) ?_ ?_
          · refine T_iload_n (pc := 64) h dX8_chord_64 rfl 2 rfl ?_
            refine T_iconst (pc := 65) h dX8_chord_65 ki_2 ?_
            refine T_icmp_ne (pc := 66) (tgt := 82) h dX8_chord_66 (by decide) ?_ ?_
            · refine T_aload_n (pc := 82) h dX8_chord_82 rfl 0 rfl ?_
              refine T_getI (pc := 83) h hs hk0 fl_X8_81 rfl dX8_chord_83 ?_
              refine T_if_eq (pc := 86) (tgt := 98) h dX8_chord_86 (by decide) ?_ ?_
              · refine T_bipush (pc := 98) h dX8_chord_98 kb_m3 ?_
                refine T_sub [] rfl ?_
                exact t_X8_chord_L100 h hs (-3 : Int32) s2
              · refine T_aload_n (pc := 89) h dX8_chord_89 rfl 0 rfl ?_
                refine T_iload_n (pc := 90) h dX8_chord_90 rfl 1 rfl ?_
                refine T_iload_n (pc := 91) h dX8_chord_91 rfl 2 rfl ?_
                refine T_callVi (pc := 92) h (M_X8_ofLaidChord (kl K) hs x0 x1 x2 s2 hk0) mv_X8_ofLaidChord hs hk0 ml_X8_206 rfl ⟨Nat.le_of_ble_eq_true rfl, Nat.le_of_ble_eq_true rfl⟩ ⟨Nat.le_refl 0, Nat.le_refl 0⟩ (Nat.le_of_ble_eq_true rfl) dX8_chord_92 rfl (fun r5 s4 => ?_)
                refine T_goto (pc := 95) (tgt := 100) h dX8_chord_95 (by decide) ?_
                refine T_sub [] rfl ?_
                exact t_X8_chord_L100 h hs r5 s4
            · refine T_aload_n (pc := 69) h dX8_chord_69 rfl 0 rfl ?_
              refine T_gR (pc := 70) h hs hk0 fl_X8_19 rfl fk_8_1 dX8_chord_70 (fun hq6 => ?_)
              refine T_gR (pc := 73) h hs hq6 fl_X8_198 rfl fk_2_5 dX8_chord_73 (fun hq7 => ?_)
              refine T_iload_n (pc := 76) h dX8_chord_76 rfl 1 rfl ?_
              refine T_iald (pc := 77) h hs hq7 dX8_chord_77 ?_
              refine T_callSi (pc := 78) h (M_J6_bitCount_0f7a4 (kl K) hs (gI s2 (gR s2 (gR s2 x0 1) 5) x1.toNatClampNeg) s2 ) mst_J6_bitCount_0f7a4 ml_X8_201 rfl ⟨Nat.le_of_ble_eq_true rfl, Nat.le_of_ble_eq_true rfl⟩ ⟨Nat.le_refl 0, Nat.le_refl 0⟩ (Nat.le_of_ble_eq_true rfl) dX8_chord_78 rfl (fun r9 s8 => ?_)
              exact T_ireturn (pc := 81) h (Nat.zero_le _) (Nat.zero_le _) dX8_chord_81
          · refine T_aload_n (pc := 42) h dX8_chord_42 rfl 0 rfl ?_
            refine T_gR (pc := 43) h hs hk0 fl_X8_19 rfl fk_8_1 dX8_chord_43 (fun hq10 => ?_)
            refine T_gR (pc := 46) h hs hq10 fl_X8_195 rfl fk_2_4 dX8_chord_46 (fun hq11 => ?_)
            refine T_iload_n (pc := 49) h dX8_chord_49 rfl 1 rfl ?_
            refine T_iconst (pc := 50) h dX8_chord_50 ki_1 ?_
            refine T_iadd (pc := 51) h dX8_chord_51 ?_
            refine T_iald (pc := 52) h hs hq11 dX8_chord_52 ?_
            refine T_aload_n (pc := 53) h dX8_chord_53 rfl 0 rfl ?_
            refine T_gR (pc := 54) h hs hk0 fl_X8_19 rfl fk_8_1 dX8_chord_54 (fun hq12 => ?_)
            refine T_gR (pc := 57) h hs hq12 fl_X8_195 rfl fk_2_4 dX8_chord_57 (fun hq13 => ?_)
            refine T_iload_n (pc := 60) h dX8_chord_60 rfl 1 rfl ?_
            refine T_iald (pc := 61) h hs hq13 dX8_chord_61 ?_
            refine T_isub (pc := 62) h dX8_chord_62 ?_
            exact T_ireturn (pc := 63) h (Nat.zero_le _) (Nat.zero_le _) dX8_chord_63
        · refine T_aload_n (pc := 28) h dX8_chord_28 rfl 0 rfl ?_
          refine T_gR (pc := 29) h hs hk0 fl_X8_19 rfl fk_8_1 dX8_chord_29 (fun hq14 => ?_)
          refine T_iload_n (pc := 32) h dX8_chord_32 rfl 1 rfl ?_
          refine T_callVi (pc := 33) h (M_X2_timeOfChord (kl K) hs (gR s2 x0 1) x1 s2 hq14) mv_X2_timeOfChord hs hq14 ml_X8_192 rfl ⟨Nat.le_of_ble_eq_true rfl, Nat.le_of_ble_eq_true rfl⟩ ⟨Nat.le_refl 0, Nat.le_refl 0⟩ (Nat.le_of_ble_eq_true rfl) dX8_chord_33 rfl (fun r16 s15 => ?_)
          exact T_ireturn (pc := 36) h (Nat.zero_le _) (Nat.zero_le _) dX8_chord_36
      · refine T_sub [] rfl ?_
        exact t_X8_chord_L21 h hs s2
theorem M_X8_chord (l : Launch) {iv : Sg → Prop} (hi : iv = St) (x0 : Nat) (x1 : Int32) (x2 : Int32) (σ : Sg) (hk0 : kd x0 8) : CTi l yX8_chord cX8_chord 3 (some .int) rm_X8_chord iv [.ref x0, .int x1, .int x2] σ (f_X8_chord x0 x1 x2 σ) := by
  subst hi
  exact CT_of (by decide) (Nat.le_of_ble_eq_true rfl) (fun K _ h _ hs _ _ => t_X8_chord h hs x0 x1 x2 σ hk0)
/-! LuteTabs.without(I)I -/
theorem dX8_without_0 : decode cX8_without 0 = .ok (.aload_n 0, 1) := by decide +kernel
theorem dX8_without_1 : decode cX8_without 1 = .ok (.getfield 10, 3) := by decide +kernel
theorem dX8_without_4 : decode cX8_without 4 = .ok (.iload_n 1, 1) := by decide +kernel
theorem dX8_without_5 : decode cX8_without 5 = .ok (.invokevirtual 96, 3) := by decide +kernel
theorem dX8_without_8 : decode cX8_without 8 = .ok (.ifCond .ne 6, 3) := by decide +kernel
theorem dX8_without_11 : decode cX8_without 11 = .ok (.bipush (-2), 2) := by decide +kernel
theorem dX8_without_13 : decode cX8_without 13 = .ok (.ireturn, 1) := by decide +kernel
theorem dX8_without_14 : decode cX8_without 14 = .ok (.aload_n 0, 1) := by decide +kernel
theorem dX8_without_15 : decode cX8_without 15 = .ok (.getfield 37, 3) := by decide +kernel
theorem dX8_without_18 : decode cX8_without 18 = .ok (.iload_n 1, 1) := by decide +kernel
theorem dX8_without_19 : decode cX8_without 19 = .ok (.invokevirtual 210, 3) := by decide +kernel
theorem dX8_without_22 : decode cX8_without 22 = .ok (.lstore_n 2, 1) := by decide +kernel
theorem dX8_without_23 : decode cX8_without 23 = .ok (.lload_n 2, 1) := by decide +kernel
theorem dX8_without_24 : decode cX8_without 24 = .ok (.lconst 0, 1) := by decide +kernel
theorem dX8_without_25 : decode cX8_without 25 = .ok (.lcmp, 1) := by decide +kernel
theorem dX8_without_26 : decode cX8_without 26 = .ok (.ifCond .ge 7, 3) := by decide +kernel
theorem dX8_without_29 : decode cX8_without 29 = .ok (.iconst (-1), 1) := by decide +kernel
theorem dX8_without_30 : decode cX8_without 30 = .ok (.goto 7, 3) := by decide +kernel
theorem dX8_without_33 : decode cX8_without 33 = .ok (.lload_n 2, 1) := by decide +kernel
theorem dX8_without_34 : decode cX8_without 34 = .ok (.invokestatic 165, 3) := by decide +kernel
theorem dX8_without_37 : decode cX8_without 37 = .ok (.ireturn, 1) := by decide +kernel
abbrev rm_X8_without : Room := { frames := 6, cells := 0, slots := 0, locals := 153 }
def f_X8_without_L37   (y0 : Int32) (σ : Sg) : Option (Int32 × Sg) := some (y0, σ)
def f_X8_without (x0 : Nat) (x1 : Int32) (σ : Sg) : Option (Int32 × Sg) := bd (f_X1_has (gR σ x0 0) x1 σ) fun r3 s2 => (if r3 = 0 then some ((-2 : Int32), s2) else bd (f_X5_withoutCourse (gR s2 x0 3) x1 s2) fun r6 s5 => (if 0 ≤ (lg_cmp r6 (0 : Int64)) then bd (f_X5_costOf r6 s5) fun r8 s7 => f_X8_without_L37 r8 s7 else f_X8_without_L37 (-1 : Int32) s5))
theorem t_X8_without_L37 {K : Cx} (h : Ok K cX8_without RX8 4 rm_X8_without (some .int)) (hs : kiv K = St)  (y0 : Int32) (σ : Sg)    : T K (QI K) 37 [] [.int y0] 0 0 σ (f_X8_without_L37 y0 σ) := by
  unfold f_X8_without_L37
  exact T_ireturn (pc := 37) h (Nat.zero_le _) (Nat.zero_le _) dX8_without_37
theorem t_X8_without {K : Cx} (h : Ok K cX8_without RX8 4 rm_X8_without (some .int)) (hs : kiv K = St) (x0 : Nat) (x1 : Int32) (σ : Sg) (hk0 : kd x0 8) : T K (QI K) 0 [(0, .ref x0), (1, .int x1)] [] 0 0 σ (f_X8_without x0 x1 σ) := by
  unfold f_X8_without
  refine T_aload_n (pc := 0) h dX8_without_0 rfl 0 rfl ?_
  refine T_gR (pc := 1) h hs hk0 fl_X8_10 rfl fk_8_0 dX8_without_1 (fun hq1 => ?_)
  refine T_iload_n (pc := 4) h dX8_without_4 rfl 1 rfl ?_
  refine T_callVi (pc := 5) h (M_X1_has (kl K) hs (gR σ x0 0) x1 σ hq1) mv_X1_has hs hq1 ml_X8_96 rfl ⟨Nat.le_of_ble_eq_true rfl, Nat.le_of_ble_eq_true rfl⟩ ⟨Nat.le_refl 0, Nat.le_refl 0⟩ (Nat.le_of_ble_eq_true rfl) dX8_without_5 rfl (fun r3 s2 => ?_)
  refine T_if_ne (pc := 8) (tgt := 14) h dX8_without_8 (by decide) ?_ ?_
  · refine T_aload_n (pc := 14) h dX8_without_14 rfl 0 rfl ?_
    refine T_gR (pc := 15) h hs hk0 fl_X8_37 rfl fk_8_3 dX8_without_15 (fun hq4 => ?_)
    refine T_iload_n (pc := 18) h dX8_without_18 rfl 1 rfl ?_
    refine T_callVl (pc := 19) h (M_X5_withoutCourse (kl K) hs (gR s2 x0 3) x1 s2 hq4) mv_X5_withoutCourse hs hq4 ml_X8_210 rfl ⟨Nat.le_of_ble_eq_true rfl, Nat.le_of_ble_eq_true rfl⟩ ⟨Nat.le_refl 0, Nat.le_refl 0⟩ (Nat.le_of_ble_eq_true rfl) dX8_without_19 rfl (fun r6 s5 => ?_)
    refine T_lstore_n (lv' := [(2, .long r6), (0, .ref x0), (1, .int x1)]) (pc := 22) h dX8_without_22 rfl (by decide) rfl ?_
    refine T_lload_n (pc := 23) h dX8_without_23 rfl 0 rfl ?_
    refine T_lconst (pc := 24) h dX8_without_24 kl_0 ?_
    refine T_lcmp (pc := 25) h dX8_without_25 ?_
    refine T_if_ge (pc := 26) (tgt := 33) h dX8_without_26 (by decide) ?_ ?_
    · refine T_lload_n (pc := 33) h dX8_without_33 rfl 0 rfl ?_
      refine T_callSi (pc := 34) h (M_X5_costOf (kl K) hs r6 s5 ) mst_X5_costOf ml_X8_165 rfl ⟨Nat.le_of_ble_eq_true rfl, Nat.le_of_ble_eq_true rfl⟩ ⟨Nat.le_refl 0, Nat.le_refl 0⟩ (Nat.le_of_ble_eq_true rfl) dX8_without_34 rfl (fun r8 s7 => ?_)
      refine T_sub [] rfl ?_
      exact t_X8_without_L37 h hs r8 s7
    · refine T_iconst (pc := 29) h dX8_without_29 ki_m1 ?_
      refine T_goto (pc := 30) (tgt := 37) h dX8_without_30 (by decide) ?_
      refine T_sub [] rfl ?_
      exact t_X8_without_L37 h hs (-1 : Int32) s5
  · refine T_bipush (pc := 11) h dX8_without_11 kb_m2 ?_
    exact T_ireturn (pc := 13) h (Nat.zero_le _) (Nat.zero_le _) dX8_without_13
theorem M_X8_without (l : Launch) {iv : Sg → Prop} (hi : iv = St) (x0 : Nat) (x1 : Int32) (σ : Sg) (hk0 : kd x0 8) : CTi l yX8_without cX8_without 4 (some .int) rm_X8_without iv [.ref x0, .int x1] σ (f_X8_without x0 x1 σ) := by
  subst hi
  exact CT_of (by decide) (Nat.le_of_ble_eq_true rfl) (fun K _ h _ hs _ _ => t_X8_without h hs x0 x1 σ hk0)
/-! LuteTabs.key(I)I -/
theorem dX8_key_0 : decode cX8_key 0 = .ok (.iload_n 1, 1) := by decide +kernel
theorem dX8_key_1 : decode cX8_key 1 = .ok (.bipush (-12), 2) := by decide +kernel
theorem dX8_key_3 : decode cX8_key 3 = .ok (.if_icmp .lt 9, 3) := by decide +kernel
theorem dX8_key_6 : decode cX8_key 6 = .ok (.iload_n 1, 1) := by decide +kernel
theorem dX8_key_7 : decode cX8_key 7 = .ok (.bipush 12, 2) := by decide +kernel
theorem dX8_key_9 : decode cX8_key 9 = .ok (.if_icmp .le 6, 3) := by decide +kernel
theorem dX8_key_12 : decode cX8_key 12 = .ok (.bipush (-2), 2) := by decide +kernel
theorem dX8_key_14 : decode cX8_key 14 = .ok (.ireturn, 1) := by decide +kernel
theorem dX8_key_15 : decode cX8_key 15 = .ok (.aload_n 0, 1) := by decide +kernel
theorem dX8_key_16 : decode cX8_key 16 = .ok (.getfield 37, 3) := by decide +kernel
theorem dX8_key_19 : decode cX8_key 19 = .ok (.iload_n 1, 1) := by decide +kernel
theorem dX8_key_20 : decode cX8_key 20 = .ok (.invokevirtual 161, 3) := by decide +kernel
theorem dX8_key_23 : decode cX8_key 23 = .ok (.lstore_n 2, 1) := by decide +kernel
theorem dX8_key_24 : decode cX8_key 24 = .ok (.lload_n 2, 1) := by decide +kernel
theorem dX8_key_25 : decode cX8_key 25 = .ok (.lconst 0, 1) := by decide +kernel
theorem dX8_key_26 : decode cX8_key 26 = .ok (.lcmp, 1) := by decide +kernel
theorem dX8_key_27 : decode cX8_key 27 = .ok (.ifCond .ge 7, 3) := by decide +kernel
theorem dX8_key_30 : decode cX8_key 30 = .ok (.iconst (-1), 1) := by decide +kernel
theorem dX8_key_31 : decode cX8_key 31 = .ok (.goto 7, 3) := by decide +kernel
theorem dX8_key_34 : decode cX8_key 34 = .ok (.lload_n 2, 1) := by decide +kernel
theorem dX8_key_35 : decode cX8_key 35 = .ok (.invokestatic 165, 3) := by decide +kernel
theorem dX8_key_38 : decode cX8_key 38 = .ok (.ireturn, 1) := by decide +kernel
abbrev rm_X8_key : Room := { frames := 6, cells := 0, slots := 0, locals := 153 }
def f_X8_key_L12    (σ : Sg) : Option (Int32 × Sg) := some ((-2 : Int32), σ)
def f_X8_key_L38   (y0 : Int32) (σ : Sg) : Option (Int32 × Sg) := some (y0, σ)
def f_X8_key (x0 : Nat) (x1 : Int32) (σ : Sg) : Option (Int32 × Sg) := (if x1 < (-12 : Int32) then f_X8_key_L12 σ else (if x1 ≤ (12 : Int32) then bd (f_X5_inKey (gR σ x0 3) x1 σ) fun r3 s2 => (if 0 ≤ (lg_cmp r3 (0 : Int64)) then bd (f_X5_costOf r3 s2) fun r5 s4 => f_X8_key_L38 r5 s4 else f_X8_key_L38 (-1 : Int32) s2) else f_X8_key_L12 σ))
theorem t_X8_key_L12 {K : Cx} (h : Ok K cX8_key RX8 4 rm_X8_key (some .int)) (hs : kiv K = St)   (σ : Sg)    : T K (QI K) 12 [] [] 0 0 σ (f_X8_key_L12 σ) := by
  unfold f_X8_key_L12
  refine T_bipush (pc := 12) h dX8_key_12 kb_m2 ?_
  exact T_ireturn (pc := 14) h (Nat.zero_le _) (Nat.zero_le _) dX8_key_14
theorem t_X8_key_L38 {K : Cx} (h : Ok K cX8_key RX8 4 rm_X8_key (some .int)) (hs : kiv K = St)  (y0 : Int32) (σ : Sg)    : T K (QI K) 38 [] [.int y0] 0 0 σ (f_X8_key_L38 y0 σ) := by
  unfold f_X8_key_L38
  exact T_ireturn (pc := 38) h (Nat.zero_le _) (Nat.zero_le _) dX8_key_38
theorem t_X8_key {K : Cx} (h : Ok K cX8_key RX8 4 rm_X8_key (some .int)) (hs : kiv K = St) (x0 : Nat) (x1 : Int32) (σ : Sg) (hk0 : kd x0 8) : T K (QI K) 0 [(0, .ref x0), (1, .int x1)] [] 0 0 σ (f_X8_key x0 x1 σ) := by
  unfold f_X8_key
  refine T_iload_n (pc := 0) h dX8_key_0 rfl 1 rfl ?_
  refine T_bipush (pc := 1) h dX8_key_1 kb_m12 ?_
  refine T_icmp_lt (pc := 3) (tgt := 12) h dX8_key_3 (by decide) ?_ ?_
  · refine T_sub [] rfl ?_
    exact t_X8_key_L12 h hs σ
  · refine T_iload_n (pc := 6) h dX8_key_6 rfl 1 rfl ?_
    refine T_bipush (pc := 7) h dX8_key_7 kb_12 ?_
    refine T_icmp_le (pc := 9) (tgt := 15) h dX8_key_9 (by decide) ?_ ?_
    · refine T_aload_n (pc := 15) h dX8_key_15 rfl 0 rfl ?_
      refine T_gR (pc := 16) h hs hk0 fl_X8_37 rfl fk_8_3 dX8_key_16 (fun hq1 => ?_)
      refine T_iload_n (pc := 19) h dX8_key_19 rfl 1 rfl ?_
      refine T_callVl (pc := 20) h (M_X5_inKey (kl K) hs (gR σ x0 3) x1 σ hq1) mv_X5_inKey hs hq1 ml_X8_161 rfl ⟨Nat.le_of_ble_eq_true rfl, Nat.le_of_ble_eq_true rfl⟩ ⟨Nat.le_refl 0, Nat.le_refl 0⟩ (Nat.le_of_ble_eq_true rfl) dX8_key_20 rfl (fun r3 s2 => ?_)
      refine T_lstore_n (lv' := [(2, .long r3), (0, .ref x0), (1, .int x1)]) (pc := 23) h dX8_key_23 rfl (by decide) rfl ?_
      refine T_lload_n (pc := 24) h dX8_key_24 rfl 0 rfl ?_
      refine T_lconst (pc := 25) h dX8_key_25 kl_0 ?_
      refine T_lcmp (pc := 26) h dX8_key_26 ?_
      refine T_if_ge (pc := 27) (tgt := 34) h dX8_key_27 (by decide) ?_ ?_
      · refine T_lload_n (pc := 34) h dX8_key_34 rfl 0 rfl ?_
        refine T_callSi (pc := 35) h (M_X5_costOf (kl K) hs r3 s2 ) mst_X5_costOf ml_X8_165 rfl ⟨Nat.le_of_ble_eq_true rfl, Nat.le_of_ble_eq_true rfl⟩ ⟨Nat.le_refl 0, Nat.le_refl 0⟩ (Nat.le_of_ble_eq_true rfl) dX8_key_35 rfl (fun r5 s4 => ?_)
        refine T_sub [] rfl ?_
        exact t_X8_key_L38 h hs r5 s4
      · refine T_iconst (pc := 30) h dX8_key_30 ki_m1 ?_
        refine T_goto (pc := 31) (tgt := 38) h dX8_key_31 (by decide) ?_
        refine T_sub [] rfl ?_
        exact t_X8_key_L38 h hs (-1 : Int32) s2
    · refine T_sub [] rfl ?_
      exact t_X8_key_L12 h hs σ
theorem M_X8_key (l : Launch) {iv : Sg → Prop} (hi : iv = St) (x0 : Nat) (x1 : Int32) (σ : Sg) (hk0 : kd x0 8) : CTi l yX8_key cX8_key 4 (some .int) rm_X8_key iv [.ref x0, .int x1] σ (f_X8_key x0 x1 σ) := by
  subst hi
  exact CT_of (by decide) (Nat.le_of_ble_eq_true rfl) (fun K _ h _ hs _ _ => t_X8_key h hs x0 x1 σ hk0)
/-! LuteTabs.nthNearestKey(I)I -/
theorem dX8_nthNearestKey_0 : decode cX8_nthNearestKey 0 = .ok (.iload_n 0, 1) := by decide +kernel
theorem dX8_nthNearestKey_1 : decode cX8_nthNearestKey 1 = .ok (.iconst 1, 1) := by decide +kernel
theorem dX8_nthNearestKey_2 : decode cX8_nthNearestKey 2 = .ok (.iadd, 1) := by decide +kernel
theorem dX8_nthNearestKey_3 : decode cX8_nthNearestKey 3 = .ok (.iconst 2, 1) := by decide +kernel
theorem dX8_nthNearestKey_4 : decode cX8_nthNearestKey 4 = .ok (.idiv, 1) := by decide +kernel
theorem dX8_nthNearestKey_5 : decode cX8_nthNearestKey 5 = .ok (.istore_n 1, 1) := by decide +kernel
theorem dX8_nthNearestKey_6 : decode cX8_nthNearestKey 6 = .ok (.iload_n 0, 1) := by decide +kernel
theorem dX8_nthNearestKey_7 : decode cX8_nthNearestKey 7 = .ok (.iconst 2, 1) := by decide +kernel
theorem dX8_nthNearestKey_8 : decode cX8_nthNearestKey 8 = .ok (.irem, 1) := by decide +kernel
theorem dX8_nthNearestKey_9 : decode cX8_nthNearestKey 9 = .ok (.iconst 1, 1) := by decide +kernel
theorem dX8_nthNearestKey_10 : decode cX8_nthNearestKey 10 = .ok (.if_icmp .ne 8, 3) := by decide +kernel
theorem dX8_nthNearestKey_13 : decode cX8_nthNearestKey 13 = .ok (.iload_n 1, 1) := by decide +kernel
theorem dX8_nthNearestKey_14 : decode cX8_nthNearestKey 14 = .ok (.ineg, 1) := by decide +kernel
theorem dX8_nthNearestKey_15 : decode cX8_nthNearestKey 15 = .ok (.goto 4, 3) := by decide +kernel
theorem dX8_nthNearestKey_18 : decode cX8_nthNearestKey 18 = .ok (.iload_n 1, 1) := by decide +kernel
theorem dX8_nthNearestKey_19 : decode cX8_nthNearestKey 19 = .ok (.ireturn, 1) := by decide +kernel
abbrev rm_X8_nthNearestKey : Room := { frames := 0, cells := 0, slots := 0, locals := 0 }
def f_X8_nthNearestKey_L19   (y0 : Int32) (σ : Sg) : Option (Int32 × Sg) := some (y0, σ)
def f_X8_nthNearestKey (x0 : Int32) (σ : Sg) : Option (Int32 × Sg) := ck (decide (¬ (2 : Int32) = 0)) (lB (((x0 + (1 : Int32)) / (2 : Int32))) fun v1 => ck (decide (¬ (2 : Int32) = 0)) ((if (x0 - x0 / (2 : Int32) * (2 : Int32)) = (1 : Int32) then f_X8_nthNearestKey_L19 (-v1) σ else f_X8_nthNearestKey_L19 v1 σ)))
theorem t_X8_nthNearestKey_L19 {K : Cx} (h : Ok K cX8_nthNearestKey RX8 2 rm_X8_nthNearestKey (some .int)) (hs : kiv K = St)  (y0 : Int32) (σ : Sg)    : T K (QI K) 19 [] [.int y0] 0 0 σ (f_X8_nthNearestKey_L19 y0 σ) := by
  unfold f_X8_nthNearestKey_L19
  exact T_ireturn (pc := 19) h (Nat.zero_le _) (Nat.zero_le _) dX8_nthNearestKey_19
theorem t_X8_nthNearestKey {K : Cx} (h : Ok K cX8_nthNearestKey RX8 2 rm_X8_nthNearestKey (some .int)) (hs : kiv K = St) (x0 : Int32) (σ : Sg)  : T K (QI K) 0 [(0, .int x0)] [] 0 0 σ (f_X8_nthNearestKey x0 σ) := by
  unfold f_X8_nthNearestKey
  refine T_iload_n (pc := 0) h dX8_nthNearestKey_0 rfl 0 rfl ?_
  refine T_iconst (pc := 1) h dX8_nthNearestKey_1 ki_1 ?_
  refine T_iadd (pc := 2) h dX8_nthNearestKey_2 ?_
  refine T_iconst (pc := 3) h dX8_nthNearestKey_3 ki_2 ?_
  refine T_idiv (pc := 4) h dX8_nthNearestKey_4 ?_
  refine T_letI fun v1 => ?_
  refine T_istore_n (lv' := [(1, .int v1), (0, .int x0)]) (pc := 5) h dX8_nthNearestKey_5 rfl (by decide) rfl ?_
  refine T_iload_n (pc := 6) h dX8_nthNearestKey_6 rfl 1 rfl ?_
  refine T_iconst (pc := 7) h dX8_nthNearestKey_7 ki_2 ?_
  refine T_irem (pc := 8) h dX8_nthNearestKey_8 ?_
  refine T_iconst (pc := 9) h dX8_nthNearestKey_9 ki_1 ?_
  refine T_icmp_ne (pc := 10) (tgt := 18) h dX8_nthNearestKey_10 (by decide) ?_ ?_
  · refine T_iload_n (pc := 18) h dX8_nthNearestKey_18 rfl 0 rfl ?_
    refine T_sub [] rfl ?_
    exact t_X8_nthNearestKey_L19 h hs v1 σ
  · refine T_iload_n (pc := 13) h dX8_nthNearestKey_13 rfl 0 rfl ?_
    refine T_ineg (pc := 14) h dX8_nthNearestKey_14 ?_
    refine T_goto (pc := 15) (tgt := 19) h dX8_nthNearestKey_15 (by decide) ?_
    refine T_sub [] rfl ?_
    exact t_X8_nthNearestKey_L19 h hs (-v1) σ
theorem M_X8_nthNearestKey (l : Launch) {iv : Sg → Prop} (hi : iv = St) (x0 : Int32) (σ : Sg)  : CTi l yX8_nthNearestKey cX8_nthNearestKey 2 (some .int) rm_X8_nthNearestKey iv [.int x0] σ (f_X8_nthNearestKey x0 σ) := by
  subst hi
  exact CT_of (by decide) (Nat.le_of_ble_eq_true rfl) (fun K _ h _ hs _ _ => t_X8_nthNearestKey h hs x0 σ )
/-! LuteTabs.easiest(I)I -/
theorem dX8_easiest_0 : decode cX8_easiest 0 = .ok (.iload_n 1, 1) := by decide +kernel
theorem dX8_easiest_1 : decode cX8_easiest 1 = .ok (.ifCond .eq 11, 3) := by decide +kernel
theorem dX8_easiest_4 : decode cX8_easiest 4 = .ok (.iload_n 1, 1) := by decide +kernel
theorem dX8_easiest_5 : decode cX8_easiest 5 = .ok (.iconst 1, 1) := by decide +kernel
theorem dX8_easiest_6 : decode cX8_easiest 6 = .ok (.if_icmp .eq 6, 3) := by decide +kernel
theorem dX8_easiest_9 : decode cX8_easiest 9 = .ok (.ldc 213, 2) := by decide +kernel
theorem dX8_easiest_11 : decode cX8_easiest 11 = .ok (.ireturn, 1) := by decide +kernel
theorem dX8_easiest_12 : decode cX8_easiest 12 = .ok (.iconst (-1), 1) := by decide +kernel
theorem dX8_easiest_13 : decode cX8_easiest 13 = .ok (.istore_n 2, 1) := by decide +kernel
theorem dX8_easiest_14 : decode cX8_easiest 14 = .ok (.iconst 0, 1) := by decide +kernel
theorem dX8_easiest_15 : decode cX8_easiest 15 = .ok (.istore_n 3, 1) := by decide +kernel
theorem dX8_easiest_16 : decode cX8_easiest 16 = .ok (.iconst 0, 1) := by decide +kernel
theorem dX8_easiest_17 : decode cX8_easiest 17 = .ok (.istore 4, 2) := by decide +kernel
theorem dX8_easiest_19 : decode cX8_easiest 19 = .ok (.iload 4, 2) := by decide +kernel
theorem dX8_easiest_21 : decode cX8_easiest 21 = .ok (.bipush 24, 2) := by decide +kernel
theorem dX8_easiest_23 : decode cX8_easiest 23 = .ok (.if_icmp .gt 57, 3) := by decide +kernel
theorem dX8_easiest_26 : decode cX8_easiest 26 = .ok (.iload 4, 2) := by decide +kernel
theorem dX8_easiest_28 : decode cX8_easiest 28 = .ok (.invokestatic 214, 3) := by decide +kernel
theorem dX8_easiest_31 : decode cX8_easiest 31 = .ok (.istore 5, 2) := by decide +kernel
theorem dX8_easiest_33 : decode cX8_easiest 33 = .ok (.aload_n 0, 1) := by decide +kernel
theorem dX8_easiest_34 : decode cX8_easiest 34 = .ok (.getfield 37, 3) := by decide +kernel
theorem dX8_easiest_37 : decode cX8_easiest 37 = .ok (.iload 5, 2) := by decide +kernel
theorem dX8_easiest_39 : decode cX8_easiest 39 = .ok (.invokevirtual 161, 3) := by decide +kernel
theorem dX8_easiest_42 : decode cX8_easiest 42 = .ok (.lstore 6, 2) := by decide +kernel
theorem dX8_easiest_44 : decode cX8_easiest 44 = .ok (.lload 6, 2) := by decide +kernel
theorem dX8_easiest_46 : decode cX8_easiest 46 = .ok (.lconst 0, 1) := by decide +kernel
theorem dX8_easiest_47 : decode cX8_easiest 47 = .ok (.lcmp, 1) := by decide +kernel
theorem dX8_easiest_48 : decode cX8_easiest 48 = .ok (.ifCond .lt 26, 3) := by decide +kernel
theorem dX8_easiest_51 : decode cX8_easiest 51 = .ok (.iload_n 2, 1) := by decide +kernel
theorem dX8_easiest_52 : decode cX8_easiest 52 = .ok (.iconst (-1), 1) := by decide +kernel
theorem dX8_easiest_53 : decode cX8_easiest 53 = .ok (.if_icmp .eq 12, 3) := by decide +kernel
theorem dX8_easiest_56 : decode cX8_easiest 56 = .ok (.lload 6, 2) := by decide +kernel
theorem dX8_easiest_58 : decode cX8_easiest 58 = .ok (.invokestatic 165, 3) := by decide +kernel
theorem dX8_easiest_61 : decode cX8_easiest 61 = .ok (.iload_n 2, 1) := by decide +kernel
theorem dX8_easiest_62 : decode cX8_easiest 62 = .ok (.if_icmp .ge 12, 3) := by decide +kernel
theorem dX8_easiest_65 : decode cX8_easiest 65 = .ok (.lload 6, 2) := by decide +kernel
theorem dX8_easiest_67 : decode cX8_easiest 67 = .ok (.invokestatic 165, 3) := by decide +kernel
theorem dX8_easiest_70 : decode cX8_easiest 70 = .ok (.istore_n 2, 1) := by decide +kernel
theorem dX8_easiest_71 : decode cX8_easiest 71 = .ok (.iload 5, 2) := by decide +kernel
theorem dX8_easiest_73 : decode cX8_easiest 73 = .ok (.istore_n 3, 1) := by decide +kernel
theorem dX8_easiest_74 : decode cX8_easiest 74 = .ok (.iinc 4 1, 3) := by decide +kernel
theorem dX8_easiest_77 : decode cX8_easiest 77 = .ok (.goto (-58), 3) := by decide +kernel
theorem dX8_easiest_80 : decode cX8_easiest 80 = .ok (.iload_n 2, 1) := by decide +kernel
theorem dX8_easiest_81 : decode cX8_easiest 81 = .ok (.iconst (-1), 1) := by decide +kernel
theorem dX8_easiest_82 : decode cX8_easiest 82 = .ok (.if_icmp .ne 6, 3) := by decide +kernel
theorem dX8_easiest_85 : decode cX8_easiest 85 = .ok (.ldc 213, 2) := by decide +kernel
theorem dX8_easiest_87 : decode cX8_easiest 87 = .ok (.ireturn, 1) := by decide +kernel
theorem dX8_easiest_88 : decode cX8_easiest 88 = .ok (.iload_n 1, 1) := by decide +kernel
theorem dX8_easiest_89 : decode cX8_easiest 89 = .ok (.ifCond .ne 7, 3) := by decide +kernel
theorem dX8_easiest_92 : decode cX8_easiest 92 = .ok (.iload_n 3, 1) := by decide +kernel
theorem dX8_easiest_93 : decode cX8_easiest 93 = .ok (.goto 4, 3) := by decide +kernel
theorem dX8_easiest_96 : decode cX8_easiest 96 = .ok (.iload_n 2, 1) := by decide +kernel
theorem dX8_easiest_97 : decode cX8_easiest 97 = .ok (.ireturn, 1) := by decide +kernel
abbrev rm_X8_easiest : Room := { frames := 6, cells := 0, slots := 0, locals := 153 }
def f_X8_easiest_L74 (rec19 : Int32 × Int32 × Int32 × Sg → Option (Int32 × Sg)) (x0 : Nat) (x1 : Int32) (x2 : Int32) (x3 : Int32) (x4 : Int32)  (σ : Sg) : Option (Int32 × Sg) := lB (x4 + (1 : Int32)) fun v1 => rec19 (x2, x3, v1, σ)
def f_X8_easiest_L65 (rec19 : Int32 × Int32 × Int32 × Sg → Option (Int32 × Sg)) (x0 : Nat) (x1 : Int32) (x4 : Int32) (x5 : Int32) (x6 : Int64)  (σ : Sg) : Option (Int32 × Sg) := bd (f_X5_costOf x6 σ) fun r2 s1 => f_X8_easiest_L74 rec19 x0 x1 r2 x5 x4 s1
def f_X8_easiest_L97   (y0 : Int32) (σ : Sg) : Option (Int32 × Sg) := some (y0, σ)
def f_X8_easiest_L19  (x0 : Nat) (x1 : Int32) (rec19 : Int32 × Int32 × Int32 × Sg → Option (Int32 × Sg)) (s : Int32 × Int32 × Int32 × Sg) : Option (Int32 × Sg) := (if (24 : Int32) < (s.2.2.1) then (if (s.1) = (-1 : Int32) then some ((-2147483648 : Int32), (s.2.2.2)) else (if x1 = 0 then f_X8_easiest_L97 (s.2.1) (s.2.2.2) else f_X8_easiest_L97 (s.1) (s.2.2.2))) else bd (f_X8_nthNearestKey (s.2.2.1) (s.2.2.2)) fun r2 s1 => bd (f_X5_inKey (gR s1 x0 3) r2 s1) fun r5 s4 => (if (lg_cmp r5 (0 : Int64)) < 0 then f_X8_easiest_L74 rec19 x0 x1 (s.1) (s.2.1) (s.2.2.1) s4 else (if (s.1) = (-1 : Int32) then f_X8_easiest_L65 rec19 x0 x1 (s.2.2.1) r2 r5 s4 else bd (f_X5_costOf r5 s4) fun r7 s6 => (if (s.1) ≤ r7 then f_X8_easiest_L74 rec19 x0 x1 (s.1) (s.2.1) (s.2.2.1) s6 else f_X8_easiest_L65 rec19 x0 x1 (s.2.2.1) r2 r5 s6))))
def f_X8_easiest_L12  (x0 : Nat) (x1 : Int32)  (σ : Sg) : Option (Int32 × Sg) := fx (f_X8_easiest_L19 x0 x1) FU ((-1 : Int32), (0 : Int32), (0 : Int32), σ)
def f_X8_easiest (x0 : Nat) (x1 : Int32) (σ : Sg) : Option (Int32 × Sg) := (if x1 = 0 then f_X8_easiest_L12 x0 x1 σ else (if x1 = (1 : Int32) then f_X8_easiest_L12 x0 x1 σ else some ((-2147483648 : Int32), σ)))
theorem t_X8_easiest_L74 {K : Cx} (h : Ok K cX8_easiest RX8 8 rm_X8_easiest (some .int)) (hs : kiv K = St) (x0 : Nat) (x1 : Int32) (x2 : Int32) (x3 : Int32) (x4 : Int32)  (σ : Sg) (rec19 : Int32 × Int32 × Int32 × Sg → Option (Int32 × Sg)) (hr19 : ∀ u, T K (QI K) 19 [(0, .ref x0), (1, .int x1), (2, .int (u.1)), (3, .int (u.2.1)), (4, .int (u.2.2.1))] [] 0 0 (u.2.2.2) (rec19 u)) (hk0 : kd x0 8)  : T K (QI K) 74 [(0, .ref x0), (1, .int x1), (2, .int x2), (3, .int x3), (4, .int x4)] [] 0 0 σ (f_X8_easiest_L74 rec19 x0 x1 x2 x3 x4 σ) := by
  unfold f_X8_easiest_L74
  refine T_iinc (fl := fun v1 => [(4, .int v1), (0, .ref x0), (1, .int x1), (2, .int x2), (3, .int x3)]) (pc := 74) h dX8_easiest_74 4 rfl ki_1 (by decide) (fun _ => rfl) (fun v1 => ?_)
  refine T_goto (pc := 77) (tgt := 19) h dX8_easiest_77 (by decide) ?_
  refine T_sub [1, 2, 3, 4, 0] rfl ?_
  exact hr19 (x2, x3, v1, σ)
theorem t_X8_easiest_L65 {K : Cx} (h : Ok K cX8_easiest RX8 8 rm_X8_easiest (some .int)) (hs : kiv K = St) (x0 : Nat) (x1 : Int32) (x4 : Int32) (x5 : Int32) (x6 : Int64)  (σ : Sg) (rec19 : Int32 × Int32 × Int32 × Sg → Option (Int32 × Sg)) (hr19 : ∀ u, T K (QI K) 19 [(0, .ref x0), (1, .int x1), (2, .int (u.1)), (3, .int (u.2.1)), (4, .int (u.2.2.1))] [] 0 0 (u.2.2.2) (rec19 u)) (hk0 : kd x0 8)  : T K (QI K) 65 [(0, .ref x0), (1, .int x1), (4, .int x4), (5, .int x5), (6, .long x6)] [] 0 0 σ (f_X8_easiest_L65 rec19 x0 x1 x4 x5 x6 σ) := by
  unfold f_X8_easiest_L65
  refine T_lload (pc := 65) h dX8_easiest_65 4 rfl ?_
  refine T_callSi (pc := 67) h (M_X5_costOf (kl K) hs x6 σ ) mst_X5_costOf ml_X8_165 rfl ⟨Nat.le_of_ble_eq_true rfl, Nat.le_of_ble_eq_true rfl⟩ ⟨Nat.le_refl 0, Nat.le_refl 0⟩ (Nat.le_of_ble_eq_true rfl) dX8_easiest_67 rfl (fun r2 s1 => ?_)
  refine T_istore_n (lv' := [(2, .int r2), (0, .ref x0), (1, .int x1), (4, .int x4), (5, .int x5), (6, .long x6)]) (pc := 70) h dX8_easiest_70 rfl (by decide) rfl ?_
  refine T_iload (pc := 71) h dX8_easiest_71 4 rfl ?_
  refine T_istore_n (lv' := [(3, .int x5), (2, .int r2), (0, .ref x0), (1, .int x1), (4, .int x4), (5, .int x5), (6, .long x6)]) (pc := 73) h dX8_easiest_73 rfl (by decide) rfl ?_
  refine T_sub [2, 3, 1, 0, 4] rfl ?_
  exact t_X8_easiest_L74 h hs x0 x1 r2 x5 x4 s1 rec19 hr19 hk0
theorem t_X8_easiest_L97 {K : Cx} (h : Ok K cX8_easiest RX8 8 rm_X8_easiest (some .int)) (hs : kiv K = St)  (y0 : Int32) (σ : Sg)    : T K (QI K) 97 [] [.int y0] 0 0 σ (f_X8_easiest_L97 y0 σ) := by
  unfold f_X8_easiest_L97
  exact T_ireturn (pc := 97) h (Nat.zero_le _) (Nat.zero_le _) dX8_easiest_97
theorem t_X8_easiest_L19 {K : Cx} (h : Ok K cX8_easiest RX8 8 rm_X8_easiest (some .int)) (hs : kiv K = St) (x0 : Nat) (x1 : Int32)  (hk0 : kd x0 8) (rec19 : Int32 × Int32 × Int32 × Sg → Option (Int32 × Sg)) (hr19 : ∀ u, T K (QI K) 19 [(0, .ref x0), (1, .int x1), (2, .int (u.1)), (3, .int (u.2.1)), (4, .int (u.2.2.1))] [] 0 0 (u.2.2.2) (rec19 u)) (s : Int32 × Int32 × Int32 × Sg) : T K (QI K) 19 [(0, .ref x0), (1, .int x1), (2, .int (s.1)), (3, .int (s.2.1)), (4, .int (s.2.2.1))] [] 0 0 (s.2.2.2) (f_X8_easiest_L19 x0 x1 rec19 s) := by
  unfold f_X8_easiest_L19
  refine T_iload (pc := 19) h dX8_easiest_19 4 rfl ?_
  refine T_bipush (pc := 21) h dX8_easiest_21 kb_24 ?_
  refine T_icmp_gt (pc := 23) (tgt := 80) h dX8_easiest_23 (by decide) ?_ ?_
  · refine T_iload_n (pc := 80) h dX8_easiest_80 rfl 2 rfl ?_
    refine T_iconst (pc := 81) h dX8_easiest_81 ki_m1 ?_
    refine T_icmp_ne (pc := 82) (tgt := 88) h dX8_easiest_82 (by decide) ?_ ?_
    · refine T_iload_n (pc := 88) h dX8_easiest_88 rfl 1 rfl ?_
      refine T_if_ne (pc := 89) (tgt := 96) h dX8_easiest_89 (by decide) ?_ ?_
      · refine T_iload_n (pc := 96) h dX8_easiest_96 rfl 2 rfl ?_
        refine T_sub [] rfl ?_
        exact t_X8_easiest_L97 h hs (s.1) (s.2.2.2)
      · refine T_iload_n (pc := 92) h dX8_easiest_92 rfl 3 rfl ?_
        refine T_goto (pc := 93) (tgt := 97) h dX8_easiest_93 (by decide) ?_
        refine T_sub [] rfl ?_
        exact t_X8_easiest_L97 h hs (s.2.1) (s.2.2.2)
    · refine T_ldc (pc := 85) h kc_X8_213 dX8_easiest_85 ?_
      exact T_ireturn (pc := 87) h (Nat.zero_le _) (Nat.zero_le _) dX8_easiest_87
  · refine T_iload (pc := 26) h dX8_easiest_26 4 rfl ?_
    refine T_callSi (pc := 28) h (M_X8_nthNearestKey (kl K) hs (s.2.2.1) (s.2.2.2) ) mst_X8_nthNearestKey ml_X8_214 rfl ⟨Nat.le_of_ble_eq_true rfl, Nat.le_of_ble_eq_true rfl⟩ ⟨Nat.le_refl 0, Nat.le_refl 0⟩ (Nat.le_of_ble_eq_true rfl) dX8_easiest_28 rfl (fun r2 s1 => ?_)
    refine T_istore (lv' := [(5, .int r2), (0, .ref x0), (1, .int x1), (2, .int (s.1)), (3, .int (s.2.1)), (4, .int (s.2.2.1))]) (pc := 31) h dX8_easiest_31 (by decide) rfl ?_
    refine T_aload_n (pc := 33) h dX8_easiest_33 rfl 1 rfl ?_
    refine T_gR (pc := 34) h hs hk0 fl_X8_37 rfl fk_8_3 dX8_easiest_34 (fun hq3 => ?_)
    refine T_iload (pc := 37) h dX8_easiest_37 0 rfl ?_
    refine T_callVl (pc := 39) h (M_X5_inKey (kl K) hs (gR s1 x0 3) r2 s1 hq3) mv_X5_inKey hs hq3 ml_X8_161 rfl ⟨Nat.le_of_ble_eq_true rfl, Nat.le_of_ble_eq_true rfl⟩ ⟨Nat.le_refl 0, Nat.le_refl 0⟩ (Nat.le_of_ble_eq_true rfl) dX8_easiest_39 rfl (fun r5 s4 => ?_)
    refine T_lstore (lv' := [(6, .long r5), (5, .int r2), (0, .ref x0), (1, .int x1), (2, .int (s.1)), (3, .int (s.2.1)), (4, .int (s.2.2.1))]) (pc := 42) h dX8_easiest_42 (by decide) rfl ?_
    refine T_lload (pc := 44) h dX8_easiest_44 0 rfl ?_
    refine T_lconst (pc := 46) h dX8_easiest_46 kl_0 ?_
    refine T_lcmp (pc := 47) h dX8_easiest_47 ?_
    refine T_if_lt (pc := 48) (tgt := 74) h dX8_easiest_48 (by decide) ?_ ?_
    · refine T_sub [2, 3, 4, 5, 6] rfl ?_
      exact t_X8_easiest_L74 h hs x0 x1 (s.1) (s.2.1) (s.2.2.1) s4 rec19 hr19 hk0
    · refine T_iload_n (pc := 51) h dX8_easiest_51 rfl 4 rfl ?_
      refine T_iconst (pc := 52) h dX8_easiest_52 ki_m1 ?_
      refine T_icmp_eq (pc := 53) (tgt := 65) h dX8_easiest_53 (by decide) ?_ ?_
      · refine T_sub [2, 3, 6, 1, 0] rfl ?_
        exact t_X8_easiest_L65 h hs x0 x1 (s.2.2.1) r2 r5 s4 rec19 hr19 hk0
      · refine T_lload (pc := 56) h dX8_easiest_56 0 rfl ?_
        refine T_callSi (pc := 58) h (M_X5_costOf (kl K) hs r5 s4 ) mst_X5_costOf ml_X8_165 rfl ⟨Nat.le_of_ble_eq_true rfl, Nat.le_of_ble_eq_true rfl⟩ ⟨Nat.le_refl 0, Nat.le_refl 0⟩ (Nat.le_of_ble_eq_true rfl) dX8_easiest_58 rfl (fun r7 s6 => ?_)
        refine T_iload_n (pc := 61) h dX8_easiest_61 rfl 4 rfl ?_
        refine T_icmp_ge (pc := 62) (tgt := 74) h dX8_easiest_62 (by decide) ?_ ?_
        · refine T_sub [2, 3, 4, 5, 6] rfl ?_
          exact t_X8_easiest_L74 h hs x0 x1 (s.1) (s.2.1) (s.2.2.1) s6 rec19 hr19 hk0
        · refine T_sub [2, 3, 6, 1, 0] rfl ?_
          exact t_X8_easiest_L65 h hs x0 x1 (s.2.2.1) r2 r5 s6 rec19 hr19 hk0
theorem t_X8_easiest_L12 {K : Cx} (h : Ok K cX8_easiest RX8 8 rm_X8_easiest (some .int)) (hs : kiv K = St) (x0 : Nat) (x1 : Int32)  (σ : Sg)  (hk0 : kd x0 8)  : T K (QI K) 12 [(0, .ref x0), (1, .int x1)] [] 0 0 σ (f_X8_easiest_L12 x0 x1 σ) := by
  unfold f_X8_easiest_L12
  refine T_iconst (pc := 12) h dX8_easiest_12 ki_m1 ?_
  refine T_istore_n (lv' := [(2, .int (-1 : Int32)), (0, .ref x0), (1, .int x1)]) (pc := 13) h dX8_easiest_13 rfl (by decide) rfl ?_
  refine T_iconst (pc := 14) h dX8_easiest_14 ki_0 ?_
  refine T_istore_n (lv' := [(3, .int (0 : Int32)), (2, .int (-1 : Int32)), (0, .ref x0), (1, .int x1)]) (pc := 15) h dX8_easiest_15 rfl (by decide) rfl ?_
  refine T_iconst (pc := 16) h dX8_easiest_16 ki_0 ?_
  refine T_istore (lv' := [(4, .int (0 : Int32)), (3, .int (0 : Int32)), (2, .int (-1 : Int32)), (0, .ref x0), (1, .int x1)]) (pc := 17) h dX8_easiest_17 (by decide) rfl ?_
  refine T_sub [3, 4, 2, 1, 0] rfl ?_
  exact T_fx (B := f_X8_easiest_L19 x0 x1) (fl := fun u => [(0, .ref x0), (1, .int x1), (2, .int (u.1)), (3, .int (u.2.1)), (4, .int (u.2.2.1))]) (f := fun u => (u.2.2.2)) (fun rec19 hr19 u => t_X8_easiest_L19 h hs x0 x1 hk0 rec19 hr19 u) FU ((-1 : Int32), (0 : Int32), (0 : Int32), σ)
theorem t_X8_easiest {K : Cx} (h : Ok K cX8_easiest RX8 8 rm_X8_easiest (some .int)) (hs : kiv K = St) (x0 : Nat) (x1 : Int32) (σ : Sg) (hk0 : kd x0 8) : T K (QI K) 0 [(0, .ref x0), (1, .int x1)] [] 0 0 σ (f_X8_easiest x0 x1 σ) := by
  unfold f_X8_easiest
  refine T_iload_n (pc := 0) h dX8_easiest_0 rfl 1 rfl ?_
  refine T_if_eq (pc := 1) (tgt := 12) h dX8_easiest_1 (by decide) ?_ ?_
  · refine T_sub [0, 1] rfl ?_
    exact t_X8_easiest_L12 h hs x0 x1 σ hk0
  · refine T_iload_n (pc := 4) h dX8_easiest_4 rfl 1 rfl ?_
    refine T_iconst (pc := 5) h dX8_easiest_5 ki_1 ?_
    refine T_icmp_eq (pc := 6) (tgt := 12) h dX8_easiest_6 (by decide) ?_ ?_
    · refine T_sub [0, 1] rfl ?_
      exact t_X8_easiest_L12 h hs x0 x1 σ hk0
    · refine T_ldc (pc := 9) h kc_X8_213 dX8_easiest_9 ?_
      exact T_ireturn (pc := 11) h (Nat.zero_le _) (Nat.zero_le _) dX8_easiest_11
theorem M_X8_easiest (l : Launch) {iv : Sg → Prop} (hi : iv = St) (x0 : Nat) (x1 : Int32) (σ : Sg) (hk0 : kd x0 8) : CTi l yX8_easiest cX8_easiest 8 (some .int) rm_X8_easiest iv [.ref x0, .int x1] σ (f_X8_easiest x0 x1 σ) := by
  subst hi
  exact CT_of (by decide) (Nat.le_of_ble_eq_true rfl) (fun K _ h _ hs _ _ => t_X8_easiest h hs x0 x1 σ hk0)
/-! LuteTabs.isSlot(I)Z -/
theorem dX8_isSlot_0 : decode cX8_isSlot 0 = .ok (.iload_n 0, 1) := by decide +kernel
theorem dX8_isSlot_1 : decode cX8_isSlot 1 = .ok (.ifCond .lt 12, 3) := by decide +kernel
theorem dX8_isSlot_4 : decode cX8_isSlot 4 = .ok (.iload_n 0, 1) := by decide +kernel
theorem dX8_isSlot_5 : decode cX8_isSlot 5 = .ok (.iconst 4, 1) := by decide +kernel
theorem dX8_isSlot_6 : decode cX8_isSlot 6 = .ok (.if_icmp .ge 7, 3) := by decide +kernel
theorem dX8_isSlot_9 : decode cX8_isSlot 9 = .ok (.iconst 1, 1) := by decide +kernel
theorem dX8_isSlot_10 : decode cX8_isSlot 10 = .ok (.goto 4, 3) := by decide +kernel
theorem dX8_isSlot_13 : decode cX8_isSlot 13 = .ok (.iconst 0, 1) := by decide +kernel
theorem dX8_isSlot_14 : decode cX8_isSlot 14 = .ok (.ireturn, 1) := by decide +kernel
abbrev rm_X8_isSlot : Room := { frames := 0, cells := 0, slots := 0, locals := 0 }
def f_X8_isSlot_L14   (y0 : Int32) (σ : Sg) : Option (Int32 × Sg) := ck (b01 y0) (some (y0, σ))
def f_X8_isSlot_L13    (σ : Sg) : Option (Int32 × Sg) := f_X8_isSlot_L14 (0 : Int32) σ
def f_X8_isSlot (x0 : Int32) (σ : Sg) : Option (Int32 × Sg) := (if x0 < 0 then f_X8_isSlot_L13 σ else (if (4 : Int32) ≤ x0 then f_X8_isSlot_L13 σ else f_X8_isSlot_L14 (1 : Int32) σ))
theorem t_X8_isSlot_L14 {K : Cx} (h : Ok K cX8_isSlot RX8 1 rm_X8_isSlot (some .boolean)) (hs : kiv K = St)  (y0 : Int32) (σ : Sg)    : T K (QI K) 14 [] [.int y0] 0 0 σ (f_X8_isSlot_L14 y0 σ) := by
  unfold f_X8_isSlot_L14
  exact T_zreturn (pc := 14) h (Nat.zero_le _) (Nat.zero_le _) dX8_isSlot_14
theorem t_X8_isSlot_L13 {K : Cx} (h : Ok K cX8_isSlot RX8 1 rm_X8_isSlot (some .boolean)) (hs : kiv K = St)   (σ : Sg)    : T K (QI K) 13 [] [] 0 0 σ (f_X8_isSlot_L13 σ) := by
  unfold f_X8_isSlot_L13
  refine T_iconst (pc := 13) h dX8_isSlot_13 ki_0 ?_
  refine T_sub [] rfl ?_
  exact t_X8_isSlot_L14 h hs (0 : Int32) σ
theorem t_X8_isSlot {K : Cx} (h : Ok K cX8_isSlot RX8 1 rm_X8_isSlot (some .boolean)) (hs : kiv K = St) (x0 : Int32) (σ : Sg)  : T K (QI K) 0 [(0, .int x0)] [] 0 0 σ (f_X8_isSlot x0 σ) := by
  unfold f_X8_isSlot
  refine T_iload_n (pc := 0) h dX8_isSlot_0 rfl 0 rfl ?_
  refine T_if_lt (pc := 1) (tgt := 13) h dX8_isSlot_1 (by decide) ?_ ?_
  · refine T_sub [] rfl ?_
    exact t_X8_isSlot_L13 h hs σ
  · refine T_iload_n (pc := 4) h dX8_isSlot_4 rfl 0 rfl ?_
    refine T_iconst (pc := 5) h dX8_isSlot_5 ki_4 ?_
    refine T_icmp_ge (pc := 6) (tgt := 13) h dX8_isSlot_6 (by decide) ?_ ?_
    · refine T_sub [] rfl ?_
      exact t_X8_isSlot_L13 h hs σ
    · refine T_iconst (pc := 9) h dX8_isSlot_9 ki_1 ?_
      refine T_goto (pc := 10) (tgt := 14) h dX8_isSlot_10 (by decide) ?_
      refine T_sub [] rfl ?_
      exact t_X8_isSlot_L14 h hs (1 : Int32) σ
theorem M_X8_isSlot (l : Launch) {iv : Sg → Prop} (hi : iv = St) (x0 : Int32) (σ : Sg)  : CTi l yX8_isSlot cX8_isSlot 1 (some .boolean) rm_X8_isSlot iv [.int x0] σ (f_X8_isSlot x0 σ) := by
  subst hi
  exact CT_of (by decide) (Nat.le_of_ble_eq_true rfl) (fun K _ h _ hs _ _ => t_X8_isSlot h hs x0 σ )
/-! LuteTabs.slotsKept()I -/
theorem dX8_slotsKept_0 : decode cX8_slotsKept 0 = .ok (.iconst 0, 1) := by decide +kernel
theorem dX8_slotsKept_1 : decode cX8_slotsKept 1 = .ok (.istore_n 1, 1) := by decide +kernel
theorem dX8_slotsKept_2 : decode cX8_slotsKept 2 = .ok (.iconst 0, 1) := by decide +kernel
theorem dX8_slotsKept_3 : decode cX8_slotsKept 3 = .ok (.istore_n 2, 1) := by decide +kernel
theorem dX8_slotsKept_4 : decode cX8_slotsKept 4 = .ok (.iload_n 2, 1) := by decide +kernel
theorem dX8_slotsKept_5 : decode cX8_slotsKept 5 = .ok (.iconst 4, 1) := by decide +kernel
theorem dX8_slotsKept_6 : decode cX8_slotsKept 6 = .ok (.if_icmp .ge 21, 3) := by decide +kernel
theorem dX8_slotsKept_9 : decode cX8_slotsKept 9 = .ok (.aload_n 0, 1) := by decide +kernel
theorem dX8_slotsKept_10 : decode cX8_slotsKept 10 = .ok (.getfield 73, 3) := by decide +kernel
theorem dX8_slotsKept_13 : decode cX8_slotsKept 13 = .ok (.iload_n 2, 1) := by decide +kernel
theorem dX8_slotsKept_14 : decode cX8_slotsKept 14 = .ok (.baload, 1) := by decide +kernel
theorem dX8_slotsKept_15 : decode cX8_slotsKept 15 = .ok (.ifCond .eq 6, 3) := by decide +kernel
theorem dX8_slotsKept_18 : decode cX8_slotsKept 18 = .ok (.iinc 1 1, 3) := by decide +kernel
theorem dX8_slotsKept_21 : decode cX8_slotsKept 21 = .ok (.iinc 2 1, 3) := by decide +kernel
theorem dX8_slotsKept_24 : decode cX8_slotsKept 24 = .ok (.goto (-20), 3) := by decide +kernel
theorem dX8_slotsKept_27 : decode cX8_slotsKept 27 = .ok (.iload_n 1, 1) := by decide +kernel
theorem dX8_slotsKept_28 : decode cX8_slotsKept 28 = .ok (.ireturn, 1) := by decide +kernel
abbrev rm_X8_slotsKept : Room := { frames := 0, cells := 0, slots := 0, locals := 0 }
def f_X8_slotsKept_L21 (rec4 : Int32 × Int32 → Option (Int32 × Sg)) (x0 : Nat) (x1 : Int32) (x2 : Int32)  (σ : Sg) : Option (Int32 × Sg) := lB (x2 + (1 : Int32)) fun v1 => rec4 (x1, v1)
def f_X8_slotsKept_L4  (x0 : Nat) (σ : Sg) (rec4 : Int32 × Int32 → Option (Int32 × Sg)) (s : Int32 × Int32) : Option (Int32 × Sg) := (if (4 : Int32) ≤ (s.2) then some ((s.1), σ) else ck (inb (s.2) (aL (gR σ x0 9))) ((if (gI σ (gR σ x0 9) (s.2).toNatClampNeg) = 0 then f_X8_slotsKept_L21 rec4 x0 (s.1) (s.2) σ else lB ((s.1) + (1 : Int32)) fun v2 => f_X8_slotsKept_L21 rec4 x0 v2 (s.2) σ)))
def f_X8_slotsKept (x0 : Nat) (σ : Sg) : Option (Int32 × Sg) := fx (f_X8_slotsKept_L4 x0 σ) FU ((0 : Int32), (0 : Int32))
theorem t_X8_slotsKept_L21 {K : Cx} (h : Ok K cX8_slotsKept RX8 3 rm_X8_slotsKept (some .int)) (hs : kiv K = St) (x0 : Nat) (x1 : Int32) (x2 : Int32)  (σ : Sg) (rec4 : Int32 × Int32 → Option (Int32 × Sg)) (hr4 : ∀ u, T K (QI K) 4 [(0, .ref x0), (1, .int (u.1)), (2, .int (u.2))] [] 0 0 σ (rec4 u)) (hk0 : kd x0 8)  : T K (QI K) 21 [(0, .ref x0), (1, .int x1), (2, .int x2)] [] 0 0 σ (f_X8_slotsKept_L21 rec4 x0 x1 x2 σ) := by
  unfold f_X8_slotsKept_L21
  refine T_iinc (fl := fun v1 => [(2, .int v1), (0, .ref x0), (1, .int x1)]) (pc := 21) h dX8_slotsKept_21 2 rfl ki_1 (by decide) (fun _ => rfl) (fun v1 => ?_)
  refine T_goto (pc := 24) (tgt := 4) h dX8_slotsKept_24 (by decide) ?_
  refine T_sub [1, 2, 0] rfl ?_
  exact hr4 (x1, v1)
theorem t_X8_slotsKept_L4 {K : Cx} (h : Ok K cX8_slotsKept RX8 3 rm_X8_slotsKept (some .int)) (hs : kiv K = St) (x0 : Nat) (σ : Sg)  (hk0 : kd x0 8) (rec4 : Int32 × Int32 → Option (Int32 × Sg)) (hr4 : ∀ u, T K (QI K) 4 [(0, .ref x0), (1, .int (u.1)), (2, .int (u.2))] [] 0 0 σ (rec4 u)) (s : Int32 × Int32) : T K (QI K) 4 [(0, .ref x0), (1, .int (s.1)), (2, .int (s.2))] [] 0 0 σ (f_X8_slotsKept_L4 x0 σ rec4 s) := by
  unfold f_X8_slotsKept_L4
  refine T_iload_n (pc := 4) h dX8_slotsKept_4 rfl 2 rfl ?_
  refine T_iconst (pc := 5) h dX8_slotsKept_5 ki_4 ?_
  refine T_icmp_ge (pc := 6) (tgt := 27) h dX8_slotsKept_6 (by decide) ?_ ?_
  · refine T_iload_n (pc := 27) h dX8_slotsKept_27 rfl 1 rfl ?_
    exact T_ireturn (pc := 28) h (Nat.zero_le _) (Nat.zero_le _) dX8_slotsKept_28
  · refine T_aload_n (pc := 9) h dX8_slotsKept_9 rfl 0 rfl ?_
    refine T_gR (pc := 10) h hs hk0 fl_X8_73 rfl fk_8_9 dX8_slotsKept_10 (fun hq1 => ?_)
    refine T_iload_n (pc := 13) h dX8_slotsKept_13 rfl 2 rfl ?_
    refine T_zald (pc := 14) h hs hq1 dX8_slotsKept_14 ?_
    refine T_if_eq (pc := 15) (tgt := 21) h dX8_slotsKept_15 (by decide) ?_ ?_
    · refine T_sub [0, 1, 2] rfl ?_
      exact t_X8_slotsKept_L21 h hs x0 (s.1) (s.2) σ rec4 hr4 hk0
    · refine T_iinc (fl := fun v2 => [(1, .int v2), (0, .ref x0), (2, .int (s.2))]) (pc := 18) h dX8_slotsKept_18 1 rfl ki_1 (by decide) (fun _ => rfl) (fun v2 => ?_)
      refine T_sub [1, 0, 2] rfl ?_
      exact t_X8_slotsKept_L21 h hs x0 v2 (s.2) σ rec4 hr4 hk0
theorem t_X8_slotsKept {K : Cx} (h : Ok K cX8_slotsKept RX8 3 rm_X8_slotsKept (some .int)) (hs : kiv K = St) (x0 : Nat) (σ : Sg) (hk0 : kd x0 8) : T K (QI K) 0 [(0, .ref x0)] [] 0 0 σ (f_X8_slotsKept x0 σ) := by
  unfold f_X8_slotsKept
  refine T_iconst (pc := 0) h dX8_slotsKept_0 ki_0 ?_
  refine T_istore_n (lv' := [(1, .int (0 : Int32)), (0, .ref x0)]) (pc := 1) h dX8_slotsKept_1 rfl (by decide) rfl ?_
  refine T_iconst (pc := 2) h dX8_slotsKept_2 ki_0 ?_
  refine T_istore_n (lv' := [(2, .int (0 : Int32)), (1, .int (0 : Int32)), (0, .ref x0)]) (pc := 3) h dX8_slotsKept_3 rfl (by decide) rfl ?_
  refine T_sub [2, 1, 0] rfl ?_
  exact T_fx (B := f_X8_slotsKept_L4 x0 σ) (fl := fun u => [(0, .ref x0), (1, .int (u.1)), (2, .int (u.2))]) (f := fun u => σ) (fun rec4 hr4 u => t_X8_slotsKept_L4 h hs x0 σ hk0 rec4 hr4 u) FU ((0 : Int32), (0 : Int32))
theorem M_X8_slotsKept (l : Launch) {iv : Sg → Prop} (hi : iv = St) (x0 : Nat) (σ : Sg) (hk0 : kd x0 8) : CTi l yX8_slotsKept cX8_slotsKept 3 (some .int) rm_X8_slotsKept iv [.ref x0] σ (f_X8_slotsKept x0 σ) := by
  subst hi
  exact CT_of (by decide) (Nat.le_of_ble_eq_true rfl) (fun K _ h _ hs _ _ => t_X8_slotsKept h hs x0 σ hk0)
/-! LuteTabs.keep(I)I -/
theorem dX8_keep_0 : decode cX8_keep 0 = .ok (.iload_n 1, 1) := by decide +kernel
theorem dX8_keep_1 : decode cX8_keep 1 = .ok (.invokestatic 217, 3) := by decide +kernel
theorem dX8_keep_4 : decode cX8_keep 4 = .ok (.ifCond .ne 6, 3) := by decide +kernel
theorem dX8_keep_7 : decode cX8_keep 7 = .ok (.bipush (-2), 2) := by decide +kernel
theorem dX8_keep_9 : decode cX8_keep 9 = .ok (.ireturn, 1) := by decide +kernel
theorem dX8_keep_10 : decode cX8_keep 10 = .ok (.aload_n 0, 1) := by decide +kernel
theorem dX8_keep_11 : decode cX8_keep 11 = .ok (.getfield 81, 3) := by decide +kernel
theorem dX8_keep_14 : decode cX8_keep 14 = .ok (.ifCond .ne 6, 3) := by decide +kernel
theorem dX8_keep_17 : decode cX8_keep 17 = .ok (.bipush (-3), 2) := by decide +kernel
theorem dX8_keep_19 : decode cX8_keep 19 = .ok (.ireturn, 1) := by decide +kernel
theorem dX8_keep_20 : decode cX8_keep 20 = .ok (.aload_n 0, 1) := by decide +kernel
theorem dX8_keep_21 : decode cX8_keep 21 = .ok (.getfield 77, 3) := by decide +kernel
theorem dX8_keep_24 : decode cX8_keep 24 = .ok (.iconst 0, 1) := by decide +kernel
theorem dX8_keep_25 : decode cX8_keep 25 = .ok (.aload_n 0, 1) := by decide +kernel
theorem dX8_keep_26 : decode cX8_keep 26 = .ok (.getfield 70, 3) := by decide +kernel
theorem dX8_keep_29 : decode cX8_keep 29 = .ok (.iload_n 1, 1) := by decide +kernel
theorem dX8_keep_30 : decode cX8_keep 30 = .ok (.aaload, 1) := by decide +kernel
theorem dX8_keep_31 : decode cX8_keep 31 = .ok (.iconst 0, 1) := by decide +kernel
theorem dX8_keep_32 : decode cX8_keep 32 = .ok (.bipush 14, 2) := by decide +kernel
theorem dX8_keep_34 : decode cX8_keep 34 = .ok (.invokestatic 220, 3) := by decide +kernel
theorem dX8_keep_37 : decode cX8_keep 37 = .ok (.aload_n 0, 1) := by decide +kernel
theorem dX8_keep_38 : decode cX8_keep 38 = .ok (.getfield 73, 3) := by decide +kernel
theorem dX8_keep_41 : decode cX8_keep 41 = .ok (.iload_n 1, 1) := by decide +kernel
theorem dX8_keep_42 : decode cX8_keep 42 = .ok (.iconst 1, 1) := by decide +kernel
theorem dX8_keep_43 : decode cX8_keep 43 = .ok (.bastore, 1) := by decide +kernel
theorem dX8_keep_44 : decode cX8_keep 44 = .ok (.aload_n 0, 1) := by decide +kernel
theorem dX8_keep_45 : decode cX8_keep 45 = .ok (.invokevirtual 226, 3) := by decide +kernel
theorem dX8_keep_48 : decode cX8_keep 48 = .ok (.ireturn, 1) := by decide +kernel
abbrev rm_X8_keep : Room := { frames := 1, cells := 0, slots := 0, locals := 26 }
def f_X8_keep (x0 : Nat) (x1 : Int32) (σ : Sg) : Option (Int32 × Sg) := bd (f_X8_isSlot x1 σ) fun r2 s1 => (if r2 = 0 then some ((-2 : Int32), s1) else (if (gI s1 x0 11) = 0 then some ((-3 : Int32), s1) else ck (inb x1 (aL (gR s1 x0 8))) (ck (cpb (0 : Int32) (0 : Int32) (14 : Int32) (aL (gR s1 x0 10)) (aL (gR s1 (gR s1 x0 8) x1.toNatClampNeg))) (lB (cpyI s1 (gR s1 x0 10) (0 : Int32).toNatClampNeg (gR s1 (gR s1 x0 8) x1.toNatClampNeg) (0 : Int32).toNatClampNeg (14 : Int32).toNatClampNeg) fun s6 => ck (inb x1 (aL (gR s6 x0 9))) (ck (b01 (1 : Int32)) (lB (pI s6 (gR s6 x0 9) x1.toNatClampNeg (1 : Int32)) fun s8 => bd (f_X8_slotsKept x0 s8) fun r10 s9 => some (r10, s9)))))))
theorem t_X8_keep {K : Cx} (h : Ok K cX8_keep RX8 2 rm_X8_keep (some .int)) (hs : kiv K = St) (x0 : Nat) (x1 : Int32) (σ : Sg) (hk0 : kd x0 8) : T K (QI K) 0 [(0, .ref x0), (1, .int x1)] [] 0 0 σ (f_X8_keep x0 x1 σ) := by
  unfold f_X8_keep
  refine T_iload_n (pc := 0) h dX8_keep_0 rfl 1 rfl ?_
  refine T_callSi (pc := 1) h (M_X8_isSlot (kl K) hs x1 σ ) mst_X8_isSlot ml_X8_217 rfl ⟨Nat.le_of_ble_eq_true rfl, Nat.le_of_ble_eq_true rfl⟩ ⟨Nat.le_refl 0, Nat.le_refl 0⟩ (Nat.le_of_ble_eq_true rfl) dX8_keep_1 rfl (fun r2 s1 => ?_)
  refine T_if_ne (pc := 4) (tgt := 10) h dX8_keep_4 (by decide) ?_ ?_
  · refine T_aload_n (pc := 10) h dX8_keep_10 rfl 0 rfl ?_
    refine T_getI (pc := 11) h hs hk0 fl_X8_81 rfl dX8_keep_11 ?_
    refine T_if_ne (pc := 14) (tgt := 20) h dX8_keep_14 (by decide) ?_ ?_
    · refine T_aload_n (pc := 20) h dX8_keep_20 rfl 0 rfl ?_
      refine T_gR (pc := 21) h hs hk0 fl_X8_77 rfl fk_8_10 dX8_keep_21 (fun hq3 => ?_)
      refine T_iconst (pc := 24) h dX8_keep_24 ki_0 ?_
      refine T_aload_n (pc := 25) h dX8_keep_25 rfl 0 rfl ?_
      refine T_gR (pc := 26) h hs hk0 fl_X8_70 rfl fk_8_8 dX8_keep_26 (fun hq4 => ?_)
      refine T_iload_n (pc := 29) h dX8_keep_29 rfl 1 rfl ?_
      refine T_aald (c := 14) (c' := 10) (pc := 30) h hs hq4 (by decide) dX8_keep_30 (fun hq5 => ?_)
      refine T_iconst (pc := 31) h dX8_keep_31 ki_0 ?_
      refine T_bipush (pc := 32) h dX8_keep_32 kb_14 ?_
      refine T_copyI (pc := 34) h hs hq3 hq5 ml_X8_220 ac_nat ac_sta ac_ini ⟨Nat.le_of_ble_eq_true rfl, Nat.le_of_ble_eq_true rfl⟩ (Nat.le_of_ble_eq_true rfl) dX8_keep_34 ?_
      refine T_letS fun s6 => ?_
      refine T_aload_n (pc := 37) h dX8_keep_37 rfl 0 rfl ?_
      refine T_gR (pc := 38) h hs hk0 fl_X8_73 rfl fk_8_9 dX8_keep_38 (fun hq7 => ?_)
      refine T_iload_n (pc := 41) h dX8_keep_41 rfl 1 rfl ?_
      refine T_iconst (pc := 42) h dX8_keep_42 ki_1 ?_
      refine T_zast (pc := 43) h hs hq7 dX8_keep_43 ?_
      refine T_letS fun s8 => ?_
      refine T_aload_n (pc := 44) h dX8_keep_44 rfl 0 rfl ?_
      refine T_callVi (pc := 45) h (M_X8_slotsKept (kl K) hs x0 s8 hk0) mv_X8_slotsKept hs hk0 ml_X8_226 rfl ⟨Nat.le_of_ble_eq_true rfl, Nat.le_of_ble_eq_true rfl⟩ ⟨Nat.le_refl 0, Nat.le_refl 0⟩ (Nat.le_of_ble_eq_true rfl) dX8_keep_45 rfl (fun r10 s9 => ?_)
      exact T_ireturn (pc := 48) h (Nat.zero_le _) (Nat.zero_le _) dX8_keep_48
    · refine T_bipush (pc := 17) h dX8_keep_17 kb_m3 ?_
      exact T_ireturn (pc := 19) h (Nat.zero_le _) (Nat.zero_le _) dX8_keep_19
  · refine T_bipush (pc := 7) h dX8_keep_7 kb_m2 ?_
    exact T_ireturn (pc := 9) h (Nat.zero_le _) (Nat.zero_le _) dX8_keep_9
theorem M_X8_keep (l : Launch) {iv : Sg → Prop} (hi : iv = St) (x0 : Nat) (x1 : Int32) (σ : Sg) (hk0 : kd x0 8) : CTi l yX8_keep cX8_keep 2 (some .int) rm_X8_keep iv [.ref x0, .int x1] σ (f_X8_keep x0 x1 σ) := by
  subst hi
  exact CT_of (by decide) (Nat.le_of_ble_eq_true rfl) (fun K _ h _ hs _ _ => t_X8_keep h hs x0 x1 σ hk0)
/-! LuteTabs.go(I)I -/
theorem dX8_go_0 : decode cX8_go 0 = .ok (.iload_n 1, 1) := by decide +kernel
theorem dX8_go_1 : decode cX8_go 1 = .ok (.invokestatic 217, 3) := by decide +kernel
theorem dX8_go_4 : decode cX8_go 4 = .ok (.ifCond .ne 6, 3) := by decide +kernel
theorem dX8_go_7 : decode cX8_go 7 = .ok (.bipush (-2), 2) := by decide +kernel
theorem dX8_go_9 : decode cX8_go 9 = .ok (.ireturn, 1) := by decide +kernel
theorem dX8_go_10 : decode cX8_go 10 = .ok (.aload_n 0, 1) := by decide +kernel
theorem dX8_go_11 : decode cX8_go 11 = .ok (.getfield 73, 3) := by decide +kernel
theorem dX8_go_14 : decode cX8_go 14 = .ok (.iload_n 1, 1) := by decide +kernel
theorem dX8_go_15 : decode cX8_go 15 = .ok (.baload, 1) := by decide +kernel
theorem dX8_go_16 : decode cX8_go 16 = .ok (.ifCond .ne 9, 3) := by decide +kernel
theorem dX8_go_19 : decode cX8_go 19 = .ok (.aload_n 0, 1) := by decide +kernel
theorem dX8_go_20 : decode cX8_go 20 = .ok (.iconst 1, 1) := by decide +kernel
theorem dX8_go_21 : decode cX8_go 21 = .ok (.invokevirtual 229, 3) := by decide +kernel
theorem dX8_go_24 : decode cX8_go 24 = .ok (.ireturn, 1) := by decide +kernel
theorem dX8_go_25 : decode cX8_go 25 = .ok (.aload_n 0, 1) := by decide +kernel
theorem dX8_go_26 : decode cX8_go 26 = .ok (.getfield 70, 3) := by decide +kernel
theorem dX8_go_29 : decode cX8_go 29 = .ok (.iload_n 1, 1) := by decide +kernel
theorem dX8_go_30 : decode cX8_go 30 = .ok (.aaload, 1) := by decide +kernel
theorem dX8_go_31 : decode cX8_go 31 = .ok (.iconst 0, 1) := by decide +kernel
theorem dX8_go_32 : decode cX8_go 32 = .ok (.aload_n 0, 1) := by decide +kernel
theorem dX8_go_33 : decode cX8_go 33 = .ok (.getfield 77, 3) := by decide +kernel
theorem dX8_go_36 : decode cX8_go 36 = .ok (.iconst 0, 1) := by decide +kernel
theorem dX8_go_37 : decode cX8_go 37 = .ok (.bipush 14, 2) := by decide +kernel
theorem dX8_go_39 : decode cX8_go 39 = .ok (.invokestatic 220, 3) := by decide +kernel
theorem dX8_go_42 : decode cX8_go 42 = .ok (.aload_n 0, 1) := by decide +kernel
theorem dX8_go_43 : decode cX8_go 43 = .ok (.iconst 1, 1) := by decide +kernel
theorem dX8_go_44 : decode cX8_go 44 = .ok (.putfield 81, 3) := by decide +kernel
theorem dX8_go_47 : decode cX8_go 47 = .ok (.aload_n 0, 1) := by decide +kernel
theorem dX8_go_48 : decode cX8_go 48 = .ok (.invokevirtual 186, 3) := by decide +kernel
theorem dX8_go_51 : decode cX8_go 51 = .ok (.ireturn, 1) := by decide +kernel
abbrev rm_X8_go : Room := { frames := 4, cells := 0, slots := 0, locals := 94 }
def f_X8_go (x0 : Nat) (x1 : Int32) (σ : Sg) : Option (Int32 × Sg) := bd (f_X8_isSlot x1 σ) fun r2 s1 => (if r2 = 0 then some ((-2 : Int32), s1) else ck (inb x1 (aL (gR s1 x0 9))) ((if (gI s1 (gR s1 x0 9) x1.toNatClampNeg) = 0 then bd (f_X8_finding x0 (1 : Int32) s1) fun r12 s11 => some (r12, s11) else ck (inb x1 (aL (gR s1 x0 8))) (ck (cpb (0 : Int32) (0 : Int32) (14 : Int32) (aL (gR s1 (gR s1 x0 8) x1.toNatClampNeg)) (aL (gR s1 x0 10))) (lB (cpyI s1 (gR s1 (gR s1 x0 8) x1.toNatClampNeg) (0 : Int32).toNatClampNeg (gR s1 x0 10) (0 : Int32).toNatClampNeg (14 : Int32).toNatClampNeg) fun s7 => ck (b01 (1 : Int32)) (lB (pI s7 x0 11 (1 : Int32)) fun s8 => bd (f_X8_costOfLaid x0 s8) fun r10 s9 => some (r10, s9)))))))
theorem t_X8_go {K : Cx} (h : Ok K cX8_go RX8 2 rm_X8_go (some .int)) (hs : kiv K = St) (x0 : Nat) (x1 : Int32) (σ : Sg) (hk0 : kd x0 8) : T K (QI K) 0 [(0, .ref x0), (1, .int x1)] [] 0 0 σ (f_X8_go x0 x1 σ) := by
  unfold f_X8_go
  refine T_iload_n (pc := 0) h dX8_go_0 rfl 1 rfl ?_
  refine T_callSi (pc := 1) h (M_X8_isSlot (kl K) hs x1 σ ) mst_X8_isSlot ml_X8_217 rfl ⟨Nat.le_of_ble_eq_true rfl, Nat.le_of_ble_eq_true rfl⟩ ⟨Nat.le_refl 0, Nat.le_refl 0⟩ (Nat.le_of_ble_eq_true rfl) dX8_go_1 rfl (fun r2 s1 => ?_)
  refine T_if_ne (pc := 4) (tgt := 10) h dX8_go_4 (by decide) ?_ ?_
  · refine T_aload_n (pc := 10) h dX8_go_10 rfl 0 rfl ?_
    refine T_gR (pc := 11) h hs hk0 fl_X8_73 rfl fk_8_9 dX8_go_11 (fun hq3 => ?_)
    refine T_iload_n (pc := 14) h dX8_go_14 rfl 1 rfl ?_
    refine T_zald (pc := 15) h hs hq3 dX8_go_15 ?_
    refine T_if_ne (pc := 16) (tgt := 25) h dX8_go_16 (by decide) ?_ ?_
    · refine T_aload_n (pc := 25) h dX8_go_25 rfl 0 rfl ?_
      refine T_gR (pc := 26) h hs hk0 fl_X8_70 rfl fk_8_8 dX8_go_26 (fun hq4 => ?_)
      refine T_iload_n (pc := 29) h dX8_go_29 rfl 1 rfl ?_
      refine T_aald (c := 14) (c' := 10) (pc := 30) h hs hq4 (by decide) dX8_go_30 (fun hq5 => ?_)
      refine T_iconst (pc := 31) h dX8_go_31 ki_0 ?_
      refine T_aload_n (pc := 32) h dX8_go_32 rfl 0 rfl ?_
      refine T_gR (pc := 33) h hs hk0 fl_X8_77 rfl fk_8_10 dX8_go_33 (fun hq6 => ?_)
      refine T_iconst (pc := 36) h dX8_go_36 ki_0 ?_
      refine T_bipush (pc := 37) h dX8_go_37 kb_14 ?_
      refine T_copyI (pc := 39) h hs hq5 hq6 ml_X8_220 ac_nat ac_sta ac_ini ⟨Nat.le_of_ble_eq_true rfl, Nat.le_of_ble_eq_true rfl⟩ (Nat.le_of_ble_eq_true rfl) dX8_go_39 ?_
      refine T_letS fun s7 => ?_
      refine T_aload_n (pc := 42) h dX8_go_42 rfl 0 rfl ?_
      refine T_iconst (pc := 43) h dX8_go_43 ki_1 ?_
      refine T_putZ (pc := 44) h hs hk0 fl_X8_81 rfl rfl dX8_go_44 ?_
      refine T_letS fun s8 => ?_
      refine T_aload_n (pc := 47) h dX8_go_47 rfl 0 rfl ?_
      refine T_callVi (pc := 48) h (M_X8_costOfLaid (kl K) hs x0 s8 hk0) mv_X8_costOfLaid hs hk0 ml_X8_186 rfl ⟨Nat.le_of_ble_eq_true rfl, Nat.le_of_ble_eq_true rfl⟩ ⟨Nat.le_refl 0, Nat.le_refl 0⟩ (Nat.le_of_ble_eq_true rfl) dX8_go_48 rfl (fun r10 s9 => ?_)
      exact T_ireturn (pc := 51) h (Nat.zero_le _) (Nat.zero_le _) dX8_go_51
    · refine T_aload_n (pc := 19) h dX8_go_19 rfl 0 rfl ?_
      refine T_iconst (pc := 20) h dX8_go_20 ki_1 ?_
      refine T_callVi (pc := 21) h (M_X8_finding (kl K) hs x0 (1 : Int32) s1 hk0) mv_X8_finding hs hk0 ml_X8_229 rfl ⟨Nat.le_of_ble_eq_true rfl, Nat.le_of_ble_eq_true rfl⟩ ⟨Nat.le_refl 0, Nat.le_refl 0⟩ (Nat.le_of_ble_eq_true rfl) dX8_go_21 rfl (fun r12 s11 => ?_)
      exact T_ireturn (pc := 24) h (Nat.zero_le _) (Nat.zero_le _) dX8_go_24
  · refine T_bipush (pc := 7) h dX8_go_7 kb_m2 ?_
    exact T_ireturn (pc := 9) h (Nat.zero_le _) (Nat.zero_le _) dX8_go_9
theorem M_X8_go (l : Launch) {iv : Sg → Prop} (hi : iv = St) (x0 : Nat) (x1 : Int32) (σ : Sg) (hk0 : kd x0 8) : CTi l yX8_go cX8_go 2 (some .int) rm_X8_go iv [.ref x0, .int x1] σ (f_X8_go x0 x1 σ) := by
  subst hi
  exact CT_of (by decide) (Nat.le_of_ble_eq_true rfl) (fun K _ h _ hs _ _ => t_X8_go h hs x0 x1 σ hk0)
/-! LuteTabs.differ(I)I -/
theorem dX8_differ_0 : decode cX8_differ 0 = .ok (.iload_n 1, 1) := by decide +kernel
theorem dX8_differ_1 : decode cX8_differ 1 = .ok (.invokestatic 217, 3) := by decide +kernel
theorem dX8_differ_4 : decode cX8_differ 4 = .ok (.ifCond .ne 6, 3) := by decide +kernel
theorem dX8_differ_7 : decode cX8_differ 7 = .ok (.bipush (-2), 2) := by decide +kernel
theorem dX8_differ_9 : decode cX8_differ 9 = .ok (.ireturn, 1) := by decide +kernel
theorem dX8_differ_10 : decode cX8_differ 10 = .ok (.aload_n 0, 1) := by decide +kernel
theorem dX8_differ_11 : decode cX8_differ 11 = .ok (.getfield 73, 3) := by decide +kernel
theorem dX8_differ_14 : decode cX8_differ 14 = .ok (.iload_n 1, 1) := by decide +kernel
theorem dX8_differ_15 : decode cX8_differ 15 = .ok (.baload, 1) := by decide +kernel
theorem dX8_differ_16 : decode cX8_differ 16 = .ok (.ifCond .ne 9, 3) := by decide +kernel
theorem dX8_differ_19 : decode cX8_differ 19 = .ok (.aload_n 0, 1) := by decide +kernel
theorem dX8_differ_20 : decode cX8_differ 20 = .ok (.iconst 1, 1) := by decide +kernel
theorem dX8_differ_21 : decode cX8_differ 21 = .ok (.invokevirtual 229, 3) := by decide +kernel
theorem dX8_differ_24 : decode cX8_differ 24 = .ok (.ireturn, 1) := by decide +kernel
theorem dX8_differ_25 : decode cX8_differ 25 = .ok (.aload_n 0, 1) := by decide +kernel
theorem dX8_differ_26 : decode cX8_differ 26 = .ok (.getfield 81, 3) := by decide +kernel
theorem dX8_differ_29 : decode cX8_differ 29 = .ok (.ifCond .ne 6, 3) := by decide +kernel
theorem dX8_differ_32 : decode cX8_differ 32 = .ok (.bipush (-3), 2) := by decide +kernel
theorem dX8_differ_34 : decode cX8_differ 34 = .ok (.ireturn, 1) := by decide +kernel
theorem dX8_differ_35 : decode cX8_differ 35 = .ok (.iconst 0, 1) := by decide +kernel
theorem dX8_differ_36 : decode cX8_differ 36 = .ok (.istore_n 2, 1) := by decide +kernel
theorem dX8_differ_37 : decode cX8_differ 37 = .ok (.iconst 0, 1) := by decide +kernel
theorem dX8_differ_38 : decode cX8_differ 38 = .ok (.istore_n 3, 1) := by decide +kernel
theorem dX8_differ_39 : decode cX8_differ 39 = .ok (.iload_n 3, 1) := by decide +kernel
theorem dX8_differ_40 : decode cX8_differ 40 = .ok (.aload_n 0, 1) := by decide +kernel
theorem dX8_differ_41 : decode cX8_differ 41 = .ok (.getfield 19, 3) := by decide +kernel
theorem dX8_differ_44 : decode cX8_differ 44 = .ok (.getfield 128, 3) := by decide +kernel
theorem dX8_differ_47 : decode cX8_differ 47 = .ok (.if_icmp .ge 29, 3) := by decide +kernel
theorem dX8_differ_50 : decode cX8_differ 50 = .ok (.aload_n 0, 1) := by decide +kernel
theorem dX8_differ_51 : decode cX8_differ 51 = .ok (.getfield 70, 3) := by decide +kernel
theorem dX8_differ_54 : decode cX8_differ 54 = .ok (.iload_n 1, 1) := by decide +kernel
theorem dX8_differ_55 : decode cX8_differ 55 = .ok (.aaload, 1) := by decide +kernel
theorem dX8_differ_56 : decode cX8_differ 56 = .ok (.iload_n 3, 1) := by decide +kernel
theorem dX8_differ_57 : decode cX8_differ 57 = .ok (.iaload, 1) := by decide +kernel
theorem dX8_differ_58 : decode cX8_differ 58 = .ok (.aload_n 0, 1) := by decide +kernel
theorem dX8_differ_59 : decode cX8_differ 59 = .ok (.getfield 77, 3) := by decide +kernel
theorem dX8_differ_62 : decode cX8_differ 62 = .ok (.iload_n 3, 1) := by decide +kernel
theorem dX8_differ_63 : decode cX8_differ 63 = .ok (.iaload, 1) := by decide +kernel
theorem dX8_differ_64 : decode cX8_differ 64 = .ok (.if_icmp .eq 6, 3) := by decide +kernel
theorem dX8_differ_67 : decode cX8_differ 67 = .ok (.iinc 2 1, 3) := by decide +kernel
theorem dX8_differ_70 : decode cX8_differ 70 = .ok (.iinc 3 1, 3) := by decide +kernel
theorem dX8_differ_73 : decode cX8_differ 73 = .ok (.goto (-34), 3) := by decide +kernel
theorem dX8_differ_76 : decode cX8_differ 76 = .ok (.iload_n 2, 1) := by decide +kernel
theorem dX8_differ_77 : decode cX8_differ 77 = .ok (.ireturn, 1) := by decide +kernel
abbrev rm_X8_differ : Room := { frames := 1, cells := 0, slots := 0, locals := 21 }
def f_X8_differ_L70 (rec39 : Int32 × Int32 → Option (Int32 × Sg)) (x0 : Nat) (x1 : Int32) (x2 : Int32) (x3 : Int32)  (σ : Sg) : Option (Int32 × Sg) := lB (x3 + (1 : Int32)) fun v1 => rec39 (x2, v1)
def f_X8_differ_L39  (x0 : Nat) (x1 : Int32) (σ : Sg) (rec39 : Int32 × Int32 → Option (Int32 × Sg)) (s : Int32 × Int32) : Option (Int32 × Sg) := (if (gI σ (gR σ x0 1) 6) ≤ (s.2) then some ((s.1), σ) else ck (inb x1 (aL (gR σ x0 8))) (ck (inb (s.2) (aL (gR σ (gR σ x0 8) x1.toNatClampNeg))) (ck (inb (s.2) (aL (gR σ x0 10))) ((if (gI σ (gR σ (gR σ x0 8) x1.toNatClampNeg) (s.2).toNatClampNeg) = (gI σ (gR σ x0 10) (s.2).toNatClampNeg) then f_X8_differ_L70 rec39 x0 x1 (s.1) (s.2) σ else lB ((s.1) + (1 : Int32)) fun v5 => f_X8_differ_L70 rec39 x0 x1 v5 (s.2) σ)))))
def f_X8_differ (x0 : Nat) (x1 : Int32) (σ : Sg) : Option (Int32 × Sg) := bd (f_X8_isSlot x1 σ) fun r2 s1 => (if r2 = 0 then some ((-2 : Int32), s1) else ck (inb x1 (aL (gR s1 x0 9))) ((if (gI s1 (gR s1 x0 9) x1.toNatClampNeg) = 0 then bd (f_X8_finding x0 (1 : Int32) s1) fun r5 s4 => some (r5, s4) else (if (gI s1 x0 11) = 0 then some ((-3 : Int32), s1) else fx (f_X8_differ_L39 x0 x1 s1) FU ((0 : Int32), (0 : Int32))))))
theorem t_X8_differ_L70 {K : Cx} (h : Ok K cX8_differ RX8 4 rm_X8_differ (some .int)) (hs : kiv K = St) (x0 : Nat) (x1 : Int32) (x2 : Int32) (x3 : Int32)  (σ : Sg) (rec39 : Int32 × Int32 → Option (Int32 × Sg)) (hr39 : ∀ u, T K (QI K) 39 [(0, .ref x0), (1, .int x1), (2, .int (u.1)), (3, .int (u.2))] [] 0 0 σ (rec39 u)) (hk0 : kd x0 8)  : T K (QI K) 70 [(0, .ref x0), (1, .int x1), (2, .int x2), (3, .int x3)] [] 0 0 σ (f_X8_differ_L70 rec39 x0 x1 x2 x3 σ) := by
  unfold f_X8_differ_L70
  refine T_iinc (fl := fun v1 => [(3, .int v1), (0, .ref x0), (1, .int x1), (2, .int x2)]) (pc := 70) h dX8_differ_70 3 rfl ki_1 (by decide) (fun _ => rfl) (fun v1 => ?_)
  refine T_goto (pc := 73) (tgt := 39) h dX8_differ_73 (by decide) ?_
  refine T_sub [1, 2, 3, 0] rfl ?_
  exact hr39 (x2, v1)
theorem t_X8_differ_L39 {K : Cx} (h : Ok K cX8_differ RX8 4 rm_X8_differ (some .int)) (hs : kiv K = St) (x0 : Nat) (x1 : Int32) (σ : Sg)  (hk0 : kd x0 8) (rec39 : Int32 × Int32 → Option (Int32 × Sg)) (hr39 : ∀ u, T K (QI K) 39 [(0, .ref x0), (1, .int x1), (2, .int (u.1)), (3, .int (u.2))] [] 0 0 σ (rec39 u)) (s : Int32 × Int32) : T K (QI K) 39 [(0, .ref x0), (1, .int x1), (2, .int (s.1)), (3, .int (s.2))] [] 0 0 σ (f_X8_differ_L39 x0 x1 σ rec39 s) := by
  unfold f_X8_differ_L39
  refine T_iload_n (pc := 39) h dX8_differ_39 rfl 3 rfl ?_
  refine T_aload_n (pc := 40) h dX8_differ_40 rfl 0 rfl ?_
  refine T_gR (pc := 41) h hs hk0 fl_X8_19 rfl fk_8_1 dX8_differ_41 (fun hq1 => ?_)
  refine T_getI (pc := 44) h hs hq1 fl_X8_128 rfl dX8_differ_44 ?_
  refine T_icmp_ge (pc := 47) (tgt := 76) h dX8_differ_47 (by decide) ?_ ?_
  · refine T_iload_n (pc := 76) h dX8_differ_76 rfl 2 rfl ?_
    exact T_ireturn (pc := 77) h (Nat.zero_le _) (Nat.zero_le _) dX8_differ_77
  · refine T_aload_n (pc := 50) h dX8_differ_50 rfl 0 rfl ?_
    refine T_gR (pc := 51) h hs hk0 fl_X8_70 rfl fk_8_8 dX8_differ_51 (fun hq2 => ?_)
    refine T_iload_n (pc := 54) h dX8_differ_54 rfl 1 rfl ?_
    refine T_aald (c := 14) (c' := 10) (pc := 55) h hs hq2 (by decide) dX8_differ_55 (fun hq3 => ?_)
    refine T_iload_n (pc := 56) h dX8_differ_56 rfl 3 rfl ?_
    refine T_iald (pc := 57) h hs hq3 dX8_differ_57 ?_
    refine T_aload_n (pc := 58) h dX8_differ_58 rfl 0 rfl ?_
    refine T_gR (pc := 59) h hs hk0 fl_X8_77 rfl fk_8_10 dX8_differ_59 (fun hq4 => ?_)
    refine T_iload_n (pc := 62) h dX8_differ_62 rfl 3 rfl ?_
    refine T_iald (pc := 63) h hs hq4 dX8_differ_63 ?_
    refine T_icmp_eq (pc := 64) (tgt := 70) h dX8_differ_64 (by decide) ?_ ?_
    · refine T_sub [0, 1, 2, 3] rfl ?_
      exact t_X8_differ_L70 h hs x0 x1 (s.1) (s.2) σ rec39 hr39 hk0
    · refine T_iinc (fl := fun v5 => [(2, .int v5), (0, .ref x0), (1, .int x1), (3, .int (s.2))]) (pc := 67) h dX8_differ_67 2 rfl ki_1 (by decide) (fun _ => rfl) (fun v5 => ?_)
      refine T_sub [1, 2, 0, 3] rfl ?_
      exact t_X8_differ_L70 h hs x0 x1 v5 (s.2) σ rec39 hr39 hk0
theorem t_X8_differ {K : Cx} (h : Ok K cX8_differ RX8 4 rm_X8_differ (some .int)) (hs : kiv K = St) (x0 : Nat) (x1 : Int32) (σ : Sg) (hk0 : kd x0 8) : T K (QI K) 0 [(0, .ref x0), (1, .int x1)] [] 0 0 σ (f_X8_differ x0 x1 σ) := by
  unfold f_X8_differ
  refine T_iload_n (pc := 0) h dX8_differ_0 rfl 1 rfl ?_
  refine T_callSi (pc := 1) h (M_X8_isSlot (kl K) hs x1 σ ) mst_X8_isSlot ml_X8_217 rfl ⟨Nat.le_of_ble_eq_true rfl, Nat.le_of_ble_eq_true rfl⟩ ⟨Nat.le_refl 0, Nat.le_refl 0⟩ (Nat.le_of_ble_eq_true rfl) dX8_differ_1 rfl (fun r2 s1 => ?_)
  refine T_if_ne (pc := 4) (tgt := 10) h dX8_differ_4 (by decide) ?_ ?_
  · refine T_aload_n (pc := 10) h dX8_differ_10 rfl 0 rfl ?_
    refine T_gR (pc := 11) h hs hk0 fl_X8_73 rfl fk_8_9 dX8_differ_11 (fun hq3 => ?_)
    refine T_iload_n (pc := 14) h dX8_differ_14 rfl 1 rfl ?_
    refine T_zald (pc := 15) h hs hq3 dX8_differ_15 ?_
    refine T_if_ne (pc := 16) (tgt := 25) h dX8_differ_16 (by decide) ?_ ?_
    · refine T_aload_n (pc := 25) h dX8_differ_25 rfl 0 rfl ?_
      refine T_getI (pc := 26) h hs hk0 fl_X8_81 rfl dX8_differ_26 ?_
      refine T_if_ne (pc := 29) (tgt := 35) h dX8_differ_29 (by decide) ?_ ?_
      · refine T_iconst (pc := 35) h dX8_differ_35 ki_0 ?_
        refine T_istore_n (lv' := [(2, .int (0 : Int32)), (0, .ref x0), (1, .int x1)]) (pc := 36) h dX8_differ_36 rfl (by decide) rfl ?_
        refine T_iconst (pc := 37) h dX8_differ_37 ki_0 ?_
        refine T_istore_n (lv' := [(3, .int (0 : Int32)), (2, .int (0 : Int32)), (0, .ref x0), (1, .int x1)]) (pc := 38) h dX8_differ_38 rfl (by decide) rfl ?_
        refine T_sub [2, 3, 1, 0] rfl ?_
        exact T_fx (B := f_X8_differ_L39 x0 x1 s1) (fl := fun u => [(0, .ref x0), (1, .int x1), (2, .int (u.1)), (3, .int (u.2))]) (f := fun u => s1) (fun rec39 hr39 u => t_X8_differ_L39 h hs x0 x1 s1 hk0 rec39 hr39 u) FU ((0 : Int32), (0 : Int32))
      · refine T_bipush (pc := 32) h dX8_differ_32 kb_m3 ?_
        exact T_ireturn (pc := 34) h (Nat.zero_le _) (Nat.zero_le _) dX8_differ_34
    · refine T_aload_n (pc := 19) h dX8_differ_19 rfl 0 rfl ?_
      refine T_iconst (pc := 20) h dX8_differ_20 ki_1 ?_
      refine T_callVi (pc := 21) h (M_X8_finding (kl K) hs x0 (1 : Int32) s1 hk0) mv_X8_finding hs hk0 ml_X8_229 rfl ⟨Nat.le_of_ble_eq_true rfl, Nat.le_of_ble_eq_true rfl⟩ ⟨Nat.le_refl 0, Nat.le_refl 0⟩ (Nat.le_of_ble_eq_true rfl) dX8_differ_21 rfl (fun r5 s4 => ?_)
      exact T_ireturn (pc := 24) h (Nat.zero_le _) (Nat.zero_le _) dX8_differ_24
  · refine T_bipush (pc := 7) h dX8_differ_7 kb_m2 ?_
    exact T_ireturn (pc := 9) h (Nat.zero_le _) (Nat.zero_le _) dX8_differ_9
theorem M_X8_differ (l : Launch) {iv : Sg → Prop} (hi : iv = St) (x0 : Nat) (x1 : Int32) (σ : Sg) (hk0 : kd x0 8) : CTi l yX8_differ cX8_differ 4 (some .int) rm_X8_differ iv [.ref x0, .int x1] σ (f_X8_differ x0 x1 σ) := by
  subst hi
  exact CT_of (by decide) (Nat.le_of_ble_eq_true rfl) (fun K _ h _ hs _ _ => t_X8_differ h hs x0 x1 σ hk0)
/-! LuteTabs.letterAt(II)I -/
theorem dX8_letterAt_0 : decode cX8_letterAt 0 = .ok (.aload_n 0, 1) := by decide +kernel
theorem dX8_letterAt_1 : decode cX8_letterAt 1 = .ok (.getfield 19, 3) := by decide +kernel
theorem dX8_letterAt_4 : decode cX8_letterAt 4 = .ok (.getfield 195, 3) := by decide +kernel
theorem dX8_letterAt_7 : decode cX8_letterAt 7 = .ok (.iload_n 1, 1) := by decide +kernel
theorem dX8_letterAt_8 : decode cX8_letterAt 8 = .ok (.iaload, 1) := by decide +kernel
theorem dX8_letterAt_9 : decode cX8_letterAt 9 = .ok (.istore_n 3, 1) := by decide +kernel
theorem dX8_letterAt_10 : decode cX8_letterAt 10 = .ok (.iload_n 3, 1) := by decide +kernel
theorem dX8_letterAt_11 : decode cX8_letterAt 11 = .ok (.aload_n 0, 1) := by decide +kernel
theorem dX8_letterAt_12 : decode cX8_letterAt 12 = .ok (.getfield 19, 3) := by decide +kernel
theorem dX8_letterAt_15 : decode cX8_letterAt 15 = .ok (.getfield 195, 3) := by decide +kernel
theorem dX8_letterAt_18 : decode cX8_letterAt 18 = .ok (.iload_n 1, 1) := by decide +kernel
theorem dX8_letterAt_19 : decode cX8_letterAt 19 = .ok (.iconst 1, 1) := by decide +kernel
theorem dX8_letterAt_20 : decode cX8_letterAt 20 = .ok (.iadd, 1) := by decide +kernel
theorem dX8_letterAt_21 : decode cX8_letterAt 21 = .ok (.iaload, 1) := by decide +kernel
theorem dX8_letterAt_22 : decode cX8_letterAt 22 = .ok (.if_icmp .ge 28, 3) := by decide +kernel
theorem dX8_letterAt_25 : decode cX8_letterAt 25 = .ok (.aload_n 0, 1) := by decide +kernel
theorem dX8_letterAt_26 : decode cX8_letterAt 26 = .ok (.getfield 77, 3) := by decide +kernel
theorem dX8_letterAt_29 : decode cX8_letterAt 29 = .ok (.iload_n 3, 1) := by decide +kernel
theorem dX8_letterAt_30 : decode cX8_letterAt 30 = .ok (.iaload, 1) := by decide +kernel
theorem dX8_letterAt_31 : decode cX8_letterAt 31 = .ok (.iload_n 2, 1) := by decide +kernel
theorem dX8_letterAt_32 : decode cX8_letterAt 32 = .ok (.if_icmp .ne 12, 3) := by decide +kernel
theorem dX8_letterAt_35 : decode cX8_letterAt 35 = .ok (.bipush 97, 2) := by decide +kernel
theorem dX8_letterAt_37 : decode cX8_letterAt 37 = .ok (.aload_n 0, 1) := by decide +kernel
theorem dX8_letterAt_38 : decode cX8_letterAt 38 = .ok (.iload_n 3, 1) := by decide +kernel
theorem dX8_letterAt_39 : decode cX8_letterAt 39 = .ok (.invokevirtual 291, 3) := by decide +kernel
theorem dX8_letterAt_42 : decode cX8_letterAt 42 = .ok (.iadd, 1) := by decide +kernel
theorem dX8_letterAt_43 : decode cX8_letterAt 43 = .ok (.ireturn, 1) := by decide +kernel
theorem dX8_letterAt_44 : decode cX8_letterAt 44 = .ok (.iinc 3 1, 3) := by decide +kernel
theorem dX8_letterAt_47 : decode cX8_letterAt 47 = .ok (.goto (-37), 3) := by decide +kernel
theorem dX8_letterAt_50 : decode cX8_letterAt 50 = .ok (.bipush 45, 2) := by decide +kernel
theorem dX8_letterAt_52 : decode cX8_letterAt 52 = .ok (.ireturn, 1) := by decide +kernel
abbrev rm_X8_letterAt : Room := { frames := 1, cells := 0, slots := 0, locals := 21 }
def f_X8_letterAt_L10  (x0 : Nat) (x1 : Int32) (x2 : Int32) (σ : Sg) (rec10 : Int32 → Option (Int32 × Sg)) (s : Int32) : Option (Int32 × Sg) := ck (inb (x1 + (1 : Int32)) (aL (gR σ (gR σ x0 1) 4))) ((if (gI σ (gR σ (gR σ x0 1) 4) (x1 + (1 : Int32)).toNatClampNeg) ≤ s then some ((45 : Int32), σ) else ck (inb s (aL (gR σ x0 10))) ((if (gI σ (gR σ x0 10) s.toNatClampNeg) = x2 then bd (f_X8_fretOfLaid x0 s σ) fun r6 s5 => some (((97 : Int32) + r6), s5) else lB (s + (1 : Int32)) fun v4 => rec10 v4))))
def f_X8_letterAt (x0 : Nat) (x1 : Int32) (x2 : Int32) (σ : Sg) : Option (Int32 × Sg) := ck (inb x1 (aL (gR σ (gR σ x0 1) 4))) (lB ((gI σ (gR σ (gR σ x0 1) 4) x1.toNatClampNeg)) fun v3 => fx (f_X8_letterAt_L10 x0 x1 x2 σ) FU v3)
theorem t_X8_letterAt_L10 {K : Cx} (h : Ok K cX8_letterAt RX8 4 rm_X8_letterAt (some .int)) (hs : kiv K = St) (x0 : Nat) (x1 : Int32) (x2 : Int32) (σ : Sg)  (hk0 : kd x0 8) (rec10 : Int32 → Option (Int32 × Sg)) (hr10 : ∀ u, T K (QI K) 10 [(0, .ref x0), (1, .int x1), (2, .int x2), (3, .int u)] [] 0 0 σ (rec10 u)) (s : Int32) : T K (QI K) 10 [(0, .ref x0), (1, .int x1), (2, .int x2), (3, .int s)] [] 0 0 σ (f_X8_letterAt_L10 x0 x1 x2 σ rec10 s) := by
  unfold f_X8_letterAt_L10
  refine T_iload_n (pc := 10) h dX8_letterAt_10 rfl 3 rfl ?_
  refine T_aload_n (pc := 11) h dX8_letterAt_11 rfl 0 rfl ?_
  refine T_gR (pc := 12) h hs hk0 fl_X8_19 rfl fk_8_1 dX8_letterAt_12 (fun hq1 => ?_)
  refine T_gR (pc := 15) h hs hq1 fl_X8_195 rfl fk_2_4 dX8_letterAt_15 (fun hq2 => ?_)
  refine T_iload_n (pc := 18) h dX8_letterAt_18 rfl 1 rfl ?_
  refine T_iconst (pc := 19) h dX8_letterAt_19 ki_1 ?_
  refine T_iadd (pc := 20) h dX8_letterAt_20 ?_
  refine T_iald (pc := 21) h hs hq2 dX8_letterAt_21 ?_
  refine T_icmp_ge (pc := 22) (tgt := 50) h dX8_letterAt_22 (by decide) ?_ ?_
  · refine T_bipush (pc := 50) h dX8_letterAt_50 kb_45 ?_
    exact T_ireturn (pc := 52) h (Nat.zero_le _) (Nat.zero_le _) dX8_letterAt_52
  · refine T_aload_n (pc := 25) h dX8_letterAt_25 rfl 0 rfl ?_
    refine T_gR (pc := 26) h hs hk0 fl_X8_77 rfl fk_8_10 dX8_letterAt_26 (fun hq3 => ?_)
    refine T_iload_n (pc := 29) h dX8_letterAt_29 rfl 3 rfl ?_
    refine T_iald (pc := 30) h hs hq3 dX8_letterAt_30 ?_
    refine T_iload_n (pc := 31) h dX8_letterAt_31 rfl 2 rfl ?_
    refine T_icmp_ne (pc := 32) (tgt := 44) h dX8_letterAt_32 (by decide) ?_ ?_
    · refine T_iinc (fl := fun v4 => [(3, .int v4), (0, .ref x0), (1, .int x1), (2, .int x2)]) (pc := 44) h dX8_letterAt_44 3 rfl ki_1 (by decide) (fun _ => rfl) (fun v4 => ?_)
      refine T_goto (pc := 47) (tgt := 10) h dX8_letterAt_47 (by decide) ?_
      refine T_sub [1, 2, 3, 0] rfl ?_
      exact hr10 v4
    · refine T_bipush (pc := 35) h dX8_letterAt_35 kb_97 ?_
      refine T_aload_n (pc := 37) h dX8_letterAt_37 rfl 0 rfl ?_
      refine T_iload_n (pc := 38) h dX8_letterAt_38 rfl 3 rfl ?_
      refine T_callVi (pc := 39) h (M_X8_fretOfLaid (kl K) hs x0 s σ hk0) mv_X8_fretOfLaid hs hk0 ml_X8_291 rfl ⟨Nat.le_of_ble_eq_true rfl, Nat.le_of_ble_eq_true rfl⟩ ⟨Nat.le_refl 0, Nat.le_refl 0⟩ (Nat.le_of_ble_eq_true rfl) dX8_letterAt_39 rfl (fun r6 s5 => ?_)
      refine T_iadd (pc := 42) h dX8_letterAt_42 ?_
      exact T_ireturn (pc := 43) h (Nat.zero_le _) (Nat.zero_le _) dX8_letterAt_43
theorem t_X8_letterAt {K : Cx} (h : Ok K cX8_letterAt RX8 4 rm_X8_letterAt (some .int)) (hs : kiv K = St) (x0 : Nat) (x1 : Int32) (x2 : Int32) (σ : Sg) (hk0 : kd x0 8) : T K (QI K) 0 [(0, .ref x0), (1, .int x1), (2, .int x2)] [] 0 0 σ (f_X8_letterAt x0 x1 x2 σ) := by
  unfold f_X8_letterAt
  refine T_aload_n (pc := 0) h dX8_letterAt_0 rfl 0 rfl ?_
  refine T_gR (pc := 1) h hs hk0 fl_X8_19 rfl fk_8_1 dX8_letterAt_1 (fun hq1 => ?_)
  refine T_gR (pc := 4) h hs hq1 fl_X8_195 rfl fk_2_4 dX8_letterAt_4 (fun hq2 => ?_)
  refine T_iload_n (pc := 7) h dX8_letterAt_7 rfl 1 rfl ?_
  refine T_iald (pc := 8) h hs hq2 dX8_letterAt_8 ?_
  refine T_letI fun v3 => ?_
  refine T_istore_n (lv' := [(3, .int v3), (0, .ref x0), (1, .int x1), (2, .int x2)]) (pc := 9) h dX8_letterAt_9 rfl (by decide) rfl ?_
  refine T_sub [1, 2, 3, 0] rfl ?_
  exact T_fx (B := f_X8_letterAt_L10 x0 x1 x2 σ) (fl := fun u => [(0, .ref x0), (1, .int x1), (2, .int x2), (3, .int u)]) (f := fun u => σ) (fun rec10 hr10 u => t_X8_letterAt_L10 h hs x0 x1 x2 σ hk0 rec10 hr10 u) FU v3
theorem M_X8_letterAt (l : Launch) {iv : Sg → Prop} (hi : iv = St) (x0 : Nat) (x1 : Int32) (x2 : Int32) (σ : Sg) (hk0 : kd x0 8) : CTi l yX8_letterAt cX8_letterAt 4 (some .int) rm_X8_letterAt iv [.ref x0, .int x1, .int x2] σ (f_X8_letterAt x0 x1 x2 σ) := by
  subst hi
  exact CT_of (by decide) (Nat.le_of_ble_eq_true rfl) (fun K _ h _ hs _ _ => t_X8_letterAt h hs x0 x1 x2 σ hk0)
/-! LuteTabs.makeTablature()Z -/
theorem dX8_makeTablature_0 : decode cX8_makeTablature 0 = .ok (.aload_n 0, 1) := by decide +kernel
theorem dX8_makeTablature_1 : decode cX8_makeTablature 1 = .ok (.getfield 81, 3) := by decide +kernel
theorem dX8_makeTablature_4 : decode cX8_makeTablature 4 = .ok (.ifCond .eq 10, 3) := by decide +kernel
theorem dX8_makeTablature_7 : decode cX8_makeTablature 7 = .ok (.aload_n 0, 1) := by decide +kernel
theorem dX8_makeTablature_8 : decode cX8_makeTablature 8 = .ok (.invokevirtual 182, 3) := by decide +kernel
theorem dX8_makeTablature_11 : decode cX8_makeTablature 11 = .ok (.ifCond .eq 5, 3) := by decide +kernel
theorem dX8_makeTablature_14 : decode cX8_makeTablature 14 = .ok (.iconst 0, 1) := by decide +kernel
theorem dX8_makeTablature_15 : decode cX8_makeTablature 15 = .ok (.ireturn, 1) := by decide +kernel
theorem dX8_makeTablature_16 : decode cX8_makeTablature 16 = .ok (.aload_n 0, 1) := by decide +kernel
theorem dX8_makeTablature_17 : decode cX8_makeTablature 17 = .ok (.getfield 59, 3) := by decide +kernel
theorem dX8_makeTablature_20 : decode cX8_makeTablature 20 = .ok (.iconst 0, 1) := by decide +kernel
theorem dX8_makeTablature_21 : decode cX8_makeTablature 21 = .ok (.putfield 236, 3) := by decide +kernel
theorem dX8_makeTablature_24 : decode cX8_makeTablature 24 = .ok (.iconst 0, 1) := by decide +kernel
theorem dX8_makeTablature_25 : decode cX8_makeTablature 25 = .ok (.istore_n 1, 1) := by decide +kernel
theorem dX8_makeTablature_26 : decode cX8_makeTablature 26 = .ok (.iload_n 1, 1) := by decide +kernel
theorem dX8_makeTablature_27 : decode cX8_makeTablature 27 = .ok (.aload_n 0, 1) := by decide +kernel
theorem dX8_makeTablature_28 : decode cX8_makeTablature 28 = .ok (.getfield 19, 3) := by decide +kernel
theorem dX8_makeTablature_31 : decode cX8_makeTablature 31 = .ok (.getfield 294, 3) := by decide +kernel
theorem dX8_makeTablature_34 : decode cX8_makeTablature 34 = .ok (.if_icmp .ge 74, 3) := by decide +kernel
theorem dX8_makeTablature_37 : decode cX8_makeTablature 37 = .ok (.aload_n 0, 1) := by decide +kernel
theorem dX8_makeTablature_38 : decode cX8_makeTablature 38 = .ok (.getfield 59, 3) := by decide +kernel
theorem dX8_makeTablature_41 : decode cX8_makeTablature 41 = .ok (.aload_n 0, 1) := by decide +kernel
theorem dX8_makeTablature_42 : decode cX8_makeTablature 42 = .ok (.getfield 19, 3) := by decide +kernel
theorem dX8_makeTablature_45 : decode cX8_makeTablature 45 = .ok (.iload_n 1, 1) := by decide +kernel
theorem dX8_makeTablature_46 : decode cX8_makeTablature 46 = .ok (.invokevirtual 192, 3) := by decide +kernel
theorem dX8_makeTablature_49 : decode cX8_makeTablature 49 = .ok (.invokevirtual 376, 3) := by decide +kernel
theorem dX8_makeTablature_52 : decode cX8_makeTablature 52 = .ok (.aload_n 0, 1) := by decide +kernel
theorem dX8_makeTablature_53 : decode cX8_makeTablature 53 = .ok (.getfield 59, 3) := by decide +kernel
theorem dX8_makeTablature_56 : decode cX8_makeTablature 56 = .ok (.bipush 58, 2) := by decide +kernel
theorem dX8_makeTablature_58 : decode cX8_makeTablature 58 = .ok (.invokevirtual 240, 3) := by decide +kernel
theorem dX8_makeTablature_61 : decode cX8_makeTablature 61 = .ok (.iconst 0, 1) := by decide +kernel
theorem dX8_makeTablature_62 : decode cX8_makeTablature 62 = .ok (.istore_n 2, 1) := by decide +kernel
theorem dX8_makeTablature_63 : decode cX8_makeTablature 63 = .ok (.iload_n 2, 1) := by decide +kernel
theorem dX8_makeTablature_64 : decode cX8_makeTablature 64 = .ok (.aload_n 0, 1) := by decide +kernel
theorem dX8_makeTablature_65 : decode cX8_makeTablature 65 = .ok (.getfield 10, 3) := by decide +kernel
theorem dX8_makeTablature_68 : decode cX8_makeTablature 68 = .ok (.getfield 90, 3) := by decide +kernel
theorem dX8_makeTablature_71 : decode cX8_makeTablature 71 = .ok (.if_icmp .ge 22, 3) := by decide +kernel
theorem dX8_makeTablature_74 : decode cX8_makeTablature 74 = .ok (.aload_n 0, 1) := by decide +kernel
theorem dX8_makeTablature_75 : decode cX8_makeTablature 75 = .ok (.getfield 59, 3) := by decide +kernel
theorem dX8_makeTablature_78 : decode cX8_makeTablature 78 = .ok (.aload_n 0, 1) := by decide +kernel
theorem dX8_makeTablature_79 : decode cX8_makeTablature 79 = .ok (.iload_n 1, 1) := by decide +kernel
theorem dX8_makeTablature_80 : decode cX8_makeTablature 80 = .ok (.iload_n 2, 1) := by decide +kernel
theorem dX8_makeTablature_81 : decode cX8_makeTablature 81 = .ok (.invokevirtual 379, 3) := by decide +kernel
theorem dX8_makeTablature_84 : decode cX8_makeTablature 84 = .ok (.invokevirtual 240, 3) := by decide +kernel
theorem dX8_makeTablature_87 : decode cX8_makeTablature 87 = .ok (.iinc 2 1, 3) := by decide +kernel
theorem dX8_makeTablature_90 : decode cX8_makeTablature 90 = .ok (.goto (-27), 3) := by decide +kernel
theorem dX8_makeTablature_93 : decode cX8_makeTablature 93 = .ok (.aload_n 0, 1) := by decide +kernel
theorem dX8_makeTablature_94 : decode cX8_makeTablature 94 = .ok (.getfield 59, 3) := by decide +kernel
theorem dX8_makeTablature_97 : decode cX8_makeTablature 97 = .ok (.bipush 59, 2) := by decide +kernel
theorem dX8_makeTablature_99 : decode cX8_makeTablature 99 = .ok (.invokevirtual 240, 3) := by decide +kernel
theorem dX8_makeTablature_102 : decode cX8_makeTablature 102 = .ok (.iinc 1 1, 3) := by decide +kernel
theorem dX8_makeTablature_105 : decode cX8_makeTablature 105 = .ok (.goto (-79), 3) := by decide +kernel
theorem dX8_makeTablature_108 : decode cX8_makeTablature 108 = .ok (.iconst 1, 1) := by decide +kernel
theorem dX8_makeTablature_109 : decode cX8_makeTablature 109 = .ok (.ireturn, 1) := by decide +kernel
abbrev rm_X8_makeTablature : Room := { frames := 4, cells := 0, slots := 0, locals := 93 }
def f_X8_makeTablature_L14    (σ : Sg) : Option (Int32 × Sg) := ck (b01 (0 : Int32)) (some ((0 : Int32), σ))
def f_X8_makeTablature_L63 (rec26 : Int32 × Sg → Option (Int32 × Sg)) (x0 : Nat) (x1 : Int32) (rec63 : Int32 × Sg → Option (Int32 × Sg)) (s : Int32 × Sg) : Option (Int32 × Sg) := (if (gI (s.2) (gR (s.2) x0 0) 0) ≤ (s.1) then bd (f_X4_append (gR (s.2) x0 6) (59 : Int32) (s.2)) fun _ s3 => lB (x1 + (1 : Int32)) fun v4 => rec26 (v4, s3) else bd (f_X8_letterAt x0 x1 (s.1) (s.2)) fun r7 s6 => bd (f_X4_append (gR (s.2) x0 6) r7 s6) fun _ s8 => lB ((s.1) + (1 : Int32)) fun v9 => rec63 (v9, s8))
def f_X8_makeTablature_L26  (x0 : Nat) (rec26 : Int32 × Sg → Option (Int32 × Sg)) (s : Int32 × Sg) : Option (Int32 × Sg) := (if (gI (s.2) (gR (s.2) x0 1) 7) ≤ (s.1) then ck (b01 (1 : Int32)) (some ((1 : Int32), (s.2))) else bd (f_X2_timeOfChord (gR (s.2) x0 1) (s.1) (s.2)) fun r5 s4 => bd (f_X4_appendFigures (gR (s.2) x0 6) r5 s4) fun _ s6 => bd (f_X4_append (gR s6 x0 6) (58 : Int32) s6) fun _ s8 => fx (f_X8_makeTablature_L63 rec26 x0 (s.1)) FU ((0 : Int32), s8))
def f_X8_makeTablature (x0 : Nat) (σ : Sg) : Option (Int32 × Sg) := (if (gI σ x0 11) = 0 then f_X8_makeTablature_L14 σ else bd (f_X8_wrongs x0 σ) fun r2 s1 => (if r2 = 0 then lB (pI s1 (gR s1 x0 6) 1 (0 : Int32)) fun s4 => fx (f_X8_makeTablature_L26 x0) FU ((0 : Int32), s4) else f_X8_makeTablature_L14 s1))
theorem t_X8_makeTablature_L14 {K : Cx} (h : Ok K cX8_makeTablature RX8 3 rm_X8_makeTablature (some .boolean)) (hs : kiv K = St)   (σ : Sg)    : T K (QI K) 14 [] [] 0 0 σ (f_X8_makeTablature_L14 σ) := by
  unfold f_X8_makeTablature_L14
  refine T_iconst (pc := 14) h dX8_makeTablature_14 ki_0 ?_
  exact T_zreturn (pc := 15) h (Nat.zero_le _) (Nat.zero_le _) dX8_makeTablature_15
theorem t_X8_makeTablature_L63 {K : Cx} (h : Ok K cX8_makeTablature RX8 3 rm_X8_makeTablature (some .boolean)) (hs : kiv K = St) (x0 : Nat) (x1 : Int32) (rec26 : Int32 × Sg → Option (Int32 × Sg)) (hr26 : ∀ u, T K (QI K) 26 [(0, .ref x0), (1, .int (u.1))] [] 0 0 (u.2) (rec26 u)) (hk0 : kd x0 8) (rec63 : Int32 × Sg → Option (Int32 × Sg)) (hr63 : ∀ u, T K (QI K) 63 [(0, .ref x0), (1, .int x1), (2, .int (u.1))] [] 0 0 (u.2) (rec63 u)) (s : Int32 × Sg) : T K (QI K) 63 [(0, .ref x0), (1, .int x1), (2, .int (s.1))] [] 0 0 (s.2) (f_X8_makeTablature_L63 rec26 x0 x1 rec63 s) := by
  unfold f_X8_makeTablature_L63
  refine T_iload_n (pc := 63) h dX8_makeTablature_63 rfl 2 rfl ?_
  refine T_aload_n (pc := 64) h dX8_makeTablature_64 rfl 0 rfl ?_
  refine T_gR (pc := 65) h hs hk0 fl_X8_10 rfl fk_8_0 dX8_makeTablature_65 (fun hq1 => ?_)
  refine T_getI (pc := 68) h hs hq1 fl_X8_90 rfl dX8_makeTablature_68 ?_
  refine T_icmp_ge (pc := 71) (tgt := 93) h dX8_makeTablature_71 (by decide) ?_ ?_
  · refine T_aload_n (pc := 93) h dX8_makeTablature_93 rfl 0 rfl ?_
    refine T_gR (pc := 94) h hs hk0 fl_X8_59 rfl fk_8_6 dX8_makeTablature_94 (fun hq2 => ?_)
    refine T_bipush (pc := 97) h dX8_makeTablature_97 kb_59 ?_
    refine T_callVv (pc := 99) h (M_X4_append (kl K) hs (gR (s.2) x0 6) (59 : Int32) (s.2) hq2) mv_X4_append hs hq2 ml_X8_240 rfl ⟨Nat.le_of_ble_eq_true rfl, Nat.le_of_ble_eq_true rfl⟩ ⟨Nat.le_refl 0, Nat.le_refl 0⟩ (Nat.le_of_ble_eq_true rfl) dX8_makeTablature_99 rfl (fun _ s3 => ?_)
    refine T_iinc (fl := fun v4 => [(1, .int v4), (0, .ref x0), (2, .int (s.1))]) (pc := 102) h dX8_makeTablature_102 1 rfl ki_1 (by decide) (fun _ => rfl) (fun v4 => ?_)
    refine T_goto (pc := 105) (tgt := 26) h dX8_makeTablature_105 (by decide) ?_
    refine T_sub [1, 0] rfl ?_
    exact hr26 (v4, s3)
  · refine T_aload_n (pc := 74) h dX8_makeTablature_74 rfl 0 rfl ?_
    refine T_gR (pc := 75) h hs hk0 fl_X8_59 rfl fk_8_6 dX8_makeTablature_75 (fun hq5 => ?_)
    refine T_aload_n (pc := 78) h dX8_makeTablature_78 rfl 0 rfl ?_
    refine T_iload_n (pc := 79) h dX8_makeTablature_79 rfl 1 rfl ?_
    refine T_iload_n (pc := 80) h dX8_makeTablature_80 rfl 2 rfl ?_
    refine T_callVi (pc := 81) h (M_X8_letterAt (kl K) hs x0 x1 (s.1) (s.2) hk0) mv_X8_letterAt hs hk0 ml_X8_379 rfl ⟨Nat.le_of_ble_eq_true rfl, Nat.le_of_ble_eq_true rfl⟩ ⟨Nat.le_refl 0, Nat.le_refl 0⟩ (Nat.le_of_ble_eq_true rfl) dX8_makeTablature_81 rfl (fun r7 s6 => ?_)
    refine T_callVv (pc := 84) h (M_X4_append (kl K) hs (gR (s.2) x0 6) r7 s6 hq5) mv_X4_append hs hq5 ml_X8_240 rfl ⟨Nat.le_of_ble_eq_true rfl, Nat.le_of_ble_eq_true rfl⟩ ⟨Nat.le_refl 0, Nat.le_refl 0⟩ (Nat.le_of_ble_eq_true rfl) dX8_makeTablature_84 rfl (fun _ s8 => ?_)
    refine T_iinc (fl := fun v9 => [(2, .int v9), (0, .ref x0), (1, .int x1)]) (pc := 87) h dX8_makeTablature_87 2 rfl ki_1 (by decide) (fun _ => rfl) (fun v9 => ?_)
    refine T_goto (pc := 90) (tgt := 63) h dX8_makeTablature_90 (by decide) ?_
    refine T_sub [1, 2, 0] rfl ?_
    exact hr63 (v9, s8)
theorem t_X8_makeTablature_L26 {K : Cx} (h : Ok K cX8_makeTablature RX8 3 rm_X8_makeTablature (some .boolean)) (hs : kiv K = St) (x0 : Nat)  (hk0 : kd x0 8) (rec26 : Int32 × Sg → Option (Int32 × Sg)) (hr26 : ∀ u, T K (QI K) 26 [(0, .ref x0), (1, .int (u.1))] [] 0 0 (u.2) (rec26 u)) (s : Int32 × Sg) : T K (QI K) 26 [(0, .ref x0), (1, .int (s.1))] [] 0 0 (s.2) (f_X8_makeTablature_L26 x0 rec26 s) := by
  unfold f_X8_makeTablature_L26
  refine T_iload_n (pc := 26) h dX8_makeTablature_26 rfl 1 rfl ?_
  refine T_aload_n (pc := 27) h dX8_makeTablature_27 rfl 0 rfl ?_
  refine T_gR (pc := 28) h hs hk0 fl_X8_19 rfl fk_8_1 dX8_makeTablature_28 (fun hq1 => ?_)
  refine T_getI (pc := 31) h hs hq1 fl_X8_294 rfl dX8_makeTablature_31 ?_
  refine T_icmp_ge (pc := 34) (tgt := 108) h dX8_makeTablature_34 (by decide) ?_ ?_
  · refine T_iconst (pc := 108) h dX8_makeTablature_108 ki_1 ?_
    exact T_zreturn (pc := 109) h (Nat.zero_le _) (Nat.zero_le _) dX8_makeTablature_109
  · refine T_aload_n (pc := 37) h dX8_makeTablature_37 rfl 0 rfl ?_
    refine T_gR (pc := 38) h hs hk0 fl_X8_59 rfl fk_8_6 dX8_makeTablature_38 (fun hq2 => ?_)
    refine T_aload_n (pc := 41) h dX8_makeTablature_41 rfl 0 rfl ?_
    refine T_gR (pc := 42) h hs hk0 fl_X8_19 rfl fk_8_1 dX8_makeTablature_42 (fun hq3 => ?_)
    refine T_iload_n (pc := 45) h dX8_makeTablature_45 rfl 1 rfl ?_
    refine T_callVi (pc := 46) h (M_X2_timeOfChord (kl K) hs (gR (s.2) x0 1) (s.1) (s.2) hq3) mv_X2_timeOfChord hs hq3 ml_X8_192 rfl ⟨Nat.le_of_ble_eq_true rfl, Nat.le_of_ble_eq_true rfl⟩ ⟨Nat.le_refl 0, Nat.le_refl 0⟩ (Nat.le_of_ble_eq_true rfl) dX8_makeTablature_46 rfl (fun r5 s4 => ?_)
    refine T_callVv (pc := 49) h (M_X4_appendFigures (kl K) hs (gR (s.2) x0 6) r5 s4 hq2) mv_X4_appendFigures hs hq2 ml_X8_376 rfl ⟨Nat.le_of_ble_eq_true rfl, Nat.le_of_ble_eq_true rfl⟩ ⟨Nat.le_refl 0, Nat.le_refl 0⟩ (Nat.le_of_ble_eq_true rfl) dX8_makeTablature_49 rfl (fun _ s6 => ?_)
    refine T_aload_n (pc := 52) h dX8_makeTablature_52 rfl 0 rfl ?_
    refine T_gR (pc := 53) h hs hk0 fl_X8_59 rfl fk_8_6 dX8_makeTablature_53 (fun hq7 => ?_)
    refine T_bipush (pc := 56) h dX8_makeTablature_56 kb_58 ?_
    refine T_callVv (pc := 58) h (M_X4_append (kl K) hs (gR s6 x0 6) (58 : Int32) s6 hq7) mv_X4_append hs hq7 ml_X8_240 rfl ⟨Nat.le_of_ble_eq_true rfl, Nat.le_of_ble_eq_true rfl⟩ ⟨Nat.le_refl 0, Nat.le_refl 0⟩ (Nat.le_of_ble_eq_true rfl) dX8_makeTablature_58 rfl (fun _ s8 => ?_)
    refine T_iconst (pc := 61) h dX8_makeTablature_61 ki_0 ?_
    refine T_istore_n (lv' := [(2, .int (0 : Int32)), (0, .ref x0), (1, .int (s.1))]) (pc := 62) h dX8_makeTablature_62 rfl (by decide) rfl ?_
    refine T_sub [1, 2, 0] rfl ?_
    exact T_fx (B := f_X8_makeTablature_L63 rec26 x0 (s.1)) (fl := fun u => [(0, .ref x0), (1, .int (s.1)), (2, .int (u.1))]) (f := fun u => (u.2)) (fun rec63 hr63 u => t_X8_makeTablature_L63 h hs x0 (s.1) rec26 hr26 hk0 rec63 hr63 u) FU ((0 : Int32), s8)
theorem t_X8_makeTablature {K : Cx} (h : Ok K cX8_makeTablature RX8 3 rm_X8_makeTablature (some .boolean)) (hs : kiv K = St) (x0 : Nat) (σ : Sg) (hk0 : kd x0 8) : T K (QI K) 0 [(0, .ref x0)] [] 0 0 σ (f_X8_makeTablature x0 σ) := by
  unfold f_X8_makeTablature
  refine T_aload_n (pc := 0) h dX8_makeTablature_0 rfl 0 rfl ?_
  refine T_getI (pc := 1) h hs hk0 fl_X8_81 rfl dX8_makeTablature_1 ?_
  refine T_if_eq (pc := 4) (tgt := 14) h dX8_makeTablature_4 (by decide) ?_ ?_
  · refine T_sub [] rfl ?_
    exact t_X8_makeTablature_L14 h hs σ
  · refine T_aload_n (pc := 7) h dX8_makeTablature_7 rfl 0 rfl ?_
    refine T_callVi (pc := 8) h (M_X8_wrongs (kl K) hs x0 σ hk0) mv_X8_wrongs hs hk0 ml_X8_182 rfl ⟨Nat.le_of_ble_eq_true rfl, Nat.le_of_ble_eq_true rfl⟩ ⟨Nat.le_refl 0, Nat.le_refl 0⟩ (Nat.le_of_ble_eq_true rfl) dX8_makeTablature_8 rfl (fun r2 s1 => ?_)
    refine T_if_eq (pc := 11) (tgt := 16) h dX8_makeTablature_11 (by decide) ?_ ?_
    · refine T_aload_n (pc := 16) h dX8_makeTablature_16 rfl 0 rfl ?_
      refine T_gR (pc := 17) h hs hk0 fl_X8_59 rfl fk_8_6 dX8_makeTablature_17 (fun hq3 => ?_)
      refine T_iconst (pc := 20) h dX8_makeTablature_20 ki_0 ?_
      refine T_putI (pc := 21) h hs hq3 fl_X8_236 rfl rfl dX8_makeTablature_21 ?_
      refine T_letS fun s4 => ?_
      refine T_iconst (pc := 24) h dX8_makeTablature_24 ki_0 ?_
      refine T_istore_n (lv' := [(1, .int (0 : Int32)), (0, .ref x0)]) (pc := 25) h dX8_makeTablature_25 rfl (by decide) rfl ?_
      refine T_sub [1, 0] rfl ?_
      exact T_fx (B := f_X8_makeTablature_L26 x0) (fl := fun u => [(0, .ref x0), (1, .int (u.1))]) (f := fun u => (u.2)) (fun rec26 hr26 u => t_X8_makeTablature_L26 h hs x0 hk0 rec26 hr26 u) FU ((0 : Int32), s4)
    · refine T_sub [] rfl ?_
      exact t_X8_makeTablature_L14 h hs s1
theorem M_X8_makeTablature (l : Launch) {iv : Sg → Prop} (hi : iv = St) (x0 : Nat) (σ : Sg) (hk0 : kd x0 8) : CTi l yX8_makeTablature cX8_makeTablature 3 (some .boolean) rm_X8_makeTablature iv [.ref x0] σ (f_X8_makeTablature x0 σ) := by
  subst hi
  exact CT_of (by decide) (Nat.le_of_ble_eq_true rfl) (fun K _ h _ hs _ _ => t_X8_makeTablature h hs x0 σ hk0)
/-! LuteTabs.text(I)I -/
theorem dX8_text_0 : decode cX8_text 0 = .ok (.iload_n 1, 1) := by decide +kernel
theorem dX8_text_1 : decode cX8_text 1 = .ok (.iconst (-1), 1) := by decide +kernel
theorem dX8_text_2 : decode cX8_text 2 = .ok (.if_icmp .ge 6, 3) := by decide +kernel
theorem dX8_text_5 : decode cX8_text 5 = .ok (.bipush (-2), 2) := by decide +kernel
theorem dX8_text_7 : decode cX8_text 7 = .ok (.ireturn, 1) := by decide +kernel
theorem dX8_text_8 : decode cX8_text 8 = .ok (.aload_n 0, 1) := by decide +kernel
theorem dX8_text_9 : decode cX8_text 9 = .ok (.invokevirtual 232, 3) := by decide +kernel
theorem dX8_text_12 : decode cX8_text 12 = .ok (.ifCond .ne 6, 3) := by decide +kernel
theorem dX8_text_15 : decode cX8_text 15 = .ok (.bipush (-3), 2) := by decide +kernel
theorem dX8_text_17 : decode cX8_text 17 = .ok (.ireturn, 1) := by decide +kernel
theorem dX8_text_18 : decode cX8_text 18 = .ok (.iload_n 1, 1) := by decide +kernel
theorem dX8_text_19 : decode cX8_text 19 = .ok (.iconst (-1), 1) := by decide +kernel
theorem dX8_text_20 : decode cX8_text 20 = .ok (.if_icmp .ne 11, 3) := by decide +kernel
theorem dX8_text_23 : decode cX8_text 23 = .ok (.aload_n 0, 1) := by decide +kernel
theorem dX8_text_24 : decode cX8_text 24 = .ok (.getfield 59, 3) := by decide +kernel
theorem dX8_text_27 : decode cX8_text 27 = .ok (.getfield 236, 3) := by decide +kernel
theorem dX8_text_30 : decode cX8_text 30 = .ok (.ireturn, 1) := by decide +kernel
theorem dX8_text_31 : decode cX8_text 31 = .ok (.iload_n 1, 1) := by decide +kernel
theorem dX8_text_32 : decode cX8_text 32 = .ok (.aload_n 0, 1) := by decide +kernel
theorem dX8_text_33 : decode cX8_text 33 = .ok (.getfield 59, 3) := by decide +kernel
theorem dX8_text_36 : decode cX8_text 36 = .ok (.getfield 236, 3) := by decide +kernel
theorem dX8_text_39 : decode cX8_text 39 = .ok (.if_icmp .ge 15, 3) := by decide +kernel
theorem dX8_text_42 : decode cX8_text 42 = .ok (.aload_n 0, 1) := by decide +kernel
theorem dX8_text_43 : decode cX8_text 43 = .ok (.getfield 59, 3) := by decide +kernel
theorem dX8_text_46 : decode cX8_text 46 = .ok (.getfield 237, 3) := by decide +kernel
theorem dX8_text_49 : decode cX8_text 49 = .ok (.iload_n 1, 1) := by decide +kernel
theorem dX8_text_50 : decode cX8_text 50 = .ok (.iaload, 1) := by decide +kernel
theorem dX8_text_51 : decode cX8_text 51 = .ok (.goto 5, 3) := by decide +kernel
theorem dX8_text_54 : decode cX8_text 54 = .ok (.bipush (-2), 2) := by decide +kernel
theorem dX8_text_56 : decode cX8_text 56 = .ok (.ireturn, 1) := by decide +kernel
abbrev rm_X8_text : Room := { frames := 5, cells := 0, slots := 0, locals := 115 }
def f_X8_text_L56   (y0 : Int32) (σ : Sg) : Option (Int32 × Sg) := some (y0, σ)
def f_X8_text (x0 : Nat) (x1 : Int32) (σ : Sg) : Option (Int32 × Sg) := (if (-1 : Int32) ≤ x1 then bd (f_X8_makeTablature x0 σ) fun r2 s1 => (if r2 = 0 then some ((-3 : Int32), s1) else (if x1 = (-1 : Int32) then some ((gI s1 (gR s1 x0 6) 1), s1) else (if (gI s1 (gR s1 x0 6) 1) ≤ x1 then f_X8_text_L56 (-2 : Int32) s1 else ck (inb x1 (aL (gR s1 (gR s1 x0 6) 0))) (f_X8_text_L56 (gI s1 (gR s1 (gR s1 x0 6) 0) x1.toNatClampNeg) s1)))) else some ((-2 : Int32), σ))
theorem t_X8_text_L56 {K : Cx} (h : Ok K cX8_text RX8 2 rm_X8_text (some .int)) (hs : kiv K = St)  (y0 : Int32) (σ : Sg)    : T K (QI K) 56 [] [.int y0] 0 0 σ (f_X8_text_L56 y0 σ) := by
  unfold f_X8_text_L56
  exact T_ireturn (pc := 56) h (Nat.zero_le _) (Nat.zero_le _) dX8_text_56
theorem t_X8_text {K : Cx} (h : Ok K cX8_text RX8 2 rm_X8_text (some .int)) (hs : kiv K = St) (x0 : Nat) (x1 : Int32) (σ : Sg) (hk0 : kd x0 8) : T K (QI K) 0 [(0, .ref x0), (1, .int x1)] [] 0 0 σ (f_X8_text x0 x1 σ) := by
  unfold f_X8_text
  refine T_iload_n (pc := 0) h dX8_text_0 rfl 1 rfl ?_
  refine T_iconst (pc := 1) h dX8_text_1 ki_m1 ?_
  refine T_icmp_ge (pc := 2) (tgt := 8) h dX8_text_2 (by decide) ?_ ?_
  · refine T_aload_n (pc := 8) h dX8_text_8 rfl 0 rfl ?_
    refine T_callVi (pc := 9) h (M_X8_makeTablature (kl K) hs x0 σ hk0) mv_X8_makeTablature hs hk0 ml_X8_232 rfl ⟨Nat.le_of_ble_eq_true rfl, Nat.le_of_ble_eq_true rfl⟩ ⟨Nat.le_refl 0, Nat.le_refl 0⟩ (Nat.le_of_ble_eq_true rfl) dX8_text_9 rfl (fun r2 s1 => ?_)
    refine T_if_ne (pc := 12) (tgt := 18) h dX8_text_12 (by decide) ?_ ?_
    · refine T_iload_n (pc := 18) h dX8_text_18 rfl 1 rfl ?_
      refine T_iconst (pc := 19) h dX8_text_19 ki_m1 ?_
      refine T_icmp_ne (pc := 20) (tgt := 31) h dX8_text_20 (by decide) ?_ ?_
      · refine T_iload_n (pc := 31) h dX8_text_31 rfl 1 rfl ?_
        refine T_aload_n (pc := 32) h dX8_text_32 rfl 0 rfl ?_
        refine T_gR (pc := 33) h hs hk0 fl_X8_59 rfl fk_8_6 dX8_text_33 (fun hq3 => ?_)
        refine T_getI (pc := 36) h hs hq3 fl_X8_236 rfl dX8_text_36 ?_
        refine T_icmp_ge (pc := 39) (tgt := 54) h dX8_text_39 (by decide) ?_ ?_
        · refine T_bipush (pc := 54) h dX8_text_54 kb_m2 ?_
          refine T_sub [] rfl ?_
          exact t_X8_text_L56 h hs (-2 : Int32) s1
        · refine T_aload_n (pc := 42) h dX8_text_42 rfl 0 rfl ?_
          refine T_gR (pc := 43) h hs hk0 fl_X8_59 rfl fk_8_6 dX8_text_43 (fun hq4 => ?_)
          refine T_gR (pc := 46) h hs hq4 fl_X8_237 rfl fk_4_0 dX8_text_46 (fun hq5 => ?_)
          refine T_iload_n (pc := 49) h dX8_text_49 rfl 1 rfl ?_
          refine T_iald (pc := 50) h hs hq5 dX8_text_50 ?_
          refine T_goto (pc := 51) (tgt := 56) h dX8_text_51 (by decide) ?_
          refine T_sub [] rfl ?_
          exact t_X8_text_L56 h hs (gI s1 (gR s1 (gR s1 x0 6) 0) x1.toNatClampNeg) s1
      · refine T_aload_n (pc := 23) h dX8_text_23 rfl 0 rfl ?_
        refine T_gR (pc := 24) h hs hk0 fl_X8_59 rfl fk_8_6 dX8_text_24 (fun hq6 => ?_)
        refine T_getI (pc := 27) h hs hq6 fl_X8_236 rfl dX8_text_27 ?_
        exact T_ireturn (pc := 30) h (Nat.zero_le _) (Nat.zero_le _) dX8_text_30
    · refine T_bipush (pc := 15) h dX8_text_15 kb_m3 ?_
      exact T_ireturn (pc := 17) h (Nat.zero_le _) (Nat.zero_le _) dX8_text_17
  · refine T_bipush (pc := 5) h dX8_text_5 kb_m2 ?_
    exact T_ireturn (pc := 7) h (Nat.zero_le _) (Nat.zero_le _) dX8_text_7
theorem M_X8_text (l : Launch) {iv : Sg → Prop} (hi : iv = St) (x0 : Nat) (x1 : Int32) (σ : Sg) (hk0 : kd x0 8) : CTi l yX8_text cX8_text 2 (some .int) rm_X8_text iv [.ref x0, .int x1] σ (f_X8_text x0 x1 σ) := by
  subst hi
  exact CT_of (by decide) (Nat.le_of_ble_eq_true rfl) (fun K _ h _ hs _ _ => t_X8_text h hs x0 x1 σ hk0)
/-! LuteTabs.type(I)I -/
theorem dX8_type_0 : decode cX8_type 0 = .ok (.iload_n 1, 1) := by decide +kernel
theorem dX8_type_1 : decode cX8_type 1 = .ok (.ifCond .lt 10, 3) := by decide +kernel
theorem dX8_type_4 : decode cX8_type 4 = .ok (.iload_n 1, 1) := by decide +kernel
theorem dX8_type_5 : decode cX8_type 5 = .ok (.sipush 255, 3) := by decide +kernel
theorem dX8_type_8 : decode cX8_type 8 = .ok (.if_icmp .le 6, 3) := by decide +kernel
theorem dX8_type_11 : decode cX8_type 11 = .ok (.bipush (-2), 2) := by decide +kernel
theorem dX8_type_13 : decode cX8_type 13 = .ok (.ireturn, 1) := by decide +kernel
theorem dX8_type_14 : decode cX8_type 14 = .ok (.aload_n 0, 1) := by decide +kernel
theorem dX8_type_15 : decode cX8_type 15 = .ok (.getfield 48, 3) := by decide +kernel
theorem dX8_type_18 : decode cX8_type 18 = .ok (.getfield 236, 3) := by decide +kernel
theorem dX8_type_21 : decode cX8_type 21 = .ok (.bipush 80, 2) := by decide +kernel
theorem dX8_type_23 : decode cX8_type 23 = .ok (.if_icmp .lt 6, 3) := by decide +kernel
theorem dX8_type_26 : decode cX8_type 26 = .ok (.bipush (-4), 2) := by decide +kernel
theorem dX8_type_28 : decode cX8_type 28 = .ok (.ireturn, 1) := by decide +kernel
theorem dX8_type_29 : decode cX8_type 29 = .ok (.aload_n 0, 1) := by decide +kernel
theorem dX8_type_30 : decode cX8_type 30 = .ok (.getfield 48, 3) := by decide +kernel
theorem dX8_type_33 : decode cX8_type 33 = .ok (.iload_n 1, 1) := by decide +kernel
theorem dX8_type_34 : decode cX8_type 34 = .ok (.invokevirtual 240, 3) := by decide +kernel
theorem dX8_type_37 : decode cX8_type 37 = .ok (.aload_n 0, 1) := by decide +kernel
theorem dX8_type_38 : decode cX8_type 38 = .ok (.getfield 48, 3) := by decide +kernel
theorem dX8_type_41 : decode cX8_type 41 = .ok (.getfield 236, 3) := by decide +kernel
theorem dX8_type_44 : decode cX8_type 44 = .ok (.ireturn, 1) := by decide +kernel
abbrev rm_X8_type : Room := { frames := 1, cells := 0, slots := 0, locals := 21 }
def f_X8_type_L11    (σ : Sg) : Option (Int32 × Sg) := some ((-2 : Int32), σ)
def f_X8_type (x0 : Nat) (x1 : Int32) (σ : Sg) : Option (Int32 × Sg) := (if x1 < 0 then f_X8_type_L11 σ else (if x1 ≤ (255 : Int32) then (if (gI σ (gR σ x0 4) 1) < (80 : Int32) then bd (f_X4_append (gR σ x0 4) x1 σ) fun _ s3 => some ((gI s3 (gR s3 x0 4) 1), s3) else some ((-4 : Int32), σ)) else f_X8_type_L11 σ))
theorem t_X8_type_L11 {K : Cx} (h : Ok K cX8_type RX8 2 rm_X8_type (some .int)) (hs : kiv K = St)   (σ : Sg)    : T K (QI K) 11 [] [] 0 0 σ (f_X8_type_L11 σ) := by
  unfold f_X8_type_L11
  refine T_bipush (pc := 11) h dX8_type_11 kb_m2 ?_
  exact T_ireturn (pc := 13) h (Nat.zero_le _) (Nat.zero_le _) dX8_type_13
theorem t_X8_type {K : Cx} (h : Ok K cX8_type RX8 2 rm_X8_type (some .int)) (hs : kiv K = St) (x0 : Nat) (x1 : Int32) (σ : Sg) (hk0 : kd x0 8) : T K (QI K) 0 [(0, .ref x0), (1, .int x1)] [] 0 0 σ (f_X8_type x0 x1 σ) := by
  unfold f_X8_type
  refine T_iload_n (pc := 0) h dX8_type_0 rfl 1 rfl ?_
  refine T_if_lt (pc := 1) (tgt := 11) h dX8_type_1 (by decide) ?_ ?_
  · refine T_sub [] rfl ?_
    exact t_X8_type_L11 h hs σ
  · refine T_iload_n (pc := 4) h dX8_type_4 rfl 1 rfl ?_
    refine T_sipush (pc := 5) h dX8_type_5 ks_255 ?_
    refine T_icmp_le (pc := 8) (tgt := 14) h dX8_type_8 (by decide) ?_ ?_
    · refine T_aload_n (pc := 14) h dX8_type_14 rfl 0 rfl ?_
      refine T_gR (pc := 15) h hs hk0 fl_X8_48 rfl fk_8_4 dX8_type_15 (fun hq1 => ?_)
      refine T_getI (pc := 18) h hs hq1 fl_X8_236 rfl dX8_type_18 ?_
      refine T_bipush (pc := 21) h dX8_type_21 kb_80 ?_
      refine T_icmp_lt (pc := 23) (tgt := 29) h dX8_type_23 (by decide) ?_ ?_
      · refine T_aload_n (pc := 29) h dX8_type_29 rfl 0 rfl ?_
        refine T_gR (pc := 30) h hs hk0 fl_X8_48 rfl fk_8_4 dX8_type_30 (fun hq2 => ?_)
        refine T_iload_n (pc := 33) h dX8_type_33 rfl 1 rfl ?_
        refine T_callVv (pc := 34) h (M_X4_append (kl K) hs (gR σ x0 4) x1 σ hq2) mv_X4_append hs hq2 ml_X8_240 rfl ⟨Nat.le_of_ble_eq_true rfl, Nat.le_of_ble_eq_true rfl⟩ ⟨Nat.le_refl 0, Nat.le_refl 0⟩ (Nat.le_of_ble_eq_true rfl) dX8_type_34 rfl (fun _ s3 => ?_)
        refine T_aload_n (pc := 37) h dX8_type_37 rfl 0 rfl ?_
        refine T_gR (pc := 38) h hs hk0 fl_X8_48 rfl fk_8_4 dX8_type_38 (fun hq4 => ?_)
        refine T_getI (pc := 41) h hs hq4 fl_X8_236 rfl dX8_type_41 ?_
        exact T_ireturn (pc := 44) h (Nat.zero_le _) (Nat.zero_le _) dX8_type_44
      · refine T_bipush (pc := 26) h dX8_type_26 kb_m4 ?_
        exact T_ireturn (pc := 28) h (Nat.zero_le _) (Nat.zero_le _) dX8_type_28
    · refine T_sub [] rfl ?_
      exact t_X8_type_L11 h hs σ
theorem M_X8_type (l : Launch) {iv : Sg → Prop} (hi : iv = St) (x0 : Nat) (x1 : Int32) (σ : Sg) (hk0 : kd x0 8) : CTi l yX8_type cX8_type 2 (some .int) rm_X8_type iv [.ref x0, .int x1] σ (f_X8_type x0 x1 σ) := by
  subst hi
  exact CT_of (by decide) (Nat.le_of_ble_eq_true rfl) (fun K _ h _ hs _ _ => t_X8_type h hs x0 x1 σ hk0)
/-! LuteTabs.wipe()I -/
theorem dX8_wipe_0 : decode cX8_wipe 0 = .ok (.aload_n 0, 1) := by decide +kernel
theorem dX8_wipe_1 : decode cX8_wipe 1 = .ok (.getfield 48, 3) := by decide +kernel
theorem dX8_wipe_4 : decode cX8_wipe 4 = .ok (.getfield 236, 3) := by decide +kernel
theorem dX8_wipe_7 : decode cX8_wipe 7 = .ok (.istore_n 1, 1) := by decide +kernel
theorem dX8_wipe_8 : decode cX8_wipe 8 = .ok (.aload_n 0, 1) := by decide +kernel
theorem dX8_wipe_9 : decode cX8_wipe 9 = .ok (.getfield 48, 3) := by decide +kernel
theorem dX8_wipe_12 : decode cX8_wipe 12 = .ok (.iconst 0, 1) := by decide +kernel
theorem dX8_wipe_13 : decode cX8_wipe 13 = .ok (.putfield 236, 3) := by decide +kernel
theorem dX8_wipe_16 : decode cX8_wipe 16 = .ok (.iload_n 1, 1) := by decide +kernel
theorem dX8_wipe_17 : decode cX8_wipe 17 = .ok (.ireturn, 1) := by decide +kernel
abbrev rm_X8_wipe : Room := { frames := 0, cells := 0, slots := 0, locals := 0 }
def f_X8_wipe (x0 : Nat) (σ : Sg) : Option (Int32 × Sg) := lB ((gI σ (gR σ x0 4) 1)) fun v2 => lB (pI σ (gR σ x0 4) 1 (0 : Int32)) fun s4 => some (v2, s4)
theorem t_X8_wipe {K : Cx} (h : Ok K cX8_wipe RX8 2 rm_X8_wipe (some .int)) (hs : kiv K = St) (x0 : Nat) (σ : Sg) (hk0 : kd x0 8) : T K (QI K) 0 [(0, .ref x0)] [] 0 0 σ (f_X8_wipe x0 σ) := by
  unfold f_X8_wipe
  refine T_aload_n (pc := 0) h dX8_wipe_0 rfl 0 rfl ?_
  refine T_gR (pc := 1) h hs hk0 fl_X8_48 rfl fk_8_4 dX8_wipe_1 (fun hq1 => ?_)
  refine T_getI (pc := 4) h hs hq1 fl_X8_236 rfl dX8_wipe_4 ?_
  refine T_letI fun v2 => ?_
  refine T_istore_n (lv' := [(1, .int v2), (0, .ref x0)]) (pc := 7) h dX8_wipe_7 rfl (by decide) rfl ?_
  refine T_aload_n (pc := 8) h dX8_wipe_8 rfl 1 rfl ?_
  refine T_gR (pc := 9) h hs hk0 fl_X8_48 rfl fk_8_4 dX8_wipe_9 (fun hq3 => ?_)
  refine T_iconst (pc := 12) h dX8_wipe_12 ki_0 ?_
  refine T_putI (pc := 13) h hs hq3 fl_X8_236 rfl rfl dX8_wipe_13 ?_
  refine T_letS fun s4 => ?_
  refine T_iload_n (pc := 16) h dX8_wipe_16 rfl 0 rfl ?_
  exact T_ireturn (pc := 17) h (Nat.zero_le _) (Nat.zero_le _) dX8_wipe_17
theorem M_X8_wipe (l : Launch) {iv : Sg → Prop} (hi : iv = St) (x0 : Nat) (σ : Sg) (hk0 : kd x0 8) : CTi l yX8_wipe cX8_wipe 2 (some .int) rm_X8_wipe iv [.ref x0] σ (f_X8_wipe x0 σ) := by
  subst hi
  exact CT_of (by decide) (Nat.le_of_ble_eq_true rfl) (fun K _ h _ hs _ _ => t_X8_wipe h hs x0 σ hk0)
/-! LuteTabs.flaw()I -/
theorem dX8_flaw_0 : decode cX8_flaw 0 = .ok (.aload_n 0, 1) := by decide +kernel
theorem dX8_flaw_1 : decode cX8_flaw 1 = .ok (.getfield 55, 3) := by decide +kernel
theorem dX8_flaw_4 : decode cX8_flaw 4 = .ok (.aload_n 0, 1) := by decide +kernel
theorem dX8_flaw_5 : decode cX8_flaw 5 = .ok (.getfield 48, 3) := by decide +kernel
theorem dX8_flaw_8 : decode cX8_flaw 8 = .ok (.invokevirtual 243, 3) := by decide +kernel
theorem dX8_flaw_11 : decode cX8_flaw 11 = .ok (.ireturn, 1) := by decide +kernel
abbrev rm_X8_flaw : Room := { frames := 6, cells := 0, slots := 0, locals := 131 }
def f_X8_flaw (x0 : Nat) (σ : Sg) : Option (Int32 × Sg) := bd (f_X3_flawOf (gR σ x0 5) (gR σ x0 4) σ) fun r4 s3 => some (r4, s3)
theorem t_X8_flaw {K : Cx} (h : Ok K cX8_flaw RX8 1 rm_X8_flaw (some .int)) (hs : kiv K = St) (x0 : Nat) (σ : Sg) (hk0 : kd x0 8) : T K (QI K) 0 [(0, .ref x0)] [] 0 0 σ (f_X8_flaw x0 σ) := by
  unfold f_X8_flaw
  refine T_aload_n (pc := 0) h dX8_flaw_0 rfl 0 rfl ?_
  refine T_gR (pc := 1) h hs hk0 fl_X8_55 rfl fk_8_5 dX8_flaw_1 (fun hq1 => ?_)
  refine T_aload_n (pc := 4) h dX8_flaw_4 rfl 0 rfl ?_
  refine T_gR (pc := 5) h hs hk0 fl_X8_48 rfl fk_8_4 dX8_flaw_5 (fun hq2 => ?_)
  refine T_callVi (pc := 8) h (M_X3_flawOf (kl K) hs (gR σ x0 5) (gR σ x0 4) σ hq1 hq2) mv_X3_flawOf hs hq1 ml_X8_243 rfl ⟨Nat.le_of_ble_eq_true rfl, Nat.le_of_ble_eq_true rfl⟩ ⟨Nat.le_refl 0, Nat.le_refl 0⟩ (Nat.le_of_ble_eq_true rfl) dX8_flaw_8 rfl (fun r4 s3 => ?_)
  exact T_ireturn (pc := 11) h (Nat.zero_le _) (Nat.zero_le _) dX8_flaw_11
theorem M_X8_flaw (l : Launch) {iv : Sg → Prop} (hi : iv = St) (x0 : Nat) (σ : Sg) (hk0 : kd x0 8) : CTi l yX8_flaw cX8_flaw 1 (some .int) rm_X8_flaw iv [.ref x0] σ (f_X8_flaw x0 σ) := by
  subst hi
  exact CT_of (by decide) (Nat.le_of_ble_eq_true rfl) (fun K _ h _ hs _ _ => t_X8_flaw h hs x0 σ hk0)
/-! LuteTabs.addAsRead(I)V -/
theorem dX8_addAsRead_0 : decode cX8_addAsRead 0 = .ok (.aload_n 0, 1) := by decide +kernel
theorem dX8_addAsRead_1 : decode cX8_addAsRead 1 = .ok (.getfield 55, 3) := by decide +kernel
theorem dX8_addAsRead_4 : decode cX8_addAsRead 4 = .ok (.getfield 382, 3) := by decide +kernel
theorem dX8_addAsRead_7 : decode cX8_addAsRead 7 = .ok (.iload_n 1, 1) := by decide +kernel
theorem dX8_addAsRead_8 : decode cX8_addAsRead 8 = .ok (.iaload, 1) := by decide +kernel
theorem dX8_addAsRead_9 : decode cX8_addAsRead 9 = .ok (.istore_n 2, 1) := by decide +kernel
theorem dX8_addAsRead_10 : decode cX8_addAsRead 10 = .ok (.aload_n 0, 1) := by decide +kernel
theorem dX8_addAsRead_11 : decode cX8_addAsRead 11 = .ok (.getfield 19, 3) := by decide +kernel
theorem dX8_addAsRead_14 : decode cX8_addAsRead 14 = .ok (.aload_n 0, 1) := by decide +kernel
theorem dX8_addAsRead_15 : decode cX8_addAsRead 15 = .ok (.getfield 55, 3) := by decide +kernel
theorem dX8_addAsRead_18 : decode cX8_addAsRead 18 = .ok (.getfield 385, 3) := by decide +kernel
theorem dX8_addAsRead_21 : decode cX8_addAsRead 21 = .ok (.iload_n 1, 1) := by decide +kernel
theorem dX8_addAsRead_22 : decode cX8_addAsRead 22 = .ok (.iaload, 1) := by decide +kernel
theorem dX8_addAsRead_23 : decode cX8_addAsRead 23 = .ok (.aload_n 0, 1) := by decide +kernel
theorem dX8_addAsRead_24 : decode cX8_addAsRead 24 = .ok (.getfield 10, 3) := by decide +kernel
theorem dX8_addAsRead_27 : decode cX8_addAsRead 27 = .ok (.getfield 100, 3) := by decide +kernel
theorem dX8_addAsRead_30 : decode cX8_addAsRead 30 = .ok (.iload_n 2, 1) := by decide +kernel
theorem dX8_addAsRead_31 : decode cX8_addAsRead 31 = .ok (.iaload, 1) := by decide +kernel
theorem dX8_addAsRead_32 : decode cX8_addAsRead 32 = .ok (.aload_n 0, 1) := by decide +kernel
theorem dX8_addAsRead_33 : decode cX8_addAsRead 33 = .ok (.getfield 55, 3) := by decide +kernel
theorem dX8_addAsRead_36 : decode cX8_addAsRead 36 = .ok (.getfield 388, 3) := by decide +kernel
theorem dX8_addAsRead_39 : decode cX8_addAsRead 39 = .ok (.iload_n 1, 1) := by decide +kernel
theorem dX8_addAsRead_40 : decode cX8_addAsRead 40 = .ok (.iaload, 1) := by decide +kernel
theorem dX8_addAsRead_41 : decode cX8_addAsRead 41 = .ok (.iadd, 1) := by decide +kernel
theorem dX8_addAsRead_42 : decode cX8_addAsRead 42 = .ok (.iconst 1, 1) := by decide +kernel
theorem dX8_addAsRead_43 : decode cX8_addAsRead 43 = .ok (.invokevirtual 120, 3) := by decide +kernel
theorem dX8_addAsRead_46 : decode cX8_addAsRead 46 = .ok (.istore_n 3, 1) := by decide +kernel
theorem dX8_addAsRead_47 : decode cX8_addAsRead 47 = .ok (.aload_n 0, 1) := by decide +kernel
theorem dX8_addAsRead_48 : decode cX8_addAsRead 48 = .ok (.getfield 19, 3) := by decide +kernel
theorem dX8_addAsRead_51 : decode cX8_addAsRead 51 = .ok (.getfield 128, 3) := by decide +kernel
theorem dX8_addAsRead_54 : decode cX8_addAsRead 54 = .ok (.iconst 1, 1) := by decide +kernel
theorem dX8_addAsRead_55 : decode cX8_addAsRead 55 = .ok (.isub, 1) := by decide +kernel
theorem dX8_addAsRead_56 : decode cX8_addAsRead 56 = .ok (.istore 4, 2) := by decide +kernel
theorem dX8_addAsRead_58 : decode cX8_addAsRead 58 = .ok (.iload 4, 2) := by decide +kernel
theorem dX8_addAsRead_60 : decode cX8_addAsRead 60 = .ok (.iload_n 3, 1) := by decide +kernel
theorem dX8_addAsRead_61 : decode cX8_addAsRead 61 = .ok (.if_icmp .le 25, 3) := by decide +kernel
theorem dX8_addAsRead_64 : decode cX8_addAsRead 64 = .ok (.aload_n 0, 1) := by decide +kernel
theorem dX8_addAsRead_65 : decode cX8_addAsRead 65 = .ok (.getfield 77, 3) := by decide +kernel
theorem dX8_addAsRead_68 : decode cX8_addAsRead 68 = .ok (.iload 4, 2) := by decide +kernel
theorem dX8_addAsRead_70 : decode cX8_addAsRead 70 = .ok (.aload_n 0, 1) := by decide +kernel
theorem dX8_addAsRead_71 : decode cX8_addAsRead 71 = .ok (.getfield 77, 3) := by decide +kernel
theorem dX8_addAsRead_74 : decode cX8_addAsRead 74 = .ok (.iload 4, 2) := by decide +kernel
theorem dX8_addAsRead_76 : decode cX8_addAsRead 76 = .ok (.iconst 1, 1) := by decide +kernel
theorem dX8_addAsRead_77 : decode cX8_addAsRead 77 = .ok (.isub, 1) := by decide +kernel
theorem dX8_addAsRead_78 : decode cX8_addAsRead 78 = .ok (.iaload, 1) := by decide +kernel
theorem dX8_addAsRead_79 : decode cX8_addAsRead 79 = .ok (.iastore, 1) := by decide +kernel
theorem dX8_addAsRead_80 : decode cX8_addAsRead 80 = .ok (.iinc 4 (-1), 3) := by decide +kernel
theorem dX8_addAsRead_83 : decode cX8_addAsRead 83 = .ok (.goto (-25), 3) := by decide +kernel
theorem dX8_addAsRead_86 : decode cX8_addAsRead 86 = .ok (.aload_n 0, 1) := by decide +kernel
theorem dX8_addAsRead_87 : decode cX8_addAsRead 87 = .ok (.getfield 77, 3) := by decide +kernel
theorem dX8_addAsRead_90 : decode cX8_addAsRead 90 = .ok (.iload_n 3, 1) := by decide +kernel
theorem dX8_addAsRead_91 : decode cX8_addAsRead 91 = .ok (.iload_n 2, 1) := by decide +kernel
theorem dX8_addAsRead_92 : decode cX8_addAsRead 92 = .ok (.iastore, 1) := by decide +kernel
theorem dX8_addAsRead_93 : decode cX8_addAsRead 93 = .ok (.return_, 1) := by decide +kernel
abbrev rm_X8_addAsRead : Room := { frames := 4, cells := 0, slots := 0, locals := 89 }
def f_X8_addAsRead_L58  (x0 : Nat) (x2 : Int32) (x3 : Int32) (rec58 : Int32 × Sg → Option (Unit × Sg)) (s : Int32 × Sg) : Option (Unit × Sg) := (if (s.1) ≤ x3 then ck (inb x3 (aL (gR (s.2) x0 10))) (lB (pI (s.2) (gR (s.2) x0 10) x3.toNatClampNeg x2) fun s2 => some ((), s2)) else ck (inb ((s.1) - (1 : Int32)) (aL (gR (s.2) x0 10))) (ck (inb (s.1) (aL (gR (s.2) x0 10))) (lB (pI (s.2) (gR (s.2) x0 10) (s.1).toNatClampNeg (gI (s.2) (gR (s.2) x0 10) ((s.1) - (1 : Int32)).toNatClampNeg)) fun s5 => lB ((s.1) + (-1 : Int32)) fun v6 => rec58 (v6, s5))))
def f_X8_addAsRead (x0 : Nat) (x1 : Int32) (σ : Sg) : Option (Unit × Sg) := ck (inb x1 (aL (gR σ (gR σ x0 5) 3))) (lB ((gI σ (gR σ (gR σ x0 5) 3) x1.toNatClampNeg)) fun v3 => ck (inb x1 (aL (gR σ (gR σ x0 5) 2))) (ck (inb v3 (aL (gR σ (gR σ x0 0) 1))) (ck (inb x1 (aL (gR σ (gR σ x0 5) 4))) (bd (f_X2_add (gR σ x0 1) (gI σ (gR σ (gR σ x0 5) 2) x1.toNatClampNeg) ((gI σ (gR σ (gR σ x0 0) 1) v3.toNatClampNeg) + (gI σ (gR σ (gR σ x0 5) 4) x1.toNatClampNeg)) (1 : Int32) σ) fun r12 s11 => lB (((gI s11 (gR s11 x0 1) 6) - (1 : Int32))) fun v14 => fx (f_X8_addAsRead_L58 x0 v3 r12) FU (v14, s11)))))
theorem t_X8_addAsRead_L58 {K : Cx} (h : Ok K cX8_addAsRead RX8 5 rm_X8_addAsRead none) (hs : kiv K = St) (x0 : Nat) (x2 : Int32) (x3 : Int32)  (hk0 : kd x0 8) (rec58 : Int32 × Sg → Option (Unit × Sg)) (hr58 : ∀ u, T K (QV K) 58 [(0, .ref x0), (2, .int x2), (3, .int x3), (4, .int (u.1))] [] 0 0 (u.2) (rec58 u)) (s : Int32 × Sg) : T K (QV K) 58 [(0, .ref x0), (2, .int x2), (3, .int x3), (4, .int (s.1))] [] 0 0 (s.2) (f_X8_addAsRead_L58 x0 x2 x3 rec58 s) := by
  unfold f_X8_addAsRead_L58
  refine T_iload (pc := 58) h dX8_addAsRead_58 3 rfl ?_
  refine T_iload_n (pc := 60) h dX8_addAsRead_60 rfl 2 rfl ?_
  refine T_icmp_le (pc := 61) (tgt := 86) h dX8_addAsRead_61 (by decide) ?_ ?_
  · refine T_aload_n (pc := 86) h dX8_addAsRead_86 rfl 0 rfl ?_
    refine T_gR (pc := 87) h hs hk0 fl_X8_77 rfl fk_8_10 dX8_addAsRead_87 (fun hq1 => ?_)
    refine T_iload_n (pc := 90) h dX8_addAsRead_90 rfl 2 rfl ?_
    refine T_iload_n (pc := 91) h dX8_addAsRead_91 rfl 1 rfl ?_
    refine T_iast (pc := 92) h hs hq1 dX8_addAsRead_92 ?_
    refine T_letS fun s2 => ?_
    exact T_return (pc := 93) h (Nat.zero_le _) (Nat.zero_le _) dX8_addAsRead_93
  · refine T_aload_n (pc := 64) h dX8_addAsRead_64 rfl 0 rfl ?_
    refine T_gR (pc := 65) h hs hk0 fl_X8_77 rfl fk_8_10 dX8_addAsRead_65 (fun hq3 => ?_)
    refine T_iload (pc := 68) h dX8_addAsRead_68 3 rfl ?_
    refine T_aload_n (pc := 70) h dX8_addAsRead_70 rfl 0 rfl ?_
    refine T_gR (pc := 71) h hs hk0 fl_X8_77 rfl fk_8_10 dX8_addAsRead_71 (fun hq4 => ?_)
    refine T_iload (pc := 74) h dX8_addAsRead_74 3 rfl ?_
    refine T_iconst (pc := 76) h dX8_addAsRead_76 ki_1 ?_
    refine T_isub (pc := 77) h dX8_addAsRead_77 ?_
    refine T_iald (pc := 78) h hs hq4 dX8_addAsRead_78 ?_
    refine T_iast (pc := 79) h hs hq3 dX8_addAsRead_79 ?_
    refine T_letS fun s5 => ?_
    refine T_iinc (fl := fun v6 => [(4, .int v6), (0, .ref x0), (2, .int x2), (3, .int x3)]) (pc := 80) h dX8_addAsRead_80 3 rfl ki_m1 (by decide) (fun _ => rfl) (fun v6 => ?_)
    refine T_goto (pc := 83) (tgt := 58) h dX8_addAsRead_83 (by decide) ?_
    refine T_sub [1, 2, 3, 0] rfl ?_
    exact hr58 (v6, s5)
theorem t_X8_addAsRead {K : Cx} (h : Ok K cX8_addAsRead RX8 5 rm_X8_addAsRead none) (hs : kiv K = St) (x0 : Nat) (x1 : Int32) (σ : Sg) (hk0 : kd x0 8) : T K (QV K) 0 [(0, .ref x0), (1, .int x1)] [] 0 0 σ (f_X8_addAsRead x0 x1 σ) := by
  unfold f_X8_addAsRead
  refine T_aload_n (pc := 0) h dX8_addAsRead_0 rfl 0 rfl ?_
  refine T_gR (pc := 1) h hs hk0 fl_X8_55 rfl fk_8_5 dX8_addAsRead_1 (fun hq1 => ?_)
  refine T_gR (pc := 4) h hs hq1 fl_X8_382 rfl fk_3_3 dX8_addAsRead_4 (fun hq2 => ?_)
  refine T_iload_n (pc := 7) h dX8_addAsRead_7 rfl 1 rfl ?_
  refine T_iald (pc := 8) h hs hq2 dX8_addAsRead_8 ?_
  refine T_letI fun v3 => ?_
  refine T_istore_n (lv' := [(2, .int v3), (0, .ref x0), (1, .int x1)]) (pc := 9) h dX8_addAsRead_9 rfl (by decide) rfl ?_
  refine T_aload_n (pc := 10) h dX8_addAsRead_10 rfl 1 rfl ?_
  refine T_gR (pc := 11) h hs hk0 fl_X8_19 rfl fk_8_1 dX8_addAsRead_11 (fun hq4 => ?_)
  refine T_aload_n (pc := 14) h dX8_addAsRead_14 rfl 1 rfl ?_
  refine T_gR (pc := 15) h hs hk0 fl_X8_55 rfl fk_8_5 dX8_addAsRead_15 (fun hq5 => ?_)
  refine T_gR (pc := 18) h hs hq5 fl_X8_385 rfl fk_3_2 dX8_addAsRead_18 (fun hq6 => ?_)
  refine T_iload_n (pc := 21) h dX8_addAsRead_21 rfl 2 rfl ?_
  refine T_iald (pc := 22) h hs hq6 dX8_addAsRead_22 ?_
  refine T_aload_n (pc := 23) h dX8_addAsRead_23 rfl 1 rfl ?_
  refine T_gR (pc := 24) h hs hk0 fl_X8_10 rfl fk_8_0 dX8_addAsRead_24 (fun hq7 => ?_)
  refine T_gR (pc := 27) h hs hq7 fl_X8_100 rfl fk_1_1 dX8_addAsRead_27 (fun hq8 => ?_)
  refine T_iload_n (pc := 30) h dX8_addAsRead_30 rfl 0 rfl ?_
  refine T_iald (pc := 31) h hs hq8 dX8_addAsRead_31 ?_
  refine T_aload_n (pc := 32) h dX8_addAsRead_32 rfl 1 rfl ?_
  refine T_gR (pc := 33) h hs hk0 fl_X8_55 rfl fk_8_5 dX8_addAsRead_33 (fun hq9 => ?_)
  refine T_gR (pc := 36) h hs hq9 fl_X8_388 rfl fk_3_4 dX8_addAsRead_36 (fun hq10 => ?_)
  refine T_iload_n (pc := 39) h dX8_addAsRead_39 rfl 2 rfl ?_
  refine T_iald (pc := 40) h hs hq10 dX8_addAsRead_40 ?_
  refine T_iadd (pc := 41) h dX8_addAsRead_41 ?_
  refine T_iconst (pc := 42) h dX8_addAsRead_42 ki_1 ?_
  refine T_callVi (pc := 43) h (M_X2_add (kl K) hs (gR σ x0 1) (gI σ (gR σ (gR σ x0 5) 2) x1.toNatClampNeg) ((gI σ (gR σ (gR σ x0 0) 1) v3.toNatClampNeg) + (gI σ (gR σ (gR σ x0 5) 4) x1.toNatClampNeg)) (1 : Int32) σ hq4) mv_X2_add hs hq4 ml_X8_120 rfl ⟨Nat.le_of_ble_eq_true rfl, Nat.le_of_ble_eq_true rfl⟩ ⟨Nat.le_refl 0, Nat.le_refl 0⟩ (Nat.le_of_ble_eq_true rfl) dX8_addAsRead_43 rfl (fun r12 s11 => ?_)
  refine T_istore_n (lv' := [(3, .int r12), (2, .int v3), (0, .ref x0), (1, .int x1)]) (pc := 46) h dX8_addAsRead_46 rfl (by decide) rfl ?_
  refine T_aload_n (pc := 47) h dX8_addAsRead_47 rfl 2 rfl ?_
  refine T_gR (pc := 48) h hs hk0 fl_X8_19 rfl fk_8_1 dX8_addAsRead_48 (fun hq13 => ?_)
  refine T_getI (pc := 51) h hs hq13 fl_X8_128 rfl dX8_addAsRead_51 ?_
  refine T_iconst (pc := 54) h dX8_addAsRead_54 ki_1 ?_
  refine T_isub (pc := 55) h dX8_addAsRead_55 ?_
  refine T_letI fun v14 => ?_
  refine T_istore (lv' := [(4, .int v14), (3, .int r12), (2, .int v3), (0, .ref x0), (1, .int x1)]) (pc := 56) h dX8_addAsRead_56 (by decide) rfl ?_
  refine T_sub [3, 2, 1, 0] rfl ?_
  exact T_fx (B := f_X8_addAsRead_L58 x0 v3 r12) (fl := fun u => [(0, .ref x0), (2, .int v3), (3, .int r12), (4, .int (u.1))]) (f := fun u => (u.2)) (fun rec58 hr58 u => t_X8_addAsRead_L58 h hs x0 v3 r12 hk0 rec58 hr58 u) FU (v14, s11)
theorem M_X8_addAsRead (l : Launch) {iv : Sg → Prop} (hi : iv = St) (x0 : Nat) (x1 : Int32) (σ : Sg) (hk0 : kd x0 8) : CTv l yX8_addAsRead cX8_addAsRead 5 none rm_X8_addAsRead iv [.ref x0, .int x1] σ (f_X8_addAsRead x0 x1 σ) := by
  subst hi
  exact CT_of (by decide) (Nat.le_of_ble_eq_true rfl) (fun K _ h _ hs _ _ => t_X8_addAsRead h hs x0 x1 σ hk0)
/-! LuteTabs.back()I -/
theorem dX8_back_0 : decode cX8_back 0 = .ok (.aload_n 0, 1) := by decide +kernel
theorem dX8_back_1 : decode cX8_back 1 = .ok (.getfield 55, 3) := by decide +kernel
theorem dX8_back_4 : decode cX8_back 4 = .ok (.aload_n 0, 1) := by decide +kernel
theorem dX8_back_5 : decode cX8_back 5 = .ok (.getfield 48, 3) := by decide +kernel
theorem dX8_back_8 : decode cX8_back 8 = .ok (.invokevirtual 243, 3) := by decide +kernel
theorem dX8_back_11 : decode cX8_back 11 = .ok (.iconst (-1), 1) := by decide +kernel
theorem dX8_back_12 : decode cX8_back 12 = .ok (.if_icmp .eq 6, 3) := by decide +kernel
theorem dX8_back_15 : decode cX8_back 15 = .ok (.bipush (-3), 2) := by decide +kernel
theorem dX8_back_17 : decode cX8_back 17 = .ok (.ireturn, 1) := by decide +kernel
theorem dX8_back_18 : decode cX8_back 18 = .ok (.aload_n 0, 1) := by decide +kernel
theorem dX8_back_19 : decode cX8_back 19 = .ok (.getfield 55, 3) := by decide +kernel
theorem dX8_back_22 : decode cX8_back 22 = .ok (.getfield 247, 3) := by decide +kernel
theorem dX8_back_25 : decode cX8_back 25 = .ok (.bipush 14, 2) := by decide +kernel
theorem dX8_back_27 : decode cX8_back 27 = .ok (.if_icmp .le 6, 3) := by decide +kernel
theorem dX8_back_30 : decode cX8_back 30 = .ok (.bipush (-4), 2) := by decide +kernel
theorem dX8_back_32 : decode cX8_back 32 = .ok (.ireturn, 1) := by decide +kernel
theorem dX8_back_33 : decode cX8_back 33 = .ok (.aload_n 0, 1) := by decide +kernel
theorem dX8_back_34 : decode cX8_back 34 = .ok (.getfield 19, 3) := by decide +kernel
theorem dX8_back_37 : decode cX8_back 37 = .ok (.invokevirtual 129, 3) := by decide +kernel
theorem dX8_back_40 : decode cX8_back 40 = .ok (.aload_n 0, 1) := by decide +kernel
theorem dX8_back_41 : decode cX8_back 41 = .ok (.invokevirtual 93, 3) := by decide +kernel
theorem dX8_back_44 : decode cX8_back 44 = .ok (.iconst 0, 1) := by decide +kernel
theorem dX8_back_45 : decode cX8_back 45 = .ok (.istore_n 1, 1) := by decide +kernel
theorem dX8_back_46 : decode cX8_back 46 = .ok (.iload_n 1, 1) := by decide +kernel
theorem dX8_back_47 : decode cX8_back 47 = .ok (.aload_n 0, 1) := by decide +kernel
theorem dX8_back_48 : decode cX8_back 48 = .ok (.getfield 55, 3) := by decide +kernel
theorem dX8_back_51 : decode cX8_back 51 = .ok (.getfield 247, 3) := by decide +kernel
theorem dX8_back_54 : decode cX8_back 54 = .ok (.if_icmp .ge 14, 3) := by decide +kernel
theorem dX8_back_57 : decode cX8_back 57 = .ok (.aload_n 0, 1) := by decide +kernel
theorem dX8_back_58 : decode cX8_back 58 = .ok (.iload_n 1, 1) := by decide +kernel
theorem dX8_back_59 : decode cX8_back 59 = .ok (.invokevirtual 250, 3) := by decide +kernel
theorem dX8_back_62 : decode cX8_back 62 = .ok (.iinc 1 1, 3) := by decide +kernel
theorem dX8_back_65 : decode cX8_back 65 = .ok (.goto (-19), 3) := by decide +kernel
theorem dX8_back_68 : decode cX8_back 68 = .ok (.aload_n 0, 1) := by decide +kernel
theorem dX8_back_69 : decode cX8_back 69 = .ok (.iconst 1, 1) := by decide +kernel
theorem dX8_back_70 : decode cX8_back 70 = .ok (.putfield 81, 3) := by decide +kernel
theorem dX8_back_73 : decode cX8_back 73 = .ok (.aload_n 0, 1) := by decide +kernel
theorem dX8_back_74 : decode cX8_back 74 = .ok (.getfield 19, 3) := by decide +kernel
theorem dX8_back_77 : decode cX8_back 77 = .ok (.getfield 128, 3) := by decide +kernel
theorem dX8_back_80 : decode cX8_back 80 = .ok (.ireturn, 1) := by decide +kernel
abbrev rm_X8_back : Room := { frames := 6, cells := 0, slots := 0, locals := 131 }
def f_X8_back_L46  (x0 : Nat) (rec46 : Int32 × Sg → Option (Int32 × Sg)) (s : Int32 × Sg) : Option (Int32 × Sg) := (if (gI (s.2) (gR (s.2) x0 5) 1) ≤ (s.1) then ck (b01 (1 : Int32)) (lB (pI (s.2) x0 11 (1 : Int32)) fun s2 => some ((gI s2 (gR s2 x0 1) 6), s2)) else bd (f_X8_addAsRead x0 (s.1) (s.2)) fun _ s4 => lB ((s.1) + (1 : Int32)) fun v5 => rec46 (v5, s4))
def f_X8_back (x0 : Nat) (σ : Sg) : Option (Int32 × Sg) := bd (f_X3_flawOf (gR σ x0 5) (gR σ x0 4) σ) fun r4 s3 => (if r4 = (-1 : Int32) then (if (gI s3 (gR s3 x0 5) 1) ≤ (14 : Int32) then bd (f_X2_removeAll (gR s3 x0 1) s3) fun _ s7 => bd (f_X8_startAnew x0 s7) fun _ s8 => fx (f_X8_back_L46 x0) FU ((0 : Int32), s8) else some ((-4 : Int32), s3)) else some ((-3 : Int32), s3))
theorem t_X8_back_L46 {K : Cx} (h : Ok K cX8_back RX8 2 rm_X8_back (some .int)) (hs : kiv K = St) (x0 : Nat)  (hk0 : kd x0 8) (rec46 : Int32 × Sg → Option (Int32 × Sg)) (hr46 : ∀ u, T K (QI K) 46 [(0, .ref x0), (1, .int (u.1))] [] 0 0 (u.2) (rec46 u)) (s : Int32 × Sg) : T K (QI K) 46 [(0, .ref x0), (1, .int (s.1))] [] 0 0 (s.2) (f_X8_back_L46 x0 rec46 s) := by
  unfold f_X8_back_L46
  refine T_iload_n (pc := 46) h dX8_back_46 rfl 1 rfl ?_
  refine T_aload_n (pc := 47) h dX8_back_47 rfl 0 rfl ?_
  refine T_gR (pc := 48) h hs hk0 fl_X8_55 rfl fk_8_5 dX8_back_48 (fun hq1 => ?_)
  refine T_getI (pc := 51) h hs hq1 fl_X8_247 rfl dX8_back_51 ?_
  refine T_icmp_ge (pc := 54) (tgt := 68) h dX8_back_54 (by decide) ?_ ?_
  · refine T_aload_n (pc := 68) h dX8_back_68 rfl 0 rfl ?_
    refine T_iconst (pc := 69) h dX8_back_69 ki_1 ?_
    refine T_putZ (pc := 70) h hs hk0 fl_X8_81 rfl rfl dX8_back_70 ?_
    refine T_letS fun s2 => ?_
    refine T_aload_n (pc := 73) h dX8_back_73 rfl 0 rfl ?_
    refine T_gR (pc := 74) h hs hk0 fl_X8_19 rfl fk_8_1 dX8_back_74 (fun hq3 => ?_)
    refine T_getI (pc := 77) h hs hq3 fl_X8_128 rfl dX8_back_77 ?_
    exact T_ireturn (pc := 80) h (Nat.zero_le _) (Nat.zero_le _) dX8_back_80
  · refine T_aload_n (pc := 57) h dX8_back_57 rfl 0 rfl ?_
    refine T_iload_n (pc := 58) h dX8_back_58 rfl 1 rfl ?_
    refine T_callVv (pc := 59) h (M_X8_addAsRead (kl K) hs x0 (s.1) (s.2) hk0) mv_X8_addAsRead hs hk0 ml_X8_250 rfl ⟨Nat.le_of_ble_eq_true rfl, Nat.le_of_ble_eq_true rfl⟩ ⟨Nat.le_refl 0, Nat.le_refl 0⟩ (Nat.le_of_ble_eq_true rfl) dX8_back_59 rfl (fun _ s4 => ?_)
    refine T_iinc (fl := fun v5 => [(1, .int v5), (0, .ref x0)]) (pc := 62) h dX8_back_62 1 rfl ki_1 (by decide) (fun _ => rfl) (fun v5 => ?_)
    refine T_goto (pc := 65) (tgt := 46) h dX8_back_65 (by decide) ?_
    refine T_sub [1, 0] rfl ?_
    exact hr46 (v5, s4)
theorem t_X8_back {K : Cx} (h : Ok K cX8_back RX8 2 rm_X8_back (some .int)) (hs : kiv K = St) (x0 : Nat) (σ : Sg) (hk0 : kd x0 8) : T K (QI K) 0 [(0, .ref x0)] [] 0 0 σ (f_X8_back x0 σ) := by
  unfold f_X8_back
  refine T_aload_n (pc := 0) h dX8_back_0 rfl 0 rfl ?_
  refine T_gR (pc := 1) h hs hk0 fl_X8_55 rfl fk_8_5 dX8_back_1 (fun hq1 => ?_)
  refine T_aload_n (pc := 4) h dX8_back_4 rfl 0 rfl ?_
  refine T_gR (pc := 5) h hs hk0 fl_X8_48 rfl fk_8_4 dX8_back_5 (fun hq2 => ?_)
  refine T_callVi (pc := 8) h (M_X3_flawOf (kl K) hs (gR σ x0 5) (gR σ x0 4) σ hq1 hq2) mv_X3_flawOf hs hq1 ml_X8_243 rfl ⟨Nat.le_of_ble_eq_true rfl, Nat.le_of_ble_eq_true rfl⟩ ⟨Nat.le_refl 0, Nat.le_refl 0⟩ (Nat.le_of_ble_eq_true rfl) dX8_back_8 rfl (fun r4 s3 => ?_)
  refine T_iconst (pc := 11) h dX8_back_11 ki_m1 ?_
  refine T_icmp_eq (pc := 12) (tgt := 18) h dX8_back_12 (by decide) ?_ ?_
  · refine T_aload_n (pc := 18) h dX8_back_18 rfl 0 rfl ?_
    refine T_gR (pc := 19) h hs hk0 fl_X8_55 rfl fk_8_5 dX8_back_19 (fun hq5 => ?_)
    refine T_getI (pc := 22) h hs hq5 fl_X8_247 rfl dX8_back_22 ?_
    refine T_bipush (pc := 25) h dX8_back_25 kb_14 ?_
    refine T_icmp_le (pc := 27) (tgt := 33) h dX8_back_27 (by decide) ?_ ?_
    · refine T_aload_n (pc := 33) h dX8_back_33 rfl 0 rfl ?_
      refine T_gR (pc := 34) h hs hk0 fl_X8_19 rfl fk_8_1 dX8_back_34 (fun hq6 => ?_)
      refine T_callVv (pc := 37) h (M_X2_removeAll (kl K) hs (gR s3 x0 1) s3 hq6) mv_X2_removeAll hs hq6 ml_X8_129 rfl ⟨Nat.le_of_ble_eq_true rfl, Nat.le_of_ble_eq_true rfl⟩ ⟨Nat.le_refl 0, Nat.le_refl 0⟩ (Nat.le_of_ble_eq_true rfl) dX8_back_37 rfl (fun _ s7 => ?_)
      refine T_aload_n (pc := 40) h dX8_back_40 rfl 0 rfl ?_
      refine T_callVv (pc := 41) h (M_X8_startAnew (kl K) hs x0 s7 hk0) mv_X8_startAnew hs hk0 ml_X8_93 rfl ⟨Nat.le_of_ble_eq_true rfl, Nat.le_of_ble_eq_true rfl⟩ ⟨Nat.le_refl 0, Nat.le_refl 0⟩ (Nat.le_of_ble_eq_true rfl) dX8_back_41 rfl (fun _ s8 => ?_)
      refine T_iconst (pc := 44) h dX8_back_44 ki_0 ?_
      refine T_istore_n (lv' := [(1, .int (0 : Int32)), (0, .ref x0)]) (pc := 45) h dX8_back_45 rfl (by decide) rfl ?_
      refine T_sub [1, 0] rfl ?_
      exact T_fx (B := f_X8_back_L46 x0) (fl := fun u => [(0, .ref x0), (1, .int (u.1))]) (f := fun u => (u.2)) (fun rec46 hr46 u => t_X8_back_L46 h hs x0 hk0 rec46 hr46 u) FU ((0 : Int32), s8)
    · refine T_bipush (pc := 30) h dX8_back_30 kb_m4 ?_
      exact T_ireturn (pc := 32) h (Nat.zero_le _) (Nat.zero_le _) dX8_back_32
  · refine T_bipush (pc := 15) h dX8_back_15 kb_m3 ?_
    exact T_ireturn (pc := 17) h (Nat.zero_le _) (Nat.zero_le _) dX8_back_17
theorem M_X8_back (l : Launch) {iv : Sg → Prop} (hi : iv = St) (x0 : Nat) (σ : Sg) (hk0 : kd x0 8) : CTi l yX8_back cX8_back 2 (some .int) rm_X8_back iv [.ref x0] σ (f_X8_back x0 σ) := by
  subst hi
  exact CT_of (by decide) (Nat.le_of_ble_eq_true rfl) (fun K _ h _ hs _ _ => t_X8_back h hs x0 σ hk0)
