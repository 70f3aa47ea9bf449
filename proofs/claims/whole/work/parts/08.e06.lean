/-! LuteTabsModel.put(IIII)I -/
theorem dX9_put_0 : decode cX9_put 0 = .ok (.iload_n 1, 1) := by decide +kernel
theorem dX9_put_1 : decode cX9_put 1 = .ok (.invokestatic 148, 3) := by decide +kernel
theorem dX9_put_4 : decode cX9_put 4 = .ok (.ifCond .eq 12, 3) := by decide +kernel
theorem dX9_put_7 : decode cX9_put 7 = .ok (.iload_n 2, 1) := by decide +kernel
theorem dX9_put_8 : decode cX9_put 8 = .ok (.iconst 0, 1) := by decide +kernel
theorem dX9_put_9 : decode cX9_put 9 = .ok (.iconst 2, 1) := by decide +kernel
theorem dX9_put_10 : decode cX9_put 10 = .ok (.invokestatic 115, 3) := by decide +kernel
theorem dX9_put_13 : decode cX9_put 13 = .ok (.ifCond .ne 6, 3) := by decide +kernel
theorem dX9_put_16 : decode cX9_put 16 = .ok (.bipush (-2), 2) := by decide +kernel
theorem dX9_put_18 : decode cX9_put 18 = .ok (.ireturn, 1) := by decide +kernel
theorem dX9_put_19 : decode cX9_put 19 = .ok (.aload_n 0, 1) := by decide +kernel
theorem dX9_put_20 : decode cX9_put 20 = .ok (.getfield 96, 3) := by decide +kernel
theorem dX9_put_23 : decode cX9_put 23 = .ok (.iload_n 1, 1) := by decide +kernel
theorem dX9_put_24 : decode cX9_put 24 = .ok (.iaload, 1) := by decide +kernel
theorem dX9_put_25 : decode cX9_put 25 = .ok (.iconst (-1), 1) := by decide +kernel
theorem dX9_put_26 : decode cX9_put 26 = .ok (.if_icmp .ne 7, 3) := by decide +kernel
theorem dX9_put_29 : decode cX9_put 29 = .ok (.iconst 1, 1) := by decide +kernel
theorem dX9_put_30 : decode cX9_put 30 = .ok (.goto 38, 3) := by decide +kernel
theorem dX9_put_33 : decode cX9_put 33 = .ok (.aload_n 0, 1) := by decide +kernel
theorem dX9_put_34 : decode cX9_put 34 = .ok (.getfield 96, 3) := by decide +kernel
theorem dX9_put_37 : decode cX9_put 37 = .ok (.iload_n 1, 1) := by decide +kernel
theorem dX9_put_38 : decode cX9_put 38 = .ok (.iaload, 1) := by decide +kernel
theorem dX9_put_39 : decode cX9_put 39 = .ok (.iload_n 2, 1) := by decide +kernel
theorem dX9_put_40 : decode cX9_put 40 = .ok (.if_icmp .eq 7, 3) := by decide +kernel
theorem dX9_put_43 : decode cX9_put 43 = .ok (.iconst 3, 1) := by decide +kernel
theorem dX9_put_44 : decode cX9_put 44 = .ok (.goto 24, 3) := by decide +kernel
theorem dX9_put_47 : decode cX9_put 47 = .ok (.iload_n 3, 1) := by decide +kernel
theorem dX9_put_48 : decode cX9_put 48 = .ok (.iconst 0, 1) := by decide +kernel
theorem dX9_put_49 : decode cX9_put 49 = .ok (.aload_n 0, 1) := by decide +kernel
theorem dX9_put_50 : decode cX9_put 50 = .ok (.getfield 99, 3) := by decide +kernel
theorem dX9_put_53 : decode cX9_put 53 = .ok (.iload_n 1, 1) := by decide +kernel
theorem dX9_put_54 : decode cX9_put 54 = .ok (.iaload, 1) := by decide +kernel
theorem dX9_put_55 : decode cX9_put 55 = .ok (.iconst 1, 1) := by decide +kernel
theorem dX9_put_56 : decode cX9_put 56 = .ok (.isub, 1) := by decide +kernel
theorem dX9_put_57 : decode cX9_put 57 = .ok (.invokestatic 115, 3) := by decide +kernel
theorem dX9_put_60 : decode cX9_put 60 = .ok (.ifCond .eq 7, 3) := by decide +kernel
theorem dX9_put_63 : decode cX9_put 63 = .ok (.iconst 0, 1) := by decide +kernel
theorem dX9_put_64 : decode cX9_put 64 = .ok (.goto 4, 3) := by decide +kernel
theorem dX9_put_67 : decode cX9_put 67 = .ok (.iconst 2, 1) := by decide +kernel
theorem dX9_put_68 : decode cX9_put 68 = .ok (.istore 5, 2) := by decide +kernel
theorem dX9_put_70 : decode cX9_put 70 = .ok (.iload 5, 2) := by decide +kernel
theorem dX9_put_72 : decode cX9_put 72 = .ok (.ifCond .le 10, 3) := by decide +kernel
theorem dX9_put_75 : decode cX9_put 75 = .ok (.aload_n 0, 1) := by decide +kernel
theorem dX9_put_76 : decode cX9_put 76 = .ok (.iload 5, 2) := by decide +kernel
theorem dX9_put_78 : decode cX9_put 78 = .ok (.invokevirtual 151, 3) := by decide +kernel
theorem dX9_put_81 : decode cX9_put 81 = .ok (.ireturn, 1) := by decide +kernel
theorem dX9_put_82 : decode cX9_put 82 = .ok (.aload_n 0, 1) := by decide +kernel
theorem dX9_put_83 : decode cX9_put 83 = .ok (.getfield 102, 3) := by decide +kernel
theorem dX9_put_86 : decode cX9_put 86 = .ok (.bipush 48, 2) := by decide +kernel
theorem dX9_put_88 : decode cX9_put 88 = .ok (.iload_n 1, 1) := by decide +kernel
theorem dX9_put_89 : decode cX9_put 89 = .ok (.imul, 1) := by decide +kernel
theorem dX9_put_90 : decode cX9_put 90 = .ok (.iload_n 3, 1) := by decide +kernel
theorem dX9_put_91 : decode cX9_put 91 = .ok (.iadd, 1) := by decide +kernel
theorem dX9_put_92 : decode cX9_put 92 = .ok (.iload_n 2, 1) := by decide +kernel
theorem dX9_put_93 : decode cX9_put 93 = .ok (.ifCond .ne 10, 3) := by decide +kernel
theorem dX9_put_96 : decode cX9_put 96 = .ok (.iload 4, 2) := by decide +kernel
theorem dX9_put_98 : decode cX9_put 98 = .ok (.i2b, 1) := by decide +kernel
theorem dX9_put_99 : decode cX9_put 99 = .ok (.i2l, 1) := by decide +kernel
theorem dX9_put_100 : decode cX9_put 100 = .ok (.goto 21, 3) := by decide +kernel
theorem dX9_put_103 : decode cX9_put 103 = .ok (.iload_n 2, 1) := by decide +kernel
theorem dX9_put_104 : decode cX9_put 104 = .ok (.iconst 1, 1) := by decide +kernel
theorem dX9_put_105 : decode cX9_put 105 = .ok (.if_icmp .ne 9, 3) := by decide +kernel
theorem dX9_put_108 : decode cX9_put 108 = .ok (.iload 4, 2) := by decide +kernel
theorem dX9_put_110 : decode cX9_put 110 = .ok (.i2l, 1) := by decide +kernel
theorem dX9_put_111 : decode cX9_put 111 = .ok (.goto 10, 3) := by decide +kernel
theorem dX9_put_114 : decode cX9_put 114 = .ok (.iload 4, 2) := by decide +kernel
theorem dX9_put_116 : decode cX9_put 116 = .ok (.i2l, 1) := by decide +kernel
theorem dX9_put_117 : decode cX9_put 117 = .ok (.ldc2_w 328, 3) := by decide +kernel
theorem dX9_put_120 : decode cX9_put 120 = .ok (.lmul, 1) := by decide +kernel
theorem dX9_put_121 : decode cX9_put 121 = .ok (.lastore, 1) := by decide +kernel
theorem dX9_put_122 : decode cX9_put 122 = .ok (.iconst 1, 1) := by decide +kernel
theorem dX9_put_123 : decode cX9_put 123 = .ok (.ireturn, 1) := by decide +kernel
abbrev rm_X9_put : Room := { frames := 2, cells := 0, slots := 0, locals := 42 }
def f_X9_put_L16    (σ : Sg) : Option (Int32 × Sg) := some ((-2 : Int32), σ)
def f_X9_put_L121   (y0 : Nat) (y1 : Int32) (y2 : Int64) (σ : Sg) : Option (Int32 × Sg) := ck (inb y1 (aL y0)) (lB (pL σ y0 y1.toNatClampNeg y2) fun s1 => some ((1 : Int32), s1))
def f_X9_put_L68  (x0 : Nat) (x1 : Int32) (x2 : Int32) (x3 : Int32) (x4 : Int32) (y0 : Int32) (σ : Sg) : Option (Int32 × Sg) := (if y0 ≤ 0 then (if x2 = 0 then f_X9_put_L121 (gR σ x0 46) (((48 : Int32) * x1) + x3) ((x4.toInt8.toInt32).toInt64) σ else (if x2 = (1 : Int32) then f_X9_put_L121 (gR σ x0 46) (((48 : Int32) * x1) + x3) (x4.toInt64) σ else f_X9_put_L121 (gR σ x0 46) (((48 : Int32) * x1) + x3) (x4.toInt64 * (100000007 : Int64)) σ)) else bd (f_X9_meets x0 y0 σ) fun r3 s2 => some (r3, s2))
def f_X9_put (x0 : Nat) (x1 : Int32) (x2 : Int32) (x3 : Int32) (x4 : Int32) (σ : Sg) : Option (Int32 × Sg) := bd (f_X9_isSheet x1 σ) fun r2 s1 => (if r2 = 0 then f_X9_put_L16 s1 else bd (f_X9_in x2 (0 : Int32) (2 : Int32) s1) fun r4 s3 => (if r4 = 0 then f_X9_put_L16 s3 else ck (inb x1 (aL (gR s3 x0 44))) ((if (gI s3 (gR s3 x0 44) x1.toNatClampNeg) = (-1 : Int32) then f_X9_put_L68 x0 x1 x2 x3 x4 (1 : Int32) s3 else ck (inb x1 (aL (gR s3 x0 44))) ((if (gI s3 (gR s3 x0 44) x1.toNatClampNeg) = x2 then ck (inb x1 (aL (gR s3 x0 45))) (bd (f_X9_in x3 (0 : Int32) ((gI s3 (gR s3 x0 45) x1.toNatClampNeg) - (1 : Int32)) s3) fun r9 s8 => (if r9 = 0 then f_X9_put_L68 x0 x1 x2 x3 x4 (2 : Int32) s8 else f_X9_put_L68 x0 x1 x2 x3 x4 (0 : Int32) s8)) else f_X9_put_L68 x0 x1 x2 x3 x4 (3 : Int32) s3))))))
theorem t_X9_put_L16 {K : Cx} (h : Ok K cX9_put RX9 6 rm_X9_put (some .int)) (hs : kiv K = St)   (σ : Sg)    : T K (QI K) 16 [] [] 0 0 σ (f_X9_put_L16 σ) := by
  unfold f_X9_put_L16
  refine T_bipush (pc := 16) h dX9_put_16 kb_m2 ?_
  exact T_ireturn (pc := 18) h (Nat.zero_le _) (Nat.zero_le _) dX9_put_18
theorem t_X9_put_L121 {K : Cx} (h : Ok K cX9_put RX9 6 rm_X9_put (some .int)) (hs : kiv K = St)  (y0 : Nat) (y1 : Int32) (y2 : Int64) (σ : Sg)   (hy0 : kd y0 11) : T K (QI K) 121 [] [.long y2, .int y1, .ref y0] 0 0 σ (f_X9_put_L121 y0 y1 y2 σ) := by
  unfold f_X9_put_L121
  refine T_last (pc := 121) h hs hy0 dX9_put_121 ?_
  refine T_letS fun s1 => ?_
  refine T_iconst (pc := 122) h dX9_put_122 ki_1 ?_
  exact T_ireturn (pc := 123) h (Nat.zero_le _) (Nat.zero_le _) dX9_put_123
theorem t_X9_put_L68 {K : Cx} (h : Ok K cX9_put RX9 6 rm_X9_put (some .int)) (hs : kiv K = St) (x0 : Nat) (x1 : Int32) (x2 : Int32) (x3 : Int32) (x4 : Int32) (y0 : Int32) (σ : Sg)  (hk0 : kd x0 9)  : T K (QI K) 68 [(0, .ref x0), (1, .int x1), (2, .int x2), (3, .int x3), (4, .int x4)] [.int y0] 0 0 σ (f_X9_put_L68 x0 x1 x2 x3 x4 y0 σ) := by
  unfold f_X9_put_L68
  refine T_istore (lv' := [(5, .int y0), (0, .ref x0), (1, .int x1), (2, .int x2), (3, .int x3), (4, .int x4)]) (pc := 68) h dX9_put_68 (by decide) rfl ?_
  refine T_iload (pc := 70) h dX9_put_70 0 rfl ?_
  refine T_if_le (pc := 72) (tgt := 82) h dX9_put_72 (by decide) ?_ ?_
  · refine T_aload_n (pc := 82) h dX9_put_82 rfl 1 rfl ?_
    refine T_gR (pc := 83) h hs hk0 fl_X9_102 rfl fk_9_46 dX9_put_83 (fun hq1 => ?_)
    refine T_bipush (pc := 86) h dX9_put_86 kb_48 ?_
    refine T_iload_n (pc := 88) h dX9_put_88 rfl 2 rfl ?_
    refine T_imul (pc := 89) h dX9_put_89 ?_
    refine T_iload_n (pc := 90) h dX9_put_90 rfl 4 rfl ?_
    refine T_iadd (pc := 91) h dX9_put_91 ?_
    refine T_iload_n (pc := 92) h dX9_put_92 rfl 3 rfl ?_
    refine T_if_ne (pc := 93) (tgt := 103) h dX9_put_93 (by decide) ?_ ?_
    · refine T_iload_n (pc := 103) h dX9_put_103 rfl 3 rfl ?_
      refine T_iconst (pc := 104) h dX9_put_104 ki_1 ?_
      refine T_icmp_ne (pc := 105) (tgt := 114) h dX9_put_105 (by decide) ?_ ?_
      · refine T_iload (pc := 114) h dX9_put_114 5 rfl ?_
        refine T_i2l (pc := 116) h dX9_put_116 ?_
        refine T_ldc2 (pc := 117) h kc_X9_328 dX9_put_117 ?_
        refine T_lmul (pc := 120) h dX9_put_120 ?_
        refine T_sub [] rfl ?_
        exact t_X9_put_L121 h hs (gR σ x0 46) (((48 : Int32) * x1) + x3) (x4.toInt64 * (100000007 : Int64)) σ hq1
      · refine T_iload (pc := 108) h dX9_put_108 5 rfl ?_
        refine T_i2l (pc := 110) h dX9_put_110 ?_
        refine T_goto (pc := 111) (tgt := 121) h dX9_put_111 (by decide) ?_
        refine T_sub [] rfl ?_
        exact t_X9_put_L121 h hs (gR σ x0 46) (((48 : Int32) * x1) + x3) (x4.toInt64) σ hq1
    · refine T_iload (pc := 96) h dX9_put_96 5 rfl ?_
      refine T_i2b (pc := 98) h dX9_put_98 ?_
      refine T_i2l (pc := 99) h dX9_put_99 ?_
      refine T_goto (pc := 100) (tgt := 121) h dX9_put_100 (by decide) ?_
      refine T_sub [] rfl ?_
      exact t_X9_put_L121 h hs (gR σ x0 46) (((48 : Int32) * x1) + x3) ((x4.toInt8.toInt32).toInt64) σ hq1
  · refine T_aload_n (pc := 75) h dX9_put_75 rfl 1 rfl ?_
    refine T_iload (pc := 76) h dX9_put_76 0 rfl ?_
    refine T_callVi (pc := 78) h (M_X9_meets (kl K) hs x0 y0 σ hk0) mv_X9_meets hs hk0 ml_X9_151 rfl ⟨Nat.le_of_ble_eq_true rfl, Nat.le_of_ble_eq_true rfl⟩ ⟨Nat.le_refl 0, Nat.le_refl 0⟩ (Nat.le_of_ble_eq_true rfl) dX9_put_78 rfl (fun r3 s2 => ?_)
    exact T_ireturn (pc := 81) h (Nat.zero_le _) (Nat.zero_le _) dX9_put_81
theorem t_X9_put {K : Cx} (h : Ok K cX9_put RX9 6 rm_X9_put (some .int)) (hs : kiv K = St) (x0 : Nat) (x1 : Int32) (x2 : Int32) (x3 : Int32) (x4 : Int32) (σ : Sg) (hk0 : kd x0 9) : T K (QI K) 0 [(0, .ref x0), (1, .int x1), (2, .int x2), (3, .int x3), (4, .int x4)] [] 0 0 σ (f_X9_put x0 x1 x2 x3 x4 σ) := by
  unfold f_X9_put
  refine T_iload_n (pc := 0) h dX9_put_0 rfl 1 rfl ?_
  refine T_callSi (pc := 1) h (M_X9_isSheet (kl K) hs x1 σ ) mst_X9_isSheet ml_X9_148 rfl ⟨Nat.le_of_ble_eq_true rfl, Nat.le_of_ble_eq_true rfl⟩ ⟨Nat.le_refl 0, Nat.le_refl 0⟩ (Nat.le_of_ble_eq_true rfl) dX9_put_1 rfl (fun r2 s1 => ?_)
  refine T_if_eq (pc := 4) (tgt := 16) h dX9_put_4 (by decide) ?_ ?_
  · refine T_sub [] rfl ?_
    exact t_X9_put_L16 h hs s1
  · refine T_iload_n (pc := 7) h dX9_put_7 rfl 2 rfl ?_
    refine T_iconst (pc := 8) h dX9_put_8 ki_0 ?_
    refine T_iconst (pc := 9) h dX9_put_9 ki_2 ?_
    refine T_callSi (pc := 10) h (M_X9_in (kl K) hs x2 (0 : Int32) (2 : Int32) s1 ) mst_X9_in ml_X9_115 rfl ⟨Nat.le_of_ble_eq_true rfl, Nat.le_of_ble_eq_true rfl⟩ ⟨Nat.le_refl 0, Nat.le_refl 0⟩ (Nat.le_of_ble_eq_true rfl) dX9_put_10 rfl (fun r4 s3 => ?_)
    refine T_if_ne (pc := 13) (tgt := 19) h dX9_put_13 (by decide) ?_ ?_
    · refine T_aload_n (pc := 19) h dX9_put_19 rfl 0 rfl ?_
      refine T_gR (pc := 20) h hs hk0 fl_X9_96 rfl fk_9_44 dX9_put_20 (fun hq5 => ?_)
      refine T_iload_n (pc := 23) h dX9_put_23 rfl 1 rfl ?_
      refine T_iald (pc := 24) h hs hq5 dX9_put_24 ?_
      refine T_iconst (pc := 25) h dX9_put_25 ki_m1 ?_
      refine T_icmp_ne (pc := 26) (tgt := 33) h dX9_put_26 (by decide) ?_ ?_
      · refine T_aload_n (pc := 33) h dX9_put_33 rfl 0 rfl ?_
        refine T_gR (pc := 34) h hs hk0 fl_X9_96 rfl fk_9_44 dX9_put_34 (fun hq6 => ?_)
        refine T_iload_n (pc := 37) h dX9_put_37 rfl 1 rfl ?_
        refine T_iald (pc := 38) h hs hq6 dX9_put_38 ?_
        refine T_iload_n (pc := 39) h dX9_put_39 rfl 2 rfl ?_
        refine T_icmp_eq (pc := 40) (tgt := 47) h dX9_put_40 (by decide) ?_ ?_
        · refine T_iload_n (pc := 47) h dX9_put_47 rfl 3 rfl ?_
          refine T_iconst (pc := 48) h dX9_put_48 ki_0 ?_
          refine T_aload_n (pc := 49) h dX9_put_49 rfl 0 rfl ?_
          refine T_gR (pc := 50) h hs hk0 fl_X9_99 rfl fk_9_45 dX9_put_50 (fun hq7 => ?_)
          refine T_iload_n (pc := 53) h dX9_put_53 rfl 1 rfl ?_
          refine T_iald (pc := 54) h hs hq7 dX9_put_54 ?_
          refine T_iconst (pc := 55) h dX9_put_55 ki_1 ?_
          refine T_isub (pc := 56) h dX9_put_56 ?_
          refine T_callSi (pc := 57) h (M_X9_in (kl K) hs x3 (0 : Int32) ((gI s3 (gR s3 x0 45) x1.toNatClampNeg) - (1 : Int32)) s3 ) mst_X9_in ml_X9_115 rfl ⟨Nat.le_of_ble_eq_true rfl, Nat.le_of_ble_eq_true rfl⟩ ⟨Nat.le_refl 0, Nat.le_refl 0⟩ (Nat.le_of_ble_eq_true rfl) dX9_put_57 rfl (fun r9 s8 => ?_)
          refine T_if_eq (pc := 60) (tgt := 67) h dX9_put_60 (by decide) ?_ ?_
          · refine T_iconst (pc := 67) h dX9_put_67 ki_2 ?_
            refine T_sub [0, 1, 2, 3, 4] rfl ?_
            exact t_X9_put_L68 h hs x0 x1 x2 x3 x4 (2 : Int32) s8 hk0
          · refine T_iconst (pc := 63) h dX9_put_63 ki_0 ?_
            refine T_goto (pc := 64) (tgt := 68) h dX9_put_64 (by decide) ?_
            refine T_sub [0, 1, 2, 3, 4] rfl ?_
            exact t_X9_put_L68 h hs x0 x1 x2 x3 x4 (0 : Int32) s8 hk0
        · refine T_iconst (pc := 43) h dX9_put_43 ki_3 ?_
          refine T_goto (pc := 44) (tgt := 68) h dX9_put_44 (by decide) ?_
          refine T_sub [0, 1, 2, 3, 4] rfl ?_
          exact t_X9_put_L68 h hs x0 x1 x2 x3 x4 (3 : Int32) s3 hk0
      · refine T_iconst (pc := 29) h dX9_put_29 ki_1 ?_
        refine T_goto (pc := 30) (tgt := 68) h dX9_put_30 (by decide) ?_
        refine T_sub [0, 1, 2, 3, 4] rfl ?_
        exact t_X9_put_L68 h hs x0 x1 x2 x3 x4 (1 : Int32) s3 hk0
    · refine T_sub [] rfl ?_
      exact t_X9_put_L16 h hs s3
theorem M_X9_put (l : Launch) {iv : Sg → Prop} (hi : iv = St) (x0 : Nat) (x1 : Int32) (x2 : Int32) (x3 : Int32) (x4 : Int32) (σ : Sg) (hk0 : kd x0 9) : CTi l yX9_put cX9_put 6 (some .int) rm_X9_put iv [.ref x0, .int x1, .int x2, .int x3, .int x4] σ (f_X9_put x0 x1 x2 x3 x4 σ) := by
  subst hi
  exact CT_of (by decide) (Nat.le_of_ble_eq_true rfl) (fun K _ h _ hs _ _ => t_X9_put h hs x0 x1 x2 x3 x4 σ hk0)
/-! LuteTabsModel.get(II)J -/
theorem dX9_get_0 : decode cX9_get 0 = .ok (.iload_n 1, 1) := by decide +kernel
theorem dX9_get_1 : decode cX9_get 1 = .ok (.invokestatic 148, 3) := by decide +kernel
theorem dX9_get_4 : decode cX9_get 4 = .ok (.ifCond .ne 9, 3) := by decide +kernel
theorem dX9_get_7 : decode cX9_get 7 = .ok (.bipush (-2), 2) := by decide +kernel
theorem dX9_get_9 : decode cX9_get 9 = .ok (.invokestatic 330, 3) := by decide +kernel
theorem dX9_get_12 : decode cX9_get 12 = .ok (.lreturn, 1) := by decide +kernel
theorem dX9_get_13 : decode cX9_get 13 = .ok (.aload_n 0, 1) := by decide +kernel
theorem dX9_get_14 : decode cX9_get 14 = .ok (.getfield 96, 3) := by decide +kernel
theorem dX9_get_17 : decode cX9_get 17 = .ok (.iload_n 1, 1) := by decide +kernel
theorem dX9_get_18 : decode cX9_get 18 = .ok (.iaload, 1) := by decide +kernel
theorem dX9_get_19 : decode cX9_get 19 = .ok (.iconst (-1), 1) := by decide +kernel
theorem dX9_get_20 : decode cX9_get 20 = .ok (.if_icmp .ne 7, 3) := by decide +kernel
theorem dX9_get_23 : decode cX9_get 23 = .ok (.iconst 1, 1) := by decide +kernel
theorem dX9_get_24 : decode cX9_get 24 = .ok (.goto 24, 3) := by decide +kernel
theorem dX9_get_27 : decode cX9_get 27 = .ok (.iload_n 2, 1) := by decide +kernel
theorem dX9_get_28 : decode cX9_get 28 = .ok (.iconst 0, 1) := by decide +kernel
theorem dX9_get_29 : decode cX9_get 29 = .ok (.aload_n 0, 1) := by decide +kernel
theorem dX9_get_30 : decode cX9_get 30 = .ok (.getfield 99, 3) := by decide +kernel
theorem dX9_get_33 : decode cX9_get 33 = .ok (.iload_n 1, 1) := by decide +kernel
theorem dX9_get_34 : decode cX9_get 34 = .ok (.iaload, 1) := by decide +kernel
theorem dX9_get_35 : decode cX9_get 35 = .ok (.iconst 1, 1) := by decide +kernel
theorem dX9_get_36 : decode cX9_get 36 = .ok (.isub, 1) := by decide +kernel
theorem dX9_get_37 : decode cX9_get 37 = .ok (.invokestatic 115, 3) := by decide +kernel
theorem dX9_get_40 : decode cX9_get 40 = .ok (.ifCond .eq 7, 3) := by decide +kernel
theorem dX9_get_43 : decode cX9_get 43 = .ok (.iconst 0, 1) := by decide +kernel
theorem dX9_get_44 : decode cX9_get 44 = .ok (.goto 4, 3) := by decide +kernel
theorem dX9_get_47 : decode cX9_get 47 = .ok (.iconst 2, 1) := by decide +kernel
theorem dX9_get_48 : decode cX9_get 48 = .ok (.istore_n 3, 1) := by decide +kernel
theorem dX9_get_49 : decode cX9_get 49 = .ok (.iload_n 3, 1) := by decide +kernel
theorem dX9_get_50 : decode cX9_get 50 = .ok (.ifCond .le 14, 3) := by decide +kernel
theorem dX9_get_53 : decode cX9_get 53 = .ok (.aload_n 0, 1) := by decide +kernel
theorem dX9_get_54 : decode cX9_get 54 = .ok (.iload_n 3, 1) := by decide +kernel
theorem dX9_get_55 : decode cX9_get 55 = .ok (.invokevirtual 151, 3) := by decide +kernel
theorem dX9_get_58 : decode cX9_get 58 = .ok (.invokestatic 330, 3) := by decide +kernel
theorem dX9_get_61 : decode cX9_get 61 = .ok (.goto 14, 3) := by decide +kernel
theorem dX9_get_64 : decode cX9_get 64 = .ok (.aload_n 0, 1) := by decide +kernel
theorem dX9_get_65 : decode cX9_get 65 = .ok (.getfield 102, 3) := by decide +kernel
theorem dX9_get_68 : decode cX9_get 68 = .ok (.bipush 48, 2) := by decide +kernel
theorem dX9_get_70 : decode cX9_get 70 = .ok (.iload_n 1, 1) := by decide +kernel
theorem dX9_get_71 : decode cX9_get 71 = .ok (.imul, 1) := by decide +kernel
theorem dX9_get_72 : decode cX9_get 72 = .ok (.iload_n 2, 1) := by decide +kernel
theorem dX9_get_73 : decode cX9_get 73 = .ok (.iadd, 1) := by decide +kernel
theorem dX9_get_74 : decode cX9_get 74 = .ok (.laload, 1) := by decide +kernel
theorem dX9_get_75 : decode cX9_get 75 = .ok (.lreturn, 1) := by decide +kernel
abbrev rm_X9_get : Room := { frames := 2, cells := 0, slots := 0, locals := 42 }
def f_X9_get_L75   (y0 : Int64) (σ : Sg) : Option (Int64 × Sg) := some (y0, σ)
def f_X9_get_L48  (x0 : Nat) (x1 : Int32) (x2 : Int32) (y0 : Int32) (σ : Sg) : Option (Int64 × Sg) := (if y0 ≤ 0 then ck (inb (((48 : Int32) * x1) + x2) (aL (gR σ x0 46))) (f_X9_get_L75 (gL σ (gR σ x0 46) (((48 : Int32) * x1) + x2).toNatClampNeg) σ) else bd (f_X9_meets x0 y0 σ) fun r3 s2 => bd (f_X9_no r3 s2) fun r5 s4 => f_X9_get_L75 r5 s4)
def f_X9_get (x0 : Nat) (x1 : Int32) (x2 : Int32) (σ : Sg) : Option (Int64 × Sg) := bd (f_X9_isSheet x1 σ) fun r2 s1 => (if r2 = 0 then bd (f_X9_no (-2 : Int32) s1) fun r8 s7 => some (r8, s7) else ck (inb x1 (aL (gR s1 x0 44))) ((if (gI s1 (gR s1 x0 44) x1.toNatClampNeg) = (-1 : Int32) then f_X9_get_L48 x0 x1 x2 (1 : Int32) s1 else ck (inb x1 (aL (gR s1 x0 45))) (bd (f_X9_in x2 (0 : Int32) ((gI s1 (gR s1 x0 45) x1.toNatClampNeg) - (1 : Int32)) s1) fun r6 s5 => (if r6 = 0 then f_X9_get_L48 x0 x1 x2 (2 : Int32) s5 else f_X9_get_L48 x0 x1 x2 (0 : Int32) s5)))))
theorem t_X9_get_L75 {K : Cx} (h : Ok K cX9_get RX9 4 rm_X9_get (some .long)) (hs : kiv K = St)  (y0 : Int64) (σ : Sg)    : T K (QL K) 75 [] [.long y0] 0 0 σ (f_X9_get_L75 y0 σ) := by
  unfold f_X9_get_L75
  exact T_lreturn (pc := 75) h (Nat.zero_le _) (Nat.zero_le _) dX9_get_75
theorem t_X9_get_L48 {K : Cx} (h : Ok K cX9_get RX9 4 rm_X9_get (some .long)) (hs : kiv K = St) (x0 : Nat) (x1 : Int32) (x2 : Int32) (y0 : Int32) (σ : Sg)  (hk0 : kd x0 9)  : T K (QL K) 48 [(0, .ref x0), (1, .int x1), (2, .int x2)] [.int y0] 0 0 σ (f_X9_get_L48 x0 x1 x2 y0 σ) := by
  unfold f_X9_get_L48
  refine T_istore_n (lv' := [(3, .int y0), (0, .ref x0), (1, .int x1), (2, .int x2)]) (pc := 48) h dX9_get_48 rfl (by decide) rfl ?_
  refine T_iload_n (pc := 49) h dX9_get_49 rfl 0 rfl ?_
  refine T_if_le (pc := 50) (tgt := 64) h dX9_get_50 (by decide) ?_ ?_
  · refine T_aload_n (pc := 64) h dX9_get_64 rfl 1 rfl ?_
    refine T_gR (pc := 65) h hs hk0 fl_X9_102 rfl fk_9_46 dX9_get_65 (fun hq1 => ?_)
    refine T_bipush (pc := 68) h dX9_get_68 kb_48 ?_
    refine T_iload_n (pc := 70) h dX9_get_70 rfl 2 rfl ?_
    refine T_imul (pc := 71) h dX9_get_71 ?_
    refine T_iload_n (pc := 72) h dX9_get_72 rfl 3 rfl ?_
    refine T_iadd (pc := 73) h dX9_get_73 ?_
    refine T_lald (pc := 74) h hs hq1 dX9_get_74 ?_
    refine T_sub [] rfl ?_
    exact t_X9_get_L75 h hs (gL σ (gR σ x0 46) (((48 : Int32) * x1) + x2).toNatClampNeg) σ
  · refine T_aload_n (pc := 53) h dX9_get_53 rfl 1 rfl ?_
    refine T_iload_n (pc := 54) h dX9_get_54 rfl 0 rfl ?_
    refine T_callVi (pc := 55) h (M_X9_meets (kl K) hs x0 y0 σ hk0) mv_X9_meets hs hk0 ml_X9_151 rfl ⟨Nat.le_of_ble_eq_true rfl, Nat.le_of_ble_eq_true rfl⟩ ⟨Nat.le_refl 0, Nat.le_refl 0⟩ (Nat.le_of_ble_eq_true rfl) dX9_get_55 rfl (fun r3 s2 => ?_)
    refine T_callSl (pc := 58) h (M_X9_no (kl K) hs r3 s2 ) mst_X9_no ml_X9_330 rfl ⟨Nat.le_of_ble_eq_true rfl, Nat.le_of_ble_eq_true rfl⟩ ⟨Nat.le_refl 0, Nat.le_refl 0⟩ (Nat.le_of_ble_eq_true rfl) dX9_get_58 rfl (fun r5 s4 => ?_)
    refine T_goto (pc := 61) (tgt := 75) h dX9_get_61 (by decide) ?_
    refine T_sub [] rfl ?_
    exact t_X9_get_L75 h hs r5 s4
theorem t_X9_get {K : Cx} (h : Ok K cX9_get RX9 4 rm_X9_get (some .long)) (hs : kiv K = St) (x0 : Nat) (x1 : Int32) (x2 : Int32) (σ : Sg) (hk0 : kd x0 9) : T K (QL K) 0 [(0, .ref x0), (1, .int x1), (2, .int x2)] [] 0 0 σ (f_X9_get x0 x1 x2 σ) := by
  unfold f_X9_get
  refine T_iload_n (pc := 0) h dX9_get_0 rfl 1 rfl ?_
  refine T_callSi (pc := 1) h (M_X9_isSheet (kl K) hs x1 σ ) mst_X9_isSheet ml_X9_148 rfl ⟨Nat.le_of_ble_eq_true rfl, Nat.le_of_ble_eq_true rfl⟩ ⟨Nat.le_refl 0, Nat.le_refl 0⟩ (Nat.le_of_ble_eq_true rfl) dX9_get_1 rfl (fun r2 s1 => ?_)
  refine T_if_ne (pc := 4) (tgt := 13) h dX9_get_4 (by decide) ?_ ?_
  · refine T_aload_n (pc := 13) h dX9_get_13 rfl 0 rfl ?_
    refine T_gR (pc := 14) h hs hk0 fl_X9_96 rfl fk_9_44 dX9_get_14 (fun hq3 => ?_)
    refine T_iload_n (pc := 17) h dX9_get_17 rfl 1 rfl ?_
    refine T_iald (pc := 18) h hs hq3 dX9_get_18 ?_
    refine T_iconst (pc := 19) h dX9_get_19 ki_m1 ?_
    refine T_icmp_ne (pc := 20) (tgt := 27) h dX9_get_20 (by decide) ?_ ?_
    · refine T_iload_n (pc := 27) h dX9_get_27 rfl 2 rfl ?_
      refine T_iconst (pc := 28) h dX9_get_28 ki_0 ?_
      refine T_aload_n (pc := 29) h dX9_get_29 rfl 0 rfl ?_
      refine T_gR (pc := 30) h hs hk0 fl_X9_99 rfl fk_9_45 dX9_get_30 (fun hq4 => ?_)
      refine T_iload_n (pc := 33) h dX9_get_33 rfl 1 rfl ?_
      refine T_iald (pc := 34) h hs hq4 dX9_get_34 ?_
      refine T_iconst (pc := 35) h dX9_get_35 ki_1 ?_
      refine T_isub (pc := 36) h dX9_get_36 ?_
      refine T_callSi (pc := 37) h (M_X9_in (kl K) hs x2 (0 : Int32) ((gI s1 (gR s1 x0 45) x1.toNatClampNeg) - (1 : Int32)) s1 ) mst_X9_in ml_X9_115 rfl ⟨Nat.le_of_ble_eq_true rfl, Nat.le_of_ble_eq_true rfl⟩ ⟨Nat.le_refl 0, Nat.le_refl 0⟩ (Nat.le_of_ble_eq_true rfl) dX9_get_37 rfl (fun r6 s5 => ?_)
      refine T_if_eq (pc := 40) (tgt := 47) h dX9_get_40 (by decide) ?_ ?_
      · refine T_iconst (pc := 47) h dX9_get_47 ki_2 ?_
        refine T_sub [0, 1, 2] rfl ?_
        exact t_X9_get_L48 h hs x0 x1 x2 (2 : Int32) s5 hk0
      · refine T_iconst (pc := 43) h dX9_get_43 ki_0 ?_
        refine T_goto (pc := 44) (tgt := 48) h dX9_get_44 (by decide) ?_
        refine T_sub [0, 1, 2] rfl ?_
        exact t_X9_get_L48 h hs x0 x1 x2 (0 : Int32) s5 hk0
    · refine T_iconst (pc := 23) h dX9_get_23 ki_1 ?_
      refine T_goto (pc := 24) (tgt := 48) h dX9_get_24 (by decide) ?_
      refine T_sub [0, 1, 2] rfl ?_
      exact t_X9_get_L48 h hs x0 x1 x2 (1 : Int32) s1 hk0
  · refine T_bipush (pc := 7) h dX9_get_7 kb_m2 ?_
    refine T_callSl (pc := 9) h (M_X9_no (kl K) hs (-2 : Int32) s1 ) mst_X9_no ml_X9_330 rfl ⟨Nat.le_of_ble_eq_true rfl, Nat.le_of_ble_eq_true rfl⟩ ⟨Nat.le_refl 0, Nat.le_refl 0⟩ (Nat.le_of_ble_eq_true rfl) dX9_get_9 rfl (fun r8 s7 => ?_)
    exact T_lreturn (pc := 12) h (Nat.zero_le _) (Nat.zero_le _) dX9_get_12
theorem M_X9_get (l : Launch) {iv : Sg → Prop} (hi : iv = St) (x0 : Nat) (x1 : Int32) (x2 : Int32) (σ : Sg) (hk0 : kd x0 9) : CTl l yX9_get cX9_get 4 (some .long) rm_X9_get iv [.ref x0, .int x1, .int x2] σ (f_X9_get x0 x1 x2 σ) := by
  subst hi
  exact CT_of (by decide) (Nat.le_of_ble_eq_true rfl) (fun K _ h _ hs _ _ => t_X9_get h hs x0 x1 x2 σ hk0)
/-! LuteTabsModel.copy(IIIII)I -/
theorem dX9_copy_0 : decode cX9_copy 0 = .ok (.iload_n 1, 1) := by decide +kernel
theorem dX9_copy_1 : decode cX9_copy 1 = .ok (.invokestatic 148, 3) := by decide +kernel
theorem dX9_copy_4 : decode cX9_copy 4 = .ok (.ifCond .eq 10, 3) := by decide +kernel
theorem dX9_copy_7 : decode cX9_copy 7 = .ok (.iload_n 3, 1) := by decide +kernel
theorem dX9_copy_8 : decode cX9_copy 8 = .ok (.invokestatic 148, 3) := by decide +kernel
theorem dX9_copy_11 : decode cX9_copy 11 = .ok (.ifCond .ne 6, 3) := by decide +kernel
theorem dX9_copy_14 : decode cX9_copy 14 = .ok (.bipush (-2), 2) := by decide +kernel
theorem dX9_copy_16 : decode cX9_copy 16 = .ok (.ireturn, 1) := by decide +kernel
theorem dX9_copy_17 : decode cX9_copy 17 = .ok (.aload_n 0, 1) := by decide +kernel
theorem dX9_copy_18 : decode cX9_copy 18 = .ok (.getfield 96, 3) := by decide +kernel
theorem dX9_copy_21 : decode cX9_copy 21 = .ok (.iload_n 1, 1) := by decide +kernel
theorem dX9_copy_22 : decode cX9_copy 22 = .ok (.iaload, 1) := by decide +kernel
theorem dX9_copy_23 : decode cX9_copy 23 = .ok (.iconst (-1), 1) := by decide +kernel
theorem dX9_copy_24 : decode cX9_copy 24 = .ok (.if_icmp .eq 13, 3) := by decide +kernel
theorem dX9_copy_27 : decode cX9_copy 27 = .ok (.aload_n 0, 1) := by decide +kernel
theorem dX9_copy_28 : decode cX9_copy 28 = .ok (.getfield 96, 3) := by decide +kernel
theorem dX9_copy_31 : decode cX9_copy 31 = .ok (.iload_n 3, 1) := by decide +kernel
theorem dX9_copy_32 : decode cX9_copy 32 = .ok (.iaload, 1) := by decide +kernel
theorem dX9_copy_33 : decode cX9_copy 33 = .ok (.iconst (-1), 1) := by decide +kernel
theorem dX9_copy_34 : decode cX9_copy 34 = .ok (.if_icmp .ne 9, 3) := by decide +kernel
theorem dX9_copy_37 : decode cX9_copy 37 = .ok (.aload_n 0, 1) := by decide +kernel
theorem dX9_copy_38 : decode cX9_copy 38 = .ok (.iconst 1, 1) := by decide +kernel
theorem dX9_copy_39 : decode cX9_copy 39 = .ok (.invokevirtual 151, 3) := by decide +kernel
theorem dX9_copy_42 : decode cX9_copy 42 = .ok (.ireturn, 1) := by decide +kernel
theorem dX9_copy_43 : decode cX9_copy 43 = .ok (.aload_n 0, 1) := by decide +kernel
theorem dX9_copy_44 : decode cX9_copy 44 = .ok (.getfield 96, 3) := by decide +kernel
theorem dX9_copy_47 : decode cX9_copy 47 = .ok (.iload_n 1, 1) := by decide +kernel
theorem dX9_copy_48 : decode cX9_copy 48 = .ok (.iaload, 1) := by decide +kernel
theorem dX9_copy_49 : decode cX9_copy 49 = .ok (.aload_n 0, 1) := by decide +kernel
theorem dX9_copy_50 : decode cX9_copy 50 = .ok (.getfield 96, 3) := by decide +kernel
theorem dX9_copy_53 : decode cX9_copy 53 = .ok (.iload_n 3, 1) := by decide +kernel
theorem dX9_copy_54 : decode cX9_copy 54 = .ok (.iaload, 1) := by decide +kernel
theorem dX9_copy_55 : decode cX9_copy 55 = .ok (.if_icmp .eq 9, 3) := by decide +kernel
theorem dX9_copy_58 : decode cX9_copy 58 = .ok (.aload_n 0, 1) := by decide +kernel
theorem dX9_copy_59 : decode cX9_copy 59 = .ok (.iconst 4, 1) := by decide +kernel
theorem dX9_copy_60 : decode cX9_copy 60 = .ok (.invokevirtual 151, 3) := by decide +kernel
theorem dX9_copy_63 : decode cX9_copy 63 = .ok (.ireturn, 1) := by decide +kernel
theorem dX9_copy_64 : decode cX9_copy 64 = .ok (.iload_n 2, 1) := by decide +kernel
theorem dX9_copy_65 : decode cX9_copy 65 = .ok (.ifCond .lt 48, 3) := by decide +kernel
theorem dX9_copy_68 : decode cX9_copy 68 = .ok (.iload 4, 2) := by decide +kernel
theorem dX9_copy_70 : decode cX9_copy 70 = .ok (.ifCond .lt 43, 3) := by decide +kernel
theorem dX9_copy_73 : decode cX9_copy 73 = .ok (.iload 5, 2) := by decide +kernel
theorem dX9_copy_75 : decode cX9_copy 75 = .ok (.ifCond .lt 38, 3) := by decide +kernel
theorem dX9_copy_78 : decode cX9_copy 78 = .ok (.iload_n 2, 1) := by decide +kernel
theorem dX9_copy_79 : decode cX9_copy 79 = .ok (.i2l, 1) := by decide +kernel
theorem dX9_copy_80 : decode cX9_copy 80 = .ok (.iload 5, 2) := by decide +kernel
theorem dX9_copy_82 : decode cX9_copy 82 = .ok (.i2l, 1) := by decide +kernel
theorem dX9_copy_83 : decode cX9_copy 83 = .ok (.ladd, 1) := by decide +kernel
theorem dX9_copy_84 : decode cX9_copy 84 = .ok (.aload_n 0, 1) := by decide +kernel
theorem dX9_copy_85 : decode cX9_copy 85 = .ok (.getfield 99, 3) := by decide +kernel
theorem dX9_copy_88 : decode cX9_copy 88 = .ok (.iload_n 1, 1) := by decide +kernel
theorem dX9_copy_89 : decode cX9_copy 89 = .ok (.iaload, 1) := by decide +kernel
theorem dX9_copy_90 : decode cX9_copy 90 = .ok (.i2l, 1) := by decide +kernel
theorem dX9_copy_91 : decode cX9_copy 91 = .ok (.lcmp, 1) := by decide +kernel
theorem dX9_copy_92 : decode cX9_copy 92 = .ok (.ifCond .gt 21, 3) := by decide +kernel
theorem dX9_copy_95 : decode cX9_copy 95 = .ok (.iload 4, 2) := by decide +kernel
theorem dX9_copy_97 : decode cX9_copy 97 = .ok (.i2l, 1) := by decide +kernel
theorem dX9_copy_98 : decode cX9_copy 98 = .ok (.iload 5, 2) := by decide +kernel
theorem dX9_copy_100 : decode cX9_copy 100 = .ok (.i2l, 1) := by decide +kernel
theorem dX9_copy_101 : decode cX9_copy 101 = .ok (.ladd, 1) := by decide +kernel
theorem dX9_copy_102 : decode cX9_copy 102 = .ok (.aload_n 0, 1) := by decide +kernel
theorem dX9_copy_103 : decode cX9_copy 103 = .ok (.getfield 99, 3) := by decide +kernel
theorem dX9_copy_106 : decode cX9_copy 106 = .ok (.iload_n 3, 1) := by decide +kernel
theorem dX9_copy_107 : decode cX9_copy 107 = .ok (.iaload, 1) := by decide +kernel
theorem dX9_copy_108 : decode cX9_copy 108 = .ok (.i2l, 1) := by decide +kernel
theorem dX9_copy_109 : decode cX9_copy 109 = .ok (.lcmp, 1) := by decide +kernel
theorem dX9_copy_110 : decode cX9_copy 110 = .ok (.ifCond .le 9, 3) := by decide +kernel
theorem dX9_copy_113 : decode cX9_copy 113 = .ok (.aload_n 0, 1) := by decide +kernel
theorem dX9_copy_114 : decode cX9_copy 114 = .ok (.iconst 2, 1) := by decide +kernel
theorem dX9_copy_115 : decode cX9_copy 115 = .ok (.invokevirtual 151, 3) := by decide +kernel
theorem dX9_copy_118 : decode cX9_copy 118 = .ok (.ireturn, 1) := by decide +kernel
theorem dX9_copy_119 : decode cX9_copy 119 = .ok (.iconst 0, 1) := by decide +kernel
theorem dX9_copy_120 : decode cX9_copy 120 = .ok (.istore 6, 2) := by decide +kernel
theorem dX9_copy_122 : decode cX9_copy 122 = .ok (.iload 6, 2) := by decide +kernel
theorem dX9_copy_124 : decode cX9_copy 124 = .ok (.iload 5, 2) := by decide +kernel
theorem dX9_copy_126 : decode cX9_copy 126 = .ok (.if_icmp .ge 30, 3) := by decide +kernel
theorem dX9_copy_129 : decode cX9_copy 129 = .ok (.aload_n 0, 1) := by decide +kernel
theorem dX9_copy_130 : decode cX9_copy 130 = .ok (.getfield 106, 3) := by decide +kernel
theorem dX9_copy_133 : decode cX9_copy 133 = .ok (.iload 6, 2) := by decide +kernel
theorem dX9_copy_135 : decode cX9_copy 135 = .ok (.aload_n 0, 1) := by decide +kernel
theorem dX9_copy_136 : decode cX9_copy 136 = .ok (.getfield 102, 3) := by decide +kernel
theorem dX9_copy_139 : decode cX9_copy 139 = .ok (.bipush 48, 2) := by decide +kernel
theorem dX9_copy_141 : decode cX9_copy 141 = .ok (.iload_n 1, 1) := by decide +kernel
theorem dX9_copy_142 : decode cX9_copy 142 = .ok (.imul, 1) := by decide +kernel
theorem dX9_copy_143 : decode cX9_copy 143 = .ok (.iload_n 2, 1) := by decide +kernel
theorem dX9_copy_144 : decode cX9_copy 144 = .ok (.iadd, 1) := by decide +kernel
theorem dX9_copy_145 : decode cX9_copy 145 = .ok (.iload 6, 2) := by decide +kernel
theorem dX9_copy_147 : decode cX9_copy 147 = .ok (.iadd, 1) := by decide +kernel
theorem dX9_copy_148 : decode cX9_copy 148 = .ok (.laload, 1) := by decide +kernel
theorem dX9_copy_149 : decode cX9_copy 149 = .ok (.lastore, 1) := by decide +kernel
theorem dX9_copy_150 : decode cX9_copy 150 = .ok (.iinc 6 1, 3) := by decide +kernel
theorem dX9_copy_153 : decode cX9_copy 153 = .ok (.goto (-31), 3) := by decide +kernel
theorem dX9_copy_156 : decode cX9_copy 156 = .ok (.iconst 0, 1) := by decide +kernel
theorem dX9_copy_157 : decode cX9_copy 157 = .ok (.istore 6, 2) := by decide +kernel
theorem dX9_copy_159 : decode cX9_copy 159 = .ok (.iload 6, 2) := by decide +kernel
theorem dX9_copy_161 : decode cX9_copy 161 = .ok (.iload 5, 2) := by decide +kernel
theorem dX9_copy_163 : decode cX9_copy 163 = .ok (.if_icmp .ge 31, 3) := by decide +kernel
theorem dX9_copy_166 : decode cX9_copy 166 = .ok (.aload_n 0, 1) := by decide +kernel
theorem dX9_copy_167 : decode cX9_copy 167 = .ok (.getfield 102, 3) := by decide +kernel
theorem dX9_copy_170 : decode cX9_copy 170 = .ok (.bipush 48, 2) := by decide +kernel
theorem dX9_copy_172 : decode cX9_copy 172 = .ok (.iload_n 3, 1) := by decide +kernel
theorem dX9_copy_173 : decode cX9_copy 173 = .ok (.imul, 1) := by decide +kernel
theorem dX9_copy_174 : decode cX9_copy 174 = .ok (.iload 4, 2) := by decide +kernel
theorem dX9_copy_176 : decode cX9_copy 176 = .ok (.iadd, 1) := by decide +kernel
theorem dX9_copy_177 : decode cX9_copy 177 = .ok (.iload 6, 2) := by decide +kernel
theorem dX9_copy_179 : decode cX9_copy 179 = .ok (.iadd, 1) := by decide +kernel
theorem dX9_copy_180 : decode cX9_copy 180 = .ok (.aload_n 0, 1) := by decide +kernel
theorem dX9_copy_181 : decode cX9_copy 181 = .ok (.getfield 106, 3) := by decide +kernel
theorem dX9_copy_184 : decode cX9_copy 184 = .ok (.iload 6, 2) := by decide +kernel
theorem dX9_copy_186 : decode cX9_copy 186 = .ok (.laload, 1) := by decide +kernel
theorem dX9_copy_187 : decode cX9_copy 187 = .ok (.lastore, 1) := by decide +kernel
theorem dX9_copy_188 : decode cX9_copy 188 = .ok (.iinc 6 1, 3) := by decide +kernel
theorem dX9_copy_191 : decode cX9_copy 191 = .ok (.goto (-32), 3) := by decide +kernel
theorem dX9_copy_194 : decode cX9_copy 194 = .ok (.iconst 1, 1) := by decide +kernel
theorem dX9_copy_195 : decode cX9_copy 195 = .ok (.ireturn, 1) := by decide +kernel
abbrev rm_X9_copy : Room := { frames := 2, cells := 0, slots := 0, locals := 42 }
def f_X9_copy_L14    (σ : Sg) : Option (Int32 × Sg) := some ((-2 : Int32), σ)
def f_X9_copy_L37  (x0 : Nat)  (σ : Sg) : Option (Int32 × Sg) := bd (f_X9_meets x0 (1 : Int32) σ) fun r2 s1 => some (r2, s1)
def f_X9_copy_L113  (x0 : Nat)  (σ : Sg) : Option (Int32 × Sg) := bd (f_X9_meets x0 (2 : Int32) σ) fun r2 s1 => some (r2, s1)
def f_X9_copy_L159  (x0 : Nat) (x3 : Int32) (x4 : Int32) (x5 : Int32) (rec159 : Int32 × Sg → Option (Int32 × Sg)) (s : Int32 × Sg) : Option (Int32 × Sg) := (if x5 ≤ (s.1) then some ((1 : Int32), (s.2)) else ck (inb (s.1) (aL (gR (s.2) x0 47))) (ck (inb ((((48 : Int32) * x3) + x4) + (s.1)) (aL (gR (s.2) x0 46))) (lB (pL (s.2) (gR (s.2) x0 46) ((((48 : Int32) * x3) + x4) + (s.1)).toNatClampNeg (gL (s.2) (gR (s.2) x0 47) (s.1).toNatClampNeg)) fun s3 => lB ((s.1) + (1 : Int32)) fun v4 => rec159 (v4, s3))))
def f_X9_copy_L122  (x0 : Nat) (x1 : Int32) (x2 : Int32) (x3 : Int32) (x4 : Int32) (x5 : Int32) (rec122 : Int32 × Sg → Option (Int32 × Sg)) (s : Int32 × Sg) : Option (Int32 × Sg) := (if x5 ≤ (s.1) then fx (f_X9_copy_L159 x0 x3 x4 x5) FU ((0 : Int32), (s.2)) else ck (inb ((((48 : Int32) * x1) + x2) + (s.1)) (aL (gR (s.2) x0 46))) (ck (inb (s.1) (aL (gR (s.2) x0 47))) (lB (pL (s.2) (gR (s.2) x0 47) (s.1).toNatClampNeg (gL (s.2) (gR (s.2) x0 46) ((((48 : Int32) * x1) + x2) + (s.1)).toNatClampNeg)) fun s3 => lB ((s.1) + (1 : Int32)) fun v4 => rec122 (v4, s3))))
def f_X9_copy (x0 : Nat) (x1 : Int32) (x2 : Int32) (x3 : Int32) (x4 : Int32) (x5 : Int32) (σ : Sg) : Option (Int32 × Sg) := bd (f_X9_isSheet x1 σ) fun r2 s1 => (if r2 = 0 then f_X9_copy_L14 s1 else bd (f_X9_isSheet x3 s1) fun r4 s3 => (if r4 = 0 then f_X9_copy_L14 s3 else ck (inb x1 (aL (gR s3 x0 44))) ((if (gI s3 (gR s3 x0 44) x1.toNatClampNeg) = (-1 : Int32) then f_X9_copy_L37 x0 s3 else ck (inb x3 (aL (gR s3 x0 44))) ((if (gI s3 (gR s3 x0 44) x3.toNatClampNeg) = (-1 : Int32) then f_X9_copy_L37 x0 s3 else ck (inb x1 (aL (gR s3 x0 44))) (ck (inb x3 (aL (gR s3 x0 44))) ((if (gI s3 (gR s3 x0 44) x1.toNatClampNeg) = (gI s3 (gR s3 x0 44) x3.toNatClampNeg) then (if x2 < 0 then f_X9_copy_L113 x0 s3 else (if x4 < 0 then f_X9_copy_L113 x0 s3 else (if x5 < 0 then f_X9_copy_L113 x0 s3 else ck (inb x1 (aL (gR s3 x0 45))) ((if 0 < (lg_cmp (x2.toInt64 + x5.toInt64) ((gI s3 (gR s3 x0 45) x1.toNatClampNeg).toInt64)) then f_X9_copy_L113 x0 s3 else ck (inb x3 (aL (gR s3 x0 45))) ((if (lg_cmp (x4.toInt64 + x5.toInt64) ((gI s3 (gR s3 x0 45) x3.toNatClampNeg).toInt64)) ≤ 0 then fx (f_X9_copy_L122 x0 x1 x2 x3 x4 x5) FU ((0 : Int32), s3) else f_X9_copy_L113 x0 s3))))))) else bd (f_X9_meets x0 (4 : Int32) s3) fun r12 s11 => some (r12, s11))))))))))
theorem t_X9_copy_L14 {K : Cx} (h : Ok K cX9_copy RX9 7 rm_X9_copy (some .int)) (hs : kiv K = St)   (σ : Sg)    : T K (QI K) 14 [] [] 0 0 σ (f_X9_copy_L14 σ) := by
  unfold f_X9_copy_L14
  refine T_bipush (pc := 14) h dX9_copy_14 kb_m2 ?_
  exact T_ireturn (pc := 16) h (Nat.zero_le _) (Nat.zero_le _) dX9_copy_16
theorem t_X9_copy_L37 {K : Cx} (h : Ok K cX9_copy RX9 7 rm_X9_copy (some .int)) (hs : kiv K = St) (x0 : Nat)  (σ : Sg)  (hk0 : kd x0 9)  : T K (QI K) 37 [(0, .ref x0)] [] 0 0 σ (f_X9_copy_L37 x0 σ) := by
  unfold f_X9_copy_L37
  refine T_aload_n (pc := 37) h dX9_copy_37 rfl 0 rfl ?_
  refine T_iconst (pc := 38) h dX9_copy_38 ki_1 ?_
  refine T_callVi (pc := 39) h (M_X9_meets (kl K) hs x0 (1 : Int32) σ hk0) mv_X9_meets hs hk0 ml_X9_151 rfl ⟨Nat.le_of_ble_eq_true rfl, Nat.le_of_ble_eq_true rfl⟩ ⟨Nat.le_refl 0, Nat.le_refl 0⟩ (Nat.le_of_ble_eq_true rfl) dX9_copy_39 rfl (fun r2 s1 => ?_)
  exact T_ireturn (pc := 42) h (Nat.zero_le _) (Nat.zero_le _) dX9_copy_42
theorem t_X9_copy_L113 {K : Cx} (h : Ok K cX9_copy RX9 7 rm_X9_copy (some .int)) (hs : kiv K = St) (x0 : Nat)  (σ : Sg)  (hk0 : kd x0 9)  : T K (QI K) 113 [(0, .ref x0)] [] 0 0 σ (f_X9_copy_L113 x0 σ) := by
  unfold f_X9_copy_L113
  refine T_aload_n (pc := 113) h dX9_copy_113 rfl 0 rfl ?_
  refine T_iconst (pc := 114) h dX9_copy_114 ki_2 ?_
  refine T_callVi (pc := 115) h (M_X9_meets (kl K) hs x0 (2 : Int32) σ hk0) mv_X9_meets hs hk0 ml_X9_151 rfl ⟨Nat.le_of_ble_eq_true rfl, Nat.le_of_ble_eq_true rfl⟩ ⟨Nat.le_refl 0, Nat.le_refl 0⟩ (Nat.le_of_ble_eq_true rfl) dX9_copy_115 rfl (fun r2 s1 => ?_)
  exact T_ireturn (pc := 118) h (Nat.zero_le _) (Nat.zero_le _) dX9_copy_118
theorem t_X9_copy_L159 {K : Cx} (h : Ok K cX9_copy RX9 7 rm_X9_copy (some .int)) (hs : kiv K = St) (x0 : Nat) (x3 : Int32) (x4 : Int32) (x5 : Int32)  (hk0 : kd x0 9) (rec159 : Int32 × Sg → Option (Int32 × Sg)) (hr159 : ∀ u, T K (QI K) 159 [(0, .ref x0), (3, .int x3), (4, .int x4), (5, .int x5), (6, .int (u.1))] [] 0 0 (u.2) (rec159 u)) (s : Int32 × Sg) : T K (QI K) 159 [(0, .ref x0), (3, .int x3), (4, .int x4), (5, .int x5), (6, .int (s.1))] [] 0 0 (s.2) (f_X9_copy_L159 x0 x3 x4 x5 rec159 s) := by
  unfold f_X9_copy_L159
  refine T_iload (pc := 159) h dX9_copy_159 4 rfl ?_
  refine T_iload (pc := 161) h dX9_copy_161 3 rfl ?_
  refine T_icmp_ge (pc := 163) (tgt := 194) h dX9_copy_163 (by decide) ?_ ?_
  · refine T_iconst (pc := 194) h dX9_copy_194 ki_1 ?_
    exact T_ireturn (pc := 195) h (Nat.zero_le _) (Nat.zero_le _) dX9_copy_195
  · refine T_aload_n (pc := 166) h dX9_copy_166 rfl 0 rfl ?_
    refine T_gR (pc := 167) h hs hk0 fl_X9_102 rfl fk_9_46 dX9_copy_167 (fun hq1 => ?_)
    refine T_bipush (pc := 170) h dX9_copy_170 kb_48 ?_
    refine T_iload_n (pc := 172) h dX9_copy_172 rfl 1 rfl ?_
    refine T_imul (pc := 173) h dX9_copy_173 ?_
    refine T_iload (pc := 174) h dX9_copy_174 2 rfl ?_
    refine T_iadd (pc := 176) h dX9_copy_176 ?_
    refine T_iload (pc := 177) h dX9_copy_177 4 rfl ?_
    refine T_iadd (pc := 179) h dX9_copy_179 ?_
    refine T_aload_n (pc := 180) h dX9_copy_180 rfl 0 rfl ?_
    refine T_gR (pc := 181) h hs hk0 fl_X9_106 rfl fk_9_47 dX9_copy_181 (fun hq2 => ?_)
    refine T_iload (pc := 184) h dX9_copy_184 4 rfl ?_
    refine T_lald (pc := 186) h hs hq2 dX9_copy_186 ?_
    refine T_last (pc := 187) h hs hq1 dX9_copy_187 ?_
    refine T_letS fun s3 => ?_
    refine T_iinc (fl := fun v4 => [(6, .int v4), (0, .ref x0), (3, .int x3), (4, .int x4), (5, .int x5)]) (pc := 188) h dX9_copy_188 4 rfl ki_1 (by decide) (fun _ => rfl) (fun v4 => ?_)
    refine T_goto (pc := 191) (tgt := 159) h dX9_copy_191 (by decide) ?_
    refine T_sub [1, 2, 3, 4, 0] rfl ?_
    exact hr159 (v4, s3)
theorem t_X9_copy_L122 {K : Cx} (h : Ok K cX9_copy RX9 7 rm_X9_copy (some .int)) (hs : kiv K = St) (x0 : Nat) (x1 : Int32) (x2 : Int32) (x3 : Int32) (x4 : Int32) (x5 : Int32)  (hk0 : kd x0 9) (rec122 : Int32 × Sg → Option (Int32 × Sg)) (hr122 : ∀ u, T K (QI K) 122 [(0, .ref x0), (1, .int x1), (2, .int x2), (3, .int x3), (4, .int x4), (5, .int x5), (6, .int (u.1))] [] 0 0 (u.2) (rec122 u)) (s : Int32 × Sg) : T K (QI K) 122 [(0, .ref x0), (1, .int x1), (2, .int x2), (3, .int x3), (4, .int x4), (5, .int x5), (6, .int (s.1))] [] 0 0 (s.2) (f_X9_copy_L122 x0 x1 x2 x3 x4 x5 rec122 s) := by
  unfold f_X9_copy_L122
  refine T_iload (pc := 122) h dX9_copy_122 6 rfl ?_
  refine T_iload (pc := 124) h dX9_copy_124 5 rfl ?_
  refine T_icmp_ge (pc := 126) (tgt := 156) h dX9_copy_126 (by decide) ?_ ?_
  · refine T_iconst (pc := 156) h dX9_copy_156 ki_0 ?_
    refine T_istore (lv' := [(6, .int (0 : Int32)), (0, .ref x0), (1, .int x1), (2, .int x2), (3, .int x3), (4, .int x4), (5, .int x5)]) (pc := 157) h dX9_copy_157 (by decide) rfl ?_
    refine T_sub [1, 4, 5, 6, 0] rfl ?_
    exact T_fx (B := f_X9_copy_L159 x0 x3 x4 x5) (fl := fun u => [(0, .ref x0), (3, .int x3), (4, .int x4), (5, .int x5), (6, .int (u.1))]) (f := fun u => (u.2)) (fun rec159 hr159 u => t_X9_copy_L159 h hs x0 x3 x4 x5 hk0 rec159 hr159 u) FU ((0 : Int32), (s.2))
  · refine T_aload_n (pc := 129) h dX9_copy_129 rfl 0 rfl ?_
    refine T_gR (pc := 130) h hs hk0 fl_X9_106 rfl fk_9_47 dX9_copy_130 (fun hq1 => ?_)
    refine T_iload (pc := 133) h dX9_copy_133 6 rfl ?_
    refine T_aload_n (pc := 135) h dX9_copy_135 rfl 0 rfl ?_
    refine T_gR (pc := 136) h hs hk0 fl_X9_102 rfl fk_9_46 dX9_copy_136 (fun hq2 => ?_)
    refine T_bipush (pc := 139) h dX9_copy_139 kb_48 ?_
    refine T_iload_n (pc := 141) h dX9_copy_141 rfl 1 rfl ?_
    refine T_imul (pc := 142) h dX9_copy_142 ?_
    refine T_iload_n (pc := 143) h dX9_copy_143 rfl 2 rfl ?_
    refine T_iadd (pc := 144) h dX9_copy_144 ?_
    refine T_iload (pc := 145) h dX9_copy_145 6 rfl ?_
    refine T_iadd (pc := 147) h dX9_copy_147 ?_
    refine T_lald (pc := 148) h hs hq2 dX9_copy_148 ?_
    refine T_last (pc := 149) h hs hq1 dX9_copy_149 ?_
    refine T_letS fun s3 => ?_
    refine T_iinc (fl := fun v4 => [(6, .int v4), (0, .ref x0), (1, .int x1), (2, .int x2), (3, .int x3), (4, .int x4), (5, .int x5)]) (pc := 150) h dX9_copy_150 6 rfl ki_1 (by decide) (fun _ => rfl) (fun v4 => ?_)
    refine T_goto (pc := 153) (tgt := 122) h dX9_copy_153 (by decide) ?_
    refine T_sub [1, 2, 3, 4, 5, 6, 0] rfl ?_
    exact hr122 (v4, s3)
theorem t_X9_copy {K : Cx} (h : Ok K cX9_copy RX9 7 rm_X9_copy (some .int)) (hs : kiv K = St) (x0 : Nat) (x1 : Int32) (x2 : Int32) (x3 : Int32) (x4 : Int32) (x5 : Int32) (σ : Sg) (hk0 : kd x0 9) : T K (QI K) 0 [(0, .ref x0), (1, .int x1), (2, .int x2), (3, .int x3), (4, .int x4), (5, .int x5)] [] 0 0 σ (f_X9_copy x0 x1 x2 x3 x4 x5 σ) := by
  unfold f_X9_copy
  refine T_iload_n (pc := 0) h dX9_copy_0 rfl 1 rfl ?_
  refine T_callSi (pc := 1) h (M_X9_isSheet (kl K) hs x1 σ ) mst_X9_isSheet ml_X9_148 rfl ⟨Nat.le_of_ble_eq_true rfl, Nat.le_of_ble_eq_true rfl⟩ ⟨Nat.le_refl 0, Nat.le_refl 0⟩ (Nat.le_of_ble_eq_true rfl) dX9_copy_1 rfl (fun r2 s1 => ?_)
  refine T_if_eq (pc := 4) (tgt := 14) h dX9_copy_4 (by decide) ?_ ?_
  · refine T_sub [] rfl ?_
    exact t_X9_copy_L14 h hs s1
  · refine T_iload_n (pc := 7) h dX9_copy_7 rfl 3 rfl ?_
    refine T_callSi (pc := 8) h (M_X9_isSheet (kl K) hs x3 s1 ) mst_X9_isSheet ml_X9_148 rfl ⟨Nat.le_of_ble_eq_true rfl, Nat.le_of_ble_eq_true rfl⟩ ⟨Nat.le_refl 0, Nat.le_refl 0⟩ (Nat.le_of_ble_eq_true rfl) dX9_copy_8 rfl (fun r4 s3 => ?_)
    refine T_if_ne (pc := 11) (tgt := 17) h dX9_copy_11 (by decide) ?_ ?_
    · refine T_aload_n (pc := 17) h dX9_copy_17 rfl 0 rfl ?_
      refine T_gR (pc := 18) h hs hk0 fl_X9_96 rfl fk_9_44 dX9_copy_18 (fun hq5 => ?_)
      refine T_iload_n (pc := 21) h dX9_copy_21 rfl 1 rfl ?_
      refine T_iald (pc := 22) h hs hq5 dX9_copy_22 ?_
      refine T_iconst (pc := 23) h dX9_copy_23 ki_m1 ?_
      refine T_icmp_eq (pc := 24) (tgt := 37) h dX9_copy_24 (by decide) ?_ ?_
      · refine T_sub [0] rfl ?_
        exact t_X9_copy_L37 h hs x0 s3 hk0
      · refine T_aload_n (pc := 27) h dX9_copy_27 rfl 0 rfl ?_
        refine T_gR (pc := 28) h hs hk0 fl_X9_96 rfl fk_9_44 dX9_copy_28 (fun hq6 => ?_)
        refine T_iload_n (pc := 31) h dX9_copy_31 rfl 3 rfl ?_
        refine T_iald (pc := 32) h hs hq6 dX9_copy_32 ?_
        refine T_iconst (pc := 33) h dX9_copy_33 ki_m1 ?_
        refine T_icmp_ne (pc := 34) (tgt := 43) h dX9_copy_34 (by decide) ?_ ?_
        · refine T_aload_n (pc := 43) h dX9_copy_43 rfl 0 rfl ?_
          refine T_gR (pc := 44) h hs hk0 fl_X9_96 rfl fk_9_44 dX9_copy_44 (fun hq7 => ?_)
          refine T_iload_n (pc := 47) h dX9_copy_47 rfl 1 rfl ?_
          refine T_iald (pc := 48) h hs hq7 dX9_copy_48 ?_
          refine T_aload_n (pc := 49) h dX9_copy_49 rfl 0 rfl ?_
          refine T_gR (pc := 50) h hs hk0 fl_X9_96 rfl fk_9_44 dX9_copy_50 (fun hq8 => ?_)
          refine T_iload_n (pc := 53) h dX9_copy_53 rfl 3 rfl ?_
          refine T_iald (pc := 54) h hs hq8 dX9_copy_54 ?_
          refine T_icmp_eq (pc := 55) (tgt := 64) h dX9_copy_55 (by decide) ?_ ?_
          · refine T_iload_n (pc := 64) h dX9_copy_64 rfl 2 rfl ?_
            refine T_if_lt (pc := 65) (tgt := 113) h dX9_copy_65 (by decide) ?_ ?_
            · refine T_sub [0] rfl ?_
              exact t_X9_copy_L113 h hs x0 s3 hk0
            · refine T_iload (pc := 68) h dX9_copy_68 4 rfl ?_
              refine T_if_lt (pc := 70) (tgt := 113) h dX9_copy_70 (by decide) ?_ ?_
              · refine T_sub [0] rfl ?_
                exact t_X9_copy_L113 h hs x0 s3 hk0
              · refine T_iload (pc := 73) h dX9_copy_73 5 rfl ?_
                refine T_if_lt (pc := 75) (tgt := 113) h dX9_copy_75 (by decide) ?_ ?_
                · refine T_sub [0] rfl ?_
                  exact t_X9_copy_L113 h hs x0 s3 hk0
                · refine T_iload_n (pc := 78) h dX9_copy_78 rfl 2 rfl ?_
                  refine T_i2l (pc := 79) h dX9_copy_79 ?_
                  refine T_iload (pc := 80) h dX9_copy_80 5 rfl ?_
                  refine T_i2l (pc := 82) h dX9_copy_82 ?_
                  refine T_ladd (pc := 83) h dX9_copy_83 ?_
                  refine T_aload_n (pc := 84) h dX9_copy_84 rfl 0 rfl ?_
                  refine T_gR (pc := 85) h hs hk0 fl_X9_99 rfl fk_9_45 dX9_copy_85 (fun hq9 => ?_)
                  refine T_iload_n (pc := 88) h dX9_copy_88 rfl 1 rfl ?_
                  refine T_iald (pc := 89) h hs hq9 dX9_copy_89 ?_
                  refine T_i2l (pc := 90) h dX9_copy_90 ?_
                  refine T_lcmp (pc := 91) h dX9_copy_91 ?_
                  refine T_if_gt (pc := 92) (tgt := 113) h dX9_copy_92 (by decide) ?_ ?_
                  · refine T_sub [0] rfl ?_
                    exact t_X9_copy_L113 h hs x0 s3 hk0
                  · refine T_iload (pc := 95) h dX9_copy_95 4 rfl ?_
                    refine T_i2l (pc := 97) h dX9_copy_97 ?_
                    refine T_iload (pc := 98) h dX9_copy_98 5 rfl ?_
                    refine T_i2l (pc := 100) h dX9_copy_100 ?_
                    refine T_ladd (pc := 101) h dX9_copy_101 ?_
                    refine T_aload_n (pc := 102) h dX9_copy_102 rfl 0 rfl ?_
                    refine T_gR (pc := 103) h hs hk0 fl_X9_99 rfl fk_9_45 dX9_copy_103 (fun hq10 => ?_)
                    refine T_iload_n (pc := 106) h dX9_copy_106 rfl 3 rfl ?_
                    refine T_iald (pc := 107) h hs hq10 dX9_copy_107 ?_
                    refine T_i2l (pc := 108) h dX9_copy_108 ?_
                    refine T_lcmp (pc := 109) h dX9_copy_109 ?_
                    refine T_if_le (pc := 110) (tgt := 119) h dX9_copy_110 (by decide) ?_ ?_
                    · refine T_iconst (pc := 119) h dX9_copy_119 ki_0 ?_
                      refine T_istore (lv' := [(6, .int (0 : Int32)), (0, .ref x0), (1, .int x1), (2, .int x2), (3, .int x3), (4, .int x4), (5, .int x5)]) (pc := 120) h dX9_copy_120 (by decide) rfl ?_
                      refine T_sub [1, 2, 3, 4, 5, 6, 0] rfl ?_
                      exact T_fx (B := f_X9_copy_L122 x0 x1 x2 x3 x4 x5) (fl := fun u => [(0, .ref x0), (1, .int x1), (2, .int x2), (3, .int x3), (4, .int x4), (5, .int x5), (6, .int (u.1))]) (f := fun u => (u.2)) (fun rec122 hr122 u => t_X9_copy_L122 h hs x0 x1 x2 x3 x4 x5 hk0 rec122 hr122 u) FU ((0 : Int32), s3)
                    · refine T_sub [0] rfl ?_
                      exact t_X9_copy_L113 h hs x0 s3 hk0
          · refine T_aload_n (pc := 58) h dX9_copy_58 rfl 0 rfl ?_
            refine T_iconst (pc := 59) h dX9_copy_59 ki_4 ?_
            refine T_callVi (pc := 60) h (M_X9_meets (kl K) hs x0 (4 : Int32) s3 hk0) mv_X9_meets hs hk0 ml_X9_151 rfl ⟨Nat.le_of_ble_eq_true rfl, Nat.le_of_ble_eq_true rfl⟩ ⟨Nat.le_refl 0, Nat.le_refl 0⟩ (Nat.le_of_ble_eq_true rfl) dX9_copy_60 rfl (fun r12 s11 => ?_)
            exact T_ireturn (pc := 63) h (Nat.zero_le _) (Nat.zero_le _) dX9_copy_63
        · refine T_sub [0] rfl ?_
          exact t_X9_copy_L37 h hs x0 s3 hk0
    · refine T_sub [] rfl ?_
      exact t_X9_copy_L14 h hs s3
theorem M_X9_copy (l : Launch) {iv : Sg → Prop} (hi : iv = St) (x0 : Nat) (x1 : Int32) (x2 : Int32) (x3 : Int32) (x4 : Int32) (x5 : Int32) (σ : Sg) (hk0 : kd x0 9) : CTi l yX9_copy cX9_copy 7 (some .int) rm_X9_copy iv [.ref x0, .int x1, .int x2, .int x3, .int x4, .int x5] σ (f_X9_copy x0 x1 x2 x3 x4 x5 σ) := by
  subst hi
  exact CT_of (by decide) (Nat.le_of_ble_eq_true rfl) (fun K _ h _ hs _ _ => t_X9_copy h hs x0 x1 x2 x3 x4 x5 σ hk0)
/-! LuteTabsModel.write(I)I -/
theorem dX9_write_0 : decode cX9_write 0 = .ok (.iload_n 1, 1) := by decide +kernel
theorem dX9_write_1 : decode cX9_write 1 = .ok (.invokestatic 148, 3) := by decide +kernel
theorem dX9_write_4 : decode cX9_write 4 = .ok (.ifCond .ne 6, 3) := by decide +kernel
theorem dX9_write_7 : decode cX9_write 7 = .ok (.bipush (-2), 2) := by decide +kernel
theorem dX9_write_9 : decode cX9_write 9 = .ok (.ireturn, 1) := by decide +kernel
theorem dX9_write_10 : decode cX9_write 10 = .ok (.aload_n 0, 1) := by decide +kernel
theorem dX9_write_11 : decode cX9_write 11 = .ok (.getfield 96, 3) := by decide +kernel
theorem dX9_write_14 : decode cX9_write 14 = .ok (.iload_n 1, 1) := by decide +kernel
theorem dX9_write_15 : decode cX9_write 15 = .ok (.iaload, 1) := by decide +kernel
theorem dX9_write_16 : decode cX9_write 16 = .ok (.iconst (-1), 1) := by decide +kernel
theorem dX9_write_17 : decode cX9_write 17 = .ok (.if_icmp .ne 9, 3) := by decide +kernel
theorem dX9_write_20 : decode cX9_write 20 = .ok (.aload_n 0, 1) := by decide +kernel
theorem dX9_write_21 : decode cX9_write 21 = .ok (.iconst 1, 1) := by decide +kernel
theorem dX9_write_22 : decode cX9_write 22 = .ok (.invokevirtual 151, 3) := by decide +kernel
theorem dX9_write_25 : decode cX9_write 25 = .ok (.ireturn, 1) := by decide +kernel
theorem dX9_write_26 : decode cX9_write 26 = .ok (.aload_n 0, 1) := by decide +kernel
theorem dX9_write_27 : decode cX9_write 27 = .ok (.getfield 111, 3) := by decide +kernel
theorem dX9_write_30 : decode cX9_write 30 = .ok (.ifCond .ne 6, 3) := by decide +kernel
theorem dX9_write_33 : decode cX9_write 33 = .ok (.bipush (-3), 2) := by decide +kernel
theorem dX9_write_35 : decode cX9_write 35 = .ok (.ireturn, 1) := by decide +kernel
theorem dX9_write_36 : decode cX9_write 36 = .ok (.aload_n 0, 1) := by decide +kernel
theorem dX9_write_37 : decode cX9_write 37 = .ok (.invokevirtual 243, 3) := by decide +kernel
theorem dX9_write_40 : decode cX9_write 40 = .ok (.iconst 0, 1) := by decide +kernel
theorem dX9_write_41 : decode cX9_write 41 = .ok (.istore_n 2, 1) := by decide +kernel
theorem dX9_write_42 : decode cX9_write 42 = .ok (.iload_n 2, 1) := by decide +kernel
theorem dX9_write_43 : decode cX9_write 43 = .ok (.aload_n 0, 1) := by decide +kernel
theorem dX9_write_44 : decode cX9_write 44 = .ok (.getfield 99, 3) := by decide +kernel
theorem dX9_write_47 : decode cX9_write 47 = .ok (.iload_n 1, 1) := by decide +kernel
theorem dX9_write_48 : decode cX9_write 48 = .ok (.iaload, 1) := by decide +kernel
theorem dX9_write_49 : decode cX9_write 49 = .ok (.if_icmp .ge 53, 3) := by decide +kernel
theorem dX9_write_52 : decode cX9_write 52 = .ok (.iload_n 2, 1) := by decide +kernel
theorem dX9_write_53 : decode cX9_write 53 = .ok (.aload_n 0, 1) := by decide +kernel
theorem dX9_write_54 : decode cX9_write 54 = .ok (.getfield 130, 3) := by decide +kernel
theorem dX9_write_57 : decode cX9_write 57 = .ok (.if_icmp .ge 45, 3) := by decide +kernel
theorem dX9_write_60 : decode cX9_write 60 = .ok (.aload_n 0, 1) := by decide +kernel
theorem dX9_write_61 : decode cX9_write 61 = .ok (.getfield 102, 3) := by decide +kernel
theorem dX9_write_64 : decode cX9_write 64 = .ok (.bipush 48, 2) := by decide +kernel
theorem dX9_write_66 : decode cX9_write 66 = .ok (.iload_n 1, 1) := by decide +kernel
theorem dX9_write_67 : decode cX9_write 67 = .ok (.imul, 1) := by decide +kernel
theorem dX9_write_68 : decode cX9_write 68 = .ok (.iload_n 2, 1) := by decide +kernel
theorem dX9_write_69 : decode cX9_write 69 = .ok (.iadd, 1) := by decide +kernel
theorem dX9_write_70 : decode cX9_write 70 = .ok (.aload_n 0, 1) := by decide +kernel
theorem dX9_write_71 : decode cX9_write 71 = .ok (.getfield 96, 3) := by decide +kernel
theorem dX9_write_74 : decode cX9_write 74 = .ok (.iload_n 1, 1) := by decide +kernel
theorem dX9_write_75 : decode cX9_write 75 = .ok (.iaload, 1) := by decide +kernel
theorem dX9_write_76 : decode cX9_write 76 = .ok (.ifCond .ne 13, 3) := by decide +kernel
theorem dX9_write_79 : decode cX9_write 79 = .ok (.aload_n 0, 1) := by decide +kernel
theorem dX9_write_80 : decode cX9_write 80 = .ok (.iload_n 2, 1) := by decide +kernel
theorem dX9_write_81 : decode cX9_write 81 = .ok (.invokevirtual 175, 3) := by decide +kernel
theorem dX9_write_84 : decode cX9_write 84 = .ok (.i2b, 1) := by decide +kernel
theorem dX9_write_85 : decode cX9_write 85 = .ok (.i2l, 1) := by decide +kernel
theorem dX9_write_86 : decode cX9_write 86 = .ok (.goto 9, 3) := by decide +kernel
theorem dX9_write_89 : decode cX9_write 89 = .ok (.aload_n 0, 1) := by decide +kernel
theorem dX9_write_90 : decode cX9_write 90 = .ok (.iload_n 2, 1) := by decide +kernel
theorem dX9_write_91 : decode cX9_write 91 = .ok (.invokevirtual 175, 3) := by decide +kernel
theorem dX9_write_94 : decode cX9_write 94 = .ok (.i2l, 1) := by decide +kernel
theorem dX9_write_95 : decode cX9_write 95 = .ok (.lastore, 1) := by decide +kernel
theorem dX9_write_96 : decode cX9_write 96 = .ok (.iinc 2 1, 3) := by decide +kernel
theorem dX9_write_99 : decode cX9_write 99 = .ok (.goto (-57), 3) := by decide +kernel
theorem dX9_write_102 : decode cX9_write 102 = .ok (.iload_n 2, 1) := by decide +kernel
theorem dX9_write_103 : decode cX9_write 103 = .ok (.ireturn, 1) := by decide +kernel
abbrev rm_X9_write : Room := { frames := 2, cells := 0, slots := 0, locals := 42 }
def f_X9_write_L95 (rec42 : Int32 × Sg → Option (Int32 × Sg)) (x0 : Nat) (x1 : Int32) (x2 : Int32) (y0 : Nat) (y1 : Int32) (y2 : Int64) (σ : Sg) : Option (Int32 × Sg) := ck (inb y1 (aL y0)) (lB (pL σ y0 y1.toNatClampNeg y2) fun s1 => lB (x2 + (1 : Int32)) fun v2 => rec42 (v2, s1))
def f_X9_write_L102  (x2 : Int32)  (σ : Sg) : Option (Int32 × Sg) := some (x2, σ)
def f_X9_write_L42  (x0 : Nat) (x1 : Int32) (rec42 : Int32 × Sg → Option (Int32 × Sg)) (s : Int32 × Sg) : Option (Int32 × Sg) := ck (inb x1 (aL (gR (s.2) x0 45))) ((if (gI (s.2) (gR (s.2) x0 45) x1.toNatClampNeg) ≤ (s.1) then f_X9_write_L102 (s.1) (s.2) else (if (gI (s.2) x0 10) ≤ (s.1) then f_X9_write_L102 (s.1) (s.2) else ck (inb x1 (aL (gR (s.2) x0 44))) ((if (gI (s.2) (gR (s.2) x0 44) x1.toNatClampNeg) = 0 then bd (f_X9_fretOf x0 (s.1) (s.2)) fun r7 s6 => f_X9_write_L95 rec42 x0 x1 (s.1) (gR (s.2) x0 46) (((48 : Int32) * x1) + (s.1)) ((r7.toInt8.toInt32).toInt64) s6 else bd (f_X9_fretOf x0 (s.1) (s.2)) fun r5 s4 => f_X9_write_L95 rec42 x0 x1 (s.1) (gR (s.2) x0 46) (((48 : Int32) * x1) + (s.1)) (r5.toInt64) s4)))))
def f_X9_write (x0 : Nat) (x1 : Int32) (σ : Sg) : Option (Int32 × Sg) := bd (f_X9_isSheet x1 σ) fun r2 s1 => (if r2 = 0 then some ((-2 : Int32), s1) else ck (inb x1 (aL (gR s1 x0 44))) ((if (gI s1 (gR s1 x0 44) x1.toNatClampNeg) = (-1 : Int32) then bd (f_X9_meets x0 (1 : Int32) s1) fun r6 s5 => some (r6, s5) else (if (gI s1 x0 12) = 0 then some ((-3 : Int32), s1) else bd (f_X9_laysAll x0 s1) fun _ s4 => fx (f_X9_write_L42 x0 x1) FU ((0 : Int32), s4)))))
theorem t_X9_write_L95 {K : Cx} (h : Ok K cX9_write RX9 3 rm_X9_write (some .int)) (hs : kiv K = St) (x0 : Nat) (x1 : Int32) (x2 : Int32) (y0 : Nat) (y1 : Int32) (y2 : Int64) (σ : Sg) (rec42 : Int32 × Sg → Option (Int32 × Sg)) (hr42 : ∀ u, T K (QI K) 42 [(0, .ref x0), (1, .int x1), (2, .int (u.1))] [] 0 0 (u.2) (rec42 u)) (hk0 : kd x0 9) (hy0 : kd y0 11) : T K (QI K) 95 [(0, .ref x0), (1, .int x1), (2, .int x2)] [.long y2, .int y1, .ref y0] 0 0 σ (f_X9_write_L95 rec42 x0 x1 x2 y0 y1 y2 σ) := by
  unfold f_X9_write_L95
  refine T_last (pc := 95) h hs hy0 dX9_write_95 ?_
  refine T_letS fun s1 => ?_
  refine T_iinc (fl := fun v2 => [(2, .int v2), (0, .ref x0), (1, .int x1)]) (pc := 96) h dX9_write_96 2 rfl ki_1 (by decide) (fun _ => rfl) (fun v2 => ?_)
  refine T_goto (pc := 99) (tgt := 42) h dX9_write_99 (by decide) ?_
  refine T_sub [1, 2, 0] rfl ?_
  exact hr42 (v2, s1)
theorem t_X9_write_L102 {K : Cx} (h : Ok K cX9_write RX9 3 rm_X9_write (some .int)) (hs : kiv K = St) (x2 : Int32)  (σ : Sg)    : T K (QI K) 102 [(2, .int x2)] [] 0 0 σ (f_X9_write_L102 x2 σ) := by
  unfold f_X9_write_L102
  refine T_iload_n (pc := 102) h dX9_write_102 rfl 0 rfl ?_
  exact T_ireturn (pc := 103) h (Nat.zero_le _) (Nat.zero_le _) dX9_write_103
theorem t_X9_write_L42 {K : Cx} (h : Ok K cX9_write RX9 3 rm_X9_write (some .int)) (hs : kiv K = St) (x0 : Nat) (x1 : Int32)  (hk0 : kd x0 9) (rec42 : Int32 × Sg → Option (Int32 × Sg)) (hr42 : ∀ u, T K (QI K) 42 [(0, .ref x0), (1, .int x1), (2, .int (u.1))] [] 0 0 (u.2) (rec42 u)) (s : Int32 × Sg) : T K (QI K) 42 [(0, .ref x0), (1, .int x1), (2, .int (s.1))] [] 0 0 (s.2) (f_X9_write_L42 x0 x1 rec42 s) := by
  unfold f_X9_write_L42
  refine T_iload_n (pc := 42) h dX9_write_42 rfl 2 rfl ?_
  refine T_aload_n (pc := 43) h dX9_write_43 rfl 0 rfl ?_
  refine T_gR (pc := 44) h hs hk0 fl_X9_99 rfl fk_9_45 dX9_write_44 (fun hq1 => ?_)
  refine T_iload_n (pc := 47) h dX9_write_47 rfl 1 rfl ?_
  refine T_iald (pc := 48) h hs hq1 dX9_write_48 ?_
  refine T_icmp_ge (pc := 49) (tgt := 102) h dX9_write_49 (by decide) ?_ ?_
  · refine T_sub [2] rfl ?_
    exact t_X9_write_L102 h hs (s.1) (s.2)
  · refine T_iload_n (pc := 52) h dX9_write_52 rfl 2 rfl ?_
    refine T_aload_n (pc := 53) h dX9_write_53 rfl 0 rfl ?_
    refine T_getI (pc := 54) h hs hk0 fl_X9_130 rfl dX9_write_54 ?_
    refine T_icmp_ge (pc := 57) (tgt := 102) h dX9_write_57 (by decide) ?_ ?_
    · refine T_sub [2] rfl ?_
      exact t_X9_write_L102 h hs (s.1) (s.2)
    · refine T_aload_n (pc := 60) h dX9_write_60 rfl 0 rfl ?_
      refine T_gR (pc := 61) h hs hk0 fl_X9_102 rfl fk_9_46 dX9_write_61 (fun hq2 => ?_)
      refine T_bipush (pc := 64) h dX9_write_64 kb_48 ?_
      refine T_iload_n (pc := 66) h dX9_write_66 rfl 1 rfl ?_
      refine T_imul (pc := 67) h dX9_write_67 ?_
      refine T_iload_n (pc := 68) h dX9_write_68 rfl 2 rfl ?_
      refine T_iadd (pc := 69) h dX9_write_69 ?_
      refine T_aload_n (pc := 70) h dX9_write_70 rfl 0 rfl ?_
      refine T_gR (pc := 71) h hs hk0 fl_X9_96 rfl fk_9_44 dX9_write_71 (fun hq3 => ?_)
      refine T_iload_n (pc := 74) h dX9_write_74 rfl 1 rfl ?_
      refine T_iald (pc := 75) h hs hq3 dX9_write_75 ?_
      refine T_if_ne (pc := 76) (tgt := 89) h dX9_write_76 (by decide) ?_ ?_
      · refine T_aload_n (pc := 89) h dX9_write_89 rfl 0 rfl ?_
        refine T_iload_n (pc := 90) h dX9_write_90 rfl 2 rfl ?_
        refine T_callVi (pc := 91) h (M_X9_fretOf (kl K) hs x0 (s.1) (s.2) hk0) mv_X9_fretOf hs hk0 ml_X9_175 rfl ⟨Nat.le_of_ble_eq_true rfl, Nat.le_of_ble_eq_true rfl⟩ ⟨Nat.le_refl 0, Nat.le_refl 0⟩ (Nat.le_of_ble_eq_true rfl) dX9_write_91 rfl (fun r5 s4 => ?_)
        refine T_i2l (pc := 94) h dX9_write_94 ?_
        refine T_sub [0, 1, 2] rfl ?_
        exact t_X9_write_L95 h hs x0 x1 (s.1) (gR (s.2) x0 46) (((48 : Int32) * x1) + (s.1)) (r5.toInt64) s4 rec42 hr42 hk0 hq2
      · refine T_aload_n (pc := 79) h dX9_write_79 rfl 0 rfl ?_
        refine T_iload_n (pc := 80) h dX9_write_80 rfl 2 rfl ?_
        refine T_callVi (pc := 81) h (M_X9_fretOf (kl K) hs x0 (s.1) (s.2) hk0) mv_X9_fretOf hs hk0 ml_X9_175 rfl ⟨Nat.le_of_ble_eq_true rfl, Nat.le_of_ble_eq_true rfl⟩ ⟨Nat.le_refl 0, Nat.le_refl 0⟩ (Nat.le_of_ble_eq_true rfl) dX9_write_81 rfl (fun r7 s6 => ?_)
        refine T_i2b (pc := 84) h dX9_write_84 ?_
        refine T_i2l (pc := 85) h dX9_write_85 ?_
        refine T_goto (pc := 86) (tgt := 95) h dX9_write_86 (by decide) ?_
        refine T_sub [0, 1, 2] rfl ?_
        exact t_X9_write_L95 h hs x0 x1 (s.1) (gR (s.2) x0 46) (((48 : Int32) * x1) + (s.1)) ((r7.toInt8.toInt32).toInt64) s6 rec42 hr42 hk0 hq2
theorem t_X9_write {K : Cx} (h : Ok K cX9_write RX9 3 rm_X9_write (some .int)) (hs : kiv K = St) (x0 : Nat) (x1 : Int32) (σ : Sg) (hk0 : kd x0 9) : T K (QI K) 0 [(0, .ref x0), (1, .int x1)] [] 0 0 σ (f_X9_write x0 x1 σ) := by
  unfold f_X9_write
  refine T_iload_n (pc := 0) h dX9_write_0 rfl 1 rfl ?_
  refine T_callSi (pc := 1) h (M_X9_isSheet (kl K) hs x1 σ ) mst_X9_isSheet ml_X9_148 rfl ⟨Nat.le_of_ble_eq_true rfl, Nat.le_of_ble_eq_true rfl⟩ ⟨Nat.le_refl 0, Nat.le_refl 0⟩ (Nat.le_of_ble_eq_true rfl) dX9_write_1 rfl (fun r2 s1 => ?_)
  refine T_if_ne (pc := 4) (tgt := 10) h dX9_write_4 (by decide) ?_ ?_
  · refine T_aload_n (pc := 10) h dX9_write_10 rfl 0 rfl ?_
    refine T_gR (pc := 11) h hs hk0 fl_X9_96 rfl fk_9_44 dX9_write_11 (fun hq3 => ?_)
    refine T_iload_n (pc := 14) h dX9_write_14 rfl 1 rfl ?_
    refine T_iald (pc := 15) h hs hq3 dX9_write_15 ?_
    refine T_iconst (pc := 16) h dX9_write_16 ki_m1 ?_
    refine T_icmp_ne (pc := 17) (tgt := 26) h dX9_write_17 (by decide) ?_ ?_
    · refine T_aload_n (pc := 26) h dX9_write_26 rfl 0 rfl ?_
      refine T_getI (pc := 27) h hs hk0 fl_X9_111 rfl dX9_write_27 ?_
      refine T_if_ne (pc := 30) (tgt := 36) h dX9_write_30 (by decide) ?_ ?_
      · refine T_aload_n (pc := 36) h dX9_write_36 rfl 0 rfl ?_
        refine T_callVv (pc := 37) h (M_X9_laysAll (kl K) hs x0 s1 hk0) mv_X9_laysAll hs hk0 ml_X9_243 rfl ⟨Nat.le_of_ble_eq_true rfl, Nat.le_of_ble_eq_true rfl⟩ ⟨Nat.le_refl 0, Nat.le_refl 0⟩ (Nat.le_of_ble_eq_true rfl) dX9_write_37 rfl (fun _ s4 => ?_)
        refine T_iconst (pc := 40) h dX9_write_40 ki_0 ?_
        refine T_istore_n (lv' := [(2, .int (0 : Int32)), (0, .ref x0), (1, .int x1)]) (pc := 41) h dX9_write_41 rfl (by decide) rfl ?_
        refine T_sub [1, 2, 0] rfl ?_
        exact T_fx (B := f_X9_write_L42 x0 x1) (fl := fun u => [(0, .ref x0), (1, .int x1), (2, .int (u.1))]) (f := fun u => (u.2)) (fun rec42 hr42 u => t_X9_write_L42 h hs x0 x1 hk0 rec42 hr42 u) FU ((0 : Int32), s4)
      · refine T_bipush (pc := 33) h dX9_write_33 kb_m3 ?_
        exact T_ireturn (pc := 35) h (Nat.zero_le _) (Nat.zero_le _) dX9_write_35
    · refine T_aload_n (pc := 20) h dX9_write_20 rfl 0 rfl ?_
      refine T_iconst (pc := 21) h dX9_write_21 ki_1 ?_
      refine T_callVi (pc := 22) h (M_X9_meets (kl K) hs x0 (1 : Int32) s1 hk0) mv_X9_meets hs hk0 ml_X9_151 rfl ⟨Nat.le_of_ble_eq_true rfl, Nat.le_of_ble_eq_true rfl⟩ ⟨Nat.le_refl 0, Nat.le_refl 0⟩ (Nat.le_of_ble_eq_true rfl) dX9_write_22 rfl (fun r6 s5 => ?_)
      exact T_ireturn (pc := 25) h (Nat.zero_le _) (Nat.zero_le _) dX9_write_25
  · refine T_bipush (pc := 7) h dX9_write_7 kb_m2 ?_
    exact T_ireturn (pc := 9) h (Nat.zero_le _) (Nat.zero_le _) dX9_write_9
theorem M_X9_write (l : Launch) {iv : Sg → Prop} (hi : iv = St) (x0 : Nat) (x1 : Int32) (σ : Sg) (hk0 : kd x0 9) : CTi l yX9_write cX9_write 3 (some .int) rm_X9_write iv [.ref x0, .int x1] σ (f_X9_write x0 x1 σ) := by
  subst hi
  exact CT_of (by decide) (Nat.le_of_ble_eq_true rfl) (fun K _ h _ hs _ _ => t_X9_write h hs x0 x1 σ hk0)
/-! LuteTabsModel.count(I)I -/
theorem dX9_count_0 : decode cX9_count 0 = .ok (.iload_n 1, 1) := by decide +kernel
theorem dX9_count_1 : decode cX9_count 1 = .ok (.tableswitch 128 0 8 #[51, 56, 65, 70, 84, 97, 113, 118, 123], 51) := by decide +kernel
theorem dX9_count_52 : decode cX9_count 52 = .ok (.aload_n 0, 1) := by decide +kernel
theorem dX9_count_53 : decode cX9_count 53 = .ok (.getfield 130, 3) := by decide +kernel
theorem dX9_count_56 : decode cX9_count 56 = .ok (.ireturn, 1) := by decide +kernel
theorem dX9_count_57 : decode cX9_count 57 = .ok (.aload_n 0, 1) := by decide +kernel
theorem dX9_count_58 : decode cX9_count 58 = .ok (.invokevirtual 160, 3) := by decide +kernel
theorem dX9_count_61 : decode cX9_count 61 = .ok (.aload_n 0, 1) := by decide +kernel
theorem dX9_count_62 : decode cX9_count 62 = .ok (.getfield 157, 3) := by decide +kernel
theorem dX9_count_65 : decode cX9_count 65 = .ok (.ireturn, 1) := by decide +kernel
theorem dX9_count_66 : decode cX9_count 66 = .ok (.aload_n 0, 1) := by decide +kernel
theorem dX9_count_67 : decode cX9_count 67 = .ok (.getfield 7, 3) := by decide +kernel
theorem dX9_count_70 : decode cX9_count 70 = .ok (.ireturn, 1) := by decide +kernel
theorem dX9_count_71 : decode cX9_count 71 = .ok (.aload_n 0, 1) := by decide +kernel
theorem dX9_count_72 : decode cX9_count 72 = .ok (.invokevirtual 237, 3) := by decide +kernel
theorem dX9_count_75 : decode cX9_count 75 = .ok (.iconst (-1), 1) := by decide +kernel
theorem dX9_count_76 : decode cX9_count 76 = .ok (.if_icmp .ne 7, 3) := by decide +kernel
theorem dX9_count_79 : decode cX9_count 79 = .ok (.iconst 0, 1) := by decide +kernel
theorem dX9_count_80 : decode cX9_count 80 = .ok (.goto 4, 3) := by decide +kernel
theorem dX9_count_83 : decode cX9_count 83 = .ok (.iconst 1, 1) := by decide +kernel
theorem dX9_count_84 : decode cX9_count 84 = .ok (.ireturn, 1) := by decide +kernel
theorem dX9_count_85 : decode cX9_count 85 = .ok (.aload_n 0, 1) := by decide +kernel
theorem dX9_count_86 : decode cX9_count 86 = .ok (.getfield 111, 3) := by decide +kernel
theorem dX9_count_89 : decode cX9_count 89 = .ok (.ifCond .eq 7, 3) := by decide +kernel
theorem dX9_count_92 : decode cX9_count 92 = .ok (.iconst 1, 1) := by decide +kernel
theorem dX9_count_93 : decode cX9_count 93 = .ok (.goto 4, 3) := by decide +kernel
theorem dX9_count_96 : decode cX9_count 96 = .ok (.iconst 0, 1) := by decide +kernel
theorem dX9_count_97 : decode cX9_count 97 = .ok (.ireturn, 1) := by decide +kernel
theorem dX9_count_98 : decode cX9_count 98 = .ok (.aload_n 0, 1) := by decide +kernel
theorem dX9_count_99 : decode cX9_count 99 = .ok (.getfield 111, 3) := by decide +kernel
theorem dX9_count_102 : decode cX9_count 102 = .ok (.ifCond .eq 10, 3) := by decide +kernel
theorem dX9_count_105 : decode cX9_count 105 = .ok (.aload_n 0, 1) := by decide +kernel
theorem dX9_count_106 : decode cX9_count 106 = .ok (.invokevirtual 246, 3) := by decide +kernel
theorem dX9_count_109 : decode cX9_count 109 = .ok (.goto 4, 3) := by decide +kernel
theorem dX9_count_112 : decode cX9_count 112 = .ok (.iconst (-1), 1) := by decide +kernel
theorem dX9_count_113 : decode cX9_count 113 = .ok (.ireturn, 1) := by decide +kernel
theorem dX9_count_114 : decode cX9_count 114 = .ok (.aload_n 0, 1) := by decide +kernel
theorem dX9_count_115 : decode cX9_count 115 = .ok (.invokevirtual 277, 3) := by decide +kernel
theorem dX9_count_118 : decode cX9_count 118 = .ok (.ireturn, 1) := by decide +kernel
theorem dX9_count_119 : decode cX9_count 119 = .ok (.aload_n 0, 1) := by decide +kernel
theorem dX9_count_120 : decode cX9_count 120 = .ok (.getfield 295, 3) := by decide +kernel
theorem dX9_count_123 : decode cX9_count 123 = .ok (.ireturn, 1) := by decide +kernel
theorem dX9_count_124 : decode cX9_count 124 = .ok (.aload_n 0, 1) := by decide +kernel
theorem dX9_count_125 : decode cX9_count 125 = .ok (.getfield 325, 3) := by decide +kernel
theorem dX9_count_128 : decode cX9_count 128 = .ok (.ireturn, 1) := by decide +kernel
theorem dX9_count_129 : decode cX9_count 129 = .ok (.bipush (-2), 2) := by decide +kernel
theorem dX9_count_131 : decode cX9_count 131 = .ok (.ireturn, 1) := by decide +kernel
abbrev rm_X9_count : Room := { frames := 7, cells := 0, slots := 0, locals := 168 }
def f_X9_count_L84   (y0 : Int32) (σ : Sg) : Option (Int32 × Sg) := some (y0, σ)
def f_X9_count_L97   (y0 : Int32) (σ : Sg) : Option (Int32 × Sg) := some (y0, σ)
def f_X9_count_L113   (y0 : Int32) (σ : Sg) : Option (Int32 × Sg) := some (y0, σ)
def f_X9_count (x0 : Nat) (x1 : Int32) (σ : Sg) : Option (Int32 × Sg) := (if x1.toInt < 0 ∨ 8 < x1.toInt then some ((-2 : Int32), σ) else swt [some ((gI σ x0 10), σ), bd (f_X9_findsChords x0 σ) fun _ s1 => some ((gI s1 x0 16), s1), some ((gI σ x0 0), σ), bd (f_X9_leastNow x0 σ) fun r3 s2 => (if r3 = (-1 : Int32) then f_X9_count_L84 (0 : Int32) s2 else f_X9_count_L84 (1 : Int32) s2), (if (gI σ x0 12) = 0 then f_X9_count_L97 (0 : Int32) σ else f_X9_count_L97 (1 : Int32) σ), (if (gI σ x0 12) = 0 then f_X9_count_L113 (-1 : Int32) σ else bd (f_X9_wrongNow x0 σ) fun r5 s4 => f_X9_count_L113 r5 s4), bd (f_X9_fullSlots x0 σ) fun r7 s6 => some (r7, s6), some ((gI σ x0 39), σ), some ((gI σ x0 48), σ)] (x1.toInt - 0).toNat)
theorem t_X9_count_L84 {K : Cx} (h : Ok K cX9_count RX9 2 rm_X9_count (some .int)) (hs : kiv K = St)  (y0 : Int32) (σ : Sg)    : T K (QI K) 84 [] [.int y0] 0 0 σ (f_X9_count_L84 y0 σ) := by
  unfold f_X9_count_L84
  exact T_ireturn (pc := 84) h (Nat.zero_le _) (Nat.zero_le _) dX9_count_84
theorem t_X9_count_L97 {K : Cx} (h : Ok K cX9_count RX9 2 rm_X9_count (some .int)) (hs : kiv K = St)  (y0 : Int32) (σ : Sg)    : T K (QI K) 97 [] [.int y0] 0 0 σ (f_X9_count_L97 y0 σ) := by
  unfold f_X9_count_L97
  exact T_ireturn (pc := 97) h (Nat.zero_le _) (Nat.zero_le _) dX9_count_97
theorem t_X9_count_L113 {K : Cx} (h : Ok K cX9_count RX9 2 rm_X9_count (some .int)) (hs : kiv K = St)  (y0 : Int32) (σ : Sg)    : T K (QI K) 113 [] [.int y0] 0 0 σ (f_X9_count_L113 y0 σ) := by
  unfold f_X9_count_L113
  exact T_ireturn (pc := 113) h (Nat.zero_le _) (Nat.zero_le _) dX9_count_113
theorem t_X9_count {K : Cx} (h : Ok K cX9_count RX9 2 rm_X9_count (some .int)) (hs : kiv K = St) (x0 : Nat) (x1 : Int32) (σ : Sg) (hk0 : kd x0 9) : T K (QI K) 0 [(0, .ref x0), (1, .int x1)] [] 0 0 σ (f_X9_count x0 x1 σ) := by
  unfold f_X9_count
  refine T_iload_n (pc := 0) h dX9_count_0 rfl 1 rfl ?_
  refine T_tsw (pc := 1) (tgt := 129) h dX9_count_1 (by decide) [52, 57, 66, 71, 85, 98, 114, 119, 124] rfl (by decide) rfl (by decide) ?_ (List.forall_mem_cons.mpr ⟨?_, List.forall_mem_cons.mpr ⟨?_, List.forall_mem_cons.mpr ⟨?_, List.forall_mem_cons.mpr ⟨?_, List.forall_mem_cons.mpr ⟨?_, List.forall_mem_cons.mpr ⟨?_, List.forall_mem_cons.mpr ⟨?_, List.forall_mem_cons.mpr ⟨?_, List.forall_mem_cons.mpr ⟨?_, fun _ hq => by cases hq⟩⟩⟩⟩⟩⟩⟩⟩⟩)
  · refine T_bipush (pc := 129) h dX9_count_129 kb_m2 ?_
    exact T_ireturn (pc := 131) h (Nat.zero_le _) (Nat.zero_le _) dX9_count_131
  · dsimp only
    refine T_aload_n (pc := 52) h dX9_count_52 rfl 0 rfl ?_
    refine T_getI (pc := 53) h hs hk0 fl_X9_130 rfl dX9_count_53 ?_
    exact T_ireturn (pc := 56) h (Nat.zero_le _) (Nat.zero_le _) dX9_count_56
  · dsimp only
    refine T_aload_n (pc := 57) h dX9_count_57 rfl 0 rfl ?_
    refine T_callVv (pc := 58) h (M_X9_findsChords (kl K) hs x0 σ hk0) mv_X9_findsChords hs hk0 ml_X9_160 rfl ⟨Nat.le_of_ble_eq_true rfl, Nat.le_of_ble_eq_true rfl⟩ ⟨Nat.le_refl 0, Nat.le_refl 0⟩ (Nat.le_of_ble_eq_true rfl) dX9_count_58 rfl (fun _ s1 => ?_)
    refine T_aload_n (pc := 61) h dX9_count_61 rfl 0 rfl ?_
    refine T_getI (pc := 62) h hs hk0 fl_X9_157 rfl dX9_count_62 ?_
    exact T_ireturn (pc := 65) h (Nat.zero_le _) (Nat.zero_le _) dX9_count_65
  · dsimp only
    refine T_aload_n (pc := 66) h dX9_count_66 rfl 0 rfl ?_
    refine T_getI (pc := 67) h hs hk0 fl_X9_7 rfl dX9_count_67 ?_
    exact T_ireturn (pc := 70) h (Nat.zero_le _) (Nat.zero_le _) dX9_count_70
  · dsimp only
    refine T_aload_n (pc := 71) h dX9_count_71 rfl 0 rfl ?_
    refine T_callVi (pc := 72) h (M_X9_leastNow (kl K) hs x0 σ hk0) mv_X9_leastNow hs hk0 ml_X9_237 rfl ⟨Nat.le_of_ble_eq_true rfl, Nat.le_of_ble_eq_true rfl⟩ ⟨Nat.le_refl 0, Nat.le_refl 0⟩ (Nat.le_of_ble_eq_true rfl) dX9_count_72 rfl (fun r3 s2 => ?_)
    refine T_iconst (pc := 75) h dX9_count_75 ki_m1 ?_
    refine T_icmp_ne (pc := 76) (tgt := 83) h dX9_count_76 (by decide) ?_ ?_
    · refine T_iconst (pc := 83) h dX9_count_83 ki_1 ?_
      refine T_sub [] rfl ?_
      exact t_X9_count_L84 h hs (1 : Int32) s2
    · refine T_iconst (pc := 79) h dX9_count_79 ki_0 ?_
      refine T_goto (pc := 80) (tgt := 84) h dX9_count_80 (by decide) ?_
      refine T_sub [] rfl ?_
      exact t_X9_count_L84 h hs (0 : Int32) s2
  · dsimp only
    refine T_aload_n (pc := 85) h dX9_count_85 rfl 0 rfl ?_
    refine T_getI (pc := 86) h hs hk0 fl_X9_111 rfl dX9_count_86 ?_
    refine T_if_eq (pc := 89) (tgt := 96) h dX9_count_89 (by decide) ?_ ?_
    · refine T_iconst (pc := 96) h dX9_count_96 ki_0 ?_
      refine T_sub [] rfl ?_
      exact t_X9_count_L97 h hs (0 : Int32) σ
    · refine T_iconst (pc := 92) h dX9_count_92 ki_1 ?_
      refine T_goto (pc := 93) (tgt := 97) h dX9_count_93 (by decide) ?_
      refine T_sub [] rfl ?_
      exact t_X9_count_L97 h hs (1 : Int32) σ
  · dsimp only
    refine T_aload_n (pc := 98) h dX9_count_98 rfl 0 rfl ?_
    refine T_getI (pc := 99) h hs hk0 fl_X9_111 rfl dX9_count_99 ?_
    refine T_if_eq (pc := 102) (tgt := 112) h dX9_count_102 (by decide) ?_ ?_
    · refine T_iconst (pc := 112) h dX9_count_112 ki_m1 ?_
      refine T_sub [] rfl ?_
      exact t_X9_count_L113 h hs (-1 : Int32) σ
    · refine T_aload_n (pc := 105) h dX9_count_105 rfl 0 rfl ?_
      refine T_callVi (pc := 106) h (M_X9_wrongNow (kl K) hs x0 σ hk0) mv_X9_wrongNow hs hk0 ml_X9_246 rfl ⟨Nat.le_of_ble_eq_true rfl, Nat.le_of_ble_eq_true rfl⟩ ⟨Nat.le_refl 0, Nat.le_refl 0⟩ (Nat.le_of_ble_eq_true rfl) dX9_count_106 rfl (fun r5 s4 => ?_)
      refine T_goto (pc := 109) (tgt := 113) h dX9_count_109 (by decide) ?_
      refine T_sub [] rfl ?_
      exact t_X9_count_L113 h hs r5 s4
  · dsimp only
    refine T_aload_n (pc := 114) h dX9_count_114 rfl 0 rfl ?_
    refine T_callVi (pc := 115) h (M_X9_fullSlots (kl K) hs x0 σ hk0) mv_X9_fullSlots hs hk0 ml_X9_277 rfl ⟨Nat.le_of_ble_eq_true rfl, Nat.le_of_ble_eq_true rfl⟩ ⟨Nat.le_refl 0, Nat.le_refl 0⟩ (Nat.le_of_ble_eq_true rfl) dX9_count_115 rfl (fun r7 s6 => ?_)
    exact T_ireturn (pc := 118) h (Nat.zero_le _) (Nat.zero_le _) dX9_count_118
  · dsimp only
    refine T_aload_n (pc := 119) h dX9_count_119 rfl 0 rfl ?_
    refine T_getI (pc := 120) h hs hk0 fl_X9_295 rfl dX9_count_120 ?_
    exact T_ireturn (pc := 123) h (Nat.zero_le _) (Nat.zero_le _) dX9_count_123
  · dsimp only
    refine T_aload_n (pc := 124) h dX9_count_124 rfl 0 rfl ?_
    refine T_getI (pc := 125) h hs hk0 fl_X9_325 rfl dX9_count_125 ?_
    exact T_ireturn (pc := 128) h (Nat.zero_le _) (Nat.zero_le _) dX9_count_128
theorem M_X9_count (l : Launch) {iv : Sg → Prop} (hi : iv = St) (x0 : Nat) (x1 : Int32) (σ : Sg) (hk0 : kd x0 9) : CTi l yX9_count cX9_count 2 (some .int) rm_X9_count iv [.ref x0, .int x1] σ (f_X9_count x0 x1 σ) := by
  subst hi
  exact CT_of (by decide) (Nat.le_of_ble_eq_true rfl) (fun K _ h _ hs _ _ => t_X9_count h hs x0 x1 σ hk0)
/-! LuteTabsModel.partsDigest(J)J -/
theorem dX9_partsDigest_0 : decode cX9_partsDigest 0 = .ok (.lload_n 1, 1) := by decide +kernel
theorem dX9_partsDigest_1 : decode cX9_partsDigest 1 = .ok (.lstore_n 3, 1) := by decide +kernel
theorem dX9_partsDigest_2 : decode cX9_partsDigest 2 = .ok (.iconst 0, 1) := by decide +kernel
theorem dX9_partsDigest_3 : decode cX9_partsDigest 3 = .ok (.istore 5, 2) := by decide +kernel
theorem dX9_partsDigest_5 : decode cX9_partsDigest 5 = .ok (.iload 5, 2) := by decide +kernel
theorem dX9_partsDigest_7 : decode cX9_partsDigest 7 = .ok (.aload_n 0, 1) := by decide +kernel
theorem dX9_partsDigest_8 : decode cX9_partsDigest 8 = .ok (.getfield 7, 3) := by decide +kernel
theorem dX9_partsDigest_11 : decode cX9_partsDigest 11 = .ok (.if_icmp .ge 55, 3) := by decide +kernel
theorem dX9_partsDigest_14 : decode cX9_partsDigest 14 = .ok (.iconst 0, 1) := by decide +kernel
theorem dX9_partsDigest_15 : decode cX9_partsDigest 15 = .ok (.istore 6, 2) := by decide +kernel
theorem dX9_partsDigest_17 : decode cX9_partsDigest 17 = .ok (.iload 6, 2) := by decide +kernel
theorem dX9_partsDigest_19 : decode cX9_partsDigest 19 = .ok (.iconst 3, 1) := by decide +kernel
theorem dX9_partsDigest_20 : decode cX9_partsDigest 20 = .ok (.if_icmp .ge 25, 3) := by decide +kernel
theorem dX9_partsDigest_23 : decode cX9_partsDigest 23 = .ok (.ldc2_w 334, 3) := by decide +kernel
theorem dX9_partsDigest_26 : decode cX9_partsDigest 26 = .ok (.lload_n 3, 1) := by decide +kernel
theorem dX9_partsDigest_27 : decode cX9_partsDigest 27 = .ok (.lmul, 1) := by decide +kernel
theorem dX9_partsDigest_28 : decode cX9_partsDigest 28 = .ok (.aload_n 0, 1) := by decide +kernel
theorem dX9_partsDigest_29 : decode cX9_partsDigest 29 = .ok (.iload 5, 2) := by decide +kernel
theorem dX9_partsDigest_31 : decode cX9_partsDigest 31 = .ok (.iload 6, 2) := by decide +kernel
theorem dX9_partsDigest_33 : decode cX9_partsDigest 33 = .ok (.invokevirtual 264, 3) := by decide +kernel
theorem dX9_partsDigest_36 : decode cX9_partsDigest 36 = .ok (.i2l, 1) := by decide +kernel
theorem dX9_partsDigest_37 : decode cX9_partsDigest 37 = .ok (.ladd, 1) := by decide +kernel
theorem dX9_partsDigest_38 : decode cX9_partsDigest 38 = .ok (.lstore_n 3, 1) := by decide +kernel
theorem dX9_partsDigest_39 : decode cX9_partsDigest 39 = .ok (.iinc 6 1, 3) := by decide +kernel
theorem dX9_partsDigest_42 : decode cX9_partsDigest 42 = .ok (.goto (-25), 3) := by decide +kernel
theorem dX9_partsDigest_45 : decode cX9_partsDigest 45 = .ok (.ldc2_w 334, 3) := by decide +kernel
theorem dX9_partsDigest_48 : decode cX9_partsDigest 48 = .ok (.lload_n 3, 1) := by decide +kernel
theorem dX9_partsDigest_49 : decode cX9_partsDigest 49 = .ok (.lmul, 1) := by decide +kernel
theorem dX9_partsDigest_50 : decode cX9_partsDigest 50 = .ok (.aload_n 0, 1) := by decide +kernel
theorem dX9_partsDigest_51 : decode cX9_partsDigest 51 = .ok (.iload 5, 2) := by decide +kernel
theorem dX9_partsDigest_53 : decode cX9_partsDigest 53 = .ok (.iconst 0, 1) := by decide +kernel
theorem dX9_partsDigest_54 : decode cX9_partsDigest 54 = .ok (.invokevirtual 234, 3) := by decide +kernel
theorem dX9_partsDigest_57 : decode cX9_partsDigest 57 = .ok (.i2l, 1) := by decide +kernel
theorem dX9_partsDigest_58 : decode cX9_partsDigest 58 = .ok (.ladd, 1) := by decide +kernel
theorem dX9_partsDigest_59 : decode cX9_partsDigest 59 = .ok (.lstore_n 3, 1) := by decide +kernel
theorem dX9_partsDigest_60 : decode cX9_partsDigest 60 = .ok (.iinc 5 1, 3) := by decide +kernel
theorem dX9_partsDigest_63 : decode cX9_partsDigest 63 = .ok (.goto (-58), 3) := by decide +kernel
theorem dX9_partsDigest_66 : decode cX9_partsDigest 66 = .ok (.iconst 0, 1) := by decide +kernel
theorem dX9_partsDigest_67 : decode cX9_partsDigest 67 = .ok (.istore 5, 2) := by decide +kernel
theorem dX9_partsDigest_69 : decode cX9_partsDigest 69 = .ok (.iload 5, 2) := by decide +kernel
theorem dX9_partsDigest_71 : decode cX9_partsDigest 71 = .ok (.aload_n 0, 1) := by decide +kernel
theorem dX9_partsDigest_72 : decode cX9_partsDigest 72 = .ok (.getfield 130, 3) := by decide +kernel
theorem dX9_partsDigest_75 : decode cX9_partsDigest 75 = .ok (.if_icmp .ge 41, 3) := by decide +kernel
theorem dX9_partsDigest_78 : decode cX9_partsDigest 78 = .ok (.iconst 0, 1) := by decide +kernel
theorem dX9_partsDigest_79 : decode cX9_partsDigest 79 = .ok (.istore 6, 2) := by decide +kernel
theorem dX9_partsDigest_81 : decode cX9_partsDigest 81 = .ok (.iload 6, 2) := by decide +kernel
theorem dX9_partsDigest_83 : decode cX9_partsDigest 83 = .ok (.bipush 6, 2) := by decide +kernel
theorem dX9_partsDigest_85 : decode cX9_partsDigest 85 = .ok (.if_icmp .ge 25, 3) := by decide +kernel
theorem dX9_partsDigest_88 : decode cX9_partsDigest 88 = .ok (.ldc2_w 334, 3) := by decide +kernel
theorem dX9_partsDigest_91 : decode cX9_partsDigest 91 = .ok (.lload_n 3, 1) := by decide +kernel
theorem dX9_partsDigest_92 : decode cX9_partsDigest 92 = .ok (.lmul, 1) := by decide +kernel
theorem dX9_partsDigest_93 : decode cX9_partsDigest 93 = .ok (.aload_n 0, 1) := by decide +kernel
theorem dX9_partsDigest_94 : decode cX9_partsDigest 94 = .ok (.iload 5, 2) := by decide +kernel
theorem dX9_partsDigest_96 : decode cX9_partsDigest 96 = .ok (.iload 6, 2) := by decide +kernel
theorem dX9_partsDigest_98 : decode cX9_partsDigest 98 = .ok (.invokevirtual 261, 3) := by decide +kernel
theorem dX9_partsDigest_101 : decode cX9_partsDigest 101 = .ok (.i2l, 1) := by decide +kernel
theorem dX9_partsDigest_102 : decode cX9_partsDigest 102 = .ok (.ladd, 1) := by decide +kernel
theorem dX9_partsDigest_103 : decode cX9_partsDigest 103 = .ok (.lstore_n 3, 1) := by decide +kernel
theorem dX9_partsDigest_104 : decode cX9_partsDigest 104 = .ok (.iinc 6 1, 3) := by decide +kernel
theorem dX9_partsDigest_107 : decode cX9_partsDigest 107 = .ok (.goto (-26), 3) := by decide +kernel
theorem dX9_partsDigest_110 : decode cX9_partsDigest 110 = .ok (.iinc 5 1, 3) := by decide +kernel
theorem dX9_partsDigest_113 : decode cX9_partsDigest 113 = .ok (.goto (-44), 3) := by decide +kernel
theorem dX9_partsDigest_116 : decode cX9_partsDigest 116 = .ok (.aload_n 0, 1) := by decide +kernel
theorem dX9_partsDigest_117 : decode cX9_partsDigest 117 = .ok (.invokevirtual 160, 3) := by decide +kernel
theorem dX9_partsDigest_120 : decode cX9_partsDigest 120 = .ok (.iconst 0, 1) := by decide +kernel
theorem dX9_partsDigest_121 : decode cX9_partsDigest 121 = .ok (.istore 5, 2) := by decide +kernel
theorem dX9_partsDigest_123 : decode cX9_partsDigest 123 = .ok (.iload 5, 2) := by decide +kernel
theorem dX9_partsDigest_125 : decode cX9_partsDigest 125 = .ok (.aload_n 0, 1) := by decide +kernel
theorem dX9_partsDigest_126 : decode cX9_partsDigest 126 = .ok (.getfield 157, 3) := by decide +kernel
theorem dX9_partsDigest_129 : decode cX9_partsDigest 129 = .ok (.if_icmp .ge 41, 3) := by decide +kernel
theorem dX9_partsDigest_132 : decode cX9_partsDigest 132 = .ok (.iconst 0, 1) := by decide +kernel
theorem dX9_partsDigest_133 : decode cX9_partsDigest 133 = .ok (.istore 6, 2) := by decide +kernel
theorem dX9_partsDigest_135 : decode cX9_partsDigest 135 = .ok (.iload 6, 2) := by decide +kernel
theorem dX9_partsDigest_137 : decode cX9_partsDigest 137 = .ok (.bipush 7, 2) := by decide +kernel
theorem dX9_partsDigest_139 : decode cX9_partsDigest 139 = .ok (.if_icmp .ge 25, 3) := by decide +kernel
theorem dX9_partsDigest_142 : decode cX9_partsDigest 142 = .ok (.ldc2_w 334, 3) := by decide +kernel
theorem dX9_partsDigest_145 : decode cX9_partsDigest 145 = .ok (.lload_n 3, 1) := by decide +kernel
theorem dX9_partsDigest_146 : decode cX9_partsDigest 146 = .ok (.lmul, 1) := by decide +kernel
theorem dX9_partsDigest_147 : decode cX9_partsDigest 147 = .ok (.aload_n 0, 1) := by decide +kernel
theorem dX9_partsDigest_148 : decode cX9_partsDigest 148 = .ok (.iload 5, 2) := by decide +kernel
theorem dX9_partsDigest_150 : decode cX9_partsDigest 150 = .ok (.iload 6, 2) := by decide +kernel
theorem dX9_partsDigest_152 : decode cX9_partsDigest 152 = .ok (.invokevirtual 267, 3) := by decide +kernel
theorem dX9_partsDigest_155 : decode cX9_partsDigest 155 = .ok (.i2l, 1) := by decide +kernel
theorem dX9_partsDigest_156 : decode cX9_partsDigest 156 = .ok (.ladd, 1) := by decide +kernel
theorem dX9_partsDigest_157 : decode cX9_partsDigest 157 = .ok (.lstore_n 3, 1) := by decide +kernel
theorem dX9_partsDigest_158 : decode cX9_partsDigest 158 = .ok (.iinc 6 1, 3) := by decide +kernel
theorem dX9_partsDigest_161 : decode cX9_partsDigest 161 = .ok (.goto (-26), 3) := by decide +kernel
theorem dX9_partsDigest_164 : decode cX9_partsDigest 164 = .ok (.iinc 5 1, 3) := by decide +kernel
theorem dX9_partsDigest_167 : decode cX9_partsDigest 167 = .ok (.goto (-44), 3) := by decide +kernel
theorem dX9_partsDigest_170 : decode cX9_partsDigest 170 = .ok (.lload_n 3, 1) := by decide +kernel
theorem dX9_partsDigest_171 : decode cX9_partsDigest 171 = .ok (.lreturn, 1) := by decide +kernel
abbrev rm_X9_partsDigest : Room := { frames := 6, cells := 0, slots := 0, locals := 148 }
def f_X9_partsDigest_L17 (rec5 : Int64 × Int32 × Sg → Option (Int64 × Sg)) (x0 : Nat) (x5 : Int32) (rec17 : Int64 × Int32 × Sg → Option (Int64 × Sg)) (s : Int64 × Int32 × Sg) : Option (Int64 × Sg) := (if (3 : Int32) ≤ (s.2.1) then bd (f_X9_leastBy x0 x5 (0 : Int32) (s.2.2)) fun r2 s1 => lB ((((31 : Int64) * (s.1)) + r2.toInt64)) fun v3 => lB (x5 + (1 : Int32)) fun v4 => rec5 (v3, v4, s1) else bd (f_X9_courseOf x0 x5 (s.2.1) (s.2.2)) fun r6 s5 => lB ((((31 : Int64) * (s.1)) + r6.toInt64)) fun v7 => lB ((s.2.1) + (1 : Int32)) fun v8 => rec17 (v7, v8, s5))
def f_X9_partsDigest_L81 (rec69 : Int64 × Int32 × Sg → Option (Int64 × Sg)) (x0 : Nat) (x5 : Int32) (rec81 : Int64 × Int32 × Sg → Option (Int64 × Sg)) (s : Int64 × Int32 × Sg) : Option (Int64 × Sg) := (if (6 : Int32) ≤ (s.2.1) then lB (x5 + (1 : Int32)) fun v1 => rec69 ((s.1), v1, (s.2.2)) else bd (f_X9_infoOf x0 x5 (s.2.1) (s.2.2)) fun r3 s2 => lB ((((31 : Int64) * (s.1)) + r3.toInt64)) fun v4 => lB ((s.2.1) + (1 : Int32)) fun v5 => rec81 (v4, v5, s2))
def f_X9_partsDigest_L135 (rec123 : Int64 × Int32 × Sg → Option (Int64 × Sg)) (x0 : Nat) (x5 : Int32) (rec135 : Int64 × Int32 × Sg → Option (Int64 × Sg)) (s : Int64 × Int32 × Sg) : Option (Int64 × Sg) := (if (7 : Int32) ≤ (s.2.1) then lB (x5 + (1 : Int32)) fun v1 => rec123 ((s.1), v1, (s.2.2)) else bd (f_X9_chordBy x0 x5 (s.2.1) (s.2.2)) fun r3 s2 => lB ((((31 : Int64) * (s.1)) + r3.toInt64)) fun v4 => lB ((s.2.1) + (1 : Int32)) fun v5 => rec135 (v4, v5, s2))
def f_X9_partsDigest_L123  (x0 : Nat) (rec123 : Int64 × Int32 × Sg → Option (Int64 × Sg)) (s : Int64 × Int32 × Sg) : Option (Int64 × Sg) := (if (gI (s.2.2) x0 16) ≤ (s.2.1) then some ((s.1), (s.2.2)) else fx (f_X9_partsDigest_L135 rec123 x0 (s.2.1)) FU ((s.1), (0 : Int32), (s.2.2)))
def f_X9_partsDigest_L69  (x0 : Nat) (rec69 : Int64 × Int32 × Sg → Option (Int64 × Sg)) (s : Int64 × Int32 × Sg) : Option (Int64 × Sg) := (if (gI (s.2.2) x0 10) ≤ (s.2.1) then bd (f_X9_findsChords x0 (s.2.2)) fun _ s1 => fx (f_X9_partsDigest_L123 x0) FU ((s.1), (0 : Int32), s1) else fx (f_X9_partsDigest_L81 rec69 x0 (s.2.1)) FU ((s.1), (0 : Int32), (s.2.2)))
def f_X9_partsDigest_L5  (x0 : Nat) (rec5 : Int64 × Int32 × Sg → Option (Int64 × Sg)) (s : Int64 × Int32 × Sg) : Option (Int64 × Sg) := (if (gI (s.2.2) x0 0) ≤ (s.2.1) then fx (f_X9_partsDigest_L69 x0) FU ((s.1), (0 : Int32), (s.2.2)) else fx (f_X9_partsDigest_L17 rec5 x0 (s.2.1)) FU ((s.1), (0 : Int32), (s.2.2)))
def f_X9_partsDigest (x0 : Nat) (x1 : Int64) (σ : Sg) : Option (Int64 × Sg) := fx (f_X9_partsDigest_L5 x0) FU (x1, (0 : Int32), σ)
theorem t_X9_partsDigest_L17 {K : Cx} (h : Ok K cX9_partsDigest RX9 7 rm_X9_partsDigest (some .long)) (hs : kiv K = St) (x0 : Nat) (x5 : Int32) (rec5 : Int64 × Int32 × Sg → Option (Int64 × Sg)) (hr5 : ∀ u, T K (QL K) 5 [(0, .ref x0), (3, .long (u.1)), (5, .int (u.2.1))] [] 0 0 (u.2.2) (rec5 u)) (hk0 : kd x0 9) (rec17 : Int64 × Int32 × Sg → Option (Int64 × Sg)) (hr17 : ∀ u, T K (QL K) 17 [(0, .ref x0), (3, .long (u.1)), (5, .int x5), (6, .int (u.2.1))] [] 0 0 (u.2.2) (rec17 u)) (s : Int64 × Int32 × Sg) : T K (QL K) 17 [(0, .ref x0), (3, .long (s.1)), (5, .int x5), (6, .int (s.2.1))] [] 0 0 (s.2.2) (f_X9_partsDigest_L17 rec5 x0 x5 rec17 s) := by
  unfold f_X9_partsDigest_L17
  refine T_iload (pc := 17) h dX9_partsDigest_17 3 rfl ?_
  refine T_iconst (pc := 19) h dX9_partsDigest_19 ki_3 ?_
  refine T_icmp_ge (pc := 20) (tgt := 45) h dX9_partsDigest_20 (by decide) ?_ ?_
  · refine T_ldc2 (pc := 45) h kc_X9_334 dX9_partsDigest_45 ?_
    refine T_lload_n (pc := 48) h dX9_partsDigest_48 rfl 1 rfl ?_
    refine T_lmul (pc := 49) h dX9_partsDigest_49 ?_
    refine T_aload_n (pc := 50) h dX9_partsDigest_50 rfl 0 rfl ?_
    refine T_iload (pc := 51) h dX9_partsDigest_51 2 rfl ?_
    refine T_iconst (pc := 53) h dX9_partsDigest_53 ki_0 ?_
    refine T_callVi (pc := 54) h (M_X9_leastBy (kl K) hs x0 x5 (0 : Int32) (s.2.2) hk0) mv_X9_leastBy hs hk0 ml_X9_234 rfl ⟨Nat.le_of_ble_eq_true rfl, Nat.le_of_ble_eq_true rfl⟩ ⟨Nat.le_refl 0, Nat.le_refl 0⟩ (Nat.le_of_ble_eq_true rfl) dX9_partsDigest_54 rfl (fun r2 s1 => ?_)
    refine T_i2l (pc := 57) h dX9_partsDigest_57 ?_
    refine T_ladd (pc := 58) h dX9_partsDigest_58 ?_
    refine T_letL fun v3 => ?_
    refine T_lstore_n (lv' := [(3, .long v3), (0, .ref x0), (5, .int x5), (6, .int (s.2.1))]) (pc := 59) h dX9_partsDigest_59 rfl (by decide) rfl ?_
    refine T_iinc (fl := fun v4 => [(5, .int v4), (3, .long v3), (0, .ref x0), (6, .int (s.2.1))]) (pc := 60) h dX9_partsDigest_60 2 rfl ki_1 (by decide) (fun _ => rfl) (fun v4 => ?_)
    refine T_goto (pc := 63) (tgt := 5) h dX9_partsDigest_63 (by decide) ?_
    refine T_sub [2, 1, 0] rfl ?_
    exact hr5 (v3, v4, s1)
  · refine T_ldc2 (pc := 23) h kc_X9_334 dX9_partsDigest_23 ?_
    refine T_lload_n (pc := 26) h dX9_partsDigest_26 rfl 1 rfl ?_
    refine T_lmul (pc := 27) h dX9_partsDigest_27 ?_
    refine T_aload_n (pc := 28) h dX9_partsDigest_28 rfl 0 rfl ?_
    refine T_iload (pc := 29) h dX9_partsDigest_29 2 rfl ?_
    refine T_iload (pc := 31) h dX9_partsDigest_31 3 rfl ?_
    refine T_callVi (pc := 33) h (M_X9_courseOf (kl K) hs x0 x5 (s.2.1) (s.2.2) hk0) mv_X9_courseOf hs hk0 ml_X9_264 rfl ⟨Nat.le_of_ble_eq_true rfl, Nat.le_of_ble_eq_true rfl⟩ ⟨Nat.le_refl 0, Nat.le_refl 0⟩ (Nat.le_of_ble_eq_true rfl) dX9_partsDigest_33 rfl (fun r6 s5 => ?_)
    refine T_i2l (pc := 36) h dX9_partsDigest_36 ?_
    refine T_ladd (pc := 37) h dX9_partsDigest_37 ?_
    refine T_letL fun v7 => ?_
    refine T_lstore_n (lv' := [(3, .long v7), (0, .ref x0), (5, .int x5), (6, .int (s.2.1))]) (pc := 38) h dX9_partsDigest_38 rfl (by decide) rfl ?_
    refine T_iinc (fl := fun v8 => [(6, .int v8), (3, .long v7), (0, .ref x0), (5, .int x5)]) (pc := 39) h dX9_partsDigest_39 3 rfl ki_1 (by decide) (fun _ => rfl) (fun v8 => ?_)
    refine T_goto (pc := 42) (tgt := 17) h dX9_partsDigest_42 (by decide) ?_
    refine T_sub [2, 1, 3, 0] rfl ?_
    exact hr17 (v7, v8, s5)
theorem t_X9_partsDigest_L81 {K : Cx} (h : Ok K cX9_partsDigest RX9 7 rm_X9_partsDigest (some .long)) (hs : kiv K = St) (x0 : Nat) (x5 : Int32) (rec69 : Int64 × Int32 × Sg → Option (Int64 × Sg)) (hr69 : ∀ u, T K (QL K) 69 [(0, .ref x0), (3, .long (u.1)), (5, .int (u.2.1))] [] 0 0 (u.2.2) (rec69 u)) (hk0 : kd x0 9) (rec81 : Int64 × Int32 × Sg → Option (Int64 × Sg)) (hr81 : ∀ u, T K (QL K) 81 [(0, .ref x0), (3, .long (u.1)), (5, .int x5), (6, .int (u.2.1))] [] 0 0 (u.2.2) (rec81 u)) (s : Int64 × Int32 × Sg) : T K (QL K) 81 [(0, .ref x0), (3, .long (s.1)), (5, .int x5), (6, .int (s.2.1))] [] 0 0 (s.2.2) (f_X9_partsDigest_L81 rec69 x0 x5 rec81 s) := by
  unfold f_X9_partsDigest_L81
  refine T_iload (pc := 81) h dX9_partsDigest_81 3 rfl ?_
  refine T_bipush (pc := 83) h dX9_partsDigest_83 kb_6 ?_
  refine T_icmp_ge (pc := 85) (tgt := 110) h dX9_partsDigest_85 (by decide) ?_ ?_
  · refine T_iinc (fl := fun v1 => [(5, .int v1), (0, .ref x0), (3, .long (s.1)), (6, .int (s.2.1))]) (pc := 110) h dX9_partsDigest_110 2 rfl ki_1 (by decide) (fun _ => rfl) (fun v1 => ?_)
    refine T_goto (pc := 113) (tgt := 69) h dX9_partsDigest_113 (by decide) ?_
    refine T_sub [1, 2, 0] rfl ?_
    exact hr69 ((s.1), v1, (s.2.2))
  · refine T_ldc2 (pc := 88) h kc_X9_334 dX9_partsDigest_88 ?_
    refine T_lload_n (pc := 91) h dX9_partsDigest_91 rfl 1 rfl ?_
    refine T_lmul (pc := 92) h dX9_partsDigest_92 ?_
    refine T_aload_n (pc := 93) h dX9_partsDigest_93 rfl 0 rfl ?_
    refine T_iload (pc := 94) h dX9_partsDigest_94 2 rfl ?_
    refine T_iload (pc := 96) h dX9_partsDigest_96 3 rfl ?_
    refine T_callVi (pc := 98) h (M_X9_infoOf (kl K) hs x0 x5 (s.2.1) (s.2.2) hk0) mv_X9_infoOf hs hk0 ml_X9_261 rfl ⟨Nat.le_of_ble_eq_true rfl, Nat.le_of_ble_eq_true rfl⟩ ⟨Nat.le_refl 0, Nat.le_refl 0⟩ (Nat.le_of_ble_eq_true rfl) dX9_partsDigest_98 rfl (fun r3 s2 => ?_)
    refine T_i2l (pc := 101) h dX9_partsDigest_101 ?_
    refine T_ladd (pc := 102) h dX9_partsDigest_102 ?_
    refine T_letL fun v4 => ?_
    refine T_lstore_n (lv' := [(3, .long v4), (0, .ref x0), (5, .int x5), (6, .int (s.2.1))]) (pc := 103) h dX9_partsDigest_103 rfl (by decide) rfl ?_
    refine T_iinc (fl := fun v5 => [(6, .int v5), (3, .long v4), (0, .ref x0), (5, .int x5)]) (pc := 104) h dX9_partsDigest_104 3 rfl ki_1 (by decide) (fun _ => rfl) (fun v5 => ?_)
    refine T_goto (pc := 107) (tgt := 81) h dX9_partsDigest_107 (by decide) ?_
    refine T_sub [2, 1, 3, 0] rfl ?_
    exact hr81 (v4, v5, s2)
theorem t_X9_partsDigest_L135 {K : Cx} (h : Ok K cX9_partsDigest RX9 7 rm_X9_partsDigest (some .long)) (hs : kiv K = St) (x0 : Nat) (x5 : Int32) (rec123 : Int64 × Int32 × Sg → Option (Int64 × Sg)) (hr123 : ∀ u, T K (QL K) 123 [(0, .ref x0), (3, .long (u.1)), (5, .int (u.2.1))] [] 0 0 (u.2.2) (rec123 u)) (hk0 : kd x0 9) (rec135 : Int64 × Int32 × Sg → Option (Int64 × Sg)) (hr135 : ∀ u, T K (QL K) 135 [(0, .ref x0), (3, .long (u.1)), (5, .int x5), (6, .int (u.2.1))] [] 0 0 (u.2.2) (rec135 u)) (s : Int64 × Int32 × Sg) : T K (QL K) 135 [(0, .ref x0), (3, .long (s.1)), (5, .int x5), (6, .int (s.2.1))] [] 0 0 (s.2.2) (f_X9_partsDigest_L135 rec123 x0 x5 rec135 s) := by
  unfold f_X9_partsDigest_L135
  refine T_iload (pc := 135) h dX9_partsDigest_135 3 rfl ?_
  refine T_bipush (pc := 137) h dX9_partsDigest_137 kb_7 ?_
  refine T_icmp_ge (pc := 139) (tgt := 164) h dX9_partsDigest_139 (by decide) ?_ ?_
  · refine T_iinc (fl := fun v1 => [(5, .int v1), (0, .ref x0), (3, .long (s.1)), (6, .int (s.2.1))]) (pc := 164) h dX9_partsDigest_164 2 rfl ki_1 (by decide) (fun _ => rfl) (fun v1 => ?_)
    refine T_goto (pc := 167) (tgt := 123) h dX9_partsDigest_167 (by decide) ?_
    refine T_sub [1, 2, 0] rfl ?_
    exact hr123 ((s.1), v1, (s.2.2))
  · refine T_ldc2 (pc := 142) h kc_X9_334 dX9_partsDigest_142 ?_
    refine T_lload_n (pc := 145) h dX9_partsDigest_145 rfl 1 rfl ?_
    refine T_lmul (pc := 146) h dX9_partsDigest_146 ?_
    refine T_aload_n (pc := 147) h dX9_partsDigest_147 rfl 0 rfl ?_
    refine T_iload (pc := 148) h dX9_partsDigest_148 2 rfl ?_
    refine T_iload (pc := 150) h dX9_partsDigest_150 3 rfl ?_
    refine T_callVi (pc := 152) h (M_X9_chordBy (kl K) hs x0 x5 (s.2.1) (s.2.2) hk0) mv_X9_chordBy hs hk0 ml_X9_267 rfl ⟨Nat.le_of_ble_eq_true rfl, Nat.le_of_ble_eq_true rfl⟩ ⟨Nat.le_refl 0, Nat.le_refl 0⟩ (Nat.le_of_ble_eq_true rfl) dX9_partsDigest_152 rfl (fun r3 s2 => ?_)
    refine T_i2l (pc := 155) h dX9_partsDigest_155 ?_
    refine T_ladd (pc := 156) h dX9_partsDigest_156 ?_
    refine T_letL fun v4 => ?_
    refine T_lstore_n (lv' := [(3, .long v4), (0, .ref x0), (5, .int x5), (6, .int (s.2.1))]) (pc := 157) h dX9_partsDigest_157 rfl (by decide) rfl ?_
    refine T_iinc (fl := fun v5 => [(6, .int v5), (3, .long v4), (0, .ref x0), (5, .int x5)]) (pc := 158) h dX9_partsDigest_158 3 rfl ki_1 (by decide) (fun _ => rfl) (fun v5 => ?_)
    refine T_goto (pc := 161) (tgt := 135) h dX9_partsDigest_161 (by decide) ?_
    refine T_sub [2, 1, 3, 0] rfl ?_
    exact hr135 (v4, v5, s2)
theorem t_X9_partsDigest_L123 {K : Cx} (h : Ok K cX9_partsDigest RX9 7 rm_X9_partsDigest (some .long)) (hs : kiv K = St) (x0 : Nat)  (hk0 : kd x0 9) (rec123 : Int64 × Int32 × Sg → Option (Int64 × Sg)) (hr123 : ∀ u, T K (QL K) 123 [(0, .ref x0), (3, .long (u.1)), (5, .int (u.2.1))] [] 0 0 (u.2.2) (rec123 u)) (s : Int64 × Int32 × Sg) : T K (QL K) 123 [(0, .ref x0), (3, .long (s.1)), (5, .int (s.2.1))] [] 0 0 (s.2.2) (f_X9_partsDigest_L123 x0 rec123 s) := by
  unfold f_X9_partsDigest_L123
  refine T_iload (pc := 123) h dX9_partsDigest_123 2 rfl ?_
  refine T_aload_n (pc := 125) h dX9_partsDigest_125 rfl 0 rfl ?_
  refine T_getI (pc := 126) h hs hk0 fl_X9_157 rfl dX9_partsDigest_126 ?_
  refine T_icmp_ge (pc := 129) (tgt := 170) h dX9_partsDigest_129 (by decide) ?_ ?_
  · refine T_lload_n (pc := 170) h dX9_partsDigest_170 rfl 1 rfl ?_
    exact T_lreturn (pc := 171) h (Nat.zero_le _) (Nat.zero_le _) dX9_partsDigest_171
  · refine T_iconst (pc := 132) h dX9_partsDigest_132 ki_0 ?_
    refine T_istore (lv' := [(6, .int (0 : Int32)), (0, .ref x0), (3, .long (s.1)), (5, .int (s.2.1))]) (pc := 133) h dX9_partsDigest_133 (by decide) rfl ?_
    refine T_sub [1, 2, 3, 0] rfl ?_
    exact T_fx (B := f_X9_partsDigest_L135 rec123 x0 (s.2.1)) (fl := fun u => [(0, .ref x0), (3, .long (u.1)), (5, .int (s.2.1)), (6, .int (u.2.1))]) (f := fun u => (u.2.2)) (fun rec135 hr135 u => t_X9_partsDigest_L135 h hs x0 (s.2.1) rec123 hr123 hk0 rec135 hr135 u) FU ((s.1), (0 : Int32), (s.2.2))
theorem t_X9_partsDigest_L69 {K : Cx} (h : Ok K cX9_partsDigest RX9 7 rm_X9_partsDigest (some .long)) (hs : kiv K = St) (x0 : Nat)  (hk0 : kd x0 9) (rec69 : Int64 × Int32 × Sg → Option (Int64 × Sg)) (hr69 : ∀ u, T K (QL K) 69 [(0, .ref x0), (3, .long (u.1)), (5, .int (u.2.1))] [] 0 0 (u.2.2) (rec69 u)) (s : Int64 × Int32 × Sg) : T K (QL K) 69 [(0, .ref x0), (3, .long (s.1)), (5, .int (s.2.1))] [] 0 0 (s.2.2) (f_X9_partsDigest_L69 x0 rec69 s) := by
  unfold f_X9_partsDigest_L69
  refine T_iload (pc := 69) h dX9_partsDigest_69 2 rfl ?_
  refine T_aload_n (pc := 71) h dX9_partsDigest_71 rfl 0 rfl ?_
  refine T_getI (pc := 72) h hs hk0 fl_X9_130 rfl dX9_partsDigest_72 ?_
  refine T_icmp_ge (pc := 75) (tgt := 116) h dX9_partsDigest_75 (by decide) ?_ ?_
  · refine T_aload_n (pc := 116) h dX9_partsDigest_116 rfl 0 rfl ?_
    refine T_callVv (pc := 117) h (M_X9_findsChords (kl K) hs x0 (s.2.2) hk0) mv_X9_findsChords hs hk0 ml_X9_160 rfl ⟨Nat.le_of_ble_eq_true rfl, Nat.le_of_ble_eq_true rfl⟩ ⟨Nat.le_refl 0, Nat.le_refl 0⟩ (Nat.le_of_ble_eq_true rfl) dX9_partsDigest_117 rfl (fun _ s1 => ?_)
    refine T_iconst (pc := 120) h dX9_partsDigest_120 ki_0 ?_
    refine T_istore (lv' := [(5, .int (0 : Int32)), (0, .ref x0), (3, .long (s.1))]) (pc := 121) h dX9_partsDigest_121 (by decide) rfl ?_
    refine T_sub [1, 2, 0] rfl ?_
    exact T_fx (B := f_X9_partsDigest_L123 x0) (fl := fun u => [(0, .ref x0), (3, .long (u.1)), (5, .int (u.2.1))]) (f := fun u => (u.2.2)) (fun rec123 hr123 u => t_X9_partsDigest_L123 h hs x0 hk0 rec123 hr123 u) FU ((s.1), (0 : Int32), s1)
  · refine T_iconst (pc := 78) h dX9_partsDigest_78 ki_0 ?_
    refine T_istore (lv' := [(6, .int (0 : Int32)), (0, .ref x0), (3, .long (s.1)), (5, .int (s.2.1))]) (pc := 79) h dX9_partsDigest_79 (by decide) rfl ?_
    refine T_sub [1, 2, 3, 0] rfl ?_
    exact T_fx (B := f_X9_partsDigest_L81 rec69 x0 (s.2.1)) (fl := fun u => [(0, .ref x0), (3, .long (u.1)), (5, .int (s.2.1)), (6, .int (u.2.1))]) (f := fun u => (u.2.2)) (fun rec81 hr81 u => t_X9_partsDigest_L81 h hs x0 (s.2.1) rec69 hr69 hk0 rec81 hr81 u) FU ((s.1), (0 : Int32), (s.2.2))
theorem t_X9_partsDigest_L5 {K : Cx} (h : Ok K cX9_partsDigest RX9 7 rm_X9_partsDigest (some .long)) (hs : kiv K = St) (x0 : Nat)  (hk0 : kd x0 9) (rec5 : Int64 × Int32 × Sg → Option (Int64 × Sg)) (hr5 : ∀ u, T K (QL K) 5 [(0, .ref x0), (3, .long (u.1)), (5, .int (u.2.1))] [] 0 0 (u.2.2) (rec5 u)) (s : Int64 × Int32 × Sg) : T K (QL K) 5 [(0, .ref x0), (3, .long (s.1)), (5, .int (s.2.1))] [] 0 0 (s.2.2) (f_X9_partsDigest_L5 x0 rec5 s) := by
  unfold f_X9_partsDigest_L5
  refine T_iload (pc := 5) h dX9_partsDigest_5 2 rfl ?_
  refine T_aload_n (pc := 7) h dX9_partsDigest_7 rfl 0 rfl ?_
  refine T_getI (pc := 8) h hs hk0 fl_X9_7 rfl dX9_partsDigest_8 ?_
  refine T_icmp_ge (pc := 11) (tgt := 66) h dX9_partsDigest_11 (by decide) ?_ ?_
  · refine T_iconst (pc := 66) h dX9_partsDigest_66 ki_0 ?_
    refine T_istore (lv' := [(5, .int (0 : Int32)), (0, .ref x0), (3, .long (s.1))]) (pc := 67) h dX9_partsDigest_67 (by decide) rfl ?_
    refine T_sub [1, 2, 0] rfl ?_
    exact T_fx (B := f_X9_partsDigest_L69 x0) (fl := fun u => [(0, .ref x0), (3, .long (u.1)), (5, .int (u.2.1))]) (f := fun u => (u.2.2)) (fun rec69 hr69 u => t_X9_partsDigest_L69 h hs x0 hk0 rec69 hr69 u) FU ((s.1), (0 : Int32), (s.2.2))
  · refine T_iconst (pc := 14) h dX9_partsDigest_14 ki_0 ?_
    refine T_istore (lv' := [(6, .int (0 : Int32)), (0, .ref x0), (3, .long (s.1)), (5, .int (s.2.1))]) (pc := 15) h dX9_partsDigest_15 (by decide) rfl ?_
    refine T_sub [1, 2, 3, 0] rfl ?_
    exact T_fx (B := f_X9_partsDigest_L17 rec5 x0 (s.2.1)) (fl := fun u => [(0, .ref x0), (3, .long (u.1)), (5, .int (s.2.1)), (6, .int (u.2.1))]) (f := fun u => (u.2.2)) (fun rec17 hr17 u => t_X9_partsDigest_L17 h hs x0 (s.2.1) rec5 hr5 hk0 rec17 hr17 u) FU ((s.1), (0 : Int32), (s.2.2))
theorem t_X9_partsDigest {K : Cx} (h : Ok K cX9_partsDigest RX9 7 rm_X9_partsDigest (some .long)) (hs : kiv K = St) (x0 : Nat) (x1 : Int64) (σ : Sg) (hk0 : kd x0 9) : T K (QL K) 0 [(0, .ref x0), (1, .long x1)] [] 0 0 σ (f_X9_partsDigest x0 x1 σ) := by
  unfold f_X9_partsDigest
  refine T_lload_n (pc := 0) h dX9_partsDigest_0 rfl 1 rfl ?_
  refine T_lstore_n (lv' := [(3, .long x1), (0, .ref x0), (1, .long x1)]) (pc := 1) h dX9_partsDigest_1 rfl (by decide) rfl ?_
  refine T_iconst (pc := 2) h dX9_partsDigest_2 ki_0 ?_
  refine T_istore (lv' := [(5, .int (0 : Int32)), (3, .long x1), (0, .ref x0), (1, .long x1)]) (pc := 3) h dX9_partsDigest_3 (by decide) rfl ?_
  refine T_sub [2, 1, 0] rfl ?_
  exact T_fx (B := f_X9_partsDigest_L5 x0) (fl := fun u => [(0, .ref x0), (3, .long (u.1)), (5, .int (u.2.1))]) (f := fun u => (u.2.2)) (fun rec5 hr5 u => t_X9_partsDigest_L5 h hs x0 hk0 rec5 hr5 u) FU (x1, (0 : Int32), σ)
theorem M_X9_partsDigest (l : Launch) {iv : Sg → Prop} (hi : iv = St) (x0 : Nat) (x1 : Int64) (σ : Sg) (hk0 : kd x0 9) : CTl l yX9_partsDigest cX9_partsDigest 7 (some .long) rm_X9_partsDigest iv [.ref x0, .long x1] σ (f_X9_partsDigest x0 x1 σ) := by
  subst hi
  exact CT_of (by decide) (Nat.le_of_ble_eq_true rfl) (fun K _ h _ hs _ _ => t_X9_partsDigest h hs x0 x1 σ hk0)
/-! LuteTabsModel.digest()J -/
theorem dX9_digest_0 : decode cX9_digest 0 = .ok (.ldc2_w 336, 3) := by decide +kernel
theorem dX9_digest_3 : decode cX9_digest 3 = .ok (.lstore_n 1, 1) := by decide +kernel
theorem dX9_digest_4 : decode cX9_digest 4 = .ok (.iconst 0, 1) := by decide +kernel
theorem dX9_digest_5 : decode cX9_digest 5 = .ok (.istore_n 3, 1) := by decide +kernel
theorem dX9_digest_6 : decode cX9_digest 6 = .ok (.iload_n 3, 1) := by decide +kernel
theorem dX9_digest_7 : decode cX9_digest 7 = .ok (.bipush 8, 2) := by decide +kernel
theorem dX9_digest_9 : decode cX9_digest 9 = .ok (.if_icmp .ge 22, 3) := by decide +kernel
theorem dX9_digest_12 : decode cX9_digest 12 = .ok (.ldc2_w 334, 3) := by decide +kernel
theorem dX9_digest_15 : decode cX9_digest 15 = .ok (.lload_n 1, 1) := by decide +kernel
theorem dX9_digest_16 : decode cX9_digest 16 = .ok (.lmul, 1) := by decide +kernel
theorem dX9_digest_17 : decode cX9_digest 17 = .ok (.aload_n 0, 1) := by decide +kernel
theorem dX9_digest_18 : decode cX9_digest 18 = .ok (.iload_n 3, 1) := by decide +kernel
theorem dX9_digest_19 : decode cX9_digest 19 = .ok (.invokevirtual 338, 3) := by decide +kernel
theorem dX9_digest_22 : decode cX9_digest 22 = .ok (.i2l, 1) := by decide +kernel
theorem dX9_digest_23 : decode cX9_digest 23 = .ok (.ladd, 1) := by decide +kernel
theorem dX9_digest_24 : decode cX9_digest 24 = .ok (.lstore_n 1, 1) := by decide +kernel
theorem dX9_digest_25 : decode cX9_digest 25 = .ok (.iinc 3 1, 3) := by decide +kernel
theorem dX9_digest_28 : decode cX9_digest 28 = .ok (.goto (-22), 3) := by decide +kernel
theorem dX9_digest_31 : decode cX9_digest 31 = .ok (.ldc2_w 334, 3) := by decide +kernel
theorem dX9_digest_34 : decode cX9_digest 34 = .ok (.lload_n 1, 1) := by decide +kernel
theorem dX9_digest_35 : decode cX9_digest 35 = .ok (.lmul, 1) := by decide +kernel
theorem dX9_digest_36 : decode cX9_digest 36 = .ok (.aload_n 0, 1) := by decide +kernel
theorem dX9_digest_37 : decode cX9_digest 37 = .ok (.invokevirtual 341, 3) := by decide +kernel
theorem dX9_digest_40 : decode cX9_digest 40 = .ok (.i2l, 1) := by decide +kernel
theorem dX9_digest_41 : decode cX9_digest 41 = .ok (.ladd, 1) := by decide +kernel
theorem dX9_digest_42 : decode cX9_digest 42 = .ok (.lstore_n 1, 1) := by decide +kernel
theorem dX9_digest_43 : decode cX9_digest 43 = .ok (.ldc2_w 334, 3) := by decide +kernel
theorem dX9_digest_46 : decode cX9_digest 46 = .ok (.lload_n 1, 1) := by decide +kernel
theorem dX9_digest_47 : decode cX9_digest 47 = .ok (.lmul, 1) := by decide +kernel
theorem dX9_digest_48 : decode cX9_digest 48 = .ok (.aload_n 0, 1) := by decide +kernel
theorem dX9_digest_49 : decode cX9_digest 49 = .ok (.invokevirtual 240, 3) := by decide +kernel
theorem dX9_digest_52 : decode cX9_digest 52 = .ok (.i2l, 1) := by decide +kernel
theorem dX9_digest_53 : decode cX9_digest 53 = .ok (.ladd, 1) := by decide +kernel
theorem dX9_digest_54 : decode cX9_digest 54 = .ok (.lstore_n 1, 1) := by decide +kernel
theorem dX9_digest_55 : decode cX9_digest 55 = .ok (.ldc2_w 334, 3) := by decide +kernel
theorem dX9_digest_58 : decode cX9_digest 58 = .ok (.lload_n 1, 1) := by decide +kernel
theorem dX9_digest_59 : decode cX9_digest 59 = .ok (.lmul, 1) := by decide +kernel
theorem dX9_digest_60 : decode cX9_digest 60 = .ok (.aload_n 0, 1) := by decide +kernel
theorem dX9_digest_61 : decode cX9_digest 61 = .ok (.invokevirtual 252, 3) := by decide +kernel
theorem dX9_digest_64 : decode cX9_digest 64 = .ok (.i2l, 1) := by decide +kernel
theorem dX9_digest_65 : decode cX9_digest 65 = .ok (.ladd, 1) := by decide +kernel
theorem dX9_digest_66 : decode cX9_digest 66 = .ok (.lstore_n 1, 1) := by decide +kernel
theorem dX9_digest_67 : decode cX9_digest 67 = .ok (.aload_n 0, 1) := by decide +kernel
theorem dX9_digest_68 : decode cX9_digest 68 = .ok (.lload_n 1, 1) := by decide +kernel
theorem dX9_digest_69 : decode cX9_digest 69 = .ok (.invokevirtual 344, 3) := by decide +kernel
theorem dX9_digest_72 : decode cX9_digest 72 = .ok (.lstore_n 1, 1) := by decide +kernel
theorem dX9_digest_73 : decode cX9_digest 73 = .ok (.bipush (-2), 2) := by decide +kernel
theorem dX9_digest_75 : decode cX9_digest 75 = .ok (.istore_n 3, 1) := by decide +kernel
theorem dX9_digest_76 : decode cX9_digest 76 = .ok (.iload_n 3, 1) := by decide +kernel
theorem dX9_digest_77 : decode cX9_digest 77 = .ok (.iconst 2, 1) := by decide +kernel
theorem dX9_digest_78 : decode cX9_digest 78 = .ok (.if_icmp .gt 23, 3) := by decide +kernel
theorem dX9_digest_81 : decode cX9_digest 81 = .ok (.ldc2_w 334, 3) := by decide +kernel
theorem dX9_digest_84 : decode cX9_digest 84 = .ok (.lload_n 1, 1) := by decide +kernel
theorem dX9_digest_85 : decode cX9_digest 85 = .ok (.lmul, 1) := by decide +kernel
theorem dX9_digest_86 : decode cX9_digest 86 = .ok (.aload_n 0, 1) := by decide +kernel
theorem dX9_digest_87 : decode cX9_digest 87 = .ok (.iconst (-1), 1) := by decide +kernel
theorem dX9_digest_88 : decode cX9_digest 88 = .ok (.iload_n 3, 1) := by decide +kernel
theorem dX9_digest_89 : decode cX9_digest 89 = .ok (.invokevirtual 234, 3) := by decide +kernel
theorem dX9_digest_92 : decode cX9_digest 92 = .ok (.i2l, 1) := by decide +kernel
theorem dX9_digest_93 : decode cX9_digest 93 = .ok (.ladd, 1) := by decide +kernel
theorem dX9_digest_94 : decode cX9_digest 94 = .ok (.lstore_n 1, 1) := by decide +kernel
theorem dX9_digest_95 : decode cX9_digest 95 = .ok (.iinc 3 1, 3) := by decide +kernel
theorem dX9_digest_98 : decode cX9_digest 98 = .ok (.goto (-22), 3) := by decide +kernel
theorem dX9_digest_101 : decode cX9_digest 101 = .ok (.ldc2_w 334, 3) := by decide +kernel
theorem dX9_digest_104 : decode cX9_digest 104 = .ok (.lload_n 1, 1) := by decide +kernel
theorem dX9_digest_105 : decode cX9_digest 105 = .ok (.lmul, 1) := by decide +kernel
theorem dX9_digest_106 : decode cX9_digest 106 = .ok (.aload_n 0, 1) := by decide +kernel
theorem dX9_digest_107 : decode cX9_digest 107 = .ok (.iconst 0, 1) := by decide +kernel
theorem dX9_digest_108 : decode cX9_digest 108 = .ok (.invokevirtual 271, 3) := by decide +kernel
theorem dX9_digest_111 : decode cX9_digest 111 = .ok (.i2l, 1) := by decide +kernel
theorem dX9_digest_112 : decode cX9_digest 112 = .ok (.ladd, 1) := by decide +kernel
theorem dX9_digest_113 : decode cX9_digest 113 = .ok (.lstore_n 1, 1) := by decide +kernel
theorem dX9_digest_114 : decode cX9_digest 114 = .ok (.ldc2_w 334, 3) := by decide +kernel
theorem dX9_digest_117 : decode cX9_digest 117 = .ok (.lload_n 1, 1) := by decide +kernel
theorem dX9_digest_118 : decode cX9_digest 118 = .ok (.lmul, 1) := by decide +kernel
theorem dX9_digest_119 : decode cX9_digest 119 = .ok (.aload_n 0, 1) := by decide +kernel
theorem dX9_digest_120 : decode cX9_digest 120 = .ok (.iconst 1, 1) := by decide +kernel
theorem dX9_digest_121 : decode cX9_digest 121 = .ok (.invokevirtual 271, 3) := by decide +kernel
theorem dX9_digest_124 : decode cX9_digest 124 = .ok (.i2l, 1) := by decide +kernel
theorem dX9_digest_125 : decode cX9_digest 125 = .ok (.ladd, 1) := by decide +kernel
theorem dX9_digest_126 : decode cX9_digest 126 = .ok (.lstore_n 1, 1) := by decide +kernel
theorem dX9_digest_127 : decode cX9_digest 127 = .ok (.ldc2_w 334, 3) := by decide +kernel
theorem dX9_digest_130 : decode cX9_digest 130 = .ok (.lload_n 1, 1) := by decide +kernel
theorem dX9_digest_131 : decode cX9_digest 131 = .ok (.lmul, 1) := by decide +kernel
theorem dX9_digest_132 : decode cX9_digest 132 = .ok (.aload_n 0, 1) := by decide +kernel
theorem dX9_digest_133 : decode cX9_digest 133 = .ok (.invokevirtual 319, 3) := by decide +kernel
theorem dX9_digest_136 : decode cX9_digest 136 = .ok (.i2l, 1) := by decide +kernel
theorem dX9_digest_137 : decode cX9_digest 137 = .ok (.ladd, 1) := by decide +kernel
theorem dX9_digest_138 : decode cX9_digest 138 = .ok (.lstore_n 1, 1) := by decide +kernel
theorem dX9_digest_139 : decode cX9_digest 139 = .ok (.aload_n 0, 1) := by decide +kernel
theorem dX9_digest_140 : decode cX9_digest 140 = .ok (.invokevirtual 292, 3) := by decide +kernel
theorem dX9_digest_143 : decode cX9_digest 143 = .ok (.istore_n 3, 1) := by decide +kernel
theorem dX9_digest_144 : decode cX9_digest 144 = .ok (.ldc2_w 334, 3) := by decide +kernel
theorem dX9_digest_147 : decode cX9_digest 147 = .ok (.lload_n 1, 1) := by decide +kernel
theorem dX9_digest_148 : decode cX9_digest 148 = .ok (.lmul, 1) := by decide +kernel
theorem dX9_digest_149 : decode cX9_digest 149 = .ok (.iload_n 3, 1) := by decide +kernel
theorem dX9_digest_150 : decode cX9_digest 150 = .ok (.i2l, 1) := by decide +kernel
theorem dX9_digest_151 : decode cX9_digest 151 = .ok (.ladd, 1) := by decide +kernel
theorem dX9_digest_152 : decode cX9_digest 152 = .ok (.lstore_n 1, 1) := by decide +kernel
theorem dX9_digest_153 : decode cX9_digest 153 = .ok (.iconst 0, 1) := by decide +kernel
theorem dX9_digest_154 : decode cX9_digest 154 = .ok (.istore 4, 2) := by decide +kernel
theorem dX9_digest_156 : decode cX9_digest 156 = .ok (.iload 4, 2) := by decide +kernel
theorem dX9_digest_158 : decode cX9_digest 158 = .ok (.iload_n 3, 1) := by decide +kernel
theorem dX9_digest_159 : decode cX9_digest 159 = .ok (.if_icmp .ge 24, 3) := by decide +kernel
theorem dX9_digest_162 : decode cX9_digest 162 = .ok (.ldc2_w 334, 3) := by decide +kernel
theorem dX9_digest_165 : decode cX9_digest 165 = .ok (.lload_n 1, 1) := by decide +kernel
theorem dX9_digest_166 : decode cX9_digest 166 = .ok (.lmul, 1) := by decide +kernel
theorem dX9_digest_167 : decode cX9_digest 167 = .ok (.aload_n 0, 1) := by decide +kernel
theorem dX9_digest_168 : decode cX9_digest 168 = .ok (.getfield 90, 3) := by decide +kernel
theorem dX9_digest_171 : decode cX9_digest 171 = .ok (.iload 4, 2) := by decide +kernel
theorem dX9_digest_173 : decode cX9_digest 173 = .ok (.iaload, 1) := by decide +kernel
theorem dX9_digest_174 : decode cX9_digest 174 = .ok (.i2l, 1) := by decide +kernel
theorem dX9_digest_175 : decode cX9_digest 175 = .ok (.ladd, 1) := by decide +kernel
theorem dX9_digest_176 : decode cX9_digest 176 = .ok (.lstore_n 1, 1) := by decide +kernel
theorem dX9_digest_177 : decode cX9_digest 177 = .ok (.iinc 4 1, 3) := by decide +kernel
theorem dX9_digest_180 : decode cX9_digest 180 = .ok (.goto (-24), 3) := by decide +kernel
theorem dX9_digest_183 : decode cX9_digest 183 = .ok (.iconst 0, 1) := by decide +kernel
theorem dX9_digest_184 : decode cX9_digest 184 = .ok (.istore 4, 2) := by decide +kernel
theorem dX9_digest_186 : decode cX9_digest 186 = .ok (.iload 4, 2) := by decide +kernel
theorem dX9_digest_188 : decode cX9_digest 188 = .ok (.iconst 4, 1) := by decide +kernel
theorem dX9_digest_189 : decode cX9_digest 189 = .ok (.if_icmp .ge 37, 3) := by decide +kernel
theorem dX9_digest_192 : decode cX9_digest 192 = .ok (.aload_n 0, 1) := by decide +kernel
theorem dX9_digest_193 : decode cX9_digest 193 = .ok (.getfield 47, 3) := by decide +kernel
theorem dX9_digest_196 : decode cX9_digest 196 = .ok (.iload 4, 2) := by decide +kernel
theorem dX9_digest_198 : decode cX9_digest 198 = .ok (.baload, 1) := by decide +kernel
theorem dX9_digest_199 : decode cX9_digest 199 = .ok (.ifCond .eq 19, 3) := by decide +kernel
theorem dX9_digest_202 : decode cX9_digest 202 = .ok (.ldc2_w 334, 3) := by decide +kernel
theorem dX9_digest_205 : decode cX9_digest 205 = .ok (.lload_n 1, 1) := by decide +kernel
theorem dX9_digest_206 : decode cX9_digest 206 = .ok (.lmul, 1) := by decide +kernel
theorem dX9_digest_207 : decode cX9_digest 207 = .ok (.aload_n 0, 1) := by decide +kernel
theorem dX9_digest_208 : decode cX9_digest 208 = .ok (.iload 4, 2) := by decide +kernel
theorem dX9_digest_210 : decode cX9_digest 210 = .ok (.invokevirtual 280, 3) := by decide +kernel
theorem dX9_digest_213 : decode cX9_digest 213 = .ok (.i2l, 1) := by decide +kernel
theorem dX9_digest_214 : decode cX9_digest 214 = .ok (.ladd, 1) := by decide +kernel
theorem dX9_digest_215 : decode cX9_digest 215 = .ok (.goto 4, 3) := by decide +kernel
theorem dX9_digest_218 : decode cX9_digest 218 = .ok (.lload_n 1, 1) := by decide +kernel
theorem dX9_digest_219 : decode cX9_digest 219 = .ok (.lstore_n 1, 1) := by decide +kernel
theorem dX9_digest_220 : decode cX9_digest 220 = .ok (.iinc 4 1, 3) := by decide +kernel
theorem dX9_digest_223 : decode cX9_digest 223 = .ok (.goto (-37), 3) := by decide +kernel
theorem dX9_digest_226 : decode cX9_digest 226 = .ok (.lload_n 1, 1) := by decide +kernel
theorem dX9_digest_227 : decode cX9_digest 227 = .ok (.lreturn, 1) := by decide +kernel
abbrev rm_X9_digest : Room := { frames := 8, cells := 0, slots := 0, locals := 193 }
def f_X9_digest_L219 (rec186 : Int64 × Int32 × Sg → Option (Int64 × Sg)) (x0 : Nat) (x4 : Int32) (y0 : Int64) (σ : Sg) : Option (Int64 × Sg) := lB (x4 + (1 : Int32)) fun v1 => rec186 (y0, v1, σ)
def f_X9_digest_L186  (x0 : Nat) (rec186 : Int64 × Int32 × Sg → Option (Int64 × Sg)) (s : Int64 × Int32 × Sg) : Option (Int64 × Sg) := (if (4 : Int32) ≤ (s.2.1) then some ((s.1), (s.2.2)) else ck (inb (s.2.1) (aL (gR (s.2.2) x0 14))) ((if (gI (s.2.2) (gR (s.2.2) x0 14) (s.2.1).toNatClampNeg) = 0 then f_X9_digest_L219 rec186 x0 (s.2.1) (s.1) (s.2.2) else bd (f_X9_differOf x0 (s.2.1) (s.2.2)) fun r3 s2 => f_X9_digest_L219 rec186 x0 (s.2.1) (((31 : Int64) * (s.1)) + r3.toInt64) s2)))
def f_X9_digest_L156  (x0 : Nat) (x3 : Int32) (σ : Sg) (rec156 : Int64 × Int32 → Option (Int64 × Sg)) (s : Int64 × Int32) : Option (Int64 × Sg) := (if x3 ≤ (s.2) then fx (f_X9_digest_L186 x0) FU ((s.1), (0 : Int32), σ) else ck (inb (s.2) (aL (gR σ x0 36))) (lB ((((31 : Int64) * (s.1)) + (gI σ (gR σ x0 36) (s.2).toNatClampNeg).toInt64)) fun v2 => lB ((s.2) + (1 : Int32)) fun v3 => rec156 (v2, v3)))
def f_X9_digest_L76  (x0 : Nat) (rec76 : Int64 × Int32 × Sg → Option (Int64 × Sg)) (s : Int64 × Int32 × Sg) : Option (Int64 × Sg) := (if (2 : Int32) < (s.2.1) then bd (f_X9_easiestOf x0 (0 : Int32) (s.2.2)) fun r2 s1 => lB ((((31 : Int64) * (s.1)) + r2.toInt64)) fun v3 => bd (f_X9_easiestOf x0 (1 : Int32) s1) fun r5 s4 => lB ((((31 : Int64) * v3) + r5.toInt64)) fun v6 => bd (f_X9_flawNow x0 s4) fun r8 s7 => lB ((((31 : Int64) * v6) + r8.toInt64)) fun v9 => bd (f_X9_tablature x0 s7) fun r11 s10 => lB ((((31 : Int64) * v9) + r11.toInt64)) fun v12 => fx (f_X9_digest_L156 x0 r11 s10) FU (v12, (0 : Int32)) else bd (f_X9_leastBy x0 (-1 : Int32) (s.2.1) (s.2.2)) fun r14 s13 => lB ((((31 : Int64) * (s.1)) + r14.toInt64)) fun v15 => lB ((s.2.1) + (1 : Int32)) fun v16 => rec76 (v15, v16, s13))
def f_X9_digest_L6  (x0 : Nat) (rec6 : Int64 × Int32 × Sg → Option (Int64 × Sg)) (s : Int64 × Int32 × Sg) : Option (Int64 × Sg) := (if (8 : Int32) ≤ (s.2.1) then bd (f_X9_least x0 (s.2.2)) fun r2 s1 => lB ((((31 : Int64) * (s.1)) + r2.toInt64)) fun v3 => bd (f_X9_faultNow x0 s1) fun r5 s4 => lB ((((31 : Int64) * v3) + r5.toInt64)) fun v6 => bd (f_X9_costNow x0 s4) fun r8 s7 => lB ((((31 : Int64) * v6) + r8.toInt64)) fun v9 => bd (f_X9_partsDigest x0 v9 s7) fun r11 s10 => fx (f_X9_digest_L76 x0) FU (r11, (-2 : Int32), s10) else bd (f_X9_count x0 (s.2.1) (s.2.2)) fun r13 s12 => lB ((((31 : Int64) * (s.1)) + r13.toInt64)) fun v14 => lB ((s.2.1) + (1 : Int32)) fun v15 => rec6 (v14, v15, s12))
def f_X9_digest (x0 : Nat) (σ : Sg) : Option (Int64 × Sg) := fx (f_X9_digest_L6 x0) FU ((17 : Int64), (0 : Int32), σ)
theorem t_X9_digest_L219 {K : Cx} (h : Ok K cX9_digest RX9 5 rm_X9_digest (some .long)) (hs : kiv K = St) (x0 : Nat) (x4 : Int32) (y0 : Int64) (σ : Sg) (rec186 : Int64 × Int32 × Sg → Option (Int64 × Sg)) (hr186 : ∀ u, T K (QL K) 186 [(0, .ref x0), (1, .long (u.1)), (4, .int (u.2.1))] [] 0 0 (u.2.2) (rec186 u)) (hk0 : kd x0 9)  : T K (QL K) 219 [(0, .ref x0), (4, .int x4)] [.long y0] 0 0 σ (f_X9_digest_L219 rec186 x0 x4 y0 σ) := by
  unfold f_X9_digest_L219
  refine T_lstore_n (lv' := [(1, .long y0), (0, .ref x0), (4, .int x4)]) (pc := 219) h dX9_digest_219 rfl (by decide) rfl ?_
  refine T_iinc (fl := fun v1 => [(4, .int v1), (1, .long y0), (0, .ref x0)]) (pc := 220) h dX9_digest_220 2 rfl ki_1 (by decide) (fun _ => rfl) (fun v1 => ?_)
  refine T_goto (pc := 223) (tgt := 186) h dX9_digest_223 (by decide) ?_
  refine T_sub [2, 1, 0] rfl ?_
  exact hr186 (y0, v1, σ)
theorem t_X9_digest_L186 {K : Cx} (h : Ok K cX9_digest RX9 5 rm_X9_digest (some .long)) (hs : kiv K = St) (x0 : Nat)  (hk0 : kd x0 9) (rec186 : Int64 × Int32 × Sg → Option (Int64 × Sg)) (hr186 : ∀ u, T K (QL K) 186 [(0, .ref x0), (1, .long (u.1)), (4, .int (u.2.1))] [] 0 0 (u.2.2) (rec186 u)) (s : Int64 × Int32 × Sg) : T K (QL K) 186 [(0, .ref x0), (1, .long (s.1)), (4, .int (s.2.1))] [] 0 0 (s.2.2) (f_X9_digest_L186 x0 rec186 s) := by
  unfold f_X9_digest_L186
  refine T_iload (pc := 186) h dX9_digest_186 2 rfl ?_
  refine T_iconst (pc := 188) h dX9_digest_188 ki_4 ?_
  refine T_icmp_ge (pc := 189) (tgt := 226) h dX9_digest_189 (by decide) ?_ ?_
  · refine T_lload_n (pc := 226) h dX9_digest_226 rfl 1 rfl ?_
    exact T_lreturn (pc := 227) h (Nat.zero_le _) (Nat.zero_le _) dX9_digest_227
  · refine T_aload_n (pc := 192) h dX9_digest_192 rfl 0 rfl ?_
    refine T_gR (pc := 193) h hs hk0 fl_X9_47 rfl fk_9_14 dX9_digest_193 (fun hq1 => ?_)
    refine T_iload (pc := 196) h dX9_digest_196 2 rfl ?_
    refine T_zald (pc := 198) h hs hq1 dX9_digest_198 ?_
    refine T_if_eq (pc := 199) (tgt := 218) h dX9_digest_199 (by decide) ?_ ?_
    · refine T_lload_n (pc := 218) h dX9_digest_218 rfl 1 rfl ?_
      refine T_sub [0, 2] rfl ?_
      exact t_X9_digest_L219 h hs x0 (s.2.1) (s.1) (s.2.2) rec186 hr186 hk0
    · refine T_ldc2 (pc := 202) h kc_X9_334 dX9_digest_202 ?_
      refine T_lload_n (pc := 205) h dX9_digest_205 rfl 1 rfl ?_
      refine T_lmul (pc := 206) h dX9_digest_206 ?_
      refine T_aload_n (pc := 207) h dX9_digest_207 rfl 0 rfl ?_
      refine T_iload (pc := 208) h dX9_digest_208 2 rfl ?_
      refine T_callVi (pc := 210) h (M_X9_differOf (kl K) hs x0 (s.2.1) (s.2.2) hk0) mv_X9_differOf hs hk0 ml_X9_280 rfl ⟨Nat.le_of_ble_eq_true rfl, Nat.le_of_ble_eq_true rfl⟩ ⟨Nat.le_refl 0, Nat.le_refl 0⟩ (Nat.le_of_ble_eq_true rfl) dX9_digest_210 rfl (fun r3 s2 => ?_)
      refine T_i2l (pc := 213) h dX9_digest_213 ?_
      refine T_ladd (pc := 214) h dX9_digest_214 ?_
      refine T_goto (pc := 215) (tgt := 219) h dX9_digest_215 (by decide) ?_
      refine T_sub [0, 2] rfl ?_
      exact t_X9_digest_L219 h hs x0 (s.2.1) (((31 : Int64) * (s.1)) + r3.toInt64) s2 rec186 hr186 hk0
theorem t_X9_digest_L156 {K : Cx} (h : Ok K cX9_digest RX9 5 rm_X9_digest (some .long)) (hs : kiv K = St) (x0 : Nat) (x3 : Int32) (σ : Sg)  (hk0 : kd x0 9) (rec156 : Int64 × Int32 → Option (Int64 × Sg)) (hr156 : ∀ u, T K (QL K) 156 [(0, .ref x0), (1, .long (u.1)), (3, .int x3), (4, .int (u.2))] [] 0 0 σ (rec156 u)) (s : Int64 × Int32) : T K (QL K) 156 [(0, .ref x0), (1, .long (s.1)), (3, .int x3), (4, .int (s.2))] [] 0 0 σ (f_X9_digest_L156 x0 x3 σ rec156 s) := by
  unfold f_X9_digest_L156
  refine T_iload (pc := 156) h dX9_digest_156 3 rfl ?_
  refine T_iload_n (pc := 158) h dX9_digest_158 rfl 2 rfl ?_
  refine T_icmp_ge (pc := 159) (tgt := 183) h dX9_digest_159 (by decide) ?_ ?_
  · refine T_iconst (pc := 183) h dX9_digest_183 ki_0 ?_
    refine T_istore (lv' := [(4, .int (0 : Int32)), (0, .ref x0), (1, .long (s.1)), (3, .int x3)]) (pc := 184) h dX9_digest_184 (by decide) rfl ?_
    refine T_sub [1, 2, 0] rfl ?_
    exact T_fx (B := f_X9_digest_L186 x0) (fl := fun u => [(0, .ref x0), (1, .long (u.1)), (4, .int (u.2.1))]) (f := fun u => (u.2.2)) (fun rec186 hr186 u => t_X9_digest_L186 h hs x0 hk0 rec186 hr186 u) FU ((s.1), (0 : Int32), σ)
  · refine T_ldc2 (pc := 162) h kc_X9_334 dX9_digest_162 ?_
    refine T_lload_n (pc := 165) h dX9_digest_165 rfl 1 rfl ?_
    refine T_lmul (pc := 166) h dX9_digest_166 ?_
    refine T_aload_n (pc := 167) h dX9_digest_167 rfl 0 rfl ?_
    refine T_gR (pc := 168) h hs hk0 fl_X9_90 rfl fk_9_36 dX9_digest_168 (fun hq1 => ?_)
    refine T_iload (pc := 171) h dX9_digest_171 3 rfl ?_
    refine T_iald (pc := 173) h hs hq1 dX9_digest_173 ?_
    refine T_i2l (pc := 174) h dX9_digest_174 ?_
    refine T_ladd (pc := 175) h dX9_digest_175 ?_
    refine T_letL fun v2 => ?_
    refine T_lstore_n (lv' := [(1, .long v2), (0, .ref x0), (3, .int x3), (4, .int (s.2))]) (pc := 176) h dX9_digest_176 rfl (by decide) rfl ?_
    refine T_iinc (fl := fun v3 => [(4, .int v3), (1, .long v2), (0, .ref x0), (3, .int x3)]) (pc := 177) h dX9_digest_177 3 rfl ki_1 (by decide) (fun _ => rfl) (fun v3 => ?_)
    refine T_goto (pc := 180) (tgt := 156) h dX9_digest_180 (by decide) ?_
    refine T_sub [2, 1, 3, 0] rfl ?_
    exact hr156 (v2, v3)
theorem t_X9_digest_L76 {K : Cx} (h : Ok K cX9_digest RX9 5 rm_X9_digest (some .long)) (hs : kiv K = St) (x0 : Nat)  (hk0 : kd x0 9) (rec76 : Int64 × Int32 × Sg → Option (Int64 × Sg)) (hr76 : ∀ u, T K (QL K) 76 [(0, .ref x0), (1, .long (u.1)), (3, .int (u.2.1))] [] 0 0 (u.2.2) (rec76 u)) (s : Int64 × Int32 × Sg) : T K (QL K) 76 [(0, .ref x0), (1, .long (s.1)), (3, .int (s.2.1))] [] 0 0 (s.2.2) (f_X9_digest_L76 x0 rec76 s) := by
  unfold f_X9_digest_L76
  refine T_iload_n (pc := 76) h dX9_digest_76 rfl 2 rfl ?_
  refine T_iconst (pc := 77) h dX9_digest_77 ki_2 ?_
  refine T_icmp_gt (pc := 78) (tgt := 101) h dX9_digest_78 (by decide) ?_ ?_
  · refine T_ldc2 (pc := 101) h kc_X9_334 dX9_digest_101 ?_
    refine T_lload_n (pc := 104) h dX9_digest_104 rfl 1 rfl ?_
    refine T_lmul (pc := 105) h dX9_digest_105 ?_
    refine T_aload_n (pc := 106) h dX9_digest_106 rfl 0 rfl ?_
    refine T_iconst (pc := 107) h dX9_digest_107 ki_0 ?_
    refine T_callVi (pc := 108) h (M_X9_easiestOf (kl K) hs x0 (0 : Int32) (s.2.2) hk0) mv_X9_easiestOf hs hk0 ml_X9_271 rfl ⟨Nat.le_of_ble_eq_true rfl, Nat.le_of_ble_eq_true rfl⟩ ⟨Nat.le_refl 0, Nat.le_refl 0⟩ (Nat.le_of_ble_eq_true rfl) dX9_digest_108 rfl (fun r2 s1 => ?_)
    refine T_i2l (pc := 111) h dX9_digest_111 ?_
    refine T_ladd (pc := 112) h dX9_digest_112 ?_
    refine T_letL fun v3 => ?_
    refine T_lstore_n (lv' := [(1, .long v3), (0, .ref x0), (3, .int (s.2.1))]) (pc := 113) h dX9_digest_113 rfl (by decide) rfl ?_
    refine T_ldc2 (pc := 114) h kc_X9_334 dX9_digest_114 ?_
    refine T_lload_n (pc := 117) h dX9_digest_117 rfl 0 rfl ?_
    refine T_lmul (pc := 118) h dX9_digest_118 ?_
    refine T_aload_n (pc := 119) h dX9_digest_119 rfl 1 rfl ?_
    refine T_iconst (pc := 120) h dX9_digest_120 ki_1 ?_
    refine T_callVi (pc := 121) h (M_X9_easiestOf (kl K) hs x0 (1 : Int32) s1 hk0) mv_X9_easiestOf hs hk0 ml_X9_271 rfl ⟨Nat.le_of_ble_eq_true rfl, Nat.le_of_ble_eq_true rfl⟩ ⟨Nat.le_refl 0, Nat.le_refl 0⟩ (Nat.le_of_ble_eq_true rfl) dX9_digest_121 rfl (fun r5 s4 => ?_)
    refine T_i2l (pc := 124) h dX9_digest_124 ?_
    refine T_ladd (pc := 125) h dX9_digest_125 ?_
    refine T_letL fun v6 => ?_
    refine T_lstore_n (lv' := [(1, .long v6), (0, .ref x0), (3, .int (s.2.1))]) (pc := 126) h dX9_digest_126 rfl (by decide) rfl ?_
    refine T_ldc2 (pc := 127) h kc_X9_334 dX9_digest_127 ?_
    refine T_lload_n (pc := 130) h dX9_digest_130 rfl 0 rfl ?_
    refine T_lmul (pc := 131) h dX9_digest_131 ?_
    refine T_aload_n (pc := 132) h dX9_digest_132 rfl 1 rfl ?_
    refine T_callVi (pc := 133) h (M_X9_flawNow (kl K) hs x0 s4 hk0) mv_X9_flawNow hs hk0 ml_X9_319 rfl ⟨Nat.le_of_ble_eq_true rfl, Nat.le_of_ble_eq_true rfl⟩ ⟨Nat.le_refl 0, Nat.le_refl 0⟩ (Nat.le_of_ble_eq_true rfl) dX9_digest_133 rfl (fun r8 s7 => ?_)
    refine T_i2l (pc := 136) h dX9_digest_136 ?_
    refine T_ladd (pc := 137) h dX9_digest_137 ?_
    refine T_letL fun v9 => ?_
    refine T_lstore_n (lv' := [(1, .long v9), (0, .ref x0), (3, .int (s.2.1))]) (pc := 138) h dX9_digest_138 rfl (by decide) rfl ?_
    refine T_aload_n (pc := 139) h dX9_digest_139 rfl 1 rfl ?_
    refine T_callVi (pc := 140) h (M_X9_tablature (kl K) hs x0 s7 hk0) mv_X9_tablature hs hk0 ml_X9_292 rfl ⟨Nat.le_of_ble_eq_true rfl, Nat.le_of_ble_eq_true rfl⟩ ⟨Nat.le_refl 0, Nat.le_refl 0⟩ (Nat.le_of_ble_eq_true rfl) dX9_digest_140 rfl (fun r11 s10 => ?_)
    refine T_istore_n (lv' := [(3, .int r11), (1, .long v9), (0, .ref x0)]) (pc := 143) h dX9_digest_143 rfl (by decide) rfl ?_
    refine T_ldc2 (pc := 144) h kc_X9_334 dX9_digest_144 ?_
    refine T_lload_n (pc := 147) h dX9_digest_147 rfl 1 rfl ?_
    refine T_lmul (pc := 148) h dX9_digest_148 ?_
    refine T_iload_n (pc := 149) h dX9_digest_149 rfl 0 rfl ?_
    refine T_i2l (pc := 150) h dX9_digest_150 ?_
    refine T_ladd (pc := 151) h dX9_digest_151 ?_
    refine T_letL fun v12 => ?_
    refine T_lstore_n (lv' := [(1, .long v12), (3, .int r11), (0, .ref x0)]) (pc := 152) h dX9_digest_152 rfl (by decide) rfl ?_
    refine T_iconst (pc := 153) h dX9_digest_153 ki_0 ?_
    refine T_istore (lv' := [(4, .int (0 : Int32)), (1, .long v12), (3, .int r11), (0, .ref x0)]) (pc := 154) h dX9_digest_154 (by decide) rfl ?_
    refine T_sub [3, 1, 2, 0] rfl ?_
    exact T_fx (B := f_X9_digest_L156 x0 r11 s10) (fl := fun u => [(0, .ref x0), (1, .long (u.1)), (3, .int r11), (4, .int (u.2))]) (f := fun u => s10) (fun rec156 hr156 u => t_X9_digest_L156 h hs x0 r11 s10 hk0 rec156 hr156 u) FU (v12, (0 : Int32))
  · refine T_ldc2 (pc := 81) h kc_X9_334 dX9_digest_81 ?_
    refine T_lload_n (pc := 84) h dX9_digest_84 rfl 1 rfl ?_
    refine T_lmul (pc := 85) h dX9_digest_85 ?_
    refine T_aload_n (pc := 86) h dX9_digest_86 rfl 0 rfl ?_
    refine T_iconst (pc := 87) h dX9_digest_87 ki_m1 ?_
    refine T_iload_n (pc := 88) h dX9_digest_88 rfl 2 rfl ?_
    refine T_callVi (pc := 89) h (M_X9_leastBy (kl K) hs x0 (-1 : Int32) (s.2.1) (s.2.2) hk0) mv_X9_leastBy hs hk0 ml_X9_234 rfl ⟨Nat.le_of_ble_eq_true rfl, Nat.le_of_ble_eq_true rfl⟩ ⟨Nat.le_refl 0, Nat.le_refl 0⟩ (Nat.le_of_ble_eq_true rfl) dX9_digest_89 rfl (fun r14 s13 => ?_)
    refine T_i2l (pc := 92) h dX9_digest_92 ?_
    refine T_ladd (pc := 93) h dX9_digest_93 ?_
    refine T_letL fun v15 => ?_
    refine T_lstore_n (lv' := [(1, .long v15), (0, .ref x0), (3, .int (s.2.1))]) (pc := 94) h dX9_digest_94 rfl (by decide) rfl ?_
    refine T_iinc (fl := fun v16 => [(3, .int v16), (1, .long v15), (0, .ref x0)]) (pc := 95) h dX9_digest_95 2 rfl ki_1 (by decide) (fun _ => rfl) (fun v16 => ?_)
    refine T_goto (pc := 98) (tgt := 76) h dX9_digest_98 (by decide) ?_
    refine T_sub [2, 1, 0] rfl ?_
    exact hr76 (v15, v16, s13)
theorem t_X9_digest_L6 {K : Cx} (h : Ok K cX9_digest RX9 5 rm_X9_digest (some .long)) (hs : kiv K = St) (x0 : Nat)  (hk0 : kd x0 9) (rec6 : Int64 × Int32 × Sg → Option (Int64 × Sg)) (hr6 : ∀ u, T K (QL K) 6 [(0, .ref x0), (1, .long (u.1)), (3, .int (u.2.1))] [] 0 0 (u.2.2) (rec6 u)) (s : Int64 × Int32 × Sg) : T K (QL K) 6 [(0, .ref x0), (1, .long (s.1)), (3, .int (s.2.1))] [] 0 0 (s.2.2) (f_X9_digest_L6 x0 rec6 s) := by
  unfold f_X9_digest_L6
  refine T_iload_n (pc := 6) h dX9_digest_6 rfl 2 rfl ?_
  refine T_bipush (pc := 7) h dX9_digest_7 kb_8 ?_
  refine T_icmp_ge (pc := 9) (tgt := 31) h dX9_digest_9 (by decide) ?_ ?_
  · refine T_ldc2 (pc := 31) h kc_X9_334 dX9_digest_31 ?_
    refine T_lload_n (pc := 34) h dX9_digest_34 rfl 1 rfl ?_
    refine T_lmul (pc := 35) h dX9_digest_35 ?_
    refine T_aload_n (pc := 36) h dX9_digest_36 rfl 0 rfl ?_
    refine T_callVi (pc := 37) h (M_X9_least (kl K) hs x0 (s.2.2) hk0) mv_X9_least hs hk0 ml_X9_341 rfl ⟨Nat.le_of_ble_eq_true rfl, Nat.le_of_ble_eq_true rfl⟩ ⟨Nat.le_refl 0, Nat.le_refl 0⟩ (Nat.le_of_ble_eq_true rfl) dX9_digest_37 rfl (fun r2 s1 => ?_)
    refine T_i2l (pc := 40) h dX9_digest_40 ?_
    refine T_ladd (pc := 41) h dX9_digest_41 ?_
    refine T_letL fun v3 => ?_
    refine T_lstore_n (lv' := [(1, .long v3), (0, .ref x0), (3, .int (s.2.1))]) (pc := 42) h dX9_digest_42 rfl (by decide) rfl ?_
    refine T_ldc2 (pc := 43) h kc_X9_334 dX9_digest_43 ?_
    refine T_lload_n (pc := 46) h dX9_digest_46 rfl 0 rfl ?_
    refine T_lmul (pc := 47) h dX9_digest_47 ?_
    refine T_aload_n (pc := 48) h dX9_digest_48 rfl 1 rfl ?_
    refine T_callVi (pc := 49) h (M_X9_faultNow (kl K) hs x0 s1 hk0) mv_X9_faultNow hs hk0 ml_X9_240 rfl ⟨Nat.le_of_ble_eq_true rfl, Nat.le_of_ble_eq_true rfl⟩ ⟨Nat.le_refl 0, Nat.le_refl 0⟩ (Nat.le_of_ble_eq_true rfl) dX9_digest_49 rfl (fun r5 s4 => ?_)
    refine T_i2l (pc := 52) h dX9_digest_52 ?_
    refine T_ladd (pc := 53) h dX9_digest_53 ?_
    refine T_letL fun v6 => ?_
    refine T_lstore_n (lv' := [(1, .long v6), (0, .ref x0), (3, .int (s.2.1))]) (pc := 54) h dX9_digest_54 rfl (by decide) rfl ?_
    refine T_ldc2 (pc := 55) h kc_X9_334 dX9_digest_55 ?_
    refine T_lload_n (pc := 58) h dX9_digest_58 rfl 0 rfl ?_
    refine T_lmul (pc := 59) h dX9_digest_59 ?_
    refine T_aload_n (pc := 60) h dX9_digest_60 rfl 1 rfl ?_
    refine T_callVi (pc := 61) h (M_X9_costNow (kl K) hs x0 s4 hk0) mv_X9_costNow hs hk0 ml_X9_252 rfl ⟨Nat.le_of_ble_eq_true rfl, Nat.le_of_ble_eq_true rfl⟩ ⟨Nat.le_refl 0, Nat.le_refl 0⟩ (Nat.le_of_ble_eq_true rfl) dX9_digest_61 rfl (fun r8 s7 => ?_)
    refine T_i2l (pc := 64) h dX9_digest_64 ?_
    refine T_ladd (pc := 65) h dX9_digest_65 ?_
    refine T_letL fun v9 => ?_
    refine T_lstore_n (lv' := [(1, .long v9), (0, .ref x0), (3, .int (s.2.1))]) (pc := 66) h dX9_digest_66 rfl (by decide) rfl ?_
    refine T_aload_n (pc := 67) h dX9_digest_67 rfl 1 rfl ?_
    refine T_lload_n (pc := 68) h dX9_digest_68 rfl 0 rfl ?_
    refine T_callVl (pc := 69) h (M_X9_partsDigest (kl K) hs x0 v9 s7 hk0) mv_X9_partsDigest hs hk0 ml_X9_344 rfl ⟨Nat.le_of_ble_eq_true rfl, Nat.le_of_ble_eq_true rfl⟩ ⟨Nat.le_refl 0, Nat.le_refl 0⟩ (Nat.le_of_ble_eq_true rfl) dX9_digest_69 rfl (fun r11 s10 => ?_)
    refine T_lstore_n (lv' := [(1, .long r11), (0, .ref x0), (3, .int (s.2.1))]) (pc := 72) h dX9_digest_72 rfl (by decide) rfl ?_
    refine T_bipush (pc := 73) h dX9_digest_73 kb_m2 ?_
    refine T_istore_n (lv' := [(3, .int (-2 : Int32)), (1, .long r11), (0, .ref x0)]) (pc := 75) h dX9_digest_75 rfl (by decide) rfl ?_
    refine T_sub [2, 1, 0] rfl ?_
    exact T_fx (B := f_X9_digest_L76 x0) (fl := fun u => [(0, .ref x0), (1, .long (u.1)), (3, .int (u.2.1))]) (f := fun u => (u.2.2)) (fun rec76 hr76 u => t_X9_digest_L76 h hs x0 hk0 rec76 hr76 u) FU (r11, (-2 : Int32), s10)
  · refine T_ldc2 (pc := 12) h kc_X9_334 dX9_digest_12 ?_
    refine T_lload_n (pc := 15) h dX9_digest_15 rfl 1 rfl ?_
    refine T_lmul (pc := 16) h dX9_digest_16 ?_
    refine T_aload_n (pc := 17) h dX9_digest_17 rfl 0 rfl ?_
    refine T_iload_n (pc := 18) h dX9_digest_18 rfl 2 rfl ?_
    refine T_callVi (pc := 19) h (M_X9_count (kl K) hs x0 (s.2.1) (s.2.2) hk0) mv_X9_count hs hk0 ml_X9_338 rfl ⟨Nat.le_of_ble_eq_true rfl, Nat.le_of_ble_eq_true rfl⟩ ⟨Nat.le_refl 0, Nat.le_refl 0⟩ (Nat.le_of_ble_eq_true rfl) dX9_digest_19 rfl (fun r13 s12 => ?_)
    refine T_i2l (pc := 22) h dX9_digest_22 ?_
    refine T_ladd (pc := 23) h dX9_digest_23 ?_
    refine T_letL fun v14 => ?_
    refine T_lstore_n (lv' := [(1, .long v14), (0, .ref x0), (3, .int (s.2.1))]) (pc := 24) h dX9_digest_24 rfl (by decide) rfl ?_
    refine T_iinc (fl := fun v15 => [(3, .int v15), (1, .long v14), (0, .ref x0)]) (pc := 25) h dX9_digest_25 2 rfl ki_1 (by decide) (fun _ => rfl) (fun v15 => ?_)
    refine T_goto (pc := 28) (tgt := 6) h dX9_digest_28 (by decide) ?_
    refine T_sub [2, 1, 0] rfl ?_
    exact hr6 (v14, v15, s12)
theorem t_X9_digest {K : Cx} (h : Ok K cX9_digest RX9 5 rm_X9_digest (some .long)) (hs : kiv K = St) (x0 : Nat) (σ : Sg) (hk0 : kd x0 9) : T K (QL K) 0 [(0, .ref x0)] [] 0 0 σ (f_X9_digest x0 σ) := by
  unfold f_X9_digest
  refine T_ldc2 (pc := 0) h kc_X9_336 dX9_digest_0 ?_
  refine T_lstore_n (lv' := [(1, .long (17 : Int64)), (0, .ref x0)]) (pc := 3) h dX9_digest_3 rfl (by decide) rfl ?_
  refine T_iconst (pc := 4) h dX9_digest_4 ki_0 ?_
  refine T_istore_n (lv' := [(3, .int (0 : Int32)), (1, .long (17 : Int64)), (0, .ref x0)]) (pc := 5) h dX9_digest_5 rfl (by decide) rfl ?_
  refine T_sub [2, 1, 0] rfl ?_
  exact T_fx (B := f_X9_digest_L6 x0) (fl := fun u => [(0, .ref x0), (1, .long (u.1)), (3, .int (u.2.1))]) (f := fun u => (u.2.2)) (fun rec6 hr6 u => t_X9_digest_L6 h hs x0 hk0 rec6 hr6 u) FU ((17 : Int64), (0 : Int32), σ)
theorem M_X9_digest (l : Launch) {iv : Sg → Prop} (hi : iv = St) (x0 : Nat) (σ : Sg) (hk0 : kd x0 9) : CTl l yX9_digest cX9_digest 5 (some .long) rm_X9_digest iv [.ref x0] σ (f_X9_digest x0 σ) := by
  subst hi
  exact CT_of (by decide) (Nat.le_of_ble_eq_true rfl) (fun K _ h _ hs _ _ => t_X9_digest h hs x0 σ hk0)
