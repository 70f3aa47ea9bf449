/-! LuteTabsModel.findsShared(I)V -/
theorem dX9_findsShared_0 : decode cX9_findsShared 0 = .ok (.aload_n 0, 1) := by decide +kernel
theorem dX9_findsShared_1 : decode cX9_findsShared 1 = .ok (.getfield 84, 3) := by decide +kernel
theorem dX9_findsShared_4 : decode cX9_findsShared 4 = .ok (.iload_n 1, 1) := by decide +kernel
theorem dX9_findsShared_5 : decode cX9_findsShared 5 = .ok (.iconst 0, 1) := by decide +kernel
theorem dX9_findsShared_6 : decode cX9_findsShared 6 = .ok (.iastore, 1) := by decide +kernel
theorem dX9_findsShared_7 : decode cX9_findsShared 7 = .ok (.iconst 0, 1) := by decide +kernel
theorem dX9_findsShared_8 : decode cX9_findsShared 8 = .ok (.istore_n 2, 1) := by decide +kernel
theorem dX9_findsShared_9 : decode cX9_findsShared 9 = .ok (.iload_n 2, 1) := by decide +kernel
theorem dX9_findsShared_10 : decode cX9_findsShared 10 = .ok (.aload_n 0, 1) := by decide +kernel
theorem dX9_findsShared_11 : decode cX9_findsShared 11 = .ok (.getfield 57, 3) := by decide +kernel
theorem dX9_findsShared_14 : decode cX9_findsShared 14 = .ok (.iload_n 1, 1) := by decide +kernel
theorem dX9_findsShared_15 : decode cX9_findsShared 15 = .ok (.iaload, 1) := by decide +kernel
theorem dX9_findsShared_16 : decode cX9_findsShared 16 = .ok (.if_icmp .ge 109, 3) := by decide +kernel
theorem dX9_findsShared_19 : decode cX9_findsShared 19 = .ok (.iload_n 2, 1) := by decide +kernel
theorem dX9_findsShared_20 : decode cX9_findsShared 20 = .ok (.iconst 5, 1) := by decide +kernel
theorem dX9_findsShared_21 : decode cX9_findsShared 21 = .ok (.if_icmp .ge 104, 3) := by decide +kernel
theorem dX9_findsShared_24 : decode cX9_findsShared 24 = .ok (.iconst 0, 1) := by decide +kernel
theorem dX9_findsShared_25 : decode cX9_findsShared 25 = .ok (.istore_n 3, 1) := by decide +kernel
theorem dX9_findsShared_26 : decode cX9_findsShared 26 = .ok (.iload_n 3, 1) := by decide +kernel
theorem dX9_findsShared_27 : decode cX9_findsShared 27 = .ok (.aload_n 0, 1) := by decide +kernel
theorem dX9_findsShared_28 : decode cX9_findsShared 28 = .ok (.getfield 57, 3) := by decide +kernel
theorem dX9_findsShared_31 : decode cX9_findsShared 31 = .ok (.iload_n 1, 1) := by decide +kernel
theorem dX9_findsShared_32 : decode cX9_findsShared 32 = .ok (.iconst 1, 1) := by decide +kernel
theorem dX9_findsShared_33 : decode cX9_findsShared 33 = .ok (.iadd, 1) := by decide +kernel
theorem dX9_findsShared_34 : decode cX9_findsShared 34 = .ok (.iaload, 1) := by decide +kernel
theorem dX9_findsShared_35 : decode cX9_findsShared 35 = .ok (.if_icmp .ge 84, 3) := by decide +kernel
theorem dX9_findsShared_38 : decode cX9_findsShared 38 = .ok (.iload_n 3, 1) := by decide +kernel
theorem dX9_findsShared_39 : decode cX9_findsShared 39 = .ok (.iconst 5, 1) := by decide +kernel
theorem dX9_findsShared_40 : decode cX9_findsShared 40 = .ok (.if_icmp .ge 79, 3) := by decide +kernel
theorem dX9_findsShared_43 : decode cX9_findsShared 43 = .ok (.aload_n 0, 1) := by decide +kernel
theorem dX9_findsShared_44 : decode cX9_findsShared 44 = .ok (.getfield 54, 3) := by decide +kernel
theorem dX9_findsShared_47 : decode cX9_findsShared 47 = .ok (.bipush 14, 2) := by decide +kernel
theorem dX9_findsShared_49 : decode cX9_findsShared 49 = .ok (.iload_n 1, 1) := by decide +kernel
theorem dX9_findsShared_50 : decode cX9_findsShared 50 = .ok (.imul, 1) := by decide +kernel
theorem dX9_findsShared_51 : decode cX9_findsShared 51 = .ok (.iload_n 2, 1) := by decide +kernel
theorem dX9_findsShared_52 : decode cX9_findsShared 52 = .ok (.iadd, 1) := by decide +kernel
theorem dX9_findsShared_53 : decode cX9_findsShared 53 = .ok (.iaload, 1) := by decide +kernel
theorem dX9_findsShared_54 : decode cX9_findsShared 54 = .ok (.aload_n 0, 1) := by decide +kernel
theorem dX9_findsShared_55 : decode cX9_findsShared 55 = .ok (.getfield 54, 3) := by decide +kernel
theorem dX9_findsShared_58 : decode cX9_findsShared 58 = .ok (.bipush 14, 2) := by decide +kernel
theorem dX9_findsShared_60 : decode cX9_findsShared 60 = .ok (.iload_n 1, 1) := by decide +kernel
theorem dX9_findsShared_61 : decode cX9_findsShared 61 = .ok (.imul, 1) := by decide +kernel
theorem dX9_findsShared_62 : decode cX9_findsShared 62 = .ok (.bipush 14, 2) := by decide +kernel
theorem dX9_findsShared_64 : decode cX9_findsShared 64 = .ok (.iadd, 1) := by decide +kernel
theorem dX9_findsShared_65 : decode cX9_findsShared 65 = .ok (.iload_n 3, 1) := by decide +kernel
theorem dX9_findsShared_66 : decode cX9_findsShared 66 = .ok (.iadd, 1) := by decide +kernel
theorem dX9_findsShared_67 : decode cX9_findsShared 67 = .ok (.iaload, 1) := by decide +kernel
theorem dX9_findsShared_68 : decode cX9_findsShared 68 = .ok (.if_icmp .ne 45, 3) := by decide +kernel
theorem dX9_findsShared_71 : decode cX9_findsShared 71 = .ok (.aload_n 0, 1) := by decide +kernel
theorem dX9_findsShared_72 : decode cX9_findsShared 72 = .ok (.getfield 78, 3) := by decide +kernel
theorem dX9_findsShared_75 : decode cX9_findsShared 75 = .ok (.iconst 5, 1) := by decide +kernel
theorem dX9_findsShared_76 : decode cX9_findsShared 76 = .ok (.iload_n 1, 1) := by decide +kernel
theorem dX9_findsShared_77 : decode cX9_findsShared 77 = .ok (.imul, 1) := by decide +kernel
theorem dX9_findsShared_78 : decode cX9_findsShared 78 = .ok (.aload_n 0, 1) := by decide +kernel
theorem dX9_findsShared_79 : decode cX9_findsShared 79 = .ok (.getfield 84, 3) := by decide +kernel
theorem dX9_findsShared_82 : decode cX9_findsShared 82 = .ok (.iload_n 1, 1) := by decide +kernel
theorem dX9_findsShared_83 : decode cX9_findsShared 83 = .ok (.iaload, 1) := by decide +kernel
theorem dX9_findsShared_84 : decode cX9_findsShared 84 = .ok (.iadd, 1) := by decide +kernel
theorem dX9_findsShared_85 : decode cX9_findsShared 85 = .ok (.iload_n 2, 1) := by decide +kernel
theorem dX9_findsShared_86 : decode cX9_findsShared 86 = .ok (.iastore, 1) := by decide +kernel
theorem dX9_findsShared_87 : decode cX9_findsShared 87 = .ok (.aload_n 0, 1) := by decide +kernel
theorem dX9_findsShared_88 : decode cX9_findsShared 88 = .ok (.getfield 81, 3) := by decide +kernel
theorem dX9_findsShared_91 : decode cX9_findsShared 91 = .ok (.iconst 5, 1) := by decide +kernel
theorem dX9_findsShared_92 : decode cX9_findsShared 92 = .ok (.iload_n 1, 1) := by decide +kernel
theorem dX9_findsShared_93 : decode cX9_findsShared 93 = .ok (.imul, 1) := by decide +kernel
theorem dX9_findsShared_94 : decode cX9_findsShared 94 = .ok (.aload_n 0, 1) := by decide +kernel
theorem dX9_findsShared_95 : decode cX9_findsShared 95 = .ok (.getfield 84, 3) := by decide +kernel
theorem dX9_findsShared_98 : decode cX9_findsShared 98 = .ok (.iload_n 1, 1) := by decide +kernel
theorem dX9_findsShared_99 : decode cX9_findsShared 99 = .ok (.iaload, 1) := by decide +kernel
theorem dX9_findsShared_100 : decode cX9_findsShared 100 = .ok (.iadd, 1) := by decide +kernel
theorem dX9_findsShared_101 : decode cX9_findsShared 101 = .ok (.iload_n 3, 1) := by decide +kernel
theorem dX9_findsShared_102 : decode cX9_findsShared 102 = .ok (.iastore, 1) := by decide +kernel
theorem dX9_findsShared_103 : decode cX9_findsShared 103 = .ok (.aload_n 0, 1) := by decide +kernel
theorem dX9_findsShared_104 : decode cX9_findsShared 104 = .ok (.getfield 84, 3) := by decide +kernel
theorem dX9_findsShared_107 : decode cX9_findsShared 107 = .ok (.iload_n 1, 1) := by decide +kernel
theorem dX9_findsShared_108 : decode cX9_findsShared 108 = .ok (.dup2, 1) := by decide +kernel
theorem dX9_findsShared_109 : decode cX9_findsShared 109 = .ok (.iaload, 1) := by decide +kernel
theorem dX9_findsShared_110 : decode cX9_findsShared 110 = .ok (.iconst 1, 1) := by decide +kernel
theorem dX9_findsShared_111 : decode cX9_findsShared 111 = .ok (.iadd, 1) := by decide +kernel
theorem dX9_findsShared_112 : decode cX9_findsShared 112 = .ok (.iastore, 1) := by decide +kernel
theorem dX9_findsShared_113 : decode cX9_findsShared 113 = .ok (.iinc 3 1, 3) := by decide +kernel
theorem dX9_findsShared_116 : decode cX9_findsShared 116 = .ok (.goto (-90), 3) := by decide +kernel
theorem dX9_findsShared_119 : decode cX9_findsShared 119 = .ok (.iinc 2 1, 3) := by decide +kernel
theorem dX9_findsShared_122 : decode cX9_findsShared 122 = .ok (.goto (-113), 3) := by decide +kernel
theorem dX9_findsShared_125 : decode cX9_findsShared 125 = .ok (.return_, 1) := by decide +kernel
abbrev rm_X9_findsShared : Room := { frames := 0, cells := 0, slots := 0, locals := 0 }
def f_X9_findsShared_L113 (rec9 : Int32 × Sg → Option (Unit × Sg)) (rec26 : Int32 × Sg → Option (Unit × Sg)) (x0 : Nat) (x1 : Int32) (x2 : Int32) (x3 : Int32)  (σ : Sg) : Option (Unit × Sg) := lB (x3 + (1 : Int32)) fun v1 => rec26 (v1, σ)
def f_X9_findsShared_L119 (rec9 : Int32 × Sg → Option (Unit × Sg)) (x0 : Nat) (x1 : Int32) (x2 : Int32)  (σ : Sg) : Option (Unit × Sg) := lB (x2 + (1 : Int32)) fun v1 => rec9 (v1, σ)
def f_X9_findsShared_L26 (rec9 : Int32 × Sg → Option (Unit × Sg)) (x0 : Nat) (x1 : Int32) (x2 : Int32) (rec26 : Int32 × Sg → Option (Unit × Sg)) (s : Int32 × Sg) : Option (Unit × Sg) := ck (inb (x1 + (1 : Int32)) (aL (gR (s.2) x0 18))) ((if (gI (s.2) (gR (s.2) x0 18) (x1 + (1 : Int32)).toNatClampNeg) ≤ (s.1) then f_X9_findsShared_L119 rec9 x0 x1 x2 (s.2) else (if (5 : Int32) ≤ (s.1) then f_X9_findsShared_L119 rec9 x0 x1 x2 (s.2) else ck (inb (((14 : Int32) * x1) + x2) (aL (gR (s.2) x0 17))) (ck (inb ((((14 : Int32) * x1) + (14 : Int32)) + (s.1)) (aL (gR (s.2) x0 17))) ((if (gI (s.2) (gR (s.2) x0 17) (((14 : Int32) * x1) + x2).toNatClampNeg) = (gI (s.2) (gR (s.2) x0 17) ((((14 : Int32) * x1) + (14 : Int32)) + (s.1)).toNatClampNeg) then ck (inb x1 (aL (gR (s.2) x0 34))) (ck (inb (((5 : Int32) * x1) + (gI (s.2) (gR (s.2) x0 34) x1.toNatClampNeg)) (aL (gR (s.2) x0 32))) (lB (pI (s.2) (gR (s.2) x0 32) (((5 : Int32) * x1) + (gI (s.2) (gR (s.2) x0 34) x1.toNatClampNeg)).toNatClampNeg x2) fun s6 => ck (inb x1 (aL (gR s6 x0 34))) (ck (inb (((5 : Int32) * x1) + (gI s6 (gR s6 x0 34) x1.toNatClampNeg)) (aL (gR s6 x0 33))) (lB (pI s6 (gR s6 x0 33) (((5 : Int32) * x1) + (gI s6 (gR s6 x0 34) x1.toNatClampNeg)).toNatClampNeg (s.1)) fun s9 => ck (inb x1 (aL (gR s9 x0 34))) (ck (inb x1 (aL (gR s9 x0 34))) (lB (pI s9 (gR s9 x0 34) x1.toNatClampNeg ((gI s9 (gR s9 x0 34) x1.toNatClampNeg) + (1 : Int32))) fun s11 => f_X9_findsShared_L113 rec9 rec26 x0 x1 x2 (s.1) s11)))))) else f_X9_findsShared_L113 rec9 rec26 x0 x1 x2 (s.1) (s.2)))))))
def f_X9_findsShared_L125    (σ : Sg) : Option (Unit × Sg) := some ((), σ)
def f_X9_findsShared_L9  (x0 : Nat) (x1 : Int32) (rec9 : Int32 × Sg → Option (Unit × Sg)) (s : Int32 × Sg) : Option (Unit × Sg) := ck (inb x1 (aL (gR (s.2) x0 18))) ((if (gI (s.2) (gR (s.2) x0 18) x1.toNatClampNeg) ≤ (s.1) then f_X9_findsShared_L125 (s.2) else (if (5 : Int32) ≤ (s.1) then f_X9_findsShared_L125 (s.2) else fx (f_X9_findsShared_L26 rec9 x0 x1 (s.1)) FU ((0 : Int32), (s.2)))))
def f_X9_findsShared (x0 : Nat) (x1 : Int32) (σ : Sg) : Option (Unit × Sg) := ck (inb x1 (aL (gR σ x0 34))) (lB (pI σ (gR σ x0 34) x1.toNatClampNeg (0 : Int32)) fun s2 => fx (f_X9_findsShared_L9 x0 x1) FU ((0 : Int32), s2))
theorem t_X9_findsShared_L113 {K : Cx} (h : Ok K cX9_findsShared RX9 4 rm_X9_findsShared none) (hs : kiv K = St) (x0 : Nat) (x1 : Int32) (x2 : Int32) (x3 : Int32)  (σ : Sg) (rec9 : Int32 × Sg → Option (Unit × Sg)) (hr9 : ∀ u, T K (QV K) 9 [(0, .ref x0), (1, .int x1), (2, .int (u.1))] [] 0 0 (u.2) (rec9 u)) (rec26 : Int32 × Sg → Option (Unit × Sg)) (hr26 : ∀ u, T K (QV K) 26 [(0, .ref x0), (1, .int x1), (2, .int x2), (3, .int (u.1))] [] 0 0 (u.2) (rec26 u)) (hk0 : kd x0 9)  : T K (QV K) 113 [(0, .ref x0), (1, .int x1), (2, .int x2), (3, .int x3)] [] 0 0 σ (f_X9_findsShared_L113 rec9 rec26 x0 x1 x2 x3 σ) := by
  unfold f_X9_findsShared_L113
  refine T_iinc (fl := fun v1 => [(3, .int v1), (0, .ref x0), (1, .int x1), (2, .int x2)]) (pc := 113) h dX9_findsShared_113 3 rfl ki_1 (by decide) (fun _ => rfl) (fun v1 => ?_)
  refine T_goto (pc := 116) (tgt := 26) h dX9_findsShared_116 (by decide) ?_
  refine T_sub [1, 2, 3, 0] rfl ?_
  exact hr26 (v1, σ)
theorem t_X9_findsShared_L119 {K : Cx} (h : Ok K cX9_findsShared RX9 4 rm_X9_findsShared none) (hs : kiv K = St) (x0 : Nat) (x1 : Int32) (x2 : Int32)  (σ : Sg) (rec9 : Int32 × Sg → Option (Unit × Sg)) (hr9 : ∀ u, T K (QV K) 9 [(0, .ref x0), (1, .int x1), (2, .int (u.1))] [] 0 0 (u.2) (rec9 u)) (hk0 : kd x0 9)  : T K (QV K) 119 [(0, .ref x0), (1, .int x1), (2, .int x2)] [] 0 0 σ (f_X9_findsShared_L119 rec9 x0 x1 x2 σ) := by
  unfold f_X9_findsShared_L119
  refine T_iinc (fl := fun v1 => [(2, .int v1), (0, .ref x0), (1, .int x1)]) (pc := 119) h dX9_findsShared_119 2 rfl ki_1 (by decide) (fun _ => rfl) (fun v1 => ?_)
  refine T_goto (pc := 122) (tgt := 9) h dX9_findsShared_122 (by decide) ?_
  refine T_sub [1, 2, 0] rfl ?_
  exact hr9 (v1, σ)
theorem t_X9_findsShared_L26 {K : Cx} (h : Ok K cX9_findsShared RX9 4 rm_X9_findsShared none) (hs : kiv K = St) (x0 : Nat) (x1 : Int32) (x2 : Int32) (rec9 : Int32 × Sg → Option (Unit × Sg)) (hr9 : ∀ u, T K (QV K) 9 [(0, .ref x0), (1, .int x1), (2, .int (u.1))] [] 0 0 (u.2) (rec9 u)) (hk0 : kd x0 9) (rec26 : Int32 × Sg → Option (Unit × Sg)) (hr26 : ∀ u, T K (QV K) 26 [(0, .ref x0), (1, .int x1), (2, .int x2), (3, .int (u.1))] [] 0 0 (u.2) (rec26 u)) (s : Int32 × Sg) : T K (QV K) 26 [(0, .ref x0), (1, .int x1), (2, .int x2), (3, .int (s.1))] [] 0 0 (s.2) (f_X9_findsShared_L26 rec9 x0 x1 x2 rec26 s) := by
  unfold f_X9_findsShared_L26
  refine T_iload_n (pc := 26) h dX9_findsShared_26 rfl 3 rfl ?_
  refine T_aload_n (pc := 27) h dX9_findsShared_27 rfl 0 rfl ?_
  refine T_gR (pc := 28) h hs hk0 fl_X9_57 rfl fk_9_18 dX9_findsShared_28 (fun hq1 => ?_)
  refine T_iload_n (pc := 31) h dX9_findsShared_31 rfl 1 rfl ?_
  refine T_iconst (pc := 32) h dX9_findsShared_32 ki_1 ?_
  refine T_iadd (pc := 33) h dX9_findsShared_33 ?_
  refine T_iald (pc := 34) h hs hq1 dX9_findsShared_34 ?_
  refine T_icmp_ge (pc := 35) (tgt := 119) h dX9_findsShared_35 (by decide) ?_ ?_
  · refine T_sub [0, 1, 2] rfl ?_
    exact t_X9_findsShared_L119 h hs x0 x1 x2 (s.2) rec9 hr9 hk0
  · refine T_iload_n (pc := 38) h dX9_findsShared_38 rfl 3 rfl ?_
    refine T_iconst (pc := 39) h dX9_findsShared_39 ki_5 ?_
    refine T_icmp_ge (pc := 40) (tgt := 119) h dX9_findsShared_40 (by decide) ?_ ?_
    · refine T_sub [0, 1, 2] rfl ?_
      exact t_X9_findsShared_L119 h hs x0 x1 x2 (s.2) rec9 hr9 hk0
    · refine T_aload_n (pc := 43) h dX9_findsShared_43 rfl 0 rfl ?_
      refine T_gR (pc := 44) h hs hk0 fl_X9_54 rfl fk_9_17 dX9_findsShared_44 (fun hq2 => ?_)
      refine T_bipush (pc := 47) h dX9_findsShared_47 kb_14 ?_
      refine T_iload_n (pc := 49) h dX9_findsShared_49 rfl 1 rfl ?_
      refine T_imul (pc := 50) h dX9_findsShared_50 ?_
      refine T_iload_n (pc := 51) h dX9_findsShared_51 rfl 2 rfl ?_
      refine T_iadd (pc := 52) h dX9_findsShared_52 ?_
      refine T_iald (pc := 53) h hs hq2 dX9_findsShared_53 ?_
      refine T_aload_n (pc := 54) h dX9_findsShared_54 rfl 0 rfl ?_
      refine T_gR (pc := 55) h hs hk0 fl_X9_54 rfl fk_9_17 dX9_findsShared_55 (fun hq3 => ?_)
      refine T_bipush (pc := 58) h dX9_findsShared_58 kb_14 ?_
      refine T_iload_n (pc := 60) h dX9_findsShared_60 rfl 1 rfl ?_
      refine T_imul (pc := 61) h dX9_findsShared_61 ?_
      refine T_bipush (pc := 62) h dX9_findsShared_62 kb_14 ?_
      refine T_iadd (pc := 64) h dX9_findsShared_64 ?_
      refine T_iload_n (pc := 65) h dX9_findsShared_65 rfl 3 rfl ?_
      refine T_iadd (pc := 66) h dX9_findsShared_66 ?_
      refine T_iald (pc := 67) h hs hq3 dX9_findsShared_67 ?_
      refine T_icmp_ne (pc := 68) (tgt := 113) h dX9_findsShared_68 (by decide) ?_ ?_
      · refine T_sub [0, 1, 2, 3] rfl ?_
        exact t_X9_findsShared_L113 h hs x0 x1 x2 (s.1) (s.2) rec9 hr9 rec26 hr26 hk0
      · refine T_aload_n (pc := 71) h dX9_findsShared_71 rfl 0 rfl ?_
        refine T_gR (pc := 72) h hs hk0 fl_X9_78 rfl fk_9_32 dX9_findsShared_72 (fun hq4 => ?_)
        refine T_iconst (pc := 75) h dX9_findsShared_75 ki_5 ?_
        refine T_iload_n (pc := 76) h dX9_findsShared_76 rfl 1 rfl ?_
        refine T_imul (pc := 77) h dX9_findsShared_77 ?_
        refine T_aload_n (pc := 78) h dX9_findsShared_78 rfl 0 rfl ?_
        refine T_gR (pc := 79) h hs hk0 fl_X9_84 rfl fk_9_34 dX9_findsShared_79 (fun hq5 => ?_)
        refine T_iload_n (pc := 82) h dX9_findsShared_82 rfl 1 rfl ?_
        refine T_iald (pc := 83) h hs hq5 dX9_findsShared_83 ?_
        refine T_iadd (pc := 84) h dX9_findsShared_84 ?_
        refine T_iload_n (pc := 85) h dX9_findsShared_85 rfl 2 rfl ?_
        refine T_iast (pc := 86) h hs hq4 dX9_findsShared_86 ?_
        refine T_letS fun s6 => ?_
        refine T_aload_n (pc := 87) h dX9_findsShared_87 rfl 0 rfl ?_
        refine T_gR (pc := 88) h hs hk0 fl_X9_81 rfl fk_9_33 dX9_findsShared_88 (fun hq7 => ?_)
        refine T_iconst (pc := 91) h dX9_findsShared_91 ki_5 ?_
        refine T_iload_n (pc := 92) h dX9_findsShared_92 rfl 1 rfl ?_
        refine T_imul (pc := 93) h dX9_findsShared_93 ?_
        refine T_aload_n (pc := 94) h dX9_findsShared_94 rfl 0 rfl ?_
        refine T_gR (pc := 95) h hs hk0 fl_X9_84 rfl fk_9_34 dX9_findsShared_95 (fun hq8 => ?_)
        refine T_iload_n (pc := 98) h dX9_findsShared_98 rfl 1 rfl ?_
        refine T_iald (pc := 99) h hs hq8 dX9_findsShared_99 ?_
        refine T_iadd (pc := 100) h dX9_findsShared_100 ?_
        refine T_iload_n (pc := 101) h dX9_findsShared_101 rfl 3 rfl ?_
        refine T_iast (pc := 102) h hs hq7 dX9_findsShared_102 ?_
        refine T_letS fun s9 => ?_
        refine T_aload_n (pc := 103) h dX9_findsShared_103 rfl 0 rfl ?_
        refine T_gR (pc := 104) h hs hk0 fl_X9_84 rfl fk_9_34 dX9_findsShared_104 (fun hq10 => ?_)
        refine T_iload_n (pc := 107) h dX9_findsShared_107 rfl 1 rfl ?_
        refine T_dup2 (pc := 108) h dX9_findsShared_108 rfl rfl ?_
        refine T_iald (pc := 109) h hs hq10 dX9_findsShared_109 ?_
        refine T_iconst (pc := 110) h dX9_findsShared_110 ki_1 ?_
        refine T_iadd (pc := 111) h dX9_findsShared_111 ?_
        refine T_iast (pc := 112) h hs hq10 dX9_findsShared_112 ?_
        refine T_letS fun s11 => ?_
        refine T_sub [0, 1, 2, 3] rfl ?_
        exact t_X9_findsShared_L113 h hs x0 x1 x2 (s.1) s11 rec9 hr9 rec26 hr26 hk0
theorem t_X9_findsShared_L125 {K : Cx} (h : Ok K cX9_findsShared RX9 4 rm_X9_findsShared none) (hs : kiv K = St)   (σ : Sg)    : T K (QV K) 125 [] [] 0 0 σ (f_X9_findsShared_L125 σ) := by
  unfold f_X9_findsShared_L125
  exact T_return (pc := 125) h (Nat.zero_le _) (Nat.zero_le _) dX9_findsShared_125
theorem t_X9_findsShared_L9 {K : Cx} (h : Ok K cX9_findsShared RX9 4 rm_X9_findsShared none) (hs : kiv K = St) (x0 : Nat) (x1 : Int32)  (hk0 : kd x0 9) (rec9 : Int32 × Sg → Option (Unit × Sg)) (hr9 : ∀ u, T K (QV K) 9 [(0, .ref x0), (1, .int x1), (2, .int (u.1))] [] 0 0 (u.2) (rec9 u)) (s : Int32 × Sg) : T K (QV K) 9 [(0, .ref x0), (1, .int x1), (2, .int (s.1))] [] 0 0 (s.2) (f_X9_findsShared_L9 x0 x1 rec9 s) := by
  unfold f_X9_findsShared_L9
  refine T_iload_n (pc := 9) h dX9_findsShared_9 rfl 2 rfl ?_
  refine T_aload_n (pc := 10) h dX9_findsShared_10 rfl 0 rfl ?_
  refine T_gR (pc := 11) h hs hk0 fl_X9_57 rfl fk_9_18 dX9_findsShared_11 (fun hq1 => ?_)
  refine T_iload_n (pc := 14) h dX9_findsShared_14 rfl 1 rfl ?_
  refine T_iald (pc := 15) h hs hq1 dX9_findsShared_15 ?_
  refine T_icmp_ge (pc := 16) (tgt := 125) h dX9_findsShared_16 (by decide) ?_ ?_
  · refine T_sub [] rfl ?_
    exact t_X9_findsShared_L125 h hs (s.2)
  · refine T_iload_n (pc := 19) h dX9_findsShared_19 rfl 2 rfl ?_
    refine T_iconst (pc := 20) h dX9_findsShared_20 ki_5 ?_
    refine T_icmp_ge (pc := 21) (tgt := 125) h dX9_findsShared_21 (by decide) ?_ ?_
    · refine T_sub [] rfl ?_
      exact t_X9_findsShared_L125 h hs (s.2)
    · refine T_iconst (pc := 24) h dX9_findsShared_24 ki_0 ?_
      refine T_istore_n (lv' := [(3, .int (0 : Int32)), (0, .ref x0), (1, .int x1), (2, .int (s.1))]) (pc := 25) h dX9_findsShared_25 rfl (by decide) rfl ?_
      refine T_sub [1, 2, 3, 0] rfl ?_
      exact T_fx (B := f_X9_findsShared_L26 rec9 x0 x1 (s.1)) (fl := fun u => [(0, .ref x0), (1, .int x1), (2, .int (s.1)), (3, .int (u.1))]) (f := fun u => (u.2)) (fun rec26 hr26 u => t_X9_findsShared_L26 h hs x0 x1 (s.1) rec9 hr9 hk0 rec26 hr26 u) FU ((0 : Int32), (s.2))
theorem t_X9_findsShared {K : Cx} (h : Ok K cX9_findsShared RX9 4 rm_X9_findsShared none) (hs : kiv K = St) (x0 : Nat) (x1 : Int32) (σ : Sg) (hk0 : kd x0 9) : T K (QV K) 0 [(0, .ref x0), (1, .int x1)] [] 0 0 σ (f_X9_findsShared x0 x1 σ) := by
  unfold f_X9_findsShared
  refine T_aload_n (pc := 0) h dX9_findsShared_0 rfl 0 rfl ?_
  refine T_gR (pc := 1) h hs hk0 fl_X9_84 rfl fk_9_34 dX9_findsShared_1 (fun hq1 => ?_)
  refine T_iload_n (pc := 4) h dX9_findsShared_4 rfl 1 rfl ?_
  refine T_iconst (pc := 5) h dX9_findsShared_5 ki_0 ?_
  refine T_iast (pc := 6) h hs hq1 dX9_findsShared_6 ?_
  refine T_letS fun s2 => ?_
  refine T_iconst (pc := 7) h dX9_findsShared_7 ki_0 ?_
  refine T_istore_n (lv' := [(2, .int (0 : Int32)), (0, .ref x0), (1, .int x1)]) (pc := 8) h dX9_findsShared_8 rfl (by decide) rfl ?_
  refine T_sub [1, 2, 0] rfl ?_
  exact T_fx (B := f_X9_findsShared_L9 x0 x1) (fl := fun u => [(0, .ref x0), (1, .int x1), (2, .int (u.1))]) (f := fun u => (u.2)) (fun rec9 hr9 u => t_X9_findsShared_L9 h hs x0 x1 hk0 rec9 hr9 u) FU ((0 : Int32), s2)
theorem M_X9_findsShared (l : Launch) {iv : Sg → Prop} (hi : iv = St) (x0 : Nat) (x1 : Int32) (σ : Sg) (hk0 : kd x0 9) : CTv l yX9_findsShared cX9_findsShared 4 none rm_X9_findsShared iv [.ref x0, .int x1] σ (f_X9_findsShared x0 x1 σ) := by
  subst hi
  exact CT_of (by decide) (Nat.le_of_ble_eq_true rfl) (fun K _ h _ hs _ _ => t_X9_findsShared h hs x0 x1 σ hk0)
/-! LuteTabsModel.goesOn(III)Z -/
theorem dX9_goesOn_0 : decode cX9_goesOn 0 = .ok (.iconst 1, 1) := by decide +kernel
theorem dX9_goesOn_1 : decode cX9_goesOn 1 = .ok (.istore 4, 2) := by decide +kernel
theorem dX9_goesOn_3 : decode cX9_goesOn 3 = .ok (.iconst 5, 1) := by decide +kernel
theorem dX9_goesOn_4 : decode cX9_goesOn 4 = .ok (.iload_n 1, 1) := by decide +kernel
theorem dX9_goesOn_5 : decode cX9_goesOn 5 = .ok (.imul, 1) := by decide +kernel
theorem dX9_goesOn_6 : decode cX9_goesOn 6 = .ok (.istore 5, 2) := by decide +kernel
theorem dX9_goesOn_8 : decode cX9_goesOn 8 = .ok (.iload 5, 2) := by decide +kernel
theorem dX9_goesOn_10 : decode cX9_goesOn 10 = .ok (.iconst 5, 1) := by decide +kernel
theorem dX9_goesOn_11 : decode cX9_goesOn 11 = .ok (.iload_n 1, 1) := by decide +kernel
theorem dX9_goesOn_12 : decode cX9_goesOn 12 = .ok (.imul, 1) := by decide +kernel
theorem dX9_goesOn_13 : decode cX9_goesOn 13 = .ok (.aload_n 0, 1) := by decide +kernel
theorem dX9_goesOn_14 : decode cX9_goesOn 14 = .ok (.getfield 84, 3) := by decide +kernel
theorem dX9_goesOn_17 : decode cX9_goesOn 17 = .ok (.iload_n 1, 1) := by decide +kernel
theorem dX9_goesOn_18 : decode cX9_goesOn 18 = .ok (.iaload, 1) := by decide +kernel
theorem dX9_goesOn_19 : decode cX9_goesOn 19 = .ok (.iadd, 1) := by decide +kernel
theorem dX9_goesOn_20 : decode cX9_goesOn 20 = .ok (.if_icmp .ge 46, 3) := by decide +kernel
theorem dX9_goesOn_23 : decode cX9_goesOn 23 = .ok (.iload 4, 2) := by decide +kernel
theorem dX9_goesOn_25 : decode cX9_goesOn 25 = .ok (.ifCond .eq 41, 3) := by decide +kernel
theorem dX9_goesOn_28 : decode cX9_goesOn 28 = .ok (.iload_n 2, 1) := by decide +kernel
theorem dX9_goesOn_29 : decode cX9_goesOn 29 = .ok (.aload_n 0, 1) := by decide +kernel
theorem dX9_goesOn_30 : decode cX9_goesOn 30 = .ok (.getfield 78, 3) := by decide +kernel
theorem dX9_goesOn_33 : decode cX9_goesOn 33 = .ok (.iload 5, 2) := by decide +kernel
theorem dX9_goesOn_35 : decode cX9_goesOn 35 = .ok (.iaload, 1) := by decide +kernel
theorem dX9_goesOn_36 : decode cX9_goesOn 36 = .ok (.invokestatic 200, 3) := by decide +kernel
theorem dX9_goesOn_39 : decode cX9_goesOn 39 = .ok (.iload_n 3, 1) := by decide +kernel
theorem dX9_goesOn_40 : decode cX9_goesOn 40 = .ok (.aload_n 0, 1) := by decide +kernel
theorem dX9_goesOn_41 : decode cX9_goesOn 41 = .ok (.getfield 81, 3) := by decide +kernel
theorem dX9_goesOn_44 : decode cX9_goesOn 44 = .ok (.iload 5, 2) := by decide +kernel
theorem dX9_goesOn_46 : decode cX9_goesOn 46 = .ok (.iaload, 1) := by decide +kernel
theorem dX9_goesOn_47 : decode cX9_goesOn 47 = .ok (.invokestatic 200, 3) := by decide +kernel
theorem dX9_goesOn_50 : decode cX9_goesOn 50 = .ok (.if_icmp .ne 7, 3) := by decide +kernel
theorem dX9_goesOn_53 : decode cX9_goesOn 53 = .ok (.iconst 1, 1) := by decide +kernel
theorem dX9_goesOn_54 : decode cX9_goesOn 54 = .ok (.goto 4, 3) := by decide +kernel
theorem dX9_goesOn_57 : decode cX9_goesOn 57 = .ok (.iconst 0, 1) := by decide +kernel
theorem dX9_goesOn_58 : decode cX9_goesOn 58 = .ok (.istore 4, 2) := by decide +kernel
theorem dX9_goesOn_60 : decode cX9_goesOn 60 = .ok (.iinc 5 1, 3) := by decide +kernel
theorem dX9_goesOn_63 : decode cX9_goesOn 63 = .ok (.goto (-55), 3) := by decide +kernel
theorem dX9_goesOn_66 : decode cX9_goesOn 66 = .ok (.iload 4, 2) := by decide +kernel
theorem dX9_goesOn_68 : decode cX9_goesOn 68 = .ok (.ireturn, 1) := by decide +kernel
abbrev rm_X9_goesOn : Room := { frames := 1, cells := 0, slots := 0, locals := 21 }
def f_X9_goesOn_L58 (rec8 : Int32 × Int32 × Sg → Option (Int32 × Sg)) (x0 : Nat) (x1 : Int32) (x2 : Int32) (x3 : Int32) (x5 : Int32) (y0 : Int32) (σ : Sg) : Option (Int32 × Sg) := lB (x5 + (1 : Int32)) fun v1 => rec8 (y0, v1, σ)
def f_X9_goesOn_L66  (x4 : Int32)  (σ : Sg) : Option (Int32 × Sg) := ck (b01 x4) (some (x4, σ))
def f_X9_goesOn_L8  (x0 : Nat) (x1 : Int32) (x2 : Int32) (x3 : Int32) (rec8 : Int32 × Int32 × Sg → Option (Int32 × Sg)) (s : Int32 × Int32 × Sg) : Option (Int32 × Sg) := ck (inb x1 (aL (gR (s.2.2) x0 34))) ((if (((5 : Int32) * x1) + (gI (s.2.2) (gR (s.2.2) x0 34) x1.toNatClampNeg)) ≤ (s.2.1) then f_X9_goesOn_L66 (s.1) (s.2.2) else (if (s.1) = 0 then f_X9_goesOn_L66 (s.1) (s.2.2) else ck (inb (s.2.1) (aL (gR (s.2.2) x0 32))) (bd (f_X9_courseIn x2 (gI (s.2.2) (gR (s.2.2) x0 32) (s.2.1).toNatClampNeg) (s.2.2)) fun r4 s3 => ck (inb (s.2.1) (aL (gR s3 x0 33))) (bd (f_X9_courseIn x3 (gI s3 (gR s3 x0 33) (s.2.1).toNatClampNeg) s3) fun r7 s6 => (if r4 = r7 then f_X9_goesOn_L58 rec8 x0 x1 x2 x3 (s.2.1) (1 : Int32) s6 else f_X9_goesOn_L58 rec8 x0 x1 x2 x3 (s.2.1) (0 : Int32) s6))))))
def f_X9_goesOn (x0 : Nat) (x1 : Int32) (x2 : Int32) (x3 : Int32) (σ : Sg) : Option (Int32 × Sg) := lB (((5 : Int32) * x1)) fun v1 => fx (f_X9_goesOn_L8 x0 x1 x2 x3) FU ((1 : Int32), v1, σ)
theorem t_X9_goesOn_L58 {K : Cx} (h : Ok K cX9_goesOn RX9 6 rm_X9_goesOn (some .boolean)) (hs : kiv K = St) (x0 : Nat) (x1 : Int32) (x2 : Int32) (x3 : Int32) (x5 : Int32) (y0 : Int32) (σ : Sg) (rec8 : Int32 × Int32 × Sg → Option (Int32 × Sg)) (hr8 : ∀ u, T K (QI K) 8 [(0, .ref x0), (1, .int x1), (2, .int x2), (3, .int x3), (4, .int (u.1)), (5, .int (u.2.1))] [] 0 0 (u.2.2) (rec8 u)) (hk0 : kd x0 9)  : T K (QI K) 58 [(0, .ref x0), (1, .int x1), (2, .int x2), (3, .int x3), (5, .int x5)] [.int y0] 0 0 σ (f_X9_goesOn_L58 rec8 x0 x1 x2 x3 x5 y0 σ) := by
  unfold f_X9_goesOn_L58
  refine T_istore (lv' := [(4, .int y0), (0, .ref x0), (1, .int x1), (2, .int x2), (3, .int x3), (5, .int x5)]) (pc := 58) h dX9_goesOn_58 (by decide) rfl ?_
  refine T_iinc (fl := fun v1 => [(5, .int v1), (4, .int y0), (0, .ref x0), (1, .int x1), (2, .int x2), (3, .int x3)]) (pc := 60) h dX9_goesOn_60 5 rfl ki_1 (by decide) (fun _ => rfl) (fun v1 => ?_)
  refine T_goto (pc := 63) (tgt := 8) h dX9_goesOn_63 (by decide) ?_
  refine T_sub [2, 3, 4, 5, 1, 0] rfl ?_
  exact hr8 (y0, v1, σ)
theorem t_X9_goesOn_L66 {K : Cx} (h : Ok K cX9_goesOn RX9 6 rm_X9_goesOn (some .boolean)) (hs : kiv K = St) (x4 : Int32)  (σ : Sg)    : T K (QI K) 66 [(4, .int x4)] [] 0 0 σ (f_X9_goesOn_L66 x4 σ) := by
  unfold f_X9_goesOn_L66
  refine T_iload (pc := 66) h dX9_goesOn_66 0 rfl ?_
  exact T_zreturn (pc := 68) h (Nat.zero_le _) (Nat.zero_le _) dX9_goesOn_68
theorem t_X9_goesOn_L8 {K : Cx} (h : Ok K cX9_goesOn RX9 6 rm_X9_goesOn (some .boolean)) (hs : kiv K = St) (x0 : Nat) (x1 : Int32) (x2 : Int32) (x3 : Int32)  (hk0 : kd x0 9) (rec8 : Int32 × Int32 × Sg → Option (Int32 × Sg)) (hr8 : ∀ u, T K (QI K) 8 [(0, .ref x0), (1, .int x1), (2, .int x2), (3, .int x3), (4, .int (u.1)), (5, .int (u.2.1))] [] 0 0 (u.2.2) (rec8 u)) (s : Int32 × Int32 × Sg) : T K (QI K) 8 [(0, .ref x0), (1, .int x1), (2, .int x2), (3, .int x3), (4, .int (s.1)), (5, .int (s.2.1))] [] 0 0 (s.2.2) (f_X9_goesOn_L8 x0 x1 x2 x3 rec8 s) := by
  unfold f_X9_goesOn_L8
  refine T_iload (pc := 8) h dX9_goesOn_8 5 rfl ?_
  refine T_iconst (pc := 10) h dX9_goesOn_10 ki_5 ?_
  refine T_iload_n (pc := 11) h dX9_goesOn_11 rfl 1 rfl ?_
  refine T_imul (pc := 12) h dX9_goesOn_12 ?_
  refine T_aload_n (pc := 13) h dX9_goesOn_13 rfl 0 rfl ?_
  refine T_gR (pc := 14) h hs hk0 fl_X9_84 rfl fk_9_34 dX9_goesOn_14 (fun hq1 => ?_)
  refine T_iload_n (pc := 17) h dX9_goesOn_17 rfl 1 rfl ?_
  refine T_iald (pc := 18) h hs hq1 dX9_goesOn_18 ?_
  refine T_iadd (pc := 19) h dX9_goesOn_19 ?_
  refine T_icmp_ge (pc := 20) (tgt := 66) h dX9_goesOn_20 (by decide) ?_ ?_
  · refine T_sub [4] rfl ?_
    exact t_X9_goesOn_L66 h hs (s.1) (s.2.2)
  · refine T_iload (pc := 23) h dX9_goesOn_23 4 rfl ?_
    refine T_if_eq (pc := 25) (tgt := 66) h dX9_goesOn_25 (by decide) ?_ ?_
    · refine T_sub [4] rfl ?_
      exact t_X9_goesOn_L66 h hs (s.1) (s.2.2)
    · refine T_iload_n (pc := 28) h dX9_goesOn_28 rfl 2 rfl ?_
      refine T_aload_n (pc := 29) h dX9_goesOn_29 rfl 0 rfl ?_
      refine T_gR (pc := 30) h hs hk0 fl_X9_78 rfl fk_9_32 dX9_goesOn_30 (fun hq2 => ?_)
      refine T_iload (pc := 33) h dX9_goesOn_33 5 rfl ?_
      refine T_iald (pc := 35) h hs hq2 dX9_goesOn_35 ?_
      refine T_callSi (pc := 36) h (M_X9_courseIn (kl K) hs x2 (gI (s.2.2) (gR (s.2.2) x0 32) (s.2.1).toNatClampNeg) (s.2.2) ) mst_X9_courseIn ml_X9_200 rfl ⟨Nat.le_of_ble_eq_true rfl, Nat.le_of_ble_eq_true rfl⟩ ⟨Nat.le_refl 0, Nat.le_refl 0⟩ (Nat.le_of_ble_eq_true rfl) dX9_goesOn_36 rfl (fun r4 s3 => ?_)
      refine T_iload_n (pc := 39) h dX9_goesOn_39 rfl 3 rfl ?_
      refine T_aload_n (pc := 40) h dX9_goesOn_40 rfl 0 rfl ?_
      refine T_gR (pc := 41) h hs hk0 fl_X9_81 rfl fk_9_33 dX9_goesOn_41 (fun hq5 => ?_)
      refine T_iload (pc := 44) h dX9_goesOn_44 5 rfl ?_
      refine T_iald (pc := 46) h hs hq5 dX9_goesOn_46 ?_
      refine T_callSi (pc := 47) h (M_X9_courseIn (kl K) hs x3 (gI s3 (gR s3 x0 33) (s.2.1).toNatClampNeg) s3 ) mst_X9_courseIn ml_X9_200 rfl ⟨Nat.le_of_ble_eq_true rfl, Nat.le_of_ble_eq_true rfl⟩ ⟨Nat.le_refl 0, Nat.le_refl 0⟩ (Nat.le_of_ble_eq_true rfl) dX9_goesOn_47 rfl (fun r7 s6 => ?_)
      refine T_icmp_ne (pc := 50) (tgt := 57) h dX9_goesOn_50 (by decide) ?_ ?_
      · refine T_iconst (pc := 57) h dX9_goesOn_57 ki_0 ?_
        refine T_sub [0, 1, 2, 3, 5] rfl ?_
        exact t_X9_goesOn_L58 h hs x0 x1 x2 x3 (s.2.1) (0 : Int32) s6 rec8 hr8 hk0
      · refine T_iconst (pc := 53) h dX9_goesOn_53 ki_1 ?_
        refine T_goto (pc := 54) (tgt := 58) h dX9_goesOn_54 (by decide) ?_
        refine T_sub [0, 1, 2, 3, 5] rfl ?_
        exact t_X9_goesOn_L58 h hs x0 x1 x2 x3 (s.2.1) (1 : Int32) s6 rec8 hr8 hk0
theorem t_X9_goesOn {K : Cx} (h : Ok K cX9_goesOn RX9 6 rm_X9_goesOn (some .boolean)) (hs : kiv K = St) (x0 : Nat) (x1 : Int32) (x2 : Int32) (x3 : Int32) (σ : Sg) (hk0 : kd x0 9) : T K (QI K) 0 [(0, .ref x0), (1, .int x1), (2, .int x2), (3, .int x3)] [] 0 0 σ (f_X9_goesOn x0 x1 x2 x3 σ) := by
  unfold f_X9_goesOn
  refine T_iconst (pc := 0) h dX9_goesOn_0 ki_1 ?_
  refine T_istore (lv' := [(4, .int (1 : Int32)), (0, .ref x0), (1, .int x1), (2, .int x2), (3, .int x3)]) (pc := 1) h dX9_goesOn_1 (by decide) rfl ?_
  refine T_iconst (pc := 3) h dX9_goesOn_3 ki_5 ?_
  refine T_iload_n (pc := 4) h dX9_goesOn_4 rfl 2 rfl ?_
  refine T_imul (pc := 5) h dX9_goesOn_5 ?_
  refine T_letI fun v1 => ?_
  refine T_istore (lv' := [(5, .int v1), (4, .int (1 : Int32)), (0, .ref x0), (1, .int x1), (2, .int x2), (3, .int x3)]) (pc := 6) h dX9_goesOn_6 (by decide) rfl ?_
  refine T_sub [2, 3, 4, 5, 1, 0] rfl ?_
  exact T_fx (B := f_X9_goesOn_L8 x0 x1 x2 x3) (fl := fun u => [(0, .ref x0), (1, .int x1), (2, .int x2), (3, .int x3), (4, .int (u.1)), (5, .int (u.2.1))]) (f := fun u => (u.2.2)) (fun rec8 hr8 u => t_X9_goesOn_L8 h hs x0 x1 x2 x3 hk0 rec8 hr8 u) FU ((1 : Int32), v1, σ)
theorem M_X9_goesOn (l : Launch) {iv : Sg → Prop} (hi : iv = St) (x0 : Nat) (x1 : Int32) (x2 : Int32) (x3 : Int32) (σ : Sg) (hk0 : kd x0 9) : CTi l yX9_goesOn cX9_goesOn 6 (some .boolean) rm_X9_goesOn iv [.ref x0, .int x1, .int x2, .int x3] σ (f_X9_goesOn x0 x1 x2 x3 σ) := by
  subst hi
  exact CT_of (by decide) (Nat.le_of_ble_eq_true rfl) (fun K _ h _ hs _ _ => t_X9_goesOn h hs x0 x1 x2 x3 σ hk0)
/-! LuteTabsModel.joined(III)I -/
theorem dX9_joined_0 : decode cX9_joined 0 = .ok (.aload_n 0, 1) := by decide +kernel
theorem dX9_joined_1 : decode cX9_joined 1 = .ok (.iload_n 1, 1) := by decide +kernel
theorem dX9_joined_2 : decode cX9_joined 2 = .ok (.aload_n 0, 1) := by decide +kernel
theorem dX9_joined_3 : decode cX9_joined 3 = .ok (.getfield 63, 3) := by decide +kernel
theorem dX9_joined_6 : decode cX9_joined 6 = .ok (.sipush 128, 3) := by decide +kernel
theorem dX9_joined_9 : decode cX9_joined 9 = .ok (.iload_n 1, 1) := by decide +kernel
theorem dX9_joined_10 : decode cX9_joined 10 = .ok (.imul, 1) := by decide +kernel
theorem dX9_joined_11 : decode cX9_joined 11 = .ok (.iload_n 2, 1) := by decide +kernel
theorem dX9_joined_12 : decode cX9_joined 12 = .ok (.iadd, 1) := by decide +kernel
theorem dX9_joined_13 : decode cX9_joined 13 = .ok (.iaload, 1) := by decide +kernel
theorem dX9_joined_14 : decode cX9_joined 14 = .ok (.aload_n 0, 1) := by decide +kernel
theorem dX9_joined_15 : decode cX9_joined 15 = .ok (.getfield 63, 3) := by decide +kernel
theorem dX9_joined_18 : decode cX9_joined 18 = .ok (.sipush 128, 3) := by decide +kernel
theorem dX9_joined_21 : decode cX9_joined 21 = .ok (.iload_n 1, 1) := by decide +kernel
theorem dX9_joined_22 : decode cX9_joined 22 = .ok (.imul, 1) := by decide +kernel
theorem dX9_joined_23 : decode cX9_joined 23 = .ok (.sipush 128, 3) := by decide +kernel
theorem dX9_joined_26 : decode cX9_joined 26 = .ok (.iadd, 1) := by decide +kernel
theorem dX9_joined_27 : decode cX9_joined 27 = .ok (.iload_n 3, 1) := by decide +kernel
theorem dX9_joined_28 : decode cX9_joined 28 = .ok (.iadd, 1) := by decide +kernel
theorem dX9_joined_29 : decode cX9_joined 29 = .ok (.iaload, 1) := by decide +kernel
theorem dX9_joined_30 : decode cX9_joined 30 = .ok (.invokevirtual 215, 3) := by decide +kernel
theorem dX9_joined_33 : decode cX9_joined 33 = .ok (.ifCond .eq 55, 3) := by decide +kernel
theorem dX9_joined_36 : decode cX9_joined 36 = .ok (.aload_n 0, 1) := by decide +kernel
theorem dX9_joined_37 : decode cX9_joined 37 = .ok (.getfield 75, 3) := by decide +kernel
theorem dX9_joined_40 : decode cX9_joined 40 = .ok (.sipush 128, 3) := by decide +kernel
theorem dX9_joined_43 : decode cX9_joined 43 = .ok (.iload_n 1, 1) := by decide +kernel
theorem dX9_joined_44 : decode cX9_joined 44 = .ok (.imul, 1) := by decide +kernel
theorem dX9_joined_45 : decode cX9_joined 45 = .ok (.sipush 128, 3) := by decide +kernel
theorem dX9_joined_48 : decode cX9_joined 48 = .ok (.iadd, 1) := by decide +kernel
theorem dX9_joined_49 : decode cX9_joined 49 = .ok (.iload_n 3, 1) := by decide +kernel
theorem dX9_joined_50 : decode cX9_joined 50 = .ok (.iadd, 1) := by decide +kernel
theorem dX9_joined_51 : decode cX9_joined 51 = .ok (.iaload, 1) := by decide +kernel
theorem dX9_joined_52 : decode cX9_joined 52 = .ok (.aload_n 0, 1) := by decide +kernel
theorem dX9_joined_53 : decode cX9_joined 53 = .ok (.aload_n 0, 1) := by decide +kernel
theorem dX9_joined_54 : decode cX9_joined 54 = .ok (.getfield 69, 3) := by decide +kernel
theorem dX9_joined_57 : decode cX9_joined 57 = .ok (.sipush 128, 3) := by decide +kernel
theorem dX9_joined_60 : decode cX9_joined 60 = .ok (.iload_n 1, 1) := by decide +kernel
theorem dX9_joined_61 : decode cX9_joined 61 = .ok (.imul, 1) := by decide +kernel
theorem dX9_joined_62 : decode cX9_joined 62 = .ok (.iload_n 2, 1) := by decide +kernel
theorem dX9_joined_63 : decode cX9_joined 63 = .ok (.iadd, 1) := by decide +kernel
theorem dX9_joined_64 : decode cX9_joined 64 = .ok (.iaload, 1) := by decide +kernel
theorem dX9_joined_65 : decode cX9_joined 65 = .ok (.aload_n 0, 1) := by decide +kernel
theorem dX9_joined_66 : decode cX9_joined 66 = .ok (.getfield 69, 3) := by decide +kernel
theorem dX9_joined_69 : decode cX9_joined 69 = .ok (.sipush 128, 3) := by decide +kernel
theorem dX9_joined_72 : decode cX9_joined 72 = .ok (.iload_n 1, 1) := by decide +kernel
theorem dX9_joined_73 : decode cX9_joined 73 = .ok (.imul, 1) := by decide +kernel
theorem dX9_joined_74 : decode cX9_joined 74 = .ok (.sipush 128, 3) := by decide +kernel
theorem dX9_joined_77 : decode cX9_joined 77 = .ok (.iadd, 1) := by decide +kernel
theorem dX9_joined_78 : decode cX9_joined 78 = .ok (.iload_n 3, 1) := by decide +kernel
theorem dX9_joined_79 : decode cX9_joined 79 = .ok (.iadd, 1) := by decide +kernel
theorem dX9_joined_80 : decode cX9_joined 80 = .ok (.iaload, 1) := by decide +kernel
theorem dX9_joined_81 : decode cX9_joined 81 = .ok (.invokevirtual 218, 3) := by decide +kernel
theorem dX9_joined_84 : decode cX9_joined 84 = .ok (.iadd, 1) := by decide +kernel
theorem dX9_joined_85 : decode cX9_joined 85 = .ok (.goto 5, 3) := by decide +kernel
theorem dX9_joined_88 : decode cX9_joined 88 = .ok (.ldc 221, 2) := by decide +kernel
theorem dX9_joined_90 : decode cX9_joined 90 = .ok (.ireturn, 1) := by decide +kernel
abbrev rm_X9_joined : Room := { frames := 2, cells := 0, slots := 0, locals := 46 }
def f_X9_joined_L90   (y0 : Int32) (σ : Sg) : Option (Int32 × Sg) := some (y0, σ)
def f_X9_joined (x0 : Nat) (x1 : Int32) (x2 : Int32) (x3 : Int32) (σ : Sg) : Option (Int32 × Sg) := ck (inb (((128 : Int32) * x1) + x2) (aL (gR σ x0 27))) (ck (inb ((((128 : Int32) * x1) + (128 : Int32)) + x3) (aL (gR σ x0 27))) (bd (f_X9_goesOn x0 x1 (gI σ (gR σ x0 27) (((128 : Int32) * x1) + x2).toNatClampNeg) (gI σ (gR σ x0 27) ((((128 : Int32) * x1) + (128 : Int32)) + x3).toNatClampNeg) σ) fun r4 s3 => (if r4 = 0 then f_X9_joined_L90 (1000000 : Int32) s3 else ck (inb ((((128 : Int32) * x1) + (128 : Int32)) + x3) (aL (gR s3 x0 31))) (ck (inb (((128 : Int32) * x1) + x2) (aL (gR s3 x0 29))) (ck (inb ((((128 : Int32) * x1) + (128 : Int32)) + x3) (aL (gR s3 x0 29))) (bd (f_X9_shiftCost x0 (gI s3 (gR s3 x0 29) (((128 : Int32) * x1) + x2).toNatClampNeg) (gI s3 (gR s3 x0 29) ((((128 : Int32) * x1) + (128 : Int32)) + x3).toNatClampNeg) s3) fun r9 s8 => f_X9_joined_L90 ((gI s3 (gR s3 x0 31) ((((128 : Int32) * x1) + (128 : Int32)) + x3).toNatClampNeg) + r9) s8))))))
theorem t_X9_joined_L90 {K : Cx} (h : Ok K cX9_joined RX9 4 rm_X9_joined (some .int)) (hs : kiv K = St)  (y0 : Int32) (σ : Sg)    : T K (QI K) 90 [] [.int y0] 0 0 σ (f_X9_joined_L90 y0 σ) := by
  unfold f_X9_joined_L90
  exact T_ireturn (pc := 90) h (Nat.zero_le _) (Nat.zero_le _) dX9_joined_90
theorem t_X9_joined {K : Cx} (h : Ok K cX9_joined RX9 4 rm_X9_joined (some .int)) (hs : kiv K = St) (x0 : Nat) (x1 : Int32) (x2 : Int32) (x3 : Int32) (σ : Sg) (hk0 : kd x0 9) : T K (QI K) 0 [(0, .ref x0), (1, .int x1), (2, .int x2), (3, .int x3)] [] 0 0 σ (f_X9_joined x0 x1 x2 x3 σ) := by
  unfold f_X9_joined
  refine T_aload_n (pc := 0) h dX9_joined_0 rfl 0 rfl ?_
  refine T_iload_n (pc := 1) h dX9_joined_1 rfl 1 rfl ?_
  refine T_aload_n (pc := 2) h dX9_joined_2 rfl 0 rfl ?_
  refine T_gR (pc := 3) h hs hk0 fl_X9_63 rfl fk_9_27 dX9_joined_3 (fun hq1 => ?_)
  refine T_sipush (pc := 6) h dX9_joined_6 ks_128 ?_
  refine T_iload_n (pc := 9) h dX9_joined_9 rfl 1 rfl ?_
  refine T_imul (pc := 10) h dX9_joined_10 ?_
  refine T_iload_n (pc := 11) h dX9_joined_11 rfl 2 rfl ?_
  refine T_iadd (pc := 12) h dX9_joined_12 ?_
  refine T_iald (pc := 13) h hs hq1 dX9_joined_13 ?_
  refine T_aload_n (pc := 14) h dX9_joined_14 rfl 0 rfl ?_
  refine T_gR (pc := 15) h hs hk0 fl_X9_63 rfl fk_9_27 dX9_joined_15 (fun hq2 => ?_)
  refine T_sipush (pc := 18) h dX9_joined_18 ks_128 ?_
  refine T_iload_n (pc := 21) h dX9_joined_21 rfl 1 rfl ?_
  refine T_imul (pc := 22) h dX9_joined_22 ?_
  refine T_sipush (pc := 23) h dX9_joined_23 ks_128 ?_
  refine T_iadd (pc := 26) h dX9_joined_26 ?_
  refine T_iload_n (pc := 27) h dX9_joined_27 rfl 3 rfl ?_
  refine T_iadd (pc := 28) h dX9_joined_28 ?_
  refine T_iald (pc := 29) h hs hq2 dX9_joined_29 ?_
  refine T_callVi (pc := 30) h (M_X9_goesOn (kl K) hs x0 x1 (gI σ (gR σ x0 27) (((128 : Int32) * x1) + x2).toNatClampNeg) (gI σ (gR σ x0 27) ((((128 : Int32) * x1) + (128 : Int32)) + x3).toNatClampNeg) σ hk0) mv_X9_goesOn hs hk0 ml_X9_215 rfl ⟨Nat.le_of_ble_eq_true rfl, Nat.le_of_ble_eq_true rfl⟩ ⟨Nat.le_refl 0, Nat.le_refl 0⟩ (Nat.le_of_ble_eq_true rfl) dX9_joined_30 rfl (fun r4 s3 => ?_)
  refine T_if_eq (pc := 33) (tgt := 88) h dX9_joined_33 (by decide) ?_ ?_
  · refine T_ldc (pc := 88) h kc_X9_221 dX9_joined_88 ?_
    refine T_sub [] rfl ?_
    exact t_X9_joined_L90 h hs (1000000 : Int32) s3
  · refine T_aload_n (pc := 36) h dX9_joined_36 rfl 0 rfl ?_
    refine T_gR (pc := 37) h hs hk0 fl_X9_75 rfl fk_9_31 dX9_joined_37 (fun hq5 => ?_)
    refine T_sipush (pc := 40) h dX9_joined_40 ks_128 ?_
    refine T_iload_n (pc := 43) h dX9_joined_43 rfl 1 rfl ?_
    refine T_imul (pc := 44) h dX9_joined_44 ?_
    refine T_sipush (pc := 45) h dX9_joined_45 ks_128 ?_
    refine T_iadd (pc := 48) h dX9_joined_48 ?_
    refine T_iload_n (pc := 49) h dX9_joined_49 rfl 3 rfl ?_
    refine T_iadd (pc := 50) h dX9_joined_50 ?_
    refine T_iald (pc := 51) h hs hq5 dX9_joined_51 ?_
    refine T_aload_n (pc := 52) h dX9_joined_52 rfl 0 rfl ?_
    refine T_aload_n (pc := 53) h dX9_joined_53 rfl 0 rfl ?_
    refine T_gR (pc := 54) h hs hk0 fl_X9_69 rfl fk_9_29 dX9_joined_54 (fun hq6 => ?_)
    refine T_sipush (pc := 57) h dX9_joined_57 ks_128 ?_
    refine T_iload_n (pc := 60) h dX9_joined_60 rfl 1 rfl ?_
    refine T_imul (pc := 61) h dX9_joined_61 ?_
    refine T_iload_n (pc := 62) h dX9_joined_62 rfl 2 rfl ?_
    refine T_iadd (pc := 63) h dX9_joined_63 ?_
    refine T_iald (pc := 64) h hs hq6 dX9_joined_64 ?_
    refine T_aload_n (pc := 65) h dX9_joined_65 rfl 0 rfl ?_
    refine T_gR (pc := 66) h hs hk0 fl_X9_69 rfl fk_9_29 dX9_joined_66 (fun hq7 => ?_)
    refine T_sipush (pc := 69) h dX9_joined_69 ks_128 ?_
    refine T_iload_n (pc := 72) h dX9_joined_72 rfl 1 rfl ?_
    refine T_imul (pc := 73) h dX9_joined_73 ?_
    refine T_sipush (pc := 74) h dX9_joined_74 ks_128 ?_
    refine T_iadd (pc := 77) h dX9_joined_77 ?_
    refine T_iload_n (pc := 78) h dX9_joined_78 rfl 3 rfl ?_
    refine T_iadd (pc := 79) h dX9_joined_79 ?_
    refine T_iald (pc := 80) h hs hq7 dX9_joined_80 ?_
    refine T_callVi (pc := 81) h (M_X9_shiftCost (kl K) hs x0 (gI s3 (gR s3 x0 29) (((128 : Int32) * x1) + x2).toNatClampNeg) (gI s3 (gR s3 x0 29) ((((128 : Int32) * x1) + (128 : Int32)) + x3).toNatClampNeg) s3 hk0) mv_X9_shiftCost hs hk0 ml_X9_218 rfl ⟨Nat.le_of_ble_eq_true rfl, Nat.le_of_ble_eq_true rfl⟩ ⟨Nat.le_refl 0, Nat.le_refl 0⟩ (Nat.le_of_ble_eq_true rfl) dX9_joined_81 rfl (fun r9 s8 => ?_)
    refine T_iadd (pc := 84) h dX9_joined_84 ?_
    refine T_goto (pc := 85) (tgt := 90) h dX9_joined_85 (by decide) ?_
    refine T_sub [] rfl ?_
    exact t_X9_joined_L90 h hs ((gI s3 (gR s3 x0 31) ((((128 : Int32) * x1) + (128 : Int32)) + x3).toNatClampNeg) + r9) s8
theorem M_X9_joined (l : Launch) {iv : Sg → Prop} (hi : iv = St) (x0 : Nat) (x1 : Int32) (x2 : Int32) (x3 : Int32) (σ : Sg) (hk0 : kd x0 9) : CTi l yX9_joined cX9_joined 4 (some .int) rm_X9_joined iv [.ref x0, .int x1, .int x2, .int x3] σ (f_X9_joined x0 x1 x2 x3 σ) := by
  subst hi
  exact CT_of (by decide) (Nat.le_of_ble_eq_true rfl) (fun K _ h _ hs _ _ => t_X9_joined h hs x0 x1 x2 x3 σ hk0)
/-! LuteTabsModel.findsRest(I)V -/
theorem dX9_findsRest_0 : decode cX9_findsRest 0 = .ok (.iconst 0, 1) := by decide +kernel
theorem dX9_findsRest_1 : decode cX9_findsRest 1 = .ok (.istore_n 2, 1) := by decide +kernel
theorem dX9_findsRest_2 : decode cX9_findsRest 2 = .ok (.iload_n 2, 1) := by decide +kernel
theorem dX9_findsRest_3 : decode cX9_findsRest 3 = .ok (.aload_n 0, 1) := by decide +kernel
theorem dX9_findsRest_4 : decode cX9_findsRest 4 = .ok (.getfield 66, 3) := by decide +kernel
theorem dX9_findsRest_7 : decode cX9_findsRest 7 = .ok (.iload_n 1, 1) := by decide +kernel
theorem dX9_findsRest_8 : decode cX9_findsRest 8 = .ok (.iaload, 1) := by decide +kernel
theorem dX9_findsRest_9 : decode cX9_findsRest 9 = .ok (.if_icmp .ge 118, 3) := by decide +kernel
theorem dX9_findsRest_12 : decode cX9_findsRest 12 = .ok (.iload_n 1, 1) := by decide +kernel
theorem dX9_findsRest_13 : decode cX9_findsRest 13 = .ok (.iconst 1, 1) := by decide +kernel
theorem dX9_findsRest_14 : decode cX9_findsRest 14 = .ok (.iadd, 1) := by decide +kernel
theorem dX9_findsRest_15 : decode cX9_findsRest 15 = .ok (.aload_n 0, 1) := by decide +kernel
theorem dX9_findsRest_16 : decode cX9_findsRest 16 = .ok (.getfield 157, 3) := by decide +kernel
theorem dX9_findsRest_19 : decode cX9_findsRest 19 = .ok (.if_icmp .ne 7, 3) := by decide +kernel
theorem dX9_findsRest_22 : decode cX9_findsRest 22 = .ok (.iconst 0, 1) := by decide +kernel
theorem dX9_findsRest_23 : decode cX9_findsRest 23 = .ok (.goto 5, 3) := by decide +kernel
theorem dX9_findsRest_26 : decode cX9_findsRest 26 = .ok (.ldc 221, 2) := by decide +kernel
theorem dX9_findsRest_28 : decode cX9_findsRest 28 = .ok (.istore_n 3, 1) := by decide +kernel
theorem dX9_findsRest_29 : decode cX9_findsRest 29 = .ok (.iconst 0, 1) := by decide +kernel
theorem dX9_findsRest_30 : decode cX9_findsRest 30 = .ok (.istore 4, 2) := by decide +kernel
theorem dX9_findsRest_32 : decode cX9_findsRest 32 = .ok (.iload_n 1, 1) := by decide +kernel
theorem dX9_findsRest_33 : decode cX9_findsRest 33 = .ok (.iconst 1, 1) := by decide +kernel
theorem dX9_findsRest_34 : decode cX9_findsRest 34 = .ok (.iadd, 1) := by decide +kernel
theorem dX9_findsRest_35 : decode cX9_findsRest 35 = .ok (.aload_n 0, 1) := by decide +kernel
theorem dX9_findsRest_36 : decode cX9_findsRest 36 = .ok (.getfield 157, 3) := by decide +kernel
theorem dX9_findsRest_39 : decode cX9_findsRest 39 = .ok (.if_icmp .ge 45, 3) := by decide +kernel
theorem dX9_findsRest_42 : decode cX9_findsRest 42 = .ok (.iload 4, 2) := by decide +kernel
theorem dX9_findsRest_44 : decode cX9_findsRest 44 = .ok (.aload_n 0, 1) := by decide +kernel
theorem dX9_findsRest_45 : decode cX9_findsRest 45 = .ok (.getfield 66, 3) := by decide +kernel
theorem dX9_findsRest_48 : decode cX9_findsRest 48 = .ok (.iload_n 1, 1) := by decide +kernel
theorem dX9_findsRest_49 : decode cX9_findsRest 49 = .ok (.iconst 1, 1) := by decide +kernel
theorem dX9_findsRest_50 : decode cX9_findsRest 50 = .ok (.iadd, 1) := by decide +kernel
theorem dX9_findsRest_51 : decode cX9_findsRest 51 = .ok (.iaload, 1) := by decide +kernel
theorem dX9_findsRest_52 : decode cX9_findsRest 52 = .ok (.if_icmp .ge 32, 3) := by decide +kernel
theorem dX9_findsRest_55 : decode cX9_findsRest 55 = .ok (.aload_n 0, 1) := by decide +kernel
theorem dX9_findsRest_56 : decode cX9_findsRest 56 = .ok (.iload_n 1, 1) := by decide +kernel
theorem dX9_findsRest_57 : decode cX9_findsRest 57 = .ok (.iload_n 2, 1) := by decide +kernel
theorem dX9_findsRest_58 : decode cX9_findsRest 58 = .ok (.iload 4, 2) := by decide +kernel
theorem dX9_findsRest_60 : decode cX9_findsRest 60 = .ok (.invokevirtual 222, 3) := by decide +kernel
theorem dX9_findsRest_63 : decode cX9_findsRest 63 = .ok (.istore 5, 2) := by decide +kernel
theorem dX9_findsRest_65 : decode cX9_findsRest 65 = .ok (.iload 5, 2) := by decide +kernel
theorem dX9_findsRest_67 : decode cX9_findsRest 67 = .ok (.iload_n 3, 1) := by decide +kernel
theorem dX9_findsRest_68 : decode cX9_findsRest 68 = .ok (.if_icmp .ge 8, 3) := by decide +kernel
theorem dX9_findsRest_71 : decode cX9_findsRest 71 = .ok (.iload 5, 2) := by decide +kernel
theorem dX9_findsRest_73 : decode cX9_findsRest 73 = .ok (.goto 4, 3) := by decide +kernel
theorem dX9_findsRest_76 : decode cX9_findsRest 76 = .ok (.iload_n 3, 1) := by decide +kernel
theorem dX9_findsRest_77 : decode cX9_findsRest 77 = .ok (.istore_n 3, 1) := by decide +kernel
theorem dX9_findsRest_78 : decode cX9_findsRest 78 = .ok (.iinc 4 1, 3) := by decide +kernel
theorem dX9_findsRest_81 : decode cX9_findsRest 81 = .ok (.goto (-49), 3) := by decide +kernel
theorem dX9_findsRest_84 : decode cX9_findsRest 84 = .ok (.aload_n 0, 1) := by decide +kernel
theorem dX9_findsRest_85 : decode cX9_findsRest 85 = .ok (.getfield 75, 3) := by decide +kernel
theorem dX9_findsRest_88 : decode cX9_findsRest 88 = .ok (.sipush 128, 3) := by decide +kernel
theorem dX9_findsRest_91 : decode cX9_findsRest 91 = .ok (.iload_n 1, 1) := by decide +kernel
theorem dX9_findsRest_92 : decode cX9_findsRest 92 = .ok (.imul, 1) := by decide +kernel
theorem dX9_findsRest_93 : decode cX9_findsRest 93 = .ok (.iload_n 2, 1) := by decide +kernel
theorem dX9_findsRest_94 : decode cX9_findsRest 94 = .ok (.iadd, 1) := by decide +kernel
theorem dX9_findsRest_95 : decode cX9_findsRest 95 = .ok (.iload_n 3, 1) := by decide +kernel
theorem dX9_findsRest_96 : decode cX9_findsRest 96 = .ok (.ldc 221, 2) := by decide +kernel
theorem dX9_findsRest_98 : decode cX9_findsRest 98 = .ok (.if_icmp .lt 8, 3) := by decide +kernel
theorem dX9_findsRest_101 : decode cX9_findsRest 101 = .ok (.ldc 221, 2) := by decide +kernel
theorem dX9_findsRest_103 : decode cX9_findsRest 103 = .ok (.goto 17, 3) := by decide +kernel
theorem dX9_findsRest_106 : decode cX9_findsRest 106 = .ok (.iload_n 3, 1) := by decide +kernel
theorem dX9_findsRest_107 : decode cX9_findsRest 107 = .ok (.aload_n 0, 1) := by decide +kernel
theorem dX9_findsRest_108 : decode cX9_findsRest 108 = .ok (.getfield 72, 3) := by decide +kernel
theorem dX9_findsRest_111 : decode cX9_findsRest 111 = .ok (.sipush 128, 3) := by decide +kernel
theorem dX9_findsRest_114 : decode cX9_findsRest 114 = .ok (.iload_n 1, 1) := by decide +kernel
theorem dX9_findsRest_115 : decode cX9_findsRest 115 = .ok (.imul, 1) := by decide +kernel
theorem dX9_findsRest_116 : decode cX9_findsRest 116 = .ok (.iload_n 2, 1) := by decide +kernel
theorem dX9_findsRest_117 : decode cX9_findsRest 117 = .ok (.iadd, 1) := by decide +kernel
theorem dX9_findsRest_118 : decode cX9_findsRest 118 = .ok (.iaload, 1) := by decide +kernel
theorem dX9_findsRest_119 : decode cX9_findsRest 119 = .ok (.iadd, 1) := by decide +kernel
theorem dX9_findsRest_120 : decode cX9_findsRest 120 = .ok (.iastore, 1) := by decide +kernel
theorem dX9_findsRest_121 : decode cX9_findsRest 121 = .ok (.iinc 2 1, 3) := by decide +kernel
theorem dX9_findsRest_124 : decode cX9_findsRest 124 = .ok (.goto (-122), 3) := by decide +kernel
theorem dX9_findsRest_127 : decode cX9_findsRest 127 = .ok (.return_, 1) := by decide +kernel
abbrev rm_X9_findsRest : Room := { frames := 3, cells := 0, slots := 0, locals := 69 }
def f_X9_findsRest_L77 (rec2 : Int32 × Sg → Option (Unit × Sg)) (rec32 : Int32 × Int32 × Sg → Option (Unit × Sg)) (x0 : Nat) (x1 : Int32) (x2 : Int32) (x4 : Int32) (y0 : Int32) (σ : Sg) : Option (Unit × Sg) := lB (x4 + (1 : Int32)) fun v1 => rec32 (y0, v1, σ)
def f_X9_findsRest_L120 (rec2 : Int32 × Sg → Option (Unit × Sg)) (x0 : Nat) (x1 : Int32) (x2 : Int32) (y0 : Nat) (y1 : Int32) (y2 : Int32) (σ : Sg) : Option (Unit × Sg) := ck (inb y1 (aL y0)) (lB (pI σ y0 y1.toNatClampNeg y2) fun s1 => lB (x2 + (1 : Int32)) fun v2 => rec2 (v2, s1))
def f_X9_findsRest_L84 (rec2 : Int32 × Sg → Option (Unit × Sg)) (x0 : Nat) (x1 : Int32) (x2 : Int32) (x3 : Int32)  (σ : Sg) : Option (Unit × Sg) := (if x3 < (1000000 : Int32) then ck (inb (((128 : Int32) * x1) + x2) (aL (gR σ x0 30))) (f_X9_findsRest_L120 rec2 x0 x1 x2 (gR σ x0 31) (((128 : Int32) * x1) + x2) (x3 + (gI σ (gR σ x0 30) (((128 : Int32) * x1) + x2).toNatClampNeg)) σ) else f_X9_findsRest_L120 rec2 x0 x1 x2 (gR σ x0 31) (((128 : Int32) * x1) + x2) (1000000 : Int32) σ)
def f_X9_findsRest_L32 (rec2 : Int32 × Sg → Option (Unit × Sg)) (x0 : Nat) (x1 : Int32) (x2 : Int32) (rec32 : Int32 × Int32 × Sg → Option (Unit × Sg)) (s : Int32 × Int32 × Sg) : Option (Unit × Sg) := (if (gI (s.2.2) x0 16) ≤ (x1 + (1 : Int32)) then f_X9_findsRest_L84 rec2 x0 x1 x2 (s.1) (s.2.2) else ck (inb (x1 + (1 : Int32)) (aL (gR (s.2.2) x0 28))) ((if (gI (s.2.2) (gR (s.2.2) x0 28) (x1 + (1 : Int32)).toNatClampNeg) ≤ (s.2.1) then f_X9_findsRest_L84 rec2 x0 x1 x2 (s.1) (s.2.2) else bd (f_X9_joined x0 x1 x2 (s.2.1) (s.2.2)) fun r3 s2 => (if (s.1) ≤ r3 then f_X9_findsRest_L77 rec2 rec32 x0 x1 x2 (s.2.1) (s.1) s2 else f_X9_findsRest_L77 rec2 rec32 x0 x1 x2 (s.2.1) r3 s2))))
def f_X9_findsRest_L28 (rec2 : Int32 × Sg → Option (Unit × Sg)) (x0 : Nat) (x1 : Int32) (x2 : Int32) (y0 : Int32) (σ : Sg) : Option (Unit × Sg) := fx (f_X9_findsRest_L32 rec2 x0 x1 x2) FU (y0, (0 : Int32), σ)
def f_X9_findsRest_L2  (x0 : Nat) (x1 : Int32) (rec2 : Int32 × Sg → Option (Unit × Sg)) (s : Int32 × Sg) : Option (Unit × Sg) := ck (inb x1 (aL (gR (s.2) x0 28))) ((if (gI (s.2) (gR (s.2) x0 28) x1.toNatClampNeg) ≤ (s.1) then some ((), (s.2)) else (if (x1 + (1 : Int32)) = (gI (s.2) x0 16) then f_X9_findsRest_L28 rec2 x0 x1 (s.1) (0 : Int32) (s.2) else f_X9_findsRest_L28 rec2 x0 x1 (s.1) (1000000 : Int32) (s.2))))
def f_X9_findsRest (x0 : Nat) (x1 : Int32) (σ : Sg) : Option (Unit × Sg) := fx (f_X9_findsRest_L2 x0 x1) FU ((0 : Int32), σ)
theorem t_X9_findsRest_L77 {K : Cx} (h : Ok K cX9_findsRest RX9 6 rm_X9_findsRest none) (hs : kiv K = St) (x0 : Nat) (x1 : Int32) (x2 : Int32) (x4 : Int32) (y0 : Int32) (σ : Sg) (rec2 : Int32 × Sg → Option (Unit × Sg)) (hr2 : ∀ u, T K (QV K) 2 [(0, .ref x0), (1, .int x1), (2, .int (u.1))] [] 0 0 (u.2) (rec2 u)) (rec32 : Int32 × Int32 × Sg → Option (Unit × Sg)) (hr32 : ∀ u, T K (QV K) 32 [(0, .ref x0), (1, .int x1), (2, .int x2), (3, .int (u.1)), (4, .int (u.2.1))] [] 0 0 (u.2.2) (rec32 u)) (hk0 : kd x0 9)  : T K (QV K) 77 [(0, .ref x0), (1, .int x1), (2, .int x2), (4, .int x4)] [.int y0] 0 0 σ (f_X9_findsRest_L77 rec2 rec32 x0 x1 x2 x4 y0 σ) := by
  unfold f_X9_findsRest_L77
  refine T_istore_n (lv' := [(3, .int y0), (0, .ref x0), (1, .int x1), (2, .int x2), (4, .int x4)]) (pc := 77) h dX9_findsRest_77 rfl (by decide) rfl ?_
  refine T_iinc (fl := fun v1 => [(4, .int v1), (3, .int y0), (0, .ref x0), (1, .int x1), (2, .int x2)]) (pc := 78) h dX9_findsRest_78 4 rfl ki_1 (by decide) (fun _ => rfl) (fun v1 => ?_)
  refine T_goto (pc := 81) (tgt := 32) h dX9_findsRest_81 (by decide) ?_
  refine T_sub [2, 3, 4, 1, 0] rfl ?_
  exact hr32 (y0, v1, σ)
theorem t_X9_findsRest_L120 {K : Cx} (h : Ok K cX9_findsRest RX9 6 rm_X9_findsRest none) (hs : kiv K = St) (x0 : Nat) (x1 : Int32) (x2 : Int32) (y0 : Nat) (y1 : Int32) (y2 : Int32) (σ : Sg) (rec2 : Int32 × Sg → Option (Unit × Sg)) (hr2 : ∀ u, T K (QV K) 2 [(0, .ref x0), (1, .int x1), (2, .int (u.1))] [] 0 0 (u.2) (rec2 u)) (hk0 : kd x0 9) (hy0 : kd y0 10) : T K (QV K) 120 [(0, .ref x0), (1, .int x1), (2, .int x2)] [.int y2, .int y1, .ref y0] 0 0 σ (f_X9_findsRest_L120 rec2 x0 x1 x2 y0 y1 y2 σ) := by
  unfold f_X9_findsRest_L120
  refine T_iast (pc := 120) h hs hy0 dX9_findsRest_120 ?_
  refine T_letS fun s1 => ?_
  refine T_iinc (fl := fun v2 => [(2, .int v2), (0, .ref x0), (1, .int x1)]) (pc := 121) h dX9_findsRest_121 2 rfl ki_1 (by decide) (fun _ => rfl) (fun v2 => ?_)
  refine T_goto (pc := 124) (tgt := 2) h dX9_findsRest_124 (by decide) ?_
  refine T_sub [1, 2, 0] rfl ?_
  exact hr2 (v2, s1)
theorem t_X9_findsRest_L84 {K : Cx} (h : Ok K cX9_findsRest RX9 6 rm_X9_findsRest none) (hs : kiv K = St) (x0 : Nat) (x1 : Int32) (x2 : Int32) (x3 : Int32)  (σ : Sg) (rec2 : Int32 × Sg → Option (Unit × Sg)) (hr2 : ∀ u, T K (QV K) 2 [(0, .ref x0), (1, .int x1), (2, .int (u.1))] [] 0 0 (u.2) (rec2 u)) (hk0 : kd x0 9)  : T K (QV K) 84 [(0, .ref x0), (1, .int x1), (2, .int x2), (3, .int x3)] [] 0 0 σ (f_X9_findsRest_L84 rec2 x0 x1 x2 x3 σ) := by
  unfold f_X9_findsRest_L84
  refine T_aload_n (pc := 84) h dX9_findsRest_84 rfl 0 rfl ?_
  refine T_gR (pc := 85) h hs hk0 fl_X9_75 rfl fk_9_31 dX9_findsRest_85 (fun hq1 => ?_)
  refine T_sipush (pc := 88) h dX9_findsRest_88 ks_128 ?_
  refine T_iload_n (pc := 91) h dX9_findsRest_91 rfl 1 rfl ?_
  refine T_imul (pc := 92) h dX9_findsRest_92 ?_
  refine T_iload_n (pc := 93) h dX9_findsRest_93 rfl 2 rfl ?_
  refine T_iadd (pc := 94) h dX9_findsRest_94 ?_
  refine T_iload_n (pc := 95) h dX9_findsRest_95 rfl 3 rfl ?_
  refine T_ldc (pc := 96) h kc_X9_221 dX9_findsRest_96 ?_
  refine T_icmp_lt (pc := 98) (tgt := 106) h dX9_findsRest_98 (by decide) ?_ ?_
  · refine T_iload_n (pc := 106) h dX9_findsRest_106 rfl 3 rfl ?_
    refine T_aload_n (pc := 107) h dX9_findsRest_107 rfl 0 rfl ?_
    refine T_gR (pc := 108) h hs hk0 fl_X9_72 rfl fk_9_30 dX9_findsRest_108 (fun hq2 => ?_)
    refine T_sipush (pc := 111) h dX9_findsRest_111 ks_128 ?_
    refine T_iload_n (pc := 114) h dX9_findsRest_114 rfl 1 rfl ?_
    refine T_imul (pc := 115) h dX9_findsRest_115 ?_
    refine T_iload_n (pc := 116) h dX9_findsRest_116 rfl 2 rfl ?_
    refine T_iadd (pc := 117) h dX9_findsRest_117 ?_
    refine T_iald (pc := 118) h hs hq2 dX9_findsRest_118 ?_
    refine T_iadd (pc := 119) h dX9_findsRest_119 ?_
    refine T_sub [0, 1, 2] rfl ?_
    exact t_X9_findsRest_L120 h hs x0 x1 x2 (gR σ x0 31) (((128 : Int32) * x1) + x2) (x3 + (gI σ (gR σ x0 30) (((128 : Int32) * x1) + x2).toNatClampNeg)) σ rec2 hr2 hk0 hq1
  · refine T_ldc (pc := 101) h kc_X9_221 dX9_findsRest_101 ?_
    refine T_goto (pc := 103) (tgt := 120) h dX9_findsRest_103 (by decide) ?_
    refine T_sub [0, 1, 2] rfl ?_
    exact t_X9_findsRest_L120 h hs x0 x1 x2 (gR σ x0 31) (((128 : Int32) * x1) + x2) (1000000 : Int32) σ rec2 hr2 hk0 hq1
theorem t_X9_findsRest_L32 {K : Cx} (h : Ok K cX9_findsRest RX9 6 rm_X9_findsRest none) (hs : kiv K = St) (x0 : Nat) (x1 : Int32) (x2 : Int32) (rec2 : Int32 × Sg → Option (Unit × Sg)) (hr2 : ∀ u, T K (QV K) 2 [(0, .ref x0), (1, .int x1), (2, .int (u.1))] [] 0 0 (u.2) (rec2 u)) (hk0 : kd x0 9) (rec32 : Int32 × Int32 × Sg → Option (Unit × Sg)) (hr32 : ∀ u, T K (QV K) 32 [(0, .ref x0), (1, .int x1), (2, .int x2), (3, .int (u.1)), (4, .int (u.2.1))] [] 0 0 (u.2.2) (rec32 u)) (s : Int32 × Int32 × Sg) : T K (QV K) 32 [(0, .ref x0), (1, .int x1), (2, .int x2), (3, .int (s.1)), (4, .int (s.2.1))] [] 0 0 (s.2.2) (f_X9_findsRest_L32 rec2 x0 x1 x2 rec32 s) := by
  unfold f_X9_findsRest_L32
  refine T_iload_n (pc := 32) h dX9_findsRest_32 rfl 1 rfl ?_
  refine T_iconst (pc := 33) h dX9_findsRest_33 ki_1 ?_
  refine T_iadd (pc := 34) h dX9_findsRest_34 ?_
  refine T_aload_n (pc := 35) h dX9_findsRest_35 rfl 0 rfl ?_
  refine T_getI (pc := 36) h hs hk0 fl_X9_157 rfl dX9_findsRest_36 ?_
  refine T_icmp_ge (pc := 39) (tgt := 84) h dX9_findsRest_39 (by decide) ?_ ?_
  · refine T_sub [0, 1, 2, 3] rfl ?_
    exact t_X9_findsRest_L84 h hs x0 x1 x2 (s.1) (s.2.2) rec2 hr2 hk0
  · refine T_iload (pc := 42) h dX9_findsRest_42 4 rfl ?_
    refine T_aload_n (pc := 44) h dX9_findsRest_44 rfl 0 rfl ?_
    refine T_gR (pc := 45) h hs hk0 fl_X9_66 rfl fk_9_28 dX9_findsRest_45 (fun hq1 => ?_)
    refine T_iload_n (pc := 48) h dX9_findsRest_48 rfl 1 rfl ?_
    refine T_iconst (pc := 49) h dX9_findsRest_49 ki_1 ?_
    refine T_iadd (pc := 50) h dX9_findsRest_50 ?_
    refine T_iald (pc := 51) h hs hq1 dX9_findsRest_51 ?_
    refine T_icmp_ge (pc := 52) (tgt := 84) h dX9_findsRest_52 (by decide) ?_ ?_
    · refine T_sub [0, 1, 2, 3] rfl ?_
      exact t_X9_findsRest_L84 h hs x0 x1 x2 (s.1) (s.2.2) rec2 hr2 hk0
    · refine T_aload_n (pc := 55) h dX9_findsRest_55 rfl 0 rfl ?_
      refine T_iload_n (pc := 56) h dX9_findsRest_56 rfl 1 rfl ?_
      refine T_iload_n (pc := 57) h dX9_findsRest_57 rfl 2 rfl ?_
      refine T_iload (pc := 58) h dX9_findsRest_58 4 rfl ?_
      refine T_callVi (pc := 60) h (M_X9_joined (kl K) hs x0 x1 x2 (s.2.1) (s.2.2) hk0) mv_X9_joined hs hk0 ml_X9_222 rfl ⟨Nat.le_of_ble_eq_true rfl, Nat.le_of_ble_eq_true rfl⟩ ⟨Nat.le_refl 0, Nat.le_refl 0⟩ (Nat.le_of_ble_eq_true rfl) dX9_findsRest_60 rfl (fun r3 s2 => ?_)
      refine T_istore (lv' := [(5, .int r3), (0, .ref x0), (1, .int x1), (2, .int x2), (3, .int (s.1)), (4, .int (s.2.1))]) (pc := 63) h dX9_findsRest_63 (by decide) rfl ?_
      refine T_iload (pc := 65) h dX9_findsRest_65 0 rfl ?_
      refine T_iload_n (pc := 67) h dX9_findsRest_67 rfl 4 rfl ?_
      refine T_icmp_ge (pc := 68) (tgt := 76) h dX9_findsRest_68 (by decide) ?_ ?_
      · refine T_iload_n (pc := 76) h dX9_findsRest_76 rfl 4 rfl ?_
        refine T_sub [1, 2, 3, 5] rfl ?_
        exact t_X9_findsRest_L77 h hs x0 x1 x2 (s.2.1) (s.1) s2 rec2 hr2 rec32 hr32 hk0
      · refine T_iload (pc := 71) h dX9_findsRest_71 0 rfl ?_
        refine T_goto (pc := 73) (tgt := 77) h dX9_findsRest_73 (by decide) ?_
        refine T_sub [1, 2, 3, 5] rfl ?_
        exact t_X9_findsRest_L77 h hs x0 x1 x2 (s.2.1) r3 s2 rec2 hr2 rec32 hr32 hk0
theorem t_X9_findsRest_L28 {K : Cx} (h : Ok K cX9_findsRest RX9 6 rm_X9_findsRest none) (hs : kiv K = St) (x0 : Nat) (x1 : Int32) (x2 : Int32) (y0 : Int32) (σ : Sg) (rec2 : Int32 × Sg → Option (Unit × Sg)) (hr2 : ∀ u, T K (QV K) 2 [(0, .ref x0), (1, .int x1), (2, .int (u.1))] [] 0 0 (u.2) (rec2 u)) (hk0 : kd x0 9)  : T K (QV K) 28 [(0, .ref x0), (1, .int x1), (2, .int x2)] [.int y0] 0 0 σ (f_X9_findsRest_L28 rec2 x0 x1 x2 y0 σ) := by
  unfold f_X9_findsRest_L28
  refine T_istore_n (lv' := [(3, .int y0), (0, .ref x0), (1, .int x1), (2, .int x2)]) (pc := 28) h dX9_findsRest_28 rfl (by decide) rfl ?_
  refine T_iconst (pc := 29) h dX9_findsRest_29 ki_0 ?_
  refine T_istore (lv' := [(4, .int (0 : Int32)), (3, .int y0), (0, .ref x0), (1, .int x1), (2, .int x2)]) (pc := 30) h dX9_findsRest_30 (by decide) rfl ?_
  refine T_sub [2, 3, 4, 1, 0] rfl ?_
  exact T_fx (B := f_X9_findsRest_L32 rec2 x0 x1 x2) (fl := fun u => [(0, .ref x0), (1, .int x1), (2, .int x2), (3, .int (u.1)), (4, .int (u.2.1))]) (f := fun u => (u.2.2)) (fun rec32 hr32 u => t_X9_findsRest_L32 h hs x0 x1 x2 rec2 hr2 hk0 rec32 hr32 u) FU (y0, (0 : Int32), σ)
theorem t_X9_findsRest_L2 {K : Cx} (h : Ok K cX9_findsRest RX9 6 rm_X9_findsRest none) (hs : kiv K = St) (x0 : Nat) (x1 : Int32)  (hk0 : kd x0 9) (rec2 : Int32 × Sg → Option (Unit × Sg)) (hr2 : ∀ u, T K (QV K) 2 [(0, .ref x0), (1, .int x1), (2, .int (u.1))] [] 0 0 (u.2) (rec2 u)) (s : Int32 × Sg) : T K (QV K) 2 [(0, .ref x0), (1, .int x1), (2, .int (s.1))] [] 0 0 (s.2) (f_X9_findsRest_L2 x0 x1 rec2 s) := by
  unfold f_X9_findsRest_L2
  refine T_iload_n (pc := 2) h dX9_findsRest_2 rfl 2 rfl ?_
  refine T_aload_n (pc := 3) h dX9_findsRest_3 rfl 0 rfl ?_
  refine T_gR (pc := 4) h hs hk0 fl_X9_66 rfl fk_9_28 dX9_findsRest_4 (fun hq1 => ?_)
  refine T_iload_n (pc := 7) h dX9_findsRest_7 rfl 1 rfl ?_
  refine T_iald (pc := 8) h hs hq1 dX9_findsRest_8 ?_
  refine T_icmp_ge (pc := 9) (tgt := 127) h dX9_findsRest_9 (by decide) ?_ ?_
  · exact T_return (pc := 127) h (Nat.zero_le _) (Nat.zero_le _) dX9_findsRest_127
  · refine T_iload_n (pc := 12) h dX9_findsRest_12 rfl 1 rfl ?_
    refine T_iconst (pc := 13) h dX9_findsRest_13 ki_1 ?_
    refine T_iadd (pc := 14) h dX9_findsRest_14 ?_
    refine T_aload_n (pc := 15) h dX9_findsRest_15 rfl 0 rfl ?_
    refine T_getI (pc := 16) h hs hk0 fl_X9_157 rfl dX9_findsRest_16 ?_
    refine T_icmp_ne (pc := 19) (tgt := 26) h dX9_findsRest_19 (by decide) ?_ ?_
    · refine T_ldc (pc := 26) h kc_X9_221 dX9_findsRest_26 ?_
      refine T_sub [0, 1, 2] rfl ?_
      exact t_X9_findsRest_L28 h hs x0 x1 (s.1) (1000000 : Int32) (s.2) rec2 hr2 hk0
    · refine T_iconst (pc := 22) h dX9_findsRest_22 ki_0 ?_
      refine T_goto (pc := 23) (tgt := 28) h dX9_findsRest_23 (by decide) ?_
      refine T_sub [0, 1, 2] rfl ?_
      exact t_X9_findsRest_L28 h hs x0 x1 (s.1) (0 : Int32) (s.2) rec2 hr2 hk0
theorem t_X9_findsRest {K : Cx} (h : Ok K cX9_findsRest RX9 6 rm_X9_findsRest none) (hs : kiv K = St) (x0 : Nat) (x1 : Int32) (σ : Sg) (hk0 : kd x0 9) : T K (QV K) 0 [(0, .ref x0), (1, .int x1)] [] 0 0 σ (f_X9_findsRest x0 x1 σ) := by
  unfold f_X9_findsRest
  refine T_iconst (pc := 0) h dX9_findsRest_0 ki_0 ?_
  refine T_istore_n (lv' := [(2, .int (0 : Int32)), (0, .ref x0), (1, .int x1)]) (pc := 1) h dX9_findsRest_1 rfl (by decide) rfl ?_
  refine T_sub [1, 2, 0] rfl ?_
  exact T_fx (B := f_X9_findsRest_L2 x0 x1) (fl := fun u => [(0, .ref x0), (1, .int x1), (2, .int (u.1))]) (f := fun u => (u.2)) (fun rec2 hr2 u => t_X9_findsRest_L2 h hs x0 x1 hk0 rec2 hr2 u) FU ((0 : Int32), σ)
theorem M_X9_findsRest (l : Launch) {iv : Sg → Prop} (hi : iv = St) (x0 : Nat) (x1 : Int32) (σ : Sg) (hk0 : kd x0 9) : CTv l yX9_findsRest cX9_findsRest 6 none rm_X9_findsRest iv [.ref x0, .int x1] σ (f_X9_findsRest x0 x1 σ) := by
  subst hi
  exact CT_of (by decide) (Nat.le_of_ble_eq_true rfl) (fun K _ h _ hs _ _ => t_X9_findsRest h hs x0 x1 σ hk0)
/-! LuteTabsModel.leastBy(II)I -/
theorem dX9_leastBy_0 : decode cX9_leastBy 0 = .ok (.aload_n 0, 1) := by decide +kernel
theorem dX9_leastBy_1 : decode cX9_leastBy 1 = .ok (.invokevirtual 160, 3) := by decide +kernel
theorem dX9_leastBy_4 : decode cX9_leastBy 4 = .ok (.aload_n 0, 1) := by decide +kernel
theorem dX9_leastBy_5 : decode cX9_leastBy 5 = .ok (.iload_n 2, 1) := by decide +kernel
theorem dX9_leastBy_6 : decode cX9_leastBy 6 = .ok (.putfield 163, 3) := by decide +kernel
theorem dX9_leastBy_9 : decode cX9_leastBy 9 = .ok (.iconst 0, 1) := by decide +kernel
theorem dX9_leastBy_10 : decode cX9_leastBy 10 = .ok (.istore_n 3, 1) := by decide +kernel
theorem dX9_leastBy_11 : decode cX9_leastBy 11 = .ok (.iload_n 3, 1) := by decide +kernel
theorem dX9_leastBy_12 : decode cX9_leastBy 12 = .ok (.aload_n 0, 1) := by decide +kernel
theorem dX9_leastBy_13 : decode cX9_leastBy 13 = .ok (.getfield 157, 3) := by decide +kernel
theorem dX9_leastBy_16 : decode cX9_leastBy 16 = .ok (.if_icmp .ge 30, 3) := by decide +kernel
theorem dX9_leastBy_19 : decode cX9_leastBy 19 = .ok (.aload_n 0, 1) := by decide +kernel
theorem dX9_leastBy_20 : decode cX9_leastBy 20 = .ok (.iload_n 3, 1) := by decide +kernel
theorem dX9_leastBy_21 : decode cX9_leastBy 21 = .ok (.iload_n 1, 1) := by decide +kernel
theorem dX9_leastBy_22 : decode cX9_leastBy 22 = .ok (.invokevirtual 225, 3) := by decide +kernel
theorem dX9_leastBy_25 : decode cX9_leastBy 25 = .ok (.iload_n 3, 1) := by decide +kernel
theorem dX9_leastBy_26 : decode cX9_leastBy 26 = .ok (.iconst 1, 1) := by decide +kernel
theorem dX9_leastBy_27 : decode cX9_leastBy 27 = .ok (.iadd, 1) := by decide +kernel
theorem dX9_leastBy_28 : decode cX9_leastBy 28 = .ok (.aload_n 0, 1) := by decide +kernel
theorem dX9_leastBy_29 : decode cX9_leastBy 29 = .ok (.getfield 157, 3) := by decide +kernel
theorem dX9_leastBy_32 : decode cX9_leastBy 32 = .ok (.if_icmp .ge 8, 3) := by decide +kernel
theorem dX9_leastBy_35 : decode cX9_leastBy 35 = .ok (.aload_n 0, 1) := by decide +kernel
theorem dX9_leastBy_36 : decode cX9_leastBy 36 = .ok (.iload_n 3, 1) := by decide +kernel
theorem dX9_leastBy_37 : decode cX9_leastBy 37 = .ok (.invokevirtual 228, 3) := by decide +kernel
theorem dX9_leastBy_40 : decode cX9_leastBy 40 = .ok (.iinc 3 1, 3) := by decide +kernel
theorem dX9_leastBy_43 : decode cX9_leastBy 43 = .ok (.goto (-32), 3) := by decide +kernel
theorem dX9_leastBy_46 : decode cX9_leastBy 46 = .ok (.aload_n 0, 1) := by decide +kernel
theorem dX9_leastBy_47 : decode cX9_leastBy 47 = .ok (.getfield 157, 3) := by decide +kernel
theorem dX9_leastBy_50 : decode cX9_leastBy 50 = .ok (.iconst 1, 1) := by decide +kernel
theorem dX9_leastBy_51 : decode cX9_leastBy 51 = .ok (.isub, 1) := by decide +kernel
theorem dX9_leastBy_52 : decode cX9_leastBy 52 = .ok (.istore_n 3, 1) := by decide +kernel
theorem dX9_leastBy_53 : decode cX9_leastBy 53 = .ok (.iload_n 3, 1) := by decide +kernel
theorem dX9_leastBy_54 : decode cX9_leastBy 54 = .ok (.ifCond .lt 14, 3) := by decide +kernel
theorem dX9_leastBy_57 : decode cX9_leastBy 57 = .ok (.aload_n 0, 1) := by decide +kernel
theorem dX9_leastBy_58 : decode cX9_leastBy 58 = .ok (.iload_n 3, 1) := by decide +kernel
theorem dX9_leastBy_59 : decode cX9_leastBy 59 = .ok (.invokevirtual 231, 3) := by decide +kernel
theorem dX9_leastBy_62 : decode cX9_leastBy 62 = .ok (.iinc 3 (-1), 3) := by decide +kernel
theorem dX9_leastBy_65 : decode cX9_leastBy 65 = .ok (.goto (-12), 3) := by decide +kernel
theorem dX9_leastBy_68 : decode cX9_leastBy 68 = .ok (.aload_n 0, 1) := by decide +kernel
theorem dX9_leastBy_69 : decode cX9_leastBy 69 = .ok (.iconst 0, 1) := by decide +kernel
theorem dX9_leastBy_70 : decode cX9_leastBy 70 = .ok (.putfield 163, 3) := by decide +kernel
theorem dX9_leastBy_73 : decode cX9_leastBy 73 = .ok (.aload_n 0, 1) := by decide +kernel
theorem dX9_leastBy_74 : decode cX9_leastBy 74 = .ok (.getfield 157, 3) := by decide +kernel
theorem dX9_leastBy_77 : decode cX9_leastBy 77 = .ok (.ifCond .ne 7, 3) := by decide +kernel
theorem dX9_leastBy_80 : decode cX9_leastBy 80 = .ok (.iconst 0, 1) := by decide +kernel
theorem dX9_leastBy_81 : decode cX9_leastBy 81 = .ok (.goto 5, 3) := by decide +kernel
theorem dX9_leastBy_84 : decode cX9_leastBy 84 = .ok (.ldc 221, 2) := by decide +kernel
theorem dX9_leastBy_86 : decode cX9_leastBy 86 = .ok (.istore_n 3, 1) := by decide +kernel
theorem dX9_leastBy_87 : decode cX9_leastBy 87 = .ok (.iconst 0, 1) := by decide +kernel
theorem dX9_leastBy_88 : decode cX9_leastBy 88 = .ok (.istore 4, 2) := by decide +kernel
theorem dX9_leastBy_90 : decode cX9_leastBy 90 = .ok (.aload_n 0, 1) := by decide +kernel
theorem dX9_leastBy_91 : decode cX9_leastBy 91 = .ok (.getfield 157, 3) := by decide +kernel
theorem dX9_leastBy_94 : decode cX9_leastBy 94 = .ok (.ifCond .le 43, 3) := by decide +kernel
theorem dX9_leastBy_97 : decode cX9_leastBy 97 = .ok (.iload 4, 2) := by decide +kernel
theorem dX9_leastBy_99 : decode cX9_leastBy 99 = .ok (.aload_n 0, 1) := by decide +kernel
theorem dX9_leastBy_100 : decode cX9_leastBy 100 = .ok (.getfield 66, 3) := by decide +kernel
theorem dX9_leastBy_103 : decode cX9_leastBy 103 = .ok (.iconst 0, 1) := by decide +kernel
theorem dX9_leastBy_104 : decode cX9_leastBy 104 = .ok (.iaload, 1) := by decide +kernel
theorem dX9_leastBy_105 : decode cX9_leastBy 105 = .ok (.if_icmp .ge 32, 3) := by decide +kernel
theorem dX9_leastBy_108 : decode cX9_leastBy 108 = .ok (.aload_n 0, 1) := by decide +kernel
theorem dX9_leastBy_109 : decode cX9_leastBy 109 = .ok (.getfield 75, 3) := by decide +kernel
theorem dX9_leastBy_112 : decode cX9_leastBy 112 = .ok (.iload 4, 2) := by decide +kernel
theorem dX9_leastBy_114 : decode cX9_leastBy 114 = .ok (.iaload, 1) := by decide +kernel
theorem dX9_leastBy_115 : decode cX9_leastBy 115 = .ok (.iload_n 3, 1) := by decide +kernel
theorem dX9_leastBy_116 : decode cX9_leastBy 116 = .ok (.if_icmp .ge 13, 3) := by decide +kernel
theorem dX9_leastBy_119 : decode cX9_leastBy 119 = .ok (.aload_n 0, 1) := by decide +kernel
theorem dX9_leastBy_120 : decode cX9_leastBy 120 = .ok (.getfield 75, 3) := by decide +kernel
theorem dX9_leastBy_123 : decode cX9_leastBy 123 = .ok (.iload 4, 2) := by decide +kernel
theorem dX9_leastBy_125 : decode cX9_leastBy 125 = .ok (.iaload, 1) := by decide +kernel
theorem dX9_leastBy_126 : decode cX9_leastBy 126 = .ok (.goto 4, 3) := by decide +kernel
theorem dX9_leastBy_129 : decode cX9_leastBy 129 = .ok (.iload_n 3, 1) := by decide +kernel
theorem dX9_leastBy_130 : decode cX9_leastBy 130 = .ok (.istore_n 3, 1) := by decide +kernel
theorem dX9_leastBy_131 : decode cX9_leastBy 131 = .ok (.iinc 4 1, 3) := by decide +kernel
theorem dX9_leastBy_134 : decode cX9_leastBy 134 = .ok (.goto (-44), 3) := by decide +kernel
theorem dX9_leastBy_137 : decode cX9_leastBy 137 = .ok (.iload_n 3, 1) := by decide +kernel
theorem dX9_leastBy_138 : decode cX9_leastBy 138 = .ok (.ldc 221, 2) := by decide +kernel
theorem dX9_leastBy_140 : decode cX9_leastBy 140 = .ok (.if_icmp .lt 7, 3) := by decide +kernel
theorem dX9_leastBy_143 : decode cX9_leastBy 143 = .ok (.iconst (-1), 1) := by decide +kernel
theorem dX9_leastBy_144 : decode cX9_leastBy 144 = .ok (.goto 4, 3) := by decide +kernel
theorem dX9_leastBy_147 : decode cX9_leastBy 147 = .ok (.iload_n 3, 1) := by decide +kernel
theorem dX9_leastBy_148 : decode cX9_leastBy 148 = .ok (.ireturn, 1) := by decide +kernel
abbrev rm_X9_leastBy : Room := { frames := 5, cells := 0, slots := 0, locals := 124 }
def f_X9_leastBy_L40 (rec11 : Int32 × Sg → Option (Int32 × Sg)) (x0 : Nat) (x1 : Int32) (x3 : Int32)  (σ : Sg) : Option (Int32 × Sg) := lB (x3 + (1 : Int32)) fun v1 => rec11 (v1, σ)
def f_X9_leastBy_L130 (rec90 : Int32 × Int32 → Option (Int32 × Sg)) (x0 : Nat) (x4 : Int32) (y0 : Int32) (σ : Sg) : Option (Int32 × Sg) := lB (x4 + (1 : Int32)) fun v1 => rec90 (y0, v1)
def f_X9_leastBy_L148   (y0 : Int32) (σ : Sg) : Option (Int32 × Sg) := some (y0, σ)
def f_X9_leastBy_L137  (x3 : Int32)  (σ : Sg) : Option (Int32 × Sg) := (if x3 < (1000000 : Int32) then f_X9_leastBy_L148 x3 σ else f_X9_leastBy_L148 (-1 : Int32) σ)
def f_X9_leastBy_L90  (x0 : Nat) (σ : Sg) (rec90 : Int32 × Int32 → Option (Int32 × Sg)) (s : Int32 × Int32) : Option (Int32 × Sg) := (if (gI σ x0 16) ≤ 0 then f_X9_leastBy_L137 (s.1) σ else ck (inb (0 : Int32) (aL (gR σ x0 28))) ((if (gI σ (gR σ x0 28) (0 : Int32).toNatClampNeg) ≤ (s.2) then f_X9_leastBy_L137 (s.1) σ else ck (inb (s.2) (aL (gR σ x0 31))) ((if (s.1) ≤ (gI σ (gR σ x0 31) (s.2).toNatClampNeg) then f_X9_leastBy_L130 rec90 x0 (s.2) (s.1) σ else ck (inb (s.2) (aL (gR σ x0 31))) (f_X9_leastBy_L130 rec90 x0 (s.2) (gI σ (gR σ x0 31) (s.2).toNatClampNeg) σ))))))
def f_X9_leastBy_L86  (x0 : Nat) (y0 : Int32) (σ : Sg) : Option (Int32 × Sg) := fx (f_X9_leastBy_L90 x0 σ) FU (y0, (0 : Int32))
def f_X9_leastBy_L53  (x0 : Nat) (rec53 : Int32 × Sg → Option (Int32 × Sg)) (s : Int32 × Sg) : Option (Int32 × Sg) := (if (s.1) < 0 then lB (pI (s.2) x0 20 (0 : Int32)) fun s1 => (if (gI s1 x0 16) = 0 then f_X9_leastBy_L86 x0 (0 : Int32) s1 else f_X9_leastBy_L86 x0 (1000000 : Int32) s1) else bd (f_X9_findsRest x0 (s.1) (s.2)) fun _ s2 => lB ((s.1) + (-1 : Int32)) fun v3 => rec53 (v3, s2))
def f_X9_leastBy_L11  (x0 : Nat) (x1 : Int32) (rec11 : Int32 × Sg → Option (Int32 × Sg)) (s : Int32 × Sg) : Option (Int32 × Sg) := (if (gI (s.2) x0 16) ≤ (s.1) then lB (((gI (s.2) x0 16) - (1 : Int32))) fun v1 => fx (f_X9_leastBy_L53 x0) FU (v1, (s.2)) else bd (f_X9_findsWays x0 (s.1) x1 (s.2)) fun _ s2 => (if (gI s2 x0 16) ≤ ((s.1) + (1 : Int32)) then f_X9_leastBy_L40 rec11 x0 x1 (s.1) s2 else bd (f_X9_findsShared x0 (s.1) s2) fun _ s3 => f_X9_leastBy_L40 rec11 x0 x1 (s.1) s3))
def f_X9_leastBy (x0 : Nat) (x1 : Int32) (x2 : Int32) (σ : Sg) : Option (Int32 × Sg) := bd (f_X9_findsChords x0 σ) fun _ s1 => lB (pI s1 x0 20 x2) fun s2 => fx (f_X9_leastBy_L11 x0 x1) FU ((0 : Int32), s2)
theorem t_X9_leastBy_L40 {K : Cx} (h : Ok K cX9_leastBy RX9 5 rm_X9_leastBy (some .int)) (hs : kiv K = St) (x0 : Nat) (x1 : Int32) (x3 : Int32)  (σ : Sg) (rec11 : Int32 × Sg → Option (Int32 × Sg)) (hr11 : ∀ u, T K (QI K) 11 [(0, .ref x0), (1, .int x1), (3, .int (u.1))] [] 0 0 (u.2) (rec11 u)) (hk0 : kd x0 9)  : T K (QI K) 40 [(0, .ref x0), (1, .int x1), (3, .int x3)] [] 0 0 σ (f_X9_leastBy_L40 rec11 x0 x1 x3 σ) := by
  unfold f_X9_leastBy_L40
  refine T_iinc (fl := fun v1 => [(3, .int v1), (0, .ref x0), (1, .int x1)]) (pc := 40) h dX9_leastBy_40 2 rfl ki_1 (by decide) (fun _ => rfl) (fun v1 => ?_)
  refine T_goto (pc := 43) (tgt := 11) h dX9_leastBy_43 (by decide) ?_
  refine T_sub [1, 2, 0] rfl ?_
  exact hr11 (v1, σ)
theorem t_X9_leastBy_L130 {K : Cx} (h : Ok K cX9_leastBy RX9 5 rm_X9_leastBy (some .int)) (hs : kiv K = St) (x0 : Nat) (x4 : Int32) (y0 : Int32) (σ : Sg) (rec90 : Int32 × Int32 → Option (Int32 × Sg)) (hr90 : ∀ u, T K (QI K) 90 [(0, .ref x0), (3, .int (u.1)), (4, .int (u.2))] [] 0 0 σ (rec90 u)) (hk0 : kd x0 9)  : T K (QI K) 130 [(0, .ref x0), (4, .int x4)] [.int y0] 0 0 σ (f_X9_leastBy_L130 rec90 x0 x4 y0 σ) := by
  unfold f_X9_leastBy_L130
  refine T_istore_n (lv' := [(3, .int y0), (0, .ref x0), (4, .int x4)]) (pc := 130) h dX9_leastBy_130 rfl (by decide) rfl ?_
  refine T_iinc (fl := fun v1 => [(4, .int v1), (3, .int y0), (0, .ref x0)]) (pc := 131) h dX9_leastBy_131 2 rfl ki_1 (by decide) (fun _ => rfl) (fun v1 => ?_)
  refine T_goto (pc := 134) (tgt := 90) h dX9_leastBy_134 (by decide) ?_
  refine T_sub [2, 1, 0] rfl ?_
  exact hr90 (y0, v1)
theorem t_X9_leastBy_L148 {K : Cx} (h : Ok K cX9_leastBy RX9 5 rm_X9_leastBy (some .int)) (hs : kiv K = St)  (y0 : Int32) (σ : Sg)    : T K (QI K) 148 [] [.int y0] 0 0 σ (f_X9_leastBy_L148 y0 σ) := by
  unfold f_X9_leastBy_L148
  exact T_ireturn (pc := 148) h (Nat.zero_le _) (Nat.zero_le _) dX9_leastBy_148
theorem t_X9_leastBy_L137 {K : Cx} (h : Ok K cX9_leastBy RX9 5 rm_X9_leastBy (some .int)) (hs : kiv K = St) (x3 : Int32)  (σ : Sg)    : T K (QI K) 137 [(3, .int x3)] [] 0 0 σ (f_X9_leastBy_L137 x3 σ) := by
  unfold f_X9_leastBy_L137
  refine T_iload_n (pc := 137) h dX9_leastBy_137 rfl 0 rfl ?_
  refine T_ldc (pc := 138) h kc_X9_221 dX9_leastBy_138 ?_
  refine T_icmp_lt (pc := 140) (tgt := 147) h dX9_leastBy_140 (by decide) ?_ ?_
  · refine T_iload_n (pc := 147) h dX9_leastBy_147 rfl 0 rfl ?_
    refine T_sub [] rfl ?_
    exact t_X9_leastBy_L148 h hs x3 σ
  · refine T_iconst (pc := 143) h dX9_leastBy_143 ki_m1 ?_
    refine T_goto (pc := 144) (tgt := 148) h dX9_leastBy_144 (by decide) ?_
    refine T_sub [] rfl ?_
    exact t_X9_leastBy_L148 h hs (-1 : Int32) σ
theorem t_X9_leastBy_L90 {K : Cx} (h : Ok K cX9_leastBy RX9 5 rm_X9_leastBy (some .int)) (hs : kiv K = St) (x0 : Nat) (σ : Sg)  (hk0 : kd x0 9) (rec90 : Int32 × Int32 → Option (Int32 × Sg)) (hr90 : ∀ u, T K (QI K) 90 [(0, .ref x0), (3, .int (u.1)), (4, .int (u.2))] [] 0 0 σ (rec90 u)) (s : Int32 × Int32) : T K (QI K) 90 [(0, .ref x0), (3, .int (s.1)), (4, .int (s.2))] [] 0 0 σ (f_X9_leastBy_L90 x0 σ rec90 s) := by
  unfold f_X9_leastBy_L90
  refine T_aload_n (pc := 90) h dX9_leastBy_90 rfl 0 rfl ?_
  refine T_getI (pc := 91) h hs hk0 fl_X9_157 rfl dX9_leastBy_91 ?_
  refine T_if_le (pc := 94) (tgt := 137) h dX9_leastBy_94 (by decide) ?_ ?_
  · refine T_sub [1] rfl ?_
    exact t_X9_leastBy_L137 h hs (s.1) σ
  · refine T_iload (pc := 97) h dX9_leastBy_97 2 rfl ?_
    refine T_aload_n (pc := 99) h dX9_leastBy_99 rfl 0 rfl ?_
    refine T_gR (pc := 100) h hs hk0 fl_X9_66 rfl fk_9_28 dX9_leastBy_100 (fun hq1 => ?_)
    refine T_iconst (pc := 103) h dX9_leastBy_103 ki_0 ?_
    refine T_iald (pc := 104) h hs hq1 dX9_leastBy_104 ?_
    refine T_icmp_ge (pc := 105) (tgt := 137) h dX9_leastBy_105 (by decide) ?_ ?_
    · refine T_sub [1] rfl ?_
      exact t_X9_leastBy_L137 h hs (s.1) σ
    · refine T_aload_n (pc := 108) h dX9_leastBy_108 rfl 0 rfl ?_
      refine T_gR (pc := 109) h hs hk0 fl_X9_75 rfl fk_9_31 dX9_leastBy_109 (fun hq2 => ?_)
      refine T_iload (pc := 112) h dX9_leastBy_112 2 rfl ?_
      refine T_iald (pc := 114) h hs hq2 dX9_leastBy_114 ?_
      refine T_iload_n (pc := 115) h dX9_leastBy_115 rfl 1 rfl ?_
      refine T_icmp_ge (pc := 116) (tgt := 129) h dX9_leastBy_116 (by decide) ?_ ?_
      · refine T_iload_n (pc := 129) h dX9_leastBy_129 rfl 1 rfl ?_
        refine T_sub [0, 2] rfl ?_
        exact t_X9_leastBy_L130 h hs x0 (s.2) (s.1) σ rec90 hr90 hk0
      · refine T_aload_n (pc := 119) h dX9_leastBy_119 rfl 0 rfl ?_
        refine T_gR (pc := 120) h hs hk0 fl_X9_75 rfl fk_9_31 dX9_leastBy_120 (fun hq3 => ?_)
        refine T_iload (pc := 123) h dX9_leastBy_123 2 rfl ?_
        refine T_iald (pc := 125) h hs hq3 dX9_leastBy_125 ?_
        refine T_goto (pc := 126) (tgt := 130) h dX9_leastBy_126 (by decide) ?_
        refine T_sub [0, 2] rfl ?_
        exact t_X9_leastBy_L130 h hs x0 (s.2) (gI σ (gR σ x0 31) (s.2).toNatClampNeg) σ rec90 hr90 hk0
theorem t_X9_leastBy_L86 {K : Cx} (h : Ok K cX9_leastBy RX9 5 rm_X9_leastBy (some .int)) (hs : kiv K = St) (x0 : Nat) (y0 : Int32) (σ : Sg)  (hk0 : kd x0 9)  : T K (QI K) 86 [(0, .ref x0)] [.int y0] 0 0 σ (f_X9_leastBy_L86 x0 y0 σ) := by
  unfold f_X9_leastBy_L86
  refine T_istore_n (lv' := [(3, .int y0), (0, .ref x0)]) (pc := 86) h dX9_leastBy_86 rfl (by decide) rfl ?_
  refine T_iconst (pc := 87) h dX9_leastBy_87 ki_0 ?_
  refine T_istore (lv' := [(4, .int (0 : Int32)), (3, .int y0), (0, .ref x0)]) (pc := 88) h dX9_leastBy_88 (by decide) rfl ?_
  refine T_sub [2, 1, 0] rfl ?_
  exact T_fx (B := f_X9_leastBy_L90 x0 σ) (fl := fun u => [(0, .ref x0), (3, .int (u.1)), (4, .int (u.2))]) (f := fun u => σ) (fun rec90 hr90 u => t_X9_leastBy_L90 h hs x0 σ hk0 rec90 hr90 u) FU (y0, (0 : Int32))
theorem t_X9_leastBy_L53 {K : Cx} (h : Ok K cX9_leastBy RX9 5 rm_X9_leastBy (some .int)) (hs : kiv K = St) (x0 : Nat)  (hk0 : kd x0 9) (rec53 : Int32 × Sg → Option (Int32 × Sg)) (hr53 : ∀ u, T K (QI K) 53 [(0, .ref x0), (3, .int (u.1))] [] 0 0 (u.2) (rec53 u)) (s : Int32 × Sg) : T K (QI K) 53 [(0, .ref x0), (3, .int (s.1))] [] 0 0 (s.2) (f_X9_leastBy_L53 x0 rec53 s) := by
  unfold f_X9_leastBy_L53
  refine T_iload_n (pc := 53) h dX9_leastBy_53 rfl 1 rfl ?_
  refine T_if_lt (pc := 54) (tgt := 68) h dX9_leastBy_54 (by decide) ?_ ?_
  · refine T_aload_n (pc := 68) h dX9_leastBy_68 rfl 0 rfl ?_
    refine T_iconst (pc := 69) h dX9_leastBy_69 ki_0 ?_
    refine T_putI (pc := 70) h hs hk0 fl_X9_163 rfl rfl dX9_leastBy_70 ?_
    refine T_letS fun s1 => ?_
    refine T_aload_n (pc := 73) h dX9_leastBy_73 rfl 0 rfl ?_
    refine T_getI (pc := 74) h hs hk0 fl_X9_157 rfl dX9_leastBy_74 ?_
    refine T_if_ne (pc := 77) (tgt := 84) h dX9_leastBy_77 (by decide) ?_ ?_
    · refine T_ldc (pc := 84) h kc_X9_221 dX9_leastBy_84 ?_
      refine T_sub [0] rfl ?_
      exact t_X9_leastBy_L86 h hs x0 (1000000 : Int32) s1 hk0
    · refine T_iconst (pc := 80) h dX9_leastBy_80 ki_0 ?_
      refine T_goto (pc := 81) (tgt := 86) h dX9_leastBy_81 (by decide) ?_
      refine T_sub [0] rfl ?_
      exact t_X9_leastBy_L86 h hs x0 (0 : Int32) s1 hk0
  · refine T_aload_n (pc := 57) h dX9_leastBy_57 rfl 0 rfl ?_
    refine T_iload_n (pc := 58) h dX9_leastBy_58 rfl 1 rfl ?_
    refine T_callVv (pc := 59) h (M_X9_findsRest (kl K) hs x0 (s.1) (s.2) hk0) mv_X9_findsRest hs hk0 ml_X9_231 rfl ⟨Nat.le_of_ble_eq_true rfl, Nat.le_of_ble_eq_true rfl⟩ ⟨Nat.le_refl 0, Nat.le_refl 0⟩ (Nat.le_of_ble_eq_true rfl) dX9_leastBy_59 rfl (fun _ s2 => ?_)
    refine T_iinc (fl := fun v3 => [(3, .int v3), (0, .ref x0)]) (pc := 62) h dX9_leastBy_62 1 rfl ki_m1 (by decide) (fun _ => rfl) (fun v3 => ?_)
    refine T_goto (pc := 65) (tgt := 53) h dX9_leastBy_65 (by decide) ?_
    refine T_sub [1, 0] rfl ?_
    exact hr53 (v3, s2)
theorem t_X9_leastBy_L11 {K : Cx} (h : Ok K cX9_leastBy RX9 5 rm_X9_leastBy (some .int)) (hs : kiv K = St) (x0 : Nat) (x1 : Int32)  (hk0 : kd x0 9) (rec11 : Int32 × Sg → Option (Int32 × Sg)) (hr11 : ∀ u, T K (QI K) 11 [(0, .ref x0), (1, .int x1), (3, .int (u.1))] [] 0 0 (u.2) (rec11 u)) (s : Int32 × Sg) : T K (QI K) 11 [(0, .ref x0), (1, .int x1), (3, .int (s.1))] [] 0 0 (s.2) (f_X9_leastBy_L11 x0 x1 rec11 s) := by
  unfold f_X9_leastBy_L11
  refine T_iload_n (pc := 11) h dX9_leastBy_11 rfl 2 rfl ?_
  refine T_aload_n (pc := 12) h dX9_leastBy_12 rfl 0 rfl ?_
  refine T_getI (pc := 13) h hs hk0 fl_X9_157 rfl dX9_leastBy_13 ?_
  refine T_icmp_ge (pc := 16) (tgt := 46) h dX9_leastBy_16 (by decide) ?_ ?_
  · refine T_aload_n (pc := 46) h dX9_leastBy_46 rfl 0 rfl ?_
    refine T_getI (pc := 47) h hs hk0 fl_X9_157 rfl dX9_leastBy_47 ?_
    refine T_iconst (pc := 50) h dX9_leastBy_50 ki_1 ?_
    refine T_isub (pc := 51) h dX9_leastBy_51 ?_
    refine T_letI fun v1 => ?_
    refine T_istore_n (lv' := [(3, .int v1), (0, .ref x0), (1, .int x1)]) (pc := 52) h dX9_leastBy_52 rfl (by decide) rfl ?_
    refine T_sub [1, 0] rfl ?_
    exact T_fx (B := f_X9_leastBy_L53 x0) (fl := fun u => [(0, .ref x0), (3, .int (u.1))]) (f := fun u => (u.2)) (fun rec53 hr53 u => t_X9_leastBy_L53 h hs x0 hk0 rec53 hr53 u) FU (v1, (s.2))
  · refine T_aload_n (pc := 19) h dX9_leastBy_19 rfl 0 rfl ?_
    refine T_iload_n (pc := 20) h dX9_leastBy_20 rfl 2 rfl ?_
    refine T_iload_n (pc := 21) h dX9_leastBy_21 rfl 1 rfl ?_
    refine T_callVv (pc := 22) h (M_X9_findsWays (kl K) hs x0 (s.1) x1 (s.2) hk0) mv_X9_findsWays hs hk0 ml_X9_225 rfl ⟨Nat.le_of_ble_eq_true rfl, Nat.le_of_ble_eq_true rfl⟩ ⟨Nat.le_refl 0, Nat.le_refl 0⟩ (Nat.le_of_ble_eq_true rfl) dX9_leastBy_22 rfl (fun _ s2 => ?_)
    refine T_iload_n (pc := 25) h dX9_leastBy_25 rfl 2 rfl ?_
    refine T_iconst (pc := 26) h dX9_leastBy_26 ki_1 ?_
    refine T_iadd (pc := 27) h dX9_leastBy_27 ?_
    refine T_aload_n (pc := 28) h dX9_leastBy_28 rfl 0 rfl ?_
    refine T_getI (pc := 29) h hs hk0 fl_X9_157 rfl dX9_leastBy_29 ?_
    refine T_icmp_ge (pc := 32) (tgt := 40) h dX9_leastBy_32 (by decide) ?_ ?_
    · refine T_sub [0, 1, 2] rfl ?_
      exact t_X9_leastBy_L40 h hs x0 x1 (s.1) s2 rec11 hr11 hk0
    · refine T_aload_n (pc := 35) h dX9_leastBy_35 rfl 0 rfl ?_
      refine T_iload_n (pc := 36) h dX9_leastBy_36 rfl 2 rfl ?_
      refine T_callVv (pc := 37) h (M_X9_findsShared (kl K) hs x0 (s.1) s2 hk0) mv_X9_findsShared hs hk0 ml_X9_228 rfl ⟨Nat.le_of_ble_eq_true rfl, Nat.le_of_ble_eq_true rfl⟩ ⟨Nat.le_refl 0, Nat.le_refl 0⟩ (Nat.le_of_ble_eq_true rfl) dX9_leastBy_37 rfl (fun _ s3 => ?_)
      refine T_sub [0, 1, 2] rfl ?_
      exact t_X9_leastBy_L40 h hs x0 x1 (s.1) s3 rec11 hr11 hk0
theorem t_X9_leastBy {K : Cx} (h : Ok K cX9_leastBy RX9 5 rm_X9_leastBy (some .int)) (hs : kiv K = St) (x0 : Nat) (x1 : Int32) (x2 : Int32) (σ : Sg) (hk0 : kd x0 9) : T K (QI K) 0 [(0, .ref x0), (1, .int x1), (2, .int x2)] [] 0 0 σ (f_X9_leastBy x0 x1 x2 σ) := by
  unfold f_X9_leastBy
  refine T_aload_n (pc := 0) h dX9_leastBy_0 rfl 0 rfl ?_
  refine T_callVv (pc := 1) h (M_X9_findsChords (kl K) hs x0 σ hk0) mv_X9_findsChords hs hk0 ml_X9_160 rfl ⟨Nat.le_of_ble_eq_true rfl, Nat.le_of_ble_eq_true rfl⟩ ⟨Nat.le_refl 0, Nat.le_refl 0⟩ (Nat.le_of_ble_eq_true rfl) dX9_leastBy_1 rfl (fun _ s1 => ?_)
  refine T_aload_n (pc := 4) h dX9_leastBy_4 rfl 0 rfl ?_
  refine T_iload_n (pc := 5) h dX9_leastBy_5 rfl 2 rfl ?_
  refine T_putI (pc := 6) h hs hk0 fl_X9_163 rfl rfl dX9_leastBy_6 ?_
  refine T_letS fun s2 => ?_
  refine T_iconst (pc := 9) h dX9_leastBy_9 ki_0 ?_
  refine T_istore_n (lv' := [(3, .int (0 : Int32)), (0, .ref x0), (1, .int x1), (2, .int x2)]) (pc := 10) h dX9_leastBy_10 rfl (by decide) rfl ?_
  refine T_sub [1, 2, 0] rfl ?_
  exact T_fx (B := f_X9_leastBy_L11 x0 x1) (fl := fun u => [(0, .ref x0), (1, .int x1), (3, .int (u.1))]) (f := fun u => (u.2)) (fun rec11 hr11 u => t_X9_leastBy_L11 h hs x0 x1 hk0 rec11 hr11 u) FU ((0 : Int32), s2)
theorem M_X9_leastBy (l : Launch) {iv : Sg → Prop} (hi : iv = St) (x0 : Nat) (x1 : Int32) (x2 : Int32) (σ : Sg) (hk0 : kd x0 9) : CTi l yX9_leastBy cX9_leastBy 5 (some .int) rm_X9_leastBy iv [.ref x0, .int x1, .int x2] σ (f_X9_leastBy x0 x1 x2 σ) := by
  subst hi
  exact CT_of (by decide) (Nat.le_of_ble_eq_true rfl) (fun K _ h _ hs _ _ => t_X9_leastBy h hs x0 x1 x2 σ hk0)
/-! LuteTabsModel.leastNow()I -/
theorem dX9_leastNow_0 : decode cX9_leastNow 0 = .ok (.aload_n 0, 1) := by decide +kernel
theorem dX9_leastNow_1 : decode cX9_leastNow 1 = .ok (.iconst (-1), 1) := by decide +kernel
theorem dX9_leastNow_2 : decode cX9_leastNow 2 = .ok (.iconst 0, 1) := by decide +kernel
theorem dX9_leastNow_3 : decode cX9_leastNow 3 = .ok (.invokevirtual 234, 3) := by decide +kernel
theorem dX9_leastNow_6 : decode cX9_leastNow 6 = .ok (.ireturn, 1) := by decide +kernel
abbrev rm_X9_leastNow : Room := { frames := 6, cells := 0, slots := 0, locals := 148 }
def f_X9_leastNow (x0 : Nat) (σ : Sg) : Option (Int32 × Sg) := bd (f_X9_leastBy x0 (-1 : Int32) (0 : Int32) σ) fun r2 s1 => some (r2, s1)
theorem t_X9_leastNow {K : Cx} (h : Ok K cX9_leastNow RX9 1 rm_X9_leastNow (some .int)) (hs : kiv K = St) (x0 : Nat) (σ : Sg) (hk0 : kd x0 9) : T K (QI K) 0 [(0, .ref x0)] [] 0 0 σ (f_X9_leastNow x0 σ) := by
  unfold f_X9_leastNow
  refine T_aload_n (pc := 0) h dX9_leastNow_0 rfl 0 rfl ?_
  refine T_iconst (pc := 1) h dX9_leastNow_1 ki_m1 ?_
  refine T_iconst (pc := 2) h dX9_leastNow_2 ki_0 ?_
  refine T_callVi (pc := 3) h (M_X9_leastBy (kl K) hs x0 (-1 : Int32) (0 : Int32) σ hk0) mv_X9_leastBy hs hk0 ml_X9_234 rfl ⟨Nat.le_of_ble_eq_true rfl, Nat.le_of_ble_eq_true rfl⟩ ⟨Nat.le_refl 0, Nat.le_refl 0⟩ (Nat.le_of_ble_eq_true rfl) dX9_leastNow_3 rfl (fun r2 s1 => ?_)
  exact T_ireturn (pc := 6) h (Nat.zero_le _) (Nat.zero_le _) dX9_leastNow_6
theorem M_X9_leastNow (l : Launch) {iv : Sg → Prop} (hi : iv = St) (x0 : Nat) (σ : Sg) (hk0 : kd x0 9) : CTi l yX9_leastNow cX9_leastNow 1 (some .int) rm_X9_leastNow iv [.ref x0] σ (f_X9_leastNow x0 σ) := by
  subst hi
  exact CT_of (by decide) (Nat.le_of_ble_eq_true rfl) (fun K _ h _ hs _ _ => t_X9_leastNow h hs x0 σ hk0)
/-! LuteTabsModel.least()I -/
theorem dX9_least_0 : decode cX9_least 0 = .ok (.aload_n 0, 1) := by decide +kernel
theorem dX9_least_1 : decode cX9_least 1 = .ok (.invokevirtual 237, 3) := by decide +kernel
theorem dX9_least_4 : decode cX9_least 4 = .ok (.istore_n 1, 1) := by decide +kernel
theorem dX9_least_5 : decode cX9_least 5 = .ok (.iload_n 1, 1) := by decide +kernel
theorem dX9_least_6 : decode cX9_least 6 = .ok (.iconst (-1), 1) := by decide +kernel
theorem dX9_least_7 : decode cX9_least 7 = .ok (.if_icmp .ne 8, 3) := by decide +kernel
theorem dX9_least_10 : decode cX9_least 10 = .ok (.bipush (-3), 2) := by decide +kernel
theorem dX9_least_12 : decode cX9_least 12 = .ok (.goto 4, 3) := by decide +kernel
theorem dX9_least_15 : decode cX9_least 15 = .ok (.iload_n 1, 1) := by decide +kernel
theorem dX9_least_16 : decode cX9_least 16 = .ok (.ireturn, 1) := by decide +kernel
abbrev rm_X9_least : Room := { frames := 7, cells := 0, slots := 0, locals := 168 }
def f_X9_least_L16   (y0 : Int32) (σ : Sg) : Option (Int32 × Sg) := some (y0, σ)
def f_X9_least (x0 : Nat) (σ : Sg) : Option (Int32 × Sg) := bd (f_X9_leastNow x0 σ) fun r2 s1 => (if r2 = (-1 : Int32) then f_X9_least_L16 (-3 : Int32) s1 else f_X9_least_L16 r2 s1)
theorem t_X9_least_L16 {K : Cx} (h : Ok K cX9_least RX9 2 rm_X9_least (some .int)) (hs : kiv K = St)  (y0 : Int32) (σ : Sg)    : T K (QI K) 16 [] [.int y0] 0 0 σ (f_X9_least_L16 y0 σ) := by
  unfold f_X9_least_L16
  exact T_ireturn (pc := 16) h (Nat.zero_le _) (Nat.zero_le _) dX9_least_16
theorem t_X9_least {K : Cx} (h : Ok K cX9_least RX9 2 rm_X9_least (some .int)) (hs : kiv K = St) (x0 : Nat) (σ : Sg) (hk0 : kd x0 9) : T K (QI K) 0 [(0, .ref x0)] [] 0 0 σ (f_X9_least x0 σ) := by
  unfold f_X9_least
  refine T_aload_n (pc := 0) h dX9_least_0 rfl 0 rfl ?_
  refine T_callVi (pc := 1) h (M_X9_leastNow (kl K) hs x0 σ hk0) mv_X9_leastNow hs hk0 ml_X9_237 rfl ⟨Nat.le_of_ble_eq_true rfl, Nat.le_of_ble_eq_true rfl⟩ ⟨Nat.le_refl 0, Nat.le_refl 0⟩ (Nat.le_of_ble_eq_true rfl) dX9_least_1 rfl (fun r2 s1 => ?_)
  refine T_istore_n (lv' := [(1, .int r2), (0, .ref x0)]) (pc := 4) h dX9_least_4 rfl (by decide) rfl ?_
  refine T_iload_n (pc := 5) h dX9_least_5 rfl 0 rfl ?_
  refine T_iconst (pc := 6) h dX9_least_6 ki_m1 ?_
  refine T_icmp_ne (pc := 7) (tgt := 15) h dX9_least_7 (by decide) ?_ ?_
  · refine T_iload_n (pc := 15) h dX9_least_15 rfl 0 rfl ?_
    refine T_sub [] rfl ?_
    exact t_X9_least_L16 h hs r2 s1
  · refine T_bipush (pc := 10) h dX9_least_10 kb_m3 ?_
    refine T_goto (pc := 12) (tgt := 16) h dX9_least_12 (by decide) ?_
    refine T_sub [] rfl ?_
    exact t_X9_least_L16 h hs (-3 : Int32) s1
theorem M_X9_least (l : Launch) {iv : Sg → Prop} (hi : iv = St) (x0 : Nat) (σ : Sg) (hk0 : kd x0 9) : CTi l yX9_least cX9_least 2 (some .int) rm_X9_least iv [.ref x0] σ (f_X9_least x0 σ) := by
  subst hi
  exact CT_of (by decide) (Nat.le_of_ble_eq_true rfl) (fun K _ h _ hs _ _ => t_X9_least h hs x0 σ hk0)
/-! LuteTabsModel.faultNow()I -/
theorem dX9_faultNow_0 : decode cX9_faultNow 0 = .ok (.aload_n 0, 1) := by decide +kernel
theorem dX9_faultNow_1 : decode cX9_faultNow 1 = .ok (.invokevirtual 237, 3) := by decide +kernel
theorem dX9_faultNow_4 : decode cX9_faultNow 4 = .ok (.pop, 1) := by decide +kernel
theorem dX9_faultNow_5 : decode cX9_faultNow 5 = .ok (.iconst 0, 1) := by decide +kernel
theorem dX9_faultNow_6 : decode cX9_faultNow 6 = .ok (.istore_n 1, 1) := by decide +kernel
theorem dX9_faultNow_7 : decode cX9_faultNow 7 = .ok (.iload_n 1, 1) := by decide +kernel
theorem dX9_faultNow_8 : decode cX9_faultNow 8 = .ok (.aload_n 0, 1) := by decide +kernel
theorem dX9_faultNow_9 : decode cX9_faultNow 9 = .ok (.getfield 157, 3) := by decide +kernel
theorem dX9_faultNow_12 : decode cX9_faultNow 12 = .ok (.if_icmp .ge 172, 3) := by decide +kernel
theorem dX9_faultNow_15 : decode cX9_faultNow 15 = .ok (.iconst 0, 1) := by decide +kernel
theorem dX9_faultNow_16 : decode cX9_faultNow 16 = .ok (.istore_n 2, 1) := by decide +kernel
theorem dX9_faultNow_17 : decode cX9_faultNow 17 = .ok (.iconst 0, 1) := by decide +kernel
theorem dX9_faultNow_18 : decode cX9_faultNow 18 = .ok (.istore_n 3, 1) := by decide +kernel
theorem dX9_faultNow_19 : decode cX9_faultNow 19 = .ok (.iload_n 3, 1) := by decide +kernel
theorem dX9_faultNow_20 : decode cX9_faultNow 20 = .ok (.aload_n 0, 1) := by decide +kernel
theorem dX9_faultNow_21 : decode cX9_faultNow 21 = .ok (.getfield 66, 3) := by decide +kernel
theorem dX9_faultNow_24 : decode cX9_faultNow 24 = .ok (.iload_n 1, 1) := by decide +kernel
theorem dX9_faultNow_25 : decode cX9_faultNow 25 = .ok (.iaload, 1) := by decide +kernel
theorem dX9_faultNow_26 : decode cX9_faultNow 26 = .ok (.if_icmp .ge 146, 3) := by decide +kernel
theorem dX9_faultNow_29 : decode cX9_faultNow 29 = .ok (.iload_n 1, 1) := by decide +kernel
theorem dX9_faultNow_30 : decode cX9_faultNow 30 = .ok (.ifCond .ne 7, 3) := by decide +kernel
theorem dX9_faultNow_33 : decode cX9_faultNow 33 = .ok (.iconst 1, 1) := by decide +kernel
theorem dX9_faultNow_34 : decode cX9_faultNow 34 = .ok (.goto 4, 3) := by decide +kernel
theorem dX9_faultNow_37 : decode cX9_faultNow 37 = .ok (.iconst 0, 1) := by decide +kernel
theorem dX9_faultNow_38 : decode cX9_faultNow 38 = .ok (.istore 4, 2) := by decide +kernel
theorem dX9_faultNow_40 : decode cX9_faultNow 40 = .ok (.iconst 0, 1) := by decide +kernel
theorem dX9_faultNow_41 : decode cX9_faultNow 41 = .ok (.istore 5, 2) := by decide +kernel
theorem dX9_faultNow_43 : decode cX9_faultNow 43 = .ok (.iload_n 1, 1) := by decide +kernel
theorem dX9_faultNow_44 : decode cX9_faultNow 44 = .ok (.ifCond .le 93, 3) := by decide +kernel
theorem dX9_faultNow_47 : decode cX9_faultNow 47 = .ok (.iload 5, 2) := by decide +kernel
theorem dX9_faultNow_49 : decode cX9_faultNow 49 = .ok (.aload_n 0, 1) := by decide +kernel
theorem dX9_faultNow_50 : decode cX9_faultNow 50 = .ok (.getfield 66, 3) := by decide +kernel
theorem dX9_faultNow_53 : decode cX9_faultNow 53 = .ok (.iload_n 1, 1) := by decide +kernel
theorem dX9_faultNow_54 : decode cX9_faultNow 54 = .ok (.iconst 1, 1) := by decide +kernel
theorem dX9_faultNow_55 : decode cX9_faultNow 55 = .ok (.isub, 1) := by decide +kernel
theorem dX9_faultNow_56 : decode cX9_faultNow 56 = .ok (.iaload, 1) := by decide +kernel
theorem dX9_faultNow_57 : decode cX9_faultNow 57 = .ok (.if_icmp .ge 80, 3) := by decide +kernel
theorem dX9_faultNow_60 : decode cX9_faultNow 60 = .ok (.iload 4, 2) := by decide +kernel
theorem dX9_faultNow_62 : decode cX9_faultNow 62 = .ok (.ifCond .ne 62, 3) := by decide +kernel
theorem dX9_faultNow_65 : decode cX9_faultNow 65 = .ok (.aload_n 0, 1) := by decide +kernel
theorem dX9_faultNow_66 : decode cX9_faultNow 66 = .ok (.getfield 87, 3) := by decide +kernel
theorem dX9_faultNow_69 : decode cX9_faultNow 69 = .ok (.sipush 128, 3) := by decide +kernel
theorem dX9_faultNow_72 : decode cX9_faultNow 72 = .ok (.iload_n 1, 1) := by decide +kernel
theorem dX9_faultNow_73 : decode cX9_faultNow 73 = .ok (.imul, 1) := by decide +kernel
theorem dX9_faultNow_74 : decode cX9_faultNow 74 = .ok (.sipush 128, 3) := by decide +kernel
theorem dX9_faultNow_77 : decode cX9_faultNow 77 = .ok (.isub, 1) := by decide +kernel
theorem dX9_faultNow_78 : decode cX9_faultNow 78 = .ok (.iload 5, 2) := by decide +kernel
theorem dX9_faultNow_80 : decode cX9_faultNow 80 = .ok (.iadd, 1) := by decide +kernel
theorem dX9_faultNow_81 : decode cX9_faultNow 81 = .ok (.baload, 1) := by decide +kernel
theorem dX9_faultNow_82 : decode cX9_faultNow 82 = .ok (.ifCond .eq 46, 3) := by decide +kernel
theorem dX9_faultNow_85 : decode cX9_faultNow 85 = .ok (.aload_n 0, 1) := by decide +kernel
theorem dX9_faultNow_86 : decode cX9_faultNow 86 = .ok (.iload_n 1, 1) := by decide +kernel
theorem dX9_faultNow_87 : decode cX9_faultNow 87 = .ok (.iconst 1, 1) := by decide +kernel
theorem dX9_faultNow_88 : decode cX9_faultNow 88 = .ok (.isub, 1) := by decide +kernel
theorem dX9_faultNow_89 : decode cX9_faultNow 89 = .ok (.aload_n 0, 1) := by decide +kernel
theorem dX9_faultNow_90 : decode cX9_faultNow 90 = .ok (.getfield 63, 3) := by decide +kernel
theorem dX9_faultNow_93 : decode cX9_faultNow 93 = .ok (.sipush 128, 3) := by decide +kernel
theorem dX9_faultNow_96 : decode cX9_faultNow 96 = .ok (.iload_n 1, 1) := by decide +kernel
theorem dX9_faultNow_97 : decode cX9_faultNow 97 = .ok (.imul, 1) := by decide +kernel
theorem dX9_faultNow_98 : decode cX9_faultNow 98 = .ok (.sipush 128, 3) := by decide +kernel
theorem dX9_faultNow_101 : decode cX9_faultNow 101 = .ok (.isub, 1) := by decide +kernel
theorem dX9_faultNow_102 : decode cX9_faultNow 102 = .ok (.iload 5, 2) := by decide +kernel
theorem dX9_faultNow_104 : decode cX9_faultNow 104 = .ok (.iadd, 1) := by decide +kernel
theorem dX9_faultNow_105 : decode cX9_faultNow 105 = .ok (.iaload, 1) := by decide +kernel
theorem dX9_faultNow_106 : decode cX9_faultNow 106 = .ok (.aload_n 0, 1) := by decide +kernel
theorem dX9_faultNow_107 : decode cX9_faultNow 107 = .ok (.getfield 63, 3) := by decide +kernel
theorem dX9_faultNow_110 : decode cX9_faultNow 110 = .ok (.sipush 128, 3) := by decide +kernel
theorem dX9_faultNow_113 : decode cX9_faultNow 113 = .ok (.iload_n 1, 1) := by decide +kernel
theorem dX9_faultNow_114 : decode cX9_faultNow 114 = .ok (.imul, 1) := by decide +kernel
theorem dX9_faultNow_115 : decode cX9_faultNow 115 = .ok (.iload_n 3, 1) := by decide +kernel
theorem dX9_faultNow_116 : decode cX9_faultNow 116 = .ok (.iadd, 1) := by decide +kernel
theorem dX9_faultNow_117 : decode cX9_faultNow 117 = .ok (.iaload, 1) := by decide +kernel
theorem dX9_faultNow_118 : decode cX9_faultNow 118 = .ok (.invokevirtual 215, 3) := by decide +kernel
theorem dX9_faultNow_121 : decode cX9_faultNow 121 = .ok (.ifCond .eq 7, 3) := by decide +kernel
theorem dX9_faultNow_124 : decode cX9_faultNow 124 = .ok (.iconst 1, 1) := by decide +kernel
theorem dX9_faultNow_125 : decode cX9_faultNow 125 = .ok (.goto 4, 3) := by decide +kernel
theorem dX9_faultNow_128 : decode cX9_faultNow 128 = .ok (.iconst 0, 1) := by decide +kernel
theorem dX9_faultNow_129 : decode cX9_faultNow 129 = .ok (.istore 4, 2) := by decide +kernel
theorem dX9_faultNow_131 : decode cX9_faultNow 131 = .ok (.iinc 5 1, 3) := by decide +kernel
theorem dX9_faultNow_134 : decode cX9_faultNow 134 = .ok (.goto (-91), 3) := by decide +kernel
theorem dX9_faultNow_137 : decode cX9_faultNow 137 = .ok (.aload_n 0, 1) := by decide +kernel
theorem dX9_faultNow_138 : decode cX9_faultNow 138 = .ok (.getfield 87, 3) := by decide +kernel
theorem dX9_faultNow_141 : decode cX9_faultNow 141 = .ok (.sipush 128, 3) := by decide +kernel
theorem dX9_faultNow_144 : decode cX9_faultNow 144 = .ok (.iload_n 1, 1) := by decide +kernel
theorem dX9_faultNow_145 : decode cX9_faultNow 145 = .ok (.imul, 1) := by decide +kernel
theorem dX9_faultNow_146 : decode cX9_faultNow 146 = .ok (.iload_n 3, 1) := by decide +kernel
theorem dX9_faultNow_147 : decode cX9_faultNow 147 = .ok (.iadd, 1) := by decide +kernel
theorem dX9_faultNow_148 : decode cX9_faultNow 148 = .ok (.iload 4, 2) := by decide +kernel
theorem dX9_faultNow_150 : decode cX9_faultNow 150 = .ok (.bastore, 1) := by decide +kernel
theorem dX9_faultNow_151 : decode cX9_faultNow 151 = .ok (.iload_n 2, 1) := by decide +kernel
theorem dX9_faultNow_152 : decode cX9_faultNow 152 = .ok (.ifCond .ne 8, 3) := by decide +kernel
theorem dX9_faultNow_155 : decode cX9_faultNow 155 = .ok (.iload 4, 2) := by decide +kernel
theorem dX9_faultNow_157 : decode cX9_faultNow 157 = .ok (.ifCond .eq 7, 3) := by decide +kernel
theorem dX9_faultNow_160 : decode cX9_faultNow 160 = .ok (.iconst 1, 1) := by decide +kernel
theorem dX9_faultNow_161 : decode cX9_faultNow 161 = .ok (.goto 4, 3) := by decide +kernel
theorem dX9_faultNow_164 : decode cX9_faultNow 164 = .ok (.iconst 0, 1) := by decide +kernel
theorem dX9_faultNow_165 : decode cX9_faultNow 165 = .ok (.istore_n 2, 1) := by decide +kernel
theorem dX9_faultNow_166 : decode cX9_faultNow 166 = .ok (.iinc 3 1, 3) := by decide +kernel
theorem dX9_faultNow_169 : decode cX9_faultNow 169 = .ok (.goto (-150), 3) := by decide +kernel
theorem dX9_faultNow_172 : decode cX9_faultNow 172 = .ok (.iload_n 2, 1) := by decide +kernel
theorem dX9_faultNow_173 : decode cX9_faultNow 173 = .ok (.ifCond .ne 5, 3) := by decide +kernel
theorem dX9_faultNow_176 : decode cX9_faultNow 176 = .ok (.iload_n 1, 1) := by decide +kernel
theorem dX9_faultNow_177 : decode cX9_faultNow 177 = .ok (.ireturn, 1) := by decide +kernel
theorem dX9_faultNow_178 : decode cX9_faultNow 178 = .ok (.iinc 1 1, 3) := by decide +kernel
theorem dX9_faultNow_181 : decode cX9_faultNow 181 = .ok (.goto (-174), 3) := by decide +kernel
theorem dX9_faultNow_184 : decode cX9_faultNow 184 = .ok (.iconst (-1), 1) := by decide +kernel
theorem dX9_faultNow_185 : decode cX9_faultNow 185 = .ok (.ireturn, 1) := by decide +kernel
abbrev rm_X9_faultNow : Room := { frames := 7, cells := 0, slots := 0, locals := 168 }
def f_X9_faultNow_L129 (rec7 : Int32 × Sg → Option (Int32 × Sg)) (rec19 : Int32 × Int32 × Sg → Option (Int32 × Sg)) (rec43 : Int32 × Int32 × Sg → Option (Int32 × Sg)) (x0 : Nat) (x1 : Int32) (x2 : Int32) (x3 : Int32) (x5 : Int32) (y0 : Int32) (σ : Sg) : Option (Int32 × Sg) := lB (x5 + (1 : Int32)) fun v1 => rec43 (y0, v1, σ)
def f_X9_faultNow_L124 (rec7 : Int32 × Sg → Option (Int32 × Sg)) (rec19 : Int32 × Int32 × Sg → Option (Int32 × Sg)) (rec43 : Int32 × Int32 × Sg → Option (Int32 × Sg)) (x0 : Nat) (x1 : Int32) (x2 : Int32) (x3 : Int32) (x5 : Int32)  (σ : Sg) : Option (Int32 × Sg) := f_X9_faultNow_L129 rec7 rec19 rec43 x0 x1 x2 x3 x5 (1 : Int32) σ
def f_X9_faultNow_L128 (rec7 : Int32 × Sg → Option (Int32 × Sg)) (rec19 : Int32 × Int32 × Sg → Option (Int32 × Sg)) (rec43 : Int32 × Int32 × Sg → Option (Int32 × Sg)) (x0 : Nat) (x1 : Int32) (x2 : Int32) (x3 : Int32) (x5 : Int32)  (σ : Sg) : Option (Int32 × Sg) := f_X9_faultNow_L129 rec7 rec19 rec43 x0 x1 x2 x3 x5 (0 : Int32) σ
def f_X9_faultNow_L165 (rec7 : Int32 × Sg → Option (Int32 × Sg)) (rec19 : Int32 × Int32 × Sg → Option (Int32 × Sg)) (x0 : Nat) (x1 : Int32) (x3 : Int32) (y0 : Int32) (σ : Sg) : Option (Int32 × Sg) := lB (x3 + (1 : Int32)) fun v1 => rec19 (y0, v1, σ)
def f_X9_faultNow_L160 (rec7 : Int32 × Sg → Option (Int32 × Sg)) (rec19 : Int32 × Int32 × Sg → Option (Int32 × Sg)) (x0 : Nat) (x1 : Int32) (x3 : Int32)  (σ : Sg) : Option (Int32 × Sg) := f_X9_faultNow_L165 rec7 rec19 x0 x1 x3 (1 : Int32) σ
def f_X9_faultNow_L137 (rec7 : Int32 × Sg → Option (Int32 × Sg)) (rec19 : Int32 × Int32 × Sg → Option (Int32 × Sg)) (x0 : Nat) (x1 : Int32) (x2 : Int32) (x3 : Int32) (x4 : Int32)  (σ : Sg) : Option (Int32 × Sg) := ck (inb (((128 : Int32) * x1) + x3) (aL (gR σ x0 35))) (ck (b01 x4) (lB (pI σ (gR σ x0 35) (((128 : Int32) * x1) + x3).toNatClampNeg x4) fun s2 => (if x2 = 0 then (if x4 = 0 then f_X9_faultNow_L165 rec7 rec19 x0 x1 x3 (0 : Int32) s2 else f_X9_faultNow_L160 rec7 rec19 x0 x1 x3 s2) else f_X9_faultNow_L160 rec7 rec19 x0 x1 x3 s2)))
def f_X9_faultNow_L43 (rec7 : Int32 × Sg → Option (Int32 × Sg)) (rec19 : Int32 × Int32 × Sg → Option (Int32 × Sg)) (x0 : Nat) (x1 : Int32) (x2 : Int32) (x3 : Int32) (rec43 : Int32 × Int32 × Sg → Option (Int32 × Sg)) (s : Int32 × Int32 × Sg) : Option (Int32 × Sg) := (if x1 ≤ 0 then f_X9_faultNow_L137 rec7 rec19 x0 x1 x2 x3 (s.1) (s.2.2) else ck (inb (x1 - (1 : Int32)) (aL (gR (s.2.2) x0 28))) ((if (gI (s.2.2) (gR (s.2.2) x0 28) (x1 - (1 : Int32)).toNatClampNeg) ≤ (s.2.1) then f_X9_faultNow_L137 rec7 rec19 x0 x1 x2 x3 (s.1) (s.2.2) else (if (s.1) = 0 then ck (inb ((((128 : Int32) * x1) - (128 : Int32)) + (s.2.1)) (aL (gR (s.2.2) x0 35))) ((if (gI (s.2.2) (gR (s.2.2) x0 35) ((((128 : Int32) * x1) - (128 : Int32)) + (s.2.1)).toNatClampNeg) = 0 then f_X9_faultNow_L128 rec7 rec19 rec43 x0 x1 x2 x3 (s.2.1) (s.2.2) else ck (inb ((((128 : Int32) * x1) - (128 : Int32)) + (s.2.1)) (aL (gR (s.2.2) x0 27))) (ck (inb (((128 : Int32) * x1) + x3) (aL (gR (s.2.2) x0 27))) (bd (f_X9_goesOn x0 (x1 - (1 : Int32)) (gI (s.2.2) (gR (s.2.2) x0 27) ((((128 : Int32) * x1) - (128 : Int32)) + (s.2.1)).toNatClampNeg) (gI (s.2.2) (gR (s.2.2) x0 27) (((128 : Int32) * x1) + x3).toNatClampNeg) (s.2.2)) fun r6 s5 => (if r6 = 0 then f_X9_faultNow_L128 rec7 rec19 rec43 x0 x1 x2 x3 (s.2.1) s5 else f_X9_faultNow_L124 rec7 rec19 rec43 x0 x1 x2 x3 (s.2.1) s5))))) else f_X9_faultNow_L124 rec7 rec19 rec43 x0 x1 x2 x3 (s.2.1) (s.2.2)))))
def f_X9_faultNow_L38 (rec7 : Int32 × Sg → Option (Int32 × Sg)) (rec19 : Int32 × Int32 × Sg → Option (Int32 × Sg)) (x0 : Nat) (x1 : Int32) (x2 : Int32) (x3 : Int32) (y0 : Int32) (σ : Sg) : Option (Int32 × Sg) := fx (f_X9_faultNow_L43 rec7 rec19 x0 x1 x2 x3) FU (y0, (0 : Int32), σ)
def f_X9_faultNow_L19 (rec7 : Int32 × Sg → Option (Int32 × Sg)) (x0 : Nat) (x1 : Int32) (rec19 : Int32 × Int32 × Sg → Option (Int32 × Sg)) (s : Int32 × Int32 × Sg) : Option (Int32 × Sg) := ck (inb x1 (aL (gR (s.2.2) x0 28))) ((if (gI (s.2.2) (gR (s.2.2) x0 28) x1.toNatClampNeg) ≤ (s.2.1) then (if (s.1) = 0 then some (x1, (s.2.2)) else lB (x1 + (1 : Int32)) fun v2 => rec7 (v2, (s.2.2))) else (if x1 = 0 then f_X9_faultNow_L38 rec7 rec19 x0 x1 (s.1) (s.2.1) (1 : Int32) (s.2.2) else f_X9_faultNow_L38 rec7 rec19 x0 x1 (s.1) (s.2.1) (0 : Int32) (s.2.2))))
def f_X9_faultNow_L7  (x0 : Nat) (rec7 : Int32 × Sg → Option (Int32 × Sg)) (s : Int32 × Sg) : Option (Int32 × Sg) := (if (gI (s.2) x0 16) ≤ (s.1) then some ((-1 : Int32), (s.2)) else fx (f_X9_faultNow_L19 rec7 x0 (s.1)) FU ((0 : Int32), (0 : Int32), (s.2)))
def f_X9_faultNow (x0 : Nat) (σ : Sg) : Option (Int32 × Sg) := bd (f_X9_leastNow x0 σ) fun r2 s1 => fx (f_X9_faultNow_L7 x0) FU ((0 : Int32), s1)
theorem t_X9_faultNow_L129 {K : Cx} (h : Ok K cX9_faultNow RX9 6 rm_X9_faultNow (some .int)) (hs : kiv K = St) (x0 : Nat) (x1 : Int32) (x2 : Int32) (x3 : Int32) (x5 : Int32) (y0 : Int32) (σ : Sg) (rec7 : Int32 × Sg → Option (Int32 × Sg)) (hr7 : ∀ u, T K (QI K) 7 [(0, .ref x0), (1, .int (u.1))] [] 0 0 (u.2) (rec7 u)) (rec19 : Int32 × Int32 × Sg → Option (Int32 × Sg)) (hr19 : ∀ u, T K (QI K) 19 [(0, .ref x0), (1, .int x1), (2, .int (u.1)), (3, .int (u.2.1))] [] 0 0 (u.2.2) (rec19 u)) (rec43 : Int32 × Int32 × Sg → Option (Int32 × Sg)) (hr43 : ∀ u, T K (QI K) 43 [(0, .ref x0), (1, .int x1), (2, .int x2), (3, .int x3), (4, .int (u.1)), (5, .int (u.2.1))] [] 0 0 (u.2.2) (rec43 u)) (hk0 : kd x0 9)  : T K (QI K) 129 [(0, .ref x0), (1, .int x1), (2, .int x2), (3, .int x3), (5, .int x5)] [.int y0] 0 0 σ (f_X9_faultNow_L129 rec7 rec19 rec43 x0 x1 x2 x3 x5 y0 σ) := by
  unfold f_X9_faultNow_L129
  refine T_istore (lv' := [(4, .int y0), (0, .ref x0), (1, .int x1), (2, .int x2), (3, .int x3), (5, .int x5)]) (pc := 129) h dX9_faultNow_129 (by decide) rfl ?_
  refine T_iinc (fl := fun v1 => [(5, .int v1), (4, .int y0), (0, .ref x0), (1, .int x1), (2, .int x2), (3, .int x3)]) (pc := 131) h dX9_faultNow_131 5 rfl ki_1 (by decide) (fun _ => rfl) (fun v1 => ?_)
  refine T_goto (pc := 134) (tgt := 43) h dX9_faultNow_134 (by decide) ?_
  refine T_sub [2, 3, 4, 5, 1, 0] rfl ?_
  exact hr43 (y0, v1, σ)
theorem t_X9_faultNow_L124 {K : Cx} (h : Ok K cX9_faultNow RX9 6 rm_X9_faultNow (some .int)) (hs : kiv K = St) (x0 : Nat) (x1 : Int32) (x2 : Int32) (x3 : Int32) (x5 : Int32)  (σ : Sg) (rec7 : Int32 × Sg → Option (Int32 × Sg)) (hr7 : ∀ u, T K (QI K) 7 [(0, .ref x0), (1, .int (u.1))] [] 0 0 (u.2) (rec7 u)) (rec19 : Int32 × Int32 × Sg → Option (Int32 × Sg)) (hr19 : ∀ u, T K (QI K) 19 [(0, .ref x0), (1, .int x1), (2, .int (u.1)), (3, .int (u.2.1))] [] 0 0 (u.2.2) (rec19 u)) (rec43 : Int32 × Int32 × Sg → Option (Int32 × Sg)) (hr43 : ∀ u, T K (QI K) 43 [(0, .ref x0), (1, .int x1), (2, .int x2), (3, .int x3), (4, .int (u.1)), (5, .int (u.2.1))] [] 0 0 (u.2.2) (rec43 u)) (hk0 : kd x0 9)  : T K (QI K) 124 [(0, .ref x0), (1, .int x1), (2, .int x2), (3, .int x3), (5, .int x5)] [] 0 0 σ (f_X9_faultNow_L124 rec7 rec19 rec43 x0 x1 x2 x3 x5 σ) := by
  unfold f_X9_faultNow_L124
  refine T_iconst (pc := 124) h dX9_faultNow_124 ki_1 ?_
  refine T_goto (pc := 125) (tgt := 129) h dX9_faultNow_125 (by decide) ?_
  refine T_sub [0, 1, 2, 3, 4] rfl ?_
  exact t_X9_faultNow_L129 h hs x0 x1 x2 x3 x5 (1 : Int32) σ rec7 hr7 rec19 hr19 rec43 hr43 hk0
theorem t_X9_faultNow_L128 {K : Cx} (h : Ok K cX9_faultNow RX9 6 rm_X9_faultNow (some .int)) (hs : kiv K = St) (x0 : Nat) (x1 : Int32) (x2 : Int32) (x3 : Int32) (x5 : Int32)  (σ : Sg) (rec7 : Int32 × Sg → Option (Int32 × Sg)) (hr7 : ∀ u, T K (QI K) 7 [(0, .ref x0), (1, .int (u.1))] [] 0 0 (u.2) (rec7 u)) (rec19 : Int32 × Int32 × Sg → Option (Int32 × Sg)) (hr19 : ∀ u, T K (QI K) 19 [(0, .ref x0), (1, .int x1), (2, .int (u.1)), (3, .int (u.2.1))] [] 0 0 (u.2.2) (rec19 u)) (rec43 : Int32 × Int32 × Sg → Option (Int32 × Sg)) (hr43 : ∀ u, T K (QI K) 43 [(0, .ref x0), (1, .int x1), (2, .int x2), (3, .int x3), (4, .int (u.1)), (5, .int (u.2.1))] [] 0 0 (u.2.2) (rec43 u)) (hk0 : kd x0 9)  : T K (QI K) 128 [(0, .ref x0), (1, .int x1), (2, .int x2), (3, .int x3), (5, .int x5)] [] 0 0 σ (f_X9_faultNow_L128 rec7 rec19 rec43 x0 x1 x2 x3 x5 σ) := by
  unfold f_X9_faultNow_L128
  refine T_iconst (pc := 128) h dX9_faultNow_128 ki_0 ?_
  refine T_sub [0, 1, 2, 3, 4] rfl ?_
  exact t_X9_faultNow_L129 h hs x0 x1 x2 x3 x5 (0 : Int32) σ rec7 hr7 rec19 hr19 rec43 hr43 hk0
theorem t_X9_faultNow_L165 {K : Cx} (h : Ok K cX9_faultNow RX9 6 rm_X9_faultNow (some .int)) (hs : kiv K = St) (x0 : Nat) (x1 : Int32) (x3 : Int32) (y0 : Int32) (σ : Sg) (rec7 : Int32 × Sg → Option (Int32 × Sg)) (hr7 : ∀ u, T K (QI K) 7 [(0, .ref x0), (1, .int (u.1))] [] 0 0 (u.2) (rec7 u)) (rec19 : Int32 × Int32 × Sg → Option (Int32 × Sg)) (hr19 : ∀ u, T K (QI K) 19 [(0, .ref x0), (1, .int x1), (2, .int (u.1)), (3, .int (u.2.1))] [] 0 0 (u.2.2) (rec19 u)) (hk0 : kd x0 9)  : T K (QI K) 165 [(0, .ref x0), (1, .int x1), (3, .int x3)] [.int y0] 0 0 σ (f_X9_faultNow_L165 rec7 rec19 x0 x1 x3 y0 σ) := by
  unfold f_X9_faultNow_L165
  refine T_istore_n (lv' := [(2, .int y0), (0, .ref x0), (1, .int x1), (3, .int x3)]) (pc := 165) h dX9_faultNow_165 rfl (by decide) rfl ?_
  refine T_iinc (fl := fun v1 => [(3, .int v1), (2, .int y0), (0, .ref x0), (1, .int x1)]) (pc := 166) h dX9_faultNow_166 3 rfl ki_1 (by decide) (fun _ => rfl) (fun v1 => ?_)
  refine T_goto (pc := 169) (tgt := 19) h dX9_faultNow_169 (by decide) ?_
  refine T_sub [2, 3, 1, 0] rfl ?_
  exact hr19 (y0, v1, σ)
theorem t_X9_faultNow_L160 {K : Cx} (h : Ok K cX9_faultNow RX9 6 rm_X9_faultNow (some .int)) (hs : kiv K = St) (x0 : Nat) (x1 : Int32) (x3 : Int32)  (σ : Sg) (rec7 : Int32 × Sg → Option (Int32 × Sg)) (hr7 : ∀ u, T K (QI K) 7 [(0, .ref x0), (1, .int (u.1))] [] 0 0 (u.2) (rec7 u)) (rec19 : Int32 × Int32 × Sg → Option (Int32 × Sg)) (hr19 : ∀ u, T K (QI K) 19 [(0, .ref x0), (1, .int x1), (2, .int (u.1)), (3, .int (u.2.1))] [] 0 0 (u.2.2) (rec19 u)) (hk0 : kd x0 9)  : T K (QI K) 160 [(0, .ref x0), (1, .int x1), (3, .int x3)] [] 0 0 σ (f_X9_faultNow_L160 rec7 rec19 x0 x1 x3 σ) := by
  unfold f_X9_faultNow_L160
  refine T_iconst (pc := 160) h dX9_faultNow_160 ki_1 ?_
  refine T_goto (pc := 161) (tgt := 165) h dX9_faultNow_161 (by decide) ?_
  refine T_sub [0, 1, 2] rfl ?_
  exact t_X9_faultNow_L165 h hs x0 x1 x3 (1 : Int32) σ rec7 hr7 rec19 hr19 hk0
theorem t_X9_faultNow_L137 {K : Cx} (h : Ok K cX9_faultNow RX9 6 rm_X9_faultNow (some .int)) (hs : kiv K = St) (x0 : Nat) (x1 : Int32) (x2 : Int32) (x3 : Int32) (x4 : Int32)  (σ : Sg) (rec7 : Int32 × Sg → Option (Int32 × Sg)) (hr7 : ∀ u, T K (QI K) 7 [(0, .ref x0), (1, .int (u.1))] [] 0 0 (u.2) (rec7 u)) (rec19 : Int32 × Int32 × Sg → Option (Int32 × Sg)) (hr19 : ∀ u, T K (QI K) 19 [(0, .ref x0), (1, .int x1), (2, .int (u.1)), (3, .int (u.2.1))] [] 0 0 (u.2.2) (rec19 u)) (hk0 : kd x0 9)  : T K (QI K) 137 [(0, .ref x0), (1, .int x1), (2, .int x2), (3, .int x3), (4, .int x4)] [] 0 0 σ (f_X9_faultNow_L137 rec7 rec19 x0 x1 x2 x3 x4 σ) := by
  unfold f_X9_faultNow_L137
  refine T_aload_n (pc := 137) h dX9_faultNow_137 rfl 0 rfl ?_
  refine T_gR (pc := 138) h hs hk0 fl_X9_87 rfl fk_9_35 dX9_faultNow_138 (fun hq1 => ?_)
  refine T_sipush (pc := 141) h dX9_faultNow_141 ks_128 ?_
  refine T_iload_n (pc := 144) h dX9_faultNow_144 rfl 1 rfl ?_
  refine T_imul (pc := 145) h dX9_faultNow_145 ?_
  refine T_iload_n (pc := 146) h dX9_faultNow_146 rfl 3 rfl ?_
  refine T_iadd (pc := 147) h dX9_faultNow_147 ?_
  refine T_iload (pc := 148) h dX9_faultNow_148 4 rfl ?_
  refine T_zast (pc := 150) h hs hq1 dX9_faultNow_150 ?_
  refine T_letS fun s2 => ?_
  refine T_iload_n (pc := 151) h dX9_faultNow_151 rfl 2 rfl ?_
  refine T_if_ne (pc := 152) (tgt := 160) h dX9_faultNow_152 (by decide) ?_ ?_
  · refine T_sub [0, 1, 3] rfl ?_
    exact t_X9_faultNow_L160 h hs x0 x1 x3 s2 rec7 hr7 rec19 hr19 hk0
  · refine T_iload (pc := 155) h dX9_faultNow_155 4 rfl ?_
    refine T_if_eq (pc := 157) (tgt := 164) h dX9_faultNow_157 (by decide) ?_ ?_
    · refine T_iconst (pc := 164) h dX9_faultNow_164 ki_0 ?_
      refine T_sub [0, 1, 3] rfl ?_
      exact t_X9_faultNow_L165 h hs x0 x1 x3 (0 : Int32) s2 rec7 hr7 rec19 hr19 hk0
    · refine T_sub [0, 1, 3] rfl ?_
      exact t_X9_faultNow_L160 h hs x0 x1 x3 s2 rec7 hr7 rec19 hr19 hk0
theorem t_X9_faultNow_L43 {K : Cx} (h : Ok K cX9_faultNow RX9 6 rm_X9_faultNow (some .int)) (hs : kiv K = St) (x0 : Nat) (x1 : Int32) (x2 : Int32) (x3 : Int32) (rec7 : Int32 × Sg → Option (Int32 × Sg)) (hr7 : ∀ u, T K (QI K) 7 [(0, .ref x0), (1, .int (u.1))] [] 0 0 (u.2) (rec7 u)) (rec19 : Int32 × Int32 × Sg → Option (Int32 × Sg)) (hr19 : ∀ u, T K (QI K) 19 [(0, .ref x0), (1, .int x1), (2, .int (u.1)), (3, .int (u.2.1))] [] 0 0 (u.2.2) (rec19 u)) (hk0 : kd x0 9) (rec43 : Int32 × Int32 × Sg → Option (Int32 × Sg)) (hr43 : ∀ u, T K (QI K) 43 [(0, .ref x0), (1, .int x1), (2, .int x2), (3, .int x3), (4, .int (u.1)), (5, .int (u.2.1))] [] 0 0 (u.2.2) (rec43 u)) (s : Int32 × Int32 × Sg) : T K (QI K) 43 [(0, .ref x0), (1, .int x1), (2, .int x2), (3, .int x3), (4, .int (s.1)), (5, .int (s.2.1))] [] 0 0 (s.2.2) (f_X9_faultNow_L43 rec7 rec19 x0 x1 x2 x3 rec43 s) := by
  unfold f_X9_faultNow_L43
  refine T_iload_n (pc := 43) h dX9_faultNow_43 rfl 1 rfl ?_
  refine T_if_le (pc := 44) (tgt := 137) h dX9_faultNow_44 (by decide) ?_ ?_
  · refine T_sub [0, 1, 2, 3, 4] rfl ?_
    exact t_X9_faultNow_L137 h hs x0 x1 x2 x3 (s.1) (s.2.2) rec7 hr7 rec19 hr19 hk0
  · refine T_iload (pc := 47) h dX9_faultNow_47 5 rfl ?_
    refine T_aload_n (pc := 49) h dX9_faultNow_49 rfl 0 rfl ?_
    refine T_gR (pc := 50) h hs hk0 fl_X9_66 rfl fk_9_28 dX9_faultNow_50 (fun hq1 => ?_)
    refine T_iload_n (pc := 53) h dX9_faultNow_53 rfl 1 rfl ?_
    refine T_iconst (pc := 54) h dX9_faultNow_54 ki_1 ?_
    refine T_isub (pc := 55) h dX9_faultNow_55 ?_
    refine T_iald (pc := 56) h hs hq1 dX9_faultNow_56 ?_
    refine T_icmp_ge (pc := 57) (tgt := 137) h dX9_faultNow_57 (by decide) ?_ ?_
    · refine T_sub [0, 1, 2, 3, 4] rfl ?_
      exact t_X9_faultNow_L137 h hs x0 x1 x2 x3 (s.1) (s.2.2) rec7 hr7 rec19 hr19 hk0
    · refine T_iload (pc := 60) h dX9_faultNow_60 4 rfl ?_
      refine T_if_ne (pc := 62) (tgt := 124) h dX9_faultNow_62 (by decide) ?_ ?_
      · refine T_sub [0, 1, 2, 3, 5] rfl ?_
        exact t_X9_faultNow_L124 h hs x0 x1 x2 x3 (s.2.1) (s.2.2) rec7 hr7 rec19 hr19 rec43 hr43 hk0
      · refine T_aload_n (pc := 65) h dX9_faultNow_65 rfl 0 rfl ?_
        refine T_gR (pc := 66) h hs hk0 fl_X9_87 rfl fk_9_35 dX9_faultNow_66 (fun hq2 => ?_)
        refine T_sipush (pc := 69) h dX9_faultNow_69 ks_128 ?_
        refine T_iload_n (pc := 72) h dX9_faultNow_72 rfl 1 rfl ?_
        refine T_imul (pc := 73) h dX9_faultNow_73 ?_
        refine T_sipush (pc := 74) h dX9_faultNow_74 ks_128 ?_
        refine T_isub (pc := 77) h dX9_faultNow_77 ?_
        refine T_iload (pc := 78) h dX9_faultNow_78 5 rfl ?_
        refine T_iadd (pc := 80) h dX9_faultNow_80 ?_
        refine T_zald (pc := 81) h hs hq2 dX9_faultNow_81 ?_
        refine T_if_eq (pc := 82) (tgt := 128) h dX9_faultNow_82 (by decide) ?_ ?_
        · refine T_sub [0, 1, 2, 3, 5] rfl ?_
          exact t_X9_faultNow_L128 h hs x0 x1 x2 x3 (s.2.1) (s.2.2) rec7 hr7 rec19 hr19 rec43 hr43 hk0
        · refine T_aload_n (pc := 85) h dX9_faultNow_85 rfl 0 rfl ?_
          refine T_iload_n (pc := 86) h dX9_faultNow_86 rfl 1 rfl ?_
          refine T_iconst (pc := 87) h dX9_faultNow_87 ki_1 ?_
          refine T_isub (pc := 88) h dX9_faultNow_88 ?_
          refine T_aload_n (pc := 89) h dX9_faultNow_89 rfl 0 rfl ?_
          refine T_gR (pc := 90) h hs hk0 fl_X9_63 rfl fk_9_27 dX9_faultNow_90 (fun hq3 => ?_)
          refine T_sipush (pc := 93) h dX9_faultNow_93 ks_128 ?_
          refine T_iload_n (pc := 96) h dX9_faultNow_96 rfl 1 rfl ?_
          refine T_imul (pc := 97) h dX9_faultNow_97 ?_
          refine T_sipush (pc := 98) h dX9_faultNow_98 ks_128 ?_
          refine T_isub (pc := 101) h dX9_faultNow_101 ?_
          refine T_iload (pc := 102) h dX9_faultNow_102 5 rfl ?_
          refine T_iadd (pc := 104) h dX9_faultNow_104 ?_
          refine T_iald (pc := 105) h hs hq3 dX9_faultNow_105 ?_
          refine T_aload_n (pc := 106) h dX9_faultNow_106 rfl 0 rfl ?_
          refine T_gR (pc := 107) h hs hk0 fl_X9_63 rfl fk_9_27 dX9_faultNow_107 (fun hq4 => ?_)
          refine T_sipush (pc := 110) h dX9_faultNow_110 ks_128 ?_
          refine T_iload_n (pc := 113) h dX9_faultNow_113 rfl 1 rfl ?_
          refine T_imul (pc := 114) h dX9_faultNow_114 ?_
          refine T_iload_n (pc := 115) h dX9_faultNow_115 rfl 3 rfl ?_
          refine T_iadd (pc := 116) h dX9_faultNow_116 ?_
          refine T_iald (pc := 117) h hs hq4 dX9_faultNow_117 ?_
          refine T_callVi (pc := 118) h (M_X9_goesOn (kl K) hs x0 (x1 - (1 : Int32)) (gI (s.2.2) (gR (s.2.2) x0 27) ((((128 : Int32) * x1) - (128 : Int32)) + (s.2.1)).toNatClampNeg) (gI (s.2.2) (gR (s.2.2) x0 27) (((128 : Int32) * x1) + x3).toNatClampNeg) (s.2.2) hk0) mv_X9_goesOn hs hk0 ml_X9_215 rfl ⟨Nat.le_of_ble_eq_true rfl, Nat.le_of_ble_eq_true rfl⟩ ⟨Nat.le_refl 0, Nat.le_refl 0⟩ (Nat.le_of_ble_eq_true rfl) dX9_faultNow_118 rfl (fun r6 s5 => ?_)
          refine T_if_eq (pc := 121) (tgt := 128) h dX9_faultNow_121 (by decide) ?_ ?_
          · refine T_sub [0, 1, 2, 3, 5] rfl ?_
            exact t_X9_faultNow_L128 h hs x0 x1 x2 x3 (s.2.1) s5 rec7 hr7 rec19 hr19 rec43 hr43 hk0
          · refine T_sub [0, 1, 2, 3, 5] rfl ?_
            exact t_X9_faultNow_L124 h hs x0 x1 x2 x3 (s.2.1) s5 rec7 hr7 rec19 hr19 rec43 hr43 hk0
theorem t_X9_faultNow_L38 {K : Cx} (h : Ok K cX9_faultNow RX9 6 rm_X9_faultNow (some .int)) (hs : kiv K = St) (x0 : Nat) (x1 : Int32) (x2 : Int32) (x3 : Int32) (y0 : Int32) (σ : Sg) (rec7 : Int32 × Sg → Option (Int32 × Sg)) (hr7 : ∀ u, T K (QI K) 7 [(0, .ref x0), (1, .int (u.1))] [] 0 0 (u.2) (rec7 u)) (rec19 : Int32 × Int32 × Sg → Option (Int32 × Sg)) (hr19 : ∀ u, T K (QI K) 19 [(0, .ref x0), (1, .int x1), (2, .int (u.1)), (3, .int (u.2.1))] [] 0 0 (u.2.2) (rec19 u)) (hk0 : kd x0 9)  : T K (QI K) 38 [(0, .ref x0), (1, .int x1), (2, .int x2), (3, .int x3)] [.int y0] 0 0 σ (f_X9_faultNow_L38 rec7 rec19 x0 x1 x2 x3 y0 σ) := by
  unfold f_X9_faultNow_L38
  refine T_istore (lv' := [(4, .int y0), (0, .ref x0), (1, .int x1), (2, .int x2), (3, .int x3)]) (pc := 38) h dX9_faultNow_38 (by decide) rfl ?_
  refine T_iconst (pc := 40) h dX9_faultNow_40 ki_0 ?_
  refine T_istore (lv' := [(5, .int (0 : Int32)), (4, .int y0), (0, .ref x0), (1, .int x1), (2, .int x2), (3, .int x3)]) (pc := 41) h dX9_faultNow_41 (by decide) rfl ?_
  refine T_sub [2, 3, 4, 5, 1, 0] rfl ?_
  exact T_fx (B := f_X9_faultNow_L43 rec7 rec19 x0 x1 x2 x3) (fl := fun u => [(0, .ref x0), (1, .int x1), (2, .int x2), (3, .int x3), (4, .int (u.1)), (5, .int (u.2.1))]) (f := fun u => (u.2.2)) (fun rec43 hr43 u => t_X9_faultNow_L43 h hs x0 x1 x2 x3 rec7 hr7 rec19 hr19 hk0 rec43 hr43 u) FU (y0, (0 : Int32), σ)
theorem t_X9_faultNow_L19 {K : Cx} (h : Ok K cX9_faultNow RX9 6 rm_X9_faultNow (some .int)) (hs : kiv K = St) (x0 : Nat) (x1 : Int32) (rec7 : Int32 × Sg → Option (Int32 × Sg)) (hr7 : ∀ u, T K (QI K) 7 [(0, .ref x0), (1, .int (u.1))] [] 0 0 (u.2) (rec7 u)) (hk0 : kd x0 9) (rec19 : Int32 × Int32 × Sg → Option (Int32 × Sg)) (hr19 : ∀ u, T K (QI K) 19 [(0, .ref x0), (1, .int x1), (2, .int (u.1)), (3, .int (u.2.1))] [] 0 0 (u.2.2) (rec19 u)) (s : Int32 × Int32 × Sg) : T K (QI K) 19 [(0, .ref x0), (1, .int x1), (2, .int (s.1)), (3, .int (s.2.1))] [] 0 0 (s.2.2) (f_X9_faultNow_L19 rec7 x0 x1 rec19 s) := by
  unfold f_X9_faultNow_L19
  refine T_iload_n (pc := 19) h dX9_faultNow_19 rfl 3 rfl ?_
  refine T_aload_n (pc := 20) h dX9_faultNow_20 rfl 0 rfl ?_
  refine T_gR (pc := 21) h hs hk0 fl_X9_66 rfl fk_9_28 dX9_faultNow_21 (fun hq1 => ?_)
  refine T_iload_n (pc := 24) h dX9_faultNow_24 rfl 1 rfl ?_
  refine T_iald (pc := 25) h hs hq1 dX9_faultNow_25 ?_
  refine T_icmp_ge (pc := 26) (tgt := 172) h dX9_faultNow_26 (by decide) ?_ ?_
  · refine T_iload_n (pc := 172) h dX9_faultNow_172 rfl 2 rfl ?_
    refine T_if_ne (pc := 173) (tgt := 178) h dX9_faultNow_173 (by decide) ?_ ?_
    · refine T_iinc (fl := fun v2 => [(1, .int v2), (0, .ref x0), (2, .int (s.1)), (3, .int (s.2.1))]) (pc := 178) h dX9_faultNow_178 1 rfl ki_1 (by decide) (fun _ => rfl) (fun v2 => ?_)
      refine T_goto (pc := 181) (tgt := 7) h dX9_faultNow_181 (by decide) ?_
      refine T_sub [1, 0] rfl ?_
      exact hr7 (v2, (s.2.2))
    · refine T_iload_n (pc := 176) h dX9_faultNow_176 rfl 1 rfl ?_
      exact T_ireturn (pc := 177) h (Nat.zero_le _) (Nat.zero_le _) dX9_faultNow_177
  · refine T_iload_n (pc := 29) h dX9_faultNow_29 rfl 1 rfl ?_
    refine T_if_ne (pc := 30) (tgt := 37) h dX9_faultNow_30 (by decide) ?_ ?_
    · refine T_iconst (pc := 37) h dX9_faultNow_37 ki_0 ?_
      refine T_sub [0, 1, 2, 3] rfl ?_
      exact t_X9_faultNow_L38 h hs x0 x1 (s.1) (s.2.1) (0 : Int32) (s.2.2) rec7 hr7 rec19 hr19 hk0
    · refine T_iconst (pc := 33) h dX9_faultNow_33 ki_1 ?_
      refine T_goto (pc := 34) (tgt := 38) h dX9_faultNow_34 (by decide) ?_
      refine T_sub [0, 1, 2, 3] rfl ?_
      exact t_X9_faultNow_L38 h hs x0 x1 (s.1) (s.2.1) (1 : Int32) (s.2.2) rec7 hr7 rec19 hr19 hk0
theorem t_X9_faultNow_L7 {K : Cx} (h : Ok K cX9_faultNow RX9 6 rm_X9_faultNow (some .int)) (hs : kiv K = St) (x0 : Nat)  (hk0 : kd x0 9) (rec7 : Int32 × Sg → Option (Int32 × Sg)) (hr7 : ∀ u, T K (QI K) 7 [(0, .ref x0), (1, .int (u.1))] [] 0 0 (u.2) (rec7 u)) (s : Int32 × Sg) : T K (QI K) 7 [(0, .ref x0), (1, .int (s.1))] [] 0 0 (s.2) (f_X9_faultNow_L7 x0 rec7 s) := by
  unfold f_X9_faultNow_L7
  refine T_iload_n (pc := 7) h dX9_faultNow_7 rfl 1 rfl ?_
  refine T_aload_n (pc := 8) h dX9_faultNow_8 rfl 0 rfl ?_
  refine T_getI (pc := 9) h hs hk0 fl_X9_157 rfl dX9_faultNow_9 ?_
  refine T_icmp_ge (pc := 12) (tgt := 184) h dX9_faultNow_12 (by decide) ?_ ?_
  · refine T_iconst (pc := 184) h dX9_faultNow_184 ki_m1 ?_
    exact T_ireturn (pc := 185) h (Nat.zero_le _) (Nat.zero_le _) dX9_faultNow_185
  · refine T_iconst (pc := 15) h dX9_faultNow_15 ki_0 ?_
    refine T_istore_n (lv' := [(2, .int (0 : Int32)), (0, .ref x0), (1, .int (s.1))]) (pc := 16) h dX9_faultNow_16 rfl (by decide) rfl ?_
    refine T_iconst (pc := 17) h dX9_faultNow_17 ki_0 ?_
    refine T_istore_n (lv' := [(3, .int (0 : Int32)), (2, .int (0 : Int32)), (0, .ref x0), (1, .int (s.1))]) (pc := 18) h dX9_faultNow_18 rfl (by decide) rfl ?_
    refine T_sub [2, 3, 1, 0] rfl ?_
    exact T_fx (B := f_X9_faultNow_L19 rec7 x0 (s.1)) (fl := fun u => [(0, .ref x0), (1, .int (s.1)), (2, .int (u.1)), (3, .int (u.2.1))]) (f := fun u => (u.2.2)) (fun rec19 hr19 u => t_X9_faultNow_L19 h hs x0 (s.1) rec7 hr7 hk0 rec19 hr19 u) FU ((0 : Int32), (0 : Int32), (s.2))
theorem t_X9_faultNow {K : Cx} (h : Ok K cX9_faultNow RX9 6 rm_X9_faultNow (some .int)) (hs : kiv K = St) (x0 : Nat) (σ : Sg) (hk0 : kd x0 9) : T K (QI K) 0 [(0, .ref x0)] [] 0 0 σ (f_X9_faultNow x0 σ) := by
  unfold f_X9_faultNow
  refine T_aload_n (pc := 0) h dX9_faultNow_0 rfl 0 rfl ?_
  refine T_callVi (pc := 1) h (M_X9_leastNow (kl K) hs x0 σ hk0) mv_X9_leastNow hs hk0 ml_X9_237 rfl ⟨Nat.le_of_ble_eq_true rfl, Nat.le_of_ble_eq_true rfl⟩ ⟨Nat.le_refl 0, Nat.le_refl 0⟩ (Nat.le_of_ble_eq_true rfl) dX9_faultNow_1 rfl (fun r2 s1 => ?_)
  refine T_pop (pc := 4) h dX9_faultNow_4 rfl ?_
  refine T_iconst (pc := 5) h dX9_faultNow_5 ki_0 ?_
  refine T_istore_n (lv' := [(1, .int (0 : Int32)), (0, .ref x0)]) (pc := 6) h dX9_faultNow_6 rfl (by decide) rfl ?_
  refine T_sub [1, 0] rfl ?_
  exact T_fx (B := f_X9_faultNow_L7 x0) (fl := fun u => [(0, .ref x0), (1, .int (u.1))]) (f := fun u => (u.2)) (fun rec7 hr7 u => t_X9_faultNow_L7 h hs x0 hk0 rec7 hr7 u) FU ((0 : Int32), s1)
theorem M_X9_faultNow (l : Launch) {iv : Sg → Prop} (hi : iv = St) (x0 : Nat) (σ : Sg) (hk0 : kd x0 9) : CTi l yX9_faultNow cX9_faultNow 6 (some .int) rm_X9_faultNow iv [.ref x0] σ (f_X9_faultNow x0 σ) := by
  subst hi
  exact CT_of (by decide) (Nat.le_of_ble_eq_true rfl) (fun K _ h _ hs _ _ => t_X9_faultNow h hs x0 σ hk0)
/-! LuteTabsModel.fault()I -/
theorem dX9_fault_0 : decode cX9_fault 0 = .ok (.aload_n 0, 1) := by decide +kernel
theorem dX9_fault_1 : decode cX9_fault 1 = .ok (.invokevirtual 240, 3) := by decide +kernel
theorem dX9_fault_4 : decode cX9_fault 4 = .ok (.ireturn, 1) := by decide +kernel
abbrev rm_X9_fault : Room := { frames := 8, cells := 0, slots := 0, locals := 193 }
def f_X9_fault (x0 : Nat) (σ : Sg) : Option (Int32 × Sg) := bd (f_X9_faultNow x0 σ) fun r2 s1 => some (r2, s1)
theorem t_X9_fault {K : Cx} (h : Ok K cX9_fault RX9 1 rm_X9_fault (some .int)) (hs : kiv K = St) (x0 : Nat) (σ : Sg) (hk0 : kd x0 9) : T K (QI K) 0 [(0, .ref x0)] [] 0 0 σ (f_X9_fault x0 σ) := by
  unfold f_X9_fault
  refine T_aload_n (pc := 0) h dX9_fault_0 rfl 0 rfl ?_
  refine T_callVi (pc := 1) h (M_X9_faultNow (kl K) hs x0 σ hk0) mv_X9_faultNow hs hk0 ml_X9_240 rfl ⟨Nat.le_of_ble_eq_true rfl, Nat.le_of_ble_eq_true rfl⟩ ⟨Nat.le_refl 0, Nat.le_refl 0⟩ (Nat.le_of_ble_eq_true rfl) dX9_fault_1 rfl (fun r2 s1 => ?_)
  exact T_ireturn (pc := 4) h (Nat.zero_le _) (Nat.zero_le _) dX9_fault_4
theorem M_X9_fault (l : Launch) {iv : Sg → Prop} (hi : iv = St) (x0 : Nat) (σ : Sg) (hk0 : kd x0 9) : CTi l yX9_fault cX9_fault 1 (some .int) rm_X9_fault iv [.ref x0] σ (f_X9_fault x0 σ) := by
  subst hi
  exact CT_of (by decide) (Nat.le_of_ble_eq_true rfl) (fun K _ h _ hs _ _ => t_X9_fault h hs x0 σ hk0)
/-! LuteTabsModel.mend()I -/
theorem dX9_mend_0 : decode cX9_mend 0 = .ok (.aload_n 0, 1) := by decide +kernel
theorem dX9_mend_1 : decode cX9_mend 1 = .ok (.invokevirtual 237, 3) := by decide +kernel
theorem dX9_mend_4 : decode cX9_mend 4 = .ok (.istore_n 1, 1) := by decide +kernel
theorem dX9_mend_5 : decode cX9_mend 5 = .ok (.iload_n 1, 1) := by decide +kernel
theorem dX9_mend_6 : decode cX9_mend 6 = .ok (.iconst (-1), 1) := by decide +kernel
theorem dX9_mend_7 : decode cX9_mend 7 = .ok (.if_icmp .ne 6, 3) := by decide +kernel
theorem dX9_mend_10 : decode cX9_mend 10 = .ok (.bipush (-3), 2) := by decide +kernel
theorem dX9_mend_12 : decode cX9_mend 12 = .ok (.ireturn, 1) := by decide +kernel
theorem dX9_mend_13 : decode cX9_mend 13 = .ok (.iconst (-1), 1) := by decide +kernel
theorem dX9_mend_14 : decode cX9_mend 14 = .ok (.istore_n 2, 1) := by decide +kernel
theorem dX9_mend_15 : decode cX9_mend 15 = .ok (.iconst 0, 1) := by decide +kernel
theorem dX9_mend_16 : decode cX9_mend 16 = .ok (.istore_n 3, 1) := by decide +kernel
theorem dX9_mend_17 : decode cX9_mend 17 = .ok (.iload_n 3, 1) := by decide +kernel
theorem dX9_mend_18 : decode cX9_mend 18 = .ok (.aload_n 0, 1) := by decide +kernel
theorem dX9_mend_19 : decode cX9_mend 19 = .ok (.getfield 157, 3) := by decide +kernel
theorem dX9_mend_22 : decode cX9_mend 22 = .ok (.if_icmp .ge 152, 3) := by decide +kernel
theorem dX9_mend_25 : decode cX9_mend 25 = .ok (.iconst (-1), 1) := by decide +kernel
theorem dX9_mend_26 : decode cX9_mend 26 = .ok (.istore 4, 2) := by decide +kernel
theorem dX9_mend_28 : decode cX9_mend 28 = .ok (.ldc 221, 2) := by decide +kernel
theorem dX9_mend_30 : decode cX9_mend 30 = .ok (.istore 5, 2) := by decide +kernel
theorem dX9_mend_32 : decode cX9_mend 32 = .ok (.iconst 0, 1) := by decide +kernel
theorem dX9_mend_33 : decode cX9_mend 33 = .ok (.istore 6, 2) := by decide +kernel
theorem dX9_mend_35 : decode cX9_mend 35 = .ok (.iload 6, 2) := by decide +kernel
theorem dX9_mend_37 : decode cX9_mend 37 = .ok (.aload_n 0, 1) := by decide +kernel
theorem dX9_mend_38 : decode cX9_mend 38 = .ok (.getfield 66, 3) := by decide +kernel
theorem dX9_mend_41 : decode cX9_mend 41 = .ok (.iload_n 3, 1) := by decide +kernel
theorem dX9_mend_42 : decode cX9_mend 42 = .ok (.iaload, 1) := by decide +kernel
theorem dX9_mend_43 : decode cX9_mend 43 = .ok (.if_icmp .ge 67, 3) := by decide +kernel
theorem dX9_mend_46 : decode cX9_mend 46 = .ok (.iload_n 3, 1) := by decide +kernel
theorem dX9_mend_47 : decode cX9_mend 47 = .ok (.ifCond .ne 13, 3) := by decide +kernel
theorem dX9_mend_50 : decode cX9_mend 50 = .ok (.aload_n 0, 1) := by decide +kernel
theorem dX9_mend_51 : decode cX9_mend 51 = .ok (.getfield 75, 3) := by decide +kernel
theorem dX9_mend_54 : decode cX9_mend 54 = .ok (.iload 6, 2) := by decide +kernel
theorem dX9_mend_56 : decode cX9_mend 56 = .ok (.iaload, 1) := by decide +kernel
theorem dX9_mend_57 : decode cX9_mend 57 = .ok (.goto 13, 3) := by decide +kernel
theorem dX9_mend_60 : decode cX9_mend 60 = .ok (.aload_n 0, 1) := by decide +kernel
theorem dX9_mend_61 : decode cX9_mend 61 = .ok (.iload_n 3, 1) := by decide +kernel
theorem dX9_mend_62 : decode cX9_mend 62 = .ok (.iconst 1, 1) := by decide +kernel
theorem dX9_mend_63 : decode cX9_mend 63 = .ok (.isub, 1) := by decide +kernel
theorem dX9_mend_64 : decode cX9_mend 64 = .ok (.iload_n 2, 1) := by decide +kernel
theorem dX9_mend_65 : decode cX9_mend 65 = .ok (.iload 6, 2) := by decide +kernel
theorem dX9_mend_67 : decode cX9_mend 67 = .ok (.invokevirtual 222, 3) := by decide +kernel
theorem dX9_mend_70 : decode cX9_mend 70 = .ok (.istore 7, 2) := by decide +kernel
theorem dX9_mend_72 : decode cX9_mend 72 = .ok (.iload 7, 2) := by decide +kernel
theorem dX9_mend_74 : decode cX9_mend 74 = .ok (.iload 5, 2) := by decide +kernel
theorem dX9_mend_76 : decode cX9_mend 76 = .ok (.if_icmp .ge 8, 3) := by decide +kernel
theorem dX9_mend_79 : decode cX9_mend 79 = .ok (.iload 6, 2) := by decide +kernel
theorem dX9_mend_81 : decode cX9_mend 81 = .ok (.goto 5, 3) := by decide +kernel
theorem dX9_mend_84 : decode cX9_mend 84 = .ok (.iload 4, 2) := by decide +kernel
theorem dX9_mend_86 : decode cX9_mend 86 = .ok (.istore 4, 2) := by decide +kernel
theorem dX9_mend_88 : decode cX9_mend 88 = .ok (.iload 7, 2) := by decide +kernel
theorem dX9_mend_90 : decode cX9_mend 90 = .ok (.iload 5, 2) := by decide +kernel
theorem dX9_mend_92 : decode cX9_mend 92 = .ok (.if_icmp .ge 8, 3) := by decide +kernel
theorem dX9_mend_95 : decode cX9_mend 95 = .ok (.iload 7, 2) := by decide +kernel
theorem dX9_mend_97 : decode cX9_mend 97 = .ok (.goto 5, 3) := by decide +kernel
theorem dX9_mend_100 : decode cX9_mend 100 = .ok (.iload 5, 2) := by decide +kernel
theorem dX9_mend_102 : decode cX9_mend 102 = .ok (.istore 5, 2) := by decide +kernel
theorem dX9_mend_104 : decode cX9_mend 104 = .ok (.iinc 6 1, 3) := by decide +kernel
theorem dX9_mend_107 : decode cX9_mend 107 = .ok (.goto (-72), 3) := by decide +kernel
theorem dX9_mend_110 : decode cX9_mend 110 = .ok (.iconst 0, 1) := by decide +kernel
theorem dX9_mend_111 : decode cX9_mend 111 = .ok (.istore 6, 2) := by decide +kernel
theorem dX9_mend_113 : decode cX9_mend 113 = .ok (.iload 6, 2) := by decide +kernel
theorem dX9_mend_115 : decode cX9_mend 115 = .ok (.aload_n 0, 1) := by decide +kernel
theorem dX9_mend_116 : decode cX9_mend 116 = .ok (.getfield 57, 3) := by decide +kernel
theorem dX9_mend_119 : decode cX9_mend 119 = .ok (.iload_n 3, 1) := by decide +kernel
theorem dX9_mend_120 : decode cX9_mend 120 = .ok (.iaload, 1) := by decide +kernel
theorem dX9_mend_121 : decode cX9_mend 121 = .ok (.if_icmp .ge 44, 3) := by decide +kernel
theorem dX9_mend_124 : decode cX9_mend 124 = .ok (.aload_n 0, 1) := by decide +kernel
theorem dX9_mend_125 : decode cX9_mend 125 = .ok (.getfield 41, 3) := by decide +kernel
theorem dX9_mend_128 : decode cX9_mend 128 = .ok (.aload_n 0, 1) := by decide +kernel
theorem dX9_mend_129 : decode cX9_mend 129 = .ok (.getfield 54, 3) := by decide +kernel
theorem dX9_mend_132 : decode cX9_mend 132 = .ok (.bipush 14, 2) := by decide +kernel
theorem dX9_mend_134 : decode cX9_mend 134 = .ok (.iload_n 3, 1) := by decide +kernel
theorem dX9_mend_135 : decode cX9_mend 135 = .ok (.imul, 1) := by decide +kernel
theorem dX9_mend_136 : decode cX9_mend 136 = .ok (.iload 6, 2) := by decide +kernel
theorem dX9_mend_138 : decode cX9_mend 138 = .ok (.iadd, 1) := by decide +kernel
theorem dX9_mend_139 : decode cX9_mend 139 = .ok (.iaload, 1) := by decide +kernel
theorem dX9_mend_140 : decode cX9_mend 140 = .ok (.aload_n 0, 1) := by decide +kernel
theorem dX9_mend_141 : decode cX9_mend 141 = .ok (.getfield 63, 3) := by decide +kernel
theorem dX9_mend_144 : decode cX9_mend 144 = .ok (.sipush 128, 3) := by decide +kernel
theorem dX9_mend_147 : decode cX9_mend 147 = .ok (.iload_n 3, 1) := by decide +kernel
theorem dX9_mend_148 : decode cX9_mend 148 = .ok (.imul, 1) := by decide +kernel
theorem dX9_mend_149 : decode cX9_mend 149 = .ok (.iload 4, 2) := by decide +kernel
theorem dX9_mend_151 : decode cX9_mend 151 = .ok (.iadd, 1) := by decide +kernel
theorem dX9_mend_152 : decode cX9_mend 152 = .ok (.iaload, 1) := by decide +kernel
theorem dX9_mend_153 : decode cX9_mend 153 = .ok (.iload 6, 2) := by decide +kernel
theorem dX9_mend_155 : decode cX9_mend 155 = .ok (.invokestatic 200, 3) := by decide +kernel
theorem dX9_mend_158 : decode cX9_mend 158 = .ok (.iastore, 1) := by decide +kernel
theorem dX9_mend_159 : decode cX9_mend 159 = .ok (.iinc 6 1, 3) := by decide +kernel
theorem dX9_mend_162 : decode cX9_mend 162 = .ok (.goto (-49), 3) := by decide +kernel
theorem dX9_mend_165 : decode cX9_mend 165 = .ok (.iload 4, 2) := by decide +kernel
theorem dX9_mend_167 : decode cX9_mend 167 = .ok (.istore_n 2, 1) := by decide +kernel
theorem dX9_mend_168 : decode cX9_mend 168 = .ok (.iinc 3 1, 3) := by decide +kernel
theorem dX9_mend_171 : decode cX9_mend 171 = .ok (.goto (-154), 3) := by decide +kernel
theorem dX9_mend_174 : decode cX9_mend 174 = .ok (.aload_n 0, 1) := by decide +kernel
theorem dX9_mend_175 : decode cX9_mend 175 = .ok (.iconst 1, 1) := by decide +kernel
theorem dX9_mend_176 : decode cX9_mend 176 = .ok (.putfield 111, 3) := by decide +kernel
theorem dX9_mend_179 : decode cX9_mend 179 = .ok (.iload_n 1, 1) := by decide +kernel
theorem dX9_mend_180 : decode cX9_mend 180 = .ok (.ireturn, 1) := by decide +kernel
abbrev rm_X9_mend : Room := { frames := 7, cells := 0, slots := 0, locals := 168 }
def f_X9_mend_L102 (rec17 : Int32 × Int32 × Sg → Option (Int32 × Sg)) (rec35 : Int32 × Int32 × Int32 × Sg → Option (Int32 × Sg)) (x0 : Nat) (x1 : Int32) (x2 : Int32) (x3 : Int32) (x4 : Int32) (x6 : Int32) (y0 : Int32) (σ : Sg) : Option (Int32 × Sg) := lB (x6 + (1 : Int32)) fun v1 => rec35 (x4, y0, v1, σ)
def f_X9_mend_L86 (rec17 : Int32 × Int32 × Sg → Option (Int32 × Sg)) (rec35 : Int32 × Int32 × Int32 × Sg → Option (Int32 × Sg)) (x0 : Nat) (x1 : Int32) (x2 : Int32) (x3 : Int32) (x5 : Int32) (x6 : Int32) (x7 : Int32) (y0 : Int32) (σ : Sg) : Option (Int32 × Sg) := (if x5 ≤ x7 then f_X9_mend_L102 rec17 rec35 x0 x1 x2 x3 y0 x6 x5 σ else f_X9_mend_L102 rec17 rec35 x0 x1 x2 x3 y0 x6 x7 σ)
def f_X9_mend_L70 (rec17 : Int32 × Int32 × Sg → Option (Int32 × Sg)) (rec35 : Int32 × Int32 × Int32 × Sg → Option (Int32 × Sg)) (x0 : Nat) (x1 : Int32) (x2 : Int32) (x3 : Int32) (x4 : Int32) (x5 : Int32) (x6 : Int32) (y0 : Int32) (σ : Sg) : Option (Int32 × Sg) := (if x5 ≤ y0 then f_X9_mend_L86 rec17 rec35 x0 x1 x2 x3 x5 x6 y0 x4 σ else f_X9_mend_L86 rec17 rec35 x0 x1 x2 x3 x5 x6 y0 x6 σ)
def f_X9_mend_L113 (rec17 : Int32 × Int32 × Sg → Option (Int32 × Sg)) (x0 : Nat) (x1 : Int32) (x3 : Int32) (x4 : Int32) (rec113 : Int32 × Sg → Option (Int32 × Sg)) (s : Int32 × Sg) : Option (Int32 × Sg) := ck (inb x3 (aL (gR (s.2) x0 18))) ((if (gI (s.2) (gR (s.2) x0 18) x3.toNatClampNeg) ≤ (s.1) then lB (x3 + (1 : Int32)) fun v2 => rec17 (x4, v2, (s.2)) else ck (inb (((14 : Int32) * x3) + (s.1)) (aL (gR (s.2) x0 17))) (ck (inb (((128 : Int32) * x3) + x4) (aL (gR (s.2) x0 27))) (bd (f_X9_courseIn (gI (s.2) (gR (s.2) x0 27) (((128 : Int32) * x3) + x4).toNatClampNeg) (s.1) (s.2)) fun r7 s6 => ck (inb (gI (s.2) (gR (s.2) x0 17) (((14 : Int32) * x3) + (s.1)).toNatClampNeg) (aL (gR (s.2) x0 11))) (lB (pI s6 (gR (s.2) x0 11) (gI (s.2) (gR (s.2) x0 17) (((14 : Int32) * x3) + (s.1)).toNatClampNeg).toNatClampNeg r7) fun s8 => lB ((s.1) + (1 : Int32)) fun v9 => rec113 (v9, s8))))))
def f_X9_mend_L35 (rec17 : Int32 × Int32 × Sg → Option (Int32 × Sg)) (x0 : Nat) (x1 : Int32) (x2 : Int32) (x3 : Int32) (rec35 : Int32 × Int32 × Int32 × Sg → Option (Int32 × Sg)) (s : Int32 × Int32 × Int32 × Sg) : Option (Int32 × Sg) := ck (inb x3 (aL (gR (s.2.2.2) x0 28))) ((if (gI (s.2.2.2) (gR (s.2.2.2) x0 28) x3.toNatClampNeg) ≤ (s.2.2.1) then fx (f_X9_mend_L113 rec17 x0 x1 x3 (s.1)) FU ((0 : Int32), (s.2.2.2)) else (if x3 = 0 then ck (inb (s.2.2.1) (aL (gR (s.2.2.2) x0 31))) (f_X9_mend_L70 rec17 rec35 x0 x1 x2 x3 (s.1) (s.2.1) (s.2.2.1) (gI (s.2.2.2) (gR (s.2.2.2) x0 31) (s.2.2.1).toNatClampNeg) (s.2.2.2)) else bd (f_X9_joined x0 (x3 - (1 : Int32)) x2 (s.2.2.1) (s.2.2.2)) fun r3 s2 => f_X9_mend_L70 rec17 rec35 x0 x1 x2 x3 (s.1) (s.2.1) (s.2.2.1) r3 s2)))
def f_X9_mend_L17  (x0 : Nat) (x1 : Int32) (rec17 : Int32 × Int32 × Sg → Option (Int32 × Sg)) (s : Int32 × Int32 × Sg) : Option (Int32 × Sg) := (if (gI (s.2.2) x0 16) ≤ (s.2.1) then ck (b01 (1 : Int32)) (lB (pI (s.2.2) x0 12 (1 : Int32)) fun s1 => some (x1, s1)) else fx (f_X9_mend_L35 rec17 x0 x1 (s.1) (s.2.1)) FU ((-1 : Int32), (1000000 : Int32), (0 : Int32), (s.2.2)))
def f_X9_mend (x0 : Nat) (σ : Sg) : Option (Int32 × Sg) := bd (f_X9_leastNow x0 σ) fun r2 s1 => (if r2 = (-1 : Int32) then some ((-3 : Int32), s1) else fx (f_X9_mend_L17 x0 r2) FU ((-1 : Int32), (0 : Int32), s1))
theorem t_X9_mend_L102 {K : Cx} (h : Ok K cX9_mend RX9 8 rm_X9_mend (some .int)) (hs : kiv K = St) (x0 : Nat) (x1 : Int32) (x2 : Int32) (x3 : Int32) (x4 : Int32) (x6 : Int32) (y0 : Int32) (σ : Sg) (rec17 : Int32 × Int32 × Sg → Option (Int32 × Sg)) (hr17 : ∀ u, T K (QI K) 17 [(0, .ref x0), (1, .int x1), (2, .int (u.1)), (3, .int (u.2.1))] [] 0 0 (u.2.2) (rec17 u)) (rec35 : Int32 × Int32 × Int32 × Sg → Option (Int32 × Sg)) (hr35 : ∀ u, T K (QI K) 35 [(0, .ref x0), (1, .int x1), (2, .int x2), (3, .int x3), (4, .int (u.1)), (5, .int (u.2.1)), (6, .int (u.2.2.1))] [] 0 0 (u.2.2.2) (rec35 u)) (hk0 : kd x0 9)  : T K (QI K) 102 [(0, .ref x0), (1, .int x1), (2, .int x2), (3, .int x3), (4, .int x4), (6, .int x6)] [.int y0] 0 0 σ (f_X9_mend_L102 rec17 rec35 x0 x1 x2 x3 x4 x6 y0 σ) := by
  unfold f_X9_mend_L102
  refine T_istore (lv' := [(5, .int y0), (0, .ref x0), (1, .int x1), (2, .int x2), (3, .int x3), (4, .int x4), (6, .int x6)]) (pc := 102) h dX9_mend_102 (by decide) rfl ?_
  refine T_iinc (fl := fun v1 => [(6, .int v1), (5, .int y0), (0, .ref x0), (1, .int x1), (2, .int x2), (3, .int x3), (4, .int x4)]) (pc := 104) h dX9_mend_104 6 rfl ki_1 (by decide) (fun _ => rfl) (fun v1 => ?_)
  refine T_goto (pc := 107) (tgt := 35) h dX9_mend_107 (by decide) ?_
  refine T_sub [2, 3, 4, 5, 6, 1, 0] rfl ?_
  exact hr35 (x4, y0, v1, σ)
theorem t_X9_mend_L86 {K : Cx} (h : Ok K cX9_mend RX9 8 rm_X9_mend (some .int)) (hs : kiv K = St) (x0 : Nat) (x1 : Int32) (x2 : Int32) (x3 : Int32) (x5 : Int32) (x6 : Int32) (x7 : Int32) (y0 : Int32) (σ : Sg) (rec17 : Int32 × Int32 × Sg → Option (Int32 × Sg)) (hr17 : ∀ u, T K (QI K) 17 [(0, .ref x0), (1, .int x1), (2, .int (u.1)), (3, .int (u.2.1))] [] 0 0 (u.2.2) (rec17 u)) (rec35 : Int32 × Int32 × Int32 × Sg → Option (Int32 × Sg)) (hr35 : ∀ u, T K (QI K) 35 [(0, .ref x0), (1, .int x1), (2, .int x2), (3, .int x3), (4, .int (u.1)), (5, .int (u.2.1)), (6, .int (u.2.2.1))] [] 0 0 (u.2.2.2) (rec35 u)) (hk0 : kd x0 9)  : T K (QI K) 86 [(0, .ref x0), (1, .int x1), (2, .int x2), (3, .int x3), (5, .int x5), (6, .int x6), (7, .int x7)] [.int y0] 0 0 σ (f_X9_mend_L86 rec17 rec35 x0 x1 x2 x3 x5 x6 x7 y0 σ) := by
  unfold f_X9_mend_L86
  refine T_istore (lv' := [(4, .int y0), (0, .ref x0), (1, .int x1), (2, .int x2), (3, .int x3), (5, .int x5), (6, .int x6), (7, .int x7)]) (pc := 86) h dX9_mend_86 (by decide) rfl ?_
  refine T_iload (pc := 88) h dX9_mend_88 7 rfl ?_
  refine T_iload (pc := 90) h dX9_mend_90 5 rfl ?_
  refine T_icmp_ge (pc := 92) (tgt := 100) h dX9_mend_92 (by decide) ?_ ?_
  · refine T_iload (pc := 100) h dX9_mend_100 5 rfl ?_
    refine T_sub [1, 2, 3, 4, 0, 6] rfl ?_
    exact t_X9_mend_L102 h hs x0 x1 x2 x3 y0 x6 x5 σ rec17 hr17 rec35 hr35 hk0
  · refine T_iload (pc := 95) h dX9_mend_95 7 rfl ?_
    refine T_goto (pc := 97) (tgt := 102) h dX9_mend_97 (by decide) ?_
    refine T_sub [1, 2, 3, 4, 0, 6] rfl ?_
    exact t_X9_mend_L102 h hs x0 x1 x2 x3 y0 x6 x7 σ rec17 hr17 rec35 hr35 hk0
theorem t_X9_mend_L70 {K : Cx} (h : Ok K cX9_mend RX9 8 rm_X9_mend (some .int)) (hs : kiv K = St) (x0 : Nat) (x1 : Int32) (x2 : Int32) (x3 : Int32) (x4 : Int32) (x5 : Int32) (x6 : Int32) (y0 : Int32) (σ : Sg) (rec17 : Int32 × Int32 × Sg → Option (Int32 × Sg)) (hr17 : ∀ u, T K (QI K) 17 [(0, .ref x0), (1, .int x1), (2, .int (u.1)), (3, .int (u.2.1))] [] 0 0 (u.2.2) (rec17 u)) (rec35 : Int32 × Int32 × Int32 × Sg → Option (Int32 × Sg)) (hr35 : ∀ u, T K (QI K) 35 [(0, .ref x0), (1, .int x1), (2, .int x2), (3, .int x3), (4, .int (u.1)), (5, .int (u.2.1)), (6, .int (u.2.2.1))] [] 0 0 (u.2.2.2) (rec35 u)) (hk0 : kd x0 9)  : T K (QI K) 70 [(0, .ref x0), (1, .int x1), (2, .int x2), (3, .int x3), (4, .int x4), (5, .int x5), (6, .int x6)] [.int y0] 0 0 σ (f_X9_mend_L70 rec17 rec35 x0 x1 x2 x3 x4 x5 x6 y0 σ) := by
  unfold f_X9_mend_L70
  refine T_istore (lv' := [(7, .int y0), (0, .ref x0), (1, .int x1), (2, .int x2), (3, .int x3), (4, .int x4), (5, .int x5), (6, .int x6)]) (pc := 70) h dX9_mend_70 (by decide) rfl ?_
  refine T_iload (pc := 72) h dX9_mend_72 0 rfl ?_
  refine T_iload (pc := 74) h dX9_mend_74 6 rfl ?_
  refine T_icmp_ge (pc := 76) (tgt := 84) h dX9_mend_76 (by decide) ?_ ?_
  · refine T_iload (pc := 84) h dX9_mend_84 5 rfl ?_
    refine T_sub [1, 2, 3, 4, 6, 7, 0] rfl ?_
    exact t_X9_mend_L86 h hs x0 x1 x2 x3 x5 x6 y0 x4 σ rec17 hr17 rec35 hr35 hk0
  · refine T_iload (pc := 79) h dX9_mend_79 7 rfl ?_
    refine T_goto (pc := 81) (tgt := 86) h dX9_mend_81 (by decide) ?_
    refine T_sub [1, 2, 3, 4, 6, 7, 0] rfl ?_
    exact t_X9_mend_L86 h hs x0 x1 x2 x3 x5 x6 y0 x6 σ rec17 hr17 rec35 hr35 hk0
theorem t_X9_mend_L113 {K : Cx} (h : Ok K cX9_mend RX9 8 rm_X9_mend (some .int)) (hs : kiv K = St) (x0 : Nat) (x1 : Int32) (x3 : Int32) (x4 : Int32) (rec17 : Int32 × Int32 × Sg → Option (Int32 × Sg)) (hr17 : ∀ u, T K (QI K) 17 [(0, .ref x0), (1, .int x1), (2, .int (u.1)), (3, .int (u.2.1))] [] 0 0 (u.2.2) (rec17 u)) (hk0 : kd x0 9) (rec113 : Int32 × Sg → Option (Int32 × Sg)) (hr113 : ∀ u, T K (QI K) 113 [(0, .ref x0), (1, .int x1), (3, .int x3), (4, .int x4), (6, .int (u.1))] [] 0 0 (u.2) (rec113 u)) (s : Int32 × Sg) : T K (QI K) 113 [(0, .ref x0), (1, .int x1), (3, .int x3), (4, .int x4), (6, .int (s.1))] [] 0 0 (s.2) (f_X9_mend_L113 rec17 x0 x1 x3 x4 rec113 s) := by
  unfold f_X9_mend_L113
  refine T_iload (pc := 113) h dX9_mend_113 4 rfl ?_
  refine T_aload_n (pc := 115) h dX9_mend_115 rfl 0 rfl ?_
  refine T_gR (pc := 116) h hs hk0 fl_X9_57 rfl fk_9_18 dX9_mend_116 (fun hq1 => ?_)
  refine T_iload_n (pc := 119) h dX9_mend_119 rfl 2 rfl ?_
  refine T_iald (pc := 120) h hs hq1 dX9_mend_120 ?_
  refine T_icmp_ge (pc := 121) (tgt := 165) h dX9_mend_121 (by decide) ?_ ?_
  · refine T_iload (pc := 165) h dX9_mend_165 3 rfl ?_
    refine T_istore_n (lv' := [(2, .int x4), (0, .ref x0), (1, .int x1), (3, .int x3), (4, .int x4), (6, .int (s.1))]) (pc := 167) h dX9_mend_167 rfl (by decide) rfl ?_
    refine T_iinc (fl := fun v2 => [(3, .int v2), (2, .int x4), (0, .ref x0), (1, .int x1), (4, .int x4), (6, .int (s.1))]) (pc := 168) h dX9_mend_168 3 rfl ki_1 (by decide) (fun _ => rfl) (fun v2 => ?_)
    refine T_goto (pc := 171) (tgt := 17) h dX9_mend_171 (by decide) ?_
    refine T_sub [2, 3, 1, 0] rfl ?_
    exact hr17 (x4, v2, (s.2))
  · refine T_aload_n (pc := 124) h dX9_mend_124 rfl 0 rfl ?_
    refine T_gR (pc := 125) h hs hk0 fl_X9_41 rfl fk_9_11 dX9_mend_125 (fun hq3 => ?_)
    refine T_aload_n (pc := 128) h dX9_mend_128 rfl 0 rfl ?_
    refine T_gR (pc := 129) h hs hk0 fl_X9_54 rfl fk_9_17 dX9_mend_129 (fun hq4 => ?_)
    refine T_bipush (pc := 132) h dX9_mend_132 kb_14 ?_
    refine T_iload_n (pc := 134) h dX9_mend_134 rfl 2 rfl ?_
    refine T_imul (pc := 135) h dX9_mend_135 ?_
    refine T_iload (pc := 136) h dX9_mend_136 4 rfl ?_
    refine T_iadd (pc := 138) h dX9_mend_138 ?_
    refine T_iald (pc := 139) h hs hq4 dX9_mend_139 ?_
    refine T_aload_n (pc := 140) h dX9_mend_140 rfl 0 rfl ?_
    refine T_gR (pc := 141) h hs hk0 fl_X9_63 rfl fk_9_27 dX9_mend_141 (fun hq5 => ?_)
    refine T_sipush (pc := 144) h dX9_mend_144 ks_128 ?_
    refine T_iload_n (pc := 147) h dX9_mend_147 rfl 2 rfl ?_
    refine T_imul (pc := 148) h dX9_mend_148 ?_
    refine T_iload (pc := 149) h dX9_mend_149 3 rfl ?_
    refine T_iadd (pc := 151) h dX9_mend_151 ?_
    refine T_iald (pc := 152) h hs hq5 dX9_mend_152 ?_
    refine T_iload (pc := 153) h dX9_mend_153 4 rfl ?_
    refine T_callSi (pc := 155) h (M_X9_courseIn (kl K) hs (gI (s.2) (gR (s.2) x0 27) (((128 : Int32) * x3) + x4).toNatClampNeg) (s.1) (s.2) ) mst_X9_courseIn ml_X9_200 rfl ⟨Nat.le_of_ble_eq_true rfl, Nat.le_of_ble_eq_true rfl⟩ ⟨Nat.le_refl 0, Nat.le_refl 0⟩ (Nat.le_of_ble_eq_true rfl) dX9_mend_155 rfl (fun r7 s6 => ?_)
    refine T_iast (pc := 158) h hs hq3 dX9_mend_158 ?_
    refine T_letS fun s8 => ?_
    refine T_iinc (fl := fun v9 => [(6, .int v9), (0, .ref x0), (1, .int x1), (3, .int x3), (4, .int x4)]) (pc := 159) h dX9_mend_159 4 rfl ki_1 (by decide) (fun _ => rfl) (fun v9 => ?_)
    refine T_goto (pc := 162) (tgt := 113) h dX9_mend_162 (by decide) ?_
    refine T_sub [1, 2, 3, 4, 0] rfl ?_
    exact hr113 (v9, s8)
theorem t_X9_mend_L35 {K : Cx} (h : Ok K cX9_mend RX9 8 rm_X9_mend (some .int)) (hs : kiv K = St) (x0 : Nat) (x1 : Int32) (x2 : Int32) (x3 : Int32) (rec17 : Int32 × Int32 × Sg → Option (Int32 × Sg)) (hr17 : ∀ u, T K (QI K) 17 [(0, .ref x0), (1, .int x1), (2, .int (u.1)), (3, .int (u.2.1))] [] 0 0 (u.2.2) (rec17 u)) (hk0 : kd x0 9) (rec35 : Int32 × Int32 × Int32 × Sg → Option (Int32 × Sg)) (hr35 : ∀ u, T K (QI K) 35 [(0, .ref x0), (1, .int x1), (2, .int x2), (3, .int x3), (4, .int (u.1)), (5, .int (u.2.1)), (6, .int (u.2.2.1))] [] 0 0 (u.2.2.2) (rec35 u)) (s : Int32 × Int32 × Int32 × Sg) : T K (QI K) 35 [(0, .ref x0), (1, .int x1), (2, .int x2), (3, .int x3), (4, .int (s.1)), (5, .int (s.2.1)), (6, .int (s.2.2.1))] [] 0 0 (s.2.2.2) (f_X9_mend_L35 rec17 x0 x1 x2 x3 rec35 s) := by
  unfold f_X9_mend_L35
  refine T_iload (pc := 35) h dX9_mend_35 6 rfl ?_
  refine T_aload_n (pc := 37) h dX9_mend_37 rfl 0 rfl ?_
  refine T_gR (pc := 38) h hs hk0 fl_X9_66 rfl fk_9_28 dX9_mend_38 (fun hq1 => ?_)
  refine T_iload_n (pc := 41) h dX9_mend_41 rfl 3 rfl ?_
  refine T_iald (pc := 42) h hs hq1 dX9_mend_42 ?_
  refine T_icmp_ge (pc := 43) (tgt := 110) h dX9_mend_43 (by decide) ?_ ?_
  · refine T_iconst (pc := 110) h dX9_mend_110 ki_0 ?_
    refine T_istore (lv' := [(6, .int (0 : Int32)), (0, .ref x0), (1, .int x1), (2, .int x2), (3, .int x3), (4, .int (s.1)), (5, .int (s.2.1))]) (pc := 111) h dX9_mend_111 (by decide) rfl ?_
    refine T_sub [1, 2, 4, 5, 0] rfl ?_
    exact T_fx (B := f_X9_mend_L113 rec17 x0 x1 x3 (s.1)) (fl := fun u => [(0, .ref x0), (1, .int x1), (3, .int x3), (4, .int (s.1)), (6, .int (u.1))]) (f := fun u => (u.2)) (fun rec113 hr113 u => t_X9_mend_L113 h hs x0 x1 x3 (s.1) rec17 hr17 hk0 rec113 hr113 u) FU ((0 : Int32), (s.2.2.2))
  · refine T_iload_n (pc := 46) h dX9_mend_46 rfl 3 rfl ?_
    refine T_if_ne (pc := 47) (tgt := 60) h dX9_mend_47 (by decide) ?_ ?_
    · refine T_aload_n (pc := 60) h dX9_mend_60 rfl 0 rfl ?_
      refine T_iload_n (pc := 61) h dX9_mend_61 rfl 3 rfl ?_
      refine T_iconst (pc := 62) h dX9_mend_62 ki_1 ?_
      refine T_isub (pc := 63) h dX9_mend_63 ?_
      refine T_iload_n (pc := 64) h dX9_mend_64 rfl 2 rfl ?_
      refine T_iload (pc := 65) h dX9_mend_65 6 rfl ?_
      refine T_callVi (pc := 67) h (M_X9_joined (kl K) hs x0 (x3 - (1 : Int32)) x2 (s.2.2.1) (s.2.2.2) hk0) mv_X9_joined hs hk0 ml_X9_222 rfl ⟨Nat.le_of_ble_eq_true rfl, Nat.le_of_ble_eq_true rfl⟩ ⟨Nat.le_refl 0, Nat.le_refl 0⟩ (Nat.le_of_ble_eq_true rfl) dX9_mend_67 rfl (fun r3 s2 => ?_)
      refine T_sub [0, 1, 2, 3, 4, 5, 6] rfl ?_
      exact t_X9_mend_L70 h hs x0 x1 x2 x3 (s.1) (s.2.1) (s.2.2.1) r3 s2 rec17 hr17 rec35 hr35 hk0
    · refine T_aload_n (pc := 50) h dX9_mend_50 rfl 0 rfl ?_
      refine T_gR (pc := 51) h hs hk0 fl_X9_75 rfl fk_9_31 dX9_mend_51 (fun hq4 => ?_)
      refine T_iload (pc := 54) h dX9_mend_54 6 rfl ?_
      refine T_iald (pc := 56) h hs hq4 dX9_mend_56 ?_
      refine T_goto (pc := 57) (tgt := 70) h dX9_mend_57 (by decide) ?_
      refine T_sub [0, 1, 2, 3, 4, 5, 6] rfl ?_
      exact t_X9_mend_L70 h hs x0 x1 x2 x3 (s.1) (s.2.1) (s.2.2.1) (gI (s.2.2.2) (gR (s.2.2.2) x0 31) (s.2.2.1).toNatClampNeg) (s.2.2.2) rec17 hr17 rec35 hr35 hk0
theorem t_X9_mend_L17 {K : Cx} (h : Ok K cX9_mend RX9 8 rm_X9_mend (some .int)) (hs : kiv K = St) (x0 : Nat) (x1 : Int32)  (hk0 : kd x0 9) (rec17 : Int32 × Int32 × Sg → Option (Int32 × Sg)) (hr17 : ∀ u, T K (QI K) 17 [(0, .ref x0), (1, .int x1), (2, .int (u.1)), (3, .int (u.2.1))] [] 0 0 (u.2.2) (rec17 u)) (s : Int32 × Int32 × Sg) : T K (QI K) 17 [(0, .ref x0), (1, .int x1), (2, .int (s.1)), (3, .int (s.2.1))] [] 0 0 (s.2.2) (f_X9_mend_L17 x0 x1 rec17 s) := by
  unfold f_X9_mend_L17
  refine T_iload_n (pc := 17) h dX9_mend_17 rfl 3 rfl ?_
  refine T_aload_n (pc := 18) h dX9_mend_18 rfl 0 rfl ?_
  refine T_getI (pc := 19) h hs hk0 fl_X9_157 rfl dX9_mend_19 ?_
  refine T_icmp_ge (pc := 22) (tgt := 174) h dX9_mend_22 (by decide) ?_ ?_
  · refine T_aload_n (pc := 174) h dX9_mend_174 rfl 0 rfl ?_
    refine T_iconst (pc := 175) h dX9_mend_175 ki_1 ?_
    refine T_putZ (pc := 176) h hs hk0 fl_X9_111 rfl rfl dX9_mend_176 ?_
    refine T_letS fun s1 => ?_
    refine T_iload_n (pc := 179) h dX9_mend_179 rfl 1 rfl ?_
    exact T_ireturn (pc := 180) h (Nat.zero_le _) (Nat.zero_le _) dX9_mend_180
  · refine T_iconst (pc := 25) h dX9_mend_25 ki_m1 ?_
    refine T_istore (lv' := [(4, .int (-1 : Int32)), (0, .ref x0), (1, .int x1), (2, .int (s.1)), (3, .int (s.2.1))]) (pc := 26) h dX9_mend_26 (by decide) rfl ?_
    refine T_ldc (pc := 28) h kc_X9_221 dX9_mend_28 ?_
    refine T_istore (lv' := [(5, .int (1000000 : Int32)), (4, .int (-1 : Int32)), (0, .ref x0), (1, .int x1), (2, .int (s.1)), (3, .int (s.2.1))]) (pc := 30) h dX9_mend_30 (by decide) rfl ?_
    refine T_iconst (pc := 32) h dX9_mend_32 ki_0 ?_
    refine T_istore (lv' := [(6, .int (0 : Int32)), (5, .int (1000000 : Int32)), (4, .int (-1 : Int32)), (0, .ref x0), (1, .int x1), (2, .int (s.1)), (3, .int (s.2.1))]) (pc := 33) h dX9_mend_33 (by decide) rfl ?_
    refine T_sub [3, 4, 5, 6, 2, 1, 0] rfl ?_
    exact T_fx (B := f_X9_mend_L35 rec17 x0 x1 (s.1) (s.2.1)) (fl := fun u => [(0, .ref x0), (1, .int x1), (2, .int (s.1)), (3, .int (s.2.1)), (4, .int (u.1)), (5, .int (u.2.1)), (6, .int (u.2.2.1))]) (f := fun u => (u.2.2.2)) (fun rec35 hr35 u => t_X9_mend_L35 h hs x0 x1 (s.1) (s.2.1) rec17 hr17 hk0 rec35 hr35 u) FU ((-1 : Int32), (1000000 : Int32), (0 : Int32), (s.2.2))
theorem t_X9_mend {K : Cx} (h : Ok K cX9_mend RX9 8 rm_X9_mend (some .int)) (hs : kiv K = St) (x0 : Nat) (σ : Sg) (hk0 : kd x0 9) : T K (QI K) 0 [(0, .ref x0)] [] 0 0 σ (f_X9_mend x0 σ) := by
  unfold f_X9_mend
  refine T_aload_n (pc := 0) h dX9_mend_0 rfl 0 rfl ?_
  refine T_callVi (pc := 1) h (M_X9_leastNow (kl K) hs x0 σ hk0) mv_X9_leastNow hs hk0 ml_X9_237 rfl ⟨Nat.le_of_ble_eq_true rfl, Nat.le_of_ble_eq_true rfl⟩ ⟨Nat.le_refl 0, Nat.le_refl 0⟩ (Nat.le_of_ble_eq_true rfl) dX9_mend_1 rfl (fun r2 s1 => ?_)
  refine T_istore_n (lv' := [(1, .int r2), (0, .ref x0)]) (pc := 4) h dX9_mend_4 rfl (by decide) rfl ?_
  refine T_iload_n (pc := 5) h dX9_mend_5 rfl 0 rfl ?_
  refine T_iconst (pc := 6) h dX9_mend_6 ki_m1 ?_
  refine T_icmp_ne (pc := 7) (tgt := 13) h dX9_mend_7 (by decide) ?_ ?_
  · refine T_iconst (pc := 13) h dX9_mend_13 ki_m1 ?_
    refine T_istore_n (lv' := [(2, .int (-1 : Int32)), (1, .int r2), (0, .ref x0)]) (pc := 14) h dX9_mend_14 rfl (by decide) rfl ?_
    refine T_iconst (pc := 15) h dX9_mend_15 ki_0 ?_
    refine T_istore_n (lv' := [(3, .int (0 : Int32)), (2, .int (-1 : Int32)), (1, .int r2), (0, .ref x0)]) (pc := 16) h dX9_mend_16 rfl (by decide) rfl ?_
    refine T_sub [3, 2, 1, 0] rfl ?_
    exact T_fx (B := f_X9_mend_L17 x0 r2) (fl := fun u => [(0, .ref x0), (1, .int r2), (2, .int (u.1)), (3, .int (u.2.1))]) (f := fun u => (u.2.2)) (fun rec17 hr17 u => t_X9_mend_L17 h hs x0 r2 hk0 rec17 hr17 u) FU ((-1 : Int32), (0 : Int32), s1)
  · refine T_bipush (pc := 10) h dX9_mend_10 kb_m3 ?_
    exact T_ireturn (pc := 12) h (Nat.zero_le _) (Nat.zero_le _) dX9_mend_12
theorem M_X9_mend (l : Launch) {iv : Sg → Prop} (hi : iv = St) (x0 : Nat) (σ : Sg) (hk0 : kd x0 9) : CTi l yX9_mend cX9_mend 8 (some .int) rm_X9_mend iv [.ref x0] σ (f_X9_mend x0 σ) := by
  subst hi
  exact CT_of (by decide) (Nat.le_of_ble_eq_true rfl) (fun K _ h _ hs _ _ => t_X9_mend h hs x0 σ hk0)
/-! LuteTabsModel.laysAll()V -/
theorem dX9_laysAll_0 : decode cX9_laysAll 0 = .ok (.iconst 0, 1) := by decide +kernel
theorem dX9_laysAll_1 : decode cX9_laysAll 1 = .ok (.istore_n 1, 1) := by decide +kernel
theorem dX9_laysAll_2 : decode cX9_laysAll 2 = .ok (.iload_n 1, 1) := by decide +kernel
theorem dX9_laysAll_3 : decode cX9_laysAll 3 = .ok (.aload_n 0, 1) := by decide +kernel
theorem dX9_laysAll_4 : decode cX9_laysAll 4 = .ok (.getfield 130, 3) := by decide +kernel
theorem dX9_laysAll_7 : decode cX9_laysAll 7 = .ok (.if_icmp .ge 21, 3) := by decide +kernel
theorem dX9_laysAll_10 : decode cX9_laysAll 10 = .ok (.aload_n 0, 1) := by decide +kernel
theorem dX9_laysAll_11 : decode cX9_laysAll 11 = .ok (.getfield 60, 3) := by decide +kernel
theorem dX9_laysAll_14 : decode cX9_laysAll 14 = .ok (.iload_n 1, 1) := by decide +kernel
theorem dX9_laysAll_15 : decode cX9_laysAll 15 = .ok (.aload_n 0, 1) := by decide +kernel
theorem dX9_laysAll_16 : decode cX9_laysAll 16 = .ok (.getfield 41, 3) := by decide +kernel
theorem dX9_laysAll_19 : decode cX9_laysAll 19 = .ok (.iload_n 1, 1) := by decide +kernel
theorem dX9_laysAll_20 : decode cX9_laysAll 20 = .ok (.iaload, 1) := by decide +kernel
theorem dX9_laysAll_21 : decode cX9_laysAll 21 = .ok (.iastore, 1) := by decide +kernel
theorem dX9_laysAll_22 : decode cX9_laysAll 22 = .ok (.iinc 1 1, 3) := by decide +kernel
theorem dX9_laysAll_25 : decode cX9_laysAll 25 = .ok (.goto (-23), 3) := by decide +kernel
theorem dX9_laysAll_28 : decode cX9_laysAll 28 = .ok (.return_, 1) := by decide +kernel
abbrev rm_X9_laysAll : Room := { frames := 0, cells := 0, slots := 0, locals := 0 }
def f_X9_laysAll_L2  (x0 : Nat) (rec2 : Int32 × Sg → Option (Unit × Sg)) (s : Int32 × Sg) : Option (Unit × Sg) := (if (gI (s.2) x0 10) ≤ (s.1) then some ((), (s.2)) else ck (inb (s.1) (aL (gR (s.2) x0 11))) (ck (inb (s.1) (aL (gR (s.2) x0 19))) (lB (pI (s.2) (gR (s.2) x0 19) (s.1).toNatClampNeg (gI (s.2) (gR (s.2) x0 11) (s.1).toNatClampNeg)) fun s3 => lB ((s.1) + (1 : Int32)) fun v4 => rec2 (v4, s3))))
def f_X9_laysAll (x0 : Nat) (σ : Sg) : Option (Unit × Sg) := fx (f_X9_laysAll_L2 x0) FU ((0 : Int32), σ)
theorem t_X9_laysAll_L2 {K : Cx} (h : Ok K cX9_laysAll RX9 2 rm_X9_laysAll none) (hs : kiv K = St) (x0 : Nat)  (hk0 : kd x0 9) (rec2 : Int32 × Sg → Option (Unit × Sg)) (hr2 : ∀ u, T K (QV K) 2 [(0, .ref x0), (1, .int (u.1))] [] 0 0 (u.2) (rec2 u)) (s : Int32 × Sg) : T K (QV K) 2 [(0, .ref x0), (1, .int (s.1))] [] 0 0 (s.2) (f_X9_laysAll_L2 x0 rec2 s) := by
  unfold f_X9_laysAll_L2
  refine T_iload_n (pc := 2) h dX9_laysAll_2 rfl 1 rfl ?_
  refine T_aload_n (pc := 3) h dX9_laysAll_3 rfl 0 rfl ?_
  refine T_getI (pc := 4) h hs hk0 fl_X9_130 rfl dX9_laysAll_4 ?_
  refine T_icmp_ge (pc := 7) (tgt := 28) h dX9_laysAll_7 (by decide) ?_ ?_
  · exact T_return (pc := 28) h (Nat.zero_le _) (Nat.zero_le _) dX9_laysAll_28
  · refine T_aload_n (pc := 10) h dX9_laysAll_10 rfl 0 rfl ?_
    refine T_gR (pc := 11) h hs hk0 fl_X9_60 rfl fk_9_19 dX9_laysAll_11 (fun hq1 => ?_)
    refine T_iload_n (pc := 14) h dX9_laysAll_14 rfl 1 rfl ?_
    refine T_aload_n (pc := 15) h dX9_laysAll_15 rfl 0 rfl ?_
    refine T_gR (pc := 16) h hs hk0 fl_X9_41 rfl fk_9_11 dX9_laysAll_16 (fun hq2 => ?_)
    refine T_iload_n (pc := 19) h dX9_laysAll_19 rfl 1 rfl ?_
    refine T_iald (pc := 20) h hs hq2 dX9_laysAll_20 ?_
    refine T_iast (pc := 21) h hs hq1 dX9_laysAll_21 ?_
    refine T_letS fun s3 => ?_
    refine T_iinc (fl := fun v4 => [(1, .int v4), (0, .ref x0)]) (pc := 22) h dX9_laysAll_22 1 rfl ki_1 (by decide) (fun _ => rfl) (fun v4 => ?_)
    refine T_goto (pc := 25) (tgt := 2) h dX9_laysAll_25 (by decide) ?_
    refine T_sub [1, 0] rfl ?_
    exact hr2 (v4, s3)
theorem t_X9_laysAll {K : Cx} (h : Ok K cX9_laysAll RX9 2 rm_X9_laysAll none) (hs : kiv K = St) (x0 : Nat) (σ : Sg) (hk0 : kd x0 9) : T K (QV K) 0 [(0, .ref x0)] [] 0 0 σ (f_X9_laysAll x0 σ) := by
  unfold f_X9_laysAll
  refine T_iconst (pc := 0) h dX9_laysAll_0 ki_0 ?_
  refine T_istore_n (lv' := [(1, .int (0 : Int32)), (0, .ref x0)]) (pc := 1) h dX9_laysAll_1 rfl (by decide) rfl ?_
  refine T_sub [1, 0] rfl ?_
  exact T_fx (B := f_X9_laysAll_L2 x0) (fl := fun u => [(0, .ref x0), (1, .int (u.1))]) (f := fun u => (u.2)) (fun rec2 hr2 u => t_X9_laysAll_L2 h hs x0 hk0 rec2 hr2 u) FU ((0 : Int32), σ)
theorem M_X9_laysAll (l : Launch) {iv : Sg → Prop} (hi : iv = St) (x0 : Nat) (σ : Sg) (hk0 : kd x0 9) : CTv l yX9_laysAll cX9_laysAll 2 none rm_X9_laysAll iv [.ref x0] σ (f_X9_laysAll x0 σ) := by
  subst hi
  exact CT_of (by decide) (Nat.le_of_ble_eq_true rfl) (fun K _ h _ hs _ _ => t_X9_laysAll h hs x0 σ hk0)
/-! LuteTabsModel.lay(II)I -/
theorem dX9_lay_0 : decode cX9_lay 0 = .ok (.aload_n 0, 1) := by decide +kernel
theorem dX9_lay_1 : decode cX9_lay 1 = .ok (.iload_n 1, 1) := by decide +kernel
theorem dX9_lay_2 : decode cX9_lay 2 = .ok (.invokevirtual 143, 3) := by decide +kernel
theorem dX9_lay_5 : decode cX9_lay 5 = .ok (.ifCond .eq 11, 3) := by decide +kernel
theorem dX9_lay_8 : decode cX9_lay 8 = .ok (.aload_n 0, 1) := by decide +kernel
theorem dX9_lay_9 : decode cX9_lay 9 = .ok (.iload_n 2, 1) := by decide +kernel
theorem dX9_lay_10 : decode cX9_lay 10 = .ok (.invokevirtual 122, 3) := by decide +kernel
theorem dX9_lay_13 : decode cX9_lay 13 = .ok (.ifCond .ne 6, 3) := by decide +kernel
theorem dX9_lay_16 : decode cX9_lay 16 = .ok (.bipush (-2), 2) := by decide +kernel
theorem dX9_lay_18 : decode cX9_lay 18 = .ok (.ireturn, 1) := by decide +kernel
theorem dX9_lay_19 : decode cX9_lay 19 = .ok (.aload_n 0, 1) := by decide +kernel
theorem dX9_lay_20 : decode cX9_lay 20 = .ok (.getfield 111, 3) := by decide +kernel
theorem dX9_lay_23 : decode cX9_lay 23 = .ok (.ifCond .eq 12, 3) := by decide +kernel
theorem dX9_lay_26 : decode cX9_lay 26 = .ok (.aload_n 0, 1) := by decide +kernel
theorem dX9_lay_27 : decode cX9_lay 27 = .ok (.getfield 41, 3) := by decide +kernel
theorem dX9_lay_30 : decode cX9_lay 30 = .ok (.iload_n 1, 1) := by decide +kernel
theorem dX9_lay_31 : decode cX9_lay 31 = .ok (.iaload, 1) := by decide +kernel
theorem dX9_lay_32 : decode cX9_lay 32 = .ok (.goto 4, 3) := by decide +kernel
theorem dX9_lay_35 : decode cX9_lay 35 = .ok (.iconst (-1), 1) := by decide +kernel
theorem dX9_lay_36 : decode cX9_lay 36 = .ok (.istore_n 3, 1) := by decide +kernel
theorem dX9_lay_37 : decode cX9_lay 37 = .ok (.iconst 0, 1) := by decide +kernel
theorem dX9_lay_38 : decode cX9_lay 38 = .ok (.istore 4, 2) := by decide +kernel
theorem dX9_lay_40 : decode cX9_lay 40 = .ok (.iload 4, 2) := by decide +kernel
theorem dX9_lay_42 : decode cX9_lay 42 = .ok (.aload_n 0, 1) := by decide +kernel
theorem dX9_lay_43 : decode cX9_lay 43 = .ok (.getfield 130, 3) := by decide +kernel
theorem dX9_lay_46 : decode cX9_lay 46 = .ok (.if_icmp .ge 24, 3) := by decide +kernel
theorem dX9_lay_49 : decode cX9_lay 49 = .ok (.aload_n 0, 1) := by decide +kernel
theorem dX9_lay_50 : decode cX9_lay 50 = .ok (.getfield 111, 3) := by decide +kernel
theorem dX9_lay_53 : decode cX9_lay 53 = .ok (.ifCond .ne 17, 3) := by decide +kernel
theorem dX9_lay_56 : decode cX9_lay 56 = .ok (.aload_n 0, 1) := by decide +kernel
theorem dX9_lay_57 : decode cX9_lay 57 = .ok (.getfield 41, 3) := by decide +kernel
theorem dX9_lay_60 : decode cX9_lay 60 = .ok (.iload 4, 2) := by decide +kernel
theorem dX9_lay_62 : decode cX9_lay 62 = .ok (.iconst 0, 1) := by decide +kernel
theorem dX9_lay_63 : decode cX9_lay 63 = .ok (.iastore, 1) := by decide +kernel
theorem dX9_lay_64 : decode cX9_lay 64 = .ok (.iinc 4 1, 3) := by decide +kernel
theorem dX9_lay_67 : decode cX9_lay 67 = .ok (.goto (-27), 3) := by decide +kernel
theorem dX9_lay_70 : decode cX9_lay 70 = .ok (.aload_n 0, 1) := by decide +kernel
theorem dX9_lay_71 : decode cX9_lay 71 = .ok (.iconst 1, 1) := by decide +kernel
theorem dX9_lay_72 : decode cX9_lay 72 = .ok (.putfield 111, 3) := by decide +kernel
theorem dX9_lay_75 : decode cX9_lay 75 = .ok (.aload_n 0, 1) := by decide +kernel
theorem dX9_lay_76 : decode cX9_lay 76 = .ok (.getfield 41, 3) := by decide +kernel
theorem dX9_lay_79 : decode cX9_lay 79 = .ok (.iload_n 1, 1) := by decide +kernel
theorem dX9_lay_80 : decode cX9_lay 80 = .ok (.iload_n 2, 1) := by decide +kernel
theorem dX9_lay_81 : decode cX9_lay 81 = .ok (.iastore, 1) := by decide +kernel
theorem dX9_lay_82 : decode cX9_lay 82 = .ok (.iload_n 3, 1) := by decide +kernel
theorem dX9_lay_83 : decode cX9_lay 83 = .ok (.ireturn, 1) := by decide +kernel
abbrev rm_X9_lay : Room := { frames := 2, cells := 0, slots := 0, locals := 43 }
def f_X9_lay_L16    (σ : Sg) : Option (Int32 × Sg) := some ((-2 : Int32), σ)
def f_X9_lay_L70  (x0 : Nat) (x1 : Int32) (x2 : Int32) (x3 : Int32)  (σ : Sg) : Option (Int32 × Sg) := ck (b01 (1 : Int32)) (lB (pI σ x0 12 (1 : Int32)) fun s1 => ck (inb x1 (aL (gR s1 x0 11))) (lB (pI s1 (gR s1 x0 11) x1.toNatClampNeg x2) fun s3 => some (x3, s3)))
def f_X9_lay_L40  (x0 : Nat) (x1 : Int32) (x2 : Int32) (x3 : Int32) (rec40 : Int32 × Sg → Option (Int32 × Sg)) (s : Int32 × Sg) : Option (Int32 × Sg) := (if (gI (s.2) x0 10) ≤ (s.1) then f_X9_lay_L70 x0 x1 x2 x3 (s.2) else (if (gI (s.2) x0 12) = 0 then ck (inb (s.1) (aL (gR (s.2) x0 11))) (lB (pI (s.2) (gR (s.2) x0 11) (s.1).toNatClampNeg (0 : Int32)) fun s2 => lB ((s.1) + (1 : Int32)) fun v3 => rec40 (v3, s2)) else f_X9_lay_L70 x0 x1 x2 x3 (s.2)))
def f_X9_lay_L36  (x0 : Nat) (x1 : Int32) (x2 : Int32) (y0 : Int32) (σ : Sg) : Option (Int32 × Sg) := fx (f_X9_lay_L40 x0 x1 x2 y0) FU ((0 : Int32), σ)
def f_X9_lay (x0 : Nat) (x1 : Int32) (x2 : Int32) (σ : Sg) : Option (Int32 × Sg) := bd (f_X9_isNote x0 x1 σ) fun r2 s1 => (if r2 = 0 then f_X9_lay_L16 s1 else bd (f_X9_isCourse x0 x2 s1) fun r4 s3 => (if r4 = 0 then f_X9_lay_L16 s3 else (if (gI s3 x0 12) = 0 then f_X9_lay_L36 x0 x1 x2 (-1 : Int32) s3 else ck (inb x1 (aL (gR s3 x0 11))) (f_X9_lay_L36 x0 x1 x2 (gI s3 (gR s3 x0 11) x1.toNatClampNeg) s3))))
theorem t_X9_lay_L16 {K : Cx} (h : Ok K cX9_lay RX9 5 rm_X9_lay (some .int)) (hs : kiv K = St)   (σ : Sg)    : T K (QI K) 16 [] [] 0 0 σ (f_X9_lay_L16 σ) := by
  unfold f_X9_lay_L16
  refine T_bipush (pc := 16) h dX9_lay_16 kb_m2 ?_
  exact T_ireturn (pc := 18) h (Nat.zero_le _) (Nat.zero_le _) dX9_lay_18
theorem t_X9_lay_L70 {K : Cx} (h : Ok K cX9_lay RX9 5 rm_X9_lay (some .int)) (hs : kiv K = St) (x0 : Nat) (x1 : Int32) (x2 : Int32) (x3 : Int32)  (σ : Sg)  (hk0 : kd x0 9)  : T K (QI K) 70 [(0, .ref x0), (1, .int x1), (2, .int x2), (3, .int x3)] [] 0 0 σ (f_X9_lay_L70 x0 x1 x2 x3 σ) := by
  unfold f_X9_lay_L70
  refine T_aload_n (pc := 70) h dX9_lay_70 rfl 0 rfl ?_
  refine T_iconst (pc := 71) h dX9_lay_71 ki_1 ?_
  refine T_putZ (pc := 72) h hs hk0 fl_X9_111 rfl rfl dX9_lay_72 ?_
  refine T_letS fun s1 => ?_
  refine T_aload_n (pc := 75) h dX9_lay_75 rfl 0 rfl ?_
  refine T_gR (pc := 76) h hs hk0 fl_X9_41 rfl fk_9_11 dX9_lay_76 (fun hq2 => ?_)
  refine T_iload_n (pc := 79) h dX9_lay_79 rfl 1 rfl ?_
  refine T_iload_n (pc := 80) h dX9_lay_80 rfl 2 rfl ?_
  refine T_iast (pc := 81) h hs hq2 dX9_lay_81 ?_
  refine T_letS fun s3 => ?_
  refine T_iload_n (pc := 82) h dX9_lay_82 rfl 3 rfl ?_
  exact T_ireturn (pc := 83) h (Nat.zero_le _) (Nat.zero_le _) dX9_lay_83
theorem t_X9_lay_L40 {K : Cx} (h : Ok K cX9_lay RX9 5 rm_X9_lay (some .int)) (hs : kiv K = St) (x0 : Nat) (x1 : Int32) (x2 : Int32) (x3 : Int32)  (hk0 : kd x0 9) (rec40 : Int32 × Sg → Option (Int32 × Sg)) (hr40 : ∀ u, T K (QI K) 40 [(0, .ref x0), (1, .int x1), (2, .int x2), (3, .int x3), (4, .int (u.1))] [] 0 0 (u.2) (rec40 u)) (s : Int32 × Sg) : T K (QI K) 40 [(0, .ref x0), (1, .int x1), (2, .int x2), (3, .int x3), (4, .int (s.1))] [] 0 0 (s.2) (f_X9_lay_L40 x0 x1 x2 x3 rec40 s) := by
  unfold f_X9_lay_L40
  refine T_iload (pc := 40) h dX9_lay_40 4 rfl ?_
  refine T_aload_n (pc := 42) h dX9_lay_42 rfl 0 rfl ?_
  refine T_getI (pc := 43) h hs hk0 fl_X9_130 rfl dX9_lay_43 ?_
  refine T_icmp_ge (pc := 46) (tgt := 70) h dX9_lay_46 (by decide) ?_ ?_
  · refine T_sub [0, 1, 2, 3] rfl ?_
    exact t_X9_lay_L70 h hs x0 x1 x2 x3 (s.2) hk0
  · refine T_aload_n (pc := 49) h dX9_lay_49 rfl 0 rfl ?_
    refine T_getI (pc := 50) h hs hk0 fl_X9_111 rfl dX9_lay_50 ?_
    refine T_if_ne (pc := 53) (tgt := 70) h dX9_lay_53 (by decide) ?_ ?_
    · refine T_sub [0, 1, 2, 3] rfl ?_
      exact t_X9_lay_L70 h hs x0 x1 x2 x3 (s.2) hk0
    · refine T_aload_n (pc := 56) h dX9_lay_56 rfl 0 rfl ?_
      refine T_gR (pc := 57) h hs hk0 fl_X9_41 rfl fk_9_11 dX9_lay_57 (fun hq1 => ?_)
      refine T_iload (pc := 60) h dX9_lay_60 4 rfl ?_
      refine T_iconst (pc := 62) h dX9_lay_62 ki_0 ?_
      refine T_iast (pc := 63) h hs hq1 dX9_lay_63 ?_
      refine T_letS fun s2 => ?_
      refine T_iinc (fl := fun v3 => [(4, .int v3), (0, .ref x0), (1, .int x1), (2, .int x2), (3, .int x3)]) (pc := 64) h dX9_lay_64 4 rfl ki_1 (by decide) (fun _ => rfl) (fun v3 => ?_)
      refine T_goto (pc := 67) (tgt := 40) h dX9_lay_67 (by decide) ?_
      refine T_sub [1, 2, 3, 4, 0] rfl ?_
      exact hr40 (v3, s2)
theorem t_X9_lay_L36 {K : Cx} (h : Ok K cX9_lay RX9 5 rm_X9_lay (some .int)) (hs : kiv K = St) (x0 : Nat) (x1 : Int32) (x2 : Int32) (y0 : Int32) (σ : Sg)  (hk0 : kd x0 9)  : T K (QI K) 36 [(0, .ref x0), (1, .int x1), (2, .int x2)] [.int y0] 0 0 σ (f_X9_lay_L36 x0 x1 x2 y0 σ) := by
  unfold f_X9_lay_L36
  refine T_istore_n (lv' := [(3, .int y0), (0, .ref x0), (1, .int x1), (2, .int x2)]) (pc := 36) h dX9_lay_36 rfl (by decide) rfl ?_
  refine T_iconst (pc := 37) h dX9_lay_37 ki_0 ?_
  refine T_istore (lv' := [(4, .int (0 : Int32)), (3, .int y0), (0, .ref x0), (1, .int x1), (2, .int x2)]) (pc := 38) h dX9_lay_38 (by decide) rfl ?_
  refine T_sub [2, 3, 4, 1, 0] rfl ?_
  exact T_fx (B := f_X9_lay_L40 x0 x1 x2 y0) (fl := fun u => [(0, .ref x0), (1, .int x1), (2, .int x2), (3, .int y0), (4, .int (u.1))]) (f := fun u => (u.2)) (fun rec40 hr40 u => t_X9_lay_L40 h hs x0 x1 x2 y0 hk0 rec40 hr40 u) FU ((0 : Int32), σ)
theorem t_X9_lay {K : Cx} (h : Ok K cX9_lay RX9 5 rm_X9_lay (some .int)) (hs : kiv K = St) (x0 : Nat) (x1 : Int32) (x2 : Int32) (σ : Sg) (hk0 : kd x0 9) : T K (QI K) 0 [(0, .ref x0), (1, .int x1), (2, .int x2)] [] 0 0 σ (f_X9_lay x0 x1 x2 σ) := by
  unfold f_X9_lay
  refine T_aload_n (pc := 0) h dX9_lay_0 rfl 0 rfl ?_
  refine T_iload_n (pc := 1) h dX9_lay_1 rfl 1 rfl ?_
  refine T_callVi (pc := 2) h (M_X9_isNote (kl K) hs x0 x1 σ hk0) mv_X9_isNote hs hk0 ml_X9_143 rfl ⟨Nat.le_of_ble_eq_true rfl, Nat.le_of_ble_eq_true rfl⟩ ⟨Nat.le_refl 0, Nat.le_refl 0⟩ (Nat.le_of_ble_eq_true rfl) dX9_lay_2 rfl (fun r2 s1 => ?_)
  refine T_if_eq (pc := 5) (tgt := 16) h dX9_lay_5 (by decide) ?_ ?_
  · refine T_sub [] rfl ?_
    exact t_X9_lay_L16 h hs s1
  · refine T_aload_n (pc := 8) h dX9_lay_8 rfl 0 rfl ?_
    refine T_iload_n (pc := 9) h dX9_lay_9 rfl 2 rfl ?_
    refine T_callVi (pc := 10) h (M_X9_isCourse (kl K) hs x0 x2 s1 hk0) mv_X9_isCourse hs hk0 ml_X9_122 rfl ⟨Nat.le_of_ble_eq_true rfl, Nat.le_of_ble_eq_true rfl⟩ ⟨Nat.le_refl 0, Nat.le_refl 0⟩ (Nat.le_of_ble_eq_true rfl) dX9_lay_10 rfl (fun r4 s3 => ?_)
    refine T_if_ne (pc := 13) (tgt := 19) h dX9_lay_13 (by decide) ?_ ?_
    · refine T_aload_n (pc := 19) h dX9_lay_19 rfl 0 rfl ?_
      refine T_getI (pc := 20) h hs hk0 fl_X9_111 rfl dX9_lay_20 ?_
      refine T_if_eq (pc := 23) (tgt := 35) h dX9_lay_23 (by decide) ?_ ?_
      · refine T_iconst (pc := 35) h dX9_lay_35 ki_m1 ?_
        refine T_sub [0, 1, 2] rfl ?_
        exact t_X9_lay_L36 h hs x0 x1 x2 (-1 : Int32) s3 hk0
      · refine T_aload_n (pc := 26) h dX9_lay_26 rfl 0 rfl ?_
        refine T_gR (pc := 27) h hs hk0 fl_X9_41 rfl fk_9_11 dX9_lay_27 (fun hq5 => ?_)
        refine T_iload_n (pc := 30) h dX9_lay_30 rfl 1 rfl ?_
        refine T_iald (pc := 31) h hs hq5 dX9_lay_31 ?_
        refine T_goto (pc := 32) (tgt := 36) h dX9_lay_32 (by decide) ?_
        refine T_sub [0, 1, 2] rfl ?_
        exact t_X9_lay_L36 h hs x0 x1 x2 (gI s3 (gR s3 x0 11) x1.toNatClampNeg) s3 hk0
    · refine T_sub [] rfl ?_
      exact t_X9_lay_L16 h hs s3
theorem M_X9_lay (l : Launch) {iv : Sg → Prop} (hi : iv = St) (x0 : Nat) (x1 : Int32) (x2 : Int32) (σ : Sg) (hk0 : kd x0 9) : CTi l yX9_lay cX9_lay 5 (some .int) rm_X9_lay iv [.ref x0, .int x1, .int x2] σ (f_X9_lay x0 x1 x2 σ) := by
  subst hi
  exact CT_of (by decide) (Nat.le_of_ble_eq_true rfl) (fun K _ h _ hs _ _ => t_X9_lay h hs x0 x1 x2 σ hk0)
