/-! LuteTabsModel.wrongNow()I -/
theorem dX9_wrongNow_0 : decode cX9_wrongNow 0 = .ok (.aload_n 0, 1) := by decide +kernel
theorem dX9_wrongNow_1 : decode cX9_wrongNow 1 = .ok (.getfield 111, 3) := by decide +kernel
theorem dX9_wrongNow_4 : decode cX9_wrongNow 4 = .ok (.ifCond .ne 6, 3) := by decide +kernel
theorem dX9_wrongNow_7 : decode cX9_wrongNow 7 = .ok (.bipush (-3), 2) := by decide +kernel
theorem dX9_wrongNow_9 : decode cX9_wrongNow 9 = .ok (.ireturn, 1) := by decide +kernel
theorem dX9_wrongNow_10 : decode cX9_wrongNow 10 = .ok (.aload_n 0, 1) := by decide +kernel
theorem dX9_wrongNow_11 : decode cX9_wrongNow 11 = .ok (.invokevirtual 160, 3) := by decide +kernel
theorem dX9_wrongNow_14 : decode cX9_wrongNow 14 = .ok (.aload_n 0, 1) := by decide +kernel
theorem dX9_wrongNow_15 : decode cX9_wrongNow 15 = .ok (.invokevirtual 243, 3) := by decide +kernel
theorem dX9_wrongNow_18 : decode cX9_wrongNow 18 = .ok (.iconst 0, 1) := by decide +kernel
theorem dX9_wrongNow_19 : decode cX9_wrongNow 19 = .ok (.istore_n 1, 1) := by decide +kernel
theorem dX9_wrongNow_20 : decode cX9_wrongNow 20 = .ok (.iconst 0, 1) := by decide +kernel
theorem dX9_wrongNow_21 : decode cX9_wrongNow 21 = .ok (.istore_n 2, 1) := by decide +kernel
theorem dX9_wrongNow_22 : decode cX9_wrongNow 22 = .ok (.iload_n 2, 1) := by decide +kernel
theorem dX9_wrongNow_23 : decode cX9_wrongNow 23 = .ok (.aload_n 0, 1) := by decide +kernel
theorem dX9_wrongNow_24 : decode cX9_wrongNow 24 = .ok (.getfield 130, 3) := by decide +kernel
theorem dX9_wrongNow_27 : decode cX9_wrongNow 27 = .ok (.if_icmp .ge 29, 3) := by decide +kernel
theorem dX9_wrongNow_30 : decode cX9_wrongNow 30 = .ok (.iload_n 1, 1) := by decide +kernel
theorem dX9_wrongNow_31 : decode cX9_wrongNow 31 = .ok (.aload_n 0, 1) := by decide +kernel
theorem dX9_wrongNow_32 : decode cX9_wrongNow 32 = .ok (.aload_n 0, 1) := by decide +kernel
theorem dX9_wrongNow_33 : decode cX9_wrongNow 33 = .ok (.iload_n 2, 1) := by decide +kernel
theorem dX9_wrongNow_34 : decode cX9_wrongNow 34 = .ok (.invokevirtual 175, 3) := by decide +kernel
theorem dX9_wrongNow_37 : decode cX9_wrongNow 37 = .ok (.invokevirtual 197, 3) := by decide +kernel
theorem dX9_wrongNow_40 : decode cX9_wrongNow 40 = .ok (.ifCond .eq 7, 3) := by decide +kernel
theorem dX9_wrongNow_43 : decode cX9_wrongNow 43 = .ok (.iconst 0, 1) := by decide +kernel
theorem dX9_wrongNow_44 : decode cX9_wrongNow 44 = .ok (.goto 4, 3) := by decide +kernel
theorem dX9_wrongNow_47 : decode cX9_wrongNow 47 = .ok (.iconst 1, 1) := by decide +kernel
theorem dX9_wrongNow_48 : decode cX9_wrongNow 48 = .ok (.iadd, 1) := by decide +kernel
theorem dX9_wrongNow_49 : decode cX9_wrongNow 49 = .ok (.istore_n 1, 1) := by decide +kernel
theorem dX9_wrongNow_50 : decode cX9_wrongNow 50 = .ok (.iinc 2 1, 3) := by decide +kernel
theorem dX9_wrongNow_53 : decode cX9_wrongNow 53 = .ok (.goto (-31), 3) := by decide +kernel
theorem dX9_wrongNow_56 : decode cX9_wrongNow 56 = .ok (.iconst 0, 1) := by decide +kernel
theorem dX9_wrongNow_57 : decode cX9_wrongNow 57 = .ok (.istore_n 2, 1) := by decide +kernel
theorem dX9_wrongNow_58 : decode cX9_wrongNow 58 = .ok (.iload_n 2, 1) := by decide +kernel
theorem dX9_wrongNow_59 : decode cX9_wrongNow 59 = .ok (.aload_n 0, 1) := by decide +kernel
theorem dX9_wrongNow_60 : decode cX9_wrongNow 60 = .ok (.getfield 157, 3) := by decide +kernel
theorem dX9_wrongNow_63 : decode cX9_wrongNow 63 = .ok (.if_icmp .ge 56, 3) := by decide +kernel
theorem dX9_wrongNow_66 : decode cX9_wrongNow 66 = .ok (.aload_n 0, 1) := by decide +kernel
theorem dX9_wrongNow_67 : decode cX9_wrongNow 67 = .ok (.iload_n 2, 1) := by decide +kernel
theorem dX9_wrongNow_68 : decode cX9_wrongNow 68 = .ok (.invokevirtual 194, 3) := by decide +kernel
theorem dX9_wrongNow_71 : decode cX9_wrongNow 71 = .ok (.iload_n 1, 1) := by decide +kernel
theorem dX9_wrongNow_72 : decode cX9_wrongNow 72 = .ok (.aload_n 0, 1) := by decide +kernel
theorem dX9_wrongNow_73 : decode cX9_wrongNow 73 = .ok (.getfield 188, 3) := by decide +kernel
theorem dX9_wrongNow_76 : decode cX9_wrongNow 76 = .ok (.ifCond .eq 7, 3) := by decide +kernel
theorem dX9_wrongNow_79 : decode cX9_wrongNow 79 = .ok (.iconst 1, 1) := by decide +kernel
theorem dX9_wrongNow_80 : decode cX9_wrongNow 80 = .ok (.goto 4, 3) := by decide +kernel
theorem dX9_wrongNow_83 : decode cX9_wrongNow 83 = .ok (.iconst 0, 1) := by decide +kernel
theorem dX9_wrongNow_84 : decode cX9_wrongNow 84 = .ok (.aload_n 0, 1) := by decide +kernel
theorem dX9_wrongNow_85 : decode cX9_wrongNow 85 = .ok (.getfield 169, 3) := by decide +kernel
theorem dX9_wrongNow_88 : decode cX9_wrongNow 88 = .ok (.iconst 4, 1) := by decide +kernel
theorem dX9_wrongNow_89 : decode cX9_wrongNow 89 = .ok (.if_icmp .le 7, 3) := by decide +kernel
theorem dX9_wrongNow_92 : decode cX9_wrongNow 92 = .ok (.iconst 1, 1) := by decide +kernel
theorem dX9_wrongNow_93 : decode cX9_wrongNow 93 = .ok (.goto 4, 3) := by decide +kernel
theorem dX9_wrongNow_96 : decode cX9_wrongNow 96 = .ok (.iconst 0, 1) := by decide +kernel
theorem dX9_wrongNow_97 : decode cX9_wrongNow 97 = .ok (.iadd, 1) := by decide +kernel
theorem dX9_wrongNow_98 : decode cX9_wrongNow 98 = .ok (.aload_n 0, 1) := by decide +kernel
theorem dX9_wrongNow_99 : decode cX9_wrongNow 99 = .ok (.getfield 191, 3) := by decide +kernel
theorem dX9_wrongNow_102 : decode cX9_wrongNow 102 = .ok (.ifCond .eq 7, 3) := by decide +kernel
theorem dX9_wrongNow_105 : decode cX9_wrongNow 105 = .ok (.iconst 1, 1) := by decide +kernel
theorem dX9_wrongNow_106 : decode cX9_wrongNow 106 = .ok (.goto 4, 3) := by decide +kernel
theorem dX9_wrongNow_109 : decode cX9_wrongNow 109 = .ok (.iconst 0, 1) := by decide +kernel
theorem dX9_wrongNow_110 : decode cX9_wrongNow 110 = .ok (.iadd, 1) := by decide +kernel
theorem dX9_wrongNow_111 : decode cX9_wrongNow 111 = .ok (.iadd, 1) := by decide +kernel
theorem dX9_wrongNow_112 : decode cX9_wrongNow 112 = .ok (.istore_n 1, 1) := by decide +kernel
theorem dX9_wrongNow_113 : decode cX9_wrongNow 113 = .ok (.iinc 2 1, 3) := by decide +kernel
theorem dX9_wrongNow_116 : decode cX9_wrongNow 116 = .ok (.goto (-58), 3) := by decide +kernel
theorem dX9_wrongNow_119 : decode cX9_wrongNow 119 = .ok (.iload_n 1, 1) := by decide +kernel
theorem dX9_wrongNow_120 : decode cX9_wrongNow 120 = .ok (.ireturn, 1) := by decide +kernel
abbrev rm_X9_wrongNow : Room := { frames := 3, cells := 0, slots := 0, locals := 72 }
def f_X9_wrongNow_L48 (rec22 : Int32 × Int32 × Sg → Option (Int32 × Sg)) (x0 : Nat) (x2 : Int32) (y0 : Int32) (y1 : Int32) (σ : Sg) : Option (Int32 × Sg) := lB ((y0 + y1)) fun v1 => lB (x2 + (1 : Int32)) fun v2 => rec22 (v1, v2, σ)
def f_X9_wrongNow_L110 (rec58 : Int32 × Int32 × Sg → Option (Int32 × Sg)) (x0 : Nat) (x2 : Int32) (y0 : Int32) (y1 : Int32) (y2 : Int32) (σ : Sg) : Option (Int32 × Sg) := lB ((y0 + (y1 + y2))) fun v1 => lB (x2 + (1 : Int32)) fun v2 => rec58 (v1, v2, σ)
def f_X9_wrongNow_L97 (rec58 : Int32 × Int32 × Sg → Option (Int32 × Sg)) (x0 : Nat) (x2 : Int32) (y0 : Int32) (y1 : Int32) (y2 : Int32) (σ : Sg) : Option (Int32 × Sg) := (if (gI σ x0 25) = 0 then f_X9_wrongNow_L110 rec58 x0 x2 y0 (y1 + y2) (0 : Int32) σ else f_X9_wrongNow_L110 rec58 x0 x2 y0 (y1 + y2) (1 : Int32) σ)
def f_X9_wrongNow_L84 (rec58 : Int32 × Int32 × Sg → Option (Int32 × Sg)) (x0 : Nat) (x2 : Int32) (y0 : Int32) (y1 : Int32) (σ : Sg) : Option (Int32 × Sg) := (if (gI σ x0 22) ≤ (4 : Int32) then f_X9_wrongNow_L97 rec58 x0 x2 y0 y1 (0 : Int32) σ else f_X9_wrongNow_L97 rec58 x0 x2 y0 y1 (1 : Int32) σ)
def f_X9_wrongNow_L58  (x0 : Nat) (rec58 : Int32 × Int32 × Sg → Option (Int32 × Sg)) (s : Int32 × Int32 × Sg) : Option (Int32 × Sg) := (if (gI (s.2.2) x0 16) ≤ (s.2.1) then some ((s.1), (s.2.2)) else bd (f_X9_looks x0 (s.2.1) (s.2.2)) fun _ s1 => (if (gI s1 x0 24) = 0 then f_X9_wrongNow_L84 rec58 x0 (s.2.1) (s.1) (0 : Int32) s1 else f_X9_wrongNow_L84 rec58 x0 (s.2.1) (s.1) (1 : Int32) s1))
def f_X9_wrongNow_L22  (x0 : Nat) (rec22 : Int32 × Int32 × Sg → Option (Int32 × Sg)) (s : Int32 × Int32 × Sg) : Option (Int32 × Sg) := (if (gI (s.2.2) x0 10) ≤ (s.2.1) then fx (f_X9_wrongNow_L58 x0) FU ((s.1), (0 : Int32), (s.2.2)) else bd (f_X9_fretOf x0 (s.2.1) (s.2.2)) fun r2 s1 => bd (f_X9_isOnCourse x0 r2 s1) fun r4 s3 => (if r4 = 0 then f_X9_wrongNow_L48 rec22 x0 (s.2.1) (s.1) (1 : Int32) s3 else f_X9_wrongNow_L48 rec22 x0 (s.2.1) (s.1) (0 : Int32) s3))
def f_X9_wrongNow (x0 : Nat) (σ : Sg) : Option (Int32 × Sg) := (if (gI σ x0 12) = 0 then some ((-3 : Int32), σ) else bd (f_X9_findsChords x0 σ) fun _ s1 => bd (f_X9_laysAll x0 s1) fun _ s2 => fx (f_X9_wrongNow_L22 x0) FU ((0 : Int32), (0 : Int32), s2))
theorem t_X9_wrongNow_L48 {K : Cx} (h : Ok K cX9_wrongNow RX9 3 rm_X9_wrongNow (some .int)) (hs : kiv K = St) (x0 : Nat) (x2 : Int32) (y0 : Int32) (y1 : Int32) (σ : Sg) (rec22 : Int32 × Int32 × Sg → Option (Int32 × Sg)) (hr22 : ∀ u, T K (QI K) 22 [(0, .ref x0), (1, .int (u.1)), (2, .int (u.2.1))] [] 0 0 (u.2.2) (rec22 u)) (hk0 : kd x0 9)  : T K (QI K) 48 [(0, .ref x0), (2, .int x2)] [.int y1, .int y0] 0 0 σ (f_X9_wrongNow_L48 rec22 x0 x2 y0 y1 σ) := by
  unfold f_X9_wrongNow_L48
  refine T_iadd (pc := 48) h dX9_wrongNow_48 ?_
  refine T_letI fun v1 => ?_
  refine T_istore_n (lv' := [(1, .int v1), (0, .ref x0), (2, .int x2)]) (pc := 49) h dX9_wrongNow_49 rfl (by decide) rfl ?_
  refine T_iinc (fl := fun v2 => [(2, .int v2), (1, .int v1), (0, .ref x0)]) (pc := 50) h dX9_wrongNow_50 2 rfl ki_1 (by decide) (fun _ => rfl) (fun v2 => ?_)
  refine T_goto (pc := 53) (tgt := 22) h dX9_wrongNow_53 (by decide) ?_
  refine T_sub [2, 1, 0] rfl ?_
  exact hr22 (v1, v2, σ)
theorem t_X9_wrongNow_L110 {K : Cx} (h : Ok K cX9_wrongNow RX9 3 rm_X9_wrongNow (some .int)) (hs : kiv K = St) (x0 : Nat) (x2 : Int32) (y0 : Int32) (y1 : Int32) (y2 : Int32) (σ : Sg) (rec58 : Int32 × Int32 × Sg → Option (Int32 × Sg)) (hr58 : ∀ u, T K (QI K) 58 [(0, .ref x0), (1, .int (u.1)), (2, .int (u.2.1))] [] 0 0 (u.2.2) (rec58 u)) (hk0 : kd x0 9)  : T K (QI K) 110 [(0, .ref x0), (2, .int x2)] [.int y2, .int y1, .int y0] 0 0 σ (f_X9_wrongNow_L110 rec58 x0 x2 y0 y1 y2 σ) := by
  unfold f_X9_wrongNow_L110
  refine T_iadd (pc := 110) h dX9_wrongNow_110 ?_
  refine T_iadd (pc := 111) h dX9_wrongNow_111 ?_
  refine T_letI fun v1 => ?_
  refine T_istore_n (lv' := [(1, .int v1), (0, .ref x0), (2, .int x2)]) (pc := 112) h dX9_wrongNow_112 rfl (by decide) rfl ?_
  refine T_iinc (fl := fun v2 => [(2, .int v2), (1, .int v1), (0, .ref x0)]) (pc := 113) h dX9_wrongNow_113 2 rfl ki_1 (by decide) (fun _ => rfl) (fun v2 => ?_)
  refine T_goto (pc := 116) (tgt := 58) h dX9_wrongNow_116 (by decide) ?_
  refine T_sub [2, 1, 0] rfl ?_
  exact hr58 (v1, v2, σ)
theorem t_X9_wrongNow_L97 {K : Cx} (h : Ok K cX9_wrongNow RX9 3 rm_X9_wrongNow (some .int)) (hs : kiv K = St) (x0 : Nat) (x2 : Int32) (y0 : Int32) (y1 : Int32) (y2 : Int32) (σ : Sg) (rec58 : Int32 × Int32 × Sg → Option (Int32 × Sg)) (hr58 : ∀ u, T K (QI K) 58 [(0, .ref x0), (1, .int (u.1)), (2, .int (u.2.1))] [] 0 0 (u.2.2) (rec58 u)) (hk0 : kd x0 9)  : T K (QI K) 97 [(0, .ref x0), (2, .int x2)] [.int y2, .int y1, .int y0] 0 0 σ (f_X9_wrongNow_L97 rec58 x0 x2 y0 y1 y2 σ) := by
  unfold f_X9_wrongNow_L97
  refine T_iadd (pc := 97) h dX9_wrongNow_97 ?_
  refine T_aload_n (pc := 98) h dX9_wrongNow_98 rfl 0 rfl ?_
  refine T_getI (pc := 99) h hs hk0 fl_X9_191 rfl dX9_wrongNow_99 ?_
  refine T_if_eq (pc := 102) (tgt := 109) h dX9_wrongNow_102 (by decide) ?_ ?_
  · refine T_iconst (pc := 109) h dX9_wrongNow_109 ki_0 ?_
    refine T_sub [0, 1] rfl ?_
    exact t_X9_wrongNow_L110 h hs x0 x2 y0 (y1 + y2) (0 : Int32) σ rec58 hr58 hk0
  · refine T_iconst (pc := 105) h dX9_wrongNow_105 ki_1 ?_
    refine T_goto (pc := 106) (tgt := 110) h dX9_wrongNow_106 (by decide) ?_
    refine T_sub [0, 1] rfl ?_
    exact t_X9_wrongNow_L110 h hs x0 x2 y0 (y1 + y2) (1 : Int32) σ rec58 hr58 hk0
theorem t_X9_wrongNow_L84 {K : Cx} (h : Ok K cX9_wrongNow RX9 3 rm_X9_wrongNow (some .int)) (hs : kiv K = St) (x0 : Nat) (x2 : Int32) (y0 : Int32) (y1 : Int32) (σ : Sg) (rec58 : Int32 × Int32 × Sg → Option (Int32 × Sg)) (hr58 : ∀ u, T K (QI K) 58 [(0, .ref x0), (1, .int (u.1)), (2, .int (u.2.1))] [] 0 0 (u.2.2) (rec58 u)) (hk0 : kd x0 9)  : T K (QI K) 84 [(0, .ref x0), (2, .int x2)] [.int y1, .int y0] 0 0 σ (f_X9_wrongNow_L84 rec58 x0 x2 y0 y1 σ) := by
  unfold f_X9_wrongNow_L84
  refine T_aload_n (pc := 84) h dX9_wrongNow_84 rfl 0 rfl ?_
  refine T_getI (pc := 85) h hs hk0 fl_X9_169 rfl dX9_wrongNow_85 ?_
  refine T_iconst (pc := 88) h dX9_wrongNow_88 ki_4 ?_
  refine T_icmp_le (pc := 89) (tgt := 96) h dX9_wrongNow_89 (by decide) ?_ ?_
  · refine T_iconst (pc := 96) h dX9_wrongNow_96 ki_0 ?_
    refine T_sub [0, 1] rfl ?_
    exact t_X9_wrongNow_L97 h hs x0 x2 y0 y1 (0 : Int32) σ rec58 hr58 hk0
  · refine T_iconst (pc := 92) h dX9_wrongNow_92 ki_1 ?_
    refine T_goto (pc := 93) (tgt := 97) h dX9_wrongNow_93 (by decide) ?_
    refine T_sub [0, 1] rfl ?_
    exact t_X9_wrongNow_L97 h hs x0 x2 y0 y1 (1 : Int32) σ rec58 hr58 hk0
theorem t_X9_wrongNow_L58 {K : Cx} (h : Ok K cX9_wrongNow RX9 3 rm_X9_wrongNow (some .int)) (hs : kiv K = St) (x0 : Nat)  (hk0 : kd x0 9) (rec58 : Int32 × Int32 × Sg → Option (Int32 × Sg)) (hr58 : ∀ u, T K (QI K) 58 [(0, .ref x0), (1, .int (u.1)), (2, .int (u.2.1))] [] 0 0 (u.2.2) (rec58 u)) (s : Int32 × Int32 × Sg) : T K (QI K) 58 [(0, .ref x0), (1, .int (s.1)), (2, .int (s.2.1))] [] 0 0 (s.2.2) (f_X9_wrongNow_L58 x0 rec58 s) := by
  unfold f_X9_wrongNow_L58
  refine T_iload_n (pc := 58) h dX9_wrongNow_58 rfl 2 rfl ?_
  refine T_aload_n (pc := 59) h dX9_wrongNow_59 rfl 0 rfl ?_
  refine T_getI (pc := 60) h hs hk0 fl_X9_157 rfl dX9_wrongNow_60 ?_
  refine T_icmp_ge (pc := 63) (tgt := 119) h dX9_wrongNow_63 (by decide) ?_ ?_
  · refine T_iload_n (pc := 119) h dX9_wrongNow_119 rfl 1 rfl ?_
    exact T_ireturn (pc := 120) h (Nat.zero_le _) (Nat.zero_le _) dX9_wrongNow_120
  · refine T_aload_n (pc := 66) h dX9_wrongNow_66 rfl 0 rfl ?_
    refine T_iload_n (pc := 67) h dX9_wrongNow_67 rfl 2 rfl ?_
    refine T_callVv (pc := 68) h (M_X9_looks (kl K) hs x0 (s.2.1) (s.2.2) hk0) mv_X9_looks hs hk0 ml_X9_194 rfl ⟨Nat.le_of_ble_eq_true rfl, Nat.le_of_ble_eq_true rfl⟩ ⟨Nat.le_refl 0, Nat.le_refl 0⟩ (Nat.le_of_ble_eq_true rfl) dX9_wrongNow_68 rfl (fun _ s1 => ?_)
    refine T_iload_n (pc := 71) h dX9_wrongNow_71 rfl 1 rfl ?_
    refine T_aload_n (pc := 72) h dX9_wrongNow_72 rfl 0 rfl ?_
    refine T_getI (pc := 73) h hs hk0 fl_X9_188 rfl dX9_wrongNow_73 ?_
    refine T_if_eq (pc := 76) (tgt := 83) h dX9_wrongNow_76 (by decide) ?_ ?_
    · refine T_iconst (pc := 83) h dX9_wrongNow_83 ki_0 ?_
      refine T_sub [0, 2] rfl ?_
      exact t_X9_wrongNow_L84 h hs x0 (s.2.1) (s.1) (0 : Int32) s1 rec58 hr58 hk0
    · refine T_iconst (pc := 79) h dX9_wrongNow_79 ki_1 ?_
      refine T_goto (pc := 80) (tgt := 84) h dX9_wrongNow_80 (by decide) ?_
      refine T_sub [0, 2] rfl ?_
      exact t_X9_wrongNow_L84 h hs x0 (s.2.1) (s.1) (1 : Int32) s1 rec58 hr58 hk0
theorem t_X9_wrongNow_L22 {K : Cx} (h : Ok K cX9_wrongNow RX9 3 rm_X9_wrongNow (some .int)) (hs : kiv K = St) (x0 : Nat)  (hk0 : kd x0 9) (rec22 : Int32 × Int32 × Sg → Option (Int32 × Sg)) (hr22 : ∀ u, T K (QI K) 22 [(0, .ref x0), (1, .int (u.1)), (2, .int (u.2.1))] [] 0 0 (u.2.2) (rec22 u)) (s : Int32 × Int32 × Sg) : T K (QI K) 22 [(0, .ref x0), (1, .int (s.1)), (2, .int (s.2.1))] [] 0 0 (s.2.2) (f_X9_wrongNow_L22 x0 rec22 s) := by
  unfold f_X9_wrongNow_L22
  refine T_iload_n (pc := 22) h dX9_wrongNow_22 rfl 2 rfl ?_
  refine T_aload_n (pc := 23) h dX9_wrongNow_23 rfl 0 rfl ?_
  refine T_getI (pc := 24) h hs hk0 fl_X9_130 rfl dX9_wrongNow_24 ?_
  refine T_icmp_ge (pc := 27) (tgt := 56) h dX9_wrongNow_27 (by decide) ?_ ?_
  · refine T_iconst (pc := 56) h dX9_wrongNow_56 ki_0 ?_
    refine T_istore_n (lv' := [(2, .int (0 : Int32)), (0, .ref x0), (1, .int (s.1))]) (pc := 57) h dX9_wrongNow_57 rfl (by decide) rfl ?_
    refine T_sub [1, 2, 0] rfl ?_
    exact T_fx (B := f_X9_wrongNow_L58 x0) (fl := fun u => [(0, .ref x0), (1, .int (u.1)), (2, .int (u.2.1))]) (f := fun u => (u.2.2)) (fun rec58 hr58 u => t_X9_wrongNow_L58 h hs x0 hk0 rec58 hr58 u) FU ((s.1), (0 : Int32), (s.2.2))
  · refine T_iload_n (pc := 30) h dX9_wrongNow_30 rfl 1 rfl ?_
    refine T_aload_n (pc := 31) h dX9_wrongNow_31 rfl 0 rfl ?_
    refine T_aload_n (pc := 32) h dX9_wrongNow_32 rfl 0 rfl ?_
    refine T_iload_n (pc := 33) h dX9_wrongNow_33 rfl 2 rfl ?_
    refine T_callVi (pc := 34) h (M_X9_fretOf (kl K) hs x0 (s.2.1) (s.2.2) hk0) mv_X9_fretOf hs hk0 ml_X9_175 rfl ⟨Nat.le_of_ble_eq_true rfl, Nat.le_of_ble_eq_true rfl⟩ ⟨Nat.le_refl 0, Nat.le_refl 0⟩ (Nat.le_of_ble_eq_true rfl) dX9_wrongNow_34 rfl (fun r2 s1 => ?_)
    refine T_callVi (pc := 37) h (M_X9_isOnCourse (kl K) hs x0 r2 s1 hk0) mv_X9_isOnCourse hs hk0 ml_X9_197 rfl ⟨Nat.le_of_ble_eq_true rfl, Nat.le_of_ble_eq_true rfl⟩ ⟨Nat.le_refl 0, Nat.le_refl 0⟩ (Nat.le_of_ble_eq_true rfl) dX9_wrongNow_37 rfl (fun r4 s3 => ?_)
    refine T_if_eq (pc := 40) (tgt := 47) h dX9_wrongNow_40 (by decide) ?_ ?_
    · refine T_iconst (pc := 47) h dX9_wrongNow_47 ki_1 ?_
      refine T_sub [0, 2] rfl ?_
      exact t_X9_wrongNow_L48 h hs x0 (s.2.1) (s.1) (1 : Int32) s3 rec22 hr22 hk0
    · refine T_iconst (pc := 43) h dX9_wrongNow_43 ki_0 ?_
      refine T_goto (pc := 44) (tgt := 48) h dX9_wrongNow_44 (by decide) ?_
      refine T_sub [0, 2] rfl ?_
      exact t_X9_wrongNow_L48 h hs x0 (s.2.1) (s.1) (0 : Int32) s3 rec22 hr22 hk0
theorem t_X9_wrongNow {K : Cx} (h : Ok K cX9_wrongNow RX9 3 rm_X9_wrongNow (some .int)) (hs : kiv K = St) (x0 : Nat) (σ : Sg) (hk0 : kd x0 9) : T K (QI K) 0 [(0, .ref x0)] [] 0 0 σ (f_X9_wrongNow x0 σ) := by
  unfold f_X9_wrongNow
  refine T_aload_n (pc := 0) h dX9_wrongNow_0 rfl 0 rfl ?_
  refine T_getI (pc := 1) h hs hk0 fl_X9_111 rfl dX9_wrongNow_1 ?_
  refine T_if_ne (pc := 4) (tgt := 10) h dX9_wrongNow_4 (by decide) ?_ ?_
  · refine T_aload_n (pc := 10) h dX9_wrongNow_10 rfl 0 rfl ?_
    refine T_callVv (pc := 11) h (M_X9_findsChords (kl K) hs x0 σ hk0) mv_X9_findsChords hs hk0 ml_X9_160 rfl ⟨Nat.le_of_ble_eq_true rfl, Nat.le_of_ble_eq_true rfl⟩ ⟨Nat.le_refl 0, Nat.le_refl 0⟩ (Nat.le_of_ble_eq_true rfl) dX9_wrongNow_11 rfl (fun _ s1 => ?_)
    refine T_aload_n (pc := 14) h dX9_wrongNow_14 rfl 0 rfl ?_
    refine T_callVv (pc := 15) h (M_X9_laysAll (kl K) hs x0 s1 hk0) mv_X9_laysAll hs hk0 ml_X9_243 rfl ⟨Nat.le_of_ble_eq_true rfl, Nat.le_of_ble_eq_true rfl⟩ ⟨Nat.le_refl 0, Nat.le_refl 0⟩ (Nat.le_of_ble_eq_true rfl) dX9_wrongNow_15 rfl (fun _ s2 => ?_)
    refine T_iconst (pc := 18) h dX9_wrongNow_18 ki_0 ?_
    refine T_istore_n (lv' := [(1, .int (0 : Int32)), (0, .ref x0)]) (pc := 19) h dX9_wrongNow_19 rfl (by decide) rfl ?_
    refine T_iconst (pc := 20) h dX9_wrongNow_20 ki_0 ?_
    refine T_istore_n (lv' := [(2, .int (0 : Int32)), (1, .int (0 : Int32)), (0, .ref x0)]) (pc := 21) h dX9_wrongNow_21 rfl (by decide) rfl ?_
    refine T_sub [2, 1, 0] rfl ?_
    exact T_fx (B := f_X9_wrongNow_L22 x0) (fl := fun u => [(0, .ref x0), (1, .int (u.1)), (2, .int (u.2.1))]) (f := fun u => (u.2.2)) (fun rec22 hr22 u => t_X9_wrongNow_L22 h hs x0 hk0 rec22 hr22 u) FU ((0 : Int32), (0 : Int32), s2)
  · refine T_bipush (pc := 7) h dX9_wrongNow_7 kb_m3 ?_
    exact T_ireturn (pc := 9) h (Nat.zero_le _) (Nat.zero_le _) dX9_wrongNow_9
theorem M_X9_wrongNow (l : Launch) {iv : Sg → Prop} (hi : iv = St) (x0 : Nat) (σ : Sg) (hk0 : kd x0 9) : CTi l yX9_wrongNow cX9_wrongNow 3 (some .int) rm_X9_wrongNow iv [.ref x0] σ (f_X9_wrongNow x0 σ) := by
  subst hi
  exact CT_of (by decide) (Nat.le_of_ble_eq_true rfl) (fun K _ h _ hs _ _ => t_X9_wrongNow h hs x0 σ hk0)
/-! LuteTabsModel.wrong()I -/
theorem dX9_wrong_0 : decode cX9_wrong 0 = .ok (.aload_n 0, 1) := by decide +kernel
theorem dX9_wrong_1 : decode cX9_wrong 1 = .ok (.invokevirtual 246, 3) := by decide +kernel
theorem dX9_wrong_4 : decode cX9_wrong 4 = .ok (.ireturn, 1) := by decide +kernel
abbrev rm_X9_wrong : Room := { frames := 4, cells := 0, slots := 0, locals := 94 }
def f_X9_wrong (x0 : Nat) (σ : Sg) : Option (Int32 × Sg) := bd (f_X9_wrongNow x0 σ) fun r2 s1 => some (r2, s1)
theorem t_X9_wrong {K : Cx} (h : Ok K cX9_wrong RX9 1 rm_X9_wrong (some .int)) (hs : kiv K = St) (x0 : Nat) (σ : Sg) (hk0 : kd x0 9) : T K (QI K) 0 [(0, .ref x0)] [] 0 0 σ (f_X9_wrong x0 σ) := by
  unfold f_X9_wrong
  refine T_aload_n (pc := 0) h dX9_wrong_0 rfl 0 rfl ?_
  refine T_callVi (pc := 1) h (M_X9_wrongNow (kl K) hs x0 σ hk0) mv_X9_wrongNow hs hk0 ml_X9_246 rfl ⟨Nat.le_of_ble_eq_true rfl, Nat.le_of_ble_eq_true rfl⟩ ⟨Nat.le_refl 0, Nat.le_refl 0⟩ (Nat.le_of_ble_eq_true rfl) dX9_wrong_1 rfl (fun r2 s1 => ?_)
  exact T_ireturn (pc := 4) h (Nat.zero_le _) (Nat.zero_le _) dX9_wrong_4
theorem M_X9_wrong (l : Launch) {iv : Sg → Prop} (hi : iv = St) (x0 : Nat) (σ : Sg) (hk0 : kd x0 9) : CTi l yX9_wrong cX9_wrong 1 (some .int) rm_X9_wrong iv [.ref x0] σ (f_X9_wrong x0 σ) := by
  subst hi
  exact CT_of (by decide) (Nat.le_of_ble_eq_true rfl) (fun K _ h _ hs _ _ => t_X9_wrong h hs x0 σ hk0)
/-! LuteTabsModel.costOf(I)I -/
theorem dX9_costOf_0 : decode cX9_costOf 0 = .ok (.iconst 0, 1) := by decide +kernel
theorem dX9_costOf_1 : decode cX9_costOf 1 = .ok (.istore_n 2, 1) := by decide +kernel
theorem dX9_costOf_2 : decode cX9_costOf 2 = .ok (.iload_n 1, 1) := by decide +kernel
theorem dX9_costOf_3 : decode cX9_costOf 3 = .ok (.ifCond .le 15, 3) := by decide +kernel
theorem dX9_costOf_6 : decode cX9_costOf 6 = .ok (.aload_n 0, 1) := by decide +kernel
theorem dX9_costOf_7 : decode cX9_costOf 7 = .ok (.iload_n 1, 1) := by decide +kernel
theorem dX9_costOf_8 : decode cX9_costOf 8 = .ok (.iconst 1, 1) := by decide +kernel
theorem dX9_costOf_9 : decode cX9_costOf 9 = .ok (.isub, 1) := by decide +kernel
theorem dX9_costOf_10 : decode cX9_costOf 10 = .ok (.invokevirtual 194, 3) := by decide +kernel
theorem dX9_costOf_13 : decode cX9_costOf 13 = .ok (.aload_n 0, 1) := by decide +kernel
theorem dX9_costOf_14 : decode cX9_costOf 14 = .ok (.getfield 166, 3) := by decide +kernel
theorem dX9_costOf_17 : decode cX9_costOf 17 = .ok (.istore_n 2, 1) := by decide +kernel
theorem dX9_costOf_18 : decode cX9_costOf 18 = .ok (.aload_n 0, 1) := by decide +kernel
theorem dX9_costOf_19 : decode cX9_costOf 19 = .ok (.iload_n 1, 1) := by decide +kernel
theorem dX9_costOf_20 : decode cX9_costOf 20 = .ok (.invokevirtual 194, 3) := by decide +kernel
theorem dX9_costOf_23 : decode cX9_costOf 23 = .ok (.aload_n 0, 1) := by decide +kernel
theorem dX9_costOf_24 : decode cX9_costOf 24 = .ok (.invokevirtual 211, 3) := by decide +kernel
theorem dX9_costOf_27 : decode cX9_costOf 27 = .ok (.aload_n 0, 1) := by decide +kernel
theorem dX9_costOf_28 : decode cX9_costOf 28 = .ok (.iload_n 2, 1) := by decide +kernel
theorem dX9_costOf_29 : decode cX9_costOf 29 = .ok (.aload_n 0, 1) := by decide +kernel
theorem dX9_costOf_30 : decode cX9_costOf 30 = .ok (.getfield 166, 3) := by decide +kernel
theorem dX9_costOf_33 : decode cX9_costOf 33 = .ok (.invokevirtual 218, 3) := by decide +kernel
theorem dX9_costOf_36 : decode cX9_costOf 36 = .ok (.iadd, 1) := by decide +kernel
theorem dX9_costOf_37 : decode cX9_costOf 37 = .ok (.ireturn, 1) := by decide +kernel
abbrev rm_X9_costOf : Room := { frames := 3, cells := 0, slots := 0, locals := 72 }
def f_X9_costOf_L18  (x0 : Nat) (x1 : Int32) (x2 : Int32)  (σ : Sg) : Option (Int32 × Sg) := bd (f_X9_looks x0 x1 σ) fun _ s1 => bd (f_X9_ownCost x0 s1) fun r3 s2 => bd (f_X9_shiftCost x0 x2 (gI s2 x0 21) s2) fun r5 s4 => some ((r3 + r5), s4)
def f_X9_costOf (x0 : Nat) (x1 : Int32) (σ : Sg) : Option (Int32 × Sg) := (if x1 ≤ 0 then f_X9_costOf_L18 x0 x1 (0 : Int32) σ else bd (f_X9_looks x0 (x1 - (1 : Int32)) σ) fun _ s1 => lB ((gI s1 x0 21)) fun v2 => f_X9_costOf_L18 x0 x1 v2 s1)
theorem t_X9_costOf_L18 {K : Cx} (h : Ok K cX9_costOf RX9 3 rm_X9_costOf (some .int)) (hs : kiv K = St) (x0 : Nat) (x1 : Int32) (x2 : Int32)  (σ : Sg)  (hk0 : kd x0 9)  : T K (QI K) 18 [(0, .ref x0), (1, .int x1), (2, .int x2)] [] 0 0 σ (f_X9_costOf_L18 x0 x1 x2 σ) := by
  unfold f_X9_costOf_L18
  refine T_aload_n (pc := 18) h dX9_costOf_18 rfl 0 rfl ?_
  refine T_iload_n (pc := 19) h dX9_costOf_19 rfl 1 rfl ?_
  refine T_callVv (pc := 20) h (M_X9_looks (kl K) hs x0 x1 σ hk0) mv_X9_looks hs hk0 ml_X9_194 rfl ⟨Nat.le_of_ble_eq_true rfl, Nat.le_of_ble_eq_true rfl⟩ ⟨Nat.le_refl 0, Nat.le_refl 0⟩ (Nat.le_of_ble_eq_true rfl) dX9_costOf_20 rfl (fun _ s1 => ?_)
  refine T_aload_n (pc := 23) h dX9_costOf_23 rfl 0 rfl ?_
  refine T_callVi (pc := 24) h (M_X9_ownCost (kl K) hs x0 s1 hk0) mv_X9_ownCost hs hk0 ml_X9_211 rfl ⟨Nat.le_of_ble_eq_true rfl, Nat.le_of_ble_eq_true rfl⟩ ⟨Nat.le_refl 0, Nat.le_refl 0⟩ (Nat.le_of_ble_eq_true rfl) dX9_costOf_24 rfl (fun r3 s2 => ?_)
  refine T_aload_n (pc := 27) h dX9_costOf_27 rfl 0 rfl ?_
  refine T_iload_n (pc := 28) h dX9_costOf_28 rfl 2 rfl ?_
  refine T_aload_n (pc := 29) h dX9_costOf_29 rfl 0 rfl ?_
  refine T_getI (pc := 30) h hs hk0 fl_X9_166 rfl dX9_costOf_30 ?_
  refine T_callVi (pc := 33) h (M_X9_shiftCost (kl K) hs x0 x2 (gI s2 x0 21) s2 hk0) mv_X9_shiftCost hs hk0 ml_X9_218 rfl ⟨Nat.le_of_ble_eq_true rfl, Nat.le_of_ble_eq_true rfl⟩ ⟨Nat.le_refl 0, Nat.le_refl 0⟩ (Nat.le_of_ble_eq_true rfl) dX9_costOf_33 rfl (fun r5 s4 => ?_)
  refine T_iadd (pc := 36) h dX9_costOf_36 ?_
  exact T_ireturn (pc := 37) h (Nat.zero_le _) (Nat.zero_le _) dX9_costOf_37
theorem t_X9_costOf {K : Cx} (h : Ok K cX9_costOf RX9 3 rm_X9_costOf (some .int)) (hs : kiv K = St) (x0 : Nat) (x1 : Int32) (σ : Sg) (hk0 : kd x0 9) : T K (QI K) 0 [(0, .ref x0), (1, .int x1)] [] 0 0 σ (f_X9_costOf x0 x1 σ) := by
  unfold f_X9_costOf
  refine T_iconst (pc := 0) h dX9_costOf_0 ki_0 ?_
  refine T_istore_n (lv' := [(2, .int (0 : Int32)), (0, .ref x0), (1, .int x1)]) (pc := 1) h dX9_costOf_1 rfl (by decide) rfl ?_
  refine T_iload_n (pc := 2) h dX9_costOf_2 rfl 2 rfl ?_
  refine T_if_le (pc := 3) (tgt := 18) h dX9_costOf_3 (by decide) ?_ ?_
  · refine T_sub [1, 2, 0] rfl ?_
    exact t_X9_costOf_L18 h hs x0 x1 (0 : Int32) σ hk0
  · refine T_aload_n (pc := 6) h dX9_costOf_6 rfl 1 rfl ?_
    refine T_iload_n (pc := 7) h dX9_costOf_7 rfl 2 rfl ?_
    refine T_iconst (pc := 8) h dX9_costOf_8 ki_1 ?_
    refine T_isub (pc := 9) h dX9_costOf_9 ?_
    refine T_callVv (pc := 10) h (M_X9_looks (kl K) hs x0 (x1 - (1 : Int32)) σ hk0) mv_X9_looks hs hk0 ml_X9_194 rfl ⟨Nat.le_of_ble_eq_true rfl, Nat.le_of_ble_eq_true rfl⟩ ⟨Nat.le_refl 0, Nat.le_refl 0⟩ (Nat.le_of_ble_eq_true rfl) dX9_costOf_10 rfl (fun _ s1 => ?_)
    refine T_aload_n (pc := 13) h dX9_costOf_13 rfl 1 rfl ?_
    refine T_getI (pc := 14) h hs hk0 fl_X9_166 rfl dX9_costOf_14 ?_
    refine T_letI fun v2 => ?_
    refine T_istore_n (lv' := [(2, .int v2), (0, .ref x0), (1, .int x1)]) (pc := 17) h dX9_costOf_17 rfl (by decide) rfl ?_
    refine T_sub [1, 2, 0] rfl ?_
    exact t_X9_costOf_L18 h hs x0 x1 v2 s1 hk0
theorem M_X9_costOf (l : Launch) {iv : Sg → Prop} (hi : iv = St) (x0 : Nat) (x1 : Int32) (σ : Sg) (hk0 : kd x0 9) : CTi l yX9_costOf cX9_costOf 3 (some .int) rm_X9_costOf iv [.ref x0, .int x1] σ (f_X9_costOf x0 x1 σ) := by
  subst hi
  exact CT_of (by decide) (Nat.le_of_ble_eq_true rfl) (fun K _ h _ hs _ _ => t_X9_costOf h hs x0 x1 σ hk0)
/-! LuteTabsModel.costNow()I -/
theorem dX9_costNow_0 : decode cX9_costNow 0 = .ok (.aload_n 0, 1) := by decide +kernel
theorem dX9_costNow_1 : decode cX9_costNow 1 = .ok (.getfield 111, 3) := by decide +kernel
theorem dX9_costNow_4 : decode cX9_costNow 4 = .ok (.ifCond .ne 6, 3) := by decide +kernel
theorem dX9_costNow_7 : decode cX9_costNow 7 = .ok (.bipush (-3), 2) := by decide +kernel
theorem dX9_costNow_9 : decode cX9_costNow 9 = .ok (.ireturn, 1) := by decide +kernel
theorem dX9_costNow_10 : decode cX9_costNow 10 = .ok (.aload_n 0, 1) := by decide +kernel
theorem dX9_costNow_11 : decode cX9_costNow 11 = .ok (.invokevirtual 160, 3) := by decide +kernel
theorem dX9_costNow_14 : decode cX9_costNow 14 = .ok (.aload_n 0, 1) := by decide +kernel
theorem dX9_costNow_15 : decode cX9_costNow 15 = .ok (.invokevirtual 243, 3) := by decide +kernel
theorem dX9_costNow_18 : decode cX9_costNow 18 = .ok (.iconst 0, 1) := by decide +kernel
theorem dX9_costNow_19 : decode cX9_costNow 19 = .ok (.istore_n 1, 1) := by decide +kernel
theorem dX9_costNow_20 : decode cX9_costNow 20 = .ok (.iconst 0, 1) := by decide +kernel
theorem dX9_costNow_21 : decode cX9_costNow 21 = .ok (.istore_n 2, 1) := by decide +kernel
theorem dX9_costNow_22 : decode cX9_costNow 22 = .ok (.iload_n 2, 1) := by decide +kernel
theorem dX9_costNow_23 : decode cX9_costNow 23 = .ok (.aload_n 0, 1) := by decide +kernel
theorem dX9_costNow_24 : decode cX9_costNow 24 = .ok (.getfield 157, 3) := by decide +kernel
theorem dX9_costNow_27 : decode cX9_costNow 27 = .ok (.if_icmp .ge 17, 3) := by decide +kernel
theorem dX9_costNow_30 : decode cX9_costNow 30 = .ok (.iload_n 1, 1) := by decide +kernel
theorem dX9_costNow_31 : decode cX9_costNow 31 = .ok (.aload_n 0, 1) := by decide +kernel
theorem dX9_costNow_32 : decode cX9_costNow 32 = .ok (.iload_n 2, 1) := by decide +kernel
theorem dX9_costNow_33 : decode cX9_costNow 33 = .ok (.invokevirtual 249, 3) := by decide +kernel
theorem dX9_costNow_36 : decode cX9_costNow 36 = .ok (.iadd, 1) := by decide +kernel
theorem dX9_costNow_37 : decode cX9_costNow 37 = .ok (.istore_n 1, 1) := by decide +kernel
theorem dX9_costNow_38 : decode cX9_costNow 38 = .ok (.iinc 2 1, 3) := by decide +kernel
theorem dX9_costNow_41 : decode cX9_costNow 41 = .ok (.goto (-19), 3) := by decide +kernel
theorem dX9_costNow_44 : decode cX9_costNow 44 = .ok (.iload_n 1, 1) := by decide +kernel
theorem dX9_costNow_45 : decode cX9_costNow 45 = .ok (.ireturn, 1) := by decide +kernel
abbrev rm_X9_costNow : Room := { frames := 4, cells := 0, slots := 0, locals := 94 }
def f_X9_costNow_L22  (x0 : Nat) (rec22 : Int32 × Int32 × Sg → Option (Int32 × Sg)) (s : Int32 × Int32 × Sg) : Option (Int32 × Sg) := (if (gI (s.2.2) x0 16) ≤ (s.2.1) then some ((s.1), (s.2.2)) else bd (f_X9_costOf x0 (s.2.1) (s.2.2)) fun r2 s1 => lB (((s.1) + r2)) fun v3 => lB ((s.2.1) + (1 : Int32)) fun v4 => rec22 (v3, v4, s1))
def f_X9_costNow (x0 : Nat) (σ : Sg) : Option (Int32 × Sg) := (if (gI σ x0 12) = 0 then some ((-3 : Int32), σ) else bd (f_X9_findsChords x0 σ) fun _ s1 => bd (f_X9_laysAll x0 s1) fun _ s2 => fx (f_X9_costNow_L22 x0) FU ((0 : Int32), (0 : Int32), s2))
theorem t_X9_costNow_L22 {K : Cx} (h : Ok K cX9_costNow RX9 3 rm_X9_costNow (some .int)) (hs : kiv K = St) (x0 : Nat)  (hk0 : kd x0 9) (rec22 : Int32 × Int32 × Sg → Option (Int32 × Sg)) (hr22 : ∀ u, T K (QI K) 22 [(0, .ref x0), (1, .int (u.1)), (2, .int (u.2.1))] [] 0 0 (u.2.2) (rec22 u)) (s : Int32 × Int32 × Sg) : T K (QI K) 22 [(0, .ref x0), (1, .int (s.1)), (2, .int (s.2.1))] [] 0 0 (s.2.2) (f_X9_costNow_L22 x0 rec22 s) := by
  unfold f_X9_costNow_L22
  refine T_iload_n (pc := 22) h dX9_costNow_22 rfl 2 rfl ?_
  refine T_aload_n (pc := 23) h dX9_costNow_23 rfl 0 rfl ?_
  refine T_getI (pc := 24) h hs hk0 fl_X9_157 rfl dX9_costNow_24 ?_
  refine T_icmp_ge (pc := 27) (tgt := 44) h dX9_costNow_27 (by decide) ?_ ?_
  · refine T_iload_n (pc := 44) h dX9_costNow_44 rfl 1 rfl ?_
    exact T_ireturn (pc := 45) h (Nat.zero_le _) (Nat.zero_le _) dX9_costNow_45
  · refine T_iload_n (pc := 30) h dX9_costNow_30 rfl 1 rfl ?_
    refine T_aload_n (pc := 31) h dX9_costNow_31 rfl 0 rfl ?_
    refine T_iload_n (pc := 32) h dX9_costNow_32 rfl 2 rfl ?_
    refine T_callVi (pc := 33) h (M_X9_costOf (kl K) hs x0 (s.2.1) (s.2.2) hk0) mv_X9_costOf hs hk0 ml_X9_249 rfl ⟨Nat.le_of_ble_eq_true rfl, Nat.le_of_ble_eq_true rfl⟩ ⟨Nat.le_refl 0, Nat.le_refl 0⟩ (Nat.le_of_ble_eq_true rfl) dX9_costNow_33 rfl (fun r2 s1 => ?_)
    refine T_iadd (pc := 36) h dX9_costNow_36 ?_
    refine T_letI fun v3 => ?_
    refine T_istore_n (lv' := [(1, .int v3), (0, .ref x0), (2, .int (s.2.1))]) (pc := 37) h dX9_costNow_37 rfl (by decide) rfl ?_
    refine T_iinc (fl := fun v4 => [(2, .int v4), (1, .int v3), (0, .ref x0)]) (pc := 38) h dX9_costNow_38 2 rfl ki_1 (by decide) (fun _ => rfl) (fun v4 => ?_)
    refine T_goto (pc := 41) (tgt := 22) h dX9_costNow_41 (by decide) ?_
    refine T_sub [2, 1, 0] rfl ?_
    exact hr22 (v3, v4, s1)
theorem t_X9_costNow {K : Cx} (h : Ok K cX9_costNow RX9 3 rm_X9_costNow (some .int)) (hs : kiv K = St) (x0 : Nat) (σ : Sg) (hk0 : kd x0 9) : T K (QI K) 0 [(0, .ref x0)] [] 0 0 σ (f_X9_costNow x0 σ) := by
  unfold f_X9_costNow
  refine T_aload_n (pc := 0) h dX9_costNow_0 rfl 0 rfl ?_
  refine T_getI (pc := 1) h hs hk0 fl_X9_111 rfl dX9_costNow_1 ?_
  refine T_if_ne (pc := 4) (tgt := 10) h dX9_costNow_4 (by decide) ?_ ?_
  · refine T_aload_n (pc := 10) h dX9_costNow_10 rfl 0 rfl ?_
    refine T_callVv (pc := 11) h (M_X9_findsChords (kl K) hs x0 σ hk0) mv_X9_findsChords hs hk0 ml_X9_160 rfl ⟨Nat.le_of_ble_eq_true rfl, Nat.le_of_ble_eq_true rfl⟩ ⟨Nat.le_refl 0, Nat.le_refl 0⟩ (Nat.le_of_ble_eq_true rfl) dX9_costNow_11 rfl (fun _ s1 => ?_)
    refine T_aload_n (pc := 14) h dX9_costNow_14 rfl 0 rfl ?_
    refine T_callVv (pc := 15) h (M_X9_laysAll (kl K) hs x0 s1 hk0) mv_X9_laysAll hs hk0 ml_X9_243 rfl ⟨Nat.le_of_ble_eq_true rfl, Nat.le_of_ble_eq_true rfl⟩ ⟨Nat.le_refl 0, Nat.le_refl 0⟩ (Nat.le_of_ble_eq_true rfl) dX9_costNow_15 rfl (fun _ s2 => ?_)
    refine T_iconst (pc := 18) h dX9_costNow_18 ki_0 ?_
    refine T_istore_n (lv' := [(1, .int (0 : Int32)), (0, .ref x0)]) (pc := 19) h dX9_costNow_19 rfl (by decide) rfl ?_
    refine T_iconst (pc := 20) h dX9_costNow_20 ki_0 ?_
    refine T_istore_n (lv' := [(2, .int (0 : Int32)), (1, .int (0 : Int32)), (0, .ref x0)]) (pc := 21) h dX9_costNow_21 rfl (by decide) rfl ?_
    refine T_sub [2, 1, 0] rfl ?_
    exact T_fx (B := f_X9_costNow_L22 x0) (fl := fun u => [(0, .ref x0), (1, .int (u.1)), (2, .int (u.2.1))]) (f := fun u => (u.2.2)) (fun rec22 hr22 u => t_X9_costNow_L22 h hs x0 hk0 rec22 hr22 u) FU ((0 : Int32), (0 : Int32), s2)
  · refine T_bipush (pc := 7) h dX9_costNow_7 kb_m3 ?_
    exact T_ireturn (pc := 9) h (Nat.zero_le _) (Nat.zero_le _) dX9_costNow_9
theorem M_X9_costNow (l : Launch) {iv : Sg → Prop} (hi : iv = St) (x0 : Nat) (σ : Sg) (hk0 : kd x0 9) : CTi l yX9_costNow cX9_costNow 3 (some .int) rm_X9_costNow iv [.ref x0] σ (f_X9_costNow x0 σ) := by
  subst hi
  exact CT_of (by decide) (Nat.le_of_ble_eq_true rfl) (fun K _ h _ hs _ _ => t_X9_costNow h hs x0 σ hk0)
/-! LuteTabsModel.cost()I -/
theorem dX9_cost_0 : decode cX9_cost 0 = .ok (.aload_n 0, 1) := by decide +kernel
theorem dX9_cost_1 : decode cX9_cost 1 = .ok (.invokevirtual 252, 3) := by decide +kernel
theorem dX9_cost_4 : decode cX9_cost 4 = .ok (.ireturn, 1) := by decide +kernel
abbrev rm_X9_cost : Room := { frames := 5, cells := 0, slots := 0, locals := 116 }
def f_X9_cost (x0 : Nat) (σ : Sg) : Option (Int32 × Sg) := bd (f_X9_costNow x0 σ) fun r2 s1 => some (r2, s1)
theorem t_X9_cost {K : Cx} (h : Ok K cX9_cost RX9 1 rm_X9_cost (some .int)) (hs : kiv K = St) (x0 : Nat) (σ : Sg) (hk0 : kd x0 9) : T K (QI K) 0 [(0, .ref x0)] [] 0 0 σ (f_X9_cost x0 σ) := by
  unfold f_X9_cost
  refine T_aload_n (pc := 0) h dX9_cost_0 rfl 0 rfl ?_
  refine T_callVi (pc := 1) h (M_X9_costNow (kl K) hs x0 σ hk0) mv_X9_costNow hs hk0 ml_X9_252 rfl ⟨Nat.le_of_ble_eq_true rfl, Nat.le_of_ble_eq_true rfl⟩ ⟨Nat.le_refl 0, Nat.le_refl 0⟩ (Nat.le_of_ble_eq_true rfl) dX9_cost_1 rfl (fun r2 s1 => ?_)
  exact T_ireturn (pc := 4) h (Nat.zero_le _) (Nat.zero_le _) dX9_cost_4
theorem M_X9_cost (l : Launch) {iv : Sg → Prop} (hi : iv = St) (x0 : Nat) (σ : Sg) (hk0 : kd x0 9) : CTi l yX9_cost cX9_cost 1 (some .int) rm_X9_cost iv [.ref x0] σ (f_X9_cost x0 σ) := by
  subst hi
  exact CT_of (by decide) (Nat.le_of_ble_eq_true rfl) (fun K _ h _ hs _ _ => t_X9_cost h hs x0 σ hk0)
/-! LuteTabsModel.coursesFor(I)I -/
theorem dX9_coursesFor_0 : decode cX9_coursesFor 0 = .ok (.iconst 0, 1) := by decide +kernel
theorem dX9_coursesFor_1 : decode cX9_coursesFor 1 = .ok (.istore_n 2, 1) := by decide +kernel
theorem dX9_coursesFor_2 : decode cX9_coursesFor 2 = .ok (.iconst 0, 1) := by decide +kernel
theorem dX9_coursesFor_3 : decode cX9_coursesFor 3 = .ok (.istore_n 3, 1) := by decide +kernel
theorem dX9_coursesFor_4 : decode cX9_coursesFor 4 = .ok (.iload_n 3, 1) := by decide +kernel
theorem dX9_coursesFor_5 : decode cX9_coursesFor 5 = .ok (.aload_n 0, 1) := by decide +kernel
theorem dX9_coursesFor_6 : decode cX9_coursesFor 6 = .ok (.getfield 7, 3) := by decide +kernel
theorem dX9_coursesFor_9 : decode cX9_coursesFor 9 = .ok (.if_icmp .ge 37, 3) := by decide +kernel
theorem dX9_coursesFor_12 : decode cX9_coursesFor 12 = .ok (.iload_n 2, 1) := by decide +kernel
theorem dX9_coursesFor_13 : decode cX9_coursesFor 13 = .ok (.aload_n 0, 1) := by decide +kernel
theorem dX9_coursesFor_14 : decode cX9_coursesFor 14 = .ok (.aload_n 0, 1) := by decide +kernel
theorem dX9_coursesFor_15 : decode cX9_coursesFor 15 = .ok (.getfield 35, 3) := by decide +kernel
theorem dX9_coursesFor_18 : decode cX9_coursesFor 18 = .ok (.iload_n 1, 1) := by decide +kernel
theorem dX9_coursesFor_19 : decode cX9_coursesFor 19 = .ok (.iaload, 1) := by decide +kernel
theorem dX9_coursesFor_20 : decode cX9_coursesFor 20 = .ok (.aload_n 0, 1) := by decide +kernel
theorem dX9_coursesFor_21 : decode cX9_coursesFor 21 = .ok (.getfield 13, 3) := by decide +kernel
theorem dX9_coursesFor_24 : decode cX9_coursesFor 24 = .ok (.iload_n 3, 1) := by decide +kernel
theorem dX9_coursesFor_25 : decode cX9_coursesFor 25 = .ok (.iaload, 1) := by decide +kernel
theorem dX9_coursesFor_26 : decode cX9_coursesFor 26 = .ok (.isub, 1) := by decide +kernel
theorem dX9_coursesFor_27 : decode cX9_coursesFor 27 = .ok (.invokevirtual 197, 3) := by decide +kernel
theorem dX9_coursesFor_30 : decode cX9_coursesFor 30 = .ok (.ifCond .eq 7, 3) := by decide +kernel
theorem dX9_coursesFor_33 : decode cX9_coursesFor 33 = .ok (.iconst 1, 1) := by decide +kernel
theorem dX9_coursesFor_34 : decode cX9_coursesFor 34 = .ok (.goto 4, 3) := by decide +kernel
theorem dX9_coursesFor_37 : decode cX9_coursesFor 37 = .ok (.iconst 0, 1) := by decide +kernel
theorem dX9_coursesFor_38 : decode cX9_coursesFor 38 = .ok (.iadd, 1) := by decide +kernel
theorem dX9_coursesFor_39 : decode cX9_coursesFor 39 = .ok (.istore_n 2, 1) := by decide +kernel
theorem dX9_coursesFor_40 : decode cX9_coursesFor 40 = .ok (.iinc 3 1, 3) := by decide +kernel
theorem dX9_coursesFor_43 : decode cX9_coursesFor 43 = .ok (.goto (-39), 3) := by decide +kernel
theorem dX9_coursesFor_46 : decode cX9_coursesFor 46 = .ok (.iload_n 2, 1) := by decide +kernel
theorem dX9_coursesFor_47 : decode cX9_coursesFor 47 = .ok (.ireturn, 1) := by decide +kernel
abbrev rm_X9_coursesFor : Room := { frames := 2, cells := 0, slots := 0, locals := 43 }
def f_X9_coursesFor_L38 (rec4 : Int32 × Int32 × Sg → Option (Int32 × Sg)) (x0 : Nat) (x1 : Int32) (x3 : Int32) (y0 : Int32) (y1 : Int32) (σ : Sg) : Option (Int32 × Sg) := lB ((y0 + y1)) fun v1 => lB (x3 + (1 : Int32)) fun v2 => rec4 (v1, v2, σ)
def f_X9_coursesFor_L4  (x0 : Nat) (x1 : Int32) (rec4 : Int32 × Int32 × Sg → Option (Int32 × Sg)) (s : Int32 × Int32 × Sg) : Option (Int32 × Sg) := (if (gI (s.2.2) x0 0) ≤ (s.2.1) then some ((s.1), (s.2.2)) else ck (inb x1 (aL (gR (s.2.2) x0 8))) (ck (inb (s.2.1) (aL (gR (s.2.2) x0 1))) (bd (f_X9_isOnCourse x0 ((gI (s.2.2) (gR (s.2.2) x0 8) x1.toNatClampNeg) - (gI (s.2.2) (gR (s.2.2) x0 1) (s.2.1).toNatClampNeg)) (s.2.2)) fun r4 s3 => (if r4 = 0 then f_X9_coursesFor_L38 rec4 x0 x1 (s.2.1) (s.1) (0 : Int32) s3 else f_X9_coursesFor_L38 rec4 x0 x1 (s.2.1) (s.1) (1 : Int32) s3))))
def f_X9_coursesFor (x0 : Nat) (x1 : Int32) (σ : Sg) : Option (Int32 × Sg) := fx (f_X9_coursesFor_L4 x0 x1) FU ((0 : Int32), (0 : Int32), σ)
theorem t_X9_coursesFor_L38 {K : Cx} (h : Ok K cX9_coursesFor RX9 4 rm_X9_coursesFor (some .int)) (hs : kiv K = St) (x0 : Nat) (x1 : Int32) (x3 : Int32) (y0 : Int32) (y1 : Int32) (σ : Sg) (rec4 : Int32 × Int32 × Sg → Option (Int32 × Sg)) (hr4 : ∀ u, T K (QI K) 4 [(0, .ref x0), (1, .int x1), (2, .int (u.1)), (3, .int (u.2.1))] [] 0 0 (u.2.2) (rec4 u)) (hk0 : kd x0 9)  : T K (QI K) 38 [(0, .ref x0), (1, .int x1), (3, .int x3)] [.int y1, .int y0] 0 0 σ (f_X9_coursesFor_L38 rec4 x0 x1 x3 y0 y1 σ) := by
  unfold f_X9_coursesFor_L38
  refine T_iadd (pc := 38) h dX9_coursesFor_38 ?_
  refine T_letI fun v1 => ?_
  refine T_istore_n (lv' := [(2, .int v1), (0, .ref x0), (1, .int x1), (3, .int x3)]) (pc := 39) h dX9_coursesFor_39 rfl (by decide) rfl ?_
  refine T_iinc (fl := fun v2 => [(3, .int v2), (2, .int v1), (0, .ref x0), (1, .int x1)]) (pc := 40) h dX9_coursesFor_40 3 rfl ki_1 (by decide) (fun _ => rfl) (fun v2 => ?_)
  refine T_goto (pc := 43) (tgt := 4) h dX9_coursesFor_43 (by decide) ?_
  refine T_sub [2, 3, 1, 0] rfl ?_
  exact hr4 (v1, v2, σ)
theorem t_X9_coursesFor_L4 {K : Cx} (h : Ok K cX9_coursesFor RX9 4 rm_X9_coursesFor (some .int)) (hs : kiv K = St) (x0 : Nat) (x1 : Int32)  (hk0 : kd x0 9) (rec4 : Int32 × Int32 × Sg → Option (Int32 × Sg)) (hr4 : ∀ u, T K (QI K) 4 [(0, .ref x0), (1, .int x1), (2, .int (u.1)), (3, .int (u.2.1))] [] 0 0 (u.2.2) (rec4 u)) (s : Int32 × Int32 × Sg) : T K (QI K) 4 [(0, .ref x0), (1, .int x1), (2, .int (s.1)), (3, .int (s.2.1))] [] 0 0 (s.2.2) (f_X9_coursesFor_L4 x0 x1 rec4 s) := by
  unfold f_X9_coursesFor_L4
  refine T_iload_n (pc := 4) h dX9_coursesFor_4 rfl 3 rfl ?_
  refine T_aload_n (pc := 5) h dX9_coursesFor_5 rfl 0 rfl ?_
  refine T_getI (pc := 6) h hs hk0 fl_X9_7 rfl dX9_coursesFor_6 ?_
  refine T_icmp_ge (pc := 9) (tgt := 46) h dX9_coursesFor_9 (by decide) ?_ ?_
  · refine T_iload_n (pc := 46) h dX9_coursesFor_46 rfl 2 rfl ?_
    exact T_ireturn (pc := 47) h (Nat.zero_le _) (Nat.zero_le _) dX9_coursesFor_47
  · refine T_iload_n (pc := 12) h dX9_coursesFor_12 rfl 2 rfl ?_
    refine T_aload_n (pc := 13) h dX9_coursesFor_13 rfl 0 rfl ?_
    refine T_aload_n (pc := 14) h dX9_coursesFor_14 rfl 0 rfl ?_
    refine T_gR (pc := 15) h hs hk0 fl_X9_35 rfl fk_9_8 dX9_coursesFor_15 (fun hq1 => ?_)
    refine T_iload_n (pc := 18) h dX9_coursesFor_18 rfl 1 rfl ?_
    refine T_iald (pc := 19) h hs hq1 dX9_coursesFor_19 ?_
    refine T_aload_n (pc := 20) h dX9_coursesFor_20 rfl 0 rfl ?_
    refine T_gR (pc := 21) h hs hk0 fl_X9_13 rfl fk_9_1 dX9_coursesFor_21 (fun hq2 => ?_)
    refine T_iload_n (pc := 24) h dX9_coursesFor_24 rfl 3 rfl ?_
    refine T_iald (pc := 25) h hs hq2 dX9_coursesFor_25 ?_
    refine T_isub (pc := 26) h dX9_coursesFor_26 ?_
    refine T_callVi (pc := 27) h (M_X9_isOnCourse (kl K) hs x0 ((gI (s.2.2) (gR (s.2.2) x0 8) x1.toNatClampNeg) - (gI (s.2.2) (gR (s.2.2) x0 1) (s.2.1).toNatClampNeg)) (s.2.2) hk0) mv_X9_isOnCourse hs hk0 ml_X9_197 rfl ⟨Nat.le_of_ble_eq_true rfl, Nat.le_of_ble_eq_true rfl⟩ ⟨Nat.le_refl 0, Nat.le_refl 0⟩ (Nat.le_of_ble_eq_true rfl) dX9_coursesFor_27 rfl (fun r4 s3 => ?_)
    refine T_if_eq (pc := 30) (tgt := 37) h dX9_coursesFor_30 (by decide) ?_ ?_
    · refine T_iconst (pc := 37) h dX9_coursesFor_37 ki_0 ?_
      refine T_sub [0, 1, 3] rfl ?_
      exact t_X9_coursesFor_L38 h hs x0 x1 (s.2.1) (s.1) (0 : Int32) s3 rec4 hr4 hk0
    · refine T_iconst (pc := 33) h dX9_coursesFor_33 ki_1 ?_
      refine T_goto (pc := 34) (tgt := 38) h dX9_coursesFor_34 (by decide) ?_
      refine T_sub [0, 1, 3] rfl ?_
      exact t_X9_coursesFor_L38 h hs x0 x1 (s.2.1) (s.1) (1 : Int32) s3 rec4 hr4 hk0
theorem t_X9_coursesFor {K : Cx} (h : Ok K cX9_coursesFor RX9 4 rm_X9_coursesFor (some .int)) (hs : kiv K = St) (x0 : Nat) (x1 : Int32) (σ : Sg) (hk0 : kd x0 9) : T K (QI K) 0 [(0, .ref x0), (1, .int x1)] [] 0 0 σ (f_X9_coursesFor x0 x1 σ) := by
  unfold f_X9_coursesFor
  refine T_iconst (pc := 0) h dX9_coursesFor_0 ki_0 ?_
  refine T_istore_n (lv' := [(2, .int (0 : Int32)), (0, .ref x0), (1, .int x1)]) (pc := 1) h dX9_coursesFor_1 rfl (by decide) rfl ?_
  refine T_iconst (pc := 2) h dX9_coursesFor_2 ki_0 ?_
  refine T_istore_n (lv' := [(3, .int (0 : Int32)), (2, .int (0 : Int32)), (0, .ref x0), (1, .int x1)]) (pc := 3) h dX9_coursesFor_3 rfl (by decide) rfl ?_
  refine T_sub [2, 3, 1, 0] rfl ?_
  exact T_fx (B := f_X9_coursesFor_L4 x0 x1) (fl := fun u => [(0, .ref x0), (1, .int x1), (2, .int (u.1)), (3, .int (u.2.1))]) (f := fun u => (u.2.2)) (fun rec4 hr4 u => t_X9_coursesFor_L4 h hs x0 x1 hk0 rec4 hr4 u) FU ((0 : Int32), (0 : Int32), σ)
theorem M_X9_coursesFor (l : Launch) {iv : Sg → Prop} (hi : iv = St) (x0 : Nat) (x1 : Int32) (σ : Sg) (hk0 : kd x0 9) : CTi l yX9_coursesFor cX9_coursesFor 4 (some .int) rm_X9_coursesFor iv [.ref x0, .int x1] σ (f_X9_coursesFor x0 x1 σ) := by
  subst hi
  exact CT_of (by decide) (Nat.le_of_ble_eq_true rfl) (fun K _ h _ hs _ _ => t_X9_coursesFor h hs x0 x1 σ hk0)
/-! LuteTabsModel.infoOf(II)I -/
theorem dX9_infoOf_0 : decode cX9_infoOf 0 = .ok (.iload_n 2, 1) := by decide +kernel
theorem dX9_infoOf_1 : decode cX9_infoOf 1 = .ok (.tableswitch 68 0 4 #[35, 42, 49, 56, 62], 35) := by decide +kernel
theorem dX9_infoOf_36 : decode cX9_infoOf 36 = .ok (.aload_n 0, 1) := by decide +kernel
theorem dX9_infoOf_37 : decode cX9_infoOf 37 = .ok (.getfield 32, 3) := by decide +kernel
theorem dX9_infoOf_40 : decode cX9_infoOf 40 = .ok (.iload_n 1, 1) := by decide +kernel
theorem dX9_infoOf_41 : decode cX9_infoOf 41 = .ok (.iaload, 1) := by decide +kernel
theorem dX9_infoOf_42 : decode cX9_infoOf 42 = .ok (.ireturn, 1) := by decide +kernel
theorem dX9_infoOf_43 : decode cX9_infoOf 43 = .ok (.aload_n 0, 1) := by decide +kernel
theorem dX9_infoOf_44 : decode cX9_infoOf 44 = .ok (.getfield 35, 3) := by decide +kernel
theorem dX9_infoOf_47 : decode cX9_infoOf 47 = .ok (.iload_n 1, 1) := by decide +kernel
theorem dX9_infoOf_48 : decode cX9_infoOf 48 = .ok (.iaload, 1) := by decide +kernel
theorem dX9_infoOf_49 : decode cX9_infoOf 49 = .ok (.ireturn, 1) := by decide +kernel
theorem dX9_infoOf_50 : decode cX9_infoOf 50 = .ok (.aload_n 0, 1) := by decide +kernel
theorem dX9_infoOf_51 : decode cX9_infoOf 51 = .ok (.getfield 38, 3) := by decide +kernel
theorem dX9_infoOf_54 : decode cX9_infoOf 54 = .ok (.iload_n 1, 1) := by decide +kernel
theorem dX9_infoOf_55 : decode cX9_infoOf 55 = .ok (.iaload, 1) := by decide +kernel
theorem dX9_infoOf_56 : decode cX9_infoOf 56 = .ok (.ireturn, 1) := by decide +kernel
theorem dX9_infoOf_57 : decode cX9_infoOf 57 = .ok (.aload_n 0, 1) := by decide +kernel
theorem dX9_infoOf_58 : decode cX9_infoOf 58 = .ok (.iload_n 1, 1) := by decide +kernel
theorem dX9_infoOf_59 : decode cX9_infoOf 59 = .ok (.invokevirtual 255, 3) := by decide +kernel
theorem dX9_infoOf_62 : decode cX9_infoOf 62 = .ok (.ireturn, 1) := by decide +kernel
theorem dX9_infoOf_63 : decode cX9_infoOf 63 = .ok (.aload_n 0, 1) := by decide +kernel
theorem dX9_infoOf_64 : decode cX9_infoOf 64 = .ok (.iload_n 1, 1) := by decide +kernel
theorem dX9_infoOf_65 : decode cX9_infoOf 65 = .ok (.invokevirtual 258, 3) := by decide +kernel
theorem dX9_infoOf_68 : decode cX9_infoOf 68 = .ok (.ireturn, 1) := by decide +kernel
theorem dX9_infoOf_69 : decode cX9_infoOf 69 = .ok (.aload_n 0, 1) := by decide +kernel
theorem dX9_infoOf_70 : decode cX9_infoOf 70 = .ok (.getfield 111, 3) := by decide +kernel
theorem dX9_infoOf_73 : decode cX9_infoOf 73 = .ok (.ifCond .eq 12, 3) := by decide +kernel
theorem dX9_infoOf_76 : decode cX9_infoOf 76 = .ok (.aload_n 0, 1) := by decide +kernel
theorem dX9_infoOf_77 : decode cX9_infoOf 77 = .ok (.getfield 41, 3) := by decide +kernel
theorem dX9_infoOf_80 : decode cX9_infoOf 80 = .ok (.iload_n 1, 1) := by decide +kernel
theorem dX9_infoOf_81 : decode cX9_infoOf 81 = .ok (.iaload, 1) := by decide +kernel
theorem dX9_infoOf_82 : decode cX9_infoOf 82 = .ok (.goto 4, 3) := by decide +kernel
theorem dX9_infoOf_85 : decode cX9_infoOf 85 = .ok (.iconst (-1), 1) := by decide +kernel
theorem dX9_infoOf_86 : decode cX9_infoOf 86 = .ok (.ireturn, 1) := by decide +kernel
abbrev rm_X9_infoOf : Room := { frames := 3, cells := 0, slots := 0, locals := 66 }
def f_X9_infoOf_L86   (y0 : Int32) (σ : Sg) : Option (Int32 × Sg) := some (y0, σ)
def f_X9_infoOf (x0 : Nat) (x1 : Int32) (x2 : Int32) (σ : Sg) : Option (Int32 × Sg) := (if x2.toInt < 0 ∨ 4 < x2.toInt then (if (gI σ x0 12) = 0 then f_X9_infoOf_L86 (-1 : Int32) σ else ck (inb x1 (aL (gR σ x0 11))) (f_X9_infoOf_L86 (gI σ (gR σ x0 11) x1.toNatClampNeg) σ)) else swt [ck (inb x1 (aL (gR σ x0 7))) (some ((gI σ (gR σ x0 7) x1.toNatClampNeg), σ)), ck (inb x1 (aL (gR σ x0 8))) (some ((gI σ (gR σ x0 8) x1.toNatClampNeg), σ)), ck (inb x1 (aL (gR σ x0 9))) (some ((gI σ (gR σ x0 9) x1.toNatClampNeg), σ)), bd (f_X9_chordOf x0 x1 σ) fun r6 s5 => some (r6, s5), bd (f_X9_coursesFor x0 x1 σ) fun r8 s7 => some (r8, s7)] (x2.toInt - 0).toNat)
theorem t_X9_infoOf_L86 {K : Cx} (h : Ok K cX9_infoOf RX9 3 rm_X9_infoOf (some .int)) (hs : kiv K = St)  (y0 : Int32) (σ : Sg)    : T K (QI K) 86 [] [.int y0] 0 0 σ (f_X9_infoOf_L86 y0 σ) := by
  unfold f_X9_infoOf_L86
  exact T_ireturn (pc := 86) h (Nat.zero_le _) (Nat.zero_le _) dX9_infoOf_86
theorem t_X9_infoOf {K : Cx} (h : Ok K cX9_infoOf RX9 3 rm_X9_infoOf (some .int)) (hs : kiv K = St) (x0 : Nat) (x1 : Int32) (x2 : Int32) (σ : Sg) (hk0 : kd x0 9) : T K (QI K) 0 [(0, .ref x0), (1, .int x1), (2, .int x2)] [] 0 0 σ (f_X9_infoOf x0 x1 x2 σ) := by
  unfold f_X9_infoOf
  refine T_iload_n (pc := 0) h dX9_infoOf_0 rfl 2 rfl ?_
  refine T_tsw (pc := 1) (tgt := 69) h dX9_infoOf_1 (by decide) [36, 43, 50, 57, 63] rfl (by decide) rfl (by decide) ?_ (List.forall_mem_cons.mpr ⟨?_, List.forall_mem_cons.mpr ⟨?_, List.forall_mem_cons.mpr ⟨?_, List.forall_mem_cons.mpr ⟨?_, List.forall_mem_cons.mpr ⟨?_, fun _ hq => by cases hq⟩⟩⟩⟩⟩)
  · refine T_aload_n (pc := 69) h dX9_infoOf_69 rfl 0 rfl ?_
    refine T_getI (pc := 70) h hs hk0 fl_X9_111 rfl dX9_infoOf_70 ?_
    refine T_if_eq (pc := 73) (tgt := 85) h dX9_infoOf_73 (by decide) ?_ ?_
    · refine T_iconst (pc := 85) h dX9_infoOf_85 ki_m1 ?_
      refine T_sub [] rfl ?_
      exact t_X9_infoOf_L86 h hs (-1 : Int32) σ
    · refine T_aload_n (pc := 76) h dX9_infoOf_76 rfl 0 rfl ?_
      refine T_gR (pc := 77) h hs hk0 fl_X9_41 rfl fk_9_11 dX9_infoOf_77 (fun hq1 => ?_)
      refine T_iload_n (pc := 80) h dX9_infoOf_80 rfl 1 rfl ?_
      refine T_iald (pc := 81) h hs hq1 dX9_infoOf_81 ?_
      refine T_goto (pc := 82) (tgt := 86) h dX9_infoOf_82 (by decide) ?_
      refine T_sub [] rfl ?_
      exact t_X9_infoOf_L86 h hs (gI σ (gR σ x0 11) x1.toNatClampNeg) σ
  · dsimp only
    refine T_aload_n (pc := 36) h dX9_infoOf_36 rfl 0 rfl ?_
    refine T_gR (pc := 37) h hs hk0 fl_X9_32 rfl fk_9_7 dX9_infoOf_37 (fun hq2 => ?_)
    refine T_iload_n (pc := 40) h dX9_infoOf_40 rfl 1 rfl ?_
    refine T_iald (pc := 41) h hs hq2 dX9_infoOf_41 ?_
    exact T_ireturn (pc := 42) h (Nat.zero_le _) (Nat.zero_le _) dX9_infoOf_42
  · dsimp only
    refine T_aload_n (pc := 43) h dX9_infoOf_43 rfl 0 rfl ?_
    refine T_gR (pc := 44) h hs hk0 fl_X9_35 rfl fk_9_8 dX9_infoOf_44 (fun hq3 => ?_)
    refine T_iload_n (pc := 47) h dX9_infoOf_47 rfl 1 rfl ?_
    refine T_iald (pc := 48) h hs hq3 dX9_infoOf_48 ?_
    exact T_ireturn (pc := 49) h (Nat.zero_le _) (Nat.zero_le _) dX9_infoOf_49
  · dsimp only
    refine T_aload_n (pc := 50) h dX9_infoOf_50 rfl 0 rfl ?_
    refine T_gR (pc := 51) h hs hk0 fl_X9_38 rfl fk_9_9 dX9_infoOf_51 (fun hq4 => ?_)
    refine T_iload_n (pc := 54) h dX9_infoOf_54 rfl 1 rfl ?_
    refine T_iald (pc := 55) h hs hq4 dX9_infoOf_55 ?_
    exact T_ireturn (pc := 56) h (Nat.zero_le _) (Nat.zero_le _) dX9_infoOf_56
  · dsimp only
    refine T_aload_n (pc := 57) h dX9_infoOf_57 rfl 0 rfl ?_
    refine T_iload_n (pc := 58) h dX9_infoOf_58 rfl 1 rfl ?_
    refine T_callVi (pc := 59) h (M_X9_chordOf (kl K) hs x0 x1 σ hk0) mv_X9_chordOf hs hk0 ml_X9_255 rfl ⟨Nat.le_of_ble_eq_true rfl, Nat.le_of_ble_eq_true rfl⟩ ⟨Nat.le_refl 0, Nat.le_refl 0⟩ (Nat.le_of_ble_eq_true rfl) dX9_infoOf_59 rfl (fun r6 s5 => ?_)
    exact T_ireturn (pc := 62) h (Nat.zero_le _) (Nat.zero_le _) dX9_infoOf_62
  · dsimp only
    refine T_aload_n (pc := 63) h dX9_infoOf_63 rfl 0 rfl ?_
    refine T_iload_n (pc := 64) h dX9_infoOf_64 rfl 1 rfl ?_
    refine T_callVi (pc := 65) h (M_X9_coursesFor (kl K) hs x0 x1 σ hk0) mv_X9_coursesFor hs hk0 ml_X9_258 rfl ⟨Nat.le_of_ble_eq_true rfl, Nat.le_of_ble_eq_true rfl⟩ ⟨Nat.le_refl 0, Nat.le_refl 0⟩ (Nat.le_of_ble_eq_true rfl) dX9_infoOf_65 rfl (fun r8 s7 => ?_)
    exact T_ireturn (pc := 68) h (Nat.zero_le _) (Nat.zero_le _) dX9_infoOf_68
theorem M_X9_infoOf (l : Launch) {iv : Sg → Prop} (hi : iv = St) (x0 : Nat) (x1 : Int32) (x2 : Int32) (σ : Sg) (hk0 : kd x0 9) : CTi l yX9_infoOf cX9_infoOf 3 (some .int) rm_X9_infoOf iv [.ref x0, .int x1, .int x2] σ (f_X9_infoOf x0 x1 x2 σ) := by
  subst hi
  exact CT_of (by decide) (Nat.le_of_ble_eq_true rfl) (fun K _ h _ hs _ _ => t_X9_infoOf h hs x0 x1 x2 σ hk0)
/-! LuteTabsModel.info(II)I -/
theorem dX9_info_0 : decode cX9_info 0 = .ok (.aload_n 0, 1) := by decide +kernel
theorem dX9_info_1 : decode cX9_info 1 = .ok (.iload_n 1, 1) := by decide +kernel
theorem dX9_info_2 : decode cX9_info 2 = .ok (.invokevirtual 143, 3) := by decide +kernel
theorem dX9_info_5 : decode cX9_info 5 = .ok (.ifCond .eq 21, 3) := by decide +kernel
theorem dX9_info_8 : decode cX9_info 8 = .ok (.iload_n 2, 1) := by decide +kernel
theorem dX9_info_9 : decode cX9_info 9 = .ok (.iconst 0, 1) := by decide +kernel
theorem dX9_info_10 : decode cX9_info 10 = .ok (.iconst 5, 1) := by decide +kernel
theorem dX9_info_11 : decode cX9_info 11 = .ok (.invokestatic 115, 3) := by decide +kernel
theorem dX9_info_14 : decode cX9_info 14 = .ok (.ifCond .eq 12, 3) := by decide +kernel
theorem dX9_info_17 : decode cX9_info 17 = .ok (.aload_n 0, 1) := by decide +kernel
theorem dX9_info_18 : decode cX9_info 18 = .ok (.iload_n 1, 1) := by decide +kernel
theorem dX9_info_19 : decode cX9_info 19 = .ok (.iload_n 2, 1) := by decide +kernel
theorem dX9_info_20 : decode cX9_info 20 = .ok (.invokevirtual 261, 3) := by decide +kernel
theorem dX9_info_23 : decode cX9_info 23 = .ok (.goto 5, 3) := by decide +kernel
theorem dX9_info_26 : decode cX9_info 26 = .ok (.bipush (-2), 2) := by decide +kernel
theorem dX9_info_28 : decode cX9_info 28 = .ok (.ireturn, 1) := by decide +kernel
abbrev rm_X9_info : Room := { frames := 4, cells := 0, slots := 0, locals := 88 }
def f_X9_info_L28   (y0 : Int32) (σ : Sg) : Option (Int32 × Sg) := some (y0, σ)
def f_X9_info_L26    (σ : Sg) : Option (Int32 × Sg) := f_X9_info_L28 (-2 : Int32) σ
def f_X9_info (x0 : Nat) (x1 : Int32) (x2 : Int32) (σ : Sg) : Option (Int32 × Sg) := bd (f_X9_isNote x0 x1 σ) fun r2 s1 => (if r2 = 0 then f_X9_info_L26 s1 else bd (f_X9_in x2 (0 : Int32) (5 : Int32) s1) fun r4 s3 => (if r4 = 0 then f_X9_info_L26 s3 else bd (f_X9_infoOf x0 x1 x2 s3) fun r6 s5 => f_X9_info_L28 r6 s5))
theorem t_X9_info_L28 {K : Cx} (h : Ok K cX9_info RX9 3 rm_X9_info (some .int)) (hs : kiv K = St)  (y0 : Int32) (σ : Sg)    : T K (QI K) 28 [] [.int y0] 0 0 σ (f_X9_info_L28 y0 σ) := by
  unfold f_X9_info_L28
  exact T_ireturn (pc := 28) h (Nat.zero_le _) (Nat.zero_le _) dX9_info_28
theorem t_X9_info_L26 {K : Cx} (h : Ok K cX9_info RX9 3 rm_X9_info (some .int)) (hs : kiv K = St)   (σ : Sg)    : T K (QI K) 26 [] [] 0 0 σ (f_X9_info_L26 σ) := by
  unfold f_X9_info_L26
  refine T_bipush (pc := 26) h dX9_info_26 kb_m2 ?_
  refine T_sub [] rfl ?_
  exact t_X9_info_L28 h hs (-2 : Int32) σ
theorem t_X9_info {K : Cx} (h : Ok K cX9_info RX9 3 rm_X9_info (some .int)) (hs : kiv K = St) (x0 : Nat) (x1 : Int32) (x2 : Int32) (σ : Sg) (hk0 : kd x0 9) : T K (QI K) 0 [(0, .ref x0), (1, .int x1), (2, .int x2)] [] 0 0 σ (f_X9_info x0 x1 x2 σ) := by
  unfold f_X9_info
  refine T_aload_n (pc := 0) h dX9_info_0 rfl 0 rfl ?_
  refine T_iload_n (pc := 1) h dX9_info_1 rfl 1 rfl ?_
  refine T_callVi (pc := 2) h (M_X9_isNote (kl K) hs x0 x1 σ hk0) mv_X9_isNote hs hk0 ml_X9_143 rfl ⟨Nat.le_of_ble_eq_true rfl, Nat.le_of_ble_eq_true rfl⟩ ⟨Nat.le_refl 0, Nat.le_refl 0⟩ (Nat.le_of_ble_eq_true rfl) dX9_info_2 rfl (fun r2 s1 => ?_)
  refine T_if_eq (pc := 5) (tgt := 26) h dX9_info_5 (by decide) ?_ ?_
  · refine T_sub [] rfl ?_
    exact t_X9_info_L26 h hs s1
  · refine T_iload_n (pc := 8) h dX9_info_8 rfl 2 rfl ?_
    refine T_iconst (pc := 9) h dX9_info_9 ki_0 ?_
    refine T_iconst (pc := 10) h dX9_info_10 ki_5 ?_
    refine T_callSi (pc := 11) h (M_X9_in (kl K) hs x2 (0 : Int32) (5 : Int32) s1 ) mst_X9_in ml_X9_115 rfl ⟨Nat.le_of_ble_eq_true rfl, Nat.le_of_ble_eq_true rfl⟩ ⟨Nat.le_refl 0, Nat.le_refl 0⟩ (Nat.le_of_ble_eq_true rfl) dX9_info_11 rfl (fun r4 s3 => ?_)
    refine T_if_eq (pc := 14) (tgt := 26) h dX9_info_14 (by decide) ?_ ?_
    · refine T_sub [] rfl ?_
      exact t_X9_info_L26 h hs s3
    · refine T_aload_n (pc := 17) h dX9_info_17 rfl 0 rfl ?_
      refine T_iload_n (pc := 18) h dX9_info_18 rfl 1 rfl ?_
      refine T_iload_n (pc := 19) h dX9_info_19 rfl 2 rfl ?_
      refine T_callVi (pc := 20) h (M_X9_infoOf (kl K) hs x0 x1 x2 s3 hk0) mv_X9_infoOf hs hk0 ml_X9_261 rfl ⟨Nat.le_of_ble_eq_true rfl, Nat.le_of_ble_eq_true rfl⟩ ⟨Nat.le_refl 0, Nat.le_refl 0⟩ (Nat.le_of_ble_eq_true rfl) dX9_info_20 rfl (fun r6 s5 => ?_)
      refine T_goto (pc := 23) (tgt := 28) h dX9_info_23 (by decide) ?_
      refine T_sub [] rfl ?_
      exact t_X9_info_L28 h hs r6 s5
theorem M_X9_info (l : Launch) {iv : Sg → Prop} (hi : iv = St) (x0 : Nat) (x1 : Int32) (x2 : Int32) (σ : Sg) (hk0 : kd x0 9) : CTi l yX9_info cX9_info 3 (some .int) rm_X9_info iv [.ref x0, .int x1, .int x2] σ (f_X9_info x0 x1 x2 σ) := by
  subst hi
  exact CT_of (by decide) (Nat.le_of_ble_eq_true rfl) (fun K _ h _ hs _ _ => t_X9_info h hs x0 x1 x2 σ hk0)
/-! LuteTabsModel.courseOf(II)I -/
theorem dX9_courseOf_0 : decode cX9_courseOf 0 = .ok (.iconst 0, 1) := by decide +kernel
theorem dX9_courseOf_1 : decode cX9_courseOf 1 = .ok (.istore_n 3, 1) := by decide +kernel
theorem dX9_courseOf_2 : decode cX9_courseOf 2 = .ok (.iconst 0, 1) := by decide +kernel
theorem dX9_courseOf_3 : decode cX9_courseOf 3 = .ok (.istore 4, 2) := by decide +kernel
theorem dX9_courseOf_5 : decode cX9_courseOf 5 = .ok (.iload 4, 2) := by decide +kernel
theorem dX9_courseOf_7 : decode cX9_courseOf 7 = .ok (.aload_n 0, 1) := by decide +kernel
theorem dX9_courseOf_8 : decode cX9_courseOf 8 = .ok (.getfield 130, 3) := by decide +kernel
theorem dX9_courseOf_11 : decode cX9_courseOf 11 = .ok (.if_icmp .ge 73, 3) := by decide +kernel
theorem dX9_courseOf_14 : decode cX9_courseOf 14 = .ok (.iload_n 2, 1) := by decide +kernel
theorem dX9_courseOf_15 : decode cX9_courseOf 15 = .ok (.iconst 1, 1) := by decide +kernel
theorem dX9_courseOf_16 : decode cX9_courseOf 16 = .ok (.if_icmp .ne 24, 3) := by decide +kernel
theorem dX9_courseOf_19 : decode cX9_courseOf 19 = .ok (.aload_n 0, 1) := by decide +kernel
theorem dX9_courseOf_20 : decode cX9_courseOf 20 = .ok (.aload_n 0, 1) := by decide +kernel
theorem dX9_courseOf_21 : decode cX9_courseOf 21 = .ok (.getfield 35, 3) := by decide +kernel
theorem dX9_courseOf_24 : decode cX9_courseOf 24 = .ok (.iload 4, 2) := by decide +kernel
theorem dX9_courseOf_26 : decode cX9_courseOf 26 = .ok (.iaload, 1) := by decide +kernel
theorem dX9_courseOf_27 : decode cX9_courseOf 27 = .ok (.aload_n 0, 1) := by decide +kernel
theorem dX9_courseOf_28 : decode cX9_courseOf 28 = .ok (.getfield 13, 3) := by decide +kernel
theorem dX9_courseOf_31 : decode cX9_courseOf 31 = .ok (.iload_n 1, 1) := by decide +kernel
theorem dX9_courseOf_32 : decode cX9_courseOf 32 = .ok (.iaload, 1) := by decide +kernel
theorem dX9_courseOf_33 : decode cX9_courseOf 33 = .ok (.isub, 1) := by decide +kernel
theorem dX9_courseOf_34 : decode cX9_courseOf 34 = .ok (.invokevirtual 197, 3) := by decide +kernel
theorem dX9_courseOf_37 : decode cX9_courseOf 37 = .ok (.goto 26, 3) := by decide +kernel
theorem dX9_courseOf_40 : decode cX9_courseOf 40 = .ok (.aload_n 0, 1) := by decide +kernel
theorem dX9_courseOf_41 : decode cX9_courseOf 41 = .ok (.getfield 111, 3) := by decide +kernel
theorem dX9_courseOf_44 : decode cX9_courseOf 44 = .ok (.ifCond .eq 18, 3) := by decide +kernel
theorem dX9_courseOf_47 : decode cX9_courseOf 47 = .ok (.aload_n 0, 1) := by decide +kernel
theorem dX9_courseOf_48 : decode cX9_courseOf 48 = .ok (.getfield 41, 3) := by decide +kernel
theorem dX9_courseOf_51 : decode cX9_courseOf 51 = .ok (.iload 4, 2) := by decide +kernel
theorem dX9_courseOf_53 : decode cX9_courseOf 53 = .ok (.iaload, 1) := by decide +kernel
theorem dX9_courseOf_54 : decode cX9_courseOf 54 = .ok (.iload_n 1, 1) := by decide +kernel
theorem dX9_courseOf_55 : decode cX9_courseOf 55 = .ok (.if_icmp .ne 7, 3) := by decide +kernel
theorem dX9_courseOf_58 : decode cX9_courseOf 58 = .ok (.iconst 1, 1) := by decide +kernel
theorem dX9_courseOf_59 : decode cX9_courseOf 59 = .ok (.goto 4, 3) := by decide +kernel
theorem dX9_courseOf_62 : decode cX9_courseOf 62 = .ok (.iconst 0, 1) := by decide +kernel
theorem dX9_courseOf_63 : decode cX9_courseOf 63 = .ok (.istore 5, 2) := by decide +kernel
theorem dX9_courseOf_65 : decode cX9_courseOf 65 = .ok (.iload_n 3, 1) := by decide +kernel
theorem dX9_courseOf_66 : decode cX9_courseOf 66 = .ok (.iload 5, 2) := by decide +kernel
theorem dX9_courseOf_68 : decode cX9_courseOf 68 = .ok (.ifCond .eq 7, 3) := by decide +kernel
theorem dX9_courseOf_71 : decode cX9_courseOf 71 = .ok (.iconst 1, 1) := by decide +kernel
theorem dX9_courseOf_72 : decode cX9_courseOf 72 = .ok (.goto 4, 3) := by decide +kernel
theorem dX9_courseOf_75 : decode cX9_courseOf 75 = .ok (.iconst 0, 1) := by decide +kernel
theorem dX9_courseOf_76 : decode cX9_courseOf 76 = .ok (.iadd, 1) := by decide +kernel
theorem dX9_courseOf_77 : decode cX9_courseOf 77 = .ok (.istore_n 3, 1) := by decide +kernel
theorem dX9_courseOf_78 : decode cX9_courseOf 78 = .ok (.iinc 4 1, 3) := by decide +kernel
theorem dX9_courseOf_81 : decode cX9_courseOf 81 = .ok (.goto (-76), 3) := by decide +kernel
theorem dX9_courseOf_84 : decode cX9_courseOf 84 = .ok (.iload_n 2, 1) := by decide +kernel
theorem dX9_courseOf_85 : decode cX9_courseOf 85 = .ok (.ifCond .ne 12, 3) := by decide +kernel
theorem dX9_courseOf_88 : decode cX9_courseOf 88 = .ok (.aload_n 0, 1) := by decide +kernel
theorem dX9_courseOf_89 : decode cX9_courseOf 89 = .ok (.getfield 13, 3) := by decide +kernel
theorem dX9_courseOf_92 : decode cX9_courseOf 92 = .ok (.iload_n 1, 1) := by decide +kernel
theorem dX9_courseOf_93 : decode cX9_courseOf 93 = .ok (.iaload, 1) := by decide +kernel
theorem dX9_courseOf_94 : decode cX9_courseOf 94 = .ok (.goto 4, 3) := by decide +kernel
theorem dX9_courseOf_97 : decode cX9_courseOf 97 = .ok (.iload_n 3, 1) := by decide +kernel
theorem dX9_courseOf_98 : decode cX9_courseOf 98 = .ok (.ireturn, 1) := by decide +kernel
abbrev rm_X9_courseOf : Room := { frames := 2, cells := 0, slots := 0, locals := 43 }
def f_X9_courseOf_L76 (rec5 : Int32 × Int32 × Sg → Option (Int32 × Sg)) (x0 : Nat) (x1 : Int32) (x2 : Int32) (x4 : Int32) (y0 : Int32) (y1 : Int32) (σ : Sg) : Option (Int32 × Sg) := lB ((y0 + y1)) fun v1 => lB (x4 + (1 : Int32)) fun v2 => rec5 (v1, v2, σ)
def f_X9_courseOf_L63 (rec5 : Int32 × Int32 × Sg → Option (Int32 × Sg)) (x0 : Nat) (x1 : Int32) (x2 : Int32) (x3 : Int32) (x4 : Int32) (y0 : Int32) (σ : Sg) : Option (Int32 × Sg) := (if y0 = 0 then f_X9_courseOf_L76 rec5 x0 x1 x2 x4 x3 (0 : Int32) σ else f_X9_courseOf_L76 rec5 x0 x1 x2 x4 x3 (1 : Int32) σ)
def f_X9_courseOf_L62 (rec5 : Int32 × Int32 × Sg → Option (Int32 × Sg)) (x0 : Nat) (x1 : Int32) (x2 : Int32) (x3 : Int32) (x4 : Int32)  (σ : Sg) : Option (Int32 × Sg) := f_X9_courseOf_L63 rec5 x0 x1 x2 x3 x4 (0 : Int32) σ
def f_X9_courseOf_L98   (y0 : Int32) (σ : Sg) : Option (Int32 × Sg) := some (y0, σ)
def f_X9_courseOf_L5  (x0 : Nat) (x1 : Int32) (x2 : Int32) (rec5 : Int32 × Int32 × Sg → Option (Int32 × Sg)) (s : Int32 × Int32 × Sg) : Option (Int32 × Sg) := (if (gI (s.2.2) x0 10) ≤ (s.2.1) then (if x2 = 0 then ck (inb x1 (aL (gR (s.2.2) x0 1))) (f_X9_courseOf_L98 (gI (s.2.2) (gR (s.2.2) x0 1) x1.toNatClampNeg) (s.2.2)) else f_X9_courseOf_L98 (s.1) (s.2.2)) else (if x2 = (1 : Int32) then ck (inb (s.2.1) (aL (gR (s.2.2) x0 8))) (ck (inb x1 (aL (gR (s.2.2) x0 1))) (bd (f_X9_isOnCourse x0 ((gI (s.2.2) (gR (s.2.2) x0 8) (s.2.1).toNatClampNeg) - (gI (s.2.2) (gR (s.2.2) x0 1) x1.toNatClampNeg)) (s.2.2)) fun r6 s5 => f_X9_courseOf_L63 rec5 x0 x1 x2 (s.1) (s.2.1) r6 s5)) else (if (gI (s.2.2) x0 12) = 0 then f_X9_courseOf_L62 rec5 x0 x1 x2 (s.1) (s.2.1) (s.2.2) else ck (inb (s.2.1) (aL (gR (s.2.2) x0 11))) ((if (gI (s.2.2) (gR (s.2.2) x0 11) (s.2.1).toNatClampNeg) = x1 then f_X9_courseOf_L63 rec5 x0 x1 x2 (s.1) (s.2.1) (1 : Int32) (s.2.2) else f_X9_courseOf_L62 rec5 x0 x1 x2 (s.1) (s.2.1) (s.2.2))))))
def f_X9_courseOf (x0 : Nat) (x1 : Int32) (x2 : Int32) (σ : Sg) : Option (Int32 × Sg) := fx (f_X9_courseOf_L5 x0 x1 x2) FU ((0 : Int32), (0 : Int32), σ)
theorem t_X9_courseOf_L76 {K : Cx} (h : Ok K cX9_courseOf RX9 6 rm_X9_courseOf (some .int)) (hs : kiv K = St) (x0 : Nat) (x1 : Int32) (x2 : Int32) (x4 : Int32) (y0 : Int32) (y1 : Int32) (σ : Sg) (rec5 : Int32 × Int32 × Sg → Option (Int32 × Sg)) (hr5 : ∀ u, T K (QI K) 5 [(0, .ref x0), (1, .int x1), (2, .int x2), (3, .int (u.1)), (4, .int (u.2.1))] [] 0 0 (u.2.2) (rec5 u)) (hk0 : kd x0 9)  : T K (QI K) 76 [(0, .ref x0), (1, .int x1), (2, .int x2), (4, .int x4)] [.int y1, .int y0] 0 0 σ (f_X9_courseOf_L76 rec5 x0 x1 x2 x4 y0 y1 σ) := by
  unfold f_X9_courseOf_L76
  refine T_iadd (pc := 76) h dX9_courseOf_76 ?_
  refine T_letI fun v1 => ?_
  refine T_istore_n (lv' := [(3, .int v1), (0, .ref x0), (1, .int x1), (2, .int x2), (4, .int x4)]) (pc := 77) h dX9_courseOf_77 rfl (by decide) rfl ?_
  refine T_iinc (fl := fun v2 => [(4, .int v2), (3, .int v1), (0, .ref x0), (1, .int x1), (2, .int x2)]) (pc := 78) h dX9_courseOf_78 4 rfl ki_1 (by decide) (fun _ => rfl) (fun v2 => ?_)
  refine T_goto (pc := 81) (tgt := 5) h dX9_courseOf_81 (by decide) ?_
  refine T_sub [2, 3, 4, 1, 0] rfl ?_
  exact hr5 (v1, v2, σ)
theorem t_X9_courseOf_L63 {K : Cx} (h : Ok K cX9_courseOf RX9 6 rm_X9_courseOf (some .int)) (hs : kiv K = St) (x0 : Nat) (x1 : Int32) (x2 : Int32) (x3 : Int32) (x4 : Int32) (y0 : Int32) (σ : Sg) (rec5 : Int32 × Int32 × Sg → Option (Int32 × Sg)) (hr5 : ∀ u, T K (QI K) 5 [(0, .ref x0), (1, .int x1), (2, .int x2), (3, .int (u.1)), (4, .int (u.2.1))] [] 0 0 (u.2.2) (rec5 u)) (hk0 : kd x0 9)  : T K (QI K) 63 [(0, .ref x0), (1, .int x1), (2, .int x2), (3, .int x3), (4, .int x4)] [.int y0] 0 0 σ (f_X9_courseOf_L63 rec5 x0 x1 x2 x3 x4 y0 σ) := by
  unfold f_X9_courseOf_L63
  refine T_istore (lv' := [(5, .int y0), (0, .ref x0), (1, .int x1), (2, .int x2), (3, .int x3), (4, .int x4)]) (pc := 63) h dX9_courseOf_63 (by decide) rfl ?_
  refine T_iload_n (pc := 65) h dX9_courseOf_65 rfl 4 rfl ?_
  refine T_iload (pc := 66) h dX9_courseOf_66 0 rfl ?_
  refine T_if_eq (pc := 68) (tgt := 75) h dX9_courseOf_68 (by decide) ?_ ?_
  · refine T_iconst (pc := 75) h dX9_courseOf_75 ki_0 ?_
    refine T_sub [1, 2, 3, 5] rfl ?_
    exact t_X9_courseOf_L76 h hs x0 x1 x2 x4 x3 (0 : Int32) σ rec5 hr5 hk0
  · refine T_iconst (pc := 71) h dX9_courseOf_71 ki_1 ?_
    refine T_goto (pc := 72) (tgt := 76) h dX9_courseOf_72 (by decide) ?_
    refine T_sub [1, 2, 3, 5] rfl ?_
    exact t_X9_courseOf_L76 h hs x0 x1 x2 x4 x3 (1 : Int32) σ rec5 hr5 hk0
theorem t_X9_courseOf_L62 {K : Cx} (h : Ok K cX9_courseOf RX9 6 rm_X9_courseOf (some .int)) (hs : kiv K = St) (x0 : Nat) (x1 : Int32) (x2 : Int32) (x3 : Int32) (x4 : Int32)  (σ : Sg) (rec5 : Int32 × Int32 × Sg → Option (Int32 × Sg)) (hr5 : ∀ u, T K (QI K) 5 [(0, .ref x0), (1, .int x1), (2, .int x2), (3, .int (u.1)), (4, .int (u.2.1))] [] 0 0 (u.2.2) (rec5 u)) (hk0 : kd x0 9)  : T K (QI K) 62 [(0, .ref x0), (1, .int x1), (2, .int x2), (3, .int x3), (4, .int x4)] [] 0 0 σ (f_X9_courseOf_L62 rec5 x0 x1 x2 x3 x4 σ) := by
  unfold f_X9_courseOf_L62
  refine T_iconst (pc := 62) h dX9_courseOf_62 ki_0 ?_
  refine T_sub [0, 1, 2, 3, 4] rfl ?_
  exact t_X9_courseOf_L63 h hs x0 x1 x2 x3 x4 (0 : Int32) σ rec5 hr5 hk0
theorem t_X9_courseOf_L98 {K : Cx} (h : Ok K cX9_courseOf RX9 6 rm_X9_courseOf (some .int)) (hs : kiv K = St)  (y0 : Int32) (σ : Sg)    : T K (QI K) 98 [] [.int y0] 0 0 σ (f_X9_courseOf_L98 y0 σ) := by
  unfold f_X9_courseOf_L98
  exact T_ireturn (pc := 98) h (Nat.zero_le _) (Nat.zero_le _) dX9_courseOf_98
theorem t_X9_courseOf_L5 {K : Cx} (h : Ok K cX9_courseOf RX9 6 rm_X9_courseOf (some .int)) (hs : kiv K = St) (x0 : Nat) (x1 : Int32) (x2 : Int32)  (hk0 : kd x0 9) (rec5 : Int32 × Int32 × Sg → Option (Int32 × Sg)) (hr5 : ∀ u, T K (QI K) 5 [(0, .ref x0), (1, .int x1), (2, .int x2), (3, .int (u.1)), (4, .int (u.2.1))] [] 0 0 (u.2.2) (rec5 u)) (s : Int32 × Int32 × Sg) : T K (QI K) 5 [(0, .ref x0), (1, .int x1), (2, .int x2), (3, .int (s.1)), (4, .int (s.2.1))] [] 0 0 (s.2.2) (f_X9_courseOf_L5 x0 x1 x2 rec5 s) := by
  unfold f_X9_courseOf_L5
  refine T_iload (pc := 5) h dX9_courseOf_5 4 rfl ?_
  refine T_aload_n (pc := 7) h dX9_courseOf_7 rfl 0 rfl ?_
  refine T_getI (pc := 8) h hs hk0 fl_X9_130 rfl dX9_courseOf_8 ?_
  refine T_icmp_ge (pc := 11) (tgt := 84) h dX9_courseOf_11 (by decide) ?_ ?_
  · refine T_iload_n (pc := 84) h dX9_courseOf_84 rfl 2 rfl ?_
    refine T_if_ne (pc := 85) (tgt := 97) h dX9_courseOf_85 (by decide) ?_ ?_
    · refine T_iload_n (pc := 97) h dX9_courseOf_97 rfl 3 rfl ?_
      refine T_sub [] rfl ?_
      exact t_X9_courseOf_L98 h hs (s.1) (s.2.2)
    · refine T_aload_n (pc := 88) h dX9_courseOf_88 rfl 0 rfl ?_
      refine T_gR (pc := 89) h hs hk0 fl_X9_13 rfl fk_9_1 dX9_courseOf_89 (fun hq1 => ?_)
      refine T_iload_n (pc := 92) h dX9_courseOf_92 rfl 1 rfl ?_
      refine T_iald (pc := 93) h hs hq1 dX9_courseOf_93 ?_
      refine T_goto (pc := 94) (tgt := 98) h dX9_courseOf_94 (by decide) ?_
      refine T_sub [] rfl ?_
      exact t_X9_courseOf_L98 h hs (gI (s.2.2) (gR (s.2.2) x0 1) x1.toNatClampNeg) (s.2.2)
  · refine T_iload_n (pc := 14) h dX9_courseOf_14 rfl 2 rfl ?_
    refine T_iconst (pc := 15) h dX9_courseOf_15 ki_1 ?_
    refine T_icmp_ne (pc := 16) (tgt := 40) h dX9_courseOf_16 (by decide) ?_ ?_
    · refine T_aload_n (pc := 40) h dX9_courseOf_40 rfl 0 rfl ?_
      refine T_getI (pc := 41) h hs hk0 fl_X9_111 rfl dX9_courseOf_41 ?_
      refine T_if_eq (pc := 44) (tgt := 62) h dX9_courseOf_44 (by decide) ?_ ?_
      · refine T_sub [0, 1, 2, 3, 4] rfl ?_
        exact t_X9_courseOf_L62 h hs x0 x1 x2 (s.1) (s.2.1) (s.2.2) rec5 hr5 hk0
      · refine T_aload_n (pc := 47) h dX9_courseOf_47 rfl 0 rfl ?_
        refine T_gR (pc := 48) h hs hk0 fl_X9_41 rfl fk_9_11 dX9_courseOf_48 (fun hq2 => ?_)
        refine T_iload (pc := 51) h dX9_courseOf_51 4 rfl ?_
        refine T_iald (pc := 53) h hs hq2 dX9_courseOf_53 ?_
        refine T_iload_n (pc := 54) h dX9_courseOf_54 rfl 1 rfl ?_
        refine T_icmp_ne (pc := 55) (tgt := 62) h dX9_courseOf_55 (by decide) ?_ ?_
        · refine T_sub [0, 1, 2, 3, 4] rfl ?_
          exact t_X9_courseOf_L62 h hs x0 x1 x2 (s.1) (s.2.1) (s.2.2) rec5 hr5 hk0
        · refine T_iconst (pc := 58) h dX9_courseOf_58 ki_1 ?_
          refine T_goto (pc := 59) (tgt := 63) h dX9_courseOf_59 (by decide) ?_
          refine T_sub [0, 1, 2, 3, 4] rfl ?_
          exact t_X9_courseOf_L63 h hs x0 x1 x2 (s.1) (s.2.1) (1 : Int32) (s.2.2) rec5 hr5 hk0
    · refine T_aload_n (pc := 19) h dX9_courseOf_19 rfl 0 rfl ?_
      refine T_aload_n (pc := 20) h dX9_courseOf_20 rfl 0 rfl ?_
      refine T_gR (pc := 21) h hs hk0 fl_X9_35 rfl fk_9_8 dX9_courseOf_21 (fun hq3 => ?_)
      refine T_iload (pc := 24) h dX9_courseOf_24 4 rfl ?_
      refine T_iald (pc := 26) h hs hq3 dX9_courseOf_26 ?_
      refine T_aload_n (pc := 27) h dX9_courseOf_27 rfl 0 rfl ?_
      refine T_gR (pc := 28) h hs hk0 fl_X9_13 rfl fk_9_1 dX9_courseOf_28 (fun hq4 => ?_)
      refine T_iload_n (pc := 31) h dX9_courseOf_31 rfl 1 rfl ?_
      refine T_iald (pc := 32) h hs hq4 dX9_courseOf_32 ?_
      refine T_isub (pc := 33) h dX9_courseOf_33 ?_
      refine T_callVi (pc := 34) h (M_X9_isOnCourse (kl K) hs x0 ((gI (s.2.2) (gR (s.2.2) x0 8) (s.2.1).toNatClampNeg) - (gI (s.2.2) (gR (s.2.2) x0 1) x1.toNatClampNeg)) (s.2.2) hk0) mv_X9_isOnCourse hs hk0 ml_X9_197 rfl ⟨Nat.le_of_ble_eq_true rfl, Nat.le_of_ble_eq_true rfl⟩ ⟨Nat.le_refl 0, Nat.le_refl 0⟩ (Nat.le_of_ble_eq_true rfl) dX9_courseOf_34 rfl (fun r6 s5 => ?_)
      refine T_goto (pc := 37) (tgt := 63) h dX9_courseOf_37 (by decide) ?_
      refine T_sub [0, 1, 2, 3, 4] rfl ?_
      exact t_X9_courseOf_L63 h hs x0 x1 x2 (s.1) (s.2.1) r6 s5 rec5 hr5 hk0
theorem t_X9_courseOf {K : Cx} (h : Ok K cX9_courseOf RX9 6 rm_X9_courseOf (some .int)) (hs : kiv K = St) (x0 : Nat) (x1 : Int32) (x2 : Int32) (σ : Sg) (hk0 : kd x0 9) : T K (QI K) 0 [(0, .ref x0), (1, .int x1), (2, .int x2)] [] 0 0 σ (f_X9_courseOf x0 x1 x2 σ) := by
  unfold f_X9_courseOf
  refine T_iconst (pc := 0) h dX9_courseOf_0 ki_0 ?_
  refine T_istore_n (lv' := [(3, .int (0 : Int32)), (0, .ref x0), (1, .int x1), (2, .int x2)]) (pc := 1) h dX9_courseOf_1 rfl (by decide) rfl ?_
  refine T_iconst (pc := 2) h dX9_courseOf_2 ki_0 ?_
  refine T_istore (lv' := [(4, .int (0 : Int32)), (3, .int (0 : Int32)), (0, .ref x0), (1, .int x1), (2, .int x2)]) (pc := 3) h dX9_courseOf_3 (by decide) rfl ?_
  refine T_sub [2, 3, 4, 1, 0] rfl ?_
  exact T_fx (B := f_X9_courseOf_L5 x0 x1 x2) (fl := fun u => [(0, .ref x0), (1, .int x1), (2, .int x2), (3, .int (u.1)), (4, .int (u.2.1))]) (f := fun u => (u.2.2)) (fun rec5 hr5 u => t_X9_courseOf_L5 h hs x0 x1 x2 hk0 rec5 hr5 u) FU ((0 : Int32), (0 : Int32), σ)
theorem M_X9_courseOf (l : Launch) {iv : Sg → Prop} (hi : iv = St) (x0 : Nat) (x1 : Int32) (x2 : Int32) (σ : Sg) (hk0 : kd x0 9) : CTi l yX9_courseOf cX9_courseOf 6 (some .int) rm_X9_courseOf iv [.ref x0, .int x1, .int x2] σ (f_X9_courseOf x0 x1 x2 σ) := by
  subst hi
  exact CT_of (by decide) (Nat.le_of_ble_eq_true rfl) (fun K _ h _ hs _ _ => t_X9_courseOf h hs x0 x1 x2 σ hk0)
/-! LuteTabsModel.course(II)I -/
theorem dX9_course_0 : decode cX9_course 0 = .ok (.aload_n 0, 1) := by decide +kernel
theorem dX9_course_1 : decode cX9_course 1 = .ok (.iload_n 1, 1) := by decide +kernel
theorem dX9_course_2 : decode cX9_course 2 = .ok (.invokevirtual 122, 3) := by decide +kernel
theorem dX9_course_5 : decode cX9_course 5 = .ok (.ifCond .eq 21, 3) := by decide +kernel
theorem dX9_course_8 : decode cX9_course 8 = .ok (.iload_n 2, 1) := by decide +kernel
theorem dX9_course_9 : decode cX9_course 9 = .ok (.iconst 0, 1) := by decide +kernel
theorem dX9_course_10 : decode cX9_course 10 = .ok (.iconst 2, 1) := by decide +kernel
theorem dX9_course_11 : decode cX9_course 11 = .ok (.invokestatic 115, 3) := by decide +kernel
theorem dX9_course_14 : decode cX9_course 14 = .ok (.ifCond .eq 12, 3) := by decide +kernel
theorem dX9_course_17 : decode cX9_course 17 = .ok (.aload_n 0, 1) := by decide +kernel
theorem dX9_course_18 : decode cX9_course 18 = .ok (.iload_n 1, 1) := by decide +kernel
theorem dX9_course_19 : decode cX9_course 19 = .ok (.iload_n 2, 1) := by decide +kernel
theorem dX9_course_20 : decode cX9_course 20 = .ok (.invokevirtual 264, 3) := by decide +kernel
theorem dX9_course_23 : decode cX9_course 23 = .ok (.goto 5, 3) := by decide +kernel
theorem dX9_course_26 : decode cX9_course 26 = .ok (.bipush (-2), 2) := by decide +kernel
theorem dX9_course_28 : decode cX9_course 28 = .ok (.ireturn, 1) := by decide +kernel
abbrev rm_X9_course : Room := { frames := 3, cells := 0, slots := 0, locals := 68 }
def f_X9_course_L28   (y0 : Int32) (σ : Sg) : Option (Int32 × Sg) := some (y0, σ)
def f_X9_course_L26    (σ : Sg) : Option (Int32 × Sg) := f_X9_course_L28 (-2 : Int32) σ
def f_X9_course (x0 : Nat) (x1 : Int32) (x2 : Int32) (σ : Sg) : Option (Int32 × Sg) := bd (f_X9_isCourse x0 x1 σ) fun r2 s1 => (if r2 = 0 then f_X9_course_L26 s1 else bd (f_X9_in x2 (0 : Int32) (2 : Int32) s1) fun r4 s3 => (if r4 = 0 then f_X9_course_L26 s3 else bd (f_X9_courseOf x0 x1 x2 s3) fun r6 s5 => f_X9_course_L28 r6 s5))
theorem t_X9_course_L28 {K : Cx} (h : Ok K cX9_course RX9 3 rm_X9_course (some .int)) (hs : kiv K = St)  (y0 : Int32) (σ : Sg)    : T K (QI K) 28 [] [.int y0] 0 0 σ (f_X9_course_L28 y0 σ) := by
  unfold f_X9_course_L28
  exact T_ireturn (pc := 28) h (Nat.zero_le _) (Nat.zero_le _) dX9_course_28
theorem t_X9_course_L26 {K : Cx} (h : Ok K cX9_course RX9 3 rm_X9_course (some .int)) (hs : kiv K = St)   (σ : Sg)    : T K (QI K) 26 [] [] 0 0 σ (f_X9_course_L26 σ) := by
  unfold f_X9_course_L26
  refine T_bipush (pc := 26) h dX9_course_26 kb_m2 ?_
  refine T_sub [] rfl ?_
  exact t_X9_course_L28 h hs (-2 : Int32) σ
theorem t_X9_course {K : Cx} (h : Ok K cX9_course RX9 3 rm_X9_course (some .int)) (hs : kiv K = St) (x0 : Nat) (x1 : Int32) (x2 : Int32) (σ : Sg) (hk0 : kd x0 9) : T K (QI K) 0 [(0, .ref x0), (1, .int x1), (2, .int x2)] [] 0 0 σ (f_X9_course x0 x1 x2 σ) := by
  unfold f_X9_course
  refine T_aload_n (pc := 0) h dX9_course_0 rfl 0 rfl ?_
  refine T_iload_n (pc := 1) h dX9_course_1 rfl 1 rfl ?_
  refine T_callVi (pc := 2) h (M_X9_isCourse (kl K) hs x0 x1 σ hk0) mv_X9_isCourse hs hk0 ml_X9_122 rfl ⟨Nat.le_of_ble_eq_true rfl, Nat.le_of_ble_eq_true rfl⟩ ⟨Nat.le_refl 0, Nat.le_refl 0⟩ (Nat.le_of_ble_eq_true rfl) dX9_course_2 rfl (fun r2 s1 => ?_)
  refine T_if_eq (pc := 5) (tgt := 26) h dX9_course_5 (by decide) ?_ ?_
  · refine T_sub [] rfl ?_
    exact t_X9_course_L26 h hs s1
  · refine T_iload_n (pc := 8) h dX9_course_8 rfl 2 rfl ?_
    refine T_iconst (pc := 9) h dX9_course_9 ki_0 ?_
    refine T_iconst (pc := 10) h dX9_course_10 ki_2 ?_
    refine T_callSi (pc := 11) h (M_X9_in (kl K) hs x2 (0 : Int32) (2 : Int32) s1 ) mst_X9_in ml_X9_115 rfl ⟨Nat.le_of_ble_eq_true rfl, Nat.le_of_ble_eq_true rfl⟩ ⟨Nat.le_refl 0, Nat.le_refl 0⟩ (Nat.le_of_ble_eq_true rfl) dX9_course_11 rfl (fun r4 s3 => ?_)
    refine T_if_eq (pc := 14) (tgt := 26) h dX9_course_14 (by decide) ?_ ?_
    · refine T_sub [] rfl ?_
      exact t_X9_course_L26 h hs s3
    · refine T_aload_n (pc := 17) h dX9_course_17 rfl 0 rfl ?_
      refine T_iload_n (pc := 18) h dX9_course_18 rfl 1 rfl ?_
      refine T_iload_n (pc := 19) h dX9_course_19 rfl 2 rfl ?_
      refine T_callVi (pc := 20) h (M_X9_courseOf (kl K) hs x0 x1 x2 s3 hk0) mv_X9_courseOf hs hk0 ml_X9_264 rfl ⟨Nat.le_of_ble_eq_true rfl, Nat.le_of_ble_eq_true rfl⟩ ⟨Nat.le_refl 0, Nat.le_refl 0⟩ (Nat.le_of_ble_eq_true rfl) dX9_course_20 rfl (fun r6 s5 => ?_)
      refine T_goto (pc := 23) (tgt := 28) h dX9_course_23 (by decide) ?_
      refine T_sub [] rfl ?_
      exact t_X9_course_L28 h hs r6 s5
theorem M_X9_course (l : Launch) {iv : Sg → Prop} (hi : iv = St) (x0 : Nat) (x1 : Int32) (x2 : Int32) (σ : Sg) (hk0 : kd x0 9) : CTi l yX9_course cX9_course 3 (some .int) rm_X9_course iv [.ref x0, .int x1, .int x2] σ (f_X9_course x0 x1 x2 σ) := by
  subst hi
  exact CT_of (by decide) (Nat.le_of_ble_eq_true rfl) (fun K _ h _ hs _ _ => t_X9_course h hs x0 x1 x2 σ hk0)
/-! LuteTabsModel.chordBy(II)I -/
theorem dX9_chordBy_0 : decode cX9_chordBy 0 = .ok (.aload_n 0, 1) := by decide +kernel
theorem dX9_chordBy_1 : decode cX9_chordBy 1 = .ok (.invokevirtual 160, 3) := by decide +kernel
theorem dX9_chordBy_4 : decode cX9_chordBy 4 = .ok (.iload_n 2, 1) := by decide +kernel
theorem dX9_chordBy_5 : decode cX9_chordBy 5 = .ok (.iconst 3, 1) := by decide +kernel
theorem dX9_chordBy_6 : decode cX9_chordBy 6 = .ok (.if_icmp .ge 41, 3) := by decide +kernel
theorem dX9_chordBy_9 : decode cX9_chordBy 9 = .ok (.iload_n 2, 1) := by decide +kernel
theorem dX9_chordBy_10 : decode cX9_chordBy 10 = .ok (.ifCond .ne 12, 3) := by decide +kernel
theorem dX9_chordBy_13 : decode cX9_chordBy 13 = .ok (.aload_n 0, 1) := by decide +kernel
theorem dX9_chordBy_14 : decode cX9_chordBy 14 = .ok (.getfield 51, 3) := by decide +kernel
theorem dX9_chordBy_17 : decode cX9_chordBy 17 = .ok (.iload_n 1, 1) := by decide +kernel
theorem dX9_chordBy_18 : decode cX9_chordBy 18 = .ok (.iaload, 1) := by decide +kernel
theorem dX9_chordBy_19 : decode cX9_chordBy 19 = .ok (.goto 27, 3) := by decide +kernel
theorem dX9_chordBy_22 : decode cX9_chordBy 22 = .ok (.iload_n 2, 1) := by decide +kernel
theorem dX9_chordBy_23 : decode cX9_chordBy 23 = .ok (.iconst 1, 1) := by decide +kernel
theorem dX9_chordBy_24 : decode cX9_chordBy 24 = .ok (.if_icmp .ne 16, 3) := by decide +kernel
theorem dX9_chordBy_27 : decode cX9_chordBy 27 = .ok (.aload_n 0, 1) := by decide +kernel
theorem dX9_chordBy_28 : decode cX9_chordBy 28 = .ok (.aload_n 0, 1) := by decide +kernel
theorem dX9_chordBy_29 : decode cX9_chordBy 29 = .ok (.getfield 51, 3) := by decide +kernel
theorem dX9_chordBy_32 : decode cX9_chordBy 32 = .ok (.iload_n 1, 1) := by decide +kernel
theorem dX9_chordBy_33 : decode cX9_chordBy 33 = .ok (.iaload, 1) := by decide +kernel
theorem dX9_chordBy_34 : decode cX9_chordBy 34 = .ok (.invokevirtual 133, 3) := by decide +kernel
theorem dX9_chordBy_37 : decode cX9_chordBy 37 = .ok (.goto 9, 3) := by decide +kernel
theorem dX9_chordBy_40 : decode cX9_chordBy 40 = .ok (.aload_n 0, 1) := by decide +kernel
theorem dX9_chordBy_41 : decode cX9_chordBy 41 = .ok (.getfield 57, 3) := by decide +kernel
theorem dX9_chordBy_44 : decode cX9_chordBy 44 = .ok (.iload_n 1, 1) := by decide +kernel
theorem dX9_chordBy_45 : decode cX9_chordBy 45 = .ok (.iaload, 1) := by decide +kernel
theorem dX9_chordBy_46 : decode cX9_chordBy 46 = .ok (.ireturn, 1) := by decide +kernel
theorem dX9_chordBy_47 : decode cX9_chordBy 47 = .ok (.aload_n 0, 1) := by decide +kernel
theorem dX9_chordBy_48 : decode cX9_chordBy 48 = .ok (.getfield 111, 3) := by decide +kernel
theorem dX9_chordBy_51 : decode cX9_chordBy 51 = .ok (.ifCond .ne 6, 3) := by decide +kernel
theorem dX9_chordBy_54 : decode cX9_chordBy 54 = .ok (.bipush (-3), 2) := by decide +kernel
theorem dX9_chordBy_56 : decode cX9_chordBy 56 = .ok (.ireturn, 1) := by decide +kernel
theorem dX9_chordBy_57 : decode cX9_chordBy 57 = .ok (.aload_n 0, 1) := by decide +kernel
theorem dX9_chordBy_58 : decode cX9_chordBy 58 = .ok (.invokevirtual 243, 3) := by decide +kernel
theorem dX9_chordBy_61 : decode cX9_chordBy 61 = .ok (.aload_n 0, 1) := by decide +kernel
theorem dX9_chordBy_62 : decode cX9_chordBy 62 = .ok (.iload_n 1, 1) := by decide +kernel
theorem dX9_chordBy_63 : decode cX9_chordBy 63 = .ok (.invokevirtual 249, 3) := by decide +kernel
theorem dX9_chordBy_66 : decode cX9_chordBy 66 = .ok (.istore_n 3, 1) := by decide +kernel
theorem dX9_chordBy_67 : decode cX9_chordBy 67 = .ok (.iload_n 2, 1) := by decide +kernel
theorem dX9_chordBy_68 : decode cX9_chordBy 68 = .ok (.iconst 3, 1) := by decide +kernel
theorem dX9_chordBy_69 : decode cX9_chordBy 69 = .ok (.if_icmp .ne 10, 3) := by decide +kernel
theorem dX9_chordBy_72 : decode cX9_chordBy 72 = .ok (.aload_n 0, 1) := by decide +kernel
theorem dX9_chordBy_73 : decode cX9_chordBy 73 = .ok (.getfield 166, 3) := by decide +kernel
theorem dX9_chordBy_76 : decode cX9_chordBy 76 = .ok (.goto 36, 3) := by decide +kernel
theorem dX9_chordBy_79 : decode cX9_chordBy 79 = .ok (.iload_n 2, 1) := by decide +kernel
theorem dX9_chordBy_80 : decode cX9_chordBy 80 = .ok (.iconst 4, 1) := by decide +kernel
theorem dX9_chordBy_81 : decode cX9_chordBy 81 = .ok (.if_icmp .ne 10, 3) := by decide +kernel
theorem dX9_chordBy_84 : decode cX9_chordBy 84 = .ok (.aload_n 0, 1) := by decide +kernel
theorem dX9_chordBy_85 : decode cX9_chordBy 85 = .ok (.getfield 169, 3) := by decide +kernel
theorem dX9_chordBy_88 : decode cX9_chordBy 88 = .ok (.goto 24, 3) := by decide +kernel
theorem dX9_chordBy_91 : decode cX9_chordBy 91 = .ok (.iload_n 2, 1) := by decide +kernel
theorem dX9_chordBy_92 : decode cX9_chordBy 92 = .ok (.iconst 5, 1) := by decide +kernel
theorem dX9_chordBy_93 : decode cX9_chordBy 93 = .ok (.if_icmp .ne 18, 3) := by decide +kernel
theorem dX9_chordBy_96 : decode cX9_chordBy 96 = .ok (.aload_n 0, 1) := by decide +kernel
theorem dX9_chordBy_97 : decode cX9_chordBy 97 = .ok (.getfield 178, 3) := by decide +kernel
theorem dX9_chordBy_100 : decode cX9_chordBy 100 = .ok (.ifCond .eq 7, 3) := by decide +kernel
theorem dX9_chordBy_103 : decode cX9_chordBy 103 = .ok (.iconst 1, 1) := by decide +kernel
theorem dX9_chordBy_104 : decode cX9_chordBy 104 = .ok (.goto 8, 3) := by decide +kernel
theorem dX9_chordBy_107 : decode cX9_chordBy 107 = .ok (.iconst 0, 1) := by decide +kernel
theorem dX9_chordBy_108 : decode cX9_chordBy 108 = .ok (.goto 4, 3) := by decide +kernel
theorem dX9_chordBy_111 : decode cX9_chordBy 111 = .ok (.iload_n 3, 1) := by decide +kernel
theorem dX9_chordBy_112 : decode cX9_chordBy 112 = .ok (.ireturn, 1) := by decide +kernel
abbrev rm_X9_chordBy : Room := { frames := 4, cells := 0, slots := 0, locals := 94 }
def f_X9_chordBy_L46   (y0 : Int32) (σ : Sg) : Option (Int32 × Sg) := some (y0, σ)
def f_X9_chordBy_L112   (y0 : Int32) (σ : Sg) : Option (Int32 × Sg) := some (y0, σ)
def f_X9_chordBy (x0 : Nat) (x1 : Int32) (x2 : Int32) (σ : Sg) : Option (Int32 × Sg) := bd (f_X9_findsChords x0 σ) fun _ s1 => (if (3 : Int32) ≤ x2 then (if (gI s1 x0 12) = 0 then some ((-3 : Int32), s1) else bd (f_X9_laysAll x0 s1) fun _ s2 => bd (f_X9_costOf x0 x1 s2) fun r4 s3 => (if x2 = (3 : Int32) then f_X9_chordBy_L112 (gI s3 x0 21) s3 else (if x2 = (4 : Int32) then f_X9_chordBy_L112 (gI s3 x0 22) s3 else (if x2 = (5 : Int32) then (if (gI s3 x0 23) = 0 then f_X9_chordBy_L112 (0 : Int32) s3 else f_X9_chordBy_L112 (1 : Int32) s3) else f_X9_chordBy_L112 r4 s3)))) else (if x2 = 0 then ck (inb x1 (aL (gR s1 x0 15))) (f_X9_chordBy_L46 (gI s1 (gR s1 x0 15) x1.toNatClampNeg) s1) else (if x2 = (1 : Int32) then ck (inb x1 (aL (gR s1 x0 15))) (bd (f_X9_beginAt x0 (gI s1 (gR s1 x0 15) x1.toNatClampNeg) s1) fun r8 s7 => f_X9_chordBy_L46 r8 s7) else ck (inb x1 (aL (gR s1 x0 18))) (f_X9_chordBy_L46 (gI s1 (gR s1 x0 18) x1.toNatClampNeg) s1))))
theorem t_X9_chordBy_L46 {K : Cx} (h : Ok K cX9_chordBy RX9 4 rm_X9_chordBy (some .int)) (hs : kiv K = St)  (y0 : Int32) (σ : Sg)    : T K (QI K) 46 [] [.int y0] 0 0 σ (f_X9_chordBy_L46 y0 σ) := by
  unfold f_X9_chordBy_L46
  exact T_ireturn (pc := 46) h (Nat.zero_le _) (Nat.zero_le _) dX9_chordBy_46
theorem t_X9_chordBy_L112 {K : Cx} (h : Ok K cX9_chordBy RX9 4 rm_X9_chordBy (some .int)) (hs : kiv K = St)  (y0 : Int32) (σ : Sg)    : T K (QI K) 112 [] [.int y0] 0 0 σ (f_X9_chordBy_L112 y0 σ) := by
  unfold f_X9_chordBy_L112
  exact T_ireturn (pc := 112) h (Nat.zero_le _) (Nat.zero_le _) dX9_chordBy_112
theorem t_X9_chordBy {K : Cx} (h : Ok K cX9_chordBy RX9 4 rm_X9_chordBy (some .int)) (hs : kiv K = St) (x0 : Nat) (x1 : Int32) (x2 : Int32) (σ : Sg) (hk0 : kd x0 9) : T K (QI K) 0 [(0, .ref x0), (1, .int x1), (2, .int x2)] [] 0 0 σ (f_X9_chordBy x0 x1 x2 σ) := by
  unfold f_X9_chordBy
  refine T_aload_n (pc := 0) h dX9_chordBy_0 rfl 0 rfl ?_
  refine T_callVv (pc := 1) h (M_X9_findsChords (kl K) hs x0 σ hk0) mv_X9_findsChords hs hk0 ml_X9_160 rfl ⟨Nat.le_of_ble_eq_true rfl, Nat.le_of_ble_eq_true rfl⟩ ⟨Nat.le_refl 0, Nat.le_refl 0⟩ (Nat.le_of_ble_eq_true rfl) dX9_chordBy_1 rfl (fun _ s1 => ?_)
  refine T_iload_n (pc := 4) h dX9_chordBy_4 rfl 2 rfl ?_
  refine T_iconst (pc := 5) h dX9_chordBy_5 ki_3 ?_
  refine T_icmp_ge (pc := 6) (tgt := 47) h dX9_chordBy_6 (by decide) ?_ ?_
  · refine T_aload_n (pc := 47) h dX9_chordBy_47 rfl 0 rfl ?_
    refine T_getI (pc := 48) h hs hk0 fl_X9_111 rfl dX9_chordBy_48 ?_
    refine T_if_ne (pc := 51) (tgt := 57) h dX9_chordBy_51 (by decide) ?_ ?_
    · refine T_aload_n (pc := 57) h dX9_chordBy_57 rfl 0 rfl ?_
      refine T_callVv (pc := 58) h (M_X9_laysAll (kl K) hs x0 s1 hk0) mv_X9_laysAll hs hk0 ml_X9_243 rfl ⟨Nat.le_of_ble_eq_true rfl, Nat.le_of_ble_eq_true rfl⟩ ⟨Nat.le_refl 0, Nat.le_refl 0⟩ (Nat.le_of_ble_eq_true rfl) dX9_chordBy_58 rfl (fun _ s2 => ?_)
      refine T_aload_n (pc := 61) h dX9_chordBy_61 rfl 0 rfl ?_
      refine T_iload_n (pc := 62) h dX9_chordBy_62 rfl 1 rfl ?_
      refine T_callVi (pc := 63) h (M_X9_costOf (kl K) hs x0 x1 s2 hk0) mv_X9_costOf hs hk0 ml_X9_249 rfl ⟨Nat.le_of_ble_eq_true rfl, Nat.le_of_ble_eq_true rfl⟩ ⟨Nat.le_refl 0, Nat.le_refl 0⟩ (Nat.le_of_ble_eq_true rfl) dX9_chordBy_63 rfl (fun r4 s3 => ?_)
      refine T_istore_n (lv' := [(3, .int r4), (0, .ref x0), (1, .int x1), (2, .int x2)]) (pc := 66) h dX9_chordBy_66 rfl (by decide) rfl ?_
      refine T_iload_n (pc := 67) h dX9_chordBy_67 rfl 3 rfl ?_
      refine T_iconst (pc := 68) h dX9_chordBy_68 ki_3 ?_
      refine T_icmp_ne (pc := 69) (tgt := 79) h dX9_chordBy_69 (by decide) ?_ ?_
      · refine T_iload_n (pc := 79) h dX9_chordBy_79 rfl 3 rfl ?_
        refine T_iconst (pc := 80) h dX9_chordBy_80 ki_4 ?_
        refine T_icmp_ne (pc := 81) (tgt := 91) h dX9_chordBy_81 (by decide) ?_ ?_
        · refine T_iload_n (pc := 91) h dX9_chordBy_91 rfl 3 rfl ?_
          refine T_iconst (pc := 92) h dX9_chordBy_92 ki_5 ?_
          refine T_icmp_ne (pc := 93) (tgt := 111) h dX9_chordBy_93 (by decide) ?_ ?_
          · refine T_iload_n (pc := 111) h dX9_chordBy_111 rfl 0 rfl ?_
            refine T_sub [] rfl ?_
            exact t_X9_chordBy_L112 h hs r4 s3
          · refine T_aload_n (pc := 96) h dX9_chordBy_96 rfl 1 rfl ?_
            refine T_getI (pc := 97) h hs hk0 fl_X9_178 rfl dX9_chordBy_97 ?_
            refine T_if_eq (pc := 100) (tgt := 107) h dX9_chordBy_100 (by decide) ?_ ?_
            · refine T_iconst (pc := 107) h dX9_chordBy_107 ki_0 ?_
              refine T_goto (pc := 108) (tgt := 112) h dX9_chordBy_108 (by decide) ?_
              refine T_sub [] rfl ?_
              exact t_X9_chordBy_L112 h hs (0 : Int32) s3
            · refine T_iconst (pc := 103) h dX9_chordBy_103 ki_1 ?_
              refine T_goto (pc := 104) (tgt := 112) h dX9_chordBy_104 (by decide) ?_
              refine T_sub [] rfl ?_
              exact t_X9_chordBy_L112 h hs (1 : Int32) s3
        · refine T_aload_n (pc := 84) h dX9_chordBy_84 rfl 1 rfl ?_
          refine T_getI (pc := 85) h hs hk0 fl_X9_169 rfl dX9_chordBy_85 ?_
          refine T_goto (pc := 88) (tgt := 112) h dX9_chordBy_88 (by decide) ?_
          refine T_sub [] rfl ?_
          exact t_X9_chordBy_L112 h hs (gI s3 x0 22) s3
      · refine T_aload_n (pc := 72) h dX9_chordBy_72 rfl 1 rfl ?_
        refine T_getI (pc := 73) h hs hk0 fl_X9_166 rfl dX9_chordBy_73 ?_
        refine T_goto (pc := 76) (tgt := 112) h dX9_chordBy_76 (by decide) ?_
        refine T_sub [] rfl ?_
        exact t_X9_chordBy_L112 h hs (gI s3 x0 21) s3
    · refine T_bipush (pc := 54) h dX9_chordBy_54 kb_m3 ?_
      exact T_ireturn (pc := 56) h (Nat.zero_le _) (Nat.zero_le _) dX9_chordBy_56
  · refine T_iload_n (pc := 9) h dX9_chordBy_9 rfl 2 rfl ?_
    refine T_if_ne (pc := 10) (tgt := 22) h dX9_chordBy_10 (by decide) ?_ ?_
    · refine T_iload_n (pc := 22) h dX9_chordBy_22 rfl 2 rfl ?_
      refine T_iconst (pc := 23) h dX9_chordBy_23 ki_1 ?_
      refine T_icmp_ne (pc := 24) (tgt := 40) h dX9_chordBy_24 (by decide) ?_ ?_
      · refine T_aload_n (pc := 40) h dX9_chordBy_40 rfl 0 rfl ?_
        refine T_gR (pc := 41) h hs hk0 fl_X9_57 rfl fk_9_18 dX9_chordBy_41 (fun hq5 => ?_)
        refine T_iload_n (pc := 44) h dX9_chordBy_44 rfl 1 rfl ?_
        refine T_iald (pc := 45) h hs hq5 dX9_chordBy_45 ?_
        refine T_sub [] rfl ?_
        exact t_X9_chordBy_L46 h hs (gI s1 (gR s1 x0 18) x1.toNatClampNeg) s1
      · refine T_aload_n (pc := 27) h dX9_chordBy_27 rfl 0 rfl ?_
        refine T_aload_n (pc := 28) h dX9_chordBy_28 rfl 0 rfl ?_
        refine T_gR (pc := 29) h hs hk0 fl_X9_51 rfl fk_9_15 dX9_chordBy_29 (fun hq6 => ?_)
        refine T_iload_n (pc := 32) h dX9_chordBy_32 rfl 1 rfl ?_
        refine T_iald (pc := 33) h hs hq6 dX9_chordBy_33 ?_
        refine T_callVi (pc := 34) h (M_X9_beginAt (kl K) hs x0 (gI s1 (gR s1 x0 15) x1.toNatClampNeg) s1 hk0) mv_X9_beginAt hs hk0 ml_X9_133 rfl ⟨Nat.le_of_ble_eq_true rfl, Nat.le_of_ble_eq_true rfl⟩ ⟨Nat.le_refl 0, Nat.le_refl 0⟩ (Nat.le_of_ble_eq_true rfl) dX9_chordBy_34 rfl (fun r8 s7 => ?_)
        refine T_goto (pc := 37) (tgt := 46) h dX9_chordBy_37 (by decide) ?_
        refine T_sub [] rfl ?_
        exact t_X9_chordBy_L46 h hs r8 s7
    · refine T_aload_n (pc := 13) h dX9_chordBy_13 rfl 0 rfl ?_
      refine T_gR (pc := 14) h hs hk0 fl_X9_51 rfl fk_9_15 dX9_chordBy_14 (fun hq9 => ?_)
      refine T_iload_n (pc := 17) h dX9_chordBy_17 rfl 1 rfl ?_
      refine T_iald (pc := 18) h hs hq9 dX9_chordBy_18 ?_
      refine T_goto (pc := 19) (tgt := 46) h dX9_chordBy_19 (by decide) ?_
      refine T_sub [] rfl ?_
      exact t_X9_chordBy_L46 h hs (gI s1 (gR s1 x0 15) x1.toNatClampNeg) s1
theorem M_X9_chordBy (l : Launch) {iv : Sg → Prop} (hi : iv = St) (x0 : Nat) (x1 : Int32) (x2 : Int32) (σ : Sg) (hk0 : kd x0 9) : CTi l yX9_chordBy cX9_chordBy 4 (some .int) rm_X9_chordBy iv [.ref x0, .int x1, .int x2] σ (f_X9_chordBy x0 x1 x2 σ) := by
  subst hi
  exact CT_of (by decide) (Nat.le_of_ble_eq_true rfl) (fun K _ h _ hs _ _ => t_X9_chordBy h hs x0 x1 x2 σ hk0)
/-! LuteTabsModel.chord(II)I -/
theorem dX9_chord_0 : decode cX9_chord 0 = .ok (.aload_n 0, 1) := by decide +kernel
theorem dX9_chord_1 : decode cX9_chord 1 = .ok (.invokevirtual 160, 3) := by decide +kernel
theorem dX9_chord_4 : decode cX9_chord 4 = .ok (.iload_n 1, 1) := by decide +kernel
theorem dX9_chord_5 : decode cX9_chord 5 = .ok (.iconst 0, 1) := by decide +kernel
theorem dX9_chord_6 : decode cX9_chord 6 = .ok (.aload_n 0, 1) := by decide +kernel
theorem dX9_chord_7 : decode cX9_chord 7 = .ok (.getfield 157, 3) := by decide +kernel
theorem dX9_chord_10 : decode cX9_chord 10 = .ok (.iconst 1, 1) := by decide +kernel
theorem dX9_chord_11 : decode cX9_chord 11 = .ok (.isub, 1) := by decide +kernel
theorem dX9_chord_12 : decode cX9_chord 12 = .ok (.invokestatic 115, 3) := by decide +kernel
theorem dX9_chord_15 : decode cX9_chord 15 = .ok (.ifCond .eq 22, 3) := by decide +kernel
theorem dX9_chord_18 : decode cX9_chord 18 = .ok (.iload_n 2, 1) := by decide +kernel
theorem dX9_chord_19 : decode cX9_chord 19 = .ok (.iconst 0, 1) := by decide +kernel
theorem dX9_chord_20 : decode cX9_chord 20 = .ok (.bipush 6, 2) := by decide +kernel
theorem dX9_chord_22 : decode cX9_chord 22 = .ok (.invokestatic 115, 3) := by decide +kernel
theorem dX9_chord_25 : decode cX9_chord 25 = .ok (.ifCond .eq 12, 3) := by decide +kernel
theorem dX9_chord_28 : decode cX9_chord 28 = .ok (.aload_n 0, 1) := by decide +kernel
theorem dX9_chord_29 : decode cX9_chord 29 = .ok (.iload_n 1, 1) := by decide +kernel
theorem dX9_chord_30 : decode cX9_chord 30 = .ok (.iload_n 2, 1) := by decide +kernel
theorem dX9_chord_31 : decode cX9_chord 31 = .ok (.invokevirtual 267, 3) := by decide +kernel
theorem dX9_chord_34 : decode cX9_chord 34 = .ok (.goto 5, 3) := by decide +kernel
theorem dX9_chord_37 : decode cX9_chord 37 = .ok (.bipush (-2), 2) := by decide +kernel
theorem dX9_chord_39 : decode cX9_chord 39 = .ok (.ireturn, 1) := by decide +kernel
abbrev rm_X9_chord : Room := { frames := 5, cells := 0, slots := 0, locals := 117 }
def f_X9_chord_L39   (y0 : Int32) (σ : Sg) : Option (Int32 × Sg) := some (y0, σ)
def f_X9_chord_L37    (σ : Sg) : Option (Int32 × Sg) := f_X9_chord_L39 (-2 : Int32) σ
def f_X9_chord (x0 : Nat) (x1 : Int32) (x2 : Int32) (σ : Sg) : Option (Int32 × Sg) := bd (f_X9_findsChords x0 σ) fun _ s1 => bd (f_X9_in x1 (0 : Int32) ((gI s1 x0 16) - (1 : Int32)) s1) fun r3 s2 => (if r3 = 0 then f_X9_chord_L37 s2 else bd (f_X9_in x2 (0 : Int32) (6 : Int32) s2) fun r5 s4 => (if r5 = 0 then f_X9_chord_L37 s4 else bd (f_X9_chordBy x0 x1 x2 s4) fun r7 s6 => f_X9_chord_L39 r7 s6))
theorem t_X9_chord_L39 {K : Cx} (h : Ok K cX9_chord RX9 3 rm_X9_chord (some .int)) (hs : kiv K = St)  (y0 : Int32) (σ : Sg)    : T K (QI K) 39 [] [.int y0] 0 0 σ (f_X9_chord_L39 y0 σ) := by
  unfold f_X9_chord_L39
  exact T_ireturn (pc := 39) h (Nat.zero_le _) (Nat.zero_le _) dX9_chord_39
theorem t_X9_chord_L37 {K : Cx} (h : Ok K cX9_chord RX9 3 rm_X9_chord (some .int)) (hs : kiv K = St)   (σ : Sg)    : T K (QI K) 37 [] [] 0 0 σ (f_X9_chord_L37 σ) := by
  unfold f_X9_chord_L37
  refine T_bipush (pc := 37) h dX9_chord_37 kb_m2 ?_
  refine T_sub [] rfl ?_
  exact t_X9_chord_L39 h hs (-2 : Int32) σ
theorem t_X9_chord {K : Cx} (h : Ok K cX9_chord RX9 3 rm_X9_chord (some .int)) (hs : kiv K = St) (x0 : Nat) (x1 : Int32) (x2 : Int32) (σ : Sg) (hk0 : kd x0 9) : T K (QI K) 0 [(0, .ref x0), (1, .int x1), (2, .int x2)] [] 0 0 σ (f_X9_chord x0 x1 x2 σ) := by
  unfold f_X9_chord
  refine T_aload_n (pc := 0) h dX9_chord_0 rfl 0 rfl ?_
  refine T_callVv (pc := 1) h (M_X9_findsChords (kl K) hs x0 σ hk0) mv_X9_findsChords hs hk0 ml_X9_160 rfl ⟨Nat.le_of_ble_eq_true rfl, Nat.le_of_ble_eq_true rfl⟩ ⟨Nat.le_refl 0, Nat.le_refl 0⟩ (Nat.le_of_ble_eq_true rfl) dX9_chord_1 rfl (fun _ s1 => ?_)
  refine T_iload_n (pc := 4) h dX9_chord_4 rfl 1 rfl ?_
  refine T_iconst (pc := 5) h dX9_chord_5 ki_0 ?_
  refine T_aload_n (pc := 6) h dX9_chord_6 rfl 0 rfl ?_
  refine T_getI (pc := 7) h hs hk0 fl_X9_157 rfl dX9_chord_7 ?_
  refine T_iconst (pc := 10) h dX9_chord_10 ki_1 ?_
  refine T_isub (pc := 11) h dX9_chord_11 ?_
  refine T_callSi (pc := 12) h (M_X9_in (kl K) hs x1 (0 : Int32) ((gI s1 x0 16) - (1 : Int32)) s1 ) mst_X9_in ml_X9_115 rfl ⟨Nat.le_of_ble_eq_true rfl, Nat.le_of_ble_eq_true rfl⟩ ⟨Nat.le_refl 0, Nat.le_refl 0⟩ (Nat.le_of_ble_eq_true rfl) dX9_chord_12 rfl (fun r3 s2 => ?_)
  refine T_if_eq (pc := 15) (tgt := 37) h dX9_chord_15 (by decide) ?_ ?_
  · refine T_sub [] rfl ?_
    exact t_X9_chord_L37 h hs s2
  · refine T_iload_n (pc := 18) h dX9_chord_18 rfl 2 rfl ?_
    refine T_iconst (pc := 19) h dX9_chord_19 ki_0 ?_
    refine T_bipush (pc := 20) h dX9_chord_20 kb_6 ?_
    refine T_callSi (pc := 22) h (M_X9_in (kl K) hs x2 (0 : Int32) (6 : Int32) s2 ) mst_X9_in ml_X9_115 rfl ⟨Nat.le_of_ble_eq_true rfl, Nat.le_of_ble_eq_true rfl⟩ ⟨Nat.le_refl 0, Nat.le_refl 0⟩ (Nat.le_of_ble_eq_true rfl) dX9_chord_22 rfl (fun r5 s4 => ?_)
    refine T_if_eq (pc := 25) (tgt := 37) h dX9_chord_25 (by decide) ?_ ?_
    · refine T_sub [] rfl ?_
      exact t_X9_chord_L37 h hs s4
    · refine T_aload_n (pc := 28) h dX9_chord_28 rfl 0 rfl ?_
      refine T_iload_n (pc := 29) h dX9_chord_29 rfl 1 rfl ?_
      refine T_iload_n (pc := 30) h dX9_chord_30 rfl 2 rfl ?_
      refine T_callVi (pc := 31) h (M_X9_chordBy (kl K) hs x0 x1 x2 s4 hk0) mv_X9_chordBy hs hk0 ml_X9_267 rfl ⟨Nat.le_of_ble_eq_true rfl, Nat.le_of_ble_eq_true rfl⟩ ⟨Nat.le_refl 0, Nat.le_refl 0⟩ (Nat.le_of_ble_eq_true rfl) dX9_chord_31 rfl (fun r7 s6 => ?_)
      refine T_goto (pc := 34) (tgt := 39) h dX9_chord_34 (by decide) ?_
      refine T_sub [] rfl ?_
      exact t_X9_chord_L39 h hs r7 s6
theorem M_X9_chord (l : Launch) {iv : Sg → Prop} (hi : iv = St) (x0 : Nat) (x1 : Int32) (x2 : Int32) (σ : Sg) (hk0 : kd x0 9) : CTi l yX9_chord cX9_chord 3 (some .int) rm_X9_chord iv [.ref x0, .int x1, .int x2] σ (f_X9_chord x0 x1 x2 σ) := by
  subst hi
  exact CT_of (by decide) (Nat.le_of_ble_eq_true rfl) (fun K _ h _ hs _ _ => t_X9_chord h hs x0 x1 x2 σ hk0)
/-! LuteTabsModel.without(I)I -/
theorem dX9_without_0 : decode cX9_without 0 = .ok (.aload_n 0, 1) := by decide +kernel
theorem dX9_without_1 : decode cX9_without 1 = .ok (.iload_n 1, 1) := by decide +kernel
theorem dX9_without_2 : decode cX9_without 2 = .ok (.invokevirtual 122, 3) := by decide +kernel
theorem dX9_without_5 : decode cX9_without 5 = .ok (.ifCond .eq 12, 3) := by decide +kernel
theorem dX9_without_8 : decode cX9_without 8 = .ok (.aload_n 0, 1) := by decide +kernel
theorem dX9_without_9 : decode cX9_without 9 = .ok (.iload_n 1, 1) := by decide +kernel
theorem dX9_without_10 : decode cX9_without 10 = .ok (.iconst 0, 1) := by decide +kernel
theorem dX9_without_11 : decode cX9_without 11 = .ok (.invokevirtual 234, 3) := by decide +kernel
theorem dX9_without_14 : decode cX9_without 14 = .ok (.goto 5, 3) := by decide +kernel
theorem dX9_without_17 : decode cX9_without 17 = .ok (.bipush (-2), 2) := by decide +kernel
theorem dX9_without_19 : decode cX9_without 19 = .ok (.ireturn, 1) := by decide +kernel
abbrev rm_X9_without : Room := { frames := 6, cells := 0, slots := 0, locals := 148 }
def f_X9_without_L19   (y0 : Int32) (σ : Sg) : Option (Int32 × Sg) := some (y0, σ)
def f_X9_without (x0 : Nat) (x1 : Int32) (σ : Sg) : Option (Int32 × Sg) := bd (f_X9_isCourse x0 x1 σ) fun r2 s1 => (if r2 = 0 then f_X9_without_L19 (-2 : Int32) s1 else bd (f_X9_leastBy x0 x1 (0 : Int32) s1) fun r4 s3 => f_X9_without_L19 r4 s3)
theorem t_X9_without_L19 {K : Cx} (h : Ok K cX9_without RX9 2 rm_X9_without (some .int)) (hs : kiv K = St)  (y0 : Int32) (σ : Sg)    : T K (QI K) 19 [] [.int y0] 0 0 σ (f_X9_without_L19 y0 σ) := by
  unfold f_X9_without_L19
  exact T_ireturn (pc := 19) h (Nat.zero_le _) (Nat.zero_le _) dX9_without_19
theorem t_X9_without {K : Cx} (h : Ok K cX9_without RX9 2 rm_X9_without (some .int)) (hs : kiv K = St) (x0 : Nat) (x1 : Int32) (σ : Sg) (hk0 : kd x0 9) : T K (QI K) 0 [(0, .ref x0), (1, .int x1)] [] 0 0 σ (f_X9_without x0 x1 σ) := by
  unfold f_X9_without
  refine T_aload_n (pc := 0) h dX9_without_0 rfl 0 rfl ?_
  refine T_iload_n (pc := 1) h dX9_without_1 rfl 1 rfl ?_
  refine T_callVi (pc := 2) h (M_X9_isCourse (kl K) hs x0 x1 σ hk0) mv_X9_isCourse hs hk0 ml_X9_122 rfl ⟨Nat.le_of_ble_eq_true rfl, Nat.le_of_ble_eq_true rfl⟩ ⟨Nat.le_refl 0, Nat.le_refl 0⟩ (Nat.le_of_ble_eq_true rfl) dX9_without_2 rfl (fun r2 s1 => ?_)
  refine T_if_eq (pc := 5) (tgt := 17) h dX9_without_5 (by decide) ?_ ?_
  · refine T_bipush (pc := 17) h dX9_without_17 kb_m2 ?_
    refine T_sub [] rfl ?_
    exact t_X9_without_L19 h hs (-2 : Int32) s1
  · refine T_aload_n (pc := 8) h dX9_without_8 rfl 0 rfl ?_
    refine T_iload_n (pc := 9) h dX9_without_9 rfl 1 rfl ?_
    refine T_iconst (pc := 10) h dX9_without_10 ki_0 ?_
    refine T_callVi (pc := 11) h (M_X9_leastBy (kl K) hs x0 x1 (0 : Int32) s1 hk0) mv_X9_leastBy hs hk0 ml_X9_234 rfl ⟨Nat.le_of_ble_eq_true rfl, Nat.le_of_ble_eq_true rfl⟩ ⟨Nat.le_refl 0, Nat.le_refl 0⟩ (Nat.le_of_ble_eq_true rfl) dX9_without_11 rfl (fun r4 s3 => ?_)
    refine T_goto (pc := 14) (tgt := 19) h dX9_without_14 (by decide) ?_
    refine T_sub [] rfl ?_
    exact t_X9_without_L19 h hs r4 s3
theorem M_X9_without (l : Launch) {iv : Sg → Prop} (hi : iv = St) (x0 : Nat) (x1 : Int32) (σ : Sg) (hk0 : kd x0 9) : CTi l yX9_without cX9_without 2 (some .int) rm_X9_without iv [.ref x0, .int x1] σ (f_X9_without x0 x1 σ) := by
  subst hi
  exact CT_of (by decide) (Nat.le_of_ble_eq_true rfl) (fun K _ h _ hs _ _ => t_X9_without h hs x0 x1 σ hk0)
/-! LuteTabsModel.key(I)I -/
theorem dX9_key_0 : decode cX9_key 0 = .ok (.iload_n 1, 1) := by decide +kernel
theorem dX9_key_1 : decode cX9_key 1 = .ok (.bipush (-12), 2) := by decide +kernel
theorem dX9_key_3 : decode cX9_key 3 = .ok (.bipush 12, 2) := by decide +kernel
theorem dX9_key_5 : decode cX9_key 5 = .ok (.invokestatic 115, 3) := by decide +kernel
theorem dX9_key_8 : decode cX9_key 8 = .ok (.ifCond .eq 12, 3) := by decide +kernel
theorem dX9_key_11 : decode cX9_key 11 = .ok (.aload_n 0, 1) := by decide +kernel
theorem dX9_key_12 : decode cX9_key 12 = .ok (.iconst (-1), 1) := by decide +kernel
theorem dX9_key_13 : decode cX9_key 13 = .ok (.iload_n 1, 1) := by decide +kernel
theorem dX9_key_14 : decode cX9_key 14 = .ok (.invokevirtual 234, 3) := by decide +kernel
theorem dX9_key_17 : decode cX9_key 17 = .ok (.goto 5, 3) := by decide +kernel
theorem dX9_key_20 : decode cX9_key 20 = .ok (.bipush (-2), 2) := by decide +kernel
theorem dX9_key_22 : decode cX9_key 22 = .ok (.ireturn, 1) := by decide +kernel
abbrev rm_X9_key : Room := { frames := 6, cells := 0, slots := 0, locals := 148 }
def f_X9_key_L22   (y0 : Int32) (σ : Sg) : Option (Int32 × Sg) := some (y0, σ)
def f_X9_key (x0 : Nat) (x1 : Int32) (σ : Sg) : Option (Int32 × Sg) := bd (f_X9_in x1 (-12 : Int32) (12 : Int32) σ) fun r2 s1 => (if r2 = 0 then f_X9_key_L22 (-2 : Int32) s1 else bd (f_X9_leastBy x0 (-1 : Int32) x1 s1) fun r4 s3 => f_X9_key_L22 r4 s3)
theorem t_X9_key_L22 {K : Cx} (h : Ok K cX9_key RX9 2 rm_X9_key (some .int)) (hs : kiv K = St)  (y0 : Int32) (σ : Sg)    : T K (QI K) 22 [] [.int y0] 0 0 σ (f_X9_key_L22 y0 σ) := by
  unfold f_X9_key_L22
  exact T_ireturn (pc := 22) h (Nat.zero_le _) (Nat.zero_le _) dX9_key_22
theorem t_X9_key {K : Cx} (h : Ok K cX9_key RX9 2 rm_X9_key (some .int)) (hs : kiv K = St) (x0 : Nat) (x1 : Int32) (σ : Sg) (hk0 : kd x0 9) : T K (QI K) 0 [(0, .ref x0), (1, .int x1)] [] 0 0 σ (f_X9_key x0 x1 σ) := by
  unfold f_X9_key
  refine T_iload_n (pc := 0) h dX9_key_0 rfl 1 rfl ?_
  refine T_bipush (pc := 1) h dX9_key_1 kb_m12 ?_
  refine T_bipush (pc := 3) h dX9_key_3 kb_12 ?_
  refine T_callSi (pc := 5) h (M_X9_in (kl K) hs x1 (-12 : Int32) (12 : Int32) σ ) mst_X9_in ml_X9_115 rfl ⟨Nat.le_of_ble_eq_true rfl, Nat.le_of_ble_eq_true rfl⟩ ⟨Nat.le_refl 0, Nat.le_refl 0⟩ (Nat.le_of_ble_eq_true rfl) dX9_key_5 rfl (fun r2 s1 => ?_)
  refine T_if_eq (pc := 8) (tgt := 20) h dX9_key_8 (by decide) ?_ ?_
  · refine T_bipush (pc := 20) h dX9_key_20 kb_m2 ?_
    refine T_sub [] rfl ?_
    exact t_X9_key_L22 h hs (-2 : Int32) s1
  · refine T_aload_n (pc := 11) h dX9_key_11 rfl 0 rfl ?_
    refine T_iconst (pc := 12) h dX9_key_12 ki_m1 ?_
    refine T_iload_n (pc := 13) h dX9_key_13 rfl 1 rfl ?_
    refine T_callVi (pc := 14) h (M_X9_leastBy (kl K) hs x0 (-1 : Int32) x1 s1 hk0) mv_X9_leastBy hs hk0 ml_X9_234 rfl ⟨Nat.le_of_ble_eq_true rfl, Nat.le_of_ble_eq_true rfl⟩ ⟨Nat.le_refl 0, Nat.le_refl 0⟩ (Nat.le_of_ble_eq_true rfl) dX9_key_14 rfl (fun r4 s3 => ?_)
    refine T_goto (pc := 17) (tgt := 22) h dX9_key_17 (by decide) ?_
    refine T_sub [] rfl ?_
    exact t_X9_key_L22 h hs r4 s3
theorem M_X9_key (l : Launch) {iv : Sg → Prop} (hi : iv = St) (x0 : Nat) (x1 : Int32) (σ : Sg) (hk0 : kd x0 9) : CTi l yX9_key cX9_key 2 (some .int) rm_X9_key iv [.ref x0, .int x1] σ (f_X9_key x0 x1 σ) := by
  subst hi
  exact CT_of (by decide) (Nat.le_of_ble_eq_true rfl) (fun K _ h _ hs _ _ => t_X9_key h hs x0 x1 σ hk0)
/-! LuteTabsModel.easiestOf(I)I -/
theorem dX9_easiestOf_0 : decode cX9_easiestOf 0 = .ok (.iconst (-1), 1) := by decide +kernel
theorem dX9_easiestOf_1 : decode cX9_easiestOf 1 = .ok (.istore_n 2, 1) := by decide +kernel
theorem dX9_easiestOf_2 : decode cX9_easiestOf 2 = .ok (.iconst 0, 1) := by decide +kernel
theorem dX9_easiestOf_3 : decode cX9_easiestOf 3 = .ok (.istore_n 3, 1) := by decide +kernel
theorem dX9_easiestOf_4 : decode cX9_easiestOf 4 = .ok (.iconst 0, 1) := by decide +kernel
theorem dX9_easiestOf_5 : decode cX9_easiestOf 5 = .ok (.istore 4, 2) := by decide +kernel
theorem dX9_easiestOf_7 : decode cX9_easiestOf 7 = .ok (.iload 4, 2) := by decide +kernel
theorem dX9_easiestOf_9 : decode cX9_easiestOf 9 = .ok (.bipush 12, 2) := by decide +kernel
theorem dX9_easiestOf_11 : decode cX9_easiestOf 11 = .ok (.if_icmp .gt 105, 3) := by decide +kernel
theorem dX9_easiestOf_14 : decode cX9_easiestOf 14 = .ok (.iconst 0, 1) := by decide +kernel
theorem dX9_easiestOf_15 : decode cX9_easiestOf 15 = .ok (.istore 5, 2) := by decide +kernel
theorem dX9_easiestOf_17 : decode cX9_easiestOf 17 = .ok (.iload 5, 2) := by decide +kernel
theorem dX9_easiestOf_19 : decode cX9_easiestOf 19 = .ok (.iload 4, 2) := by decide +kernel
theorem dX9_easiestOf_21 : decode cX9_easiestOf 21 = .ok (.ifCond .ne 7, 3) := by decide +kernel
theorem dX9_easiestOf_24 : decode cX9_easiestOf 24 = .ok (.iconst 1, 1) := by decide +kernel
theorem dX9_easiestOf_25 : decode cX9_easiestOf 25 = .ok (.goto 4, 3) := by decide +kernel
theorem dX9_easiestOf_28 : decode cX9_easiestOf 28 = .ok (.iconst 2, 1) := by decide +kernel
theorem dX9_easiestOf_29 : decode cX9_easiestOf 29 = .ok (.if_icmp .ge 81, 3) := by decide +kernel
theorem dX9_easiestOf_32 : decode cX9_easiestOf 32 = .ok (.iload 5, 2) := by decide +kernel
theorem dX9_easiestOf_34 : decode cX9_easiestOf 34 = .ok (.ifCond .ne 9, 3) := by decide +kernel
theorem dX9_easiestOf_37 : decode cX9_easiestOf 37 = .ok (.iload 4, 2) := by decide +kernel
theorem dX9_easiestOf_39 : decode cX9_easiestOf 39 = .ok (.ineg, 1) := by decide +kernel
theorem dX9_easiestOf_40 : decode cX9_easiestOf 40 = .ok (.goto 5, 3) := by decide +kernel
theorem dX9_easiestOf_43 : decode cX9_easiestOf 43 = .ok (.iload 4, 2) := by decide +kernel
theorem dX9_easiestOf_45 : decode cX9_easiestOf 45 = .ok (.istore 6, 2) := by decide +kernel
theorem dX9_easiestOf_47 : decode cX9_easiestOf 47 = .ok (.aload_n 0, 1) := by decide +kernel
theorem dX9_easiestOf_48 : decode cX9_easiestOf 48 = .ok (.iconst (-1), 1) := by decide +kernel
theorem dX9_easiestOf_49 : decode cX9_easiestOf 49 = .ok (.iload 6, 2) := by decide +kernel
theorem dX9_easiestOf_51 : decode cX9_easiestOf 51 = .ok (.invokevirtual 234, 3) := by decide +kernel
theorem dX9_easiestOf_54 : decode cX9_easiestOf 54 = .ok (.istore 7, 2) := by decide +kernel
theorem dX9_easiestOf_56 : decode cX9_easiestOf 56 = .ok (.iload 7, 2) := by decide +kernel
theorem dX9_easiestOf_58 : decode cX9_easiestOf 58 = .ok (.iconst (-1), 1) := by decide +kernel
theorem dX9_easiestOf_59 : decode cX9_easiestOf 59 = .ok (.if_icmp .eq 18, 3) := by decide +kernel
theorem dX9_easiestOf_62 : decode cX9_easiestOf 62 = .ok (.iload_n 2, 1) := by decide +kernel
theorem dX9_easiestOf_63 : decode cX9_easiestOf 63 = .ok (.iconst (-1), 1) := by decide +kernel
theorem dX9_easiestOf_64 : decode cX9_easiestOf 64 = .ok (.if_icmp .eq 9, 3) := by decide +kernel
theorem dX9_easiestOf_67 : decode cX9_easiestOf 67 = .ok (.iload 7, 2) := by decide +kernel
theorem dX9_easiestOf_69 : decode cX9_easiestOf 69 = .ok (.iload_n 2, 1) := by decide +kernel
theorem dX9_easiestOf_70 : decode cX9_easiestOf 70 = .ok (.if_icmp .ge 7, 3) := by decide +kernel
theorem dX9_easiestOf_73 : decode cX9_easiestOf 73 = .ok (.iconst 1, 1) := by decide +kernel
theorem dX9_easiestOf_74 : decode cX9_easiestOf 74 = .ok (.goto 4, 3) := by decide +kernel
theorem dX9_easiestOf_77 : decode cX9_easiestOf 77 = .ok (.iconst 0, 1) := by decide +kernel
theorem dX9_easiestOf_78 : decode cX9_easiestOf 78 = .ok (.istore 8, 2) := by decide +kernel
theorem dX9_easiestOf_80 : decode cX9_easiestOf 80 = .ok (.iload 8, 2) := by decide +kernel
theorem dX9_easiestOf_82 : decode cX9_easiestOf 82 = .ok (.ifCond .eq 8, 3) := by decide +kernel
theorem dX9_easiestOf_85 : decode cX9_easiestOf 85 = .ok (.iload 6, 2) := by decide +kernel
theorem dX9_easiestOf_87 : decode cX9_easiestOf 87 = .ok (.goto 4, 3) := by decide +kernel
theorem dX9_easiestOf_90 : decode cX9_easiestOf 90 = .ok (.iload_n 3, 1) := by decide +kernel
theorem dX9_easiestOf_91 : decode cX9_easiestOf 91 = .ok (.istore_n 3, 1) := by decide +kernel
theorem dX9_easiestOf_92 : decode cX9_easiestOf 92 = .ok (.iload 8, 2) := by decide +kernel
theorem dX9_easiestOf_94 : decode cX9_easiestOf 94 = .ok (.ifCond .eq 8, 3) := by decide +kernel
theorem dX9_easiestOf_97 : decode cX9_easiestOf 97 = .ok (.iload 7, 2) := by decide +kernel
theorem dX9_easiestOf_99 : decode cX9_easiestOf 99 = .ok (.goto 4, 3) := by decide +kernel
theorem dX9_easiestOf_102 : decode cX9_easiestOf 102 = .ok (.iload_n 2, 1) := by decide +kernel
theorem dX9_easiestOf_103 : decode cX9_easiestOf 103 = .ok (.istore_n 2, 1) := by decide +kernel
theorem dX9_easiestOf_104 : decode cX9_easiestOf 104 = .ok (.iinc 5 1, 3) := by decide +kernel
theorem dX9_easiestOf_107 : decode cX9_easiestOf 107 = .ok (.goto (-90), 3) := by decide +kernel
theorem dX9_easiestOf_110 : decode cX9_easiestOf 110 = .ok (.iinc 4 1, 3) := by decide +kernel
theorem dX9_easiestOf_113 : decode cX9_easiestOf 113 = .ok (.goto (-106), 3) := by decide +kernel
theorem dX9_easiestOf_116 : decode cX9_easiestOf 116 = .ok (.iload_n 2, 1) := by decide +kernel
theorem dX9_easiestOf_117 : decode cX9_easiestOf 117 = .ok (.iconst (-1), 1) := by decide +kernel
theorem dX9_easiestOf_118 : decode cX9_easiestOf 118 = .ok (.if_icmp .ne 9, 3) := by decide +kernel
theorem dX9_easiestOf_121 : decode cX9_easiestOf 121 = .ok (.ldc_w 270, 3) := by decide +kernel
theorem dX9_easiestOf_124 : decode cX9_easiestOf 124 = .ok (.goto 12, 3) := by decide +kernel
theorem dX9_easiestOf_127 : decode cX9_easiestOf 127 = .ok (.iload_n 1, 1) := by decide +kernel
theorem dX9_easiestOf_128 : decode cX9_easiestOf 128 = .ok (.ifCond .ne 7, 3) := by decide +kernel
theorem dX9_easiestOf_131 : decode cX9_easiestOf 131 = .ok (.iload_n 3, 1) := by decide +kernel
theorem dX9_easiestOf_132 : decode cX9_easiestOf 132 = .ok (.goto 4, 3) := by decide +kernel
theorem dX9_easiestOf_135 : decode cX9_easiestOf 135 = .ok (.iload_n 2, 1) := by decide +kernel
theorem dX9_easiestOf_136 : decode cX9_easiestOf 136 = .ok (.ireturn, 1) := by decide +kernel
abbrev rm_X9_easiestOf : Room := { frames := 6, cells := 0, slots := 0, locals := 148 }
def f_X9_easiestOf_L103 (rec7 : Int32 × Int32 × Int32 × Sg → Option (Int32 × Sg)) (rec17 : Int32 × Int32 × Int32 × Sg → Option (Int32 × Sg)) (x0 : Nat) (x1 : Int32) (x3 : Int32) (x4 : Int32) (x5 : Int32) (y0 : Int32) (σ : Sg) : Option (Int32 × Sg) := lB (x5 + (1 : Int32)) fun v1 => rec17 (y0, x3, v1, σ)
def f_X9_easiestOf_L91 (rec7 : Int32 × Int32 × Int32 × Sg → Option (Int32 × Sg)) (rec17 : Int32 × Int32 × Int32 × Sg → Option (Int32 × Sg)) (x0 : Nat) (x1 : Int32) (x2 : Int32) (x4 : Int32) (x5 : Int32) (x7 : Int32) (x8 : Int32) (y0 : Int32) (σ : Sg) : Option (Int32 × Sg) := (if x8 = 0 then f_X9_easiestOf_L103 rec7 rec17 x0 x1 y0 x4 x5 x2 σ else f_X9_easiestOf_L103 rec7 rec17 x0 x1 y0 x4 x5 x7 σ)
def f_X9_easiestOf_L78 (rec7 : Int32 × Int32 × Int32 × Sg → Option (Int32 × Sg)) (rec17 : Int32 × Int32 × Int32 × Sg → Option (Int32 × Sg)) (x0 : Nat) (x1 : Int32) (x2 : Int32) (x3 : Int32) (x4 : Int32) (x5 : Int32) (x6 : Int32) (x7 : Int32) (y0 : Int32) (σ : Sg) : Option (Int32 × Sg) := (if y0 = 0 then f_X9_easiestOf_L91 rec7 rec17 x0 x1 x2 x4 x5 x7 y0 x3 σ else f_X9_easiestOf_L91 rec7 rec17 x0 x1 x2 x4 x5 x7 y0 x6 σ)
def f_X9_easiestOf_L73 (rec7 : Int32 × Int32 × Int32 × Sg → Option (Int32 × Sg)) (rec17 : Int32 × Int32 × Int32 × Sg → Option (Int32 × Sg)) (x0 : Nat) (x1 : Int32) (x2 : Int32) (x3 : Int32) (x4 : Int32) (x5 : Int32) (x6 : Int32) (x7 : Int32)  (σ : Sg) : Option (Int32 × Sg) := f_X9_easiestOf_L78 rec7 rec17 x0 x1 x2 x3 x4 x5 x6 x7 (1 : Int32) σ
def f_X9_easiestOf_L77 (rec7 : Int32 × Int32 × Int32 × Sg → Option (Int32 × Sg)) (rec17 : Int32 × Int32 × Int32 × Sg → Option (Int32 × Sg)) (x0 : Nat) (x1 : Int32) (x2 : Int32) (x3 : Int32) (x4 : Int32) (x5 : Int32) (x6 : Int32) (x7 : Int32)  (σ : Sg) : Option (Int32 × Sg) := f_X9_easiestOf_L78 rec7 rec17 x0 x1 x2 x3 x4 x5 x6 x7 (0 : Int32) σ
def f_X9_easiestOf_L45 (rec7 : Int32 × Int32 × Int32 × Sg → Option (Int32 × Sg)) (rec17 : Int32 × Int32 × Int32 × Sg → Option (Int32 × Sg)) (x0 : Nat) (x1 : Int32) (x2 : Int32) (x3 : Int32) (x4 : Int32) (x5 : Int32) (y0 : Int32) (σ : Sg) : Option (Int32 × Sg) := bd (f_X9_leastBy x0 (-1 : Int32) y0 σ) fun r2 s1 => (if r2 = (-1 : Int32) then f_X9_easiestOf_L77 rec7 rec17 x0 x1 x2 x3 x4 x5 y0 r2 s1 else (if x2 = (-1 : Int32) then f_X9_easiestOf_L73 rec7 rec17 x0 x1 x2 x3 x4 x5 y0 r2 s1 else (if x2 ≤ r2 then f_X9_easiestOf_L77 rec7 rec17 x0 x1 x2 x3 x4 x5 y0 r2 s1 else f_X9_easiestOf_L73 rec7 rec17 x0 x1 x2 x3 x4 x5 y0 r2 s1)))
def f_X9_easiestOf_L29 (rec7 : Int32 × Int32 × Int32 × Sg → Option (Int32 × Sg)) (rec17 : Int32 × Int32 × Int32 × Sg → Option (Int32 × Sg)) (x0 : Nat) (x1 : Int32) (x2 : Int32) (x3 : Int32) (x4 : Int32) (x5 : Int32) (y0 : Int32) (y1 : Int32) (σ : Sg) : Option (Int32 × Sg) := (if y1 ≤ y0 then lB (x4 + (1 : Int32)) fun v1 => rec7 (x2, x3, v1, σ) else (if x5 = 0 then f_X9_easiestOf_L45 rec7 rec17 x0 x1 x2 x3 x4 x5 (-x4) σ else f_X9_easiestOf_L45 rec7 rec17 x0 x1 x2 x3 x4 x5 x4 σ))
def f_X9_easiestOf_L17 (rec7 : Int32 × Int32 × Int32 × Sg → Option (Int32 × Sg)) (x0 : Nat) (x1 : Int32) (x4 : Int32) (rec17 : Int32 × Int32 × Int32 × Sg → Option (Int32 × Sg)) (s : Int32 × Int32 × Int32 × Sg) : Option (Int32 × Sg) := (if x4 = 0 then f_X9_easiestOf_L29 rec7 rec17 x0 x1 (s.1) (s.2.1) x4 (s.2.2.1) (s.2.2.1) (1 : Int32) (s.2.2.2) else f_X9_easiestOf_L29 rec7 rec17 x0 x1 (s.1) (s.2.1) x4 (s.2.2.1) (s.2.2.1) (2 : Int32) (s.2.2.2))
def f_X9_easiestOf_L136   (y0 : Int32) (σ : Sg) : Option (Int32 × Sg) := some (y0, σ)
def f_X9_easiestOf_L7  (x0 : Nat) (x1 : Int32) (rec7 : Int32 × Int32 × Int32 × Sg → Option (Int32 × Sg)) (s : Int32 × Int32 × Int32 × Sg) : Option (Int32 × Sg) := (if (12 : Int32) < (s.2.2.1) then (if (s.1) = (-1 : Int32) then f_X9_easiestOf_L136 (-2147483648 : Int32) (s.2.2.2) else (if x1 = 0 then f_X9_easiestOf_L136 (s.2.1) (s.2.2.2) else f_X9_easiestOf_L136 (s.1) (s.2.2.2))) else fx (f_X9_easiestOf_L17 rec7 x0 x1 (s.2.2.1)) FU ((s.1), (s.2.1), (0 : Int32), (s.2.2.2)))
def f_X9_easiestOf (x0 : Nat) (x1 : Int32) (σ : Sg) : Option (Int32 × Sg) := fx (f_X9_easiestOf_L7 x0 x1) FU ((-1 : Int32), (0 : Int32), (0 : Int32), σ)
theorem t_X9_easiestOf_L103 {K : Cx} (h : Ok K cX9_easiestOf RX9 9 rm_X9_easiestOf (some .int)) (hs : kiv K = St) (x0 : Nat) (x1 : Int32) (x3 : Int32) (x4 : Int32) (x5 : Int32) (y0 : Int32) (σ : Sg) (rec7 : Int32 × Int32 × Int32 × Sg → Option (Int32 × Sg)) (hr7 : ∀ u, T K (QI K) 7 [(0, .ref x0), (1, .int x1), (2, .int (u.1)), (3, .int (u.2.1)), (4, .int (u.2.2.1))] [] 0 0 (u.2.2.2) (rec7 u)) (rec17 : Int32 × Int32 × Int32 × Sg → Option (Int32 × Sg)) (hr17 : ∀ u, T K (QI K) 17 [(0, .ref x0), (1, .int x1), (2, .int (u.1)), (3, .int (u.2.1)), (4, .int x4), (5, .int (u.2.2.1))] [] 0 0 (u.2.2.2) (rec17 u)) (hk0 : kd x0 9)  : T K (QI K) 103 [(0, .ref x0), (1, .int x1), (3, .int x3), (4, .int x4), (5, .int x5)] [.int y0] 0 0 σ (f_X9_easiestOf_L103 rec7 rec17 x0 x1 x3 x4 x5 y0 σ) := by
  unfold f_X9_easiestOf_L103
  refine T_istore_n (lv' := [(2, .int y0), (0, .ref x0), (1, .int x1), (3, .int x3), (4, .int x4), (5, .int x5)]) (pc := 103) h dX9_easiestOf_103 rfl (by decide) rfl ?_
  refine T_iinc (fl := fun v1 => [(5, .int v1), (2, .int y0), (0, .ref x0), (1, .int x1), (3, .int x3), (4, .int x4)]) (pc := 104) h dX9_easiestOf_104 5 rfl ki_1 (by decide) (fun _ => rfl) (fun v1 => ?_)
  refine T_goto (pc := 107) (tgt := 17) h dX9_easiestOf_107 (by decide) ?_
  refine T_sub [2, 3, 1, 4, 5, 0] rfl ?_
  exact hr17 (y0, x3, v1, σ)
theorem t_X9_easiestOf_L91 {K : Cx} (h : Ok K cX9_easiestOf RX9 9 rm_X9_easiestOf (some .int)) (hs : kiv K = St) (x0 : Nat) (x1 : Int32) (x2 : Int32) (x4 : Int32) (x5 : Int32) (x7 : Int32) (x8 : Int32) (y0 : Int32) (σ : Sg) (rec7 : Int32 × Int32 × Int32 × Sg → Option (Int32 × Sg)) (hr7 : ∀ u, T K (QI K) 7 [(0, .ref x0), (1, .int x1), (2, .int (u.1)), (3, .int (u.2.1)), (4, .int (u.2.2.1))] [] 0 0 (u.2.2.2) (rec7 u)) (rec17 : Int32 × Int32 × Int32 × Sg → Option (Int32 × Sg)) (hr17 : ∀ u, T K (QI K) 17 [(0, .ref x0), (1, .int x1), (2, .int (u.1)), (3, .int (u.2.1)), (4, .int x4), (5, .int (u.2.2.1))] [] 0 0 (u.2.2.2) (rec17 u)) (hk0 : kd x0 9)  : T K (QI K) 91 [(0, .ref x0), (1, .int x1), (2, .int x2), (4, .int x4), (5, .int x5), (7, .int x7), (8, .int x8)] [.int y0] 0 0 σ (f_X9_easiestOf_L91 rec7 rec17 x0 x1 x2 x4 x5 x7 x8 y0 σ) := by
  unfold f_X9_easiestOf_L91
  refine T_istore_n (lv' := [(3, .int y0), (0, .ref x0), (1, .int x1), (2, .int x2), (4, .int x4), (5, .int x5), (7, .int x7), (8, .int x8)]) (pc := 91) h dX9_easiestOf_91 rfl (by decide) rfl ?_
  refine T_iload (pc := 92) h dX9_easiestOf_92 7 rfl ?_
  refine T_if_eq (pc := 94) (tgt := 102) h dX9_easiestOf_94 (by decide) ?_ ?_
  · refine T_iload_n (pc := 102) h dX9_easiestOf_102 rfl 3 rfl ?_
    refine T_sub [1, 2, 0, 4, 5] rfl ?_
    exact t_X9_easiestOf_L103 h hs x0 x1 y0 x4 x5 x2 σ rec7 hr7 rec17 hr17 hk0
  · refine T_iload (pc := 97) h dX9_easiestOf_97 6 rfl ?_
    refine T_goto (pc := 99) (tgt := 103) h dX9_easiestOf_99 (by decide) ?_
    refine T_sub [1, 2, 0, 4, 5] rfl ?_
    exact t_X9_easiestOf_L103 h hs x0 x1 y0 x4 x5 x7 σ rec7 hr7 rec17 hr17 hk0
theorem t_X9_easiestOf_L78 {K : Cx} (h : Ok K cX9_easiestOf RX9 9 rm_X9_easiestOf (some .int)) (hs : kiv K = St) (x0 : Nat) (x1 : Int32) (x2 : Int32) (x3 : Int32) (x4 : Int32) (x5 : Int32) (x6 : Int32) (x7 : Int32) (y0 : Int32) (σ : Sg) (rec7 : Int32 × Int32 × Int32 × Sg → Option (Int32 × Sg)) (hr7 : ∀ u, T K (QI K) 7 [(0, .ref x0), (1, .int x1), (2, .int (u.1)), (3, .int (u.2.1)), (4, .int (u.2.2.1))] [] 0 0 (u.2.2.2) (rec7 u)) (rec17 : Int32 × Int32 × Int32 × Sg → Option (Int32 × Sg)) (hr17 : ∀ u, T K (QI K) 17 [(0, .ref x0), (1, .int x1), (2, .int (u.1)), (3, .int (u.2.1)), (4, .int x4), (5, .int (u.2.2.1))] [] 0 0 (u.2.2.2) (rec17 u)) (hk0 : kd x0 9)  : T K (QI K) 78 [(0, .ref x0), (1, .int x1), (2, .int x2), (3, .int x3), (4, .int x4), (5, .int x5), (6, .int x6), (7, .int x7)] [.int y0] 0 0 σ (f_X9_easiestOf_L78 rec7 rec17 x0 x1 x2 x3 x4 x5 x6 x7 y0 σ) := by
  unfold f_X9_easiestOf_L78
  refine T_istore (lv' := [(8, .int y0), (0, .ref x0), (1, .int x1), (2, .int x2), (3, .int x3), (4, .int x4), (5, .int x5), (6, .int x6), (7, .int x7)]) (pc := 78) h dX9_easiestOf_78 (by decide) rfl ?_
  refine T_iload (pc := 80) h dX9_easiestOf_80 0 rfl ?_
  refine T_if_eq (pc := 82) (tgt := 90) h dX9_easiestOf_82 (by decide) ?_ ?_
  · refine T_iload_n (pc := 90) h dX9_easiestOf_90 rfl 4 rfl ?_
    refine T_sub [1, 2, 3, 5, 6, 8, 0] rfl ?_
    exact t_X9_easiestOf_L91 h hs x0 x1 x2 x4 x5 x7 y0 x3 σ rec7 hr7 rec17 hr17 hk0
  · refine T_iload (pc := 85) h dX9_easiestOf_85 7 rfl ?_
    refine T_goto (pc := 87) (tgt := 91) h dX9_easiestOf_87 (by decide) ?_
    refine T_sub [1, 2, 3, 5, 6, 8, 0] rfl ?_
    exact t_X9_easiestOf_L91 h hs x0 x1 x2 x4 x5 x7 y0 x6 σ rec7 hr7 rec17 hr17 hk0
theorem t_X9_easiestOf_L73 {K : Cx} (h : Ok K cX9_easiestOf RX9 9 rm_X9_easiestOf (some .int)) (hs : kiv K = St) (x0 : Nat) (x1 : Int32) (x2 : Int32) (x3 : Int32) (x4 : Int32) (x5 : Int32) (x6 : Int32) (x7 : Int32)  (σ : Sg) (rec7 : Int32 × Int32 × Int32 × Sg → Option (Int32 × Sg)) (hr7 : ∀ u, T K (QI K) 7 [(0, .ref x0), (1, .int x1), (2, .int (u.1)), (3, .int (u.2.1)), (4, .int (u.2.2.1))] [] 0 0 (u.2.2.2) (rec7 u)) (rec17 : Int32 × Int32 × Int32 × Sg → Option (Int32 × Sg)) (hr17 : ∀ u, T K (QI K) 17 [(0, .ref x0), (1, .int x1), (2, .int (u.1)), (3, .int (u.2.1)), (4, .int x4), (5, .int (u.2.2.1))] [] 0 0 (u.2.2.2) (rec17 u)) (hk0 : kd x0 9)  : T K (QI K) 73 [(0, .ref x0), (1, .int x1), (2, .int x2), (3, .int x3), (4, .int x4), (5, .int x5), (6, .int x6), (7, .int x7)] [] 0 0 σ (f_X9_easiestOf_L73 rec7 rec17 x0 x1 x2 x3 x4 x5 x6 x7 σ) := by
  unfold f_X9_easiestOf_L73
  refine T_iconst (pc := 73) h dX9_easiestOf_73 ki_1 ?_
  refine T_goto (pc := 74) (tgt := 78) h dX9_easiestOf_74 (by decide) ?_
  refine T_sub [0, 1, 2, 3, 4, 5, 6, 7] rfl ?_
  exact t_X9_easiestOf_L78 h hs x0 x1 x2 x3 x4 x5 x6 x7 (1 : Int32) σ rec7 hr7 rec17 hr17 hk0
theorem t_X9_easiestOf_L77 {K : Cx} (h : Ok K cX9_easiestOf RX9 9 rm_X9_easiestOf (some .int)) (hs : kiv K = St) (x0 : Nat) (x1 : Int32) (x2 : Int32) (x3 : Int32) (x4 : Int32) (x5 : Int32) (x6 : Int32) (x7 : Int32)  (σ : Sg) (rec7 : Int32 × Int32 × Int32 × Sg → Option (Int32 × Sg)) (hr7 : ∀ u, T K (QI K) 7 [(0, .ref x0), (1, .int x1), (2, .int (u.1)), (3, .int (u.2.1)), (4, .int (u.2.2.1))] [] 0 0 (u.2.2.2) (rec7 u)) (rec17 : Int32 × Int32 × Int32 × Sg → Option (Int32 × Sg)) (hr17 : ∀ u, T K (QI K) 17 [(0, .ref x0), (1, .int x1), (2, .int (u.1)), (3, .int (u.2.1)), (4, .int x4), (5, .int (u.2.2.1))] [] 0 0 (u.2.2.2) (rec17 u)) (hk0 : kd x0 9)  : T K (QI K) 77 [(0, .ref x0), (1, .int x1), (2, .int x2), (3, .int x3), (4, .int x4), (5, .int x5), (6, .int x6), (7, .int x7)] [] 0 0 σ (f_X9_easiestOf_L77 rec7 rec17 x0 x1 x2 x3 x4 x5 x6 x7 σ) := by
  unfold f_X9_easiestOf_L77
  refine T_iconst (pc := 77) h dX9_easiestOf_77 ki_0 ?_
  refine T_sub [0, 1, 2, 3, 4, 5, 6, 7] rfl ?_
  exact t_X9_easiestOf_L78 h hs x0 x1 x2 x3 x4 x5 x6 x7 (0 : Int32) σ rec7 hr7 rec17 hr17 hk0
theorem t_X9_easiestOf_L45 {K : Cx} (h : Ok K cX9_easiestOf RX9 9 rm_X9_easiestOf (some .int)) (hs : kiv K = St) (x0 : Nat) (x1 : Int32) (x2 : Int32) (x3 : Int32) (x4 : Int32) (x5 : Int32) (y0 : Int32) (σ : Sg) (rec7 : Int32 × Int32 × Int32 × Sg → Option (Int32 × Sg)) (hr7 : ∀ u, T K (QI K) 7 [(0, .ref x0), (1, .int x1), (2, .int (u.1)), (3, .int (u.2.1)), (4, .int (u.2.2.1))] [] 0 0 (u.2.2.2) (rec7 u)) (rec17 : Int32 × Int32 × Int32 × Sg → Option (Int32 × Sg)) (hr17 : ∀ u, T K (QI K) 17 [(0, .ref x0), (1, .int x1), (2, .int (u.1)), (3, .int (u.2.1)), (4, .int x4), (5, .int (u.2.2.1))] [] 0 0 (u.2.2.2) (rec17 u)) (hk0 : kd x0 9)  : T K (QI K) 45 [(0, .ref x0), (1, .int x1), (2, .int x2), (3, .int x3), (4, .int x4), (5, .int x5)] [.int y0] 0 0 σ (f_X9_easiestOf_L45 rec7 rec17 x0 x1 x2 x3 x4 x5 y0 σ) := by
  unfold f_X9_easiestOf_L45
  refine T_istore (lv' := [(6, .int y0), (0, .ref x0), (1, .int x1), (2, .int x2), (3, .int x3), (4, .int x4), (5, .int x5)]) (pc := 45) h dX9_easiestOf_45 (by decide) rfl ?_
  refine T_aload_n (pc := 47) h dX9_easiestOf_47 rfl 1 rfl ?_
  refine T_iconst (pc := 48) h dX9_easiestOf_48 ki_m1 ?_
  refine T_iload (pc := 49) h dX9_easiestOf_49 0 rfl ?_
  refine T_callVi (pc := 51) h (M_X9_leastBy (kl K) hs x0 (-1 : Int32) y0 σ hk0) mv_X9_leastBy hs hk0 ml_X9_234 rfl ⟨Nat.le_of_ble_eq_true rfl, Nat.le_of_ble_eq_true rfl⟩ ⟨Nat.le_refl 0, Nat.le_refl 0⟩ (Nat.le_of_ble_eq_true rfl) dX9_easiestOf_51 rfl (fun r2 s1 => ?_)
  refine T_istore (lv' := [(7, .int r2), (6, .int y0), (0, .ref x0), (1, .int x1), (2, .int x2), (3, .int x3), (4, .int x4), (5, .int x5)]) (pc := 54) h dX9_easiestOf_54 (by decide) rfl ?_
  refine T_iload (pc := 56) h dX9_easiestOf_56 0 rfl ?_
  refine T_iconst (pc := 58) h dX9_easiestOf_58 ki_m1 ?_
  refine T_icmp_eq (pc := 59) (tgt := 77) h dX9_easiestOf_59 (by decide) ?_ ?_
  · refine T_sub [2, 3, 4, 5, 6, 7, 1, 0] rfl ?_
    exact t_X9_easiestOf_L77 h hs x0 x1 x2 x3 x4 x5 y0 r2 s1 rec7 hr7 rec17 hr17 hk0
  · refine T_iload_n (pc := 62) h dX9_easiestOf_62 rfl 4 rfl ?_
    refine T_iconst (pc := 63) h dX9_easiestOf_63 ki_m1 ?_
    refine T_icmp_eq (pc := 64) (tgt := 73) h dX9_easiestOf_64 (by decide) ?_ ?_
    · refine T_sub [2, 3, 4, 5, 6, 7, 1, 0] rfl ?_
      exact t_X9_easiestOf_L73 h hs x0 x1 x2 x3 x4 x5 y0 r2 s1 rec7 hr7 rec17 hr17 hk0
    · refine T_iload (pc := 67) h dX9_easiestOf_67 0 rfl ?_
      refine T_iload_n (pc := 69) h dX9_easiestOf_69 rfl 4 rfl ?_
      refine T_icmp_ge (pc := 70) (tgt := 77) h dX9_easiestOf_70 (by decide) ?_ ?_
      · refine T_sub [2, 3, 4, 5, 6, 7, 1, 0] rfl ?_
        exact t_X9_easiestOf_L77 h hs x0 x1 x2 x3 x4 x5 y0 r2 s1 rec7 hr7 rec17 hr17 hk0
      · refine T_sub [2, 3, 4, 5, 6, 7, 1, 0] rfl ?_
        exact t_X9_easiestOf_L73 h hs x0 x1 x2 x3 x4 x5 y0 r2 s1 rec7 hr7 rec17 hr17 hk0
theorem t_X9_easiestOf_L29 {K : Cx} (h : Ok K cX9_easiestOf RX9 9 rm_X9_easiestOf (some .int)) (hs : kiv K = St) (x0 : Nat) (x1 : Int32) (x2 : Int32) (x3 : Int32) (x4 : Int32) (x5 : Int32) (y0 : Int32) (y1 : Int32) (σ : Sg) (rec7 : Int32 × Int32 × Int32 × Sg → Option (Int32 × Sg)) (hr7 : ∀ u, T K (QI K) 7 [(0, .ref x0), (1, .int x1), (2, .int (u.1)), (3, .int (u.2.1)), (4, .int (u.2.2.1))] [] 0 0 (u.2.2.2) (rec7 u)) (rec17 : Int32 × Int32 × Int32 × Sg → Option (Int32 × Sg)) (hr17 : ∀ u, T K (QI K) 17 [(0, .ref x0), (1, .int x1), (2, .int (u.1)), (3, .int (u.2.1)), (4, .int x4), (5, .int (u.2.2.1))] [] 0 0 (u.2.2.2) (rec17 u)) (hk0 : kd x0 9)  : T K (QI K) 29 [(0, .ref x0), (1, .int x1), (2, .int x2), (3, .int x3), (4, .int x4), (5, .int x5)] [.int y1, .int y0] 0 0 σ (f_X9_easiestOf_L29 rec7 rec17 x0 x1 x2 x3 x4 x5 y0 y1 σ) := by
  unfold f_X9_easiestOf_L29
  refine T_icmp_ge (pc := 29) (tgt := 110) h dX9_easiestOf_29 (by decide) ?_ ?_
  · refine T_iinc (fl := fun v1 => [(4, .int v1), (0, .ref x0), (1, .int x1), (2, .int x2), (3, .int x3), (5, .int x5)]) (pc := 110) h dX9_easiestOf_110 4 rfl ki_1 (by decide) (fun _ => rfl) (fun v1 => ?_)
    refine T_goto (pc := 113) (tgt := 7) h dX9_easiestOf_113 (by decide) ?_
    refine T_sub [1, 2, 3, 4, 0] rfl ?_
    exact hr7 (x2, x3, v1, σ)
  · refine T_iload (pc := 32) h dX9_easiestOf_32 5 rfl ?_
    refine T_if_ne (pc := 34) (tgt := 43) h dX9_easiestOf_34 (by decide) ?_ ?_
    · refine T_iload (pc := 43) h dX9_easiestOf_43 4 rfl ?_
      refine T_sub [0, 1, 2, 3, 4, 5] rfl ?_
      exact t_X9_easiestOf_L45 h hs x0 x1 x2 x3 x4 x5 x4 σ rec7 hr7 rec17 hr17 hk0
    · refine T_iload (pc := 37) h dX9_easiestOf_37 4 rfl ?_
      refine T_ineg (pc := 39) h dX9_easiestOf_39 ?_
      refine T_goto (pc := 40) (tgt := 45) h dX9_easiestOf_40 (by decide) ?_
      refine T_sub [0, 1, 2, 3, 4, 5] rfl ?_
      exact t_X9_easiestOf_L45 h hs x0 x1 x2 x3 x4 x5 (-x4) σ rec7 hr7 rec17 hr17 hk0
theorem t_X9_easiestOf_L17 {K : Cx} (h : Ok K cX9_easiestOf RX9 9 rm_X9_easiestOf (some .int)) (hs : kiv K = St) (x0 : Nat) (x1 : Int32) (x4 : Int32) (rec7 : Int32 × Int32 × Int32 × Sg → Option (Int32 × Sg)) (hr7 : ∀ u, T K (QI K) 7 [(0, .ref x0), (1, .int x1), (2, .int (u.1)), (3, .int (u.2.1)), (4, .int (u.2.2.1))] [] 0 0 (u.2.2.2) (rec7 u)) (hk0 : kd x0 9) (rec17 : Int32 × Int32 × Int32 × Sg → Option (Int32 × Sg)) (hr17 : ∀ u, T K (QI K) 17 [(0, .ref x0), (1, .int x1), (2, .int (u.1)), (3, .int (u.2.1)), (4, .int x4), (5, .int (u.2.2.1))] [] 0 0 (u.2.2.2) (rec17 u)) (s : Int32 × Int32 × Int32 × Sg) : T K (QI K) 17 [(0, .ref x0), (1, .int x1), (2, .int (s.1)), (3, .int (s.2.1)), (4, .int x4), (5, .int (s.2.2.1))] [] 0 0 (s.2.2.2) (f_X9_easiestOf_L17 rec7 x0 x1 x4 rec17 s) := by
  unfold f_X9_easiestOf_L17
  refine T_iload (pc := 17) h dX9_easiestOf_17 5 rfl ?_
  refine T_iload (pc := 19) h dX9_easiestOf_19 4 rfl ?_
  refine T_if_ne (pc := 21) (tgt := 28) h dX9_easiestOf_21 (by decide) ?_ ?_
  · refine T_iconst (pc := 28) h dX9_easiestOf_28 ki_2 ?_
    refine T_sub [0, 1, 2, 3, 4, 5] rfl ?_
    exact t_X9_easiestOf_L29 h hs x0 x1 (s.1) (s.2.1) x4 (s.2.2.1) (s.2.2.1) (2 : Int32) (s.2.2.2) rec7 hr7 rec17 hr17 hk0
  · refine T_iconst (pc := 24) h dX9_easiestOf_24 ki_1 ?_
    refine T_goto (pc := 25) (tgt := 29) h dX9_easiestOf_25 (by decide) ?_
    refine T_sub [0, 1, 2, 3, 4, 5] rfl ?_
    exact t_X9_easiestOf_L29 h hs x0 x1 (s.1) (s.2.1) x4 (s.2.2.1) (s.2.2.1) (1 : Int32) (s.2.2.2) rec7 hr7 rec17 hr17 hk0
theorem t_X9_easiestOf_L136 {K : Cx} (h : Ok K cX9_easiestOf RX9 9 rm_X9_easiestOf (some .int)) (hs : kiv K = St)  (y0 : Int32) (σ : Sg)    : T K (QI K) 136 [] [.int y0] 0 0 σ (f_X9_easiestOf_L136 y0 σ) := by
  unfold f_X9_easiestOf_L136
  exact T_ireturn (pc := 136) h (Nat.zero_le _) (Nat.zero_le _) dX9_easiestOf_136
theorem t_X9_easiestOf_L7 {K : Cx} (h : Ok K cX9_easiestOf RX9 9 rm_X9_easiestOf (some .int)) (hs : kiv K = St) (x0 : Nat) (x1 : Int32)  (hk0 : kd x0 9) (rec7 : Int32 × Int32 × Int32 × Sg → Option (Int32 × Sg)) (hr7 : ∀ u, T K (QI K) 7 [(0, .ref x0), (1, .int x1), (2, .int (u.1)), (3, .int (u.2.1)), (4, .int (u.2.2.1))] [] 0 0 (u.2.2.2) (rec7 u)) (s : Int32 × Int32 × Int32 × Sg) : T K (QI K) 7 [(0, .ref x0), (1, .int x1), (2, .int (s.1)), (3, .int (s.2.1)), (4, .int (s.2.2.1))] [] 0 0 (s.2.2.2) (f_X9_easiestOf_L7 x0 x1 rec7 s) := by
  unfold f_X9_easiestOf_L7
  refine T_iload (pc := 7) h dX9_easiestOf_7 4 rfl ?_
  refine T_bipush (pc := 9) h dX9_easiestOf_9 kb_12 ?_
  refine T_icmp_gt (pc := 11) (tgt := 116) h dX9_easiestOf_11 (by decide) ?_ ?_
  · refine T_iload_n (pc := 116) h dX9_easiestOf_116 rfl 2 rfl ?_
    refine T_iconst (pc := 117) h dX9_easiestOf_117 ki_m1 ?_
    refine T_icmp_ne (pc := 118) (tgt := 127) h dX9_easiestOf_118 (by decide) ?_ ?_
    · refine T_iload_n (pc := 127) h dX9_easiestOf_127 rfl 1 rfl ?_
      refine T_if_ne (pc := 128) (tgt := 135) h dX9_easiestOf_128 (by decide) ?_ ?_
      · refine T_iload_n (pc := 135) h dX9_easiestOf_135 rfl 2 rfl ?_
        refine T_sub [] rfl ?_
        exact t_X9_easiestOf_L136 h hs (s.1) (s.2.2.2)
      · refine T_iload_n (pc := 131) h dX9_easiestOf_131 rfl 3 rfl ?_
        refine T_goto (pc := 132) (tgt := 136) h dX9_easiestOf_132 (by decide) ?_
        refine T_sub [] rfl ?_
        exact t_X9_easiestOf_L136 h hs (s.2.1) (s.2.2.2)
    · refine T_ldcw (pc := 121) h kc_X9_270 dX9_easiestOf_121 ?_
      refine T_goto (pc := 124) (tgt := 136) h dX9_easiestOf_124 (by decide) ?_
      refine T_sub [] rfl ?_
      exact t_X9_easiestOf_L136 h hs (-2147483648 : Int32) (s.2.2.2)
  · refine T_iconst (pc := 14) h dX9_easiestOf_14 ki_0 ?_
    refine T_istore (lv' := [(5, .int (0 : Int32)), (0, .ref x0), (1, .int x1), (2, .int (s.1)), (3, .int (s.2.1)), (4, .int (s.2.2.1))]) (pc := 15) h dX9_easiestOf_15 (by decide) rfl ?_
    refine T_sub [1, 2, 3, 4, 5, 0] rfl ?_
    exact T_fx (B := f_X9_easiestOf_L17 rec7 x0 x1 (s.2.2.1)) (fl := fun u => [(0, .ref x0), (1, .int x1), (2, .int (u.1)), (3, .int (u.2.1)), (4, .int (s.2.2.1)), (5, .int (u.2.2.1))]) (f := fun u => (u.2.2.2)) (fun rec17 hr17 u => t_X9_easiestOf_L17 h hs x0 x1 (s.2.2.1) rec7 hr7 hk0 rec17 hr17 u) FU ((s.1), (s.2.1), (0 : Int32), (s.2.2.2))
theorem t_X9_easiestOf {K : Cx} (h : Ok K cX9_easiestOf RX9 9 rm_X9_easiestOf (some .int)) (hs : kiv K = St) (x0 : Nat) (x1 : Int32) (σ : Sg) (hk0 : kd x0 9) : T K (QI K) 0 [(0, .ref x0), (1, .int x1)] [] 0 0 σ (f_X9_easiestOf x0 x1 σ) := by
  unfold f_X9_easiestOf
  refine T_iconst (pc := 0) h dX9_easiestOf_0 ki_m1 ?_
  refine T_istore_n (lv' := [(2, .int (-1 : Int32)), (0, .ref x0), (1, .int x1)]) (pc := 1) h dX9_easiestOf_1 rfl (by decide) rfl ?_
  refine T_iconst (pc := 2) h dX9_easiestOf_2 ki_0 ?_
  refine T_istore_n (lv' := [(3, .int (0 : Int32)), (2, .int (-1 : Int32)), (0, .ref x0), (1, .int x1)]) (pc := 3) h dX9_easiestOf_3 rfl (by decide) rfl ?_
  refine T_iconst (pc := 4) h dX9_easiestOf_4 ki_0 ?_
  refine T_istore (lv' := [(4, .int (0 : Int32)), (3, .int (0 : Int32)), (2, .int (-1 : Int32)), (0, .ref x0), (1, .int x1)]) (pc := 5) h dX9_easiestOf_5 (by decide) rfl ?_
  refine T_sub [3, 4, 2, 1, 0] rfl ?_
  exact T_fx (B := f_X9_easiestOf_L7 x0 x1) (fl := fun u => [(0, .ref x0), (1, .int x1), (2, .int (u.1)), (3, .int (u.2.1)), (4, .int (u.2.2.1))]) (f := fun u => (u.2.2.2)) (fun rec7 hr7 u => t_X9_easiestOf_L7 h hs x0 x1 hk0 rec7 hr7 u) FU ((-1 : Int32), (0 : Int32), (0 : Int32), σ)
theorem M_X9_easiestOf (l : Launch) {iv : Sg → Prop} (hi : iv = St) (x0 : Nat) (x1 : Int32) (σ : Sg) (hk0 : kd x0 9) : CTi l yX9_easiestOf cX9_easiestOf 9 (some .int) rm_X9_easiestOf iv [.ref x0, .int x1] σ (f_X9_easiestOf x0 x1 σ) := by
  subst hi
  exact CT_of (by decide) (Nat.le_of_ble_eq_true rfl) (fun K _ h _ hs _ _ => t_X9_easiestOf h hs x0 x1 σ hk0)
/-! LuteTabsModel.easiest(I)I -/
theorem dX9_easiest_0 : decode cX9_easiest 0 = .ok (.iload_n 1, 1) := by decide +kernel
theorem dX9_easiest_1 : decode cX9_easiest 1 = .ok (.iconst 0, 1) := by decide +kernel
theorem dX9_easiest_2 : decode cX9_easiest 2 = .ok (.iconst 1, 1) := by decide +kernel
theorem dX9_easiest_3 : decode cX9_easiest 3 = .ok (.invokestatic 115, 3) := by decide +kernel
theorem dX9_easiest_6 : decode cX9_easiest 6 = .ok (.ifCond .eq 11, 3) := by decide +kernel
theorem dX9_easiest_9 : decode cX9_easiest 9 = .ok (.aload_n 0, 1) := by decide +kernel
theorem dX9_easiest_10 : decode cX9_easiest 10 = .ok (.iload_n 1, 1) := by decide +kernel
theorem dX9_easiest_11 : decode cX9_easiest 11 = .ok (.invokevirtual 271, 3) := by decide +kernel
theorem dX9_easiest_14 : decode cX9_easiest 14 = .ok (.goto 6, 3) := by decide +kernel
theorem dX9_easiest_17 : decode cX9_easiest 17 = .ok (.ldc_w 270, 3) := by decide +kernel
theorem dX9_easiest_20 : decode cX9_easiest 20 = .ok (.ireturn, 1) := by decide +kernel
abbrev rm_X9_easiest : Room := { frames := 7, cells := 0, slots := 0, locals := 176 }
def f_X9_easiest_L20   (y0 : Int32) (σ : Sg) : Option (Int32 × Sg) := some (y0, σ)
def f_X9_easiest (x0 : Nat) (x1 : Int32) (σ : Sg) : Option (Int32 × Sg) := bd (f_X9_in x1 (0 : Int32) (1 : Int32) σ) fun r2 s1 => (if r2 = 0 then f_X9_easiest_L20 (-2147483648 : Int32) s1 else bd (f_X9_easiestOf x0 x1 s1) fun r4 s3 => f_X9_easiest_L20 r4 s3)
theorem t_X9_easiest_L20 {K : Cx} (h : Ok K cX9_easiest RX9 2 rm_X9_easiest (some .int)) (hs : kiv K = St)  (y0 : Int32) (σ : Sg)    : T K (QI K) 20 [] [.int y0] 0 0 σ (f_X9_easiest_L20 y0 σ) := by
  unfold f_X9_easiest_L20
  exact T_ireturn (pc := 20) h (Nat.zero_le _) (Nat.zero_le _) dX9_easiest_20
theorem t_X9_easiest {K : Cx} (h : Ok K cX9_easiest RX9 2 rm_X9_easiest (some .int)) (hs : kiv K = St) (x0 : Nat) (x1 : Int32) (σ : Sg) (hk0 : kd x0 9) : T K (QI K) 0 [(0, .ref x0), (1, .int x1)] [] 0 0 σ (f_X9_easiest x0 x1 σ) := by
  unfold f_X9_easiest
  refine T_iload_n (pc := 0) h dX9_easiest_0 rfl 1 rfl ?_
  refine T_iconst (pc := 1) h dX9_easiest_1 ki_0 ?_
  refine T_iconst (pc := 2) h dX9_easiest_2 ki_1 ?_
  refine T_callSi (pc := 3) h (M_X9_in (kl K) hs x1 (0 : Int32) (1 : Int32) σ ) mst_X9_in ml_X9_115 rfl ⟨Nat.le_of_ble_eq_true rfl, Nat.le_of_ble_eq_true rfl⟩ ⟨Nat.le_refl 0, Nat.le_refl 0⟩ (Nat.le_of_ble_eq_true rfl) dX9_easiest_3 rfl (fun r2 s1 => ?_)
  refine T_if_eq (pc := 6) (tgt := 17) h dX9_easiest_6 (by decide) ?_ ?_
  · refine T_ldcw (pc := 17) h kc_X9_270 dX9_easiest_17 ?_
    refine T_sub [] rfl ?_
    exact t_X9_easiest_L20 h hs (-2147483648 : Int32) s1
  · refine T_aload_n (pc := 9) h dX9_easiest_9 rfl 0 rfl ?_
    refine T_iload_n (pc := 10) h dX9_easiest_10 rfl 1 rfl ?_
    refine T_callVi (pc := 11) h (M_X9_easiestOf (kl K) hs x0 x1 s1 hk0) mv_X9_easiestOf hs hk0 ml_X9_271 rfl ⟨Nat.le_of_ble_eq_true rfl, Nat.le_of_ble_eq_true rfl⟩ ⟨Nat.le_refl 0, Nat.le_refl 0⟩ (Nat.le_of_ble_eq_true rfl) dX9_easiest_11 rfl (fun r4 s3 => ?_)
    refine T_goto (pc := 14) (tgt := 20) h dX9_easiest_14 (by decide) ?_
    refine T_sub [] rfl ?_
    exact t_X9_easiest_L20 h hs r4 s3
theorem M_X9_easiest (l : Launch) {iv : Sg → Prop} (hi : iv = St) (x0 : Nat) (x1 : Int32) (σ : Sg) (hk0 : kd x0 9) : CTi l yX9_easiest cX9_easiest 2 (some .int) rm_X9_easiest iv [.ref x0, .int x1] σ (f_X9_easiest x0 x1 σ) := by
  subst hi
  exact CT_of (by decide) (Nat.le_of_ble_eq_true rfl) (fun K _ h _ hs _ _ => t_X9_easiest h hs x0 x1 σ hk0)
/-! LuteTabsModel.isSlot(I)Z -/
theorem dX9_isSlot_0 : decode cX9_isSlot 0 = .ok (.iload_n 0, 1) := by decide +kernel
theorem dX9_isSlot_1 : decode cX9_isSlot 1 = .ok (.iconst 0, 1) := by decide +kernel
theorem dX9_isSlot_2 : decode cX9_isSlot 2 = .ok (.iconst 3, 1) := by decide +kernel
theorem dX9_isSlot_3 : decode cX9_isSlot 3 = .ok (.invokestatic 115, 3) := by decide +kernel
theorem dX9_isSlot_6 : decode cX9_isSlot 6 = .ok (.ireturn, 1) := by decide +kernel
abbrev rm_X9_isSlot : Room := { frames := 1, cells := 0, slots := 0, locals := 22 }
def f_X9_isSlot (x0 : Int32) (σ : Sg) : Option (Int32 × Sg) := bd (f_X9_in x0 (0 : Int32) (3 : Int32) σ) fun r2 s1 => ck (b01 r2) (some (r2, s1))
theorem t_X9_isSlot {K : Cx} (h : Ok K cX9_isSlot RX9 1 rm_X9_isSlot (some .boolean)) (hs : kiv K = St) (x0 : Int32) (σ : Sg)  : T K (QI K) 0 [(0, .int x0)] [] 0 0 σ (f_X9_isSlot x0 σ) := by
  unfold f_X9_isSlot
  refine T_iload_n (pc := 0) h dX9_isSlot_0 rfl 0 rfl ?_
  refine T_iconst (pc := 1) h dX9_isSlot_1 ki_0 ?_
  refine T_iconst (pc := 2) h dX9_isSlot_2 ki_3 ?_
  refine T_callSi (pc := 3) h (M_X9_in (kl K) hs x0 (0 : Int32) (3 : Int32) σ ) mst_X9_in ml_X9_115 rfl ⟨Nat.le_of_ble_eq_true rfl, Nat.le_of_ble_eq_true rfl⟩ ⟨Nat.le_refl 0, Nat.le_refl 0⟩ (Nat.le_of_ble_eq_true rfl) dX9_isSlot_3 rfl (fun r2 s1 => ?_)
  exact T_zreturn (pc := 6) h (Nat.zero_le _) (Nat.zero_le _) dX9_isSlot_6
theorem M_X9_isSlot (l : Launch) {iv : Sg → Prop} (hi : iv = St) (x0 : Int32) (σ : Sg)  : CTi l yX9_isSlot cX9_isSlot 1 (some .boolean) rm_X9_isSlot iv [.int x0] σ (f_X9_isSlot x0 σ) := by
  subst hi
  exact CT_of (by decide) (Nat.le_of_ble_eq_true rfl) (fun K _ h _ hs _ _ => t_X9_isSlot h hs x0 σ )
/-! LuteTabsModel.fullSlots()I -/
theorem dX9_fullSlots_0 : decode cX9_fullSlots 0 = .ok (.iconst 0, 1) := by decide +kernel
theorem dX9_fullSlots_1 : decode cX9_fullSlots 1 = .ok (.istore_n 1, 1) := by decide +kernel
theorem dX9_fullSlots_2 : decode cX9_fullSlots 2 = .ok (.iconst 0, 1) := by decide +kernel
theorem dX9_fullSlots_3 : decode cX9_fullSlots 3 = .ok (.istore_n 2, 1) := by decide +kernel
theorem dX9_fullSlots_4 : decode cX9_fullSlots 4 = .ok (.iload_n 2, 1) := by decide +kernel
theorem dX9_fullSlots_5 : decode cX9_fullSlots 5 = .ok (.iconst 4, 1) := by decide +kernel
theorem dX9_fullSlots_6 : decode cX9_fullSlots 6 = .ok (.if_icmp .ge 26, 3) := by decide +kernel
theorem dX9_fullSlots_9 : decode cX9_fullSlots 9 = .ok (.iload_n 1, 1) := by decide +kernel
theorem dX9_fullSlots_10 : decode cX9_fullSlots 10 = .ok (.aload_n 0, 1) := by decide +kernel
theorem dX9_fullSlots_11 : decode cX9_fullSlots 11 = .ok (.getfield 47, 3) := by decide +kernel
theorem dX9_fullSlots_14 : decode cX9_fullSlots 14 = .ok (.iload_n 2, 1) := by decide +kernel
theorem dX9_fullSlots_15 : decode cX9_fullSlots 15 = .ok (.baload, 1) := by decide +kernel
theorem dX9_fullSlots_16 : decode cX9_fullSlots 16 = .ok (.ifCond .eq 7, 3) := by decide +kernel
theorem dX9_fullSlots_19 : decode cX9_fullSlots 19 = .ok (.iconst 1, 1) := by decide +kernel
theorem dX9_fullSlots_20 : decode cX9_fullSlots 20 = .ok (.goto 4, 3) := by decide +kernel
theorem dX9_fullSlots_23 : decode cX9_fullSlots 23 = .ok (.iconst 0, 1) := by decide +kernel
theorem dX9_fullSlots_24 : decode cX9_fullSlots 24 = .ok (.iadd, 1) := by decide +kernel
theorem dX9_fullSlots_25 : decode cX9_fullSlots 25 = .ok (.istore_n 1, 1) := by decide +kernel
theorem dX9_fullSlots_26 : decode cX9_fullSlots 26 = .ok (.iinc 2 1, 3) := by decide +kernel
theorem dX9_fullSlots_29 : decode cX9_fullSlots 29 = .ok (.goto (-25), 3) := by decide +kernel
theorem dX9_fullSlots_32 : decode cX9_fullSlots 32 = .ok (.iload_n 1, 1) := by decide +kernel
theorem dX9_fullSlots_33 : decode cX9_fullSlots 33 = .ok (.ireturn, 1) := by decide +kernel
abbrev rm_X9_fullSlots : Room := { frames := 0, cells := 0, slots := 0, locals := 0 }
def f_X9_fullSlots_L24 (rec4 : Int32 × Int32 → Option (Int32 × Sg)) (x0 : Nat) (x2 : Int32) (y0 : Int32) (y1 : Int32) (σ : Sg) : Option (Int32 × Sg) := lB ((y0 + y1)) fun v1 => lB (x2 + (1 : Int32)) fun v2 => rec4 (v1, v2)
def f_X9_fullSlots_L4  (x0 : Nat) (σ : Sg) (rec4 : Int32 × Int32 → Option (Int32 × Sg)) (s : Int32 × Int32) : Option (Int32 × Sg) := (if (4 : Int32) ≤ (s.2) then some ((s.1), σ) else ck (inb (s.2) (aL (gR σ x0 14))) ((if (gI σ (gR σ x0 14) (s.2).toNatClampNeg) = 0 then f_X9_fullSlots_L24 rec4 x0 (s.2) (s.1) (0 : Int32) σ else f_X9_fullSlots_L24 rec4 x0 (s.2) (s.1) (1 : Int32) σ)))
def f_X9_fullSlots (x0 : Nat) (σ : Sg) : Option (Int32 × Sg) := fx (f_X9_fullSlots_L4 x0 σ) FU ((0 : Int32), (0 : Int32))
theorem t_X9_fullSlots_L24 {K : Cx} (h : Ok K cX9_fullSlots RX9 3 rm_X9_fullSlots (some .int)) (hs : kiv K = St) (x0 : Nat) (x2 : Int32) (y0 : Int32) (y1 : Int32) (σ : Sg) (rec4 : Int32 × Int32 → Option (Int32 × Sg)) (hr4 : ∀ u, T K (QI K) 4 [(0, .ref x0), (1, .int (u.1)), (2, .int (u.2))] [] 0 0 σ (rec4 u)) (hk0 : kd x0 9)  : T K (QI K) 24 [(0, .ref x0), (2, .int x2)] [.int y1, .int y0] 0 0 σ (f_X9_fullSlots_L24 rec4 x0 x2 y0 y1 σ) := by
  unfold f_X9_fullSlots_L24
  refine T_iadd (pc := 24) h dX9_fullSlots_24 ?_
  refine T_letI fun v1 => ?_
  refine T_istore_n (lv' := [(1, .int v1), (0, .ref x0), (2, .int x2)]) (pc := 25) h dX9_fullSlots_25 rfl (by decide) rfl ?_
  refine T_iinc (fl := fun v2 => [(2, .int v2), (1, .int v1), (0, .ref x0)]) (pc := 26) h dX9_fullSlots_26 2 rfl ki_1 (by decide) (fun _ => rfl) (fun v2 => ?_)
  refine T_goto (pc := 29) (tgt := 4) h dX9_fullSlots_29 (by decide) ?_
  refine T_sub [2, 1, 0] rfl ?_
  exact hr4 (v1, v2)
theorem t_X9_fullSlots_L4 {K : Cx} (h : Ok K cX9_fullSlots RX9 3 rm_X9_fullSlots (some .int)) (hs : kiv K = St) (x0 : Nat) (σ : Sg)  (hk0 : kd x0 9) (rec4 : Int32 × Int32 → Option (Int32 × Sg)) (hr4 : ∀ u, T K (QI K) 4 [(0, .ref x0), (1, .int (u.1)), (2, .int (u.2))] [] 0 0 σ (rec4 u)) (s : Int32 × Int32) : T K (QI K) 4 [(0, .ref x0), (1, .int (s.1)), (2, .int (s.2))] [] 0 0 σ (f_X9_fullSlots_L4 x0 σ rec4 s) := by
  unfold f_X9_fullSlots_L4
  refine T_iload_n (pc := 4) h dX9_fullSlots_4 rfl 2 rfl ?_
  refine T_iconst (pc := 5) h dX9_fullSlots_5 ki_4 ?_
  refine T_icmp_ge (pc := 6) (tgt := 32) h dX9_fullSlots_6 (by decide) ?_ ?_
  · refine T_iload_n (pc := 32) h dX9_fullSlots_32 rfl 1 rfl ?_
    exact T_ireturn (pc := 33) h (Nat.zero_le _) (Nat.zero_le _) dX9_fullSlots_33
  · refine T_iload_n (pc := 9) h dX9_fullSlots_9 rfl 1 rfl ?_
    refine T_aload_n (pc := 10) h dX9_fullSlots_10 rfl 0 rfl ?_
    refine T_gR (pc := 11) h hs hk0 fl_X9_47 rfl fk_9_14 dX9_fullSlots_11 (fun hq1 => ?_)
    refine T_iload_n (pc := 14) h dX9_fullSlots_14 rfl 2 rfl ?_
    refine T_zald (pc := 15) h hs hq1 dX9_fullSlots_15 ?_
    refine T_if_eq (pc := 16) (tgt := 23) h dX9_fullSlots_16 (by decide) ?_ ?_
    · refine T_iconst (pc := 23) h dX9_fullSlots_23 ki_0 ?_
      refine T_sub [0, 2] rfl ?_
      exact t_X9_fullSlots_L24 h hs x0 (s.2) (s.1) (0 : Int32) σ rec4 hr4 hk0
    · refine T_iconst (pc := 19) h dX9_fullSlots_19 ki_1 ?_
      refine T_goto (pc := 20) (tgt := 24) h dX9_fullSlots_20 (by decide) ?_
      refine T_sub [0, 2] rfl ?_
      exact t_X9_fullSlots_L24 h hs x0 (s.2) (s.1) (1 : Int32) σ rec4 hr4 hk0
theorem t_X9_fullSlots {K : Cx} (h : Ok K cX9_fullSlots RX9 3 rm_X9_fullSlots (some .int)) (hs : kiv K = St) (x0 : Nat) (σ : Sg) (hk0 : kd x0 9) : T K (QI K) 0 [(0, .ref x0)] [] 0 0 σ (f_X9_fullSlots x0 σ) := by
  unfold f_X9_fullSlots
  refine T_iconst (pc := 0) h dX9_fullSlots_0 ki_0 ?_
  refine T_istore_n (lv' := [(1, .int (0 : Int32)), (0, .ref x0)]) (pc := 1) h dX9_fullSlots_1 rfl (by decide) rfl ?_
  refine T_iconst (pc := 2) h dX9_fullSlots_2 ki_0 ?_
  refine T_istore_n (lv' := [(2, .int (0 : Int32)), (1, .int (0 : Int32)), (0, .ref x0)]) (pc := 3) h dX9_fullSlots_3 rfl (by decide) rfl ?_
  refine T_sub [2, 1, 0] rfl ?_
  exact T_fx (B := f_X9_fullSlots_L4 x0 σ) (fl := fun u => [(0, .ref x0), (1, .int (u.1)), (2, .int (u.2))]) (f := fun u => σ) (fun rec4 hr4 u => t_X9_fullSlots_L4 h hs x0 σ hk0 rec4 hr4 u) FU ((0 : Int32), (0 : Int32))
theorem M_X9_fullSlots (l : Launch) {iv : Sg → Prop} (hi : iv = St) (x0 : Nat) (σ : Sg) (hk0 : kd x0 9) : CTi l yX9_fullSlots cX9_fullSlots 3 (some .int) rm_X9_fullSlots iv [.ref x0] σ (f_X9_fullSlots x0 σ) := by
  subst hi
  exact CT_of (by decide) (Nat.le_of_ble_eq_true rfl) (fun K _ h _ hs _ _ => t_X9_fullSlots h hs x0 σ hk0)
/-! LuteTabsModel.keep(I)I -/
theorem dX9_keep_0 : decode cX9_keep 0 = .ok (.iload_n 1, 1) := by decide +kernel
theorem dX9_keep_1 : decode cX9_keep 1 = .ok (.invokestatic 274, 3) := by decide +kernel
theorem dX9_keep_4 : decode cX9_keep 4 = .ok (.ifCond .ne 6, 3) := by decide +kernel
theorem dX9_keep_7 : decode cX9_keep 7 = .ok (.bipush (-2), 2) := by decide +kernel
theorem dX9_keep_9 : decode cX9_keep 9 = .ok (.ireturn, 1) := by decide +kernel
theorem dX9_keep_10 : decode cX9_keep 10 = .ok (.aload_n 0, 1) := by decide +kernel
theorem dX9_keep_11 : decode cX9_keep 11 = .ok (.getfield 111, 3) := by decide +kernel
theorem dX9_keep_14 : decode cX9_keep 14 = .ok (.ifCond .ne 6, 3) := by decide +kernel
theorem dX9_keep_17 : decode cX9_keep 17 = .ok (.bipush (-3), 2) := by decide +kernel
theorem dX9_keep_19 : decode cX9_keep 19 = .ok (.ireturn, 1) := by decide +kernel
theorem dX9_keep_20 : decode cX9_keep 20 = .ok (.iconst 0, 1) := by decide +kernel
theorem dX9_keep_21 : decode cX9_keep 21 = .ok (.istore_n 2, 1) := by decide +kernel
theorem dX9_keep_22 : decode cX9_keep 22 = .ok (.iload_n 2, 1) := by decide +kernel
theorem dX9_keep_23 : decode cX9_keep 23 = .ok (.aload_n 0, 1) := by decide +kernel
theorem dX9_keep_24 : decode cX9_keep 24 = .ok (.getfield 130, 3) := by decide +kernel
theorem dX9_keep_27 : decode cX9_keep 27 = .ok (.if_icmp .ge 26, 3) := by decide +kernel
theorem dX9_keep_30 : decode cX9_keep 30 = .ok (.aload_n 0, 1) := by decide +kernel
theorem dX9_keep_31 : decode cX9_keep 31 = .ok (.getfield 44, 3) := by decide +kernel
theorem dX9_keep_34 : decode cX9_keep 34 = .ok (.bipush 14, 2) := by decide +kernel
theorem dX9_keep_36 : decode cX9_keep 36 = .ok (.iload_n 1, 1) := by decide +kernel
theorem dX9_keep_37 : decode cX9_keep 37 = .ok (.imul, 1) := by decide +kernel
theorem dX9_keep_38 : decode cX9_keep 38 = .ok (.iload_n 2, 1) := by decide +kernel
theorem dX9_keep_39 : decode cX9_keep 39 = .ok (.iadd, 1) := by decide +kernel
theorem dX9_keep_40 : decode cX9_keep 40 = .ok (.aload_n 0, 1) := by decide +kernel
theorem dX9_keep_41 : decode cX9_keep 41 = .ok (.getfield 41, 3) := by decide +kernel
theorem dX9_keep_44 : decode cX9_keep 44 = .ok (.iload_n 2, 1) := by decide +kernel
theorem dX9_keep_45 : decode cX9_keep 45 = .ok (.iaload, 1) := by decide +kernel
theorem dX9_keep_46 : decode cX9_keep 46 = .ok (.iastore, 1) := by decide +kernel
theorem dX9_keep_47 : decode cX9_keep 47 = .ok (.iinc 2 1, 3) := by decide +kernel
theorem dX9_keep_50 : decode cX9_keep 50 = .ok (.goto (-28), 3) := by decide +kernel
theorem dX9_keep_53 : decode cX9_keep 53 = .ok (.aload_n 0, 1) := by decide +kernel
theorem dX9_keep_54 : decode cX9_keep 54 = .ok (.getfield 47, 3) := by decide +kernel
theorem dX9_keep_57 : decode cX9_keep 57 = .ok (.iload_n 1, 1) := by decide +kernel
theorem dX9_keep_58 : decode cX9_keep 58 = .ok (.iconst 1, 1) := by decide +kernel
theorem dX9_keep_59 : decode cX9_keep 59 = .ok (.bastore, 1) := by decide +kernel
theorem dX9_keep_60 : decode cX9_keep 60 = .ok (.aload_n 0, 1) := by decide +kernel
theorem dX9_keep_61 : decode cX9_keep 61 = .ok (.invokevirtual 277, 3) := by decide +kernel
theorem dX9_keep_64 : decode cX9_keep 64 = .ok (.ireturn, 1) := by decide +kernel
abbrev rm_X9_keep : Room := { frames := 2, cells := 0, slots := 0, locals := 42 }
def f_X9_keep_L22  (x0 : Nat) (x1 : Int32) (rec22 : Int32 × Sg → Option (Int32 × Sg)) (s : Int32 × Sg) : Option (Int32 × Sg) := (if (gI (s.2) x0 10) ≤ (s.1) then ck (inb x1 (aL (gR (s.2) x0 14))) (ck (b01 (1 : Int32)) (lB (pI (s.2) (gR (s.2) x0 14) x1.toNatClampNeg (1 : Int32)) fun s2 => bd (f_X9_fullSlots x0 s2) fun r4 s3 => some (r4, s3))) else ck (inb (s.1) (aL (gR (s.2) x0 11))) (ck (inb (((14 : Int32) * x1) + (s.1)) (aL (gR (s.2) x0 13))) (lB (pI (s.2) (gR (s.2) x0 13) (((14 : Int32) * x1) + (s.1)).toNatClampNeg (gI (s.2) (gR (s.2) x0 11) (s.1).toNatClampNeg)) fun s7 => lB ((s.1) + (1 : Int32)) fun v8 => rec22 (v8, s7))))
def f_X9_keep (x0 : Nat) (x1 : Int32) (σ : Sg) : Option (Int32 × Sg) := bd (f_X9_isSlot x1 σ) fun r2 s1 => (if r2 = 0 then some ((-2 : Int32), s1) else (if (gI s1 x0 12) = 0 then some ((-3 : Int32), s1) else fx (f_X9_keep_L22 x0 x1) FU ((0 : Int32), s1)))
theorem t_X9_keep_L22 {K : Cx} (h : Ok K cX9_keep RX9 3 rm_X9_keep (some .int)) (hs : kiv K = St) (x0 : Nat) (x1 : Int32)  (hk0 : kd x0 9) (rec22 : Int32 × Sg → Option (Int32 × Sg)) (hr22 : ∀ u, T K (QI K) 22 [(0, .ref x0), (1, .int x1), (2, .int (u.1))] [] 0 0 (u.2) (rec22 u)) (s : Int32 × Sg) : T K (QI K) 22 [(0, .ref x0), (1, .int x1), (2, .int (s.1))] [] 0 0 (s.2) (f_X9_keep_L22 x0 x1 rec22 s) := by
  unfold f_X9_keep_L22
  refine T_iload_n (pc := 22) h dX9_keep_22 rfl 2 rfl ?_
  refine T_aload_n (pc := 23) h dX9_keep_23 rfl 0 rfl ?_
  refine T_getI (pc := 24) h hs hk0 fl_X9_130 rfl dX9_keep_24 ?_
  refine T_icmp_ge (pc := 27) (tgt := 53) h dX9_keep_27 (by decide) ?_ ?_
  · refine T_aload_n (pc := 53) h dX9_keep_53 rfl 0 rfl ?_
    refine T_gR (pc := 54) h hs hk0 fl_X9_47 rfl fk_9_14 dX9_keep_54 (fun hq1 => ?_)
    refine T_iload_n (pc := 57) h dX9_keep_57 rfl 1 rfl ?_
    refine T_iconst (pc := 58) h dX9_keep_58 ki_1 ?_
    refine T_zast (pc := 59) h hs hq1 dX9_keep_59 ?_
    refine T_letS fun s2 => ?_
    refine T_aload_n (pc := 60) h dX9_keep_60 rfl 0 rfl ?_
    refine T_callVi (pc := 61) h (M_X9_fullSlots (kl K) hs x0 s2 hk0) mv_X9_fullSlots hs hk0 ml_X9_277 rfl ⟨Nat.le_of_ble_eq_true rfl, Nat.le_of_ble_eq_true rfl⟩ ⟨Nat.le_refl 0, Nat.le_refl 0⟩ (Nat.le_of_ble_eq_true rfl) dX9_keep_61 rfl (fun r4 s3 => ?_)
    exact T_ireturn (pc := 64) h (Nat.zero_le _) (Nat.zero_le _) dX9_keep_64
  · refine T_aload_n (pc := 30) h dX9_keep_30 rfl 0 rfl ?_
    refine T_gR (pc := 31) h hs hk0 fl_X9_44 rfl fk_9_13 dX9_keep_31 (fun hq5 => ?_)
    refine T_bipush (pc := 34) h dX9_keep_34 kb_14 ?_
    refine T_iload_n (pc := 36) h dX9_keep_36 rfl 1 rfl ?_
    refine T_imul (pc := 37) h dX9_keep_37 ?_
    refine T_iload_n (pc := 38) h dX9_keep_38 rfl 2 rfl ?_
    refine T_iadd (pc := 39) h dX9_keep_39 ?_
    refine T_aload_n (pc := 40) h dX9_keep_40 rfl 0 rfl ?_
    refine T_gR (pc := 41) h hs hk0 fl_X9_41 rfl fk_9_11 dX9_keep_41 (fun hq6 => ?_)
    refine T_iload_n (pc := 44) h dX9_keep_44 rfl 2 rfl ?_
    refine T_iald (pc := 45) h hs hq6 dX9_keep_45 ?_
    refine T_iast (pc := 46) h hs hq5 dX9_keep_46 ?_
    refine T_letS fun s7 => ?_
    refine T_iinc (fl := fun v8 => [(2, .int v8), (0, .ref x0), (1, .int x1)]) (pc := 47) h dX9_keep_47 2 rfl ki_1 (by decide) (fun _ => rfl) (fun v8 => ?_)
    refine T_goto (pc := 50) (tgt := 22) h dX9_keep_50 (by decide) ?_
    refine T_sub [1, 2, 0] rfl ?_
    exact hr22 (v8, s7)
theorem t_X9_keep {K : Cx} (h : Ok K cX9_keep RX9 3 rm_X9_keep (some .int)) (hs : kiv K = St) (x0 : Nat) (x1 : Int32) (σ : Sg) (hk0 : kd x0 9) : T K (QI K) 0 [(0, .ref x0), (1, .int x1)] [] 0 0 σ (f_X9_keep x0 x1 σ) := by
  unfold f_X9_keep
  refine T_iload_n (pc := 0) h dX9_keep_0 rfl 1 rfl ?_
  refine T_callSi (pc := 1) h (M_X9_isSlot (kl K) hs x1 σ ) mst_X9_isSlot ml_X9_274 rfl ⟨Nat.le_of_ble_eq_true rfl, Nat.le_of_ble_eq_true rfl⟩ ⟨Nat.le_refl 0, Nat.le_refl 0⟩ (Nat.le_of_ble_eq_true rfl) dX9_keep_1 rfl (fun r2 s1 => ?_)
  refine T_if_ne (pc := 4) (tgt := 10) h dX9_keep_4 (by decide) ?_ ?_
  · refine T_aload_n (pc := 10) h dX9_keep_10 rfl 0 rfl ?_
    refine T_getI (pc := 11) h hs hk0 fl_X9_111 rfl dX9_keep_11 ?_
    refine T_if_ne (pc := 14) (tgt := 20) h dX9_keep_14 (by decide) ?_ ?_
    · refine T_iconst (pc := 20) h dX9_keep_20 ki_0 ?_
      refine T_istore_n (lv' := [(2, .int (0 : Int32)), (0, .ref x0), (1, .int x1)]) (pc := 21) h dX9_keep_21 rfl (by decide) rfl ?_
      refine T_sub [1, 2, 0] rfl ?_
      exact T_fx (B := f_X9_keep_L22 x0 x1) (fl := fun u => [(0, .ref x0), (1, .int x1), (2, .int (u.1))]) (f := fun u => (u.2)) (fun rec22 hr22 u => t_X9_keep_L22 h hs x0 x1 hk0 rec22 hr22 u) FU ((0 : Int32), s1)
    · refine T_bipush (pc := 17) h dX9_keep_17 kb_m3 ?_
      exact T_ireturn (pc := 19) h (Nat.zero_le _) (Nat.zero_le _) dX9_keep_19
  · refine T_bipush (pc := 7) h dX9_keep_7 kb_m2 ?_
    exact T_ireturn (pc := 9) h (Nat.zero_le _) (Nat.zero_le _) dX9_keep_9
theorem M_X9_keep (l : Launch) {iv : Sg → Prop} (hi : iv = St) (x0 : Nat) (x1 : Int32) (σ : Sg) (hk0 : kd x0 9) : CTi l yX9_keep cX9_keep 3 (some .int) rm_X9_keep iv [.ref x0, .int x1] σ (f_X9_keep x0 x1 σ) := by
  subst hi
  exact CT_of (by decide) (Nat.le_of_ble_eq_true rfl) (fun K _ h _ hs _ _ => t_X9_keep h hs x0 x1 σ hk0)
/-! LuteTabsModel.go(I)I -/
theorem dX9_go_0 : decode cX9_go 0 = .ok (.iload_n 1, 1) := by decide +kernel
theorem dX9_go_1 : decode cX9_go 1 = .ok (.invokestatic 274, 3) := by decide +kernel
theorem dX9_go_4 : decode cX9_go 4 = .ok (.ifCond .ne 6, 3) := by decide +kernel
theorem dX9_go_7 : decode cX9_go 7 = .ok (.bipush (-2), 2) := by decide +kernel
theorem dX9_go_9 : decode cX9_go 9 = .ok (.ireturn, 1) := by decide +kernel
theorem dX9_go_10 : decode cX9_go 10 = .ok (.aload_n 0, 1) := by decide +kernel
theorem dX9_go_11 : decode cX9_go 11 = .ok (.getfield 47, 3) := by decide +kernel
theorem dX9_go_14 : decode cX9_go 14 = .ok (.iload_n 1, 1) := by decide +kernel
theorem dX9_go_15 : decode cX9_go 15 = .ok (.baload, 1) := by decide +kernel
theorem dX9_go_16 : decode cX9_go 16 = .ok (.ifCond .ne 9, 3) := by decide +kernel
theorem dX9_go_19 : decode cX9_go 19 = .ok (.aload_n 0, 1) := by decide +kernel
theorem dX9_go_20 : decode cX9_go 20 = .ok (.iconst 1, 1) := by decide +kernel
theorem dX9_go_21 : decode cX9_go 21 = .ok (.invokevirtual 151, 3) := by decide +kernel
theorem dX9_go_24 : decode cX9_go 24 = .ok (.ireturn, 1) := by decide +kernel
theorem dX9_go_25 : decode cX9_go 25 = .ok (.iconst 0, 1) := by decide +kernel
theorem dX9_go_26 : decode cX9_go 26 = .ok (.istore_n 2, 1) := by decide +kernel
theorem dX9_go_27 : decode cX9_go 27 = .ok (.iload_n 2, 1) := by decide +kernel
theorem dX9_go_28 : decode cX9_go 28 = .ok (.aload_n 0, 1) := by decide +kernel
theorem dX9_go_29 : decode cX9_go 29 = .ok (.getfield 130, 3) := by decide +kernel
theorem dX9_go_32 : decode cX9_go 32 = .ok (.if_icmp .ge 26, 3) := by decide +kernel
theorem dX9_go_35 : decode cX9_go 35 = .ok (.aload_n 0, 1) := by decide +kernel
theorem dX9_go_36 : decode cX9_go 36 = .ok (.getfield 41, 3) := by decide +kernel
theorem dX9_go_39 : decode cX9_go 39 = .ok (.iload_n 2, 1) := by decide +kernel
theorem dX9_go_40 : decode cX9_go 40 = .ok (.aload_n 0, 1) := by decide +kernel
theorem dX9_go_41 : decode cX9_go 41 = .ok (.getfield 44, 3) := by decide +kernel
theorem dX9_go_44 : decode cX9_go 44 = .ok (.bipush 14, 2) := by decide +kernel
theorem dX9_go_46 : decode cX9_go 46 = .ok (.iload_n 1, 1) := by decide +kernel
theorem dX9_go_47 : decode cX9_go 47 = .ok (.imul, 1) := by decide +kernel
theorem dX9_go_48 : decode cX9_go 48 = .ok (.iload_n 2, 1) := by decide +kernel
theorem dX9_go_49 : decode cX9_go 49 = .ok (.iadd, 1) := by decide +kernel
theorem dX9_go_50 : decode cX9_go 50 = .ok (.iaload, 1) := by decide +kernel
theorem dX9_go_51 : decode cX9_go 51 = .ok (.iastore, 1) := by decide +kernel
theorem dX9_go_52 : decode cX9_go 52 = .ok (.iinc 2 1, 3) := by decide +kernel
theorem dX9_go_55 : decode cX9_go 55 = .ok (.goto (-28), 3) := by decide +kernel
theorem dX9_go_58 : decode cX9_go 58 = .ok (.aload_n 0, 1) := by decide +kernel
theorem dX9_go_59 : decode cX9_go 59 = .ok (.iconst 1, 1) := by decide +kernel
theorem dX9_go_60 : decode cX9_go 60 = .ok (.putfield 111, 3) := by decide +kernel
theorem dX9_go_63 : decode cX9_go 63 = .ok (.aload_n 0, 1) := by decide +kernel
theorem dX9_go_64 : decode cX9_go 64 = .ok (.invokevirtual 252, 3) := by decide +kernel
theorem dX9_go_67 : decode cX9_go 67 = .ok (.ireturn, 1) := by decide +kernel
abbrev rm_X9_go : Room := { frames := 5, cells := 0, slots := 0, locals := 116 }
def f_X9_go_L27  (x0 : Nat) (x1 : Int32) (rec27 : Int32 × Sg → Option (Int32 × Sg)) (s : Int32 × Sg) : Option (Int32 × Sg) := (if (gI (s.2) x0 10) ≤ (s.1) then ck (b01 (1 : Int32)) (lB (pI (s.2) x0 12 (1 : Int32)) fun s1 => bd (f_X9_costNow x0 s1) fun r3 s2 => some (r3, s2)) else ck (inb (((14 : Int32) * x1) + (s.1)) (aL (gR (s.2) x0 13))) (ck (inb (s.1) (aL (gR (s.2) x0 11))) (lB (pI (s.2) (gR (s.2) x0 11) (s.1).toNatClampNeg (gI (s.2) (gR (s.2) x0 13) (((14 : Int32) * x1) + (s.1)).toNatClampNeg)) fun s6 => lB ((s.1) + (1 : Int32)) fun v7 => rec27 (v7, s6))))
def f_X9_go (x0 : Nat) (x1 : Int32) (σ : Sg) : Option (Int32 × Sg) := bd (f_X9_isSlot x1 σ) fun r2 s1 => (if r2 = 0 then some ((-2 : Int32), s1) else ck (inb x1 (aL (gR s1 x0 14))) ((if (gI s1 (gR s1 x0 14) x1.toNatClampNeg) = 0 then bd (f_X9_meets x0 (1 : Int32) s1) fun r5 s4 => some (r5, s4) else fx (f_X9_go_L27 x0 x1) FU ((0 : Int32), s1))))
theorem t_X9_go_L27 {K : Cx} (h : Ok K cX9_go RX9 3 rm_X9_go (some .int)) (hs : kiv K = St) (x0 : Nat) (x1 : Int32)  (hk0 : kd x0 9) (rec27 : Int32 × Sg → Option (Int32 × Sg)) (hr27 : ∀ u, T K (QI K) 27 [(0, .ref x0), (1, .int x1), (2, .int (u.1))] [] 0 0 (u.2) (rec27 u)) (s : Int32 × Sg) : T K (QI K) 27 [(0, .ref x0), (1, .int x1), (2, .int (s.1))] [] 0 0 (s.2) (f_X9_go_L27 x0 x1 rec27 s) := by
  unfold f_X9_go_L27
  refine T_iload_n (pc := 27) h dX9_go_27 rfl 2 rfl ?_
  refine T_aload_n (pc := 28) h dX9_go_28 rfl 0 rfl ?_
  refine T_getI (pc := 29) h hs hk0 fl_X9_130 rfl dX9_go_29 ?_
  refine T_icmp_ge (pc := 32) (tgt := 58) h dX9_go_32 (by decide) ?_ ?_
  · refine T_aload_n (pc := 58) h dX9_go_58 rfl 0 rfl ?_
    refine T_iconst (pc := 59) h dX9_go_59 ki_1 ?_
    refine T_putZ (pc := 60) h hs hk0 fl_X9_111 rfl rfl dX9_go_60 ?_
    refine T_letS fun s1 => ?_
    refine T_aload_n (pc := 63) h dX9_go_63 rfl 0 rfl ?_
    refine T_callVi (pc := 64) h (M_X9_costNow (kl K) hs x0 s1 hk0) mv_X9_costNow hs hk0 ml_X9_252 rfl ⟨Nat.le_of_ble_eq_true rfl, Nat.le_of_ble_eq_true rfl⟩ ⟨Nat.le_refl 0, Nat.le_refl 0⟩ (Nat.le_of_ble_eq_true rfl) dX9_go_64 rfl (fun r3 s2 => ?_)
    exact T_ireturn (pc := 67) h (Nat.zero_le _) (Nat.zero_le _) dX9_go_67
  · refine T_aload_n (pc := 35) h dX9_go_35 rfl 0 rfl ?_
    refine T_gR (pc := 36) h hs hk0 fl_X9_41 rfl fk_9_11 dX9_go_36 (fun hq4 => ?_)
    refine T_iload_n (pc := 39) h dX9_go_39 rfl 2 rfl ?_
    refine T_aload_n (pc := 40) h dX9_go_40 rfl 0 rfl ?_
    refine T_gR (pc := 41) h hs hk0 fl_X9_44 rfl fk_9_13 dX9_go_41 (fun hq5 => ?_)
    refine T_bipush (pc := 44) h dX9_go_44 kb_14 ?_
    refine T_iload_n (pc := 46) h dX9_go_46 rfl 1 rfl ?_
    refine T_imul (pc := 47) h dX9_go_47 ?_
    refine T_iload_n (pc := 48) h dX9_go_48 rfl 2 rfl ?_
    refine T_iadd (pc := 49) h dX9_go_49 ?_
    refine T_iald (pc := 50) h hs hq5 dX9_go_50 ?_
    refine T_iast (pc := 51) h hs hq4 dX9_go_51 ?_
    refine T_letS fun s6 => ?_
    refine T_iinc (fl := fun v7 => [(2, .int v7), (0, .ref x0), (1, .int x1)]) (pc := 52) h dX9_go_52 2 rfl ki_1 (by decide) (fun _ => rfl) (fun v7 => ?_)
    refine T_goto (pc := 55) (tgt := 27) h dX9_go_55 (by decide) ?_
    refine T_sub [1, 2, 0] rfl ?_
    exact hr27 (v7, s6)
theorem t_X9_go {K : Cx} (h : Ok K cX9_go RX9 3 rm_X9_go (some .int)) (hs : kiv K = St) (x0 : Nat) (x1 : Int32) (σ : Sg) (hk0 : kd x0 9) : T K (QI K) 0 [(0, .ref x0), (1, .int x1)] [] 0 0 σ (f_X9_go x0 x1 σ) := by
  unfold f_X9_go
  refine T_iload_n (pc := 0) h dX9_go_0 rfl 1 rfl ?_
  refine T_callSi (pc := 1) h (M_X9_isSlot (kl K) hs x1 σ ) mst_X9_isSlot ml_X9_274 rfl ⟨Nat.le_of_ble_eq_true rfl, Nat.le_of_ble_eq_true rfl⟩ ⟨Nat.le_refl 0, Nat.le_refl 0⟩ (Nat.le_of_ble_eq_true rfl) dX9_go_1 rfl (fun r2 s1 => ?_)
  refine T_if_ne (pc := 4) (tgt := 10) h dX9_go_4 (by decide) ?_ ?_
  · refine T_aload_n (pc := 10) h dX9_go_10 rfl 0 rfl ?_
    refine T_gR (pc := 11) h hs hk0 fl_X9_47 rfl fk_9_14 dX9_go_11 (fun hq3 => ?_)
    refine T_iload_n (pc := 14) h dX9_go_14 rfl 1 rfl ?_
    refine T_zald (pc := 15) h hs hq3 dX9_go_15 ?_
    refine T_if_ne (pc := 16) (tgt := 25) h dX9_go_16 (by decide) ?_ ?_
    · refine T_iconst (pc := 25) h dX9_go_25 ki_0 ?_
      refine T_istore_n (lv' := [(2, .int (0 : Int32)), (0, .ref x0), (1, .int x1)]) (pc := 26) h dX9_go_26 rfl (by decide) rfl ?_
      refine T_sub [1, 2, 0] rfl ?_
      exact T_fx (B := f_X9_go_L27 x0 x1) (fl := fun u => [(0, .ref x0), (1, .int x1), (2, .int (u.1))]) (f := fun u => (u.2)) (fun rec27 hr27 u => t_X9_go_L27 h hs x0 x1 hk0 rec27 hr27 u) FU ((0 : Int32), s1)
    · refine T_aload_n (pc := 19) h dX9_go_19 rfl 0 rfl ?_
      refine T_iconst (pc := 20) h dX9_go_20 ki_1 ?_
      refine T_callVi (pc := 21) h (M_X9_meets (kl K) hs x0 (1 : Int32) s1 hk0) mv_X9_meets hs hk0 ml_X9_151 rfl ⟨Nat.le_of_ble_eq_true rfl, Nat.le_of_ble_eq_true rfl⟩ ⟨Nat.le_refl 0, Nat.le_refl 0⟩ (Nat.le_of_ble_eq_true rfl) dX9_go_21 rfl (fun r5 s4 => ?_)
      exact T_ireturn (pc := 24) h (Nat.zero_le _) (Nat.zero_le _) dX9_go_24
  · refine T_bipush (pc := 7) h dX9_go_7 kb_m2 ?_
    exact T_ireturn (pc := 9) h (Nat.zero_le _) (Nat.zero_le _) dX9_go_9
theorem M_X9_go (l : Launch) {iv : Sg → Prop} (hi : iv = St) (x0 : Nat) (x1 : Int32) (σ : Sg) (hk0 : kd x0 9) : CTi l yX9_go cX9_go 3 (some .int) rm_X9_go iv [.ref x0, .int x1] σ (f_X9_go x0 x1 σ) := by
  subst hi
  exact CT_of (by decide) (Nat.le_of_ble_eq_true rfl) (fun K _ h _ hs _ _ => t_X9_go h hs x0 x1 σ hk0)
/-! LuteTabsModel.differOf(I)I -/
theorem dX9_differOf_0 : decode cX9_differOf 0 = .ok (.iconst 0, 1) := by decide +kernel
theorem dX9_differOf_1 : decode cX9_differOf 1 = .ok (.istore_n 2, 1) := by decide +kernel
theorem dX9_differOf_2 : decode cX9_differOf 2 = .ok (.iconst 0, 1) := by decide +kernel
theorem dX9_differOf_3 : decode cX9_differOf 3 = .ok (.istore_n 3, 1) := by decide +kernel
theorem dX9_differOf_4 : decode cX9_differOf 4 = .ok (.iload_n 3, 1) := by decide +kernel
theorem dX9_differOf_5 : decode cX9_differOf 5 = .ok (.aload_n 0, 1) := by decide +kernel
theorem dX9_differOf_6 : decode cX9_differOf 6 = .ok (.getfield 130, 3) := by decide +kernel
theorem dX9_differOf_9 : decode cX9_differOf 9 = .ok (.if_icmp .ge 37, 3) := by decide +kernel
theorem dX9_differOf_12 : decode cX9_differOf 12 = .ok (.iload_n 2, 1) := by decide +kernel
theorem dX9_differOf_13 : decode cX9_differOf 13 = .ok (.aload_n 0, 1) := by decide +kernel
theorem dX9_differOf_14 : decode cX9_differOf 14 = .ok (.getfield 41, 3) := by decide +kernel
theorem dX9_differOf_17 : decode cX9_differOf 17 = .ok (.iload_n 3, 1) := by decide +kernel
theorem dX9_differOf_18 : decode cX9_differOf 18 = .ok (.iaload, 1) := by decide +kernel
theorem dX9_differOf_19 : decode cX9_differOf 19 = .ok (.aload_n 0, 1) := by decide +kernel
theorem dX9_differOf_20 : decode cX9_differOf 20 = .ok (.getfield 44, 3) := by decide +kernel
theorem dX9_differOf_23 : decode cX9_differOf 23 = .ok (.bipush 14, 2) := by decide +kernel
theorem dX9_differOf_25 : decode cX9_differOf 25 = .ok (.iload_n 1, 1) := by decide +kernel
theorem dX9_differOf_26 : decode cX9_differOf 26 = .ok (.imul, 1) := by decide +kernel
theorem dX9_differOf_27 : decode cX9_differOf 27 = .ok (.iload_n 3, 1) := by decide +kernel
theorem dX9_differOf_28 : decode cX9_differOf 28 = .ok (.iadd, 1) := by decide +kernel
theorem dX9_differOf_29 : decode cX9_differOf 29 = .ok (.iaload, 1) := by decide +kernel
theorem dX9_differOf_30 : decode cX9_differOf 30 = .ok (.if_icmp .ne 7, 3) := by decide +kernel
theorem dX9_differOf_33 : decode cX9_differOf 33 = .ok (.iconst 0, 1) := by decide +kernel
theorem dX9_differOf_34 : decode cX9_differOf 34 = .ok (.goto 4, 3) := by decide +kernel
theorem dX9_differOf_37 : decode cX9_differOf 37 = .ok (.iconst 1, 1) := by decide +kernel
theorem dX9_differOf_38 : decode cX9_differOf 38 = .ok (.iadd, 1) := by decide +kernel
theorem dX9_differOf_39 : decode cX9_differOf 39 = .ok (.istore_n 2, 1) := by decide +kernel
theorem dX9_differOf_40 : decode cX9_differOf 40 = .ok (.iinc 3 1, 3) := by decide +kernel
theorem dX9_differOf_43 : decode cX9_differOf 43 = .ok (.goto (-39), 3) := by decide +kernel
theorem dX9_differOf_46 : decode cX9_differOf 46 = .ok (.aload_n 0, 1) := by decide +kernel
theorem dX9_differOf_47 : decode cX9_differOf 47 = .ok (.getfield 111, 3) := by decide +kernel
theorem dX9_differOf_50 : decode cX9_differOf 50 = .ok (.ifCond .eq 7, 3) := by decide +kernel
theorem dX9_differOf_53 : decode cX9_differOf 53 = .ok (.iload_n 2, 1) := by decide +kernel
theorem dX9_differOf_54 : decode cX9_differOf 54 = .ok (.goto 5, 3) := by decide +kernel
theorem dX9_differOf_57 : decode cX9_differOf 57 = .ok (.bipush (-3), 2) := by decide +kernel
theorem dX9_differOf_59 : decode cX9_differOf 59 = .ok (.ireturn, 1) := by decide +kernel
abbrev rm_X9_differOf : Room := { frames := 0, cells := 0, slots := 0, locals := 0 }
def f_X9_differOf_L38 (rec4 : Int32 × Int32 → Option (Int32 × Sg)) (x0 : Nat) (x1 : Int32) (x3 : Int32) (y0 : Int32) (y1 : Int32) (σ : Sg) : Option (Int32 × Sg) := lB ((y0 + y1)) fun v1 => lB (x3 + (1 : Int32)) fun v2 => rec4 (v1, v2)
def f_X9_differOf_L59   (y0 : Int32) (σ : Sg) : Option (Int32 × Sg) := some (y0, σ)
def f_X9_differOf_L4  (x0 : Nat) (x1 : Int32) (σ : Sg) (rec4 : Int32 × Int32 → Option (Int32 × Sg)) (s : Int32 × Int32) : Option (Int32 × Sg) := (if (gI σ x0 10) ≤ (s.2) then (if (gI σ x0 12) = 0 then f_X9_differOf_L59 (-3 : Int32) σ else f_X9_differOf_L59 (s.1) σ) else ck (inb (s.2) (aL (gR σ x0 11))) (ck (inb (((14 : Int32) * x1) + (s.2)) (aL (gR σ x0 13))) ((if (gI σ (gR σ x0 11) (s.2).toNatClampNeg) = (gI σ (gR σ x0 13) (((14 : Int32) * x1) + (s.2)).toNatClampNeg) then f_X9_differOf_L38 rec4 x0 x1 (s.2) (s.1) (0 : Int32) σ else f_X9_differOf_L38 rec4 x0 x1 (s.2) (s.1) (1 : Int32) σ))))
def f_X9_differOf (x0 : Nat) (x1 : Int32) (σ : Sg) : Option (Int32 × Sg) := fx (f_X9_differOf_L4 x0 x1 σ) FU ((0 : Int32), (0 : Int32))
theorem t_X9_differOf_L38 {K : Cx} (h : Ok K cX9_differOf RX9 4 rm_X9_differOf (some .int)) (hs : kiv K = St) (x0 : Nat) (x1 : Int32) (x3 : Int32) (y0 : Int32) (y1 : Int32) (σ : Sg) (rec4 : Int32 × Int32 → Option (Int32 × Sg)) (hr4 : ∀ u, T K (QI K) 4 [(0, .ref x0), (1, .int x1), (2, .int (u.1)), (3, .int (u.2))] [] 0 0 σ (rec4 u)) (hk0 : kd x0 9)  : T K (QI K) 38 [(0, .ref x0), (1, .int x1), (3, .int x3)] [.int y1, .int y0] 0 0 σ (f_X9_differOf_L38 rec4 x0 x1 x3 y0 y1 σ) := by
  unfold f_X9_differOf_L38
  refine T_iadd (pc := 38) h dX9_differOf_38 ?_
  refine T_letI fun v1 => ?_
  refine T_istore_n (lv' := [(2, .int v1), (0, .ref x0), (1, .int x1), (3, .int x3)]) (pc := 39) h dX9_differOf_39 rfl (by decide) rfl ?_
  refine T_iinc (fl := fun v2 => [(3, .int v2), (2, .int v1), (0, .ref x0), (1, .int x1)]) (pc := 40) h dX9_differOf_40 3 rfl ki_1 (by decide) (fun _ => rfl) (fun v2 => ?_)
  refine T_goto (pc := 43) (tgt := 4) h dX9_differOf_43 (by decide) ?_
  refine T_sub [2, 3, 1, 0] rfl ?_
  exact hr4 (v1, v2)
theorem t_X9_differOf_L59 {K : Cx} (h : Ok K cX9_differOf RX9 4 rm_X9_differOf (some .int)) (hs : kiv K = St)  (y0 : Int32) (σ : Sg)    : T K (QI K) 59 [] [.int y0] 0 0 σ (f_X9_differOf_L59 y0 σ) := by
  unfold f_X9_differOf_L59
  exact T_ireturn (pc := 59) h (Nat.zero_le _) (Nat.zero_le _) dX9_differOf_59
theorem t_X9_differOf_L4 {K : Cx} (h : Ok K cX9_differOf RX9 4 rm_X9_differOf (some .int)) (hs : kiv K = St) (x0 : Nat) (x1 : Int32) (σ : Sg)  (hk0 : kd x0 9) (rec4 : Int32 × Int32 → Option (Int32 × Sg)) (hr4 : ∀ u, T K (QI K) 4 [(0, .ref x0), (1, .int x1), (2, .int (u.1)), (3, .int (u.2))] [] 0 0 σ (rec4 u)) (s : Int32 × Int32) : T K (QI K) 4 [(0, .ref x0), (1, .int x1), (2, .int (s.1)), (3, .int (s.2))] [] 0 0 σ (f_X9_differOf_L4 x0 x1 σ rec4 s) := by
  unfold f_X9_differOf_L4
  refine T_iload_n (pc := 4) h dX9_differOf_4 rfl 3 rfl ?_
  refine T_aload_n (pc := 5) h dX9_differOf_5 rfl 0 rfl ?_
  refine T_getI (pc := 6) h hs hk0 fl_X9_130 rfl dX9_differOf_6 ?_
  refine T_icmp_ge (pc := 9) (tgt := 46) h dX9_differOf_9 (by decide) ?_ ?_
  · refine T_aload_n (pc := 46) h dX9_differOf_46 rfl 0 rfl ?_
    refine T_getI (pc := 47) h hs hk0 fl_X9_111 rfl dX9_differOf_47 ?_
    refine T_if_eq (pc := 50) (tgt := 57) h dX9_differOf_50 (by decide) ?_ ?_
    · refine T_bipush (pc := 57) h dX9_differOf_57 kb_m3 ?_
      refine T_sub [] rfl ?_
      exact t_X9_differOf_L59 h hs (-3 : Int32) σ
    · refine T_iload_n (pc := 53) h dX9_differOf_53 rfl 2 rfl ?_
      refine T_goto (pc := 54) (tgt := 59) h dX9_differOf_54 (by decide) ?_
      refine T_sub [] rfl ?_
      exact t_X9_differOf_L59 h hs (s.1) σ
  · refine T_iload_n (pc := 12) h dX9_differOf_12 rfl 2 rfl ?_
    refine T_aload_n (pc := 13) h dX9_differOf_13 rfl 0 rfl ?_
    refine T_gR (pc := 14) h hs hk0 fl_X9_41 rfl fk_9_11 dX9_differOf_14 (fun hq1 => ?_)
    refine T_iload_n (pc := 17) h dX9_differOf_17 rfl 3 rfl ?_
    refine T_iald (pc := 18) h hs hq1 dX9_differOf_18 ?_
    refine T_aload_n (pc := 19) h dX9_differOf_19 rfl 0 rfl ?_
    refine T_gR (pc := 20) h hs hk0 fl_X9_44 rfl fk_9_13 dX9_differOf_20 (fun hq2 => ?_)
    refine T_bipush (pc := 23) h dX9_differOf_23 kb_14 ?_
    refine T_iload_n (pc := 25) h dX9_differOf_25 rfl 1 rfl ?_
    refine T_imul (pc := 26) h dX9_differOf_26 ?_
    refine T_iload_n (pc := 27) h dX9_differOf_27 rfl 3 rfl ?_
    refine T_iadd (pc := 28) h dX9_differOf_28 ?_
    refine T_iald (pc := 29) h hs hq2 dX9_differOf_29 ?_
    refine T_icmp_ne (pc := 30) (tgt := 37) h dX9_differOf_30 (by decide) ?_ ?_
    · refine T_iconst (pc := 37) h dX9_differOf_37 ki_1 ?_
      refine T_sub [0, 1, 3] rfl ?_
      exact t_X9_differOf_L38 h hs x0 x1 (s.2) (s.1) (1 : Int32) σ rec4 hr4 hk0
    · refine T_iconst (pc := 33) h dX9_differOf_33 ki_0 ?_
      refine T_goto (pc := 34) (tgt := 38) h dX9_differOf_34 (by decide) ?_
      refine T_sub [0, 1, 3] rfl ?_
      exact t_X9_differOf_L38 h hs x0 x1 (s.2) (s.1) (0 : Int32) σ rec4 hr4 hk0
theorem t_X9_differOf {K : Cx} (h : Ok K cX9_differOf RX9 4 rm_X9_differOf (some .int)) (hs : kiv K = St) (x0 : Nat) (x1 : Int32) (σ : Sg) (hk0 : kd x0 9) : T K (QI K) 0 [(0, .ref x0), (1, .int x1)] [] 0 0 σ (f_X9_differOf x0 x1 σ) := by
  unfold f_X9_differOf
  refine T_iconst (pc := 0) h dX9_differOf_0 ki_0 ?_
  refine T_istore_n (lv' := [(2, .int (0 : Int32)), (0, .ref x0), (1, .int x1)]) (pc := 1) h dX9_differOf_1 rfl (by decide) rfl ?_
  refine T_iconst (pc := 2) h dX9_differOf_2 ki_0 ?_
  refine T_istore_n (lv' := [(3, .int (0 : Int32)), (2, .int (0 : Int32)), (0, .ref x0), (1, .int x1)]) (pc := 3) h dX9_differOf_3 rfl (by decide) rfl ?_
  refine T_sub [2, 3, 1, 0] rfl ?_
  exact T_fx (B := f_X9_differOf_L4 x0 x1 σ) (fl := fun u => [(0, .ref x0), (1, .int x1), (2, .int (u.1)), (3, .int (u.2))]) (f := fun u => σ) (fun rec4 hr4 u => t_X9_differOf_L4 h hs x0 x1 σ hk0 rec4 hr4 u) FU ((0 : Int32), (0 : Int32))
theorem M_X9_differOf (l : Launch) {iv : Sg → Prop} (hi : iv = St) (x0 : Nat) (x1 : Int32) (σ : Sg) (hk0 : kd x0 9) : CTi l yX9_differOf cX9_differOf 4 (some .int) rm_X9_differOf iv [.ref x0, .int x1] σ (f_X9_differOf x0 x1 σ) := by
  subst hi
  exact CT_of (by decide) (Nat.le_of_ble_eq_true rfl) (fun K _ h _ hs _ _ => t_X9_differOf h hs x0 x1 σ hk0)
