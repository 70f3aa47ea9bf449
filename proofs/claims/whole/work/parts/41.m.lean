/-! wrong -/
theorem m_wrong {σ : Sg} (h : Rel σ) : Both σ (f_X8_wrong 0) (f_X9_wrong 55) := by
  obtain ⟨hr, c, n, nk, t, o, g, tm, pt, ls, fs, d, tb, il, b1, b2, p1, p2, p3, p4, p5, p6, p7, p8, p9⟩ := id h
  have f11 := p4.1
  have f12 := p4.2.1
  cases il with
  | false =>
    have e0 : f_X9_wrongNow 55 σ = some (-3, σ) := by unfold f_X9_wrongNow; rw [f12, if_pos (by decide)]
    refine ⟨-3, σ, σ, ?_, ?_, h⟩
    · unfold f_X8_wrong f_X8_wrong_L16
      simp (disch := first | assumption | omega) only [↓lB_eq, ↓bd_m, ck_tt, gI_pI, gI_pL, gI_pR, gL_pI, gL_pL, gL_pR, gR_pI, gR_pL, rf_0_0, rf_0_1, rf_0_2, rf_0_3, rf_0_4, rf_0_5, rf_0_6, rf_0_7, rf_0_8, rf_0_9, rf_0_10, rf_1_1, rf_1_2, rf_4_0, rf_4_1, rf_4_2, rf_4_3, rf_4_4, rf_4_5, rf_11_0, rf_11_1, rf_12_0, rf_12_1, rf_12_2, rf_12_6, rf_12_7, rf_12_8, rf_13_0, rf_13_1, rf_13_2, rf_13_3, rf_18_0, rf_18_1, rf_18_2, rf_18_3, rf_23_0, rf_23_1, rf_23_2, rf_23_3, rf_31_0, rf_33_0, rf_33_2, rf_33_3, rf_33_4, rf_37_0, rf_39_0, rf_39_1, rf_39_2, rf_39_3, rf_40_0, rf_40_1, rf_40_2, rf_40_3, rf_47_3, rf_49_3, rf_51_3, rf_53_3, rf_55_1, rf_55_7, rf_55_8, rf_55_9, rf_55_11, rf_55_13, rf_55_14, rf_55_15, rf_55_17, rf_55_18, rf_55_19, rf_55_27, rf_55_28, rf_55_29, rf_55_30, rf_55_31, rf_55_32, rf_55_33, rf_55_34, rf_55_35, rf_55_36, rf_55_38, rf_55_44, rf_55_45, rf_55_46, rf_55_47, aL_2, aL_3, aL_5, aL_6, aL_7, aL_8, aL_9, aL_10, aL_14, aL_15, aL_16, aL_17, aL_19, aL_20, aL_21, aL_22, aL_24, aL_25, aL_26, aL_27, aL_28, aL_29, aL_30, aL_32, aL_34, aL_35, aL_36, aL_38, aL_39, aL_40, aL_41, aL_42, aL_43, aL_44, aL_45, aL_46, aL_48, aL_50, aL_52, aL_54, aL_56, aL_57, aL_58, aL_59, aL_60, aL_61, aL_62, aL_63, aL_64, aL_65, aL_66, aL_67, aL_68, aL_69, aL_70, aL_71, aL_72, aL_73, aL_74, aL_75, aL_76, aL_77, aL_78, aL_79, aL_80, aL_81, inb_nI, lit32, nI_clamp, nI_1, nI_add, if_pos, if_neg, b01_0, b01_1, Nat.add_sub_cancel, if_true, if_false, not_true_eq_false, not_false_eq_true, true_and, and_true, false_and, and_false, pk_sub, b01_n0, b01_n1, bI_t, bI_f, ofNat_nI, ck_d, Int32.lt_iff_toInt_lt, Int32.le_iff_toInt_le, i32_eq, nI_toInt, bI_b01, bI_0, decide_eq_true_eq, bI_tt, bI_ff, nI_prd, ↓reduceIte, iltT, iltF, ileT, ileF, ieqT, ieqF, dcT, dcF, or_true, or_false, true_or, false_or, f11]
    · unfold f_X9_wrong
      rw [e0]; rfl
  | true =>
    obtain ⟨σ1, e1, a1⟩ := s_X8_wrongs hr b1 b2 p1 p2 p3 (fun i hi => let ⟨x, _, y⟩ := p4.2.2 rfl i hi; ⟨x, y⟩)
    have key : ∀ p k, ¬ (p = 11) → gI σ1 p k = gI σ p k := fun p k z => a1.2.1 p k z
    obtain ⟨σ2, e2, a2, _⟩ := s_X9_wrongNow (a1.ref hr) b1 b2 (p1.fr fun p k z => key p k (by unfold S1 at z; omega)) (p2.fr fun p k z => key p k (by unfold S2 at z; omega)) p3.1 (fun i hi => let ⟨_, x, y⟩ := p4.2.2 rfl i hi; ⟨(key 60 i (by omega)).trans x, y⟩) ((key 55 12 (by omega)).trans f12) ((key 55 20 (by omega)).trans p8.2)
    refine ⟨nI (cntB (outB o g pt d) n + wrS o g tm pt ls fs d nk), σ1, σ2, ?_, ?_, h.lk (Lk.tr (Lk.ag a1 (fun p k z => by unfold S11 at z; unfold Sc; omega) (fun _ _ z => z.elim)) (Lk.ag a2 (fun p k z => by unfold SR SL at z; unfold Sc; omega) (fun _ _ z => z.elim)))⟩
    · unfold f_X8_wrong f_X8_wrong_L16
      rw [f11, if_neg (by decide), e1]; rfl
    · unfold f_X9_wrong
      rw [e2]; rfl
