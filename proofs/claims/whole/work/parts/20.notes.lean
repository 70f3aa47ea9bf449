/-! the notes and their chords -/
theorem s_X2_has {σ : Sg} (x : Int32) : f_X2_has 4 x σ = some (bI (decide (0 ≤ x.toInt ∧ x.toInt < (gI σ 4 6).toInt)), σ) := by
  unfold f_X2_has f_X2_has_L16 f_X2_has_L17
  by_cases h1 : x.toInt < 0
  · simp (disch := first | assumption | omega) only [lB_eq, bd_eq, ck_tt, gI_pI, gI_pL, gI_pR, gL_pI, gL_pL, gL_pR, gR_pI, gR_pL, rf_0_0, rf_0_1, rf_0_2, rf_0_3, rf_0_4, rf_0_5, rf_0_6, rf_0_7, rf_0_8, rf_0_9, rf_0_10, rf_1_1, rf_1_2, rf_4_0, rf_4_1, rf_4_2, rf_4_3, rf_4_4, rf_4_5, rf_11_0, rf_11_1, rf_12_0, rf_12_1, rf_12_2, rf_12_6, rf_12_7, rf_12_8, rf_13_0, rf_13_1, rf_13_2, rf_13_3, rf_18_0, rf_18_1, rf_18_2, rf_18_3, rf_23_0, rf_23_1, rf_23_2, rf_23_3, rf_31_0, rf_33_0, rf_33_2, rf_33_3, rf_33_4, rf_37_0, rf_39_0, rf_39_1, rf_39_2, rf_39_3, rf_40_0, rf_40_1, rf_40_2, rf_40_3, rf_47_3, rf_49_3, rf_51_3, rf_53_3, rf_55_1, rf_55_7, rf_55_8, rf_55_9, rf_55_11, rf_55_13, rf_55_14, rf_55_15, rf_55_17, rf_55_18, rf_55_19, rf_55_27, rf_55_28, rf_55_29, rf_55_30, rf_55_31, rf_55_32, rf_55_33, rf_55_34, rf_55_35, rf_55_36, rf_55_38, rf_55_44, rf_55_45, rf_55_46, rf_55_47, aL_2, aL_3, aL_5, aL_6, aL_7, aL_8, aL_9, aL_10, aL_14, aL_15, aL_16, aL_17, aL_19, aL_20, aL_21, aL_22, aL_24, aL_25, aL_26, aL_27, aL_28, aL_29, aL_30, aL_32, aL_34, aL_35, aL_36, aL_38, aL_39, aL_40, aL_41, aL_42, aL_43, aL_44, aL_45, aL_46, aL_48, aL_50, aL_52, aL_54, aL_56, aL_57, aL_58, aL_59, aL_60, aL_61, aL_62, aL_63, aL_64, aL_65, aL_66, aL_67, aL_68, aL_69, aL_70, aL_71, aL_72, aL_73, aL_74, aL_75, aL_76, aL_77, aL_78, aL_79, aL_80, aL_81, inb_nI, lit32, nI_clamp, nI_1, nI_add, if_pos, if_neg, b01_0, b01_1, Nat.add_sub_cancel, if_true, if_false, not_true_eq_false, not_false_eq_true, true_and, and_true, false_and, and_false, pk_sub, b01_n0, b01_n1, bI_t, bI_f, ofNat_nI, ck_d, Int32.lt_iff_toInt_lt, Int32.le_iff_toInt_le, i32_eq, nI_toInt, bI_b01, bI_0, decide_eq_true_eq]
  · by_cases h3 : (gI σ 4 6).toInt ≤ x.toInt
    · simp (disch := first | assumption | omega) only [lB_eq, bd_eq, ck_tt, gI_pI, gI_pL, gI_pR, gL_pI, gL_pL, gL_pR, gR_pI, gR_pL, rf_0_0, rf_0_1, rf_0_2, rf_0_3, rf_0_4, rf_0_5, rf_0_6, rf_0_7, rf_0_8, rf_0_9, rf_0_10, rf_1_1, rf_1_2, rf_4_0, rf_4_1, rf_4_2, rf_4_3, rf_4_4, rf_4_5, rf_11_0, rf_11_1, rf_12_0, rf_12_1, rf_12_2, rf_12_6, rf_12_7, rf_12_8, rf_13_0, rf_13_1, rf_13_2, rf_13_3, rf_18_0, rf_18_1, rf_18_2, rf_18_3, rf_23_0, rf_23_1, rf_23_2, rf_23_3, rf_31_0, rf_33_0, rf_33_2, rf_33_3, rf_33_4, rf_37_0, rf_39_0, rf_39_1, rf_39_2, rf_39_3, rf_40_0, rf_40_1, rf_40_2, rf_40_3, rf_47_3, rf_49_3, rf_51_3, rf_53_3, rf_55_1, rf_55_7, rf_55_8, rf_55_9, rf_55_11, rf_55_13, rf_55_14, rf_55_15, rf_55_17, rf_55_18, rf_55_19, rf_55_27, rf_55_28, rf_55_29, rf_55_30, rf_55_31, rf_55_32, rf_55_33, rf_55_34, rf_55_35, rf_55_36, rf_55_38, rf_55_44, rf_55_45, rf_55_46, rf_55_47, aL_2, aL_3, aL_5, aL_6, aL_7, aL_8, aL_9, aL_10, aL_14, aL_15, aL_16, aL_17, aL_19, aL_20, aL_21, aL_22, aL_24, aL_25, aL_26, aL_27, aL_28, aL_29, aL_30, aL_32, aL_34, aL_35, aL_36, aL_38, aL_39, aL_40, aL_41, aL_42, aL_43, aL_44, aL_45, aL_46, aL_48, aL_50, aL_52, aL_54, aL_56, aL_57, aL_58, aL_59, aL_60, aL_61, aL_62, aL_63, aL_64, aL_65, aL_66, aL_67, aL_68, aL_69, aL_70, aL_71, aL_72, aL_73, aL_74, aL_75, aL_76, aL_77, aL_78, aL_79, aL_80, aL_81, inb_nI, lit32, nI_clamp, nI_1, nI_add, if_pos, if_neg, b01_0, b01_1, Nat.add_sub_cancel, if_true, if_false, not_true_eq_false, not_false_eq_true, true_and, and_true, false_and, and_false, pk_sub, b01_n0, b01_n1, bI_t, bI_f, ofNat_nI, ck_d, Int32.lt_iff_toInt_lt, Int32.le_iff_toInt_le, i32_eq, nI_toInt, bI_b01, bI_0, decide_eq_true_eq]
    · simp (disch := first | assumption | omega) only [lB_eq, bd_eq, ck_tt, gI_pI, gI_pL, gI_pR, gL_pI, gL_pL, gL_pR, gR_pI, gR_pL, rf_0_0, rf_0_1, rf_0_2, rf_0_3, rf_0_4, rf_0_5, rf_0_6, rf_0_7, rf_0_8, rf_0_9, rf_0_10, rf_1_1, rf_1_2, rf_4_0, rf_4_1, rf_4_2, rf_4_3, rf_4_4, rf_4_5, rf_11_0, rf_11_1, rf_12_0, rf_12_1, rf_12_2, rf_12_6, rf_12_7, rf_12_8, rf_13_0, rf_13_1, rf_13_2, rf_13_3, rf_18_0, rf_18_1, rf_18_2, rf_18_3, rf_23_0, rf_23_1, rf_23_2, rf_23_3, rf_31_0, rf_33_0, rf_33_2, rf_33_3, rf_33_4, rf_37_0, rf_39_0, rf_39_1, rf_39_2, rf_39_3, rf_40_0, rf_40_1, rf_40_2, rf_40_3, rf_47_3, rf_49_3, rf_51_3, rf_53_3, rf_55_1, rf_55_7, rf_55_8, rf_55_9, rf_55_11, rf_55_13, rf_55_14, rf_55_15, rf_55_17, rf_55_18, rf_55_19, rf_55_27, rf_55_28, rf_55_29, rf_55_30, rf_55_31, rf_55_32, rf_55_33, rf_55_34, rf_55_35, rf_55_36, rf_55_38, rf_55_44, rf_55_45, rf_55_46, rf_55_47, aL_2, aL_3, aL_5, aL_6, aL_7, aL_8, aL_9, aL_10, aL_14, aL_15, aL_16, aL_17, aL_19, aL_20, aL_21, aL_22, aL_24, aL_25, aL_26, aL_27, aL_28, aL_29, aL_30, aL_32, aL_34, aL_35, aL_36, aL_38, aL_39, aL_40, aL_41, aL_42, aL_43, aL_44, aL_45, aL_46, aL_48, aL_50, aL_52, aL_54, aL_56, aL_57, aL_58, aL_59, aL_60, aL_61, aL_62, aL_63, aL_64, aL_65, aL_66, aL_67, aL_68, aL_69, aL_70, aL_71, aL_72, aL_73, aL_74, aL_75, aL_76, aL_77, aL_78, aL_79, aL_80, aL_81, inb_nI, lit32, nI_clamp, nI_1, nI_add, if_pos, if_neg, b01_0, b01_1, Nat.add_sub_cancel, if_true, if_false, not_true_eq_false, not_false_eq_true, true_and, and_true, false_and, and_false, pk_sub, b01_n0, b01_n1, bI_t, bI_f, ofNat_nI, ck_d, Int32.lt_iff_toInt_lt, Int32.le_iff_toInt_le, i32_eq, nI_toInt, bI_b01, bI_0, decide_eq_true_eq]
theorem s_X2_hasChord {σ : Sg} (x : Int32) : f_X2_hasChord 4 x σ = some (bI (decide (0 ≤ x.toInt ∧ x.toInt < (gI σ 4 7).toInt)), σ) := by
  unfold f_X2_hasChord f_X2_hasChord_L16 f_X2_hasChord_L17
  by_cases h1 : x.toInt < 0
  · simp (disch := first | assumption | omega) only [lB_eq, bd_eq, ck_tt, gI_pI, gI_pL, gI_pR, gL_pI, gL_pL, gL_pR, gR_pI, gR_pL, rf_0_0, rf_0_1, rf_0_2, rf_0_3, rf_0_4, rf_0_5, rf_0_6, rf_0_7, rf_0_8, rf_0_9, rf_0_10, rf_1_1, rf_1_2, rf_4_0, rf_4_1, rf_4_2, rf_4_3, rf_4_4, rf_4_5, rf_11_0, rf_11_1, rf_12_0, rf_12_1, rf_12_2, rf_12_6, rf_12_7, rf_12_8, rf_13_0, rf_13_1, rf_13_2, rf_13_3, rf_18_0, rf_18_1, rf_18_2, rf_18_3, rf_23_0, rf_23_1, rf_23_2, rf_23_3, rf_31_0, rf_33_0, rf_33_2, rf_33_3, rf_33_4, rf_37_0, rf_39_0, rf_39_1, rf_39_2, rf_39_3, rf_40_0, rf_40_1, rf_40_2, rf_40_3, rf_47_3, rf_49_3, rf_51_3, rf_53_3, rf_55_1, rf_55_7, rf_55_8, rf_55_9, rf_55_11, rf_55_13, rf_55_14, rf_55_15, rf_55_17, rf_55_18, rf_55_19, rf_55_27, rf_55_28, rf_55_29, rf_55_30, rf_55_31, rf_55_32, rf_55_33, rf_55_34, rf_55_35, rf_55_36, rf_55_38, rf_55_44, rf_55_45, rf_55_46, rf_55_47, aL_2, aL_3, aL_5, aL_6, aL_7, aL_8, aL_9, aL_10, aL_14, aL_15, aL_16, aL_17, aL_19, aL_20, aL_21, aL_22, aL_24, aL_25, aL_26, aL_27, aL_28, aL_29, aL_30, aL_32, aL_34, aL_35, aL_36, aL_38, aL_39, aL_40, aL_41, aL_42, aL_43, aL_44, aL_45, aL_46, aL_48, aL_50, aL_52, aL_54, aL_56, aL_57, aL_58, aL_59, aL_60, aL_61, aL_62, aL_63, aL_64, aL_65, aL_66, aL_67, aL_68, aL_69, aL_70, aL_71, aL_72, aL_73, aL_74, aL_75, aL_76, aL_77, aL_78, aL_79, aL_80, aL_81, inb_nI, lit32, nI_clamp, nI_1, nI_add, if_pos, if_neg, b01_0, b01_1, Nat.add_sub_cancel, if_true, if_false, not_true_eq_false, not_false_eq_true, true_and, and_true, false_and, and_false, pk_sub, b01_n0, b01_n1, bI_t, bI_f, ofNat_nI, ck_d, Int32.lt_iff_toInt_lt, Int32.le_iff_toInt_le, i32_eq, nI_toInt, bI_b01, bI_0, decide_eq_true_eq]
  · by_cases h3 : (gI σ 4 7).toInt ≤ x.toInt
    · simp (disch := first | assumption | omega) only [lB_eq, bd_eq, ck_tt, gI_pI, gI_pL, gI_pR, gL_pI, gL_pL, gL_pR, gR_pI, gR_pL, rf_0_0, rf_0_1, rf_0_2, rf_0_3, rf_0_4, rf_0_5, rf_0_6, rf_0_7, rf_0_8, rf_0_9, rf_0_10, rf_1_1, rf_1_2, rf_4_0, rf_4_1, rf_4_2, rf_4_3, rf_4_4, rf_4_5, rf_11_0, rf_11_1, rf_12_0, rf_12_1, rf_12_2, rf_12_6, rf_12_7, rf_12_8, rf_13_0, rf_13_1, rf_13_2, rf_13_3, rf_18_0, rf_18_1, rf_18_2, rf_18_3, rf_23_0, rf_23_1, rf_23_2, rf_23_3, rf_31_0, rf_33_0, rf_33_2, rf_33_3, rf_33_4, rf_37_0, rf_39_0, rf_39_1, rf_39_2, rf_39_3, rf_40_0, rf_40_1, rf_40_2, rf_40_3, rf_47_3, rf_49_3, rf_51_3, rf_53_3, rf_55_1, rf_55_7, rf_55_8, rf_55_9, rf_55_11, rf_55_13, rf_55_14, rf_55_15, rf_55_17, rf_55_18, rf_55_19, rf_55_27, rf_55_28, rf_55_29, rf_55_30, rf_55_31, rf_55_32, rf_55_33, rf_55_34, rf_55_35, rf_55_36, rf_55_38, rf_55_44, rf_55_45, rf_55_46, rf_55_47, aL_2, aL_3, aL_5, aL_6, aL_7, aL_8, aL_9, aL_10, aL_14, aL_15, aL_16, aL_17, aL_19, aL_20, aL_21, aL_22, aL_24, aL_25, aL_26, aL_27, aL_28, aL_29, aL_30, aL_32, aL_34, aL_35, aL_36, aL_38, aL_39, aL_40, aL_41, aL_42, aL_43, aL_44, aL_45, aL_46, aL_48, aL_50, aL_52, aL_54, aL_56, aL_57, aL_58, aL_59, aL_60, aL_61, aL_62, aL_63, aL_64, aL_65, aL_66, aL_67, aL_68, aL_69, aL_70, aL_71, aL_72, aL_73, aL_74, aL_75, aL_76, aL_77, aL_78, aL_79, aL_80, aL_81, inb_nI, lit32, nI_clamp, nI_1, nI_add, if_pos, if_neg, b01_0, b01_1, Nat.add_sub_cancel, if_true, if_false, not_true_eq_false, not_false_eq_true, true_and, and_true, false_and, and_false, pk_sub, b01_n0, b01_n1, bI_t, bI_f, ofNat_nI, ck_d, Int32.lt_iff_toInt_lt, Int32.le_iff_toInt_le, i32_eq, nI_toInt, bI_b01, bI_0, decide_eq_true_eq]
    · simp (disch := first | assumption | omega) only [lB_eq, bd_eq, ck_tt, gI_pI, gI_pL, gI_pR, gL_pI, gL_pL, gL_pR, gR_pI, gR_pL, rf_0_0, rf_0_1, rf_0_2, rf_0_3, rf_0_4, rf_0_5, rf_0_6, rf_0_7, rf_0_8, rf_0_9, rf_0_10, rf_1_1, rf_1_2, rf_4_0, rf_4_1, rf_4_2, rf_4_3, rf_4_4, rf_4_5, rf_11_0, rf_11_1, rf_12_0, rf_12_1, rf_12_2, rf_12_6, rf_12_7, rf_12_8, rf_13_0, rf_13_1, rf_13_2, rf_13_3, rf_18_0, rf_18_1, rf_18_2, rf_18_3, rf_23_0, rf_23_1, rf_23_2, rf_23_3, rf_31_0, rf_33_0, rf_33_2, rf_33_3, rf_33_4, rf_37_0, rf_39_0, rf_39_1, rf_39_2, rf_39_3, rf_40_0, rf_40_1, rf_40_2, rf_40_3, rf_47_3, rf_49_3, rf_51_3, rf_53_3, rf_55_1, rf_55_7, rf_55_8, rf_55_9, rf_55_11, rf_55_13, rf_55_14, rf_55_15, rf_55_17, rf_55_18, rf_55_19, rf_55_27, rf_55_28, rf_55_29, rf_55_30, rf_55_31, rf_55_32, rf_55_33, rf_55_34, rf_55_35, rf_55_36, rf_55_38, rf_55_44, rf_55_45, rf_55_46, rf_55_47, aL_2, aL_3, aL_5, aL_6, aL_7, aL_8, aL_9, aL_10, aL_14, aL_15, aL_16, aL_17, aL_19, aL_20, aL_21, aL_22, aL_24, aL_25, aL_26, aL_27, aL_28, aL_29, aL_30, aL_32, aL_34, aL_35, aL_36, aL_38, aL_39, aL_40, aL_41, aL_42, aL_43, aL_44, aL_45, aL_46, aL_48, aL_50, aL_52, aL_54, aL_56, aL_57, aL_58, aL_59, aL_60, aL_61, aL_62, aL_63, aL_64, aL_65, aL_66, aL_67, aL_68, aL_69, aL_70, aL_71, aL_72, aL_73, aL_74, aL_75, aL_76, aL_77, aL_78, aL_79, aL_80, aL_81, inb_nI, lit32, nI_clamp, nI_1, nI_add, if_pos, if_neg, b01_0, b01_1, Nat.add_sub_cancel, if_true, if_false, not_true_eq_false, not_false_eq_true, true_and, and_true, false_and, and_false, pk_sub, b01_n0, b01_n1, bI_t, bI_f, ofNat_nI, ck_d, Int32.lt_iff_toInt_lt, Int32.le_iff_toInt_le, i32_eq, nI_toInt, bI_b01, bI_0, decide_eq_true_eq]
/-- the class's side of the notes -/
def N2 (σ : Sg) (n : Nat) (tm pt ls : Nat → Nat) : Prop := gI σ 4 6 = nI n ∧ ∀ i, i < n → gI σ 5 i = nI (tm i) ∧ gI σ 6 i = nI (pt i) ∧ gI σ 7 i = nI (ls i)
theorem N2.ag {P PL : Nat → Nat → Prop} {σ τ : Sg} {n : Nat} {tm pt ls : Nat → Nat} (h : N2 σ n tm pt ls) (q : Ag P PL σ τ) (h1 : ¬ P 4 6) (h2 : ∀ p k, 5 ≤ p → p ≤ 7 → ¬ P p k) : N2 τ n tm pt ls := by
  refine ⟨(q.2.1 4 6 h1).trans h.1, fun i hi => ?_⟩
  obtain ⟨a, b, c⟩ := h.2 i hi
  exact ⟨(q.2.1 5 i (h2 5 i (by omega) (by omega))).trans a, (q.2.1 6 i (h2 6 i (by omega) (by omega))).trans b, (q.2.1 7 i (h2 7 i (by omega) (by omega))).trans c⟩
theorem s_X2_timeOfChord {σ : Sg} {n k : Nat} {tm pt ls fs : Nat → Nat} (hr : RefI σ) (hN : N2 σ n tm pt ls) (hn : n ≤ 14) (hk : k < 15) (hf : gI σ 9 k = nI (fs k)) (hl : fs k < n) : f_X2_timeOfChord 4 (nI k) σ = some (nI (tm (fs k)), σ) := by
  unfold f_X2_timeOfChord
  have h5 := (hN.2 (fs k) hl).1
  simp (disch := first | assumption | omega) only [lB_eq, bd_eq, ck_tt, gI_pI, gI_pL, gI_pR, gL_pI, gL_pL, gL_pR, gR_pI, gR_pL, rf_0_0, rf_0_1, rf_0_2, rf_0_3, rf_0_4, rf_0_5, rf_0_6, rf_0_7, rf_0_8, rf_0_9, rf_0_10, rf_1_1, rf_1_2, rf_4_0, rf_4_1, rf_4_2, rf_4_3, rf_4_4, rf_4_5, rf_11_0, rf_11_1, rf_12_0, rf_12_1, rf_12_2, rf_12_6, rf_12_7, rf_12_8, rf_13_0, rf_13_1, rf_13_2, rf_13_3, rf_18_0, rf_18_1, rf_18_2, rf_18_3, rf_23_0, rf_23_1, rf_23_2, rf_23_3, rf_31_0, rf_33_0, rf_33_2, rf_33_3, rf_33_4, rf_37_0, rf_39_0, rf_39_1, rf_39_2, rf_39_3, rf_40_0, rf_40_1, rf_40_2, rf_40_3, rf_47_3, rf_49_3, rf_51_3, rf_53_3, rf_55_1, rf_55_7, rf_55_8, rf_55_9, rf_55_11, rf_55_13, rf_55_14, rf_55_15, rf_55_17, rf_55_18, rf_55_19, rf_55_27, rf_55_28, rf_55_29, rf_55_30, rf_55_31, rf_55_32, rf_55_33, rf_55_34, rf_55_35, rf_55_36, rf_55_38, rf_55_44, rf_55_45, rf_55_46, rf_55_47, aL_2, aL_3, aL_5, aL_6, aL_7, aL_8, aL_9, aL_10, aL_14, aL_15, aL_16, aL_17, aL_19, aL_20, aL_21, aL_22, aL_24, aL_25, aL_26, aL_27, aL_28, aL_29, aL_30, aL_32, aL_34, aL_35, aL_36, aL_38, aL_39, aL_40, aL_41, aL_42, aL_43, aL_44, aL_45, aL_46, aL_48, aL_50, aL_52, aL_54, aL_56, aL_57, aL_58, aL_59, aL_60, aL_61, aL_62, aL_63, aL_64, aL_65, aL_66, aL_67, aL_68, aL_69, aL_70, aL_71, aL_72, aL_73, aL_74, aL_75, aL_76, aL_77, aL_78, aL_79, aL_80, aL_81, inb_nI, lit32, nI_clamp, nI_1, nI_add, if_pos, if_neg, b01_0, b01_1, Nat.add_sub_cancel, if_true, if_false, not_true_eq_false, not_false_eq_true, true_and, and_true, false_and, and_false, pk_sub, b01_n0, b01_n1, bI_t, bI_f, ofNat_nI, ck_d, Int32.lt_iff_toInt_lt, Int32.le_iff_toInt_le, i32_eq, nI_toInt, bI_b01, bI_0, decide_eq_true_eq, hf, h5]
theorem s_X2_soundingAt {σ : Sg} {n k : Nat} {tm pt ls fs : Nat → Nat} (hr : RefI σ) (hN : N2 σ n tm pt ls) (hB : Bn n tm pt ls) (hk : k < 14) (hf : gI σ 9 k = nI (fs k)) (hf1 : gI σ 9 (k + 1) = nI (fs (k + 1))) (h1 : fs k < fs (k + 1)) (h2 : fs (k + 1) ≤ n) : ∃ b, f_X2_soundingAt 4 (nI k) σ = some (nI b, σ) ∧ b < 2 ^ 14 ∧ ∀ i, b.testBit i = sndB tm ls fs k i := by
  unfold f_X2_soundingAt
  have hn := hB.1
  refine fx_inv (I := fun i s => ∃ b, s = (nI b, nI i, σ) ∧ b < 2 ^ 14 ∧ ∀ j, b.testBit j = (decide (j < i) && sndB tm ls fs k j)) (Q := fun e => ∃ b, e = some (nI b, σ) ∧ b < 2 ^ 14 ∧ ∀ i, b.testBit i = sndB tm ls fs k i) (n := fs (k + 1)) ?_ ?_ (fs (k + 1)) 0 FU _ (by omega) (by unfold FU; omega) ⟨0, rfl, by decide, fun j => by rw [Nat.zero_testBit]; simp⟩
  · rintro i s hi ⟨b, rfl, hb, ht⟩
    left
    have hti := hB.2.1 i (by omega)
    have htk := hB.2.1 (fs k) (by omega)
    obtain ⟨c5, c6, c7⟩ := hN.2 i (by omega)
    have hT := s_X2_timeOfChord hr hN hn (by omega) hf (by omega)
    have step : ∀ b' : Nat, (∀ j, b'.testBit j = (b.testBit j || decide (i = j))) → sndB tm ls fs k i = true → ∀ j, b'.testBit j = (decide (j < i + 1) && sndB tm ls fs k j) := fun b' hb' hs j => by
      rw [hb' j, ht j]
      by_cases e : i = j
      · subst e; simp [hs]
      · by_cases hj : j < i
        · simp [hj, e, show j < i + 1 by omega]
        · simp [hj, e, show ¬ j < i + 1 by omega]
    have stay : sndB tm ls fs k i = false → ∀ j, b.testBit j = (decide (j < i + 1) && sndB tm ls fs k j) := fun hs j => by
      rw [ht j]
      by_cases e : i = j
      · subst e; simp [hs]
      · by_cases hj : j < i
        · simp [hj, show j < i + 1 by omega]
        · simp [hj, show ¬ j < i + 1 by omega]
    by_cases hf0 : fs k ≤ i
    · have hs : sndB tm ls fs k i = true := by unfold sndB; exact decide_eq_true ⟨hi, Or.inl hf0⟩
      refine ⟨(nI (b ||| 2 ^ i), nI (i + 1), σ), ⟨b ||| 2 ^ i, rfl, or_lt hb (by omega), step _ (tb_or b i) hs⟩, fun rec => ?_⟩
      unfold f_X2_soundingAt_L4 f_X2_soundingAt_L47 f_X2_soundingAt_L53
      dsimp only
      simp (disch := first | assumption | omega) only [lB_eq, bd_eq, ck_tt, gI_pI, gI_pL, gI_pR, gL_pI, gL_pL, gL_pR, gR_pI, gR_pL, rf_0_0, rf_0_1, rf_0_2, rf_0_3, rf_0_4, rf_0_5, rf_0_6, rf_0_7, rf_0_8, rf_0_9, rf_0_10, rf_1_1, rf_1_2, rf_4_0, rf_4_1, rf_4_2, rf_4_3, rf_4_4, rf_4_5, rf_11_0, rf_11_1, rf_12_0, rf_12_1, rf_12_2, rf_12_6, rf_12_7, rf_12_8, rf_13_0, rf_13_1, rf_13_2, rf_13_3, rf_18_0, rf_18_1, rf_18_2, rf_18_3, rf_23_0, rf_23_1, rf_23_2, rf_23_3, rf_31_0, rf_33_0, rf_33_2, rf_33_3, rf_33_4, rf_37_0, rf_39_0, rf_39_1, rf_39_2, rf_39_3, rf_40_0, rf_40_1, rf_40_2, rf_40_3, rf_47_3, rf_49_3, rf_51_3, rf_53_3, rf_55_1, rf_55_7, rf_55_8, rf_55_9, rf_55_11, rf_55_13, rf_55_14, rf_55_15, rf_55_17, rf_55_18, rf_55_19, rf_55_27, rf_55_28, rf_55_29, rf_55_30, rf_55_31, rf_55_32, rf_55_33, rf_55_34, rf_55_35, rf_55_36, rf_55_38, rf_55_44, rf_55_45, rf_55_46, rf_55_47, aL_2, aL_3, aL_5, aL_6, aL_7, aL_8, aL_9, aL_10, aL_14, aL_15, aL_16, aL_17, aL_19, aL_20, aL_21, aL_22, aL_24, aL_25, aL_26, aL_27, aL_28, aL_29, aL_30, aL_32, aL_34, aL_35, aL_36, aL_38, aL_39, aL_40, aL_41, aL_42, aL_43, aL_44, aL_45, aL_46, aL_48, aL_50, aL_52, aL_54, aL_56, aL_57, aL_58, aL_59, aL_60, aL_61, aL_62, aL_63, aL_64, aL_65, aL_66, aL_67, aL_68, aL_69, aL_70, aL_71, aL_72, aL_73, aL_74, aL_75, aL_76, aL_77, aL_78, aL_79, aL_80, aL_81, inb_nI, lit32, nI_clamp, nI_1, nI_add, if_pos, if_neg, b01_0, b01_1, Nat.add_sub_cancel, if_true, if_false, not_true_eq_false, not_false_eq_true, true_and, and_true, false_and, and_false, pk_sub, b01_n0, b01_n1, bI_t, bI_f, ofNat_nI, ck_d, Int32.lt_iff_toInt_lt, Int32.le_iff_toInt_le, i32_eq, nI_toInt, bI_b01, bI_0, decide_eq_true_eq, hf, hf1, or_bit]
    · by_cases hl : tm (fs k) < tm i + ls i
      · have hs : sndB tm ls fs k i = true := by unfold sndB; exact decide_eq_true ⟨hi, Or.inr hl⟩
        refine ⟨(nI (b ||| 2 ^ i), nI (i + 1), σ), ⟨b ||| 2 ^ i, rfl, or_lt hb (by omega), step _ (tb_or b i) hs⟩, fun rec => ?_⟩
        unfold f_X2_soundingAt_L4 f_X2_soundingAt_L47 f_X2_soundingAt_L53
        dsimp only
        simp (disch := first | assumption | omega) only [lB_eq, bd_eq, ck_tt, gI_pI, gI_pL, gI_pR, gL_pI, gL_pL, gL_pR, gR_pI, gR_pL, rf_0_0, rf_0_1, rf_0_2, rf_0_3, rf_0_4, rf_0_5, rf_0_6, rf_0_7, rf_0_8, rf_0_9, rf_0_10, rf_1_1, rf_1_2, rf_4_0, rf_4_1, rf_4_2, rf_4_3, rf_4_4, rf_4_5, rf_11_0, rf_11_1, rf_12_0, rf_12_1, rf_12_2, rf_12_6, rf_12_7, rf_12_8, rf_13_0, rf_13_1, rf_13_2, rf_13_3, rf_18_0, rf_18_1, rf_18_2, rf_18_3, rf_23_0, rf_23_1, rf_23_2, rf_23_3, rf_31_0, rf_33_0, rf_33_2, rf_33_3, rf_33_4, rf_37_0, rf_39_0, rf_39_1, rf_39_2, rf_39_3, rf_40_0, rf_40_1, rf_40_2, rf_40_3, rf_47_3, rf_49_3, rf_51_3, rf_53_3, rf_55_1, rf_55_7, rf_55_8, rf_55_9, rf_55_11, rf_55_13, rf_55_14, rf_55_15, rf_55_17, rf_55_18, rf_55_19, rf_55_27, rf_55_28, rf_55_29, rf_55_30, rf_55_31, rf_55_32, rf_55_33, rf_55_34, rf_55_35, rf_55_36, rf_55_38, rf_55_44, rf_55_45, rf_55_46, rf_55_47, aL_2, aL_3, aL_5, aL_6, aL_7, aL_8, aL_9, aL_10, aL_14, aL_15, aL_16, aL_17, aL_19, aL_20, aL_21, aL_22, aL_24, aL_25, aL_26, aL_27, aL_28, aL_29, aL_30, aL_32, aL_34, aL_35, aL_36, aL_38, aL_39, aL_40, aL_41, aL_42, aL_43, aL_44, aL_45, aL_46, aL_48, aL_50, aL_52, aL_54, aL_56, aL_57, aL_58, aL_59, aL_60, aL_61, aL_62, aL_63, aL_64, aL_65, aL_66, aL_67, aL_68, aL_69, aL_70, aL_71, aL_72, aL_73, aL_74, aL_75, aL_76, aL_77, aL_78, aL_79, aL_80, aL_81, inb_nI, lit32, nI_clamp, nI_1, nI_add, if_pos, if_neg, b01_0, b01_1, Nat.add_sub_cancel, if_true, if_false, not_true_eq_false, not_false_eq_true, true_and, and_true, false_and, and_false, pk_sub, b01_n0, b01_n1, bI_t, bI_f, ofNat_nI, ck_d, Int32.lt_iff_toInt_lt, Int32.le_iff_toInt_le, i32_eq, nI_toInt, bI_b01, bI_0, decide_eq_true_eq, hf, hf1, hT, c5, c7, or_bit]
      · have hs : sndB tm ls fs k i = false := by unfold sndB; exact decide_eq_false (by omega)
        refine ⟨(nI b, nI (i + 1), σ), ⟨b, rfl, hb, stay hs⟩, fun rec => ?_⟩
        unfold f_X2_soundingAt_L4 f_X2_soundingAt_L47 f_X2_soundingAt_L53
        dsimp only
        simp (disch := first | assumption | omega) only [lB_eq, bd_eq, ck_tt, gI_pI, gI_pL, gI_pR, gL_pI, gL_pL, gL_pR, gR_pI, gR_pL, rf_0_0, rf_0_1, rf_0_2, rf_0_3, rf_0_4, rf_0_5, rf_0_6, rf_0_7, rf_0_8, rf_0_9, rf_0_10, rf_1_1, rf_1_2, rf_4_0, rf_4_1, rf_4_2, rf_4_3, rf_4_4, rf_4_5, rf_11_0, rf_11_1, rf_12_0, rf_12_1, rf_12_2, rf_12_6, rf_12_7, rf_12_8, rf_13_0, rf_13_1, rf_13_2, rf_13_3, rf_18_0, rf_18_1, rf_18_2, rf_18_3, rf_23_0, rf_23_1, rf_23_2, rf_23_3, rf_31_0, rf_33_0, rf_33_2, rf_33_3, rf_33_4, rf_37_0, rf_39_0, rf_39_1, rf_39_2, rf_39_3, rf_40_0, rf_40_1, rf_40_2, rf_40_3, rf_47_3, rf_49_3, rf_51_3, rf_53_3, rf_55_1, rf_55_7, rf_55_8, rf_55_9, rf_55_11, rf_55_13, rf_55_14, rf_55_15, rf_55_17, rf_55_18, rf_55_19, rf_55_27, rf_55_28, rf_55_29, rf_55_30, rf_55_31, rf_55_32, rf_55_33, rf_55_34, rf_55_35, rf_55_36, rf_55_38, rf_55_44, rf_55_45, rf_55_46, rf_55_47, aL_2, aL_3, aL_5, aL_6, aL_7, aL_8, aL_9, aL_10, aL_14, aL_15, aL_16, aL_17, aL_19, aL_20, aL_21, aL_22, aL_24, aL_25, aL_26, aL_27, aL_28, aL_29, aL_30, aL_32, aL_34, aL_35, aL_36, aL_38, aL_39, aL_40, aL_41, aL_42, aL_43, aL_44, aL_45, aL_46, aL_48, aL_50, aL_52, aL_54, aL_56, aL_57, aL_58, aL_59, aL_60, aL_61, aL_62, aL_63, aL_64, aL_65, aL_66, aL_67, aL_68, aL_69, aL_70, aL_71, aL_72, aL_73, aL_74, aL_75, aL_76, aL_77, aL_78, aL_79, aL_80, aL_81, inb_nI, lit32, nI_clamp, nI_1, nI_add, if_pos, if_neg, b01_0, b01_1, Nat.add_sub_cancel, if_true, if_false, not_true_eq_false, not_false_eq_true, true_and, and_true, false_and, and_false, pk_sub, b01_n0, b01_n1, bI_t, bI_f, ofNat_nI, ck_d, Int32.lt_iff_toInt_lt, Int32.le_iff_toInt_le, i32_eq, nI_toInt, bI_b01, bI_0, decide_eq_true_eq, hf, hf1, hT, c5, c7]
  · rintro s ⟨b, rfl, hb, ht⟩
    refine ⟨some (nI b, σ), ⟨b, rfl, hb, fun j => ?_⟩, fun rec => ?_⟩
    · rw [ht j]
      by_cases hj : j < fs (k + 1)
      · simp [hj]
      · simp [hj, sndB]
    · unfold f_X2_soundingAt_L4
      dsimp only
      simp (disch := first | assumption | omega) only [lB_eq, bd_eq, ck_tt, gI_pI, gI_pL, gI_pR, gL_pI, gL_pL, gL_pR, gR_pI, gR_pL, rf_0_0, rf_0_1, rf_0_2, rf_0_3, rf_0_4, rf_0_5, rf_0_6, rf_0_7, rf_0_8, rf_0_9, rf_0_10, rf_1_1, rf_1_2, rf_4_0, rf_4_1, rf_4_2, rf_4_3, rf_4_4, rf_4_5, rf_11_0, rf_11_1, rf_12_0, rf_12_1, rf_12_2, rf_12_6, rf_12_7, rf_12_8, rf_13_0, rf_13_1, rf_13_2, rf_13_3, rf_18_0, rf_18_1, rf_18_2, rf_18_3, rf_23_0, rf_23_1, rf_23_2, rf_23_3, rf_31_0, rf_33_0, rf_33_2, rf_33_3, rf_33_4, rf_37_0, rf_39_0, rf_39_1, rf_39_2, rf_39_3, rf_40_0, rf_40_1, rf_40_2, rf_40_3, rf_47_3, rf_49_3, rf_51_3, rf_53_3, rf_55_1, rf_55_7, rf_55_8, rf_55_9, rf_55_11, rf_55_13, rf_55_14, rf_55_15, rf_55_17, rf_55_18, rf_55_19, rf_55_27, rf_55_28, rf_55_29, rf_55_30, rf_55_31, rf_55_32, rf_55_33, rf_55_34, rf_55_35, rf_55_36, rf_55_38, rf_55_44, rf_55_45, rf_55_46, rf_55_47, aL_2, aL_3, aL_5, aL_6, aL_7, aL_8, aL_9, aL_10, aL_14, aL_15, aL_16, aL_17, aL_19, aL_20, aL_21, aL_22, aL_24, aL_25, aL_26, aL_27, aL_28, aL_29, aL_30, aL_32, aL_34, aL_35, aL_36, aL_38, aL_39, aL_40, aL_41, aL_42, aL_43, aL_44, aL_45, aL_46, aL_48, aL_50, aL_52, aL_54, aL_56, aL_57, aL_58, aL_59, aL_60, aL_61, aL_62, aL_63, aL_64, aL_65, aL_66, aL_67, aL_68, aL_69, aL_70, aL_71, aL_72, aL_73, aL_74, aL_75, aL_76, aL_77, aL_78, aL_79, aL_80, aL_81, inb_nI, lit32, nI_clamp, nI_1, nI_add, if_pos, if_neg, b01_0, b01_1, Nat.add_sub_cancel, if_true, if_false, not_true_eq_false, not_false_eq_true, true_and, and_true, false_and, and_false, pk_sub, b01_n0, b01_n1, bI_t, bI_f, ofNat_nI, ck_d, Int32.lt_iff_toInt_lt, Int32.le_iff_toInt_le, i32_eq, nI_toInt, bI_b01, bI_0, decide_eq_true_eq, hf1]
def upN (f : Nat → Nat) (k v : Nat) : Nat → Nat := fun j => if j = k then v else f j
theorem upN_eq {f : Nat → Nat} {k v : Nat} : upN f k v k = v := if_pos rfl
theorem upN_ne {f : Nat → Nat} {k v j : Nat} (h : j ≠ k) : upN f k v j = f j := if_neg h
theorem Ch.lt {n nk : Nat} {tm fs : Nat → Nat} (h : Ch n tm nk fs) : ∀ a b, a < b → b ≤ nk → fs a < fs b := by
  intro a b hab
  induction b with
  | zero => omega
  | succ b ih =>
    intro hb
    have h1 := h.2.2.1 b (by omega)
    by_cases e : a = b
    · subst e; exact h1
    · have := ih (by omega) (by omega); omega
theorem Ch.le {n nk : Nat} {tm fs : Nat → Nat} (h : Ch n tm nk fs) {k : Nat} (hk : k ≤ nk) : fs k ≤ n := by
  by_cases e : k = nk
  · subst e; exact Nat.le_of_eq h.2.1
  · have := h.lt k nk (by omega) (Nat.le_refl _); have := h.2.1; omega
theorem Ch.nk_le {n nk : Nat} {tm fs : Nat → Nat} (h : Ch n tm nk fs) : nk ≤ n := by
  have : ∀ k, k ≤ nk → k ≤ fs k := by
    intro k
    induction k with
    | zero => intro _; exact Nat.zero_le _
    | succ k ih => intro hk; have := ih (by omega); have := h.2.2.1 k (by omega); omega
  have := this nk (Nat.le_refl _)
  rw [h.2.1] at this
  exact this
/-- a note more of a new time -/
theorem Ch.new {i k : Nat} {tm fs : Nat → Nat} (h : Ch i tm k fs) (ht : 0 < k → tm (fs (k - 1)) < tm i) : Ch (i + 1) tm (k + 1) (upN fs (k + 1) (i + 1)) := by
  obtain ⟨h0, h1, h2, h3, h4⟩ := h
  refine ⟨by rw [upN_ne (by omega)]; exact h0, upN_eq, fun j hj => ?_, fun j hj m hm1 hm2 => ?_, fun j hj => ?_⟩
  · by_cases e : j = k
    · subst e; rw [upN_ne (by omega), upN_eq, h1]; omega
    · rw [upN_ne (by omega), upN_ne (by omega)]; exact h2 j (by omega)
  · by_cases e : j = k
    · subst e
      rw [upN_ne (by omega)] at hm1 ⊢
      rw [upN_eq] at hm2
      rw [h1] at hm1 ⊢
      have : m = i := by omega
      rw [this]
    · rw [upN_ne (by omega)] at hm1 ⊢
      rw [upN_ne (by omega)] at hm2
      exact h3 j (by omega) m hm1 hm2
  · by_cases e : j + 1 = k
    · rw [upN_ne (by omega), upN_ne (by omega), e, h1]
      have := ht (by omega)
      rw [show k - 1 = j by omega] at this
      exact this
    · rw [upN_ne (by omega), upN_ne (by omega)]; exact h4 j (by omega)
/-- a note more of the same time -/
theorem Ch.old {i k : Nat} {tm fs : Nat → Nat} (h : Ch i tm (k + 1) fs) (ht : tm i = tm (fs k)) : Ch (i + 1) tm (k + 1) (upN fs (k + 1) (i + 1)) := by
  obtain ⟨h0, h1, h2, h3, h4⟩ := h
  refine ⟨by rw [upN_ne (by omega)]; exact h0, upN_eq, fun j hj => ?_, fun j hj m hm1 hm2 => ?_, fun j hj => ?_⟩
  · by_cases e : j = k
    · subst e; rw [upN_ne (by omega), upN_eq]; have := h2 j (by omega); omega
    · rw [upN_ne (by omega), upN_ne (by omega)]; exact h2 j (by omega)
  · rw [upN_ne (by omega)] at hm1 ⊢
    by_cases e : j = k
    · subst e
      rw [upN_eq] at hm2
      by_cases em : m = i
      · rw [em]; exact ht
      · exact h3 j (by omega) m hm1 (by omega)
    · rw [upN_ne (by omega)] at hm2
      exact h3 j (by omega) m hm1 hm2
  · rw [upN_ne (by omega), upN_ne (by omega)]; exact h4 j (by omega)
theorem P3.mk {σ : Sg} {n nk : Nat} {tm ls fs : Nat → Nat} (h1 : Ch n tm nk fs) (h2 : gI σ 4 7 = nI nk) (h3 : ∀ k, k ≤ nk → gI σ 9 k = nI (fs k)) (h4 : ∀ k, k < nk → ∀ i, fs k ≤ i → i < fs (k + 1) → gI σ 8 i = nI k) (h5 : ∀ k, k < nk → ∃ b, b < 2 ^ 14 ∧ gI σ 10 k = nI b ∧ ∀ i, b.testBit i = sndB tm ls fs k i) : P3 σ n tm ls nk fs := ⟨h1, h2, h3, h4, h5⟩
theorem s_X2_findChords {σ : Sg} {n : Nat} {tm pt ls : Nat → Nat} (hr : RefI σ) (hN : N2 σ n tm pt ls) (hB : Bn n tm pt ls) : ∃ σ' nk fs, f_X2_findChords 4 σ = some ((), σ') ∧ Ag S3 (fun _ _ => False) σ σ' ∧ P3 σ' n tm ls nk fs := by
  unfold f_X2_findChords
  rw [lB_eq]
  have hn := hB.1
  have hnot : ∀ p k, 5 ≤ p → p ≤ 7 → ¬ S3 p k := fun p k h1 h2 z => by unfold S3 at z; omega
  have h46 : ¬ S3 4 6 := by unfold S3; omega
  refine fx_inv (I := fun i s => s.1 = nI i ∧ Ag S3 (fun _ _ => False) σ s.2 ∧ ∃ k fs, Ch i tm k fs ∧ gI s.2 4 7 = nI k ∧ (∀ j, j < k → gI s.2 9 j = nI (fs j)) ∧ (∀ j, j < k → ∀ m, fs j ≤ m → m < fs (j + 1) → gI s.2 8 m = nI j)) (Q := fun e => ∃ σ' nk fs, e = some ((), σ') ∧ Ag S3 (fun _ _ => False) σ σ' ∧ P3 σ' n tm ls nk fs) (n := n) ?_ ?_ n 0 FU _ (by omega) (by unfold FU; omega) ⟨rfl, Ag.rf.pI (Or.inl ⟨rfl, rfl⟩), 0, fun _ => 0, ⟨rfl, rfl, fun k hk => by omega, fun k hk => by omega, fun k hk => by omega⟩, rfl, fun j hj => by omega, fun j hj => by omega⟩
  · rintro i ⟨x, τ⟩ hi ⟨rfl, hA, k, fs, hC, h7, h9, h8⟩
    dsimp only at hA h7 h9 h8
    have hr2 : RefI τ := hA.ref hr
    have hN2 : N2 τ n tm pt ls := hN.ag hA h46 hnot
    have hki := hC.nk_le
    obtain ⟨c5, c6, c7⟩ := hN2.2 i hi
    have c46 := hN2.1
    left
    by_cases hnew : i = 0 ∨ tm i ≠ tm (i - 1)
    · have hCn : Ch (i + 1) tm (k + 1) (upN fs (k + 1) (i + 1)) := hC.new (fun hk0 => by
        have hfk := hC.2.1
        have h1 := hC.2.2.1 (k - 1) (by omega)
        rw [show k - 1 + 1 = k by omega, hfk] at h1
        have h2 := hC.2.2.2.1 (k - 1) (by omega) (i - 1) (by omega) (by rw [show k - 1 + 1 = k by omega, hfk]; omega)
        have h3 := hB.2.2.1 (i - 1) (by omega)
        rw [show i - 1 + 1 = i by omega] at h3
        omega)
      refine ⟨(nI (i + 1), pI (pI (pI τ 9 k (nI i)) 4 7 (nI (k + 1))) 8 i (nI k)), ⟨rfl, ((hA.pI (by unfold S3; omega)).pI (by unfold S3; omega)).pI (by unfold S3; omega), k + 1, _, hCn, ?_, ?_, ?_⟩, fun rec => ?_⟩
      · simp only [gI_pI]; simp
      · intro j hj
        simp only [gI_pI]
        by_cases e : j = k
        · subst e; rw [upN_ne (by omega), hC.2.1]; simp
        · rw [upN_ne (by omega)]; simp [e]; exact h9 j (by omega)
      · intro j hj m hm1 hm2
        rw [gI_pI, gI_pI, gI_pI]
        rw [upN_ne (by omega)] at hm1
        by_cases e : j = k
        · subst e
          rw [upN_eq] at hm2
          rw [hC.2.1] at hm1
          rw [if_pos ⟨rfl, by omega⟩]
        · rw [upN_ne (by omega)] at hm2
          have hlt : fs (j + 1) ≤ i := by have := hC.le (k := j + 1) (by omega); exact this
          have hne : ¬ (8 = 8 ∧ m = i) := by omega
          have e1 : ¬ ((8 : Nat) = 4 ∧ m = 7) := by omega
          have e2 : ¬ ((8 : Nat) = 9 ∧ m = k) := by omega
          rw [if_neg hne, if_neg e1, if_neg e2]
          exact h8 j (by omega) m hm1 hm2
      · unfold f_X2_findChords_L7 f_X2_findChords_L36 f_X2_findChords_L56
        dsimp only
        by_cases h0 : i = 0
        · subst h0
          simp (disch := first | assumption | omega) only [lB_eq, bd_eq, ck_tt, gI_pI, gI_pL, gI_pR, gL_pI, gL_pL, gL_pR, gR_pI, gR_pL, rf_0_0, rf_0_1, rf_0_2, rf_0_3, rf_0_4, rf_0_5, rf_0_6, rf_0_7, rf_0_8, rf_0_9, rf_0_10, rf_1_1, rf_1_2, rf_4_0, rf_4_1, rf_4_2, rf_4_3, rf_4_4, rf_4_5, rf_11_0, rf_11_1, rf_12_0, rf_12_1, rf_12_2, rf_12_6, rf_12_7, rf_12_8, rf_13_0, rf_13_1, rf_13_2, rf_13_3, rf_18_0, rf_18_1, rf_18_2, rf_18_3, rf_23_0, rf_23_1, rf_23_2, rf_23_3, rf_31_0, rf_33_0, rf_33_2, rf_33_3, rf_33_4, rf_37_0, rf_39_0, rf_39_1, rf_39_2, rf_39_3, rf_40_0, rf_40_1, rf_40_2, rf_40_3, rf_47_3, rf_49_3, rf_51_3, rf_53_3, rf_55_1, rf_55_7, rf_55_8, rf_55_9, rf_55_11, rf_55_13, rf_55_14, rf_55_15, rf_55_17, rf_55_18, rf_55_19, rf_55_27, rf_55_28, rf_55_29, rf_55_30, rf_55_31, rf_55_32, rf_55_33, rf_55_34, rf_55_35, rf_55_36, rf_55_38, rf_55_44, rf_55_45, rf_55_46, rf_55_47, aL_2, aL_3, aL_5, aL_6, aL_7, aL_8, aL_9, aL_10, aL_14, aL_15, aL_16, aL_17, aL_19, aL_20, aL_21, aL_22, aL_24, aL_25, aL_26, aL_27, aL_28, aL_29, aL_30, aL_32, aL_34, aL_35, aL_36, aL_38, aL_39, aL_40, aL_41, aL_42, aL_43, aL_44, aL_45, aL_46, aL_48, aL_50, aL_52, aL_54, aL_56, aL_57, aL_58, aL_59, aL_60, aL_61, aL_62, aL_63, aL_64, aL_65, aL_66, aL_67, aL_68, aL_69, aL_70, aL_71, aL_72, aL_73, aL_74, aL_75, aL_76, aL_77, aL_78, aL_79, aL_80, aL_81, inb_nI, lit32, nI_clamp, nI_1, nI_add, if_pos, if_neg, b01_0, b01_1, Nat.add_sub_cancel, if_true, if_false, not_true_eq_false, not_false_eq_true, true_and, and_true, false_and, and_false, pk_sub, b01_n0, b01_n1, bI_t, bI_f, ofNat_nI, ck_d, Int32.lt_iff_toInt_lt, Int32.le_iff_toInt_le, i32_eq, nI_toInt, bI_b01, bI_0, decide_eq_true_eq, h7, c46]
        · have hne : tm i ≠ tm (i - 1) := hnew.resolve_left h0
          obtain ⟨d5, d6, d7⟩ := hN2.2 (i - 1) (by omega)
          have b1 := hB.2.1 i hi
          have b2 := hB.2.1 (i - 1) (by omega)
          simp (disch := first | assumption | omega) only [lB_eq, bd_eq, ck_tt, gI_pI, gI_pL, gI_pR, gL_pI, gL_pL, gL_pR, gR_pI, gR_pL, rf_0_0, rf_0_1, rf_0_2, rf_0_3, rf_0_4, rf_0_5, rf_0_6, rf_0_7, rf_0_8, rf_0_9, rf_0_10, rf_1_1, rf_1_2, rf_4_0, rf_4_1, rf_4_2, rf_4_3, rf_4_4, rf_4_5, rf_11_0, rf_11_1, rf_12_0, rf_12_1, rf_12_2, rf_12_6, rf_12_7, rf_12_8, rf_13_0, rf_13_1, rf_13_2, rf_13_3, rf_18_0, rf_18_1, rf_18_2, rf_18_3, rf_23_0, rf_23_1, rf_23_2, rf_23_3, rf_31_0, rf_33_0, rf_33_2, rf_33_3, rf_33_4, rf_37_0, rf_39_0, rf_39_1, rf_39_2, rf_39_3, rf_40_0, rf_40_1, rf_40_2, rf_40_3, rf_47_3, rf_49_3, rf_51_3, rf_53_3, rf_55_1, rf_55_7, rf_55_8, rf_55_9, rf_55_11, rf_55_13, rf_55_14, rf_55_15, rf_55_17, rf_55_18, rf_55_19, rf_55_27, rf_55_28, rf_55_29, rf_55_30, rf_55_31, rf_55_32, rf_55_33, rf_55_34, rf_55_35, rf_55_36, rf_55_38, rf_55_44, rf_55_45, rf_55_46, rf_55_47, aL_2, aL_3, aL_5, aL_6, aL_7, aL_8, aL_9, aL_10, aL_14, aL_15, aL_16, aL_17, aL_19, aL_20, aL_21, aL_22, aL_24, aL_25, aL_26, aL_27, aL_28, aL_29, aL_30, aL_32, aL_34, aL_35, aL_36, aL_38, aL_39, aL_40, aL_41, aL_42, aL_43, aL_44, aL_45, aL_46, aL_48, aL_50, aL_52, aL_54, aL_56, aL_57, aL_58, aL_59, aL_60, aL_61, aL_62, aL_63, aL_64, aL_65, aL_66, aL_67, aL_68, aL_69, aL_70, aL_71, aL_72, aL_73, aL_74, aL_75, aL_76, aL_77, aL_78, aL_79, aL_80, aL_81, inb_nI, lit32, nI_clamp, nI_1, nI_add, if_pos, if_neg, b01_0, b01_1, Nat.add_sub_cancel, if_true, if_false, not_true_eq_false, not_false_eq_true, true_and, and_true, false_and, and_false, pk_sub, b01_n0, b01_n1, bI_t, bI_f, ofNat_nI, ck_d, Int32.lt_iff_toInt_lt, Int32.le_iff_toInt_le, i32_eq, nI_toInt, bI_b01, bI_0, decide_eq_true_eq, h7, c46, c5, d5]
    · have h0 : ¬ i = 0 := fun z => hnew (Or.inl z)
      have heq : tm i = tm (i - 1) := Classical.byContradiction fun z => hnew (Or.inr z)
      have hk0 : 0 < k := by
        rcases Nat.eq_zero_or_pos k with z | z
        · subst z; have := hC.1; have := hC.2.1; omega
        · exact z
      obtain ⟨k', rfl⟩ : ∃ k', k = k' + 1 := ⟨k - 1, by omega⟩
      have hfk := hC.2.1
      have h1 := hC.2.2.1 k' (by omega)
      have h2 := hC.2.2.2.1 k' (by omega) (i - 1) (by omega) (by omega)
      have hCn : Ch (i + 1) tm (k' + 1) (upN fs (k' + 1) (i + 1)) := hC.old (by omega)
      refine ⟨(nI (i + 1), pI τ 8 i (nI k')), ⟨rfl, hA.pI (by unfold S3; omega), k' + 1, _, hCn, ?_, ?_, ?_⟩, fun rec => ?_⟩
      · simp only [gI_pI]; simp [h7]
      · intro j hj
        simp only [gI_pI]
        rw [upN_ne (by omega)]; simp; exact h9 j hj
      · intro j hj m hm1 hm2
        rw [gI_pI]
        rw [upN_ne (by omega)] at hm1
        by_cases e : j = k'
        · subst e
          rw [upN_eq] at hm2
          by_cases em : m = i
          · rw [if_pos ⟨rfl, em⟩]
          · rw [if_neg (by omega)]; exact h8 j (by omega) m hm1 (by omega)
        · rw [upN_ne (by omega)] at hm2
          have hlt : fs (j + 1) ≤ i := hC.le (k := j + 1) (by omega)
          rw [if_neg (by omega)]
          exact h8 j (by omega) m hm1 hm2
      · unfold f_X2_findChords_L7 f_X2_findChords_L36 f_X2_findChords_L56
        dsimp only
        obtain ⟨d5, d6, d7⟩ := hN2.2 (i - 1) (by omega)
        have b1 := hB.2.1 i hi
        have b2 := hB.2.1 (i - 1) (by omega)
        simp (disch := first | assumption | omega) only [lB_eq, bd_eq, ck_tt, gI_pI, gI_pL, gI_pR, gL_pI, gL_pL, gL_pR, gR_pI, gR_pL, rf_0_0, rf_0_1, rf_0_2, rf_0_3, rf_0_4, rf_0_5, rf_0_6, rf_0_7, rf_0_8, rf_0_9, rf_0_10, rf_1_1, rf_1_2, rf_4_0, rf_4_1, rf_4_2, rf_4_3, rf_4_4, rf_4_5, rf_11_0, rf_11_1, rf_12_0, rf_12_1, rf_12_2, rf_12_6, rf_12_7, rf_12_8, rf_13_0, rf_13_1, rf_13_2, rf_13_3, rf_18_0, rf_18_1, rf_18_2, rf_18_3, rf_23_0, rf_23_1, rf_23_2, rf_23_3, rf_31_0, rf_33_0, rf_33_2, rf_33_3, rf_33_4, rf_37_0, rf_39_0, rf_39_1, rf_39_2, rf_39_3, rf_40_0, rf_40_1, rf_40_2, rf_40_3, rf_47_3, rf_49_3, rf_51_3, rf_53_3, rf_55_1, rf_55_7, rf_55_8, rf_55_9, rf_55_11, rf_55_13, rf_55_14, rf_55_15, rf_55_17, rf_55_18, rf_55_19, rf_55_27, rf_55_28, rf_55_29, rf_55_30, rf_55_31, rf_55_32, rf_55_33, rf_55_34, rf_55_35, rf_55_36, rf_55_38, rf_55_44, rf_55_45, rf_55_46, rf_55_47, aL_2, aL_3, aL_5, aL_6, aL_7, aL_8, aL_9, aL_10, aL_14, aL_15, aL_16, aL_17, aL_19, aL_20, aL_21, aL_22, aL_24, aL_25, aL_26, aL_27, aL_28, aL_29, aL_30, aL_32, aL_34, aL_35, aL_36, aL_38, aL_39, aL_40, aL_41, aL_42, aL_43, aL_44, aL_45, aL_46, aL_48, aL_50, aL_52, aL_54, aL_56, aL_57, aL_58, aL_59, aL_60, aL_61, aL_62, aL_63, aL_64, aL_65, aL_66, aL_67, aL_68, aL_69, aL_70, aL_71, aL_72, aL_73, aL_74, aL_75, aL_76, aL_77, aL_78, aL_79, aL_80, aL_81, inb_nI, lit32, nI_clamp, nI_1, nI_add, if_pos, if_neg, b01_0, b01_1, Nat.add_sub_cancel, if_true, if_false, not_true_eq_false, not_false_eq_true, true_and, and_true, false_and, and_false, pk_sub, b01_n0, b01_n1, bI_t, bI_f, ofNat_nI, ck_d, Int32.lt_iff_toInt_lt, Int32.le_iff_toInt_le, i32_eq, nI_toInt, bI_b01, bI_0, decide_eq_true_eq, h7, c46, c5, d5]
  · rintro ⟨x, τ⟩ ⟨rfl, hA, k, fs, hC, h7, h9, h8⟩
    dsimp only at hA h7 h9 h8
    have hr2 : RefI τ := hA.ref hr
    have hN2 : N2 τ n tm pt ls := hN.ag hA h46 hnot
    have hki := hC.nk_le
    have c46 := hN2.1
    refine ⟨fx (f_X2_findChords_L89 4) FU ((0 : Int32), pI τ 9 k (nI n)), ?_, fun rec => ?_⟩
    · have hA1 : Ag S3 (fun _ _ => False) σ (pI τ 9 k (nI n)) := hA.pI (by unfold S3; omega)
      refine fx_inv (I := fun i s => s.1 = nI i ∧ Ag S3 (fun _ _ => False) σ s.2 ∧ gI s.2 4 7 = nI k ∧ (∀ j, j ≤ k → gI s.2 9 j = nI (fs j)) ∧ (∀ j, j < k → ∀ m, fs j ≤ m → m < fs (j + 1) → gI s.2 8 m = nI j) ∧ ∀ j, j < i → ∃ b, b < 2 ^ 14 ∧ gI s.2 10 j = nI b ∧ ∀ q, b.testBit q = sndB tm ls fs j q) (Q := fun e => ∃ σ' nk fs, e = some ((), σ') ∧ Ag S3 (fun _ _ => False) σ σ' ∧ P3 σ' n tm ls nk fs) (n := k) ?_ ?_ k 0 FU _ (by omega) (by unfold FU; omega) ⟨rfl, hA1, ?_, ?_, ?_, fun j hj => by omega⟩
      · rintro i ⟨x, υ⟩ hi ⟨rfl, hB1, g7, g9, g8, g10⟩
        dsimp only at hB1 g7 g9 g8 g10
        have hr3 : RefI υ := hB1.ref hr
        have hN3 : N2 υ n tm pt ls := hN.ag hB1 h46 hnot
        obtain ⟨b, e1, e2, e3⟩ := s_X2_soundingAt hr3 hN3 hB (by omega) (g9 i (by omega)) (g9 (i + 1) (by omega)) (hC.2.2.1 i hi) (hC.le (by omega))
        left
        refine ⟨(nI (i + 1), pI υ 10 i (nI b)), ⟨rfl, hB1.pI (by unfold S3; omega), g7, fun j hj => ?_, fun j hj m hm1 hm2 => ?_, fun j hj => ?_⟩, fun rec => ?_⟩
        · rw [gI_pI, if_neg (by omega)]; exact g9 j hj
        · rw [gI_pI, if_neg (by omega)]; exact g8 j hj m hm1 hm2
        · by_cases e : j = i
          · subst e
            exact ⟨b, e2, by rw [gI_pI, if_pos ⟨rfl, rfl⟩], e3⟩
          · obtain ⟨b', f1, f2, f3⟩ := g10 j (by omega)
            exact ⟨b', f1, by rw [gI_pI, if_neg (by omega)]; exact f2, f3⟩
        · unfold f_X2_findChords_L89
          dsimp only
          simp (disch := first | assumption | omega) only [lB_eq, bd_eq, ck_tt, gI_pI, gI_pL, gI_pR, gL_pI, gL_pL, gL_pR, gR_pI, gR_pL, rf_0_0, rf_0_1, rf_0_2, rf_0_3, rf_0_4, rf_0_5, rf_0_6, rf_0_7, rf_0_8, rf_0_9, rf_0_10, rf_1_1, rf_1_2, rf_4_0, rf_4_1, rf_4_2, rf_4_3, rf_4_4, rf_4_5, rf_11_0, rf_11_1, rf_12_0, rf_12_1, rf_12_2, rf_12_6, rf_12_7, rf_12_8, rf_13_0, rf_13_1, rf_13_2, rf_13_3, rf_18_0, rf_18_1, rf_18_2, rf_18_3, rf_23_0, rf_23_1, rf_23_2, rf_23_3, rf_31_0, rf_33_0, rf_33_2, rf_33_3, rf_33_4, rf_37_0, rf_39_0, rf_39_1, rf_39_2, rf_39_3, rf_40_0, rf_40_1, rf_40_2, rf_40_3, rf_47_3, rf_49_3, rf_51_3, rf_53_3, rf_55_1, rf_55_7, rf_55_8, rf_55_9, rf_55_11, rf_55_13, rf_55_14, rf_55_15, rf_55_17, rf_55_18, rf_55_19, rf_55_27, rf_55_28, rf_55_29, rf_55_30, rf_55_31, rf_55_32, rf_55_33, rf_55_34, rf_55_35, rf_55_36, rf_55_38, rf_55_44, rf_55_45, rf_55_46, rf_55_47, aL_2, aL_3, aL_5, aL_6, aL_7, aL_8, aL_9, aL_10, aL_14, aL_15, aL_16, aL_17, aL_19, aL_20, aL_21, aL_22, aL_24, aL_25, aL_26, aL_27, aL_28, aL_29, aL_30, aL_32, aL_34, aL_35, aL_36, aL_38, aL_39, aL_40, aL_41, aL_42, aL_43, aL_44, aL_45, aL_46, aL_48, aL_50, aL_52, aL_54, aL_56, aL_57, aL_58, aL_59, aL_60, aL_61, aL_62, aL_63, aL_64, aL_65, aL_66, aL_67, aL_68, aL_69, aL_70, aL_71, aL_72, aL_73, aL_74, aL_75, aL_76, aL_77, aL_78, aL_79, aL_80, aL_81, inb_nI, lit32, nI_clamp, nI_1, nI_add, if_pos, if_neg, b01_0, b01_1, Nat.add_sub_cancel, if_true, if_false, not_true_eq_false, not_false_eq_true, true_and, and_true, false_and, and_false, pk_sub, b01_n0, b01_n1, bI_t, bI_f, ofNat_nI, ck_d, Int32.lt_iff_toInt_lt, Int32.le_iff_toInt_le, i32_eq, nI_toInt, bI_b01, bI_0, decide_eq_true_eq, g7, e1]
      · rintro ⟨x, υ⟩ ⟨rfl, hB1, g7, g9, g8, g10⟩
        dsimp only at hB1 g7 g9 g8 g10
        refine ⟨_, ⟨υ, k, fs, rfl, hB1, P3.mk hC g7 g9 g8 g10⟩, fun rec => ?_⟩
        unfold f_X2_findChords_L89
        dsimp only
        simp (disch := first | assumption | omega) only [lB_eq, bd_eq, ck_tt, gI_pI, gI_pL, gI_pR, gL_pI, gL_pL, gL_pR, gR_pI, gR_pL, rf_0_0, rf_0_1, rf_0_2, rf_0_3, rf_0_4, rf_0_5, rf_0_6, rf_0_7, rf_0_8, rf_0_9, rf_0_10, rf_1_1, rf_1_2, rf_4_0, rf_4_1, rf_4_2, rf_4_3, rf_4_4, rf_4_5, rf_11_0, rf_11_1, rf_12_0, rf_12_1, rf_12_2, rf_12_6, rf_12_7, rf_12_8, rf_13_0, rf_13_1, rf_13_2, rf_13_3, rf_18_0, rf_18_1, rf_18_2, rf_18_3, rf_23_0, rf_23_1, rf_23_2, rf_23_3, rf_31_0, rf_33_0, rf_33_2, rf_33_3, rf_33_4, rf_37_0, rf_39_0, rf_39_1, rf_39_2, rf_39_3, rf_40_0, rf_40_1, rf_40_2, rf_40_3, rf_47_3, rf_49_3, rf_51_3, rf_53_3, rf_55_1, rf_55_7, rf_55_8, rf_55_9, rf_55_11, rf_55_13, rf_55_14, rf_55_15, rf_55_17, rf_55_18, rf_55_19, rf_55_27, rf_55_28, rf_55_29, rf_55_30, rf_55_31, rf_55_32, rf_55_33, rf_55_34, rf_55_35, rf_55_36, rf_55_38, rf_55_44, rf_55_45, rf_55_46, rf_55_47, aL_2, aL_3, aL_5, aL_6, aL_7, aL_8, aL_9, aL_10, aL_14, aL_15, aL_16, aL_17, aL_19, aL_20, aL_21, aL_22, aL_24, aL_25, aL_26, aL_27, aL_28, aL_29, aL_30, aL_32, aL_34, aL_35, aL_36, aL_38, aL_39, aL_40, aL_41, aL_42, aL_43, aL_44, aL_45, aL_46, aL_48, aL_50, aL_52, aL_54, aL_56, aL_57, aL_58, aL_59, aL_60, aL_61, aL_62, aL_63, aL_64, aL_65, aL_66, aL_67, aL_68, aL_69, aL_70, aL_71, aL_72, aL_73, aL_74, aL_75, aL_76, aL_77, aL_78, aL_79, aL_80, aL_81, inb_nI, lit32, nI_clamp, nI_1, nI_add, if_pos, if_neg, b01_0, b01_1, Nat.add_sub_cancel, if_true, if_false, not_true_eq_false, not_false_eq_true, true_and, and_true, false_and, and_false, pk_sub, b01_n0, b01_n1, bI_t, bI_f, ofNat_nI, ck_d, Int32.lt_iff_toInt_lt, Int32.le_iff_toInt_le, i32_eq, nI_toInt, bI_b01, bI_0, decide_eq_true_eq, g7]
      · show gI (pI τ 9 k (nI n)) 4 7 = nI k
        rw [gI_pI, if_neg (by omega)]; exact h7
      · intro j hj
        show gI (pI τ 9 k (nI n)) 9 j = nI (fs j)
        rw [gI_pI]
        by_cases e : j = k
        · rw [if_pos ⟨rfl, e⟩, e, hC.2.1]
        · rw [if_neg (by omega)]; exact h9 j (by omega)
      · intro j hj m hm1 hm2
        show gI (pI τ 9 k (nI n)) 8 m = nI j
        rw [gI_pI, if_neg (by omega)]; exact h8 j hj m hm1 hm2
    · unfold f_X2_findChords_L7
      dsimp only
      simp (disch := first | assumption | omega) only [lB_eq, bd_eq, ck_tt, gI_pI, gI_pL, gI_pR, gL_pI, gL_pL, gL_pR, gR_pI, gR_pL, rf_0_0, rf_0_1, rf_0_2, rf_0_3, rf_0_4, rf_0_5, rf_0_6, rf_0_7, rf_0_8, rf_0_9, rf_0_10, rf_1_1, rf_1_2, rf_4_0, rf_4_1, rf_4_2, rf_4_3, rf_4_4, rf_4_5, rf_11_0, rf_11_1, rf_12_0, rf_12_1, rf_12_2, rf_12_6, rf_12_7, rf_12_8, rf_13_0, rf_13_1, rf_13_2, rf_13_3, rf_18_0, rf_18_1, rf_18_2, rf_18_3, rf_23_0, rf_23_1, rf_23_2, rf_23_3, rf_31_0, rf_33_0, rf_33_2, rf_33_3, rf_33_4, rf_37_0, rf_39_0, rf_39_1, rf_39_2, rf_39_3, rf_40_0, rf_40_1, rf_40_2, rf_40_3, rf_47_3, rf_49_3, rf_51_3, rf_53_3, rf_55_1, rf_55_7, rf_55_8, rf_55_9, rf_55_11, rf_55_13, rf_55_14, rf_55_15, rf_55_17, rf_55_18, rf_55_19, rf_55_27, rf_55_28, rf_55_29, rf_55_30, rf_55_31, rf_55_32, rf_55_33, rf_55_34, rf_55_35, rf_55_36, rf_55_38, rf_55_44, rf_55_45, rf_55_46, rf_55_47, aL_2, aL_3, aL_5, aL_6, aL_7, aL_8, aL_9, aL_10, aL_14, aL_15, aL_16, aL_17, aL_19, aL_20, aL_21, aL_22, aL_24, aL_25, aL_26, aL_27, aL_28, aL_29, aL_30, aL_32, aL_34, aL_35, aL_36, aL_38, aL_39, aL_40, aL_41, aL_42, aL_43, aL_44, aL_45, aL_46, aL_48, aL_50, aL_52, aL_54, aL_56, aL_57, aL_58, aL_59, aL_60, aL_61, aL_62, aL_63, aL_64, aL_65, aL_66, aL_67, aL_68, aL_69, aL_70, aL_71, aL_72, aL_73, aL_74, aL_75, aL_76, aL_77, aL_78, aL_79, aL_80, aL_81, inb_nI, lit32, nI_clamp, nI_1, nI_add, if_pos, if_neg, b01_0, b01_1, Nat.add_sub_cancel, if_true, if_false, not_true_eq_false, not_false_eq_true, true_and, and_true, false_and, and_false, pk_sub, b01_n0, b01_n1, bI_t, bI_f, ofNat_nI, ck_d, Int32.lt_iff_toInt_lt, Int32.le_iff_toInt_le, i32_eq, nI_toInt, bI_b01, bI_0, decide_eq_true_eq, h7, c46]
