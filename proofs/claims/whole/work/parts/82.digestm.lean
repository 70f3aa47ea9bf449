/-! digest of the reference -/
theorem s_X9_chordBy2 {σ : Sg} {c n nk k w : Nat} {o g tm pt ls fs d : Nat → Nat} {il : Bool} (hr : RefI σ) (b1 : Bl c o g) (b2 : Bn n tm pt ls) (p1 : P1 σ c o g) (p2 : P2 σ n tm pt ls) (hC : Ch n tm nk fs) (p4 : P4 σ c n il d) (h20 : gI σ 55 20 = nI 0) (hk : k < nk) (hw : w ≤ 6) : ∃ σ', f_X9_chordBy 55 (nI k) (nI w) σ = some (chV n o g tm pt ls fs d il k w, σ') ∧ Ag (fun p k => SR p k ∨ p = 66 ∨ SL p k) (fun _ _ => False) σ σ' ∧ gI σ' 55 16 = nI nk := by
  have hn := b2.1
  have hc5 := b1.2.1
  have hnk := hC.nk_le
  have f12 := p4.2.1
  by_cases hw3 : 3 ≤ w
  · cases il with
    | false =>
      obtain ⟨σ1, e1, a1, rc1⟩ := s_X9_findsChords hr p2.m b2 hC
      refine ⟨σ1, ?_, a1.mono (fun p k z => Or.inl z) (fun _ _ z => z), rc1.1⟩
      have g12 : gI σ1 55 12 = bI false := (a1.2.1 55 12 (by unfold SR; omega)).trans f12
      unfold f_X9_chordBy chV
      rw [if_neg (show ¬ w = 0 by omega), if_neg (show ¬ w = 1 by omega), if_neg (show ¬ w = 2 by omega)]
      simp (disch := first | assumption | omega) only [↓lB_eq, ↓bd_m, ck_tt, gI_pI, gI_pL, gI_pR, gL_pI, gL_pL, gL_pR, gR_pI, gR_pL, rf_0_0, rf_0_1, rf_0_2, rf_0_3, rf_0_4, rf_0_5, rf_0_6, rf_0_7, rf_0_8, rf_0_9, rf_0_10, rf_1_1, rf_1_2, rf_4_0, rf_4_1, rf_4_2, rf_4_3, rf_4_4, rf_4_5, rf_11_0, rf_11_1, rf_12_0, rf_12_1, rf_12_2, rf_12_6, rf_12_7, rf_12_8, rf_13_0, rf_13_1, rf_13_2, rf_13_3, rf_18_0, rf_18_1, rf_18_2, rf_18_3, rf_23_0, rf_23_1, rf_23_2, rf_23_3, rf_31_0, rf_33_0, rf_33_2, rf_33_3, rf_33_4, rf_37_0, rf_39_0, rf_39_1, rf_39_2, rf_39_3, rf_40_0, rf_40_1, rf_40_2, rf_40_3, rf_47_3, rf_49_3, rf_51_3, rf_53_3, rf_55_1, rf_55_7, rf_55_8, rf_55_9, rf_55_11, rf_55_13, rf_55_14, rf_55_15, rf_55_17, rf_55_18, rf_55_19, rf_55_27, rf_55_28, rf_55_29, rf_55_30, rf_55_31, rf_55_32, rf_55_33, rf_55_34, rf_55_35, rf_55_36, rf_55_38, rf_55_44, rf_55_45, rf_55_46, rf_55_47, aL_2, aL_3, aL_5, aL_6, aL_7, aL_8, aL_9, aL_10, aL_14, aL_15, aL_16, aL_17, aL_19, aL_20, aL_21, aL_22, aL_24, aL_25, aL_26, aL_27, aL_28, aL_29, aL_30, aL_32, aL_34, aL_35, aL_36, aL_38, aL_39, aL_40, aL_41, aL_42, aL_43, aL_44, aL_45, aL_46, aL_48, aL_50, aL_52, aL_54, aL_56, aL_57, aL_58, aL_59, aL_60, aL_61, aL_62, aL_63, aL_64, aL_65, aL_66, aL_67, aL_68, aL_69, aL_70, aL_71, aL_72, aL_73, aL_74, aL_75, aL_76, aL_77, aL_78, aL_79, aL_80, aL_81, inb_nI, lit32, nI_clamp, nI_1, nI_add, if_pos, if_neg, b01_0, b01_1, Nat.add_sub_cancel, if_true, if_false, not_true_eq_false, not_false_eq_true, true_and, and_true, false_and, and_false, pk_sub, b01_n0, b01_n1, bI_t, bI_f, ofNat_nI, ck_d, Int32.lt_iff_toInt_lt, Int32.le_iff_toInt_le, i32_eq, nI_toInt, bI_b01, bI_0, decide_eq_true_eq, bI_tt, bI_ff, nI_prd, ↓reduceIte, iltT, iltF, ileT, ileF, ieqT, ieqF, dcT, dcF, or_true, or_false, true_or, false_or, e1, g12]
    | true =>
      have hd : ∀ i, i < n → gI σ 60 i = nI (d i) ∧ d i < c := fun i hi => let ⟨_, x, y⟩ := p4.2.2 rfl i hi; ⟨x, y⟩
      have hd5 : ∀ i, i < n → d i < 5 := fun i hi => by have := (hd i hi).2; omega
      have lb := lowK_bd (z := 0) b1 b2 hC hk (by omega) hd5
      obtain ⟨σ1, σ2, e1, e2, hA2, rc2, hRL, hg⟩ := s_ready hr b1 b2 p1 p2 hC hd h20
      have hr2 := hA2.ref hr
      obtain ⟨υ, e3, a3, hT⟩ := s_X9_costOf hr2 b1 b2 hC hk hRL hg hd5 Ag.rf
      obtain ⟨σ1', e1', a1', _⟩ := s_X9_findsChords hr p2.m b2 hC
      have es : σ1 = σ1' := by rw [e1] at e1'; injection e1' with q; injection q with _ q
      have g12 : gI σ1 55 12 = bI true := by rw [es]; exact (a1'.2.1 55 12 (by unfold SR; omega)).trans f12
      have t21 := low_nI hT.1 lb.1
      have t22 := hT.2.1
      have t23 := hT.2.2.1
      refine ⟨υ, ?_, hA2.tr (a3.mono (fun p k z => Or.inr (Or.inr z)) (fun _ _ z => z)), (a3.2.1 55 16 (by unfold SL; omega)).trans rc2.1⟩
      unfold f_X9_chordBy f_X9_chordBy_L112 chV
      rcases (show w = 3 ∨ w = 4 ∨ w = 5 ∨ w = 6 by omega) with rfl | rfl | rfl | rfl
      · simp (disch := first | assumption | omega) only [↓lB_eq, ↓bd_m, ck_tt, gI_pI, gI_pL, gI_pR, gL_pI, gL_pL, gL_pR, gR_pI, gR_pL, rf_0_0, rf_0_1, rf_0_2, rf_0_3, rf_0_4, rf_0_5, rf_0_6, rf_0_7, rf_0_8, rf_0_9, rf_0_10, rf_1_1, rf_1_2, rf_4_0, rf_4_1, rf_4_2, rf_4_3, rf_4_4, rf_4_5, rf_11_0, rf_11_1, rf_12_0, rf_12_1, rf_12_2, rf_12_6, rf_12_7, rf_12_8, rf_13_0, rf_13_1, rf_13_2, rf_13_3, rf_18_0, rf_18_1, rf_18_2, rf_18_3, rf_23_0, rf_23_1, rf_23_2, rf_23_3, rf_31_0, rf_33_0, rf_33_2, rf_33_3, rf_33_4, rf_37_0, rf_39_0, rf_39_1, rf_39_2, rf_39_3, rf_40_0, rf_40_1, rf_40_2, rf_40_3, rf_47_3, rf_49_3, rf_51_3, rf_53_3, rf_55_1, rf_55_7, rf_55_8, rf_55_9, rf_55_11, rf_55_13, rf_55_14, rf_55_15, rf_55_17, rf_55_18, rf_55_19, rf_55_27, rf_55_28, rf_55_29, rf_55_30, rf_55_31, rf_55_32, rf_55_33, rf_55_34, rf_55_35, rf_55_36, rf_55_38, rf_55_44, rf_55_45, rf_55_46, rf_55_47, aL_2, aL_3, aL_5, aL_6, aL_7, aL_8, aL_9, aL_10, aL_14, aL_15, aL_16, aL_17, aL_19, aL_20, aL_21, aL_22, aL_24, aL_25, aL_26, aL_27, aL_28, aL_29, aL_30, aL_32, aL_34, aL_35, aL_36, aL_38, aL_39, aL_40, aL_41, aL_42, aL_43, aL_44, aL_45, aL_46, aL_48, aL_50, aL_52, aL_54, aL_56, aL_57, aL_58, aL_59, aL_60, aL_61, aL_62, aL_63, aL_64, aL_65, aL_66, aL_67, aL_68, aL_69, aL_70, aL_71, aL_72, aL_73, aL_74, aL_75, aL_76, aL_77, aL_78, aL_79, aL_80, aL_81, inb_nI, lit32, nI_clamp, nI_1, nI_add, if_pos, if_neg, b01_0, b01_1, Nat.add_sub_cancel, if_true, if_false, not_true_eq_false, not_false_eq_true, true_and, and_true, false_and, and_false, pk_sub, b01_n0, b01_n1, bI_t, bI_f, ofNat_nI, ck_d, Int32.lt_iff_toInt_lt, Int32.le_iff_toInt_le, i32_eq, nI_toInt, bI_b01, bI_0, decide_eq_true_eq, bI_tt, bI_ff, nI_prd, ↓reduceIte, iltT, iltF, ileT, ileF, ieqT, ieqF, dcT, dcF, or_true, or_false, true_or, false_or, e1, g12, e2, e3, t21]
        rfl
      · simp (disch := first | assumption | omega) only [↓lB_eq, ↓bd_m, ck_tt, gI_pI, gI_pL, gI_pR, gL_pI, gL_pL, gL_pR, gR_pI, gR_pL, rf_0_0, rf_0_1, rf_0_2, rf_0_3, rf_0_4, rf_0_5, rf_0_6, rf_0_7, rf_0_8, rf_0_9, rf_0_10, rf_1_1, rf_1_2, rf_4_0, rf_4_1, rf_4_2, rf_4_3, rf_4_4, rf_4_5, rf_11_0, rf_11_1, rf_12_0, rf_12_1, rf_12_2, rf_12_6, rf_12_7, rf_12_8, rf_13_0, rf_13_1, rf_13_2, rf_13_3, rf_18_0, rf_18_1, rf_18_2, rf_18_3, rf_23_0, rf_23_1, rf_23_2, rf_23_3, rf_31_0, rf_33_0, rf_33_2, rf_33_3, rf_33_4, rf_37_0, rf_39_0, rf_39_1, rf_39_2, rf_39_3, rf_40_0, rf_40_1, rf_40_2, rf_40_3, rf_47_3, rf_49_3, rf_51_3, rf_53_3, rf_55_1, rf_55_7, rf_55_8, rf_55_9, rf_55_11, rf_55_13, rf_55_14, rf_55_15, rf_55_17, rf_55_18, rf_55_19, rf_55_27, rf_55_28, rf_55_29, rf_55_30, rf_55_31, rf_55_32, rf_55_33, rf_55_34, rf_55_35, rf_55_36, rf_55_38, rf_55_44, rf_55_45, rf_55_46, rf_55_47, aL_2, aL_3, aL_5, aL_6, aL_7, aL_8, aL_9, aL_10, aL_14, aL_15, aL_16, aL_17, aL_19, aL_20, aL_21, aL_22, aL_24, aL_25, aL_26, aL_27, aL_28, aL_29, aL_30, aL_32, aL_34, aL_35, aL_36, aL_38, aL_39, aL_40, aL_41, aL_42, aL_43, aL_44, aL_45, aL_46, aL_48, aL_50, aL_52, aL_54, aL_56, aL_57, aL_58, aL_59, aL_60, aL_61, aL_62, aL_63, aL_64, aL_65, aL_66, aL_67, aL_68, aL_69, aL_70, aL_71, aL_72, aL_73, aL_74, aL_75, aL_76, aL_77, aL_78, aL_79, aL_80, aL_81, inb_nI, lit32, nI_clamp, nI_1, nI_add, if_pos, if_neg, b01_0, b01_1, Nat.add_sub_cancel, if_true, if_false, not_true_eq_false, not_false_eq_true, true_and, and_true, false_and, and_false, pk_sub, b01_n0, b01_n1, bI_t, bI_f, ofNat_nI, ck_d, Int32.lt_iff_toInt_lt, Int32.le_iff_toInt_le, i32_eq, nI_toInt, bI_b01, bI_0, decide_eq_true_eq, bI_tt, bI_ff, nI_prd, ↓reduceIte, iltT, iltF, ileT, ileF, ieqT, ieqF, dcT, dcF, or_true, or_false, true_or, false_or, e1, g12, e2, e3, t22]
        rfl
      · cases q : barK o tm pt ls fs 0 k d with
        | true =>
          rw [q] at t23
          simp (disch := first | assumption | omega) only [↓lB_eq, ↓bd_m, ck_tt, gI_pI, gI_pL, gI_pR, gL_pI, gL_pL, gL_pR, gR_pI, gR_pL, rf_0_0, rf_0_1, rf_0_2, rf_0_3, rf_0_4, rf_0_5, rf_0_6, rf_0_7, rf_0_8, rf_0_9, rf_0_10, rf_1_1, rf_1_2, rf_4_0, rf_4_1, rf_4_2, rf_4_3, rf_4_4, rf_4_5, rf_11_0, rf_11_1, rf_12_0, rf_12_1, rf_12_2, rf_12_6, rf_12_7, rf_12_8, rf_13_0, rf_13_1, rf_13_2, rf_13_3, rf_18_0, rf_18_1, rf_18_2, rf_18_3, rf_23_0, rf_23_1, rf_23_2, rf_23_3, rf_31_0, rf_33_0, rf_33_2, rf_33_3, rf_33_4, rf_37_0, rf_39_0, rf_39_1, rf_39_2, rf_39_3, rf_40_0, rf_40_1, rf_40_2, rf_40_3, rf_47_3, rf_49_3, rf_51_3, rf_53_3, rf_55_1, rf_55_7, rf_55_8, rf_55_9, rf_55_11, rf_55_13, rf_55_14, rf_55_15, rf_55_17, rf_55_18, rf_55_19, rf_55_27, rf_55_28, rf_55_29, rf_55_30, rf_55_31, rf_55_32, rf_55_33, rf_55_34, rf_55_35, rf_55_36, rf_55_38, rf_55_44, rf_55_45, rf_55_46, rf_55_47, aL_2, aL_3, aL_5, aL_6, aL_7, aL_8, aL_9, aL_10, aL_14, aL_15, aL_16, aL_17, aL_19, aL_20, aL_21, aL_22, aL_24, aL_25, aL_26, aL_27, aL_28, aL_29, aL_30, aL_32, aL_34, aL_35, aL_36, aL_38, aL_39, aL_40, aL_41, aL_42, aL_43, aL_44, aL_45, aL_46, aL_48, aL_50, aL_52, aL_54, aL_56, aL_57, aL_58, aL_59, aL_60, aL_61, aL_62, aL_63, aL_64, aL_65, aL_66, aL_67, aL_68, aL_69, aL_70, aL_71, aL_72, aL_73, aL_74, aL_75, aL_76, aL_77, aL_78, aL_79, aL_80, aL_81, inb_nI, lit32, nI_clamp, nI_1, nI_add, if_pos, if_neg, b01_0, b01_1, Nat.add_sub_cancel, if_true, if_false, not_true_eq_false, not_false_eq_true, true_and, and_true, false_and, and_false, pk_sub, b01_n0, b01_n1, bI_t, bI_f, ofNat_nI, ck_d, Int32.lt_iff_toInt_lt, Int32.le_iff_toInt_le, i32_eq, nI_toInt, bI_b01, bI_0, decide_eq_true_eq, bI_tt, bI_ff, nI_prd, ↓reduceIte, iltT, iltF, ileT, ileF, ieqT, ieqF, dcT, dcF, or_true, or_false, true_or, false_or, e1, g12, e2, e3, t23]
          rfl
        | false =>
          rw [q] at t23
          simp (disch := first | assumption | omega) only [↓lB_eq, ↓bd_m, ck_tt, gI_pI, gI_pL, gI_pR, gL_pI, gL_pL, gL_pR, gR_pI, gR_pL, rf_0_0, rf_0_1, rf_0_2, rf_0_3, rf_0_4, rf_0_5, rf_0_6, rf_0_7, rf_0_8, rf_0_9, rf_0_10, rf_1_1, rf_1_2, rf_4_0, rf_4_1, rf_4_2, rf_4_3, rf_4_4, rf_4_5, rf_11_0, rf_11_1, rf_12_0, rf_12_1, rf_12_2, rf_12_6, rf_12_7, rf_12_8, rf_13_0, rf_13_1, rf_13_2, rf_13_3, rf_18_0, rf_18_1, rf_18_2, rf_18_3, rf_23_0, rf_23_1, rf_23_2, rf_23_3, rf_31_0, rf_33_0, rf_33_2, rf_33_3, rf_33_4, rf_37_0, rf_39_0, rf_39_1, rf_39_2, rf_39_3, rf_40_0, rf_40_1, rf_40_2, rf_40_3, rf_47_3, rf_49_3, rf_51_3, rf_53_3, rf_55_1, rf_55_7, rf_55_8, rf_55_9, rf_55_11, rf_55_13, rf_55_14, rf_55_15, rf_55_17, rf_55_18, rf_55_19, rf_55_27, rf_55_28, rf_55_29, rf_55_30, rf_55_31, rf_55_32, rf_55_33, rf_55_34, rf_55_35, rf_55_36, rf_55_38, rf_55_44, rf_55_45, rf_55_46, rf_55_47, aL_2, aL_3, aL_5, aL_6, aL_7, aL_8, aL_9, aL_10, aL_14, aL_15, aL_16, aL_17, aL_19, aL_20, aL_21, aL_22, aL_24, aL_25, aL_26, aL_27, aL_28, aL_29, aL_30, aL_32, aL_34, aL_35, aL_36, aL_38, aL_39, aL_40, aL_41, aL_42, aL_43, aL_44, aL_45, aL_46, aL_48, aL_50, aL_52, aL_54, aL_56, aL_57, aL_58, aL_59, aL_60, aL_61, aL_62, aL_63, aL_64, aL_65, aL_66, aL_67, aL_68, aL_69, aL_70, aL_71, aL_72, aL_73, aL_74, aL_75, aL_76, aL_77, aL_78, aL_79, aL_80, aL_81, inb_nI, lit32, nI_clamp, nI_1, nI_add, if_pos, if_neg, b01_0, b01_1, Nat.add_sub_cancel, if_true, if_false, not_true_eq_false, not_false_eq_true, true_and, and_true, false_and, and_false, pk_sub, b01_n0, b01_n1, bI_t, bI_f, ofNat_nI, ck_d, Int32.lt_iff_toInt_lt, Int32.le_iff_toInt_le, i32_eq, nI_toInt, bI_b01, bI_0, decide_eq_true_eq, bI_tt, bI_ff, nI_prd, ↓reduceIte, iltT, iltF, ileT, ileF, ieqT, ieqF, dcT, dcF, or_true, or_false, true_or, false_or, e1, g12, e2, e3, t23]
          rfl
      · simp (disch := first | assumption | omega) only [↓lB_eq, ↓bd_m, ck_tt, gI_pI, gI_pL, gI_pR, gL_pI, gL_pL, gL_pR, gR_pI, gR_pL, rf_0_0, rf_0_1, rf_0_2, rf_0_3, rf_0_4, rf_0_5, rf_0_6, rf_0_7, rf_0_8, rf_0_9, rf_0_10, rf_1_1, rf_1_2, rf_4_0, rf_4_1, rf_4_2, rf_4_3, rf_4_4, rf_4_5, rf_11_0, rf_11_1, rf_12_0, rf_12_1, rf_12_2, rf_12_6, rf_12_7, rf_12_8, rf_13_0, rf_13_1, rf_13_2, rf_13_3, rf_18_0, rf_18_1, rf_18_2, rf_18_3, rf_23_0, rf_23_1, rf_23_2, rf_23_3, rf_31_0, rf_33_0, rf_33_2, rf_33_3, rf_33_4, rf_37_0, rf_39_0, rf_39_1, rf_39_2, rf_39_3, rf_40_0, rf_40_1, rf_40_2, rf_40_3, rf_47_3, rf_49_3, rf_51_3, rf_53_3, rf_55_1, rf_55_7, rf_55_8, rf_55_9, rf_55_11, rf_55_13, rf_55_14, rf_55_15, rf_55_17, rf_55_18, rf_55_19, rf_55_27, rf_55_28, rf_55_29, rf_55_30, rf_55_31, rf_55_32, rf_55_33, rf_55_34, rf_55_35, rf_55_36, rf_55_38, rf_55_44, rf_55_45, rf_55_46, rf_55_47, aL_2, aL_3, aL_5, aL_6, aL_7, aL_8, aL_9, aL_10, aL_14, aL_15, aL_16, aL_17, aL_19, aL_20, aL_21, aL_22, aL_24, aL_25, aL_26, aL_27, aL_28, aL_29, aL_30, aL_32, aL_34, aL_35, aL_36, aL_38, aL_39, aL_40, aL_41, aL_42, aL_43, aL_44, aL_45, aL_46, aL_48, aL_50, aL_52, aL_54, aL_56, aL_57, aL_58, aL_59, aL_60, aL_61, aL_62, aL_63, aL_64, aL_65, aL_66, aL_67, aL_68, aL_69, aL_70, aL_71, aL_72, aL_73, aL_74, aL_75, aL_76, aL_77, aL_78, aL_79, aL_80, aL_81, inb_nI, lit32, nI_clamp, nI_1, nI_add, if_pos, if_neg, b01_0, b01_1, Nat.add_sub_cancel, if_true, if_false, not_true_eq_false, not_false_eq_true, true_and, and_true, false_and, and_false, pk_sub, b01_n0, b01_n1, bI_t, bI_f, ofNat_nI, ck_d, Int32.lt_iff_toInt_lt, Int32.le_iff_toInt_le, i32_eq, nI_toInt, bI_b01, bI_0, decide_eq_true_eq, bI_tt, bI_ff, nI_prd, ↓reduceIte, iltT, iltF, ileT, ileF, ieqT, ieqF, dcT, dcF, or_true, or_false, true_or, false_or, e1, g12, e2, e3]
        rfl
  · obtain ⟨σ1, e1, a1, rc1⟩ := s_X9_findsChords hr p2.m b2 hC
    have hr1 := a1.ref hr
    refine ⟨σ1, ?_, a1.mono (fun p k z => Or.inl z) (fun _ _ z => z), rc1.1⟩
    have t63 := rc1.2.1 k hk
    have t65 := rc1.2.2.1 k hk
    have l1 := hC.2.2.1 k hk
    have l2 := hC.le (k := k + 1) (by omega)
    have hb := s_X9_beginAt (a := tm (fs k)) hr1 (p2.m.ag a1 (by unfold SR; omega) (fun p k h1 h2 z => by unfold SR at z; omega)) b2 (b2.2.1 (fs k) (by omega)).1
    rw [hC.cnt3 hk] at hb
    unfold f_X9_chordBy f_X9_chordBy_L46 chV
    rcases (show w = 0 ∨ w = 1 ∨ w = 2 by omega) with rfl | rfl | rfl
    · simp (disch := first | assumption | omega) only [↓lB_eq, ↓bd_m, ck_tt, gI_pI, gI_pL, gI_pR, gL_pI, gL_pL, gL_pR, gR_pI, gR_pL, rf_0_0, rf_0_1, rf_0_2, rf_0_3, rf_0_4, rf_0_5, rf_0_6, rf_0_7, rf_0_8, rf_0_9, rf_0_10, rf_1_1, rf_1_2, rf_4_0, rf_4_1, rf_4_2, rf_4_3, rf_4_4, rf_4_5, rf_11_0, rf_11_1, rf_12_0, rf_12_1, rf_12_2, rf_12_6, rf_12_7, rf_12_8, rf_13_0, rf_13_1, rf_13_2, rf_13_3, rf_18_0, rf_18_1, rf_18_2, rf_18_3, rf_23_0, rf_23_1, rf_23_2, rf_23_3, rf_31_0, rf_33_0, rf_33_2, rf_33_3, rf_33_4, rf_37_0, rf_39_0, rf_39_1, rf_39_2, rf_39_3, rf_40_0, rf_40_1, rf_40_2, rf_40_3, rf_47_3, rf_49_3, rf_51_3, rf_53_3, rf_55_1, rf_55_7, rf_55_8, rf_55_9, rf_55_11, rf_55_13, rf_55_14, rf_55_15, rf_55_17, rf_55_18, rf_55_19, rf_55_27, rf_55_28, rf_55_29, rf_55_30, rf_55_31, rf_55_32, rf_55_33, rf_55_34, rf_55_35, rf_55_36, rf_55_38, rf_55_44, rf_55_45, rf_55_46, rf_55_47, aL_2, aL_3, aL_5, aL_6, aL_7, aL_8, aL_9, aL_10, aL_14, aL_15, aL_16, aL_17, aL_19, aL_20, aL_21, aL_22, aL_24, aL_25, aL_26, aL_27, aL_28, aL_29, aL_30, aL_32, aL_34, aL_35, aL_36, aL_38, aL_39, aL_40, aL_41, aL_42, aL_43, aL_44, aL_45, aL_46, aL_48, aL_50, aL_52, aL_54, aL_56, aL_57, aL_58, aL_59, aL_60, aL_61, aL_62, aL_63, aL_64, aL_65, aL_66, aL_67, aL_68, aL_69, aL_70, aL_71, aL_72, aL_73, aL_74, aL_75, aL_76, aL_77, aL_78, aL_79, aL_80, aL_81, inb_nI, lit32, nI_clamp, nI_1, nI_add, if_pos, if_neg, b01_0, b01_1, Nat.add_sub_cancel, if_true, if_false, not_true_eq_false, not_false_eq_true, true_and, and_true, false_and, and_false, pk_sub, b01_n0, b01_n1, bI_t, bI_f, ofNat_nI, ck_d, Int32.lt_iff_toInt_lt, Int32.le_iff_toInt_le, i32_eq, nI_toInt, bI_b01, bI_0, decide_eq_true_eq, bI_tt, bI_ff, nI_prd, ↓reduceIte, iltT, iltF, ileT, ileF, ieqT, ieqF, dcT, dcF, or_true, or_false, true_or, false_or, e1, t63]
    · simp (disch := first | assumption | omega) only [↓lB_eq, ↓bd_m, ck_tt, gI_pI, gI_pL, gI_pR, gL_pI, gL_pL, gL_pR, gR_pI, gR_pL, rf_0_0, rf_0_1, rf_0_2, rf_0_3, rf_0_4, rf_0_5, rf_0_6, rf_0_7, rf_0_8, rf_0_9, rf_0_10, rf_1_1, rf_1_2, rf_4_0, rf_4_1, rf_4_2, rf_4_3, rf_4_4, rf_4_5, rf_11_0, rf_11_1, rf_12_0, rf_12_1, rf_12_2, rf_12_6, rf_12_7, rf_12_8, rf_13_0, rf_13_1, rf_13_2, rf_13_3, rf_18_0, rf_18_1, rf_18_2, rf_18_3, rf_23_0, rf_23_1, rf_23_2, rf_23_3, rf_31_0, rf_33_0, rf_33_2, rf_33_3, rf_33_4, rf_37_0, rf_39_0, rf_39_1, rf_39_2, rf_39_3, rf_40_0, rf_40_1, rf_40_2, rf_40_3, rf_47_3, rf_49_3, rf_51_3, rf_53_3, rf_55_1, rf_55_7, rf_55_8, rf_55_9, rf_55_11, rf_55_13, rf_55_14, rf_55_15, rf_55_17, rf_55_18, rf_55_19, rf_55_27, rf_55_28, rf_55_29, rf_55_30, rf_55_31, rf_55_32, rf_55_33, rf_55_34, rf_55_35, rf_55_36, rf_55_38, rf_55_44, rf_55_45, rf_55_46, rf_55_47, aL_2, aL_3, aL_5, aL_6, aL_7, aL_8, aL_9, aL_10, aL_14, aL_15, aL_16, aL_17, aL_19, aL_20, aL_21, aL_22, aL_24, aL_25, aL_26, aL_27, aL_28, aL_29, aL_30, aL_32, aL_34, aL_35, aL_36, aL_38, aL_39, aL_40, aL_41, aL_42, aL_43, aL_44, aL_45, aL_46, aL_48, aL_50, aL_52, aL_54, aL_56, aL_57, aL_58, aL_59, aL_60, aL_61, aL_62, aL_63, aL_64, aL_65, aL_66, aL_67, aL_68, aL_69, aL_70, aL_71, aL_72, aL_73, aL_74, aL_75, aL_76, aL_77, aL_78, aL_79, aL_80, aL_81, inb_nI, lit32, nI_clamp, nI_1, nI_add, if_pos, if_neg, b01_0, b01_1, Nat.add_sub_cancel, if_true, if_false, not_true_eq_false, not_false_eq_true, true_and, and_true, false_and, and_false, pk_sub, b01_n0, b01_n1, bI_t, bI_f, ofNat_nI, ck_d, Int32.lt_iff_toInt_lt, Int32.le_iff_toInt_le, i32_eq, nI_toInt, bI_b01, bI_0, decide_eq_true_eq, bI_tt, bI_ff, nI_prd, ↓reduceIte, iltT, iltF, ileT, ileF, ieqT, ieqF, dcT, dcF, or_true, or_false, true_or, false_or, e1, t63, hb]
    · simp (disch := first | assumption | omega) only [↓lB_eq, ↓bd_m, ck_tt, gI_pI, gI_pL, gI_pR, gL_pI, gL_pL, gL_pR, gR_pI, gR_pL, rf_0_0, rf_0_1, rf_0_2, rf_0_3, rf_0_4, rf_0_5, rf_0_6, rf_0_7, rf_0_8, rf_0_9, rf_0_10, rf_1_1, rf_1_2, rf_4_0, rf_4_1, rf_4_2, rf_4_3, rf_4_4, rf_4_5, rf_11_0, rf_11_1, rf_12_0, rf_12_1, rf_12_2, rf_12_6, rf_12_7, rf_12_8, rf_13_0, rf_13_1, rf_13_2, rf_13_3, rf_18_0, rf_18_1, rf_18_2, rf_18_3, rf_23_0, rf_23_1, rf_23_2, rf_23_3, rf_31_0, rf_33_0, rf_33_2, rf_33_3, rf_33_4, rf_37_0, rf_39_0, rf_39_1, rf_39_2, rf_39_3, rf_40_0, rf_40_1, rf_40_2, rf_40_3, rf_47_3, rf_49_3, rf_51_3, rf_53_3, rf_55_1, rf_55_7, rf_55_8, rf_55_9, rf_55_11, rf_55_13, rf_55_14, rf_55_15, rf_55_17, rf_55_18, rf_55_19, rf_55_27, rf_55_28, rf_55_29, rf_55_30, rf_55_31, rf_55_32, rf_55_33, rf_55_34, rf_55_35, rf_55_36, rf_55_38, rf_55_44, rf_55_45, rf_55_46, rf_55_47, aL_2, aL_3, aL_5, aL_6, aL_7, aL_8, aL_9, aL_10, aL_14, aL_15, aL_16, aL_17, aL_19, aL_20, aL_21, aL_22, aL_24, aL_25, aL_26, aL_27, aL_28, aL_29, aL_30, aL_32, aL_34, aL_35, aL_36, aL_38, aL_39, aL_40, aL_41, aL_42, aL_43, aL_44, aL_45, aL_46, aL_48, aL_50, aL_52, aL_54, aL_56, aL_57, aL_58, aL_59, aL_60, aL_61, aL_62, aL_63, aL_64, aL_65, aL_66, aL_67, aL_68, aL_69, aL_70, aL_71, aL_72, aL_73, aL_74, aL_75, aL_76, aL_77, aL_78, aL_79, aL_80, aL_81, inb_nI, lit32, nI_clamp, nI_1, nI_add, if_pos, if_neg, b01_0, b01_1, Nat.add_sub_cancel, if_true, if_false, not_true_eq_false, not_false_eq_true, true_and, and_true, false_and, and_false, pk_sub, b01_n0, b01_n1, bI_t, bI_f, ofNat_nI, ck_d, Int32.lt_iff_toInt_lt, Int32.le_iff_toInt_le, i32_eq, nI_toInt, bI_b01, bI_0, decide_eq_true_eq, bI_tt, bI_ff, nI_prd, ↓reduceIte, iltT, iltF, ileT, ileF, ieqT, ieqF, dcT, dcF, or_true, or_false, true_or, false_or, e1, t65]
section
variable {c n nk t : Nat} {o g tm pt ls fs d tb : Nat → Nat} {il : Bool} {σ0 : Sg}
theorem mixX {R : Type} {B : (Int64 × Int32 × Sg → Option R) → Int64 × Int32 × Sg → Option R} (X : Sg → Prop) (m : Nat) (ix : Nat → Int32) (G : Nat → Int64 → Int64) (K : Int64 → Sg → Option R) (hm : m < 1000) (hs : ∀ i, i < m → ∀ h σ, EnvS σ c n nk t o g tm pt ls fs d tb il → FrD σ0 σ → X σ → ∀ rec, ∃ τ, B rec (h, ix i, σ) = rec (G i h, ix (i + 1), τ) ∧ FrD σ τ ∧ P9 τ c o g tm pt ls nk fs ∧ X τ) (he : ∀ h σ, EnvS σ c n nk t o g tm pt ls fs d tb il → FrD σ0 σ → X σ → ∀ rec, B rec (h, ix m, σ) = K h σ) (h : Int64) (σ : Sg) (hE : EnvS σ c n nk t o g tm pt ls fs d tb il) (hF : FrD σ0 σ) (hX : X σ) : ∃ τ, fx B FU (h, ix 0, σ) = K (itG G h m) τ ∧ FrD σ τ ∧ P9 τ c o g tm pt ls nk fs ∧ X τ := by
  refine fx_inv2 (I := fun i s => ∃ τ, s = (itG G h i, ix i, τ) ∧ FrD σ τ ∧ P9 τ c o g tm pt ls nk fs ∧ X τ) (Q := fun e => ∃ τ, e = K (itG G h m) τ ∧ FrD σ τ ∧ P9 τ c o g tm pt ls nk fs ∧ X τ) (n := m) ?_ ?_ m 0 FU _ (by omega) (by unfold FU; omega) ⟨σ, rfl, FrD.rf hE.1, hE.2.2.2.2.2.2.2.2.2, hX⟩
  · rintro i s hi ⟨τ, rfl, f, q, x⟩ rec
    obtain ⟨υ, e, f', q', x'⟩ := hs i hi (itG G h i) τ (hE.fr f q) (hF.tr f) x rec
    left
    exact ⟨(itG G h (i + 1), ix (i + 1), υ), ⟨υ, rfl, f.tr f', q', x'⟩, e⟩
  · rintro s ⟨τ, rfl, f, q, x⟩ rec
    exact ⟨K (itG G h m) τ, ⟨τ, rfl, f, q, x⟩, he _ τ (hE.fr f q) (hF.tr f) x rec⟩
theorem le_k {i m : Nat} (h : i < m) (hm : m < 1000) (x : Int32) (hx : x.toInt = (m : Int)) : ¬ x ≤ nI i := by
  rw [Int32.le_iff_toInt_le, nI_toInt (by omega), hx]; omega
theorem gt_k {m : Nat} (hm : m < 1000) (x : Int32) (hx : x.toInt = (m : Int)) : x ≤ nI m := by
  rw [Int32.le_iff_toInt_le, nI_toInt (by omega), hx]; omega
theorem d_chordsM {h : Int64} (hnk : nk ≤ 14) {σ : Sg} (hE : EnvS σ c n nk t o g tm pt ls fs d tb il) (hF : FrD σ0 σ) (h16 : gI σ 55 16 = nI nk) : ∃ τ, fx (f_X9_partsDigest_L123 55) FU (h, nI 0, σ) = some (dg5 n nk o g tm pt ls fs d il h, τ) ∧ FrD σ τ ∧ P9 τ c o g tm pt ls nk fs := by
  obtain ⟨τ, e, f, q, _⟩ := mixX (σ0 := σ0) (B := f_X9_partsDigest_L123 55) (fun σ => gI σ 55 16 = nI nk) nk nI (fun k h => itG (mxG (chV n o g tm pt ls fs d il k)) h 7) (fun h σ => some (h, σ)) (by omega) (fun i hi h σ hE hF hX rec => by
      obtain ⟨τ, e, f, q, x⟩ := mixX (σ0 := σ0) (B := f_X9_partsDigest_L135 rec 55 (nI i)) (fun σ => gI σ 55 16 = nI nk) 7 nI (mxG (chV n o g tm pt ls fs d il i)) (fun h σ => rec (h, nI (i + 1), σ)) (by omega) (fun w hw h σ hE hF hX rec' => by
          obtain ⟨hr, b1, b2, p1, p2, p3, p4, p6, p8, p9⟩ := id hE
          obtain ⟨τ, e, a, x⟩ := s_X9_chordBy2 (w := w) hr b1 b2 p1 p2 p3.1 p4 p8.2 hi (by omega)
          have hSc : ∀ p k, (SR p k ∨ p = 66 ∨ SL p k) → Sc p k := fun p k y => by unfold SR SL at y; unfold Sc; omega
          refine ⟨τ, ?_, FrD.ag hr a hSc (fun _ _ y => False.elim y), (hE.ag a hSc (fun _ _ y => False.elim y)).2.2.2.2.2.2.2.2.2, x⟩
          unfold f_X9_partsDigest_L135
          dsimp only
          rw [if_neg (le_k hw (by omega) 7 rfl), e, bd_eq, lB_eq, lB_eq, nI_1]
          rfl) (fun h σ hE hF hX rec' => by
          unfold f_X9_partsDigest_L135
          dsimp only
          rw [if_pos (gt_k (m := 7) (by omega) 7 rfl), lB_eq, nI_1]) h σ hE hF hX
      refine ⟨τ, ?_, f, q, x⟩
      rw [← e]
      unfold f_X9_partsDigest_L123
      dsimp only
      rw [hX, if_neg (by rw [Int32.le_iff_toInt_le, nI_toInt (by omega), nI_toInt (by omega)]; omega)]
      rfl) (fun h σ hE hF hX rec => by
      unfold f_X9_partsDigest_L123
      dsimp only
      rw [hX, if_pos (by rw [Int32.le_iff_toInt_le]; exact Int.le_refl _)]) h σ hE hF h16
  exact ⟨τ, e, f, q⟩
theorem d_notesM {h : Int64} {iv : Nat → Nat → Int32} (hn : n ≤ 14) (hnk : nk ≤ 14) (hiv : ∀ i, i < n → ∀ w, w ≤ 5 → CV σ0 c n nk t o g tm pt ls fs d tb il (f_X9_infoOf 55 (nI i) (nI w)) (iv i w)) {σ : Sg} (hE : EnvS σ c n nk t o g tm pt ls fs d tb il) (hF : FrD σ0 σ) : ∃ τ, fx (f_X9_partsDigest_L69 55) FU (h, nI 0, σ) = some (dg5 n nk o g tm pt ls fs d il (dg4 n iv h), τ) ∧ FrD σ τ ∧ P9 τ c o g tm pt ls nk fs := by
  obtain ⟨τ1, e1, f1, q1⟩ := mixL (σ0 := σ0) (B := f_X9_partsDigest_L69 55) n nI (fun i h => itG (mxG (iv i)) h 6) (fun h σ => bd (f_X9_findsChords 55 σ) fun _ s1 => fx (f_X9_partsDigest_L123 55) FU (h, (0 : Int32), s1)) (by omega) (fun i hi h σ hE hF rec => by
      obtain ⟨τ, e, f, q⟩ := mixL (σ0 := σ0) (B := f_X9_partsDigest_L81 rec 55 (nI i)) 6 nI (mxG (iv i)) (fun h σ => rec (h, nI (i + 1), σ)) (by omega) (fun w hw h σ hE hF rec' => by
          obtain ⟨τ, e, f, q⟩ := hiv i hi w (by omega) σ hE hF
          refine ⟨τ, ?_, f, q⟩
          unfold f_X9_partsDigest_L81
          dsimp only
          rw [if_neg (le_k hw (by omega) 6 rfl), e, bd_eq, lB_eq, lB_eq, nI_1]
          rfl) (fun h σ hE hF rec' => by
          unfold f_X9_partsDigest_L81
          dsimp only
          rw [if_pos (gt_k (m := 6) (by omega) 6 rfl), lB_eq, nI_1]) h σ hE hF
      refine ⟨τ, ?_, f, q⟩
      rw [← e]
      unfold f_X9_partsDigest_L69
      dsimp only
      rw [hE.2.2.2.2.1.2.1, if_neg (by rw [Int32.le_iff_toInt_le, nI_toInt (by omega), nI_toInt (by omega)]; omega)]
      rfl) (fun h σ hE hF rec => by
      unfold f_X9_partsDigest_L69
      dsimp only
      rw [hE.2.2.2.2.1.2.1, if_pos (by rw [Int32.le_iff_toInt_le]; exact Int.le_refl _)]) h σ hE hF
  have hE1 := hE.fr f1 q1
  have hF1 := hF.tr f1
  obtain ⟨τ2, e2, a2, rc2⟩ := s_X9_findsChords hE1.1 hE1.2.2.2.2.1.m hE1.2.2.1 hE1.2.2.2.2.2.1.1
  have hSc : ∀ p k, SR p k → Sc p k := fun p k y => by unfold SR at y; unfold Sc; omega
  have hE2 := hE1.ag a2 hSc (fun _ _ y => False.elim y)
  have f2 := FrD.ag hE1.1 a2 hSc (fun _ _ y => False.elim y)
  rw [e2, bd_eq] at e1
  obtain ⟨τ3, e3, f3, q3⟩ := d_chordsM (σ0 := σ0) (h := dg4 n iv h) hnk hE2 (hF1.tr f2) rc2.1
  exact ⟨τ3, e1.trans e3, (f1.tr f2).tr f3, q3⟩
theorem d_parts {h : Int64} {iv : Nat → Nat → Int32} (hn : n ≤ 14) (hnk : nk ≤ 14) (hc5 : c ≤ 5) (hiv : ∀ i, i < n → ∀ w, w ≤ 5 → CV σ0 c n nk t o g tm pt ls fs d tb il (f_X9_infoOf 55 (nI i) (nI w)) (iv i w)) : CV σ0 c n nk t o g tm pt ls fs d tb il (f_X9_partsDigest 55 h) (dg5 n nk o g tm pt ls fs d il (dg4 n iv (dg3 c n nk o g tm pt ls fs d il h))) := fun σ hE hF => by
  unfold f_X9_partsDigest
  obtain ⟨τ1, e1, f1, q1⟩ := mixL (σ0 := σ0) (B := f_X9_partsDigest_L5 55) c nI (fun j h => 31 * (itG (mxG (fun w => nI (if w = 0 then o j else cntB (crsB o g pt d il w j) n))) h 3) + (lbV c nk o g tm pt ls fs 0 j).toInt64) (fun h σ => fx (f_X9_partsDigest_L69 55) FU (h, (0 : Int32), σ)) (by omega) (fun j hj h σ hE hF rec => by
      obtain ⟨τ, e, ff, q⟩ := mixL (σ0 := σ0) (B := f_X9_partsDigest_L17 rec 55 (nI j)) 3 nI (mxG (fun w => nI (if w = 0 then o j else cntB (crsB o g pt d il w j) n))) (fun h σ => bd (f_X9_leastBy 55 (nI j) (0 : Int32) σ) fun r2 s1 => lB ((((31 : Int64) * h) + r2.toInt64)) fun v3 => lB (nI j + (1 : Int32)) fun v4 => rec (v3, v4, s1)) (by omega) (fun w hw h σ hE hF rec' => by
          obtain ⟨τ, e, ff, q⟩ := (e_course (σ0 := σ0) hj (show w ≤ 2 by omega)).2 σ hE hF
          refine ⟨τ, ?_, ff, q⟩
          unfold f_X9_partsDigest_L17
          dsimp only
          rw [if_neg (le_k hw (by omega) 3 rfl), e, bd_eq, lB_eq, lB_eq, nI_1]
          rfl) (fun h σ hE hF rec' => by
          unfold f_X9_partsDigest_L17
          dsimp only
          rw [if_pos (gt_k (m := 3) (by omega) 3 rfl)]) h σ hE hF
      obtain ⟨τ', e', ff', q'⟩ := v_without (σ0 := σ0) (j := j) (by omega) τ (hE.fr ff q) (hF.tr ff)
      rw [e', bd_eq, lB_eq, lB_eq, nI_1] at e
      refine ⟨τ', ?_, ff.tr ff', q'⟩
      rw [← e]
      unfold f_X9_partsDigest_L5
      dsimp only
      rw [hE.2.2.2.1.2.1, if_neg (by rw [Int32.le_iff_toInt_le, nI_toInt (by omega), nI_toInt (by omega)]; omega)]
      rfl) (fun h σ hE hF rec => by
      unfold f_X9_partsDigest_L5
      dsimp only
      rw [hE.2.2.2.1.2.1, if_pos (by rw [Int32.le_iff_toInt_le]; exact Int.le_refl _)]) h σ hE hF
  obtain ⟨τ2, e2, f2, q2⟩ := d_notesM (σ0 := σ0) (h := dg3 c n nk o g tm pt ls fs d il h) hn hnk hiv (hE.fr f1 q1) (hF.tr f1)
  exact ⟨τ2, e1.trans e2, f1.tr f2, q2⟩
theorem d_ref {f : Nat → Bool} {cs : Int32} {iv : Nat → Nat → Int32} {dv : Nat → Int32} (hn : n ≤ 14) (hnk : nk ≤ n) (hc5 : c ≤ 5) (hf : ∀ s, s < 4 → gI σ0 62 s = bI (f s)) (hcs : CV σ0 c n nk t o g tm pt ls fs d tb il (f_X9_costNow 55) cs) (hiv : ∀ i, i < n → ∀ w, w ≤ 5 → CV σ0 c n nk t o g tm pt ls fs d tb il (f_X9_infoOf 55 (nI i) (nI w)) (iv i w)) (hdv : ∀ s, s < 4 → f s = true → CV σ0 c n nk t o g tm pt ls fs d tb il (f_X9_differOf 55 (nI s)) (dv s)) : CV σ0 c n nk t o g tm pt ls fs d tb il (f_X9_digest 55) (dgV σ0 c n nk t o g tm pt ls fs d tb il f cs iv dv) := fun σ hE hF => by
  unfold f_X9_digest dgV
  obtain ⟨τ1, e1, f1, q1⟩ := mixL (σ0 := σ0) (B := f_X9_digest_L6 55) 8 nI (mxG (ctV σ0 c n nk t o g tm pt ls fs d il f)) (fun h σ => bd (f_X9_least 55 σ) fun r2 s1 => lB ((((31 : Int64) * h) + r2.toInt64)) fun v3 => bd (f_X9_faultNow 55 s1) fun r5 s4 => lB ((((31 : Int64) * v3) + r5.toInt64)) fun v6 => bd (f_X9_costNow 55 s4) fun r8 s7 => lB ((((31 : Int64) * v6) + r8.toInt64)) fun v9 => bd (f_X9_partsDigest 55 v9 s7) fun r11 s10 => fx (f_X9_digest_L76 55) FU (r11, (-2 : Int32), s10)) (by omega) (fun w hw h σ hE hF rec => by
      obtain ⟨τ, e, ff, q⟩ := v_X9_count (σ0 := σ0) (f := f) hf (show w ≤ 8 by omega) σ hE hF
      refine ⟨τ, ?_, ff, q⟩
      unfold f_X9_digest_L6
      dsimp only
      rw [if_neg (le_k hw (by omega) 8 rfl), e, bd_eq, lB_eq, lB_eq, nI_1]
      rfl) (fun h σ hE hF rec => by
      unfold f_X9_digest_L6
      dsimp only
      rw [if_pos (gt_k (m := 8) (by omega) 8 rfl)]) 17 σ hE hF
  have hE1 := hE.fr f1 q1
  have hF1 := hF.tr f1
  obtain ⟨τ2, e2, f2, q2⟩ := v_X9_least (σ0 := σ0) τ1 hE1 hF1
  have hE2 := hE1.fr f2 q2
  have hF2 := hF1.tr f2
  obtain ⟨τ3, e3, f3, q3⟩ := v_faultNow (σ0 := σ0) τ2 hE2 hF2
  have hE3 := hE2.fr f3 q3
  have hF3 := hF2.tr f3
  obtain ⟨τ4, e4, f4, q4⟩ := hcs τ3 hE3 hF3
  have hE4 := hE3.fr f4 q4
  have hF4 := hF3.tr f4
  rw [e2, bd_eq, lB_eq, e3, bd_eq, lB_eq, e4, bd_eq, lB_eq] at e1
  have e1' : fx (f_X9_digest_L6 55) FU (17, nI 0, σ) = bd (f_X9_partsDigest 55 (dg2 σ0 c n nk t o g tm pt ls fs d il f cs) τ4) fun r11 s10 => fx (f_X9_digest_L76 55) FU (r11, (-2 : Int32), s10) := e1
  generalize dg2 σ0 c n nk t o g tm pt ls fs d il f cs = H2 at e1' ⊢
  obtain ⟨τ7, e7, f7, q7⟩ := d_parts (σ0 := σ0) (h := H2) hn (by omega) hc5 hiv τ4 hE4 hF4
  have hE7 := hE4.fr f7 q7
  have hF7 := hF4.tr f7
  rw [e7, bd_eq] at e1'
  generalize dg5 n nk o g tm pt ls fs d il (dg4 n iv (dg3 c n nk o g tm pt ls fs d il H2)) = H5 at e1' ⊢
  obtain ⟨τ8, e8, f8, q8⟩ := mixL (σ0 := σ0) (B := f_X9_digest_L76 55) 5 ixk (fun i h => 31 * h + (lbV c nk o g tm pt ls fs ((i : Int) - 2) 99).toInt64) (fun h σ => bd (f_X9_easiestOf 55 (0 : Int32) σ) fun r2 s1 => lB ((((31 : Int64) * h) + r2.toInt64)) fun v3 => bd (f_X9_easiestOf 55 (1 : Int32) s1) fun r5 s4 => lB ((((31 : Int64) * v3) + r5.toInt64)) fun v6 => bd (f_X9_flawNow 55 s4) fun r8 s7 => lB ((((31 : Int64) * v6) + r8.toInt64)) fun v9 => bd (f_X9_tablature 55 s7) fun r11 s10 => lB ((((31 : Int64) * v9) + r11.toInt64)) fun v12 => fx (f_X9_digest_L156 55 r11 s10) FU (v12, (0 : Int32))) (by omega) (fun i hi h σ hE hF rec => by
      have ti := ixk_t i (by omega)
      obtain ⟨τ, e, ff, q⟩ := v_leastBy (σ0 := σ0) (z := (i : Int) - 2) (x1 := -1) (x2 := ixk i) (by omega) ti m1_ban σ hE hF
      refine ⟨τ, ?_, ff, q⟩
      unfold f_X9_digest_L76
      dsimp only
      rw [if_neg (by rw [Int32.lt_iff_toInt_lt, ti, show (2 : Int32).toInt = 2 from rfl]; omega), e, bd_eq, lB_eq, lB_eq, ixk_s i hi]) (fun h σ hE hF rec => by
      unfold f_X9_digest_L76
      dsimp only
      rw [if_pos (by decide)]) H5 τ7 hE7 hF7
  have hE8 := hE7.fr f8 q8
  have hF8 := hF7.tr f8
  obtain ⟨τ9, e9, f9, q9⟩ := v_X9_ez (σ0 := σ0) (x := 0) τ8 hE8 hF8
  have hE9 := hE8.fr f9 q9
  have hF9 := hF8.tr f9
  obtain ⟨τ10, e10, f10, q10⟩ := v_X9_ez (σ0 := σ0) (x := 1) τ9 hE9 hF9
  have hE10 := hE9.fr f10 q10
  have hF10 := hF9.tr f10
  obtain ⟨τ11, e11, f11, q11⟩ := v_flawNow (σ0 := σ0) τ10 hE10 hF10
  have hE11 := hE10.fr f11 q11
  have hF11 := hF10.tr f11
  obtain ⟨τ12, e12, a12, hH⟩ := t_tab hE11
  have f12 := FrD.ag hE11.1 a12 (fun p k y => c76 y) (fun _ _ y => False.elim y)
  have hE12 := hE11.ag a12 (fun p k y => c76 y) (fun _ _ y => False.elim y)
  have hF12 := hF11.tr f12
  have hlen := tabA_len (o := o) (tm := tm) (pt := pt) (fs := fs) (d := d) hc5 nk
  have e8' : fx (f_X9_digest_L76 55) FU (H5, (-2 : Int32), τ7) = bd (f_X9_easiestOf 55 (0 : Int32) τ8) fun r2 s1 => lB ((((31 : Int64) * dg6 c nk o g tm pt ls fs H5) + r2.toInt64)) fun v3 => bd (f_X9_easiestOf 55 (1 : Int32) s1) fun r5 s4 => lB ((((31 : Int64) * v3) + r5.toInt64)) fun v6 => bd (f_X9_flawNow 55 s4) fun r8 s7 => lB ((((31 : Int64) * v6) + r8.toInt64)) fun v9 => bd (f_X9_tablature 55 s7) fun r11 s10 => lB ((((31 : Int64) * v9) + r11.toInt64)) fun v12 => fx (f_X9_digest_L156 55 r11 s10) FU (v12, (0 : Int32)) := e8
  generalize dg6 c nk o g tm pt ls fs H5 = H6 at e8' ⊢
  unfold dg7
  rw [e9, bd_eq, lB_eq, e10, bd_eq, lB_eq, e11, bd_eq, lB_eq, e12, bd_eq, lB_eq] at e8'
  generalize 31 * (31 * (31 * H6 + (ezV c nk o g tm pt ls fs 0).toInt64) + (ezV c nk o g tm pt ls fs 1).toInt64) + (flV c (g 0) t tb).toInt64 = H7 at e8' ⊢
  have e14 : fx (f_X9_digest_L156 55 (if okT n nk o g tm pt ls fs d il = true then nI (tabA c o tm pt fs d nk).1 else -3) τ12) FU (31 * H7 + (if okT n nk o g tm pt ls fs d il = true then nI (tabA c o tm pt fs d nk).1 else -3 : Int32).toInt64, nI 0) = fx (f_X9_digest_L186 55) FU (tbG c n nk o g tm pt ls fs d il H7, nI 0, τ12) := by
    unfold tbG
    by_cases q : okT n nk o g tm pt ls fs d il = true
    · obtain ⟨h1, h2⟩ := hH q
      rw [if_pos q, if_pos q]
      refine fx_for0 (fun i => (itG (mxG (fun i => nI ((tabA c o tm pt fs d nk).2 i))) (31 * H7 + (nI (tabA c o tm pt fs d nk).1).toInt64) i, nI i)) rfl (n := (tabA c o tm pt fs d nk).1) (fun i hi rec => ?_) (fun rec => ?_) (by unfold FU; omega)
      · unfold f_X9_digest_L156
        dsimp only
        rw [if_neg (by rw [Int32.le_iff_toInt_le, nI_toInt (by omega), nI_toInt (by omega)]; omega), rf_55_36 hE12.1, aL_76, inb_nI (by omega), ck_d (by omega), lB_eq, lB_eq, nI_clamp (by omega), h2 i hi, nI_1]
        rfl
      · unfold f_X9_digest_L156
        dsimp only
        rw [if_pos (by rw [Int32.le_iff_toInt_le]; exact Int.le_refl _)]
        rfl
    · rw [if_neg q, if_neg q]
      refine fx_for0 (fun _ => (31 * H7 + (-3 : Int32).toInt64, nI 0)) rfl (n := 0) (fun i hi rec => by omega) (fun rec => ?_) (by unfold FU; omega)
      unfold f_X9_digest_L156
      dsimp only
      rw [if_pos (by decide), show (-3 : Int32).toInt64 = (-3 : Int64) from rfl]
      rfl
  obtain ⟨τ13, e13, f13, q13⟩ := mixL (σ0 := σ0) (B := f_X9_digest_L186 55) 4 nI (slG f dv) (fun h σ => some (h, σ)) (by omega) (fun s hs h σ hE hF rec => by
      have c62 : gI σ 62 s = bI (f s) := (hF.1 62 s (by unfold Sc; omega)).trans (hf s hs)
      by_cases q : f s = true
      · obtain ⟨τ, e, ff, qq⟩ := hdv s hs q σ hE hF
        refine ⟨τ, ?_, ff, qq⟩
        unfold f_X9_digest_L186 f_X9_digest_L219 slG
        dsimp only
        rw [if_neg (by rw [Int32.le_iff_toInt_le, nI_toInt (by omega), show (4 : Int32).toInt = 4 from rfl]; omega), rf_55_14 hE.1, aL_62, inb_nI (by omega), ck_d (by omega), nI_clamp (by omega), c62, q, if_neg (show ¬ bI true = (0 : Int32) by decide), e, bd_eq, lB_eq, nI_1, if_pos rfl]
      · have q' : f s = false := by rw [Bool.not_eq_true] at q; exact q
        refine ⟨σ, ?_, FrD.rf hE.1, hE.2.2.2.2.2.2.2.2.2⟩
        unfold f_X9_digest_L186 f_X9_digest_L219 slG
        dsimp only
        rw [if_neg (by rw [Int32.le_iff_toInt_le, nI_toInt (by omega), show (4 : Int32).toInt = 4 from rfl]; omega), rf_55_14 hE.1, aL_62, inb_nI (by omega), ck_d (by omega), nI_clamp (by omega), c62, q', if_pos (show bI false = (0 : Int32) by decide), lB_eq, nI_1, if_neg (show ¬ false = true by decide)]) (fun h σ hE hF rec => by
      unfold f_X9_digest_L186
      dsimp only
      rw [if_pos (by decide)]) (tbG c n nk o g tm pt ls fs d il H7) τ12 hE12 hF12
  refine ⟨τ13, ?_, ((((((((((f1.tr f2).tr f3).tr f4).tr f7).tr f8).tr f9).tr f10).tr f11).tr f12).tr f13), q13⟩
  exact e1'.trans (e8'.trans (e14.trans e13))
end
theorem m_digest {σ : Sg} (h : Rel σ) : BothL σ (f_X8_digest 0) (f_X9_digest 55) := h.cv (fun {c n nk t} {o g tm pt ls fs d tb} {il} hE p5 => by
  have hn := hE.2.2.1.1
  have hC := hE.2.2.2.2.2.1.1
  have hnk := hC.nk_le
  have hc5 := hE.2.1.2.1
  obtain ⟨f, hf⟩ := p5.fn
  obtain ⟨cs, c1, c2⟩ := e_cost (σ0 := σ) (c := c) (n := n) (nk := nk) (t := t) (o := o) (g := g) (tm := tm) (pt := pt) (ls := ls) (fs := fs) (d := d) (tb := tb) (il := il)
  have hi : ∀ i w, ∃ r, i < n → w ≤ 5 → CV σ c n nk t o g tm pt ls fs d tb il (f_X8_info 0 (nI i) (nI w)) r ∧ CV σ c n nk t o g tm pt ls fs d tb il (f_X9_infoOf 55 (nI i) (nI w)) r := fun i w => by
    by_cases q : i < n ∧ w ≤ 5
    · obtain ⟨r, y⟩ := e_info (σ0 := σ) (t := t) (tb := tb) (c := c) (o := o) (g := g) (pt := pt) (ls := ls) (d := d) (il := il) hC q.1 q.2
      exact ⟨r, fun _ _ => y⟩
    · exact ⟨0, fun y1 y2 => absurd ⟨y1, y2⟩ q⟩
  have hs : ∀ s, ∃ r, s < 4 → f s = true → CV σ c n nk t o g tm pt ls fs d tb il (f_X8_differ 0 (nI s)) r ∧ CV σ c n nk t o g tm pt ls fs d tb il (f_X9_differOf 55 (nI s)) r := fun s => by
    by_cases q : s < 4 ∧ f s = true
    · obtain ⟨y1, y2, y3⟩ := hf s q.1
      rw [q.2] at y1 y2
      obtain ⟨r, y⟩ := e_differ (σ0 := σ) (c := c) (n := n) (nk := nk) (t := t) (o := o) (g := g) (tm := tm) (pt := pt) (ls := ls) (fs := fs) (d := d) (tb := tb) (il := il) q.1 y1 y2 (y3 q.2) hc5 hn
      exact ⟨r, fun _ _ => y⟩
    · exact ⟨0, fun y1 y2 => absurd ⟨y1, y2⟩ q⟩
  refine ⟨dgV σ c n nk t o g tm pt ls fs d tb il f cs (fun i w => Classical.choose (hi i w)) (fun s => Classical.choose (hs s)), d_class hn hnk hc5 (fun s hs => (hf s hs).1) c1 (fun i h1 w h2 => (Classical.choose_spec (hi i w) h1 h2).1) (fun s h1 h2 => (Classical.choose_spec (hs s) h1 h2).1), d_ref hn hnk hc5 (fun s hs => (hf s hs).2.1) c2 (fun i h1 w h2 => (Classical.choose_spec (hi i w) h1 h2).2) (fun s h1 h2 => (Classical.choose_spec (hs s) h1 h2).2)⟩)
