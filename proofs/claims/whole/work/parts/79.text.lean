/-! text -/
theorem s_X9_wrongNow2 {σ : Sg} {c n nk : Nat} {o g tm pt ls fs d : Nat → Nat} (hr : RefI σ) (b1 : Bl c o g) (b2 : Bn n tm pt ls) (p1 : P1 σ c o g) (p2 : P2 σ n tm pt ls) (hC : Ch n tm nk fs) (hd : ∀ i, i < n → gI σ 60 i = nI (d i) ∧ d i < c) (h12 : gI σ 55 12 = nI 1) (h20 : gI σ 55 20 = nI 0) : ∃ σ', f_X9_wrongNow 55 σ = some (nI (cntB (outB o g pt d) n + wrS o g tm pt ls fs d nk), σ') ∧ Ag (fun p k => SR p k ∨ p = 66 ∨ SL p k) (fun _ _ => False) σ σ' ∧ RC σ' n tm ls nk fs ∧ ∀ i, i < n → gI σ' 66 i = nI (d i) := by
  have hn := b2.1
  have hc5 := b1.2.1
  have hnk := hC.nk_le
  have bg := b1.2.2.2.2.1
  obtain ⟨σ1, e1, a1, rc1⟩ := s_X9_findsChords hr p2.m b2 hC
  have hr1 := a1.ref hr
  obtain ⟨σ2, e2, a2, l2⟩ := s_X9_laysAll (n := n) (d := d) hr1 hn ((a1.2.1 55 10 (by unfold SR; omega)).trans p2.2.1) (fun i hi => (a1.2.1 60 i (by unfold SR; omega)).trans (hd i hi).1)
  have hr2 := a2.ref hr1
  have hA2 : Ag (fun p k => SR p k ∨ p = 66 ∨ SL p k) (fun _ _ => False) σ σ2 := (a1.mono (fun p k z => Or.inl z) (fun _ _ z => z)).tr (a2.mono (fun p k z => Or.inr (Or.inl z)) (fun _ _ z => z))
  have rc2 : RC σ2 n tm ls nk fs := rc1.ag a2 (fun p k z y => by unfold SR at z; omega)
  have hNM : NM σ2 n tm pt ls := p2.m.ag hA2 (by unfold SR SL; omega) (fun p k h1 h2 z => by unfold SR SL at z; omega)
  have hz : (nI 0).toInt = 0 := rfl
  have s20 : gI σ2 55 20 = nI 0 := (hA2.2.1 55 20 (by unfold SR SL; omega)).trans h20
  have s2 : gI σ2 55 2 = nI (g 0) := (hA2.2.1 55 2 (by unfold SR SL; omega)).trans (p1.2.2.2 0 (by omega)).2
  have hRL : ∀ k, RLy σ2 o tm pt ls fs 0 n nk k d := fun k => ⟨fun j hj => ⟨(hA2.2.1 56 j (by unfold SR SL; omega)).trans (p1.2.2.1 j hj).2, b1.2.2.1 j hj⟩, hNM, rc2, by rw [s20]; exact hz, by omega, fun i hi _ => ⟨l2 i hi, by have := (hd i hi).2; omega⟩⟩
  have loop2 : ∃ σ', fx (f_X9_wrongNow_L58 55) FU (nI (cntB (outB o g pt d) n), nI 0, σ2) = some (nI (cntB (outB o g pt d) n + wrS o g tm pt ls fs d nk), σ') ∧ Ag SL (fun _ _ => False) σ2 σ' := by
    refine fx_inv2 (I := fun k s => ∃ τ, s = (nI (cntB (outB o g pt d) n + wrS o g tm pt ls fs d k), nI k, τ) ∧ Ag SL (fun _ _ => False) σ2 τ) (Q := fun e => ∃ σ', e = some (nI (cntB (outB o g pt d) n + wrS o g tm pt ls fs d nk), σ') ∧ Ag SL (fun _ _ => False) σ2 σ') (n := nk) ?_ ?_ nk 0 FU _ (by omega) (by unfold FU; omega) ⟨σ2, rfl, Ag.rf⟩
    · rintro k s hk ⟨τ, rfl, hA⟩ rec
      have hr3 : RefI τ := hA.ref hr2
      have hM := hC.le (k := k + 1) (by omega)
      have t16 : gI τ 55 16 = nI nk := (hA.2.1 55 16 (by unfold SL; omega)).trans rc2.1
      have t3 : gI τ 55 3 = nI (g 1) := ((hA.2.1 55 3 (by unfold SL; omega)).trans (hA2.2.1 55 3 (by unfold SR SL; omega))).trans (p1.2.2.2 1 (by omega)).2
      obtain ⟨υ, e3, a3, hT⟩ := s_X9_looks (g := g) hr3 b2 hC hk ((hRL k).ag hA) t3 b1.2.2.2.2.2.1
      obtain ⟨h21, h22, h23, h24, h25, h26⟩ := hT
      have fl := fin_le (o := o) (tm := tm) (pt := pt) (ls := ls) (fs := fs) (d := d) (z := 0) (k := k)
      left
      refine ⟨(nI (cntB (outB o g pt d) n + wrS o g tm pt ls fs d (k + 1)), nI (k + 1), υ), ⟨υ, rfl, hA.tr a3⟩, ?_⟩
      have ew : wrS o g tm pt ls fs d (k + 1) = wrS o g tm pt ls fs d k + wrK o g tm pt ls fs 0 k d := rfl
      rw [ew, ← Nat.add_assoc]
      unfold f_X9_wrongNow_L58 f_X9_wrongNow_L84 f_X9_wrongNow_L97 f_X9_wrongNow_L110 wrK
      dsimp only
      cases q1 : twB (sndB tm ls fs k) d (fs (k + 1)) with
      | true =>
        rw [q1] at h24
        cases q3 : wdB (sndB tm ls fs k) (fret o pt 0 d) (lowK o tm pt ls fs 0 k d + g 1) (fs (k + 1)) with
        | true =>
          rw [q3] at h25
          by_cases q2 : 4 < finK o tm pt ls fs 0 k d
          · simp (disch := first | assumption | omega) only [↓lB_eq, ↓bd_m, ck_tt, gI_pI, gI_pL, gI_pR, gL_pI, gL_pL, gL_pR, gR_pI, gR_pL, rf_0_0, rf_0_1, rf_0_2, rf_0_3, rf_0_4, rf_0_5, rf_0_6, rf_0_7, rf_0_8, rf_0_9, rf_0_10, rf_1_1, rf_1_2, rf_4_0, rf_4_1, rf_4_2, rf_4_3, rf_4_4, rf_4_5, rf_11_0, rf_11_1, rf_12_0, rf_12_1, rf_12_2, rf_12_6, rf_12_7, rf_12_8, rf_13_0, rf_13_1, rf_13_2, rf_13_3, rf_18_0, rf_18_1, rf_18_2, rf_18_3, rf_23_0, rf_23_1, rf_23_2, rf_23_3, rf_31_0, rf_33_0, rf_33_2, rf_33_3, rf_33_4, rf_37_0, rf_39_0, rf_39_1, rf_39_2, rf_39_3, rf_40_0, rf_40_1, rf_40_2, rf_40_3, rf_47_3, rf_49_3, rf_51_3, rf_53_3, rf_55_1, rf_55_7, rf_55_8, rf_55_9, rf_55_11, rf_55_13, rf_55_14, rf_55_15, rf_55_17, rf_55_18, rf_55_19, rf_55_27, rf_55_28, rf_55_29, rf_55_30, rf_55_31, rf_55_32, rf_55_33, rf_55_34, rf_55_35, rf_55_36, rf_55_38, rf_55_44, rf_55_45, rf_55_46, rf_55_47, aL_2, aL_3, aL_5, aL_6, aL_7, aL_8, aL_9, aL_10, aL_14, aL_15, aL_16, aL_17, aL_19, aL_20, aL_21, aL_22, aL_24, aL_25, aL_26, aL_27, aL_28, aL_29, aL_30, aL_32, aL_34, aL_35, aL_36, aL_38, aL_39, aL_40, aL_41, aL_42, aL_43, aL_44, aL_45, aL_46, aL_48, aL_50, aL_52, aL_54, aL_56, aL_57, aL_58, aL_59, aL_60, aL_61, aL_62, aL_63, aL_64, aL_65, aL_66, aL_67, aL_68, aL_69, aL_70, aL_71, aL_72, aL_73, aL_74, aL_75, aL_76, aL_77, aL_78, aL_79, aL_80, aL_81, inb_nI, lit32, nI_clamp, nI_1, nI_add, if_pos, if_neg, b01_0, b01_1, Nat.add_sub_cancel, if_true, if_false, not_true_eq_false, not_false_eq_true, true_and, and_true, false_and, and_false, pk_sub, b01_n0, b01_n1, bI_t, bI_f, ofNat_nI, ck_d, Int32.lt_iff_toInt_lt, Int32.le_iff_toInt_le, i32_eq, nI_toInt, bI_b01, bI_0, decide_eq_true_eq, bI_tt, bI_ff, nI_prd, ↓reduceIte, iltT, iltF, ileT, ileF, ieqT, ieqF, dcT, dcF, or_true, or_false, true_or, false_or, t16, e3, h24, h25, h22]
          · simp (disch := first | assumption | omega) only [↓lB_eq, ↓bd_m, ck_tt, gI_pI, gI_pL, gI_pR, gL_pI, gL_pL, gL_pR, gR_pI, gR_pL, rf_0_0, rf_0_1, rf_0_2, rf_0_3, rf_0_4, rf_0_5, rf_0_6, rf_0_7, rf_0_8, rf_0_9, rf_0_10, rf_1_1, rf_1_2, rf_4_0, rf_4_1, rf_4_2, rf_4_3, rf_4_4, rf_4_5, rf_11_0, rf_11_1, rf_12_0, rf_12_1, rf_12_2, rf_12_6, rf_12_7, rf_12_8, rf_13_0, rf_13_1, rf_13_2, rf_13_3, rf_18_0, rf_18_1, rf_18_2, rf_18_3, rf_23_0, rf_23_1, rf_23_2, rf_23_3, rf_31_0, rf_33_0, rf_33_2, rf_33_3, rf_33_4, rf_37_0, rf_39_0, rf_39_1, rf_39_2, rf_39_3, rf_40_0, rf_40_1, rf_40_2, rf_40_3, rf_47_3, rf_49_3, rf_51_3, rf_53_3, rf_55_1, rf_55_7, rf_55_8, rf_55_9, rf_55_11, rf_55_13, rf_55_14, rf_55_15, rf_55_17, rf_55_18, rf_55_19, rf_55_27, rf_55_28, rf_55_29, rf_55_30, rf_55_31, rf_55_32, rf_55_33, rf_55_34, rf_55_35, rf_55_36, rf_55_38, rf_55_44, rf_55_45, rf_55_46, rf_55_47, aL_2, aL_3, aL_5, aL_6, aL_7, aL_8, aL_9, aL_10, aL_14, aL_15, aL_16, aL_17, aL_19, aL_20, aL_21, aL_22, aL_24, aL_25, aL_26, aL_27, aL_28, aL_29, aL_30, aL_32, aL_34, aL_35, aL_36, aL_38, aL_39, aL_40, aL_41, aL_42, aL_43, aL_44, aL_45, aL_46, aL_48, aL_50, aL_52, aL_54, aL_56, aL_57, aL_58, aL_59, aL_60, aL_61, aL_62, aL_63, aL_64, aL_65, aL_66, aL_67, aL_68, aL_69, aL_70, aL_71, aL_72, aL_73, aL_74, aL_75, aL_76, aL_77, aL_78, aL_79, aL_80, aL_81, inb_nI, lit32, nI_clamp, nI_1, nI_add, if_pos, if_neg, b01_0, b01_1, Nat.add_sub_cancel, if_true, if_false, not_true_eq_false, not_false_eq_true, true_and, and_true, false_and, and_false, pk_sub, b01_n0, b01_n1, bI_t, bI_f, ofNat_nI, ck_d, Int32.lt_iff_toInt_lt, Int32.le_iff_toInt_le, i32_eq, nI_toInt, bI_b01, bI_0, decide_eq_true_eq, bI_tt, bI_ff, nI_prd, ↓reduceIte, iltT, iltF, ileT, ileF, ieqT, ieqF, dcT, dcF, or_true, or_false, true_or, false_or, t16, e3, h24, h25, h22]
        | false =>
          rw [q3] at h25
          by_cases q2 : 4 < finK o tm pt ls fs 0 k d
          · simp (disch := first | assumption | omega) only [↓lB_eq, ↓bd_m, ck_tt, gI_pI, gI_pL, gI_pR, gL_pI, gL_pL, gL_pR, gR_pI, gR_pL, rf_0_0, rf_0_1, rf_0_2, rf_0_3, rf_0_4, rf_0_5, rf_0_6, rf_0_7, rf_0_8, rf_0_9, rf_0_10, rf_1_1, rf_1_2, rf_4_0, rf_4_1, rf_4_2, rf_4_3, rf_4_4, rf_4_5, rf_11_0, rf_11_1, rf_12_0, rf_12_1, rf_12_2, rf_12_6, rf_12_7, rf_12_8, rf_13_0, rf_13_1, rf_13_2, rf_13_3, rf_18_0, rf_18_1, rf_18_2, rf_18_3, rf_23_0, rf_23_1, rf_23_2, rf_23_3, rf_31_0, rf_33_0, rf_33_2, rf_33_3, rf_33_4, rf_37_0, rf_39_0, rf_39_1, rf_39_2, rf_39_3, rf_40_0, rf_40_1, rf_40_2, rf_40_3, rf_47_3, rf_49_3, rf_51_3, rf_53_3, rf_55_1, rf_55_7, rf_55_8, rf_55_9, rf_55_11, rf_55_13, rf_55_14, rf_55_15, rf_55_17, rf_55_18, rf_55_19, rf_55_27, rf_55_28, rf_55_29, rf_55_30, rf_55_31, rf_55_32, rf_55_33, rf_55_34, rf_55_35, rf_55_36, rf_55_38, rf_55_44, rf_55_45, rf_55_46, rf_55_47, aL_2, aL_3, aL_5, aL_6, aL_7, aL_8, aL_9, aL_10, aL_14, aL_15, aL_16, aL_17, aL_19, aL_20, aL_21, aL_22, aL_24, aL_25, aL_26, aL_27, aL_28, aL_29, aL_30, aL_32, aL_34, aL_35, aL_36, aL_38, aL_39, aL_40, aL_41, aL_42, aL_43, aL_44, aL_45, aL_46, aL_48, aL_50, aL_52, aL_54, aL_56, aL_57, aL_58, aL_59, aL_60, aL_61, aL_62, aL_63, aL_64, aL_65, aL_66, aL_67, aL_68, aL_69, aL_70, aL_71, aL_72, aL_73, aL_74, aL_75, aL_76, aL_77, aL_78, aL_79, aL_80, aL_81, inb_nI, lit32, nI_clamp, nI_1, nI_add, if_pos, if_neg, b01_0, b01_1, Nat.add_sub_cancel, if_true, if_false, not_true_eq_false, not_false_eq_true, true_and, and_true, false_and, and_false, pk_sub, b01_n0, b01_n1, bI_t, bI_f, ofNat_nI, ck_d, Int32.lt_iff_toInt_lt, Int32.le_iff_toInt_le, i32_eq, nI_toInt, bI_b01, bI_0, decide_eq_true_eq, bI_tt, bI_ff, nI_prd, ↓reduceIte, iltT, iltF, ileT, ileF, ieqT, ieqF, dcT, dcF, or_true, or_false, true_or, false_or, t16, e3, h24, h25, h22]
            rfl
          · simp (disch := first | assumption | omega) only [↓lB_eq, ↓bd_m, ck_tt, gI_pI, gI_pL, gI_pR, gL_pI, gL_pL, gL_pR, gR_pI, gR_pL, rf_0_0, rf_0_1, rf_0_2, rf_0_3, rf_0_4, rf_0_5, rf_0_6, rf_0_7, rf_0_8, rf_0_9, rf_0_10, rf_1_1, rf_1_2, rf_4_0, rf_4_1, rf_4_2, rf_4_3, rf_4_4, rf_4_5, rf_11_0, rf_11_1, rf_12_0, rf_12_1, rf_12_2, rf_12_6, rf_12_7, rf_12_8, rf_13_0, rf_13_1, rf_13_2, rf_13_3, rf_18_0, rf_18_1, rf_18_2, rf_18_3, rf_23_0, rf_23_1, rf_23_2, rf_23_3, rf_31_0, rf_33_0, rf_33_2, rf_33_3, rf_33_4, rf_37_0, rf_39_0, rf_39_1, rf_39_2, rf_39_3, rf_40_0, rf_40_1, rf_40_2, rf_40_3, rf_47_3, rf_49_3, rf_51_3, rf_53_3, rf_55_1, rf_55_7, rf_55_8, rf_55_9, rf_55_11, rf_55_13, rf_55_14, rf_55_15, rf_55_17, rf_55_18, rf_55_19, rf_55_27, rf_55_28, rf_55_29, rf_55_30, rf_55_31, rf_55_32, rf_55_33, rf_55_34, rf_55_35, rf_55_36, rf_55_38, rf_55_44, rf_55_45, rf_55_46, rf_55_47, aL_2, aL_3, aL_5, aL_6, aL_7, aL_8, aL_9, aL_10, aL_14, aL_15, aL_16, aL_17, aL_19, aL_20, aL_21, aL_22, aL_24, aL_25, aL_26, aL_27, aL_28, aL_29, aL_30, aL_32, aL_34, aL_35, aL_36, aL_38, aL_39, aL_40, aL_41, aL_42, aL_43, aL_44, aL_45, aL_46, aL_48, aL_50, aL_52, aL_54, aL_56, aL_57, aL_58, aL_59, aL_60, aL_61, aL_62, aL_63, aL_64, aL_65, aL_66, aL_67, aL_68, aL_69, aL_70, aL_71, aL_72, aL_73, aL_74, aL_75, aL_76, aL_77, aL_78, aL_79, aL_80, aL_81, inb_nI, lit32, nI_clamp, nI_1, nI_add, if_pos, if_neg, b01_0, b01_1, Nat.add_sub_cancel, if_true, if_false, not_true_eq_false, not_false_eq_true, true_and, and_true, false_and, and_false, pk_sub, b01_n0, b01_n1, bI_t, bI_f, ofNat_nI, ck_d, Int32.lt_iff_toInt_lt, Int32.le_iff_toInt_le, i32_eq, nI_toInt, bI_b01, bI_0, decide_eq_true_eq, bI_tt, bI_ff, nI_prd, ↓reduceIte, iltT, iltF, ileT, ileF, ieqT, ieqF, dcT, dcF, or_true, or_false, true_or, false_or, t16, e3, h24, h25, h22]
            rfl
      | false =>
        rw [q1] at h24
        cases q3 : wdB (sndB tm ls fs k) (fret o pt 0 d) (lowK o tm pt ls fs 0 k d + g 1) (fs (k + 1)) with
        | true =>
          rw [q3] at h25
          by_cases q2 : 4 < finK o tm pt ls fs 0 k d
          · simp (disch := first | assumption | omega) only [↓lB_eq, ↓bd_m, ck_tt, gI_pI, gI_pL, gI_pR, gL_pI, gL_pL, gL_pR, gR_pI, gR_pL, rf_0_0, rf_0_1, rf_0_2, rf_0_3, rf_0_4, rf_0_5, rf_0_6, rf_0_7, rf_0_8, rf_0_9, rf_0_10, rf_1_1, rf_1_2, rf_4_0, rf_4_1, rf_4_2, rf_4_3, rf_4_4, rf_4_5, rf_11_0, rf_11_1, rf_12_0, rf_12_1, rf_12_2, rf_12_6, rf_12_7, rf_12_8, rf_13_0, rf_13_1, rf_13_2, rf_13_3, rf_18_0, rf_18_1, rf_18_2, rf_18_3, rf_23_0, rf_23_1, rf_23_2, rf_23_3, rf_31_0, rf_33_0, rf_33_2, rf_33_3, rf_33_4, rf_37_0, rf_39_0, rf_39_1, rf_39_2, rf_39_3, rf_40_0, rf_40_1, rf_40_2, rf_40_3, rf_47_3, rf_49_3, rf_51_3, rf_53_3, rf_55_1, rf_55_7, rf_55_8, rf_55_9, rf_55_11, rf_55_13, rf_55_14, rf_55_15, rf_55_17, rf_55_18, rf_55_19, rf_55_27, rf_55_28, rf_55_29, rf_55_30, rf_55_31, rf_55_32, rf_55_33, rf_55_34, rf_55_35, rf_55_36, rf_55_38, rf_55_44, rf_55_45, rf_55_46, rf_55_47, aL_2, aL_3, aL_5, aL_6, aL_7, aL_8, aL_9, aL_10, aL_14, aL_15, aL_16, aL_17, aL_19, aL_20, aL_21, aL_22, aL_24, aL_25, aL_26, aL_27, aL_28, aL_29, aL_30, aL_32, aL_34, aL_35, aL_36, aL_38, aL_39, aL_40, aL_41, aL_42, aL_43, aL_44, aL_45, aL_46, aL_48, aL_50, aL_52, aL_54, aL_56, aL_57, aL_58, aL_59, aL_60, aL_61, aL_62, aL_63, aL_64, aL_65, aL_66, aL_67, aL_68, aL_69, aL_70, aL_71, aL_72, aL_73, aL_74, aL_75, aL_76, aL_77, aL_78, aL_79, aL_80, aL_81, inb_nI, lit32, nI_clamp, nI_1, nI_add, if_pos, if_neg, b01_0, b01_1, Nat.add_sub_cancel, if_true, if_false, not_true_eq_false, not_false_eq_true, true_and, and_true, false_and, and_false, pk_sub, b01_n0, b01_n1, bI_t, bI_f, ofNat_nI, ck_d, Int32.lt_iff_toInt_lt, Int32.le_iff_toInt_le, i32_eq, nI_toInt, bI_b01, bI_0, decide_eq_true_eq, bI_tt, bI_ff, nI_prd, ↓reduceIte, iltT, iltF, ileT, ileF, ieqT, ieqF, dcT, dcF, or_true, or_false, true_or, false_or, t16, e3, h24, h25, h22]
            rfl
          · simp (disch := first | assumption | omega) only [↓lB_eq, ↓bd_m, ck_tt, gI_pI, gI_pL, gI_pR, gL_pI, gL_pL, gL_pR, gR_pI, gR_pL, rf_0_0, rf_0_1, rf_0_2, rf_0_3, rf_0_4, rf_0_5, rf_0_6, rf_0_7, rf_0_8, rf_0_9, rf_0_10, rf_1_1, rf_1_2, rf_4_0, rf_4_1, rf_4_2, rf_4_3, rf_4_4, rf_4_5, rf_11_0, rf_11_1, rf_12_0, rf_12_1, rf_12_2, rf_12_6, rf_12_7, rf_12_8, rf_13_0, rf_13_1, rf_13_2, rf_13_3, rf_18_0, rf_18_1, rf_18_2, rf_18_3, rf_23_0, rf_23_1, rf_23_2, rf_23_3, rf_31_0, rf_33_0, rf_33_2, rf_33_3, rf_33_4, rf_37_0, rf_39_0, rf_39_1, rf_39_2, rf_39_3, rf_40_0, rf_40_1, rf_40_2, rf_40_3, rf_47_3, rf_49_3, rf_51_3, rf_53_3, rf_55_1, rf_55_7, rf_55_8, rf_55_9, rf_55_11, rf_55_13, rf_55_14, rf_55_15, rf_55_17, rf_55_18, rf_55_19, rf_55_27, rf_55_28, rf_55_29, rf_55_30, rf_55_31, rf_55_32, rf_55_33, rf_55_34, rf_55_35, rf_55_36, rf_55_38, rf_55_44, rf_55_45, rf_55_46, rf_55_47, aL_2, aL_3, aL_5, aL_6, aL_7, aL_8, aL_9, aL_10, aL_14, aL_15, aL_16, aL_17, aL_19, aL_20, aL_21, aL_22, aL_24, aL_25, aL_26, aL_27, aL_28, aL_29, aL_30, aL_32, aL_34, aL_35, aL_36, aL_38, aL_39, aL_40, aL_41, aL_42, aL_43, aL_44, aL_45, aL_46, aL_48, aL_50, aL_52, aL_54, aL_56, aL_57, aL_58, aL_59, aL_60, aL_61, aL_62, aL_63, aL_64, aL_65, aL_66, aL_67, aL_68, aL_69, aL_70, aL_71, aL_72, aL_73, aL_74, aL_75, aL_76, aL_77, aL_78, aL_79, aL_80, aL_81, inb_nI, lit32, nI_clamp, nI_1, nI_add, if_pos, if_neg, b01_0, b01_1, Nat.add_sub_cancel, if_true, if_false, not_true_eq_false, not_false_eq_true, true_and, and_true, false_and, and_false, pk_sub, b01_n0, b01_n1, bI_t, bI_f, ofNat_nI, ck_d, Int32.lt_iff_toInt_lt, Int32.le_iff_toInt_le, i32_eq, nI_toInt, bI_b01, bI_0, decide_eq_true_eq, bI_tt, bI_ff, nI_prd, ↓reduceIte, iltT, iltF, ileT, ileF, ieqT, ieqF, dcT, dcF, or_true, or_false, true_or, false_or, t16, e3, h24, h25, h22]
            rfl
        | false =>
          rw [q3] at h25
          by_cases q2 : 4 < finK o tm pt ls fs 0 k d
          · simp (disch := first | assumption | omega) only [↓lB_eq, ↓bd_m, ck_tt, gI_pI, gI_pL, gI_pR, gL_pI, gL_pL, gL_pR, gR_pI, gR_pL, rf_0_0, rf_0_1, rf_0_2, rf_0_3, rf_0_4, rf_0_5, rf_0_6, rf_0_7, rf_0_8, rf_0_9, rf_0_10, rf_1_1, rf_1_2, rf_4_0, rf_4_1, rf_4_2, rf_4_3, rf_4_4, rf_4_5, rf_11_0, rf_11_1, rf_12_0, rf_12_1, rf_12_2, rf_12_6, rf_12_7, rf_12_8, rf_13_0, rf_13_1, rf_13_2, rf_13_3, rf_18_0, rf_18_1, rf_18_2, rf_18_3, rf_23_0, rf_23_1, rf_23_2, rf_23_3, rf_31_0, rf_33_0, rf_33_2, rf_33_3, rf_33_4, rf_37_0, rf_39_0, rf_39_1, rf_39_2, rf_39_3, rf_40_0, rf_40_1, rf_40_2, rf_40_3, rf_47_3, rf_49_3, rf_51_3, rf_53_3, rf_55_1, rf_55_7, rf_55_8, rf_55_9, rf_55_11, rf_55_13, rf_55_14, rf_55_15, rf_55_17, rf_55_18, rf_55_19, rf_55_27, rf_55_28, rf_55_29, rf_55_30, rf_55_31, rf_55_32, rf_55_33, rf_55_34, rf_55_35, rf_55_36, rf_55_38, rf_55_44, rf_55_45, rf_55_46, rf_55_47, aL_2, aL_3, aL_5, aL_6, aL_7, aL_8, aL_9, aL_10, aL_14, aL_15, aL_16, aL_17, aL_19, aL_20, aL_21, aL_22, aL_24, aL_25, aL_26, aL_27, aL_28, aL_29, aL_30, aL_32, aL_34, aL_35, aL_36, aL_38, aL_39, aL_40, aL_41, aL_42, aL_43, aL_44, aL_45, aL_46, aL_48, aL_50, aL_52, aL_54, aL_56, aL_57, aL_58, aL_59, aL_60, aL_61, aL_62, aL_63, aL_64, aL_65, aL_66, aL_67, aL_68, aL_69, aL_70, aL_71, aL_72, aL_73, aL_74, aL_75, aL_76, aL_77, aL_78, aL_79, aL_80, aL_81, inb_nI, lit32, nI_clamp, nI_1, nI_add, if_pos, if_neg, b01_0, b01_1, Nat.add_sub_cancel, if_true, if_false, not_true_eq_false, not_false_eq_true, true_and, and_true, false_and, and_false, pk_sub, b01_n0, b01_n1, bI_t, bI_f, ofNat_nI, ck_d, Int32.lt_iff_toInt_lt, Int32.le_iff_toInt_le, i32_eq, nI_toInt, bI_b01, bI_0, decide_eq_true_eq, bI_tt, bI_ff, nI_prd, ↓reduceIte, iltT, iltF, ileT, ileF, ieqT, ieqF, dcT, dcF, or_true, or_false, true_or, false_or, t16, e3, h24, h25, h22]
            rfl
          · simp (disch := first | assumption | omega) only [↓lB_eq, ↓bd_m, ck_tt, gI_pI, gI_pL, gI_pR, gL_pI, gL_pL, gL_pR, gR_pI, gR_pL, rf_0_0, rf_0_1, rf_0_2, rf_0_3, rf_0_4, rf_0_5, rf_0_6, rf_0_7, rf_0_8, rf_0_9, rf_0_10, rf_1_1, rf_1_2, rf_4_0, rf_4_1, rf_4_2, rf_4_3, rf_4_4, rf_4_5, rf_11_0, rf_11_1, rf_12_0, rf_12_1, rf_12_2, rf_12_6, rf_12_7, rf_12_8, rf_13_0, rf_13_1, rf_13_2, rf_13_3, rf_18_0, rf_18_1, rf_18_2, rf_18_3, rf_23_0, rf_23_1, rf_23_2, rf_23_3, rf_31_0, rf_33_0, rf_33_2, rf_33_3, rf_33_4, rf_37_0, rf_39_0, rf_39_1, rf_39_2, rf_39_3, rf_40_0, rf_40_1, rf_40_2, rf_40_3, rf_47_3, rf_49_3, rf_51_3, rf_53_3, rf_55_1, rf_55_7, rf_55_8, rf_55_9, rf_55_11, rf_55_13, rf_55_14, rf_55_15, rf_55_17, rf_55_18, rf_55_19, rf_55_27, rf_55_28, rf_55_29, rf_55_30, rf_55_31, rf_55_32, rf_55_33, rf_55_34, rf_55_35, rf_55_36, rf_55_38, rf_55_44, rf_55_45, rf_55_46, rf_55_47, aL_2, aL_3, aL_5, aL_6, aL_7, aL_8, aL_9, aL_10, aL_14, aL_15, aL_16, aL_17, aL_19, aL_20, aL_21, aL_22, aL_24, aL_25, aL_26, aL_27, aL_28, aL_29, aL_30, aL_32, aL_34, aL_35, aL_36, aL_38, aL_39, aL_40, aL_41, aL_42, aL_43, aL_44, aL_45, aL_46, aL_48, aL_50, aL_52, aL_54, aL_56, aL_57, aL_58, aL_59, aL_60, aL_61, aL_62, aL_63, aL_64, aL_65, aL_66, aL_67, aL_68, aL_69, aL_70, aL_71, aL_72, aL_73, aL_74, aL_75, aL_76, aL_77, aL_78, aL_79, aL_80, aL_81, inb_nI, lit32, nI_clamp, nI_1, nI_add, if_pos, if_neg, b01_0, b01_1, Nat.add_sub_cancel, if_true, if_false, not_true_eq_false, not_false_eq_true, true_and, and_true, false_and, and_false, pk_sub, b01_n0, b01_n1, bI_t, bI_f, ofNat_nI, ck_d, Int32.lt_iff_toInt_lt, Int32.le_iff_toInt_le, i32_eq, nI_toInt, bI_b01, bI_0, decide_eq_true_eq, bI_tt, bI_ff, nI_prd, ↓reduceIte, iltT, iltF, ileT, ileF, ieqT, ieqF, dcT, dcF, or_true, or_false, true_or, false_or, t16, e3, h24, h25, h22]
            rfl
    · rintro s ⟨τ, rfl, hA⟩ rec
      have t16 : gI τ 55 16 = nI nk := (hA.2.1 55 16 (by unfold SL; omega)).trans rc2.1
      refine ⟨some (nI (cntB (outB o g pt d) n + wrS o g tm pt ls fs d nk), τ), ⟨τ, rfl, hA⟩, ?_⟩
      unfold f_X9_wrongNow_L58
      dsimp only
      simp (disch := first | assumption | omega) only [↓lB_eq, ↓bd_m, ck_tt, gI_pI, gI_pL, gI_pR, gL_pI, gL_pL, gL_pR, gR_pI, gR_pL, rf_0_0, rf_0_1, rf_0_2, rf_0_3, rf_0_4, rf_0_5, rf_0_6, rf_0_7, rf_0_8, rf_0_9, rf_0_10, rf_1_1, rf_1_2, rf_4_0, rf_4_1, rf_4_2, rf_4_3, rf_4_4, rf_4_5, rf_11_0, rf_11_1, rf_12_0, rf_12_1, rf_12_2, rf_12_6, rf_12_7, rf_12_8, rf_13_0, rf_13_1, rf_13_2, rf_13_3, rf_18_0, rf_18_1, rf_18_2, rf_18_3, rf_23_0, rf_23_1, rf_23_2, rf_23_3, rf_31_0, rf_33_0, rf_33_2, rf_33_3, rf_33_4, rf_37_0, rf_39_0, rf_39_1, rf_39_2, rf_39_3, rf_40_0, rf_40_1, rf_40_2, rf_40_3, rf_47_3, rf_49_3, rf_51_3, rf_53_3, rf_55_1, rf_55_7, rf_55_8, rf_55_9, rf_55_11, rf_55_13, rf_55_14, rf_55_15, rf_55_17, rf_55_18, rf_55_19, rf_55_27, rf_55_28, rf_55_29, rf_55_30, rf_55_31, rf_55_32, rf_55_33, rf_55_34, rf_55_35, rf_55_36, rf_55_38, rf_55_44, rf_55_45, rf_55_46, rf_55_47, aL_2, aL_3, aL_5, aL_6, aL_7, aL_8, aL_9, aL_10, aL_14, aL_15, aL_16, aL_17, aL_19, aL_20, aL_21, aL_22, aL_24, aL_25, aL_26, aL_27, aL_28, aL_29, aL_30, aL_32, aL_34, aL_35, aL_36, aL_38, aL_39, aL_40, aL_41, aL_42, aL_43, aL_44, aL_45, aL_46, aL_48, aL_50, aL_52, aL_54, aL_56, aL_57, aL_58, aL_59, aL_60, aL_61, aL_62, aL_63, aL_64, aL_65, aL_66, aL_67, aL_68, aL_69, aL_70, aL_71, aL_72, aL_73, aL_74, aL_75, aL_76, aL_77, aL_78, aL_79, aL_80, aL_81, inb_nI, lit32, nI_clamp, nI_1, nI_add, if_pos, if_neg, b01_0, b01_1, Nat.add_sub_cancel, if_true, if_false, not_true_eq_false, not_false_eq_true, true_and, and_true, false_and, and_false, pk_sub, b01_n0, b01_n1, bI_t, bI_f, ofNat_nI, ck_d, Int32.lt_iff_toInt_lt, Int32.le_iff_toInt_le, i32_eq, nI_toInt, bI_b01, bI_0, decide_eq_true_eq, bI_tt, bI_ff, nI_prd, ↓reduceIte, iltT, iltF, ileT, ileF, ieqT, ieqF, dcT, dcF, or_true, or_false, true_or, false_or, t16]
  obtain ⟨σ', e, a⟩ := loop2
  refine ⟨σ', ?_, hA2.tr (a.mono (fun p k z => Or.inr (Or.inr z)) (fun _ _ z => z)), rc2.ag a (fun p k z y => by unfold SR at z; unfold SL at y; omega), fun i hi => (a.2.1 66 i (by unfold SL; omega)).trans (l2 i hi)⟩
  unfold f_X9_wrongNow
  rw [h12, if_neg (by decide), e1, bd_eq, e2, bd_eq, ← e]
  refine fx_for0 (fun i => (nI (cntB (outB o g pt d) i), nI i, σ2)) rfl (n := n) (fun i hi rec => ?_) (fun rec => ?_) (by unfold FU; omega)
  · have w10 := hNM.1
    have bi := b2.2.1 i hi
    have dc := (hd i hi).2
    have d1 := l2 i hi
    have o1 : gI σ2 56 (d i) = nI (o (d i)) := (hA2.2.1 56 (d i) (by unfold SR SL; omega)).trans (p1.2.2.1 (d i) (by omega)).2
    have bo := b1.2.2.1 (d i) (by omega)
    have e58 := (hNM.2 i hi).2.1
    have efr : f_X9_fretOf 55 (nI i) σ2 = some (nI (pt i) + nI 0 - nI (o (d i)), σ2) := by
      unfold f_X9_fretOf
      rw [rf_55_8 hr2, rf_55_19 hr2, rf_55_1 hr2, nI_clamp (by omega), d1, nI_clamp (by omega), e58, o1, s20, inb_nI (by omega), inb_nI (by omega), inb_nI (by omega), aL_58, aL_66, aL_56, ck_d (by omega), ck_d (by omega), ck_d (by omega)]
    have hf := s_X9_isOnCourse (σ := σ2) (nI (pt i) + nI 0 - nI (o (d i)))
    rw [fr_toInt (by omega) (by omega) (by decide), hz, s2, nI_toInt (by omega)] at hf
    unfold f_X9_wrongNow_L22 f_X9_wrongNow_L48
    dsimp only
    generalize nI (pt i) + nI 0 - nI (o (d i)) = y at efr hf
    by_cases hb : mayB o g pt i (d i) = true
    · have e2 := cntB_f (P := outB o g pt d) (m := i) (by unfold outB; rw [hb]; decide)
      have hb2 := of_decide_eq_true hb
      rw [decide_eq_true (show 0 ≤ (pt i : Int) + 0 - (o (d i) : Int) ∧ (pt i : Int) + 0 - (o (d i) : Int) ≤ (g 0 : Int) by omega)] at hf
      simp (disch := first | assumption | omega) only [↓lB_eq, ↓bd_m, ck_tt, gI_pI, gI_pL, gI_pR, gL_pI, gL_pL, gL_pR, gR_pI, gR_pL, rf_0_0, rf_0_1, rf_0_2, rf_0_3, rf_0_4, rf_0_5, rf_0_6, rf_0_7, rf_0_8, rf_0_9, rf_0_10, rf_1_1, rf_1_2, rf_4_0, rf_4_1, rf_4_2, rf_4_3, rf_4_4, rf_4_5, rf_11_0, rf_11_1, rf_12_0, rf_12_1, rf_12_2, rf_12_6, rf_12_7, rf_12_8, rf_13_0, rf_13_1, rf_13_2, rf_13_3, rf_18_0, rf_18_1, rf_18_2, rf_18_3, rf_23_0, rf_23_1, rf_23_2, rf_23_3, rf_31_0, rf_33_0, rf_33_2, rf_33_3, rf_33_4, rf_37_0, rf_39_0, rf_39_1, rf_39_2, rf_39_3, rf_40_0, rf_40_1, rf_40_2, rf_40_3, rf_47_3, rf_49_3, rf_51_3, rf_53_3, rf_55_1, rf_55_7, rf_55_8, rf_55_9, rf_55_11, rf_55_13, rf_55_14, rf_55_15, rf_55_17, rf_55_18, rf_55_19, rf_55_27, rf_55_28, rf_55_29, rf_55_30, rf_55_31, rf_55_32, rf_55_33, rf_55_34, rf_55_35, rf_55_36, rf_55_38, rf_55_44, rf_55_45, rf_55_46, rf_55_47, aL_2, aL_3, aL_5, aL_6, aL_7, aL_8, aL_9, aL_10, aL_14, aL_15, aL_16, aL_17, aL_19, aL_20, aL_21, aL_22, aL_24, aL_25, aL_26, aL_27, aL_28, aL_29, aL_30, aL_32, aL_34, aL_35, aL_36, aL_38, aL_39, aL_40, aL_41, aL_42, aL_43, aL_44, aL_45, aL_46, aL_48, aL_50, aL_52, aL_54, aL_56, aL_57, aL_58, aL_59, aL_60, aL_61, aL_62, aL_63, aL_64, aL_65, aL_66, aL_67, aL_68, aL_69, aL_70, aL_71, aL_72, aL_73, aL_74, aL_75, aL_76, aL_77, aL_78, aL_79, aL_80, aL_81, inb_nI, lit32, nI_clamp, nI_1, nI_add, if_pos, if_neg, b01_0, b01_1, Nat.add_sub_cancel, if_true, if_false, not_true_eq_false, not_false_eq_true, true_and, and_true, false_and, and_false, pk_sub, b01_n0, b01_n1, bI_t, bI_f, ofNat_nI, ck_d, Int32.lt_iff_toInt_lt, Int32.le_iff_toInt_le, i32_eq, nI_toInt, bI_b01, bI_0, decide_eq_true_eq, bI_tt, bI_ff, nI_prd, ↓reduceIte, iltT, iltF, ileT, ileF, ieqT, ieqF, dcT, dcF, or_true, or_false, true_or, false_or, w10, efr, hf, e2]
    · have e2 := cntB_t (P := outB o g pt d) (m := i) (by unfold outB; rw [Bool.not_eq_true] at hb; rw [hb]; rfl)
      have hb2 : ¬ (0 ≤ (pt i : Int) - (o (d i) : Int) ∧ (pt i : Int) - (o (d i) : Int) ≤ (g 0 : Int)) := fun z => hb (decide_eq_true z)
      rw [decide_eq_false (show ¬ (0 ≤ (pt i : Int) + 0 - (o (d i) : Int) ∧ (pt i : Int) + 0 - (o (d i) : Int) ≤ (g 0 : Int)) by omega)] at hf
      simp (disch := first | assumption | omega) only [↓lB_eq, ↓bd_m, ck_tt, gI_pI, gI_pL, gI_pR, gL_pI, gL_pL, gL_pR, gR_pI, gR_pL, rf_0_0, rf_0_1, rf_0_2, rf_0_3, rf_0_4, rf_0_5, rf_0_6, rf_0_7, rf_0_8, rf_0_9, rf_0_10, rf_1_1, rf_1_2, rf_4_0, rf_4_1, rf_4_2, rf_4_3, rf_4_4, rf_4_5, rf_11_0, rf_11_1, rf_12_0, rf_12_1, rf_12_2, rf_12_6, rf_12_7, rf_12_8, rf_13_0, rf_13_1, rf_13_2, rf_13_3, rf_18_0, rf_18_1, rf_18_2, rf_18_3, rf_23_0, rf_23_1, rf_23_2, rf_23_3, rf_31_0, rf_33_0, rf_33_2, rf_33_3, rf_33_4, rf_37_0, rf_39_0, rf_39_1, rf_39_2, rf_39_3, rf_40_0, rf_40_1, rf_40_2, rf_40_3, rf_47_3, rf_49_3, rf_51_3, rf_53_3, rf_55_1, rf_55_7, rf_55_8, rf_55_9, rf_55_11, rf_55_13, rf_55_14, rf_55_15, rf_55_17, rf_55_18, rf_55_19, rf_55_27, rf_55_28, rf_55_29, rf_55_30, rf_55_31, rf_55_32, rf_55_33, rf_55_34, rf_55_35, rf_55_36, rf_55_38, rf_55_44, rf_55_45, rf_55_46, rf_55_47, aL_2, aL_3, aL_5, aL_6, aL_7, aL_8, aL_9, aL_10, aL_14, aL_15, aL_16, aL_17, aL_19, aL_20, aL_21, aL_22, aL_24, aL_25, aL_26, aL_27, aL_28, aL_29, aL_30, aL_32, aL_34, aL_35, aL_36, aL_38, aL_39, aL_40, aL_41, aL_42, aL_43, aL_44, aL_45, aL_46, aL_48, aL_50, aL_52, aL_54, aL_56, aL_57, aL_58, aL_59, aL_60, aL_61, aL_62, aL_63, aL_64, aL_65, aL_66, aL_67, aL_68, aL_69, aL_70, aL_71, aL_72, aL_73, aL_74, aL_75, aL_76, aL_77, aL_78, aL_79, aL_80, aL_81, inb_nI, lit32, nI_clamp, nI_1, nI_add, if_pos, if_neg, b01_0, b01_1, Nat.add_sub_cancel, if_true, if_false, not_true_eq_false, not_false_eq_true, true_and, and_true, false_and, and_false, pk_sub, b01_n0, b01_n1, bI_t, bI_f, ofNat_nI, ck_d, Int32.lt_iff_toInt_lt, Int32.le_iff_toInt_le, i32_eq, nI_toInt, bI_b01, bI_0, decide_eq_true_eq, bI_tt, bI_ff, nI_prd, ↓reduceIte, iltT, iltF, ileT, ileF, ieqT, ieqF, dcT, dcF, or_true, or_false, true_or, false_or, w10, efr, hf, e2]
  · have w10 := hNM.1
    unfold f_X9_wrongNow_L22
    dsimp only
    rw [w10, if_pos (by rw [Int32.le_iff_toInt_le]; exact Int.le_refl _)]
    rfl
/-- nothing is wrong with what is laid -/
def okT (n nk : Nat) (o g tm pt ls fs d : Nat → Nat) (il : Bool) : Bool := il && decide (cntB (outB o g pt d) n + wrS o g tm pt ls fs d nk = 0)
theorem wr_bd {n nk : Nat} {o g tm pt ls fs d : Nat → Nat} (hn : n ≤ 14) (hnk : nk ≤ n) : cntB (outB o g pt d) n + wrS o g tm pt ls fs d nk < 2 ^ 31 := by
  have h1 := cntB_le (outB o g pt d) n
  have h2 : ∀ k, wrS o g tm pt ls fs d k ≤ 3 * k := by
    intro k
    induction k with
    | zero => exact Nat.le_refl _
    | succ k ih =>
      have : wrK o g tm pt ls fs 0 k d ≤ 3 := by
        unfold wrK
        split <;> split <;> split <;> omega
      show wrS o g tm pt ls fs d k + wrK o g tm pt ls fs 0 k d ≤ _
      omega
  have h3 := h2 nk
  omega
section
variable {c n nk t : Nat} {o g tm pt ls fs d tb : Nat → Nat} {il : Bool} {σ0 : Sg}
theorem t_make {σ : Sg} (hE : EnvS σ c n nk t o g tm pt ls fs d tb il) : ∃ τ, f_X8_makeTablature 0 σ = some (bI (okT n nk o g tm pt ls fs d il), τ) ∧ Ag (fun p k => p = 11 ∨ S37 p k) (fun _ _ => False) σ τ ∧ (okT n nk o g tm pt ls fs d il = true → HsC τ (tabA c o tm pt fs d nk)) := by
  obtain ⟨hr, b1, b2, p1, p2, p3, p4, p6, p8, p9⟩ := hE
  have hn := b2.1
  have hnk := p3.1.nk_le
  unfold f_X8_makeTablature f_X8_makeTablature_L14 okT
  rw [p4.1]
  cases il with
  | false =>
    rw [if_pos (by decide), ck_of b01_0]
    exact ⟨σ, rfl, Ag.rf, fun y => by cases y⟩
  | true =>
    have hd : ∀ i, i < n → gI σ 46 i = nI (d i) ∧ d i < c := fun i hi => let ⟨x, _, y⟩ := p4.2.2 rfl i hi; ⟨x, y⟩
    obtain ⟨σ1, e1, a1⟩ := s_X8_wrongs hr b1 b2 p1 p2 p3 hd
    have hb := wr_bd (o := o) (g := g) (tm := tm) (pt := pt) (ls := ls) (fs := fs) (d := d) hn hnk
    rw [if_neg (by decide), e1, bd_eq]
    by_cases q : cntB (outB o g pt d) n + wrS o g tm pt ls fs d nk = 0
    · obtain ⟨z1, z2⟩ := wr_0 p3.1 q
      have hr1 : RefI σ1 := a1.ref hr
      have key : ∀ p k, ¬ (p = 11 ∨ (p = 37 ∧ k = 1)) → gI (pI σ1 37 1 0) p k = gI σ p k := fun p k y => by
        rw [gI_pI, if_neg (by omega)]; exact a1.2.1 p k (by unfold S11; omega)
      have hr2 : RefI (pI σ1 37 1 0) := hr1
      obtain ⟨τ, e2, a2, q2⟩ := s_mkTab hr2 b1 b2 (p1.fr (fun p k y => key p k (by unfold S1 at y; omega))) (p2.fr (fun p k y => key p k (by unfold S2 at y; omega))) (p3.fr (fun p k y => key p k (by unfold S3 at y; omega))) (fun i hi => ⟨(key 46 i (by omega)).trans (hd i hi).1, (hd i hi).2⟩) z1 z2 (by rw [gI_pI, if_pos ⟨rfl, rfl⟩]; rfl)
      have hA1 : Ag (fun p k => p = 11 ∨ S37 p k) (fun _ _ => False) σ (pI σ1 37 1 0) := Ag.pI (a1.mono (fun p k y => Or.inl y) (fun _ _ y => y)) (Or.inr (by unfold S37; omega))
      rw [q, if_pos (show nI 0 = (0 : Int32) from rfl), lB_eq, rf_0_6 hr1]
      exact ⟨τ, e2, hA1.tr (a2.mono (fun p k y => Or.inr y) (fun _ _ y => y)), fun _ => q2⟩
    · rw [if_neg (show ¬ nI (cntB (outB o g pt d) n + wrS o g tm pt ls fs d nk) = (0 : Int32) from fun y => q ((nI_eq (b := 0) hb (by omega)).1 y)), ck_of b01_0, decide_eq_false q]
      exact ⟨σ1, rfl, a1.mono (fun p k y => Or.inl y) (fun _ _ y => y), fun y => by cases y⟩
theorem t_tab {σ : Sg} (hE : EnvS σ c n nk t o g tm pt ls fs d tb il) : ∃ τ, f_X9_tablature 55 σ = some ((if okT n nk o g tm pt ls fs d il = true then nI (tabA c o tm pt fs d nk).1 else -3), τ) ∧ Ag (fun p k => (SR p k ∨ p = 66 ∨ SL p k) ∨ S76 p k) (fun _ _ => False) σ τ ∧ (okT n nk o g tm pt ls fs d il = true → HsM τ (tabA c o tm pt fs d nk)) := by
  obtain ⟨hr, b1, b2, p1, p2, p3, p4, p6, p8, p9⟩ := hE
  have hn := b2.1
  have hnk := p3.1.nk_le
  unfold f_X9_tablature okT
  cases il with
  | false =>
    have e0 : f_X9_wrongNow 55 σ = some (-3, σ) := by unfold f_X9_wrongNow; rw [p4.2.1, if_pos (by decide)]
    rw [e0, bd_eq, if_neg (by decide), if_neg (show ¬ (false && decide (cntB (outB o g pt d) n + wrS o g tm pt ls fs d nk = 0)) = true from fun y => by cases y)]
    exact ⟨σ, rfl, Ag.rf, fun y => by cases y⟩
  | true =>
    have hd : ∀ i, i < n → gI σ 60 i = nI (d i) ∧ d i < c := fun i hi => let ⟨_, x, y⟩ := p4.2.2 rfl i hi; ⟨x, y⟩
    obtain ⟨σ1, e1, a1, rc1, l1⟩ := s_X9_wrongNow2 hr b1 b2 p1 p2 p3.1 hd p4.2.1 p8.2
    have hb := wr_bd (o := o) (g := g) (tm := tm) (pt := pt) (ls := ls) (fs := fs) (d := d) hn hnk
    rw [e1, bd_eq]
    by_cases q : cntB (outB o g pt d) n + wrS o g tm pt ls fs d nk = 0
    · obtain ⟨z1, z2⟩ := wr_0 p3.1 q
      have hr1 : RefI σ1 := a1.ref hr
      have key : ∀ p k, ¬ ((SR p k ∨ p = 66 ∨ SL p k) ∨ (p = 55 ∧ k = 37)) → gI (pI σ1 55 37 0) p k = gI σ p k := fun p k y => by
        rw [gI_pI, if_neg (fun x => y (Or.inr x))]; exact a1.2.1 p k (fun x => y (Or.inl x))
      have hr2 : RefI (pI σ1 55 37 0) := hr1
      have hAp : Ag (fun p k => p = 55 ∧ k = 37) (fun _ _ => False) σ1 (pI σ1 55 37 0) := Ag.rf.pI ⟨rfl, rfl⟩
      obtain ⟨τ, e2, a2, q2⟩ := s_tab hr2 b1 b2 (p1.fr (fun p k y => key p k (by unfold S1 at y; unfold SR SL; omega))) (p2.fr (fun p k y => key p k (by unfold S2 at y; unfold SR SL; omega))) p3.1 (rc1.ag hAp (fun p k y x => by unfold SR at y; omega)) ((key 55 20 (by unfold SR SL; omega)).trans p8.2) (fun i hi => ⟨(key 60 i (by unfold SR SL; omega)).trans (hd i hi).1, (hd i hi).2⟩) (fun i hi => by rw [gI_pI, if_neg (by omega)]; exact l1 i hi) z1 z2 (by rw [gI_pI, if_pos ⟨rfl, rfl⟩]; rfl)
      have hA1 : Ag (fun p k => (SR p k ∨ p = 66 ∨ SL p k) ∨ S76 p k) (fun _ _ => False) σ (pI σ1 55 37 0) := Ag.pI (a1.mono (fun p k y => Or.inl y) (fun _ _ y => y)) (Or.inr (by unfold S76; omega))
      rw [q, if_pos (show nI 0 = (0 : Int32) from rfl), lB_eq, if_pos (show (true && decide (0 = 0)) = true from rfl)]
      exact ⟨τ, e2, hA1.tr (a2.mono (fun p k y => Or.inr y) (fun _ _ y => y)), fun _ => q2⟩
    · rw [if_neg (show ¬ nI (cntB (outB o g pt d) n + wrS o g tm pt ls fs d nk) = (0 : Int32) from fun y => q ((nI_eq (b := 0) hb (by omega)).1 y)), decide_eq_false q, if_neg (by decide)]
      exact ⟨σ1, rfl, a1.mono (fun p k y => Or.inl y) (fun _ _ y => y), fun y => by cases y⟩
theorem c37 {p k : Nat} (h : p = 11 ∨ S37 p k) : Sc p k := by unfold S37 at h; unfold Sc; omega
theorem c76 {p k : Nat} (h : (SR p k ∨ p = 66 ∨ SL p k) ∨ S76 p k) : Sc p k := by unfold SR SL S76 at h; unfold Sc; omega
/-- what text tells, asked for byte x -/
noncomputable def txV (c n nk : Nat) (o g tm pt ls fs d : Nat → Nat) (il : Bool) (x : Int32) : Int32 := if okT n nk o g tm pt ls fs d il = true then (if x = -1 then nI (tabA c o tm pt fs d nk).1 else if nI (tabA c o tm pt fs d nk).1 ≤ x then -2 else nI ((tabA c o tm pt fs d nk).2 x.toInt.toNat)) else -3
theorem v_X8_text {x : Int32} (hx : -1 ≤ x.toInt) : CV σ0 c n nk t o g tm pt ls fs d tb il (f_X8_text 0 x) (txV c n nk o g tm pt ls fs d il x) := CV.ag (P := fun p k => p = 11 ∨ S37 p k) (PL := fun _ _ => False) (fun p k y => c37 y) (fun _ _ y => False.elim y) (fun σ hE _ => by
  have hc5 := hE.2.1.2.1
  have hn := hE.2.2.1.1
  have hnk := hE.2.2.2.2.2.1.1.nk_le
  have hlen := tabA_len (o := o) (tm := tm) (pt := pt) (fs := fs) (d := d) hc5 nk
  obtain ⟨τ, e, a, hH⟩ := t_make hE
  have hr1 : RefI τ := a.ref hE.1
  refine ⟨τ, ?_, a⟩
  unfold f_X8_text f_X8_text_L56 txV
  rw [if_pos (by rw [Int32.le_iff_toInt_le]; exact hx), e, bd_eq]
  cases q : okT n nk o g tm pt ls fs d il with
  | false => rw [if_pos (by decide), if_neg (by decide)]
  | true =>
    obtain ⟨h1, h2⟩ := hH q
    rw [if_neg (show ¬ bI true = (0 : Int32) by decide), if_pos rfl, rf_0_6 hr1, h1]
    by_cases q1 : x = -1
    · rw [if_pos q1, if_pos q1]
    · rw [if_neg q1, if_neg q1]
      by_cases q2 : nI (tabA c o tm pt fs d nk).1 ≤ x
      · rw [if_pos q2, if_pos q2]
      · have q3 : 0 ≤ x.toInt := by
          rw [i32_eq, show (-1 : Int32).toInt = -1 from rfl] at q1; omega
        have q4 : x.toInt < ((tabA c o tm pt fs d nk).1 : Int) := by
          rw [Int32.le_iff_toInt_le, nI_toInt (by omega)] at q2; omega
        have ex := i32_nI q3
        have ei : inb x 140 = true := by rw [ex, inb_nI (by omega)]; exact decide_eq_true (by omega)
        have ecl : x.toNatClampNeg = x.toInt.toNat := by
          rw [ex, nI_clamp (by omega), nI_toInt (by omega)]; rfl
        rw [if_neg q2, if_neg q2, rf_37_0 hr1, aL_38, ei, ck_tt, ecl, h2 _ (by omega)])
theorem v_X9_text {x : Int32} (hx : -1 ≤ x.toInt) : CV σ0 c n nk t o g tm pt ls fs d tb il (f_X9_text 55 x) (txV c n nk o g tm pt ls fs d il x) := CV.ag (P := fun p k => (SR p k ∨ p = 66 ∨ SL p k) ∨ S76 p k) (PL := fun _ _ => False) (fun p k y => c76 y) (fun _ _ y => False.elim y) (fun σ hE _ => by
  have hc5 := hE.2.1.2.1
  have hn := hE.2.2.1.1
  have hnk := hE.2.2.2.2.2.1.1.nk_le
  have hlen := tabA_len (o := o) (tm := tm) (pt := pt) (fs := fs) (d := d) hc5 nk
  obtain ⟨τ, e, a, hH⟩ := t_tab hE
  have hr1 : RefI τ := a.ref hE.1
  refine ⟨τ, ?_, a⟩
  unfold f_X9_text f_X9_text_L24 f_X9_text_L44 txV
  by_cases q : okT n nk o g tm pt ls fs d il = true
  · obtain ⟨h1, h2⟩ := hH q
    have n3 : ¬ nI (tabA c o tm pt fs d nk).1 = -3 := fun y => by
      rw [i32_eq, nI_toInt (by omega), show (-3 : Int32).toInt = -3 from rfl] at y; omega
    rw [if_pos q] at e
    rw [if_pos (by rw [Int32.le_iff_toInt_le]; exact hx), e, bd_eq, if_neg n3, if_pos q]
    by_cases q1 : x = -1
    · rw [if_pos q1, if_pos q1]
    · rw [if_neg q1, if_neg q1]
      by_cases q2 : nI (tabA c o tm pt fs d nk).1 ≤ x
      · rw [if_pos q2, if_pos q2]
      · have q3 : 0 ≤ x.toInt := by
          rw [i32_eq, show (-1 : Int32).toInt = -1 from rfl] at q1; omega
        have q4 : x.toInt < ((tabA c o tm pt fs d nk).1 : Int) := by
          rw [Int32.le_iff_toInt_le, nI_toInt (by omega)] at q2; omega
        have ex := i32_nI q3
        have ei : inb x 256 = true := by rw [ex, inb_nI (by omega)]; exact decide_eq_true (by omega)
        have ecl : x.toNatClampNeg = x.toInt.toNat := by
          rw [ex, nI_clamp (by omega), nI_toInt (by omega)]; rfl
        rw [if_neg q2, if_neg q2, rf_55_36 hr1, aL_76, ei, ck_tt, ecl, h2 _ (by omega)]
  · rw [if_neg q] at e
    rw [if_pos (by rw [Int32.le_iff_toInt_le]; exact hx), e, bd_eq, if_pos rfl, if_neg q])
end
theorem m_text {σ : Sg} (h : Rel σ) (x : Int32) : Both σ (f_X8_text 0 x) (f_X9_text 55 x) := by
  by_cases hx : -1 ≤ x.toInt
  · exact h.cv (fun _ _ => ⟨_, v_X8_text hx, v_X9_text hx⟩)
  · refine ⟨-2, σ, σ, ?_, ?_, h⟩
    · unfold f_X8_text
      rw [if_neg (by rw [Int32.le_iff_toInt_le]; exact hx)]
    · unfold f_X9_text
      rw [if_neg (by rw [Int32.le_iff_toInt_le]; exact hx)]
