/-! what is wrong of what is laid -/
def outB (o g pt d : Nat → Nat) (i : Nat) : Bool := !mayB o g pt i (d i)
def wrS (o g tm pt ls fs d : Nat → Nat) : Nat → Nat
  | 0 => 0
  | k + 1 => wrS o g tm pt ls fs d k + wrK o g tm pt ls fs 0 k d
theorem fin_le {o tm pt ls fs d : Nat → Nat} {z : Int} {k : Nat} : finK o tm pt ls fs z k d ≤ fs (k + 1) := by
  have h1 : posC (sndB tm ls fs k) (fret o pt z d) (fs (k + 1)) ≤ fs (k + 1) := cntB_le _ _
  unfold finK finC
  omega
theorem s_X8_wrongs {σ : Sg} {c n nk : Nat} {o g tm pt ls fs d : Nat → Nat} (hr : RefI σ) (b1 : Bl c o g) (b2 : Bn n tm pt ls) (p1 : P1 σ c o g) (p2 : P2 σ n tm pt ls) (p3 : P3 σ n tm ls nk fs) (hd : ∀ i, i < n → gI σ 46 i = nI (d i) ∧ d i < c) : ∃ σ', f_X8_wrongs 0 σ = some (nI (cntB (outB o g pt d) n + wrS o g tm pt ls fs d nk), σ') ∧ Ag S11 (fun _ _ => False) σ σ' := by
  have hn := b2.1
  have hc5 := b1.2.1
  have h46 := p2.1
  have hC := p3.1
  have hnk := hC.nk_le
  have g0 := (p1.2.2.2 0 (by omega)).1
  have bg := b1.2.2.2.2.1
  have loop2 : ∃ σ', fx (f_X8_wrongs_L41 0) FU (nI (cntB (outB o g pt d) n), nI 0, σ) = some (nI (cntB (outB o g pt d) n + wrS o g tm pt ls fs d nk), σ') ∧ Ag S11 (fun _ _ => False) σ σ' := by
    refine fx_inv2 (I := fun k s => ∃ τ, s = (nI (cntB (outB o g pt d) n + wrS o g tm pt ls fs d k), nI k, τ) ∧ Ag S11 (fun _ _ => False) σ τ) (Q := fun e => ∃ σ', e = some (nI (cntB (outB o g pt d) n + wrS o g tm pt ls fs d nk), σ') ∧ Ag S11 (fun _ _ => False) σ σ') (n := nk) ?_ ?_ nk 0 FU _ (by omega) (by unfold FU; omega) ⟨σ, rfl, Ag.rf⟩
    · rintro k s hk ⟨τ, rfl, hA⟩ rec
      have hr2 : RefI τ := hA.ref hr
      have hM := hC.le (k := k + 1) (by omega)
      have t7 : gI τ 4 7 = nI nk := (hA.2.1 4 7 (by unfold S11; omega)).trans p3.2.1
      have hz : (0 : Int32).toInt = 0 := rfl
      obtain ⟨υ, e1, a1, hT⟩ := s_X0_look (x3 := 0) (q := 46) (d := d) hr2 b1 b2 (fun j hj => (hA.2.1 2 j (by unfold S11; omega)).trans (p1.2.2.1 j hj).1) (p2.c.ag hA (by unfold S11; omega) (fun p k h1 h2 z => by unfold S11 at z; omega)) (p3.fr (fun p k z => hA.2.1 p k (by unfold S11; unfold S3 at z; omega))) hk rfl (by decide) (fun i hi hs => ⟨(hA.2.1 46 i (by unfold S11; omega)).trans (hd i (by omega)).1, by have := (hd i (by omega)).2; omega⟩) (by decide)
      rw [hz] at hT
      have hA2 := hA.tr a1
      have hr3 : RefI υ := hA2.ref hr
      have fl := fin_le (o := o) (tm := tm) (pt := pt) (ls := ls) (fs := fs) (d := d) (z := 0) (k := k)
      have e2 := s_X0_wrongs (g := g) hr3 hT ((hA2.2.1 3 1 (by unfold S11; omega)).trans (p1.2.2.2 1 (by omega)).1) b1.2.2.2.2.2.1 (by omega) (fun i hi hs => (fret_bd (by omega) (b2.2.1 i (by omega)).2.1 (b1.2.2.1 (d i) (by have := (hd i (by omega)).2; omega))).2)
      have e1' : f_X0_look 11 (nI k) 46 (nI 0) τ = some ((), υ) := e1
      left
      refine ⟨(nI (cntB (outB o g pt d) n + wrS o g tm pt ls fs d (k + 1)), nI (k + 1), υ), ⟨υ, rfl, hA2⟩, ?_⟩
      have ew : wrS o g tm pt ls fs d (k + 1) = wrS o g tm pt ls fs d k + wrK o g tm pt ls fs 0 k d := rfl
      rw [ew, ← Nat.add_assoc]
      unfold f_X8_wrongs_L41
      dsimp only
      simp (disch := first | assumption | omega) only [↓lB_eq, ↓bd_m, ck_tt, gI_pI, gI_pL, gI_pR, gL_pI, gL_pL, gL_pR, gR_pI, gR_pL, rf_0_0, rf_0_1, rf_0_2, rf_0_3, rf_0_4, rf_0_5, rf_0_6, rf_0_7, rf_0_8, rf_0_9, rf_0_10, rf_1_1, rf_1_2, rf_4_0, rf_4_1, rf_4_2, rf_4_3, rf_4_4, rf_4_5, rf_11_0, rf_11_1, rf_12_0, rf_12_1, rf_12_2, rf_12_6, rf_12_7, rf_12_8, rf_13_0, rf_13_1, rf_13_2, rf_13_3, rf_18_0, rf_18_1, rf_18_2, rf_18_3, rf_23_0, rf_23_1, rf_23_2, rf_23_3, rf_31_0, rf_33_0, rf_33_2, rf_33_3, rf_33_4, rf_37_0, rf_39_0, rf_39_1, rf_39_2, rf_39_3, rf_40_0, rf_40_1, rf_40_2, rf_40_3, rf_47_3, rf_49_3, rf_51_3, rf_53_3, rf_55_1, rf_55_7, rf_55_8, rf_55_9, rf_55_11, rf_55_13, rf_55_14, rf_55_15, rf_55_17, rf_55_18, rf_55_19, rf_55_27, rf_55_28, rf_55_29, rf_55_30, rf_55_31, rf_55_32, rf_55_33, rf_55_34, rf_55_35, rf_55_36, rf_55_38, rf_55_44, rf_55_45, rf_55_46, rf_55_47, aL_2, aL_3, aL_5, aL_6, aL_7, aL_8, aL_9, aL_10, aL_14, aL_15, aL_16, aL_17, aL_19, aL_20, aL_21, aL_22, aL_24, aL_25, aL_26, aL_27, aL_28, aL_29, aL_30, aL_32, aL_34, aL_35, aL_36, aL_38, aL_39, aL_40, aL_41, aL_42, aL_43, aL_44, aL_45, aL_46, aL_48, aL_50, aL_52, aL_54, aL_56, aL_57, aL_58, aL_59, aL_60, aL_61, aL_62, aL_63, aL_64, aL_65, aL_66, aL_67, aL_68, aL_69, aL_70, aL_71, aL_72, aL_73, aL_74, aL_75, aL_76, aL_77, aL_78, aL_79, aL_80, aL_81, inb_nI, lit32, nI_clamp, nI_1, nI_add, if_pos, if_neg, b01_0, b01_1, Nat.add_sub_cancel, if_true, if_false, not_true_eq_false, not_false_eq_true, true_and, and_true, false_and, and_false, pk_sub, b01_n0, b01_n1, bI_t, bI_f, ofNat_nI, ck_d, Int32.lt_iff_toInt_lt, Int32.le_iff_toInt_le, i32_eq, nI_toInt, bI_b01, bI_0, decide_eq_true_eq, bI_tt, bI_ff, nI_prd, ↓reduceIte, iltT, iltF, ileT, ileF, ieqT, ieqF, dcT, dcF, or_true, or_false, true_or, false_or, t7, e1', e2]
    · rintro s ⟨τ, rfl, hA⟩ rec
      have hr2 : RefI τ := hA.ref hr
      have t7 : gI τ 4 7 = nI nk := (hA.2.1 4 7 (by unfold S11; omega)).trans p3.2.1
      refine ⟨some (nI (cntB (outB o g pt d) n + wrS o g tm pt ls fs d nk), τ), ⟨τ, rfl, hA⟩, ?_⟩
      unfold f_X8_wrongs_L41
      dsimp only
      simp (disch := first | assumption | omega) only [↓lB_eq, ↓bd_m, ck_tt, gI_pI, gI_pL, gI_pR, gL_pI, gL_pL, gL_pR, gR_pI, gR_pL, rf_0_0, rf_0_1, rf_0_2, rf_0_3, rf_0_4, rf_0_5, rf_0_6, rf_0_7, rf_0_8, rf_0_9, rf_0_10, rf_1_1, rf_1_2, rf_4_0, rf_4_1, rf_4_2, rf_4_3, rf_4_4, rf_4_5, rf_11_0, rf_11_1, rf_12_0, rf_12_1, rf_12_2, rf_12_6, rf_12_7, rf_12_8, rf_13_0, rf_13_1, rf_13_2, rf_13_3, rf_18_0, rf_18_1, rf_18_2, rf_18_3, rf_23_0, rf_23_1, rf_23_2, rf_23_3, rf_31_0, rf_33_0, rf_33_2, rf_33_3, rf_33_4, rf_37_0, rf_39_0, rf_39_1, rf_39_2, rf_39_3, rf_40_0, rf_40_1, rf_40_2, rf_40_3, rf_47_3, rf_49_3, rf_51_3, rf_53_3, rf_55_1, rf_55_7, rf_55_8, rf_55_9, rf_55_11, rf_55_13, rf_55_14, rf_55_15, rf_55_17, rf_55_18, rf_55_19, rf_55_27, rf_55_28, rf_55_29, rf_55_30, rf_55_31, rf_55_32, rf_55_33, rf_55_34, rf_55_35, rf_55_36, rf_55_38, rf_55_44, rf_55_45, rf_55_46, rf_55_47, aL_2, aL_3, aL_5, aL_6, aL_7, aL_8, aL_9, aL_10, aL_14, aL_15, aL_16, aL_17, aL_19, aL_20, aL_21, aL_22, aL_24, aL_25, aL_26, aL_27, aL_28, aL_29, aL_30, aL_32, aL_34, aL_35, aL_36, aL_38, aL_39, aL_40, aL_41, aL_42, aL_43, aL_44, aL_45, aL_46, aL_48, aL_50, aL_52, aL_54, aL_56, aL_57, aL_58, aL_59, aL_60, aL_61, aL_62, aL_63, aL_64, aL_65, aL_66, aL_67, aL_68, aL_69, aL_70, aL_71, aL_72, aL_73, aL_74, aL_75, aL_76, aL_77, aL_78, aL_79, aL_80, aL_81, inb_nI, lit32, nI_clamp, nI_1, nI_add, if_pos, if_neg, b01_0, b01_1, Nat.add_sub_cancel, if_true, if_false, not_true_eq_false, not_false_eq_true, true_and, and_true, false_and, and_false, pk_sub, b01_n0, b01_n1, bI_t, bI_f, ofNat_nI, ck_d, Int32.lt_iff_toInt_lt, Int32.le_iff_toInt_le, i32_eq, nI_toInt, bI_b01, bI_0, decide_eq_true_eq, bI_tt, bI_ff, nI_prd, ↓reduceIte, iltT, iltF, ileT, ileF, ieqT, ieqF, dcT, dcF, or_true, or_false, true_or, false_or, t7]
  obtain ⟨σ', e, a⟩ := loop2
  refine ⟨σ', ?_, a⟩
  rw [← e]
  unfold f_X8_wrongs
  refine fx_for0 (fun i => (nI (cntB (outB o g pt d) i), nI i, σ)) rfl (n := n) (fun i hi rec => ?_) (fun rec => ?_) (by unfold FU; omega)
  · have c6 := (p2.2.2 i hi).2.1
    have bi := b2.2.1 i hi
    obtain ⟨d1, d2⟩ := hd i hi
    have ho := (p1.2.2.1 (d i) (by omega)).1
    have bo := b1.2.2.1 (d i) (by omega)
    have hf := s_X1_hasFret hr (nI (pt i) - nI (o (d i)))
    rw [sub_toInt (by omega) (by omega), g0, nI_toInt (by omega)] at hf
    have efr : f_X8_fretOfLaid 0 (nI i) σ = some (nI (pt i) - nI (o (d i)), σ) := by
      unfold f_X8_fretOfLaid
      rw [rf_0_1 hr, rf_4_1 hr, rf_0_10 hr, rf_0_0 hr, rf_1_1 hr, nI_clamp (by omega), d1, nI_clamp (by omega), c6, ho, inb_nI (by omega), inb_nI (by omega), inb_nI (by omega), aL_6, aL_46, aL_2, ck_d (by omega), ck_d (by omega), ck_d (by omega)]
    unfold f_X8_wrongs_L4 f_X8_wrongs_L33
    dsimp only
    by_cases hb : mayB o g pt i (d i) = true
    · have e2 := cntB_f (P := outB o g pt d) (m := i) (by unfold outB; rw [hb]; decide)
      have hb2 := of_decide_eq_true hb
      rw [decide_eq_true hb2] at hf
      rw [show nI (pt i) - nI (o (d i)) = nI (pt i - o (d i)) from pk_sub (by omega)] at hf efr
      simp (disch := first | assumption | omega) only [↓lB_eq, ↓bd_m, ck_tt, gI_pI, gI_pL, gI_pR, gL_pI, gL_pL, gL_pR, gR_pI, gR_pL, rf_0_0, rf_0_1, rf_0_2, rf_0_3, rf_0_4, rf_0_5, rf_0_6, rf_0_7, rf_0_8, rf_0_9, rf_0_10, rf_1_1, rf_1_2, rf_4_0, rf_4_1, rf_4_2, rf_4_3, rf_4_4, rf_4_5, rf_11_0, rf_11_1, rf_12_0, rf_12_1, rf_12_2, rf_12_6, rf_12_7, rf_12_8, rf_13_0, rf_13_1, rf_13_2, rf_13_3, rf_18_0, rf_18_1, rf_18_2, rf_18_3, rf_23_0, rf_23_1, rf_23_2, rf_23_3, rf_31_0, rf_33_0, rf_33_2, rf_33_3, rf_33_4, rf_37_0, rf_39_0, rf_39_1, rf_39_2, rf_39_3, rf_40_0, rf_40_1, rf_40_2, rf_40_3, rf_47_3, rf_49_3, rf_51_3, rf_53_3, rf_55_1, rf_55_7, rf_55_8, rf_55_9, rf_55_11, rf_55_13, rf_55_14, rf_55_15, rf_55_17, rf_55_18, rf_55_19, rf_55_27, rf_55_28, rf_55_29, rf_55_30, rf_55_31, rf_55_32, rf_55_33, rf_55_34, rf_55_35, rf_55_36, rf_55_38, rf_55_44, rf_55_45, rf_55_46, rf_55_47, aL_2, aL_3, aL_5, aL_6, aL_7, aL_8, aL_9, aL_10, aL_14, aL_15, aL_16, aL_17, aL_19, aL_20, aL_21, aL_22, aL_24, aL_25, aL_26, aL_27, aL_28, aL_29, aL_30, aL_32, aL_34, aL_35, aL_36, aL_38, aL_39, aL_40, aL_41, aL_42, aL_43, aL_44, aL_45, aL_46, aL_48, aL_50, aL_52, aL_54, aL_56, aL_57, aL_58, aL_59, aL_60, aL_61, aL_62, aL_63, aL_64, aL_65, aL_66, aL_67, aL_68, aL_69, aL_70, aL_71, aL_72, aL_73, aL_74, aL_75, aL_76, aL_77, aL_78, aL_79, aL_80, aL_81, inb_nI, lit32, nI_clamp, nI_1, nI_add, if_pos, if_neg, b01_0, b01_1, Nat.add_sub_cancel, if_true, if_false, not_true_eq_false, not_false_eq_true, true_and, and_true, false_and, and_false, pk_sub, b01_n0, b01_n1, bI_t, bI_f, ofNat_nI, ck_d, Int32.lt_iff_toInt_lt, Int32.le_iff_toInt_le, i32_eq, nI_toInt, bI_b01, bI_0, decide_eq_true_eq, bI_tt, bI_ff, nI_prd, ↓reduceIte, iltT, iltF, ileT, ileF, ieqT, ieqF, dcT, dcF, or_true, or_false, true_or, false_or, h46, efr, hf, e2]
      rfl
    · have e2 := cntB_t (P := outB o g pt d) (m := i) (by unfold outB; rw [Bool.not_eq_true] at hb; rw [hb]; rfl)
      have hb2 : ¬ (0 ≤ (pt i : Int) - (o (d i) : Int) ∧ (pt i : Int) - (o (d i) : Int) ≤ (g 0 : Int)) := fun z => hb (decide_eq_true z)
      rw [decide_eq_false hb2] at hf
      simp (disch := first | assumption | omega) only [↓lB_eq, ↓bd_m, ck_tt, gI_pI, gI_pL, gI_pR, gL_pI, gL_pL, gL_pR, gR_pI, gR_pL, rf_0_0, rf_0_1, rf_0_2, rf_0_3, rf_0_4, rf_0_5, rf_0_6, rf_0_7, rf_0_8, rf_0_9, rf_0_10, rf_1_1, rf_1_2, rf_4_0, rf_4_1, rf_4_2, rf_4_3, rf_4_4, rf_4_5, rf_11_0, rf_11_1, rf_12_0, rf_12_1, rf_12_2, rf_12_6, rf_12_7, rf_12_8, rf_13_0, rf_13_1, rf_13_2, rf_13_3, rf_18_0, rf_18_1, rf_18_2, rf_18_3, rf_23_0, rf_23_1, rf_23_2, rf_23_3, rf_31_0, rf_33_0, rf_33_2, rf_33_3, rf_33_4, rf_37_0, rf_39_0, rf_39_1, rf_39_2, rf_39_3, rf_40_0, rf_40_1, rf_40_2, rf_40_3, rf_47_3, rf_49_3, rf_51_3, rf_53_3, rf_55_1, rf_55_7, rf_55_8, rf_55_9, rf_55_11, rf_55_13, rf_55_14, rf_55_15, rf_55_17, rf_55_18, rf_55_19, rf_55_27, rf_55_28, rf_55_29, rf_55_30, rf_55_31, rf_55_32, rf_55_33, rf_55_34, rf_55_35, rf_55_36, rf_55_38, rf_55_44, rf_55_45, rf_55_46, rf_55_47, aL_2, aL_3, aL_5, aL_6, aL_7, aL_8, aL_9, aL_10, aL_14, aL_15, aL_16, aL_17, aL_19, aL_20, aL_21, aL_22, aL_24, aL_25, aL_26, aL_27, aL_28, aL_29, aL_30, aL_32, aL_34, aL_35, aL_36, aL_38, aL_39, aL_40, aL_41, aL_42, aL_43, aL_44, aL_45, aL_46, aL_48, aL_50, aL_52, aL_54, aL_56, aL_57, aL_58, aL_59, aL_60, aL_61, aL_62, aL_63, aL_64, aL_65, aL_66, aL_67, aL_68, aL_69, aL_70, aL_71, aL_72, aL_73, aL_74, aL_75, aL_76, aL_77, aL_78, aL_79, aL_80, aL_81, inb_nI, lit32, nI_clamp, nI_1, nI_add, if_pos, if_neg, b01_0, b01_1, Nat.add_sub_cancel, if_true, if_false, not_true_eq_false, not_false_eq_true, true_and, and_true, false_and, and_false, pk_sub, b01_n0, b01_n1, bI_t, bI_f, ofNat_nI, ck_d, Int32.lt_iff_toInt_lt, Int32.le_iff_toInt_le, i32_eq, nI_toInt, bI_b01, bI_0, decide_eq_true_eq, bI_tt, bI_ff, nI_prd, ↓reduceIte, iltT, iltF, ileT, ileF, ieqT, ieqF, dcT, dcF, or_true, or_false, true_or, false_or, h46, efr, hf, e2]
  · unfold f_X8_wrongs_L4
    dsimp only
    rw [rf_0_1 hr, h46, if_pos (by rw [Int32.le_iff_toInt_le]; exact Int.le_refl _)]
    rfl
