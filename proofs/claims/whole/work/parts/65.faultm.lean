/-! fault of the reference -/
section
variable {c n nk : Nat} {o g tm pt ls fs : Nat → Nat}
theorem Rch.zero {e : Nat → Nat} (hG : Gd c o g tm pt ls fs 0 99 0 e) : Rch c o g tm pt ls fs 0 e := ⟨e, fun j hj => by rw [show j = 0 by omega]; exact hG, fun _ _ => rfl⟩
/-- the marks of a chord -/
def Mk (σ : Sg) (c : Nat) (o g tm pt ls fs : Nat → Nat) (k m : Nat) (D : Nat → Nat → Nat) : Prop := ∀ a, a < m → ∃ rb : Bool, gI σ 75 (128 * k + a) = bI rb ∧ (rb = true ↔ Rch c o g tm pt ls fs k (D a))
theorem s_fltA {τ : Sg} {M : Nat → Nat} {DD : Nat → Nat → Nat → Nat} {k b : Nat} {x2 : Int32} {rec7 : Int32 × Sg → Option (Int32 × Sg)} {rec19 : Int32 × Int32 × Sg → Option (Int32 × Sg)} (hE : RE τ c n nk o g tm pt ls fs 0) (b1 : Bl c o g) (b2 : Bn n tm pt ls) (hC : Ch n tm nk fs) (hk : k + 1 < nk) (hT : ∀ j, j < nk → TbW τ c n nk o g tm pt ls fs 0 99 M DD j) (hR : Mk τ c o g tm pt ls fs k (M k) (DD k)) (hb : b < M (k + 1)) : ∃ is : Bool, fx (f_X9_faultNow_L43 rec7 rec19 55 (nI (k + 1)) x2 (nI b)) FU (nI 0, nI 0, τ) = f_X9_faultNow_L137 rec7 rec19 55 (nI (k + 1)) x2 (nI b) (bI is) τ ∧ (is = true ↔ Rch c o g tm pt ls fs (k + 1) (DD (k + 1) b)) := by
  have hn := b2.1
  have hnk := hC.nk_le
  have hc5 := b1.2.1
  have hr := hE.1
  obtain ⟨w1, w2, w3⟩ := hT k (by omega)
  obtain ⟨v1, v2, _⟩ := hT (k + 1) hk
  have hm := w1.2.1
  have hm' := v1.2.1
  have hM := hC.le (k := k + 1) (by omega)
  have hM' := hC.le (k := k + 1 + 1) (by omega)
  have t68 := w1.1
  obtain ⟨⟨W', q1, q2⟩, _, _⟩ := v1.2.2 b hb
  have hG' := v2.1 b hb
  have c2 := hG'.cnt hM'
  rw [Rch.suc hC hk w2 hG']
  refine fx_inv2 (I := fun a s => ∃ is : Bool, s = (bI is, nI a, τ) ∧ (is = true ↔ ∃ a', a' < a ∧ Rch c o g tm pt ls fs k (DD k a') ∧ ∀ x, x < n → sndB tm ls fs k x = true → sndB tm ls fs (k + 1) x = true → DD k a' x = DD (k + 1) b x)) (Q := fun e => ∃ is : Bool, e = f_X9_faultNow_L137 rec7 rec19 55 (nI (k + 1)) x2 (nI b) (bI is) τ ∧ (is = true ↔ ∃ a, a < M k ∧ Rch c o g tm pt ls fs k (DD k a) ∧ ∀ x, x < n → sndB tm ls fs k x = true → sndB tm ls fs (k + 1) x = true → DD k a x = DD (k + 1) b x)) (n := M k) ?_ ?_ (M k) 0 FU _ (by omega) (by unfold FU; omega) ⟨false, rfl, ⟨fun y => (by cases y), fun ⟨a, y, _⟩ => by omega⟩⟩
  · rintro a s ha ⟨is, rfl, his⟩ rec
    obtain ⟨⟨W, u1, u2⟩, _, _⟩ := w1.2.2 a ha
    have c1 := (w2.1 a ha).cnt hM
    obtain ⟨rb, e75, hrb⟩ := hR a ha
    obtain ⟨B, eg, hB⟩ := s_X9_goesOn hr hn hnk hk (w3 hk) u2 q2 (by omega) (by omega)
    rw [show 128 * k + a = 128 * (k + 1) - 128 + a by omega] at e75 u1
    have up : ∀ is' : Bool, (is' = true ↔ is = true ∨ (Rch c o g tm pt ls fs k (DD k a) ∧ ∀ x, x < n → sndB tm ls fs k x = true → sndB tm ls fs (k + 1) x = true → DD k a x = DD (k + 1) b x)) → (is' = true ↔ ∃ a', a' < a + 1 ∧ Rch c o g tm pt ls fs k (DD k a') ∧ ∀ x, x < n → sndB tm ls fs k x = true → sndB tm ls fs (k + 1) x = true → DD k a' x = DD (k + 1) b x) := by
      intro is' h
      rw [h, his]
      constructor
      · rintro (⟨a', y1, y2⟩ | y)
        · exact ⟨a', by omega, y2⟩
        · exact ⟨a, by omega, y⟩
      · rintro ⟨a', y1, y2⟩
        by_cases e : a' = a
        · subst e; exact Or.inr y2
        · exact Or.inl ⟨a', by omega, y2⟩
    left
    cases is with
    | true =>
      refine ⟨(bI true, nI (a + 1), τ), ⟨true, rfl, up true ⟨fun _ => Or.inl rfl, fun _ => rfl⟩⟩, ?_⟩
      unfold f_X9_faultNow_L43 f_X9_faultNow_L124 f_X9_faultNow_L129
      dsimp only
      simp (disch := first | assumption | omega) only [↓lB_eq, ↓bd_m, ck_tt, gI_pI, gI_pL, gI_pR, gL_pI, gL_pL, gL_pR, gR_pI, gR_pL, rf_0_0, rf_0_1, rf_0_2, rf_0_3, rf_0_4, rf_0_5, rf_0_6, rf_0_7, rf_0_8, rf_0_9, rf_0_10, rf_1_1, rf_1_2, rf_4_0, rf_4_1, rf_4_2, rf_4_3, rf_4_4, rf_4_5, rf_11_0, rf_11_1, rf_12_0, rf_12_1, rf_12_2, rf_12_6, rf_12_7, rf_12_8, rf_13_0, rf_13_1, rf_13_2, rf_13_3, rf_18_0, rf_18_1, rf_18_2, rf_18_3, rf_23_0, rf_23_1, rf_23_2, rf_23_3, rf_31_0, rf_33_0, rf_33_2, rf_33_3, rf_33_4, rf_37_0, rf_39_0, rf_39_1, rf_39_2, rf_39_3, rf_40_0, rf_40_1, rf_40_2, rf_40_3, rf_47_3, rf_49_3, rf_51_3, rf_53_3, rf_55_1, rf_55_7, rf_55_8, rf_55_9, rf_55_11, rf_55_13, rf_55_14, rf_55_15, rf_55_17, rf_55_18, rf_55_19, rf_55_27, rf_55_28, rf_55_29, rf_55_30, rf_55_31, rf_55_32, rf_55_33, rf_55_34, rf_55_35, rf_55_36, rf_55_38, rf_55_44, rf_55_45, rf_55_46, rf_55_47, aL_2, aL_3, aL_5, aL_6, aL_7, aL_8, aL_9, aL_10, aL_14, aL_15, aL_16, aL_17, aL_19, aL_20, aL_21, aL_22, aL_24, aL_25, aL_26, aL_27, aL_28, aL_29, aL_30, aL_32, aL_34, aL_35, aL_36, aL_38, aL_39, aL_40, aL_41, aL_42, aL_43, aL_44, aL_45, aL_46, aL_48, aL_50, aL_52, aL_54, aL_56, aL_57, aL_58, aL_59, aL_60, aL_61, aL_62, aL_63, aL_64, aL_65, aL_66, aL_67, aL_68, aL_69, aL_70, aL_71, aL_72, aL_73, aL_74, aL_75, aL_76, aL_77, aL_78, aL_79, aL_80, aL_81, inb_nI, lit32, nI_clamp, nI_1, nI_add, if_pos, if_neg, b01_0, b01_1, Nat.add_sub_cancel, if_true, if_false, not_true_eq_false, not_false_eq_true, true_and, and_true, false_and, and_false, pk_sub, b01_n0, b01_n1, bI_t, bI_f, ofNat_nI, ck_d, Int32.lt_iff_toInt_lt, Int32.le_iff_toInt_le, i32_eq, nI_toInt, bI_b01, bI_0, decide_eq_true_eq, bI_tt, bI_ff, nI_prd, ↓reduceIte, iltT, iltF, ileT, ileF, ieqT, ieqF, dcT, dcF, or_true, or_false, true_or, false_or, t68]
    | false =>
      cases rb with
      | false =>
        refine ⟨(bI false, nI (a + 1), τ), ⟨false, rfl, up false ⟨fun y => (by cases y), fun y => ?_⟩⟩, ?_⟩
        · rcases y with y | ⟨y, _⟩
          · exact y
          · exact hrb.2 y
        · unfold f_X9_faultNow_L43 f_X9_faultNow_L128 f_X9_faultNow_L129
          dsimp only
          simp (disch := first | assumption | omega) only [↓lB_eq, ↓bd_m, ck_tt, gI_pI, gI_pL, gI_pR, gL_pI, gL_pL, gL_pR, gR_pI, gR_pL, rf_0_0, rf_0_1, rf_0_2, rf_0_3, rf_0_4, rf_0_5, rf_0_6, rf_0_7, rf_0_8, rf_0_9, rf_0_10, rf_1_1, rf_1_2, rf_4_0, rf_4_1, rf_4_2, rf_4_3, rf_4_4, rf_4_5, rf_11_0, rf_11_1, rf_12_0, rf_12_1, rf_12_2, rf_12_6, rf_12_7, rf_12_8, rf_13_0, rf_13_1, rf_13_2, rf_13_3, rf_18_0, rf_18_1, rf_18_2, rf_18_3, rf_23_0, rf_23_1, rf_23_2, rf_23_3, rf_31_0, rf_33_0, rf_33_2, rf_33_3, rf_33_4, rf_37_0, rf_39_0, rf_39_1, rf_39_2, rf_39_3, rf_40_0, rf_40_1, rf_40_2, rf_40_3, rf_47_3, rf_49_3, rf_51_3, rf_53_3, rf_55_1, rf_55_7, rf_55_8, rf_55_9, rf_55_11, rf_55_13, rf_55_14, rf_55_15, rf_55_17, rf_55_18, rf_55_19, rf_55_27, rf_55_28, rf_55_29, rf_55_30, rf_55_31, rf_55_32, rf_55_33, rf_55_34, rf_55_35, rf_55_36, rf_55_38, rf_55_44, rf_55_45, rf_55_46, rf_55_47, aL_2, aL_3, aL_5, aL_6, aL_7, aL_8, aL_9, aL_10, aL_14, aL_15, aL_16, aL_17, aL_19, aL_20, aL_21, aL_22, aL_24, aL_25, aL_26, aL_27, aL_28, aL_29, aL_30, aL_32, aL_34, aL_35, aL_36, aL_38, aL_39, aL_40, aL_41, aL_42, aL_43, aL_44, aL_45, aL_46, aL_48, aL_50, aL_52, aL_54, aL_56, aL_57, aL_58, aL_59, aL_60, aL_61, aL_62, aL_63, aL_64, aL_65, aL_66, aL_67, aL_68, aL_69, aL_70, aL_71, aL_72, aL_73, aL_74, aL_75, aL_76, aL_77, aL_78, aL_79, aL_80, aL_81, inb_nI, lit32, nI_clamp, nI_1, nI_add, if_pos, if_neg, b01_0, b01_1, Nat.add_sub_cancel, if_true, if_false, not_true_eq_false, not_false_eq_true, true_and, and_true, false_and, and_false, pk_sub, b01_n0, b01_n1, bI_t, bI_f, ofNat_nI, ck_d, Int32.lt_iff_toInt_lt, Int32.le_iff_toInt_le, i32_eq, nI_toInt, bI_b01, bI_0, decide_eq_true_eq, bI_tt, bI_ff, nI_prd, ↓reduceIte, iltT, iltF, ileT, ileF, ieqT, ieqF, dcT, dcF, or_true, or_false, true_or, false_or, t68, nI_mul, e75]
      | true =>
        refine ⟨(bI B, nI (a + 1), τ), ⟨B, rfl, up B ?_⟩, ?_⟩
        · rw [hB]
          exact ⟨fun y => Or.inr ⟨hrb.1 rfl, y⟩, fun y => by (rcases y with y | ⟨_, y⟩; cases y; exact y)⟩
        · unfold f_X9_faultNow_L43 f_X9_faultNow_L124 f_X9_faultNow_L128 f_X9_faultNow_L129
          dsimp only
          cases B with
          | true =>
            simp (disch := first | assumption | omega) only [↓lB_eq, ↓bd_m, ck_tt, gI_pI, gI_pL, gI_pR, gL_pI, gL_pL, gL_pR, gR_pI, gR_pL, rf_0_0, rf_0_1, rf_0_2, rf_0_3, rf_0_4, rf_0_5, rf_0_6, rf_0_7, rf_0_8, rf_0_9, rf_0_10, rf_1_1, rf_1_2, rf_4_0, rf_4_1, rf_4_2, rf_4_3, rf_4_4, rf_4_5, rf_11_0, rf_11_1, rf_12_0, rf_12_1, rf_12_2, rf_12_6, rf_12_7, rf_12_8, rf_13_0, rf_13_1, rf_13_2, rf_13_3, rf_18_0, rf_18_1, rf_18_2, rf_18_3, rf_23_0, rf_23_1, rf_23_2, rf_23_3, rf_31_0, rf_33_0, rf_33_2, rf_33_3, rf_33_4, rf_37_0, rf_39_0, rf_39_1, rf_39_2, rf_39_3, rf_40_0, rf_40_1, rf_40_2, rf_40_3, rf_47_3, rf_49_3, rf_51_3, rf_53_3, rf_55_1, rf_55_7, rf_55_8, rf_55_9, rf_55_11, rf_55_13, rf_55_14, rf_55_15, rf_55_17, rf_55_18, rf_55_19, rf_55_27, rf_55_28, rf_55_29, rf_55_30, rf_55_31, rf_55_32, rf_55_33, rf_55_34, rf_55_35, rf_55_36, rf_55_38, rf_55_44, rf_55_45, rf_55_46, rf_55_47, aL_2, aL_3, aL_5, aL_6, aL_7, aL_8, aL_9, aL_10, aL_14, aL_15, aL_16, aL_17, aL_19, aL_20, aL_21, aL_22, aL_24, aL_25, aL_26, aL_27, aL_28, aL_29, aL_30, aL_32, aL_34, aL_35, aL_36, aL_38, aL_39, aL_40, aL_41, aL_42, aL_43, aL_44, aL_45, aL_46, aL_48, aL_50, aL_52, aL_54, aL_56, aL_57, aL_58, aL_59, aL_60, aL_61, aL_62, aL_63, aL_64, aL_65, aL_66, aL_67, aL_68, aL_69, aL_70, aL_71, aL_72, aL_73, aL_74, aL_75, aL_76, aL_77, aL_78, aL_79, aL_80, aL_81, inb_nI, lit32, nI_clamp, nI_1, nI_add, if_pos, if_neg, b01_0, b01_1, Nat.add_sub_cancel, if_true, if_false, not_true_eq_false, not_false_eq_true, true_and, and_true, false_and, and_false, pk_sub, b01_n0, b01_n1, bI_t, bI_f, ofNat_nI, ck_d, Int32.lt_iff_toInt_lt, Int32.le_iff_toInt_le, i32_eq, nI_toInt, bI_b01, bI_0, decide_eq_true_eq, bI_tt, bI_ff, nI_prd, ↓reduceIte, iltT, iltF, ileT, ileF, ieqT, ieqF, dcT, dcF, or_true, or_false, true_or, false_or, t68, nI_mul, e75, u1, q1, eg]
          | false =>
            simp (disch := first | assumption | omega) only [↓lB_eq, ↓bd_m, ck_tt, gI_pI, gI_pL, gI_pR, gL_pI, gL_pL, gL_pR, gR_pI, gR_pL, rf_0_0, rf_0_1, rf_0_2, rf_0_3, rf_0_4, rf_0_5, rf_0_6, rf_0_7, rf_0_8, rf_0_9, rf_0_10, rf_1_1, rf_1_2, rf_4_0, rf_4_1, rf_4_2, rf_4_3, rf_4_4, rf_4_5, rf_11_0, rf_11_1, rf_12_0, rf_12_1, rf_12_2, rf_12_6, rf_12_7, rf_12_8, rf_13_0, rf_13_1, rf_13_2, rf_13_3, rf_18_0, rf_18_1, rf_18_2, rf_18_3, rf_23_0, rf_23_1, rf_23_2, rf_23_3, rf_31_0, rf_33_0, rf_33_2, rf_33_3, rf_33_4, rf_37_0, rf_39_0, rf_39_1, rf_39_2, rf_39_3, rf_40_0, rf_40_1, rf_40_2, rf_40_3, rf_47_3, rf_49_3, rf_51_3, rf_53_3, rf_55_1, rf_55_7, rf_55_8, rf_55_9, rf_55_11, rf_55_13, rf_55_14, rf_55_15, rf_55_17, rf_55_18, rf_55_19, rf_55_27, rf_55_28, rf_55_29, rf_55_30, rf_55_31, rf_55_32, rf_55_33, rf_55_34, rf_55_35, rf_55_36, rf_55_38, rf_55_44, rf_55_45, rf_55_46, rf_55_47, aL_2, aL_3, aL_5, aL_6, aL_7, aL_8, aL_9, aL_10, aL_14, aL_15, aL_16, aL_17, aL_19, aL_20, aL_21, aL_22, aL_24, aL_25, aL_26, aL_27, aL_28, aL_29, aL_30, aL_32, aL_34, aL_35, aL_36, aL_38, aL_39, aL_40, aL_41, aL_42, aL_43, aL_44, aL_45, aL_46, aL_48, aL_50, aL_52, aL_54, aL_56, aL_57, aL_58, aL_59, aL_60, aL_61, aL_62, aL_63, aL_64, aL_65, aL_66, aL_67, aL_68, aL_69, aL_70, aL_71, aL_72, aL_73, aL_74, aL_75, aL_76, aL_77, aL_78, aL_79, aL_80, aL_81, inb_nI, lit32, nI_clamp, nI_1, nI_add, if_pos, if_neg, b01_0, b01_1, Nat.add_sub_cancel, if_true, if_false, not_true_eq_false, not_false_eq_true, true_and, and_true, false_and, and_false, pk_sub, b01_n0, b01_n1, bI_t, bI_f, ofNat_nI, ck_d, Int32.lt_iff_toInt_lt, Int32.le_iff_toInt_le, i32_eq, nI_toInt, bI_b01, bI_0, decide_eq_true_eq, bI_tt, bI_ff, nI_prd, ↓reduceIte, iltT, iltF, ileT, ileF, ieqT, ieqF, dcT, dcF, or_true, or_false, true_or, false_or, t68, nI_mul, e75, u1, q1, eg]
  · rintro s ⟨is, rfl, his⟩ rec
    refine ⟨f_X9_faultNow_L137 rec7 rec19 55 (nI (k + 1)) x2 (nI b) (bI is) τ, ⟨is, rfl, his⟩, ?_⟩
    unfold f_X9_faultNow_L43
    dsimp only
    simp (disch := first | assumption | omega) only [↓lB_eq, ↓bd_m, ck_tt, gI_pI, gI_pL, gI_pR, gL_pI, gL_pL, gL_pR, gR_pI, gR_pL, rf_0_0, rf_0_1, rf_0_2, rf_0_3, rf_0_4, rf_0_5, rf_0_6, rf_0_7, rf_0_8, rf_0_9, rf_0_10, rf_1_1, rf_1_2, rf_4_0, rf_4_1, rf_4_2, rf_4_3, rf_4_4, rf_4_5, rf_11_0, rf_11_1, rf_12_0, rf_12_1, rf_12_2, rf_12_6, rf_12_7, rf_12_8, rf_13_0, rf_13_1, rf_13_2, rf_13_3, rf_18_0, rf_18_1, rf_18_2, rf_18_3, rf_23_0, rf_23_1, rf_23_2, rf_23_3, rf_31_0, rf_33_0, rf_33_2, rf_33_3, rf_33_4, rf_37_0, rf_39_0, rf_39_1, rf_39_2, rf_39_3, rf_40_0, rf_40_1, rf_40_2, rf_40_3, rf_47_3, rf_49_3, rf_51_3, rf_53_3, rf_55_1, rf_55_7, rf_55_8, rf_55_9, rf_55_11, rf_55_13, rf_55_14, rf_55_15, rf_55_17, rf_55_18, rf_55_19, rf_55_27, rf_55_28, rf_55_29, rf_55_30, rf_55_31, rf_55_32, rf_55_33, rf_55_34, rf_55_35, rf_55_36, rf_55_38, rf_55_44, rf_55_45, rf_55_46, rf_55_47, aL_2, aL_3, aL_5, aL_6, aL_7, aL_8, aL_9, aL_10, aL_14, aL_15, aL_16, aL_17, aL_19, aL_20, aL_21, aL_22, aL_24, aL_25, aL_26, aL_27, aL_28, aL_29, aL_30, aL_32, aL_34, aL_35, aL_36, aL_38, aL_39, aL_40, aL_41, aL_42, aL_43, aL_44, aL_45, aL_46, aL_48, aL_50, aL_52, aL_54, aL_56, aL_57, aL_58, aL_59, aL_60, aL_61, aL_62, aL_63, aL_64, aL_65, aL_66, aL_67, aL_68, aL_69, aL_70, aL_71, aL_72, aL_73, aL_74, aL_75, aL_76, aL_77, aL_78, aL_79, aL_80, aL_81, inb_nI, lit32, nI_clamp, nI_1, nI_add, if_pos, if_neg, b01_0, b01_1, Nat.add_sub_cancel, if_true, if_false, not_true_eq_false, not_false_eq_true, true_and, and_true, false_and, and_false, pk_sub, b01_n0, b01_n1, bI_t, bI_f, ofNat_nI, ck_d, Int32.lt_iff_toInt_lt, Int32.le_iff_toInt_le, i32_eq, nI_toInt, bI_b01, bI_0, decide_eq_true_eq, bI_tt, bI_ff, nI_prd, ↓reduceIte, iltT, iltF, ileT, ileF, ieqT, ieqF, dcT, dcF, or_true, or_false, true_or, false_or, t68]
def Pf (k p j : Nat) : Prop := p = 75 ∧ 128 * k ≤ j ∧ j < 128 * k + 128
theorem TbW.ag {P PL : Nat → Nat → Prop} {σ τ : Sg} {z : Int} {ban : Nat} {M : Nat → Nat} {DD : Nat → Nat → Nat → Nat} {j : Nat} (h : TbW σ c n nk o g tm pt ls fs z ban M DD j) (q : Ag P PL σ τ) (h1 : ∀ p k, P p k → ¬ (67 ≤ p ∧ p ≤ 70) ∧ ¬ (72 ≤ p ∧ p ≤ 74)) : TbW τ c n nk o g tm pt ls fs z ban M DD j :=
  ⟨h.1.ag q (fun y => by have := h1 _ _ y; omega) (fun p i a b c y => by have := h1 _ _ y; omega), h.2.1, fun w => (h.2.2 w).ag q (fun p i a y => by have := h1 _ _ y; unfold Psh at a; omega)⟩
/-- one chord's turn: the marks of the chord ahead are there -/
theorem s_fltB {τ : Sg} {M : Nat → Nat} {DD : Nat → Nat → Nat → Nat} {k : Nat} {rec7 : Int32 × Sg → Option (Int32 × Sg)} (hE : RE τ c n nk o g tm pt ls fs 0) (b1 : Bl c o g) (b2 : Bn n tm pt ls) (hC : Ch n tm nk fs) (hk : k < nk) (hT : ∀ j, j < nk → TbW τ c n nk o g tm pt ls fs 0 99 M DD j) (hR : ∀ j, k = j + 1 → Mk τ c o g tm pt ls fs j (M j) (DD j)) : ∃ υ, Ag (Pf k) (fun _ _ => False) τ υ ∧ ((fx (f_X9_faultNow_L19 rec7 55 (nI k)) FU (nI 0, nI 0, τ) = some (nI k, υ) ∧ ∀ b, b < M k → ¬ Rch c o g tm pt ls fs k (DD k b)) ∨ (fx (f_X9_faultNow_L19 rec7 55 (nI k)) FU (nI 0, nI 0, τ) = rec7 (nI (k + 1), υ) ∧ Mk υ c o g tm pt ls fs k (M k) (DD k) ∧ ∃ b, b < M k ∧ Rch c o g tm pt ls fs k (DD k b))) := by
  have hn := b2.1
  have hnk := hC.nk_le
  obtain ⟨w1, w2, w3⟩ := hT k hk
  have hm := w1.2.1
  refine fx_inv2 (I := fun b s => ∃ (υ : Sg) (any : Bool), s = (bI any, nI b, υ) ∧ Ag (Pf k) (fun _ _ => False) τ υ ∧ (∀ a, a < b → ∃ rb : Bool, gI υ 75 (128 * k + a) = bI rb ∧ (rb = true ↔ Rch c o g tm pt ls fs k (DD k a))) ∧ (any = true ↔ ∃ a, a < b ∧ Rch c o g tm pt ls fs k (DD k a))) (Q := fun e => ∃ υ, Ag (Pf k) (fun _ _ => False) τ υ ∧ ((e = some (nI k, υ) ∧ ∀ b, b < M k → ¬ Rch c o g tm pt ls fs k (DD k b)) ∨ (e = rec7 (nI (k + 1), υ) ∧ Mk υ c o g tm pt ls fs k (M k) (DD k) ∧ ∃ b, b < M k ∧ Rch c o g tm pt ls fs k (DD k b)))) (n := M k) ?_ ?_ (M k) 0 FU _ (by omega) (by unfold FU; omega) ⟨τ, false, rfl, Ag.rf, fun a ha => by omega, ⟨fun y => (by cases y), fun ⟨a, y, _⟩ => by omega⟩⟩
  · rintro b s hb ⟨υ, any, rfl, hA, hMk, hany⟩ rec
    have hE1 := hE.ag hA (fun p j y => by unfold Pf at y; unfold FM SL; omega)
    have hr1 := hE1.1
    have hT1 : ∀ j, j < nk → TbW υ c n nk o g tm pt ls fs 0 99 M DD j := fun j hj => (hT j hj).ag hA (fun p i y => by unfold Pf at y; omega)
    have t68 := (hT1 k hk).1.1
    have head : ∃ is : Bool, f_X9_faultNow_L19 rec7 55 (nI k) rec (bI any, nI b, υ) = f_X9_faultNow_L137 rec7 rec 55 (nI k) (bI any) (nI b) (bI is) υ ∧ (is = true ↔ Rch c o g tm pt ls fs k (DD k b)) := by
      unfold f_X9_faultNow_L19 f_X9_faultNow_L38
      dsimp only
      rw [rf_55_28 hr1, aL_68, inb_nI (by omega), ck_d (by omega), nI_clamp (by omega), t68, if_neg (by rw [Int32.le_iff_toInt_le, nI_toInt (by omega), nI_toInt (by omega)]; omega)]
      by_cases h0 : k = 0
      · subst h0
        rw [if_pos (show nI 0 = (0 : Int32) from rfl)]
        refine ⟨true, ?_, ⟨fun _ => Rch.zero (w2.1 b hb), fun _ => rfl⟩⟩
        refine fx_for0 (fun _ => (nI 1, nI 0, υ)) rfl (n := 0) (fun i hi rec => by omega) (fun rec' => ?_) (by unfold FU; omega)
        unfold f_X9_faultNow_L43
        dsimp only
        rw [if_pos (show nI 0 ≤ (0 : Int32) by decide)]
        rfl
      · obtain ⟨j, rfl⟩ : ∃ j, k = j + 1 := ⟨k - 1, by omega⟩
        rw [if_neg (show ¬ nI (j + 1) = (0 : Int32) from fun y => h0 ((nI_eq (b := 0) (by omega) (by omega)).1 y))]
        have hRj : Mk υ c o g tm pt ls fs j (M j) (DD j) := fun a ha => by
          obtain ⟨rb, y1, y2⟩ := hR j rfl a ha
          have := (hT j (by omega)).1.2.1
          exact ⟨rb, (hA.2.1 75 _ (by unfold Pf; omega)).trans y1, y2⟩
        obtain ⟨is, e1, h1⟩ := s_fltA (x2 := bI any) (rec7 := rec7) (rec19 := rec) hE1 b1 b2 hC hk hT1 hRj hb
        exact ⟨is, e1, h1⟩
    obtain ⟨is, e1, h1⟩ := head
    left
    refine ⟨(bI (any || is), nI (b + 1), pI υ 75 (128 * k + b) (bI is)), ⟨_, any || is, rfl, hA.pI (by unfold Pf; omega), fun a ha => ?_, ?_⟩, ?_⟩
    · rw [gI_pI]
      by_cases e : a = b
      · subst e; rw [if_pos ⟨rfl, rfl⟩]; exact ⟨is, rfl, h1⟩
      · rw [if_neg (by omega)]; exact hMk a (by omega)
    · rw [Bool.or_eq_true, hany, h1]
      constructor
      · rintro (⟨a, y1, y2⟩ | y)
        · exact ⟨a, by omega, y2⟩
        · exact ⟨b, by omega, y⟩
      · rintro ⟨a, y1, y2⟩
        by_cases e : a = b
        · subst e; exact Or.inr y2
        · exact Or.inl ⟨a, by omega, y2⟩
    · rw [e1]
      unfold f_X9_faultNow_L137 f_X9_faultNow_L160 f_X9_faultNow_L165
      cases any with
      | true =>
        cases is with
        | true =>
          simp (disch := first | assumption | omega) only [↓lB_eq, ↓bd_m, ck_tt, gI_pI, gI_pL, gI_pR, gL_pI, gL_pL, gL_pR, gR_pI, gR_pL, rf_0_0, rf_0_1, rf_0_2, rf_0_3, rf_0_4, rf_0_5, rf_0_6, rf_0_7, rf_0_8, rf_0_9, rf_0_10, rf_1_1, rf_1_2, rf_4_0, rf_4_1, rf_4_2, rf_4_3, rf_4_4, rf_4_5, rf_11_0, rf_11_1, rf_12_0, rf_12_1, rf_12_2, rf_12_6, rf_12_7, rf_12_8, rf_13_0, rf_13_1, rf_13_2, rf_13_3, rf_18_0, rf_18_1, rf_18_2, rf_18_3, rf_23_0, rf_23_1, rf_23_2, rf_23_3, rf_31_0, rf_33_0, rf_33_2, rf_33_3, rf_33_4, rf_37_0, rf_39_0, rf_39_1, rf_39_2, rf_39_3, rf_40_0, rf_40_1, rf_40_2, rf_40_3, rf_47_3, rf_49_3, rf_51_3, rf_53_3, rf_55_1, rf_55_7, rf_55_8, rf_55_9, rf_55_11, rf_55_13, rf_55_14, rf_55_15, rf_55_17, rf_55_18, rf_55_19, rf_55_27, rf_55_28, rf_55_29, rf_55_30, rf_55_31, rf_55_32, rf_55_33, rf_55_34, rf_55_35, rf_55_36, rf_55_38, rf_55_44, rf_55_45, rf_55_46, rf_55_47, aL_2, aL_3, aL_5, aL_6, aL_7, aL_8, aL_9, aL_10, aL_14, aL_15, aL_16, aL_17, aL_19, aL_20, aL_21, aL_22, aL_24, aL_25, aL_26, aL_27, aL_28, aL_29, aL_30, aL_32, aL_34, aL_35, aL_36, aL_38, aL_39, aL_40, aL_41, aL_42, aL_43, aL_44, aL_45, aL_46, aL_48, aL_50, aL_52, aL_54, aL_56, aL_57, aL_58, aL_59, aL_60, aL_61, aL_62, aL_63, aL_64, aL_65, aL_66, aL_67, aL_68, aL_69, aL_70, aL_71, aL_72, aL_73, aL_74, aL_75, aL_76, aL_77, aL_78, aL_79, aL_80, aL_81, inb_nI, lit32, nI_clamp, nI_1, nI_add, if_pos, if_neg, b01_0, b01_1, Nat.add_sub_cancel, if_true, if_false, not_true_eq_false, not_false_eq_true, true_and, and_true, false_and, and_false, pk_sub, b01_n0, b01_n1, bI_t, bI_f, ofNat_nI, ck_d, Int32.lt_iff_toInt_lt, Int32.le_iff_toInt_le, i32_eq, nI_toInt, bI_b01, bI_0, decide_eq_true_eq, bI_tt, bI_ff, nI_prd, ↓reduceIte, iltT, iltF, ileT, ileF, ieqT, ieqF, dcT, dcF, or_true, or_false, true_or, false_or, nI_mul]
          rfl
        | false =>
          simp (disch := first | assumption | omega) only [↓lB_eq, ↓bd_m, ck_tt, gI_pI, gI_pL, gI_pR, gL_pI, gL_pL, gL_pR, gR_pI, gR_pL, rf_0_0, rf_0_1, rf_0_2, rf_0_3, rf_0_4, rf_0_5, rf_0_6, rf_0_7, rf_0_8, rf_0_9, rf_0_10, rf_1_1, rf_1_2, rf_4_0, rf_4_1, rf_4_2, rf_4_3, rf_4_4, rf_4_5, rf_11_0, rf_11_1, rf_12_0, rf_12_1, rf_12_2, rf_12_6, rf_12_7, rf_12_8, rf_13_0, rf_13_1, rf_13_2, rf_13_3, rf_18_0, rf_18_1, rf_18_2, rf_18_3, rf_23_0, rf_23_1, rf_23_2, rf_23_3, rf_31_0, rf_33_0, rf_33_2, rf_33_3, rf_33_4, rf_37_0, rf_39_0, rf_39_1, rf_39_2, rf_39_3, rf_40_0, rf_40_1, rf_40_2, rf_40_3, rf_47_3, rf_49_3, rf_51_3, rf_53_3, rf_55_1, rf_55_7, rf_55_8, rf_55_9, rf_55_11, rf_55_13, rf_55_14, rf_55_15, rf_55_17, rf_55_18, rf_55_19, rf_55_27, rf_55_28, rf_55_29, rf_55_30, rf_55_31, rf_55_32, rf_55_33, rf_55_34, rf_55_35, rf_55_36, rf_55_38, rf_55_44, rf_55_45, rf_55_46, rf_55_47, aL_2, aL_3, aL_5, aL_6, aL_7, aL_8, aL_9, aL_10, aL_14, aL_15, aL_16, aL_17, aL_19, aL_20, aL_21, aL_22, aL_24, aL_25, aL_26, aL_27, aL_28, aL_29, aL_30, aL_32, aL_34, aL_35, aL_36, aL_38, aL_39, aL_40, aL_41, aL_42, aL_43, aL_44, aL_45, aL_46, aL_48, aL_50, aL_52, aL_54, aL_56, aL_57, aL_58, aL_59, aL_60, aL_61, aL_62, aL_63, aL_64, aL_65, aL_66, aL_67, aL_68, aL_69, aL_70, aL_71, aL_72, aL_73, aL_74, aL_75, aL_76, aL_77, aL_78, aL_79, aL_80, aL_81, inb_nI, lit32, nI_clamp, nI_1, nI_add, if_pos, if_neg, b01_0, b01_1, Nat.add_sub_cancel, if_true, if_false, not_true_eq_false, not_false_eq_true, true_and, and_true, false_and, and_false, pk_sub, b01_n0, b01_n1, bI_t, bI_f, ofNat_nI, ck_d, Int32.lt_iff_toInt_lt, Int32.le_iff_toInt_le, i32_eq, nI_toInt, bI_b01, bI_0, decide_eq_true_eq, bI_tt, bI_ff, nI_prd, ↓reduceIte, iltT, iltF, ileT, ileF, ieqT, ieqF, dcT, dcF, or_true, or_false, true_or, false_or, nI_mul]
          rfl
      | false =>
        cases is with
        | true =>
          simp (disch := first | assumption | omega) only [↓lB_eq, ↓bd_m, ck_tt, gI_pI, gI_pL, gI_pR, gL_pI, gL_pL, gL_pR, gR_pI, gR_pL, rf_0_0, rf_0_1, rf_0_2, rf_0_3, rf_0_4, rf_0_5, rf_0_6, rf_0_7, rf_0_8, rf_0_9, rf_0_10, rf_1_1, rf_1_2, rf_4_0, rf_4_1, rf_4_2, rf_4_3, rf_4_4, rf_4_5, rf_11_0, rf_11_1, rf_12_0, rf_12_1, rf_12_2, rf_12_6, rf_12_7, rf_12_8, rf_13_0, rf_13_1, rf_13_2, rf_13_3, rf_18_0, rf_18_1, rf_18_2, rf_18_3, rf_23_0, rf_23_1, rf_23_2, rf_23_3, rf_31_0, rf_33_0, rf_33_2, rf_33_3, rf_33_4, rf_37_0, rf_39_0, rf_39_1, rf_39_2, rf_39_3, rf_40_0, rf_40_1, rf_40_2, rf_40_3, rf_47_3, rf_49_3, rf_51_3, rf_53_3, rf_55_1, rf_55_7, rf_55_8, rf_55_9, rf_55_11, rf_55_13, rf_55_14, rf_55_15, rf_55_17, rf_55_18, rf_55_19, rf_55_27, rf_55_28, rf_55_29, rf_55_30, rf_55_31, rf_55_32, rf_55_33, rf_55_34, rf_55_35, rf_55_36, rf_55_38, rf_55_44, rf_55_45, rf_55_46, rf_55_47, aL_2, aL_3, aL_5, aL_6, aL_7, aL_8, aL_9, aL_10, aL_14, aL_15, aL_16, aL_17, aL_19, aL_20, aL_21, aL_22, aL_24, aL_25, aL_26, aL_27, aL_28, aL_29, aL_30, aL_32, aL_34, aL_35, aL_36, aL_38, aL_39, aL_40, aL_41, aL_42, aL_43, aL_44, aL_45, aL_46, aL_48, aL_50, aL_52, aL_54, aL_56, aL_57, aL_58, aL_59, aL_60, aL_61, aL_62, aL_63, aL_64, aL_65, aL_66, aL_67, aL_68, aL_69, aL_70, aL_71, aL_72, aL_73, aL_74, aL_75, aL_76, aL_77, aL_78, aL_79, aL_80, aL_81, inb_nI, lit32, nI_clamp, nI_1, nI_add, if_pos, if_neg, b01_0, b01_1, Nat.add_sub_cancel, if_true, if_false, not_true_eq_false, not_false_eq_true, true_and, and_true, false_and, and_false, pk_sub, b01_n0, b01_n1, bI_t, bI_f, ofNat_nI, ck_d, Int32.lt_iff_toInt_lt, Int32.le_iff_toInt_le, i32_eq, nI_toInt, bI_b01, bI_0, decide_eq_true_eq, bI_tt, bI_ff, nI_prd, ↓reduceIte, iltT, iltF, ileT, ileF, ieqT, ieqF, dcT, dcF, or_true, or_false, true_or, false_or, nI_mul]
          rfl
        | false =>
          simp (disch := first | assumption | omega) only [↓lB_eq, ↓bd_m, ck_tt, gI_pI, gI_pL, gI_pR, gL_pI, gL_pL, gL_pR, gR_pI, gR_pL, rf_0_0, rf_0_1, rf_0_2, rf_0_3, rf_0_4, rf_0_5, rf_0_6, rf_0_7, rf_0_8, rf_0_9, rf_0_10, rf_1_1, rf_1_2, rf_4_0, rf_4_1, rf_4_2, rf_4_3, rf_4_4, rf_4_5, rf_11_0, rf_11_1, rf_12_0, rf_12_1, rf_12_2, rf_12_6, rf_12_7, rf_12_8, rf_13_0, rf_13_1, rf_13_2, rf_13_3, rf_18_0, rf_18_1, rf_18_2, rf_18_3, rf_23_0, rf_23_1, rf_23_2, rf_23_3, rf_31_0, rf_33_0, rf_33_2, rf_33_3, rf_33_4, rf_37_0, rf_39_0, rf_39_1, rf_39_2, rf_39_3, rf_40_0, rf_40_1, rf_40_2, rf_40_3, rf_47_3, rf_49_3, rf_51_3, rf_53_3, rf_55_1, rf_55_7, rf_55_8, rf_55_9, rf_55_11, rf_55_13, rf_55_14, rf_55_15, rf_55_17, rf_55_18, rf_55_19, rf_55_27, rf_55_28, rf_55_29, rf_55_30, rf_55_31, rf_55_32, rf_55_33, rf_55_34, rf_55_35, rf_55_36, rf_55_38, rf_55_44, rf_55_45, rf_55_46, rf_55_47, aL_2, aL_3, aL_5, aL_6, aL_7, aL_8, aL_9, aL_10, aL_14, aL_15, aL_16, aL_17, aL_19, aL_20, aL_21, aL_22, aL_24, aL_25, aL_26, aL_27, aL_28, aL_29, aL_30, aL_32, aL_34, aL_35, aL_36, aL_38, aL_39, aL_40, aL_41, aL_42, aL_43, aL_44, aL_45, aL_46, aL_48, aL_50, aL_52, aL_54, aL_56, aL_57, aL_58, aL_59, aL_60, aL_61, aL_62, aL_63, aL_64, aL_65, aL_66, aL_67, aL_68, aL_69, aL_70, aL_71, aL_72, aL_73, aL_74, aL_75, aL_76, aL_77, aL_78, aL_79, aL_80, aL_81, inb_nI, lit32, nI_clamp, nI_1, nI_add, if_pos, if_neg, b01_0, b01_1, Nat.add_sub_cancel, if_true, if_false, not_true_eq_false, not_false_eq_true, true_and, and_true, false_and, and_false, pk_sub, b01_n0, b01_n1, bI_t, bI_f, ofNat_nI, ck_d, Int32.lt_iff_toInt_lt, Int32.le_iff_toInt_le, i32_eq, nI_toInt, bI_b01, bI_0, decide_eq_true_eq, bI_tt, bI_ff, nI_prd, ↓reduceIte, iltT, iltF, ileT, ileF, ieqT, ieqF, dcT, dcF, or_true, or_false, true_or, false_or, nI_mul]
          rfl
  · rintro s ⟨υ, any, rfl, hA, hMk, hany⟩ rec
    have hr1 := hA.ref hE.1
    have t68 : gI υ 68 k = nI (M k) := (hA.2.1 68 k (by unfold Pf; omega)).trans w1.1
    cases any with
    | false =>
      refine ⟨some (nI k, υ), ⟨υ, hA, Or.inl ⟨rfl, fun b hb y => (by have := hany.2 ⟨b, hb, y⟩; cases this)⟩⟩, ?_⟩
      unfold f_X9_faultNow_L19
      dsimp only
      simp (disch := first | assumption | omega) only [↓lB_eq, ↓bd_m, ck_tt, gI_pI, gI_pL, gI_pR, gL_pI, gL_pL, gL_pR, gR_pI, gR_pL, rf_0_0, rf_0_1, rf_0_2, rf_0_3, rf_0_4, rf_0_5, rf_0_6, rf_0_7, rf_0_8, rf_0_9, rf_0_10, rf_1_1, rf_1_2, rf_4_0, rf_4_1, rf_4_2, rf_4_3, rf_4_4, rf_4_5, rf_11_0, rf_11_1, rf_12_0, rf_12_1, rf_12_2, rf_12_6, rf_12_7, rf_12_8, rf_13_0, rf_13_1, rf_13_2, rf_13_3, rf_18_0, rf_18_1, rf_18_2, rf_18_3, rf_23_0, rf_23_1, rf_23_2, rf_23_3, rf_31_0, rf_33_0, rf_33_2, rf_33_3, rf_33_4, rf_37_0, rf_39_0, rf_39_1, rf_39_2, rf_39_3, rf_40_0, rf_40_1, rf_40_2, rf_40_3, rf_47_3, rf_49_3, rf_51_3, rf_53_3, rf_55_1, rf_55_7, rf_55_8, rf_55_9, rf_55_11, rf_55_13, rf_55_14, rf_55_15, rf_55_17, rf_55_18, rf_55_19, rf_55_27, rf_55_28, rf_55_29, rf_55_30, rf_55_31, rf_55_32, rf_55_33, rf_55_34, rf_55_35, rf_55_36, rf_55_38, rf_55_44, rf_55_45, rf_55_46, rf_55_47, aL_2, aL_3, aL_5, aL_6, aL_7, aL_8, aL_9, aL_10, aL_14, aL_15, aL_16, aL_17, aL_19, aL_20, aL_21, aL_22, aL_24, aL_25, aL_26, aL_27, aL_28, aL_29, aL_30, aL_32, aL_34, aL_35, aL_36, aL_38, aL_39, aL_40, aL_41, aL_42, aL_43, aL_44, aL_45, aL_46, aL_48, aL_50, aL_52, aL_54, aL_56, aL_57, aL_58, aL_59, aL_60, aL_61, aL_62, aL_63, aL_64, aL_65, aL_66, aL_67, aL_68, aL_69, aL_70, aL_71, aL_72, aL_73, aL_74, aL_75, aL_76, aL_77, aL_78, aL_79, aL_80, aL_81, inb_nI, lit32, nI_clamp, nI_1, nI_add, if_pos, if_neg, b01_0, b01_1, Nat.add_sub_cancel, if_true, if_false, not_true_eq_false, not_false_eq_true, true_and, and_true, false_and, and_false, pk_sub, b01_n0, b01_n1, bI_t, bI_f, ofNat_nI, ck_d, Int32.lt_iff_toInt_lt, Int32.le_iff_toInt_le, i32_eq, nI_toInt, bI_b01, bI_0, decide_eq_true_eq, bI_tt, bI_ff, nI_prd, ↓reduceIte, iltT, iltF, ileT, ileF, ieqT, ieqF, dcT, dcF, or_true, or_false, true_or, false_or, t68]
    | true =>
      refine ⟨rec7 (nI (k + 1), υ), ⟨υ, hA, Or.inr ⟨rfl, hMk, hany.1 rfl⟩⟩, ?_⟩
      unfold f_X9_faultNow_L19
      dsimp only
      simp (disch := first | assumption | omega) only [↓lB_eq, ↓bd_m, ck_tt, gI_pI, gI_pL, gI_pR, gL_pI, gL_pL, gL_pR, gR_pI, gR_pL, rf_0_0, rf_0_1, rf_0_2, rf_0_3, rf_0_4, rf_0_5, rf_0_6, rf_0_7, rf_0_8, rf_0_9, rf_0_10, rf_1_1, rf_1_2, rf_4_0, rf_4_1, rf_4_2, rf_4_3, rf_4_4, rf_4_5, rf_11_0, rf_11_1, rf_12_0, rf_12_1, rf_12_2, rf_12_6, rf_12_7, rf_12_8, rf_13_0, rf_13_1, rf_13_2, rf_13_3, rf_18_0, rf_18_1, rf_18_2, rf_18_3, rf_23_0, rf_23_1, rf_23_2, rf_23_3, rf_31_0, rf_33_0, rf_33_2, rf_33_3, rf_33_4, rf_37_0, rf_39_0, rf_39_1, rf_39_2, rf_39_3, rf_40_0, rf_40_1, rf_40_2, rf_40_3, rf_47_3, rf_49_3, rf_51_3, rf_53_3, rf_55_1, rf_55_7, rf_55_8, rf_55_9, rf_55_11, rf_55_13, rf_55_14, rf_55_15, rf_55_17, rf_55_18, rf_55_19, rf_55_27, rf_55_28, rf_55_29, rf_55_30, rf_55_31, rf_55_32, rf_55_33, rf_55_34, rf_55_35, rf_55_36, rf_55_38, rf_55_44, rf_55_45, rf_55_46, rf_55_47, aL_2, aL_3, aL_5, aL_6, aL_7, aL_8, aL_9, aL_10, aL_14, aL_15, aL_16, aL_17, aL_19, aL_20, aL_21, aL_22, aL_24, aL_25, aL_26, aL_27, aL_28, aL_29, aL_30, aL_32, aL_34, aL_35, aL_36, aL_38, aL_39, aL_40, aL_41, aL_42, aL_43, aL_44, aL_45, aL_46, aL_48, aL_50, aL_52, aL_54, aL_56, aL_57, aL_58, aL_59, aL_60, aL_61, aL_62, aL_63, aL_64, aL_65, aL_66, aL_67, aL_68, aL_69, aL_70, aL_71, aL_72, aL_73, aL_74, aL_75, aL_76, aL_77, aL_78, aL_79, aL_80, aL_81, inb_nI, lit32, nI_clamp, nI_1, nI_add, if_pos, if_neg, b01_0, b01_1, Nat.add_sub_cancel, if_true, if_false, not_true_eq_false, not_false_eq_true, true_and, and_true, false_and, and_false, pk_sub, b01_n0, b01_n1, bI_t, bI_f, ofNat_nI, ck_d, Int32.lt_iff_toInt_lt, Int32.le_iff_toInt_le, i32_eq, nI_toInt, bI_b01, bI_0, decide_eq_true_eq, bI_tt, bI_ff, nI_prd, ↓reduceIte, iltT, iltF, ileT, ileF, ieqT, ieqF, dcT, dcF, or_true, or_false, true_or, false_or, t68]
theorem s_fltC {τ : Sg} {M : Nat → Nat} {DD : Nat → Nat → Nat → Nat} (hE : RE τ c n nk o g tm pt ls fs 0) (b1 : Bl c o g) (b2 : Bn n tm pt ls) (hC : Ch n tm nk fs) (hT : ∀ j, j < nk → TbW τ c n nk o g tm pt ls fs 0 99 M DD j) : ∃ r υ, fx (f_X9_faultNow_L7 55) FU (nI 0, τ) = some (r, υ) ∧ Ag (fun p _ => p = 75) (fun _ _ => False) τ υ ∧ FP c nk o g tm pt ls fs r := by
  have hn := b2.1
  have hnk := hC.nk_le
  refine fx_inv2 (I := fun k s => ∃ υ, s = (nI k, υ) ∧ Ag (fun p _ => p = 75) (fun _ _ => False) τ υ ∧ (∀ j, k = j + 1 → Mk υ c o g tm pt ls fs j (M j) (DD j)) ∧ ∃ d, GoodTo c o g tm pt ls fs 0 99 k d) (Q := fun e => ∃ r υ, e = some (r, υ) ∧ Ag (fun p _ => p = 75) (fun _ _ => False) τ υ ∧ FP c nk o g tm pt ls fs r) (n := nk) ?_ ?_ nk 0 FU _ (by omega) (by unfold FU; omega) ⟨τ, rfl, Ag.rf, fun j y => by omega, fun _ => 0, fun j hj => by omega⟩
  · rintro k s hk ⟨υ, rfl, hA, hMk, hd⟩ rec
    have hE1 := hE.ag hA (fun p j y => by unfold FM SL; omega)
    have t16 := hE1.2.2.2.2.2.1.1
    have hT1 : ∀ j, j < nk → TbW υ c n nk o g tm pt ls fs 0 99 M DD j := fun j hj => (hT j hj).ag hA (fun p i y => by omega)
    obtain ⟨υ', a1, h⟩ := s_fltB (rec7 := rec) hE1 b1 b2 hC hk hT1 hMk
    have hA1 := hA.tr (a1.mono (Q := fun p _ => p = 75) (QL := fun _ _ => False) (fun p j y => y.1) (fun _ _ y => y))
    have eB : f_X9_faultNow_L7 55 rec (nI k, υ) = fx (f_X9_faultNow_L19 rec 55 (nI k)) FU (nI 0, nI 0, υ) := by
      unfold f_X9_faultNow_L7
      dsimp only
      rw [t16, if_neg (by rw [Int32.le_iff_toInt_le, nI_toInt (by omega), nI_toInt (by omega)]; omega)]
      rfl
    obtain ⟨_, w2, _⟩ := hT1 k hk
    rcases h with ⟨y1, y2⟩ | ⟨y1, y2, b, hb, y3⟩
    · right
      refine ⟨_, ⟨nI k, υ', rfl, hA1, Or.inr ⟨k, hk, rfl, fun d hd' => ?_, hd⟩⟩, eB.trans y1⟩
      obtain ⟨b, hb, hl⟩ := w2.2.1 d (hd' k (by omega))
      exact y2 b hb ⟨d, hd', fun i hs => (hl i hs).symm⟩
    · left
      obtain ⟨d, hd1, _⟩ := y3
      refine ⟨_, ⟨υ', rfl, hA1, fun j hj => ?_, d, hd1⟩, eB.trans y1⟩
      rw [show j = k by omega]; exact y2
  · rintro s ⟨υ, rfl, hA, _, hd⟩ rec
    have hE1 := hE.ag hA (fun p j y => by unfold FM SL; omega)
    have t16 := hE1.2.2.2.2.2.1.1
    refine ⟨some (-1, υ), ⟨-1, υ, rfl, hA, Or.inl ⟨rfl, hd⟩⟩, ?_⟩
    unfold f_X9_faultNow_L7
    dsimp only
    rw [t16, if_pos (by rw [Int32.le_iff_toInt_le]; exact Int.le_refl _)]
end
section
variable {c n nk t : Nat} {o g tm pt ls fs d tb : Nat → Nat} {il : Bool} {σ0 : Sg}
/-- the tables behind leastNow -/
theorem s_now {σ : Sg} (hE : EnvS σ c n nk t o g tm pt ls fs d tb il) : ∃ (τ : Sg) (M : Nat → Nat) (DD : Nat → Nat → Nat → Nat), f_X9_leastNow 55 σ = some (lbV c nk o g tm pt ls fs 0 99, τ) ∧ Ag (fun p k => SR p k ∨ FM p k) (fun _ _ => False) σ τ ∧ LB c nk o g tm pt ls fs 0 99 (lbV c nk o g tm pt ls fs 0 99) ∧ RE τ c n nk o g tm pt ls fs 0 ∧ (∀ j, j < nk → TbW τ c n nk o g tm pt ls fs 0 99 M DD j) ∧ ∀ j, j < nk → RsT τ c o g tm pt ls fs 0 99 nk j (M j) (DD j) := by
  obtain ⟨hr, b1, b2, p1, p2, p3, p4, p6, p8, p9⟩ := hE
  obtain ⟨v, τ, M, DD, e, a, hv, hrc, hT, hR⟩ := s_X9_leastBy (x1 := -1) (x2 := 0) hr b1 b2 p1 p2 p3.1 p8.2 (show -12 ≤ (0 : Int) ∧ (0 : Int) ≤ 12 by omega) rfl m1_ban
  rw [← hv.v]
  refine ⟨τ, M, DD, ?_, a, hv, ⟨a.ref hr, (a.2.1 55 0 (by unfold SR FM SL; omega)).trans p1.2.1, fun j hj => (a.2.1 56 j (by unfold SR FM SL; omega)).trans (p1.2.2.1 j hj).2, fun j hj => (a.2.1 55 (j + 2) (by unfold SR FM SL; omega)).trans (p1.2.2.2 j hj).2, p2.m.ag a (by unfold SR FM SL; omega) (fun p k h1 h2 y => by unfold SR FM SL at y; omega), hrc, by rw [a.2.1 55 20 (by unfold SR FM SL; omega), p8.2]; rfl⟩, hT, hR⟩
  unfold f_X9_leastNow
  rw [e, bd_eq]
theorem v_faultNow : CV σ0 c n nk t o g tm pt ls fs d tb il (f_X9_faultNow 55) (fpV c nk o g tm pt ls fs) := CV.ag (P := fun p k => SR p k ∨ FM p k) (PL := fun _ _ => False) (fun p k y => SRFM y) (fun _ _ y => False.elim y) (fun σ hE _ => by
  obtain ⟨τ, M, DD, e, a, _, hRE, hT, _⟩ := s_now hE
  obtain ⟨r, υ, e1, a1, hr⟩ := s_fltC hRE hE.2.1 hE.2.2.1 hE.2.2.2.2.2.1.1 hT
  refine ⟨υ, ?_, a.tr (a1.mono (fun p k y => Or.inr (by unfold FM; omega)) (fun _ _ y => y))⟩
  unfold f_X9_faultNow
  rw [e, bd_eq, ← hr.v]
  exact e1)
end
theorem m_least {σ : Sg} (h : Rel σ) : Both σ (f_X8_least 0) (f_X9_least 55) := h.cv (fun _ _ => ⟨_, v_X8_least, v_X9_least⟩)
theorem m_fault {σ : Sg} (h : Rel σ) : Both σ (f_X8_fault 0) (f_X9_fault 55) := h.cv (fun _ _ => ⟨_, v_X8_fault, (CV.bd (k := fun r2 s1 => some (r2, s1)) v_faultNow (CV.pure (fun _ _ _ => rfl))).eq (fun _ _ _ => rfl)⟩)
theorem m_key {σ : Sg} (h : Rel σ) (x : Int32) : Both σ (f_X8_key 0 x) (f_X9_key 55 x) := by
  have a1 : (-12 : Int32).toInt = -12 := rfl
  have a2 : (12 : Int32).toInt = 12 := rfl
  by_cases hx : -12 ≤ x.toInt ∧ x.toInt ≤ 12
  · refine h.cv (fun _ _ => ⟨_, v_X8_key hx, (v_leastBy (x1 := -1) (x2 := x) hx rfl m1_ban).eq (fun σ hE _ => ?_)⟩)
    unfold f_X9_key f_X9_key_L22
    rw [s_X9_in, bd_eq, decide_eq_true (by rw [a1, a2]; exact hx), if_neg (by decide)]
    cases f_X9_leastBy 55 (-1) x σ with
    | none => rfl
    | some q => rfl
  · refine ⟨-2, σ, σ, ?_, ?_, h⟩
    · unfold f_X8_key f_X8_key_L12
      by_cases h1 : x.toInt < -12
      · rw [if_pos (by rw [Int32.lt_iff_toInt_lt]; omega)]
      · rw [if_neg (by rw [Int32.lt_iff_toInt_lt]; omega), if_neg (by rw [Int32.le_iff_toInt_le]; omega)]
    · unfold f_X9_key f_X9_key_L22
      rw [s_X9_in, bd_eq, decide_eq_false (by rw [a1, a2]; exact hx), if_pos (by decide)]
