/-! the reference's bar -/
theorem cnt_lt {S : Nat → Bool} {j a : Nat} (hs : S j = true) : cntB S j < cntB S a ↔ j < a := by
  constructor
  · intro h
    rcases Nat.lt_or_ge j a with q | q
    · exact q
    · have := cntB_mono S q; omega
  · intro h
    have h1 := cntB_t hs
    have h2 := cntB_mono S (show j + 1 ≤ a by omega)
    omega
/-- the courses at the lowest fret, of the first t that sound -/
def B9 (S : Nat → Bool) (F : Nat → Int) (d : Nat → Nat) (L : Int) (n t le : Nat) (gr : Int) : Prop := (∀ j, j < n → S j = true → cntB S j < t → 0 < L ∧ F j = L → le ≤ d j ∧ (d j : Int) ≤ gr) ∧ ((le = 9 ∧ gr = -1 ∧ ∀ j, j < n → S j = true → cntB S j < t → ¬ (0 < L ∧ F j = L)) ∨ ((∃ u, u < n ∧ S u = true ∧ cntB S u < t ∧ (0 < L ∧ F u = L) ∧ d u = le) ∧ ∃ v, v < n ∧ S v = true ∧ cntB S v < t ∧ (0 < L ∧ F v = L) ∧ (d v : Int) = gr))
theorem B9.no {S : Nat → Bool} {F : Nat → Int} {d : Nat → Nat} {L : Int} {n t le i : Nat} {gr : Int} (h : B9 S F d L n t le gr) (hs : S i = true) (hit : cntB S i = t) (hi : ¬ (0 < L ∧ F i = L)) : B9 S F d L n (t + 1) le gr := by
  have key : ∀ j, S j = true → cntB S j < t + 1 → (0 < L ∧ F j = L) → cntB S j < t := fun j hj hc hat => by
    rcases Nat.lt_or_ge (cntB S j) t with q | q
    · exact q
    · have e : cntB S j = cntB S i := by omega
      have a1 := cnt_lt (a := i) hj
      have a2 := cnt_lt (a := j) hs
      have : j = i := by omega
      subst this; exact absurd hat hi
  refine ⟨fun j hj hsj hc hat => h.1 j hj hsj (key j hsj hc hat) hat, ?_⟩
  rcases h.2 with ⟨h1, h2, h3⟩ | ⟨⟨u, u1, u2, u3, u4⟩, ⟨v, v1, v2, v3, v4⟩⟩
  · exact Or.inl ⟨h1, h2, fun j hj hsj hc hat => h3 j hj hsj (key j hsj hc hat) hat⟩
  · exact Or.inr ⟨⟨u, u1, u2, by omega, u4⟩, ⟨v, v1, v2, by omega, v4⟩⟩
theorem B9.yes {S : Nat → Bool} {F : Nat → Int} {d : Nat → Nat} {L : Int} {n t le i : Nat} {gr : Int} (h : B9 S F d L n t le gr) (hin : i < n) (hs : S i = true) (hit : cntB S i = t) (hd : d i < 5) (hi : 0 < L ∧ F i = L) : B9 S F d L n (t + 1) (if d i < le then d i else le) (if gr < (d i : Int) then (d i : Int) else gr) := by
  have key : ∀ j, S j = true → cntB S j < t + 1 → cntB S j < t ∨ j = i := fun j hj hc => by
    rcases Nat.lt_or_ge (cntB S j) t with q | q
    · exact Or.inl q
    · have a1 := cnt_lt (a := i) hj
      have a2 := cnt_lt (a := j) hs
      right; omega
  refine ⟨fun j hj hsj hc hat => ?_, Or.inr ?_⟩
  · rcases key j hsj hc with q | q
    · have := h.1 j hj hsj q hat
      refine ⟨?_, ?_⟩
      · split <;> omega
      · split <;> omega
    · subst q
      refine ⟨?_, ?_⟩
      · split <;> omega
      · split <;> omega
  · rcases h.2 with ⟨h1, h2, h3⟩ | ⟨⟨u, u1, u2, u3, u4, u5⟩, ⟨v, v1, v2, v3, v4, v5⟩⟩
    · exact ⟨⟨i, hin, hs, by omega, hi, by rw [if_pos (by omega)]⟩, ⟨i, hin, hs, by omega, hi, by rw [if_pos (by omega)]⟩⟩
    · refine ⟨?_, ?_⟩
      · by_cases q : d i < le
        · rw [if_pos q]; exact ⟨i, hin, hs, by omega, hi, rfl⟩
        · rw [if_neg q]; exact ⟨u, u1, u2, by omega, u4, u5⟩
      · by_cases q : gr < (d i : Int)
        · rw [if_pos q]; exact ⟨i, hin, hs, by omega, hi, rfl⟩
        · rw [if_neg q]; exact ⟨v, v1, v2, by omega, v4, v5⟩
theorem s_X9_findsBar1 {σ : Sg} {o tm pt ls fs d : Nat → Nat} {z : Int} {n nk k : Nat} (hr : RefI σ) (b2 : Bn n tm pt ls) (hC : Ch n tm nk fs) (hk : k < nk) (h : RLy σ o tm pt ls fs z n nk k d) (hl : (gI σ 55 21).toInt = lowK o tm pt ls fs z k d) : ∃ le gr, (le ≤ 9 ∧ -1 ≤ gr.toInt ∧ gr.toInt < 5) ∧ B9 (sndB tm ls fs k) (fret o pt z d) d (lowK o tm pt ls fs z k d) n (cntB (sndB tm ls fs k) n) le gr.toInt ∧ f_X9_findsBar 55 (nI k) σ = fx (f_X9_findsBar_L158 55 (nI k) (nI le) gr (nI (atlC (sndB tm ls fs k) (fret o pt z d) (fs (k + 1))))) FU (nI 0, pI σ 55 23 (bI (decide (2 ≤ atlC (sndB tm ls fs k) (fret o pt z d) (fs (k + 1)))))) := by
  have hn := b2.1
  have hnk := hC.nk_le
  have hM := hC.le (k := k + 1) (by omega)
  have hcl := cntB_le (sndB tm ls fs k) n
  have z0 : (0 : Int32).toInt = 0 := rfl
  have l0 : 0 ≤ lowK o tm pt ls fs z k d := lowF_nn _
  generalize hLL : lowK o tm pt ls fs z k d = L at hl l0
  have e65 := h.2.2.1.2.2.1 k hk
  unfold f_X9_findsBar
  refine fx_inv2 (I := fun t s => ∃ le gr of, s = (nI le, gr, nI of, nI t, σ) ∧ (le ≤ 9 ∧ -1 ≤ gr.toInt ∧ gr.toInt < 5) ∧ of ≤ t ∧ B9 (sndB tm ls fs k) (fret o pt z d) d L n t le gr.toInt ∧ ∃ m, m ≤ n ∧ cntB (sndB tm ls fs k) m = t ∧ of = cntB (fun i => sndB tm ls fs k i && decide (0 < L ∧ fret o pt z d i = L)) m) (Q := fun e => ∃ le gr, (le ≤ 9 ∧ -1 ≤ gr.toInt ∧ gr.toInt < 5) ∧ B9 (sndB tm ls fs k) (fret o pt z d) d L n (cntB (sndB tm ls fs k) n) le gr.toInt ∧ e = fx (f_X9_findsBar_L158 55 (nI k) (nI le) gr (nI (atlC (sndB tm ls fs k) (fret o pt z d) (fs (k + 1))))) FU (nI 0, pI σ 55 23 (bI (decide (2 ≤ atlC (sndB tm ls fs k) (fret o pt z d) (fs (k + 1))))))) (n := cntB (sndB tm ls fs k) n) ?_ ?_ (cntB (sndB tm ls fs k) n) 0 FU _ (by omega) (by unfold FU; omega) ⟨9, -1, 0, rfl, by decide, by omega, ⟨fun j _ _ hc => by omega, Or.inl ⟨rfl, rfl, fun j _ _ hc => by omega⟩⟩, 0, by omega, rfl, rfl⟩
  · rintro t s ht ⟨le, gr, of, rfl, hle, hof, hB, m, hm, hmt, hofm⟩ rec
    obtain ⟨i, hi, hs, hit⟩ := nth_ex ht
    have e64 := h.2.2.1.2.2.2 k hk i hi hs
    rw [hit] at e64
    obtain ⟨d1, d2⟩ := h.2.2.2.2.2 i hi hs
    obtain ⟨fx0, ef, hF⟩ := s_X9_fretOf hr b2 h hi hs
    have c2 : cntB (fun i => sndB tm ls fs k i && decide (0 < L ∧ fret o pt z d i = L)) m = cntB (fun i => sndB tm ls fs k i && decide (0 < L ∧ fret o pt z d i = L)) i := f_cnt (S := sndB tm ls fs k) (f := cntB (fun i => sndB tm ls fs k i && decide (0 < L ∧ fret o pt z d i = L))) (fun j hj => cntB_f (by simp [hj])) (by omega)
    rw [c2] at hofm
    left
    by_cases hat : 0 < L ∧ fret o pt z d i = L
    · have c3 : cntB (fun i => sndB tm ls fs k i && decide (0 < L ∧ fret o pt z d i = L)) (i + 1) = of + 1 := by rw [cntB_t (by rw [hs, decide_eq_true hat]; rfl), hofm]
      have hY := hB.yes hi hs hit d2 hat
      have hgr : (if gr.toInt < (d i : Int) then (d i : Int) else gr.toInt) = (if gr.toInt < (d i : Int) then nI (d i) else gr).toInt := by
        by_cases q : gr.toInt < (d i : Int)
        · rw [if_pos q, if_pos q, nI_toInt (by omega)]
        · rw [if_neg q, if_neg q]
      refine ⟨(nI (if d i < le then d i else le), if gr.toInt < (d i : Int) then nI (d i) else gr, nI (of + 1), nI (t + 1), σ), ⟨_, _, _, rfl, ⟨by split <;> omega, ?_⟩, by omega, by rw [← hgr]; exact hY, i + 1, by omega, by rw [cntB_t hs, hit], c3.symm⟩, ?_⟩
      · rw [← hgr]; split <;> omega
      · unfold f_X9_findsBar_L11 f_X9_findsBar_L60 f_X9_findsBar_L61 f_X9_findsBar_L75 f_X9_findsBar_L104 f_X9_findsBar_L105 f_X9_findsBar_L132 f_X9_findsBar_L133
        dsimp only
        by_cases q1 : d i < le
        · by_cases q2 : gr.toInt < (d i : Int)
          · simp (disch := first | assumption | omega) only [↓lB_eq, ↓bd_m, ck_tt, gI_pI, gI_pL, gI_pR, gL_pI, gL_pL, gL_pR, gR_pI, gR_pL, rf_0_0, rf_0_1, rf_0_2, rf_0_3, rf_0_4, rf_0_5, rf_0_6, rf_0_7, rf_0_8, rf_0_9, rf_0_10, rf_1_1, rf_1_2, rf_4_0, rf_4_1, rf_4_2, rf_4_3, rf_4_4, rf_4_5, rf_11_0, rf_11_1, rf_12_0, rf_12_1, rf_12_2, rf_12_6, rf_12_7, rf_12_8, rf_13_0, rf_13_1, rf_13_2, rf_13_3, rf_18_0, rf_18_1, rf_18_2, rf_18_3, rf_23_0, rf_23_1, rf_23_2, rf_23_3, rf_31_0, rf_33_0, rf_33_2, rf_33_3, rf_33_4, rf_37_0, rf_39_0, rf_39_1, rf_39_2, rf_39_3, rf_40_0, rf_40_1, rf_40_2, rf_40_3, rf_47_3, rf_49_3, rf_51_3, rf_53_3, rf_55_1, rf_55_7, rf_55_8, rf_55_9, rf_55_11, rf_55_13, rf_55_14, rf_55_15, rf_55_17, rf_55_18, rf_55_19, rf_55_27, rf_55_28, rf_55_29, rf_55_30, rf_55_31, rf_55_32, rf_55_33, rf_55_34, rf_55_35, rf_55_36, rf_55_38, rf_55_44, rf_55_45, rf_55_46, rf_55_47, aL_2, aL_3, aL_5, aL_6, aL_7, aL_8, aL_9, aL_10, aL_14, aL_15, aL_16, aL_17, aL_19, aL_20, aL_21, aL_22, aL_24, aL_25, aL_26, aL_27, aL_28, aL_29, aL_30, aL_32, aL_34, aL_35, aL_36, aL_38, aL_39, aL_40, aL_41, aL_42, aL_43, aL_44, aL_45, aL_46, aL_48, aL_50, aL_52, aL_54, aL_56, aL_57, aL_58, aL_59, aL_60, aL_61, aL_62, aL_63, aL_64, aL_65, aL_66, aL_67, aL_68, aL_69, aL_70, aL_71, aL_72, aL_73, aL_74, aL_75, aL_76, aL_77, aL_78, aL_79, aL_80, aL_81, inb_nI, lit32, nI_clamp, nI_1, nI_add, if_pos, if_neg, b01_0, b01_1, Nat.add_sub_cancel, if_true, if_false, not_true_eq_false, not_false_eq_true, true_and, and_true, false_and, and_false, pk_sub, b01_n0, b01_n1, bI_t, bI_f, ofNat_nI, ck_d, Int32.lt_iff_toInt_lt, Int32.le_iff_toInt_le, i32_eq, nI_toInt, bI_b01, bI_0, decide_eq_true_eq, bI_tt, bI_ff, nI_prd, ↓reduceIte, iltT, iltF, ileT, ileF, ieqT, ieqF, dcT, dcF, or_true, or_false, true_or, false_or, e65, nI_mul, e64, ef, d1]
          · simp (disch := first | assumption | omega) only [↓lB_eq, ↓bd_m, ck_tt, gI_pI, gI_pL, gI_pR, gL_pI, gL_pL, gL_pR, gR_pI, gR_pL, rf_0_0, rf_0_1, rf_0_2, rf_0_3, rf_0_4, rf_0_5, rf_0_6, rf_0_7, rf_0_8, rf_0_9, rf_0_10, rf_1_1, rf_1_2, rf_4_0, rf_4_1, rf_4_2, rf_4_3, rf_4_4, rf_4_5, rf_11_0, rf_11_1, rf_12_0, rf_12_1, rf_12_2, rf_12_6, rf_12_7, rf_12_8, rf_13_0, rf_13_1, rf_13_2, rf_13_3, rf_18_0, rf_18_1, rf_18_2, rf_18_3, rf_23_0, rf_23_1, rf_23_2, rf_23_3, rf_31_0, rf_33_0, rf_33_2, rf_33_3, rf_33_4, rf_37_0, rf_39_0, rf_39_1, rf_39_2, rf_39_3, rf_40_0, rf_40_1, rf_40_2, rf_40_3, rf_47_3, rf_49_3, rf_51_3, rf_53_3, rf_55_1, rf_55_7, rf_55_8, rf_55_9, rf_55_11, rf_55_13, rf_55_14, rf_55_15, rf_55_17, rf_55_18, rf_55_19, rf_55_27, rf_55_28, rf_55_29, rf_55_30, rf_55_31, rf_55_32, rf_55_33, rf_55_34, rf_55_35, rf_55_36, rf_55_38, rf_55_44, rf_55_45, rf_55_46, rf_55_47, aL_2, aL_3, aL_5, aL_6, aL_7, aL_8, aL_9, aL_10, aL_14, aL_15, aL_16, aL_17, aL_19, aL_20, aL_21, aL_22, aL_24, aL_25, aL_26, aL_27, aL_28, aL_29, aL_30, aL_32, aL_34, aL_35, aL_36, aL_38, aL_39, aL_40, aL_41, aL_42, aL_43, aL_44, aL_45, aL_46, aL_48, aL_50, aL_52, aL_54, aL_56, aL_57, aL_58, aL_59, aL_60, aL_61, aL_62, aL_63, aL_64, aL_65, aL_66, aL_67, aL_68, aL_69, aL_70, aL_71, aL_72, aL_73, aL_74, aL_75, aL_76, aL_77, aL_78, aL_79, aL_80, aL_81, inb_nI, lit32, nI_clamp, nI_1, nI_add, if_pos, if_neg, b01_0, b01_1, Nat.add_sub_cancel, if_true, if_false, not_true_eq_false, not_false_eq_true, true_and, and_true, false_and, and_false, pk_sub, b01_n0, b01_n1, bI_t, bI_f, ofNat_nI, ck_d, Int32.lt_iff_toInt_lt, Int32.le_iff_toInt_le, i32_eq, nI_toInt, bI_b01, bI_0, decide_eq_true_eq, bI_tt, bI_ff, nI_prd, ↓reduceIte, iltT, iltF, ileT, ileF, ieqT, ieqF, dcT, dcF, or_true, or_false, true_or, false_or, e65, nI_mul, e64, ef, d1]
        · by_cases q2 : gr.toInt < (d i : Int)
          · simp (disch := first | assumption | omega) only [↓lB_eq, ↓bd_m, ck_tt, gI_pI, gI_pL, gI_pR, gL_pI, gL_pL, gL_pR, gR_pI, gR_pL, rf_0_0, rf_0_1, rf_0_2, rf_0_3, rf_0_4, rf_0_5, rf_0_6, rf_0_7, rf_0_8, rf_0_9, rf_0_10, rf_1_1, rf_1_2, rf_4_0, rf_4_1, rf_4_2, rf_4_3, rf_4_4, rf_4_5, rf_11_0, rf_11_1, rf_12_0, rf_12_1, rf_12_2, rf_12_6, rf_12_7, rf_12_8, rf_13_0, rf_13_1, rf_13_2, rf_13_3, rf_18_0, rf_18_1, rf_18_2, rf_18_3, rf_23_0, rf_23_1, rf_23_2, rf_23_3, rf_31_0, rf_33_0, rf_33_2, rf_33_3, rf_33_4, rf_37_0, rf_39_0, rf_39_1, rf_39_2, rf_39_3, rf_40_0, rf_40_1, rf_40_2, rf_40_3, rf_47_3, rf_49_3, rf_51_3, rf_53_3, rf_55_1, rf_55_7, rf_55_8, rf_55_9, rf_55_11, rf_55_13, rf_55_14, rf_55_15, rf_55_17, rf_55_18, rf_55_19, rf_55_27, rf_55_28, rf_55_29, rf_55_30, rf_55_31, rf_55_32, rf_55_33, rf_55_34, rf_55_35, rf_55_36, rf_55_38, rf_55_44, rf_55_45, rf_55_46, rf_55_47, aL_2, aL_3, aL_5, aL_6, aL_7, aL_8, aL_9, aL_10, aL_14, aL_15, aL_16, aL_17, aL_19, aL_20, aL_21, aL_22, aL_24, aL_25, aL_26, aL_27, aL_28, aL_29, aL_30, aL_32, aL_34, aL_35, aL_36, aL_38, aL_39, aL_40, aL_41, aL_42, aL_43, aL_44, aL_45, aL_46, aL_48, aL_50, aL_52, aL_54, aL_56, aL_57, aL_58, aL_59, aL_60, aL_61, aL_62, aL_63, aL_64, aL_65, aL_66, aL_67, aL_68, aL_69, aL_70, aL_71, aL_72, aL_73, aL_74, aL_75, aL_76, aL_77, aL_78, aL_79, aL_80, aL_81, inb_nI, lit32, nI_clamp, nI_1, nI_add, if_pos, if_neg, b01_0, b01_1, Nat.add_sub_cancel, if_true, if_false, not_true_eq_false, not_false_eq_true, true_and, and_true, false_and, and_false, pk_sub, b01_n0, b01_n1, bI_t, bI_f, ofNat_nI, ck_d, Int32.lt_iff_toInt_lt, Int32.le_iff_toInt_le, i32_eq, nI_toInt, bI_b01, bI_0, decide_eq_true_eq, bI_tt, bI_ff, nI_prd, ↓reduceIte, iltT, iltF, ileT, ileF, ieqT, ieqF, dcT, dcF, or_true, or_false, true_or, false_or, e65, nI_mul, e64, ef, d1]
          · simp (disch := first | assumption | omega) only [↓lB_eq, ↓bd_m, ck_tt, gI_pI, gI_pL, gI_pR, gL_pI, gL_pL, gL_pR, gR_pI, gR_pL, rf_0_0, rf_0_1, rf_0_2, rf_0_3, rf_0_4, rf_0_5, rf_0_6, rf_0_7, rf_0_8, rf_0_9, rf_0_10, rf_1_1, rf_1_2, rf_4_0, rf_4_1, rf_4_2, rf_4_3, rf_4_4, rf_4_5, rf_11_0, rf_11_1, rf_12_0, rf_12_1, rf_12_2, rf_12_6, rf_12_7, rf_12_8, rf_13_0, rf_13_1, rf_13_2, rf_13_3, rf_18_0, rf_18_1, rf_18_2, rf_18_3, rf_23_0, rf_23_1, rf_23_2, rf_23_3, rf_31_0, rf_33_0, rf_33_2, rf_33_3, rf_33_4, rf_37_0, rf_39_0, rf_39_1, rf_39_2, rf_39_3, rf_40_0, rf_40_1, rf_40_2, rf_40_3, rf_47_3, rf_49_3, rf_51_3, rf_53_3, rf_55_1, rf_55_7, rf_55_8, rf_55_9, rf_55_11, rf_55_13, rf_55_14, rf_55_15, rf_55_17, rf_55_18, rf_55_19, rf_55_27, rf_55_28, rf_55_29, rf_55_30, rf_55_31, rf_55_32, rf_55_33, rf_55_34, rf_55_35, rf_55_36, rf_55_38, rf_55_44, rf_55_45, rf_55_46, rf_55_47, aL_2, aL_3, aL_5, aL_6, aL_7, aL_8, aL_9, aL_10, aL_14, aL_15, aL_16, aL_17, aL_19, aL_20, aL_21, aL_22, aL_24, aL_25, aL_26, aL_27, aL_28, aL_29, aL_30, aL_32, aL_34, aL_35, aL_36, aL_38, aL_39, aL_40, aL_41, aL_42, aL_43, aL_44, aL_45, aL_46, aL_48, aL_50, aL_52, aL_54, aL_56, aL_57, aL_58, aL_59, aL_60, aL_61, aL_62, aL_63, aL_64, aL_65, aL_66, aL_67, aL_68, aL_69, aL_70, aL_71, aL_72, aL_73, aL_74, aL_75, aL_76, aL_77, aL_78, aL_79, aL_80, aL_81, inb_nI, lit32, nI_clamp, nI_1, nI_add, if_pos, if_neg, b01_0, b01_1, Nat.add_sub_cancel, if_true, if_false, not_true_eq_false, not_false_eq_true, true_and, and_true, false_and, and_false, pk_sub, b01_n0, b01_n1, bI_t, bI_f, ofNat_nI, ck_d, Int32.lt_iff_toInt_lt, Int32.le_iff_toInt_le, i32_eq, nI_toInt, bI_b01, bI_0, decide_eq_true_eq, bI_tt, bI_ff, nI_prd, ↓reduceIte, iltT, iltF, ileT, ileF, ieqT, ieqF, dcT, dcF, or_true, or_false, true_or, false_or, e65, nI_mul, e64, ef, d1]
    · have c3 : cntB (fun i => sndB tm ls fs k i && decide (0 < L ∧ fret o pt z d i = L)) (i + 1) = of + 0 := by rw [cntB_f (by rw [decide_eq_false hat]; simp), hofm]
      refine ⟨(nI le, gr, nI of, nI (t + 1), σ), ⟨_, _, _, rfl, hle, by omega, hB.no hs hit hat, i + 1, by omega, by rw [cntB_t hs, hit], c3.symm⟩, ?_⟩
      unfold f_X9_findsBar_L11 f_X9_findsBar_L60 f_X9_findsBar_L61 f_X9_findsBar_L75 f_X9_findsBar_L104 f_X9_findsBar_L105 f_X9_findsBar_L132 f_X9_findsBar_L133
      dsimp only
      by_cases q0 : 0 < L
      · simp (disch := first | assumption | omega) only [↓lB_eq, ↓bd_m, ck_tt, gI_pI, gI_pL, gI_pR, gL_pI, gL_pL, gL_pR, gR_pI, gR_pL, rf_0_0, rf_0_1, rf_0_2, rf_0_3, rf_0_4, rf_0_5, rf_0_6, rf_0_7, rf_0_8, rf_0_9, rf_0_10, rf_1_1, rf_1_2, rf_4_0, rf_4_1, rf_4_2, rf_4_3, rf_4_4, rf_4_5, rf_11_0, rf_11_1, rf_12_0, rf_12_1, rf_12_2, rf_12_6, rf_12_7, rf_12_8, rf_13_0, rf_13_1, rf_13_2, rf_13_3, rf_18_0, rf_18_1, rf_18_2, rf_18_3, rf_23_0, rf_23_1, rf_23_2, rf_23_3, rf_31_0, rf_33_0, rf_33_2, rf_33_3, rf_33_4, rf_37_0, rf_39_0, rf_39_1, rf_39_2, rf_39_3, rf_40_0, rf_40_1, rf_40_2, rf_40_3, rf_47_3, rf_49_3, rf_51_3, rf_53_3, rf_55_1, rf_55_7, rf_55_8, rf_55_9, rf_55_11, rf_55_13, rf_55_14, rf_55_15, rf_55_17, rf_55_18, rf_55_19, rf_55_27, rf_55_28, rf_55_29, rf_55_30, rf_55_31, rf_55_32, rf_55_33, rf_55_34, rf_55_35, rf_55_36, rf_55_38, rf_55_44, rf_55_45, rf_55_46, rf_55_47, aL_2, aL_3, aL_5, aL_6, aL_7, aL_8, aL_9, aL_10, aL_14, aL_15, aL_16, aL_17, aL_19, aL_20, aL_21, aL_22, aL_24, aL_25, aL_26, aL_27, aL_28, aL_29, aL_30, aL_32, aL_34, aL_35, aL_36, aL_38, aL_39, aL_40, aL_41, aL_42, aL_43, aL_44, aL_45, aL_46, aL_48, aL_50, aL_52, aL_54, aL_56, aL_57, aL_58, aL_59, aL_60, aL_61, aL_62, aL_63, aL_64, aL_65, aL_66, aL_67, aL_68, aL_69, aL_70, aL_71, aL_72, aL_73, aL_74, aL_75, aL_76, aL_77, aL_78, aL_79, aL_80, aL_81, inb_nI, lit32, nI_clamp, nI_1, nI_add, if_pos, if_neg, b01_0, b01_1, Nat.add_sub_cancel, if_true, if_false, not_true_eq_false, not_false_eq_true, true_and, and_true, false_and, and_false, pk_sub, b01_n0, b01_n1, bI_t, bI_f, ofNat_nI, ck_d, Int32.lt_iff_toInt_lt, Int32.le_iff_toInt_le, i32_eq, nI_toInt, bI_b01, bI_0, decide_eq_true_eq, bI_tt, bI_ff, nI_prd, ↓reduceIte, iltT, iltF, ileT, ileF, ieqT, ieqF, dcT, dcF, or_true, or_false, true_or, false_or, e65, nI_mul, e64, ef, d1]
        rfl
      · simp (disch := first | assumption | omega) only [↓lB_eq, ↓bd_m, ck_tt, gI_pI, gI_pL, gI_pR, gL_pI, gL_pL, gL_pR, gR_pI, gR_pL, rf_0_0, rf_0_1, rf_0_2, rf_0_3, rf_0_4, rf_0_5, rf_0_6, rf_0_7, rf_0_8, rf_0_9, rf_0_10, rf_1_1, rf_1_2, rf_4_0, rf_4_1, rf_4_2, rf_4_3, rf_4_4, rf_4_5, rf_11_0, rf_11_1, rf_12_0, rf_12_1, rf_12_2, rf_12_6, rf_12_7, rf_12_8, rf_13_0, rf_13_1, rf_13_2, rf_13_3, rf_18_0, rf_18_1, rf_18_2, rf_18_3, rf_23_0, rf_23_1, rf_23_2, rf_23_3, rf_31_0, rf_33_0, rf_33_2, rf_33_3, rf_33_4, rf_37_0, rf_39_0, rf_39_1, rf_39_2, rf_39_3, rf_40_0, rf_40_1, rf_40_2, rf_40_3, rf_47_3, rf_49_3, rf_51_3, rf_53_3, rf_55_1, rf_55_7, rf_55_8, rf_55_9, rf_55_11, rf_55_13, rf_55_14, rf_55_15, rf_55_17, rf_55_18, rf_55_19, rf_55_27, rf_55_28, rf_55_29, rf_55_30, rf_55_31, rf_55_32, rf_55_33, rf_55_34, rf_55_35, rf_55_36, rf_55_38, rf_55_44, rf_55_45, rf_55_46, rf_55_47, aL_2, aL_3, aL_5, aL_6, aL_7, aL_8, aL_9, aL_10, aL_14, aL_15, aL_16, aL_17, aL_19, aL_20, aL_21, aL_22, aL_24, aL_25, aL_26, aL_27, aL_28, aL_29, aL_30, aL_32, aL_34, aL_35, aL_36, aL_38, aL_39, aL_40, aL_41, aL_42, aL_43, aL_44, aL_45, aL_46, aL_48, aL_50, aL_52, aL_54, aL_56, aL_57, aL_58, aL_59, aL_60, aL_61, aL_62, aL_63, aL_64, aL_65, aL_66, aL_67, aL_68, aL_69, aL_70, aL_71, aL_72, aL_73, aL_74, aL_75, aL_76, aL_77, aL_78, aL_79, aL_80, aL_81, inb_nI, lit32, nI_clamp, nI_1, nI_add, if_pos, if_neg, b01_0, b01_1, Nat.add_sub_cancel, if_true, if_false, not_true_eq_false, not_false_eq_true, true_and, and_true, false_and, and_false, pk_sub, b01_n0, b01_n1, bI_t, bI_f, ofNat_nI, ck_d, Int32.lt_iff_toInt_lt, Int32.le_iff_toInt_le, i32_eq, nI_toInt, bI_b01, bI_0, decide_eq_true_eq, bI_tt, bI_ff, nI_prd, ↓reduceIte, iltT, iltF, ileT, ileF, ieqT, ieqF, dcT, dcF, or_true, or_false, true_or, false_or, e65, nI_mul, e64, ef, d1]
        rfl
  · rintro s ⟨le, gr, of, rfl, hle, hof, hB, m, hm, hmt, hofm⟩ rec
    have hp := cnt_past (tm := tm) (ls := ls) (fs := fs) (k := k) hM
    have hofe : of = atlC (sndB tm ls fs k) (fret o pt z d) (fs (k + 1)) := by
      have c2 : cntB (fun i => sndB tm ls fs k i && decide (0 < L ∧ fret o pt z d i = L)) m = cntB (fun i => sndB tm ls fs k i && decide (0 < L ∧ fret o pt z d i = L)) (fs (k + 1)) := f_cnt (S := sndB tm ls fs k) (f := cntB (fun i => sndB tm ls fs k i && decide (0 < L ∧ fret o pt z d i = L))) (fun j hj => cntB_f (by simp [hj])) (by omega)
      rw [hofm, c2, ← hLL]; rfl
    refine ⟨_, ⟨le, gr, hle, hB, rfl⟩, ?_⟩
    rw [← hofe]
    unfold f_X9_findsBar_L11 f_X9_findsBar_L152
    dsimp only
    by_cases q : 2 ≤ of
    · rw [decide_eq_true q]
      simp (disch := first | assumption | omega) only [↓lB_eq, ↓bd_m, ck_tt, gI_pI, gI_pL, gI_pR, gL_pI, gL_pL, gL_pR, gR_pI, gR_pL, rf_0_0, rf_0_1, rf_0_2, rf_0_3, rf_0_4, rf_0_5, rf_0_6, rf_0_7, rf_0_8, rf_0_9, rf_0_10, rf_1_1, rf_1_2, rf_4_0, rf_4_1, rf_4_2, rf_4_3, rf_4_4, rf_4_5, rf_11_0, rf_11_1, rf_12_0, rf_12_1, rf_12_2, rf_12_6, rf_12_7, rf_12_8, rf_13_0, rf_13_1, rf_13_2, rf_13_3, rf_18_0, rf_18_1, rf_18_2, rf_18_3, rf_23_0, rf_23_1, rf_23_2, rf_23_3, rf_31_0, rf_33_0, rf_33_2, rf_33_3, rf_33_4, rf_37_0, rf_39_0, rf_39_1, rf_39_2, rf_39_3, rf_40_0, rf_40_1, rf_40_2, rf_40_3, rf_47_3, rf_49_3, rf_51_3, rf_53_3, rf_55_1, rf_55_7, rf_55_8, rf_55_9, rf_55_11, rf_55_13, rf_55_14, rf_55_15, rf_55_17, rf_55_18, rf_55_19, rf_55_27, rf_55_28, rf_55_29, rf_55_30, rf_55_31, rf_55_32, rf_55_33, rf_55_34, rf_55_35, rf_55_36, rf_55_38, rf_55_44, rf_55_45, rf_55_46, rf_55_47, aL_2, aL_3, aL_5, aL_6, aL_7, aL_8, aL_9, aL_10, aL_14, aL_15, aL_16, aL_17, aL_19, aL_20, aL_21, aL_22, aL_24, aL_25, aL_26, aL_27, aL_28, aL_29, aL_30, aL_32, aL_34, aL_35, aL_36, aL_38, aL_39, aL_40, aL_41, aL_42, aL_43, aL_44, aL_45, aL_46, aL_48, aL_50, aL_52, aL_54, aL_56, aL_57, aL_58, aL_59, aL_60, aL_61, aL_62, aL_63, aL_64, aL_65, aL_66, aL_67, aL_68, aL_69, aL_70, aL_71, aL_72, aL_73, aL_74, aL_75, aL_76, aL_77, aL_78, aL_79, aL_80, aL_81, inb_nI, lit32, nI_clamp, nI_1, nI_add, if_pos, if_neg, b01_0, b01_1, Nat.add_sub_cancel, if_true, if_false, not_true_eq_false, not_false_eq_true, true_and, and_true, false_and, and_false, pk_sub, b01_n0, b01_n1, bI_t, bI_f, ofNat_nI, ck_d, Int32.lt_iff_toInt_lt, Int32.le_iff_toInt_le, i32_eq, nI_toInt, bI_b01, bI_0, decide_eq_true_eq, bI_tt, bI_ff, nI_prd, ↓reduceIte, iltT, iltF, ileT, ileF, ieqT, ieqF, dcT, dcF, or_true, or_false, true_or, false_or, e65]
    · rw [decide_eq_false q]
      simp (disch := first | assumption | omega) only [↓lB_eq, ↓bd_m, ck_tt, gI_pI, gI_pL, gI_pR, gL_pI, gL_pL, gL_pR, gR_pI, gR_pL, rf_0_0, rf_0_1, rf_0_2, rf_0_3, rf_0_4, rf_0_5, rf_0_6, rf_0_7, rf_0_8, rf_0_9, rf_0_10, rf_1_1, rf_1_2, rf_4_0, rf_4_1, rf_4_2, rf_4_3, rf_4_4, rf_4_5, rf_11_0, rf_11_1, rf_12_0, rf_12_1, rf_12_2, rf_12_6, rf_12_7, rf_12_8, rf_13_0, rf_13_1, rf_13_2, rf_13_3, rf_18_0, rf_18_1, rf_18_2, rf_18_3, rf_23_0, rf_23_1, rf_23_2, rf_23_3, rf_31_0, rf_33_0, rf_33_2, rf_33_3, rf_33_4, rf_37_0, rf_39_0, rf_39_1, rf_39_2, rf_39_3, rf_40_0, rf_40_1, rf_40_2, rf_40_3, rf_47_3, rf_49_3, rf_51_3, rf_53_3, rf_55_1, rf_55_7, rf_55_8, rf_55_9, rf_55_11, rf_55_13, rf_55_14, rf_55_15, rf_55_17, rf_55_18, rf_55_19, rf_55_27, rf_55_28, rf_55_29, rf_55_30, rf_55_31, rf_55_32, rf_55_33, rf_55_34, rf_55_35, rf_55_36, rf_55_38, rf_55_44, rf_55_45, rf_55_46, rf_55_47, aL_2, aL_3, aL_5, aL_6, aL_7, aL_8, aL_9, aL_10, aL_14, aL_15, aL_16, aL_17, aL_19, aL_20, aL_21, aL_22, aL_24, aL_25, aL_26, aL_27, aL_28, aL_29, aL_30, aL_32, aL_34, aL_35, aL_36, aL_38, aL_39, aL_40, aL_41, aL_42, aL_43, aL_44, aL_45, aL_46, aL_48, aL_50, aL_52, aL_54, aL_56, aL_57, aL_58, aL_59, aL_60, aL_61, aL_62, aL_63, aL_64, aL_65, aL_66, aL_67, aL_68, aL_69, aL_70, aL_71, aL_72, aL_73, aL_74, aL_75, aL_76, aL_77, aL_78, aL_79, aL_80, aL_81, inb_nI, lit32, nI_clamp, nI_1, nI_add, if_pos, if_neg, b01_0, b01_1, Nat.add_sub_cancel, if_true, if_false, not_true_eq_false, not_false_eq_true, true_and, and_true, false_and, and_false, pk_sub, b01_n0, b01_n1, bI_t, bI_f, ofNat_nI, ck_d, Int32.lt_iff_toInt_lt, Int32.le_iff_toInt_le, i32_eq, nI_toInt, bI_b01, bI_0, decide_eq_true_eq, bI_tt, bI_ff, nI_prd, ↓reduceIte, iltT, iltF, ileT, ileF, ieqT, ieqF, dcT, dcF, or_true, or_false, true_or, false_or, e65]
theorem bar_iff {S : Nat → Bool} {F : Nat → Int} {d : Nat → Nat} {M n le : Nat} {gr : Int} (hM : M ≤ n) (hS : ∀ j, S j = true → j < M) (h : B9 S F d (lowF S F M) n (cntB S n) le gr) : barB S F d M = true ↔ (2 ≤ atlC S F M ∧ ∀ j, j < n → S j = true → cntB S j < cntB S n → (0 < F j ∨ d j ≤ le ∨ gr ≤ (d j : Int))) := by
  unfold barB
  rw [Bool.and_eq_true, decide_eq_true_iff]
  constructor
  · rintro ⟨h1, h2⟩
    refine ⟨h1, fun j hj hs _ => ?_⟩
    have hL := atl_pos (S := S) (F := F) (m := M) (by omega)
    rcases h.2 with ⟨q1, q2, q3⟩ | ⟨⟨u, u1, u2, u3, u4, u5⟩, ⟨v, v1, v2, v3, v4, v5⟩⟩
    · obtain ⟨i, i1, i2, i3⟩ := lowF_at hL
      exact absurd ⟨hL, i3⟩ (q3 i (by omega) i2 ((cnt_lt i2).mpr (by omega)))
    · apply Classical.byContradiction
      intro hno
      have : nutB S F d (lowF S F M) M = true := by
        unfold nutB
        rw [any_iff]
        refine ⟨j, hS j hs, ?_⟩
        rw [hs, decide_eq_true (show F j ≤ 0 by omega), Bool.and_eq_true, Bool.true_and, Bool.true_and]
        refine ⟨(any_iff _ _).mpr ⟨u, hS u u2, ?_⟩, (any_iff _ _).mpr ⟨v, hS v v2, ?_⟩⟩
        · rw [u2, decide_eq_true u4.2, decide_eq_true (show d u < d j by omega)]; rfl
        · rw [v2, decide_eq_true v4.2, decide_eq_true (show d j < d v by omega)]; rfl
      rw [this] at h2
      exact absurd h2 (by decide)
  · rintro ⟨h1, h2⟩
    refine ⟨h1, ?_⟩
    have hL := atl_pos (S := S) (F := F) (m := M) (by omega)
    cases hb : nutB S F d (lowF S F M) M with
    | false => rfl
    | true =>
      unfold nutB at hb
      obtain ⟨i, i1, i2⟩ := (any_iff _ _).mp hb
      rw [Bool.and_eq_true, Bool.and_eq_true, any_iff, any_iff] at i2
      obtain ⟨⟨hsf, a, a1, a2⟩, b, bb1, bb2⟩ := i2
      rw [Bool.and_eq_true] at hsf
      rw [Bool.and_eq_true, Bool.and_eq_true] at a2 bb2
      have c1 := h.1 a (by omega) a2.1.1 ((cnt_lt a2.1.1).mpr (by omega)) ⟨hL, of_decide_eq_true a2.1.2⟩
      have c2 := h.1 b (by omega) bb2.1.1 ((cnt_lt bb2.1.1).mpr (by omega)) ⟨hL, of_decide_eq_true bb2.1.2⟩
      have c3 := h2 i (by omega) hsf.1 ((cnt_lt hsf.1).mpr (by omega))
      have e1 := of_decide_eq_true hsf.2
      have e2 := of_decide_eq_true a2.2
      have e3 := of_decide_eq_true bb2.2
      omega
theorem s_X9_findsBar {σ : Sg} {o tm pt ls fs d : Nat → Nat} {z : Int} {n nk k : Nat} (hr : RefI σ) (b2 : Bn n tm pt ls) (hC : Ch n tm nk fs) (hk : k < nk) (h : RLy σ o tm pt ls fs z n nk k d) (hl : (gI σ 55 21).toInt = lowK o tm pt ls fs z k d) (h22 : gI σ 55 22 = nI (posC (sndB tm ls fs k) (fret o pt z d) (fs (k + 1)))) : ∃ σ', f_X9_findsBar 55 (nI k) σ = some ((), σ') ∧ Ag (fun p k => p = 55 ∧ (k = 22 ∨ k = 23)) (fun _ _ => False) σ σ' ∧ gI σ' 55 23 = bI (barK o tm pt ls fs z k d) ∧ gI σ' 55 22 = nI (finK o tm pt ls fs z k d) := by
  obtain ⟨le, gr, hle, hB, he⟩ := s_X9_findsBar1 hr b2 hC hk h hl
  rw [he]
  have hn := b2.1
  have hnk := hC.nk_le
  have hM := hC.le (k := k + 1) (by omega)
  have hcl := cntB_le (sndB tm ls fs k) n
  have z0 : (0 : Int32).toInt = 0 := rfl
  have hSM : ∀ j, sndB tm ls fs k j = true → j < fs (k + 1) := fun j hj => by unfold sndB at hj; exact (of_decide_eq_true hj).1
  have hbi := bar_iff hM hSM hB
  have p8 : atlC (sndB tm ls fs k) (fret o pt z d) (fs (k + 1)) ≤ fs (k + 1) := cntB_le _ _
  have p3' : posC (sndB tm ls fs k) (fret o pt z d) (fs (k + 1)) ≤ fs (k + 1) := cntB_le _ _
  have ple := atl_le (S := sndB tm ls fs k) (F := fret o pt z d) (fs (k + 1))
  have hSL : ∀ {τ : Sg}, Ag (fun p k => p = 55 ∧ (k = 22 ∨ k = 23)) (fun _ _ => False) σ τ → Ag SL (fun _ _ => False) σ τ := fun q => q.mono (fun p k z => by unfold SL; omega) (fun _ _ z => z)
  refine fx_inv2 (I := fun t s => s.1 = nI t ∧ Ag (fun p k => p = 55 ∧ (k = 22 ∨ k = 23)) (fun _ _ => False) σ s.2 ∧ gI s.2 55 22 = gI σ 55 22 ∧ ∃ b : Bool, gI s.2 55 23 = bI b ∧ (b = true ↔ (2 ≤ atlC (sndB tm ls fs k) (fret o pt z d) (fs (k + 1)) ∧ ∀ j, j < n → sndB tm ls fs k j = true → cntB (sndB tm ls fs k) j < t → (0 < fret o pt z d j ∨ d j ≤ le ∨ gr.toInt ≤ (d j : Int))))) (Q := fun e => ∃ σ', e = some ((), σ') ∧ Ag (fun p k => p = 55 ∧ (k = 22 ∨ k = 23)) (fun _ _ => False) σ σ' ∧ gI σ' 55 23 = bI (barK o tm pt ls fs z k d) ∧ gI σ' 55 22 = nI (finK o tm pt ls fs z k d)) (n := cntB (sndB tm ls fs k) n) ?_ ?_ (cntB (sndB tm ls fs k) n) 0 FU _ (by omega) (by unfold FU; omega) ⟨rfl, Ag.rf.pI (by omega), rfl, _, rfl, by rw [decide_eq_true_iff]; exact ⟨fun q => ⟨q, fun j _ _ hc => by omega⟩, fun q => q.1⟩⟩
  · rintro t ⟨x, τ⟩ ht ⟨rfl, hA, g22, b, g23, hb⟩ rec
    dsimp only at hA g22 g23
    have hr2 : RefI τ := hA.ref hr
    have hL := h.ag (hSL hA)
    obtain ⟨i, hi, hs, hit⟩ := nth_ex ht
    have e64 := hL.2.2.1.2.2.2 k hk i hi hs
    rw [hit] at e64
    have e65 := hL.2.2.1.2.2.1 k hk
    obtain ⟨d1, d2⟩ := hL.2.2.2.2.2 i hi hs
    obtain ⟨fx0, ef, hF⟩ := s_X9_fretOf hr2 b2 hL hi hs
    have key : ∀ j, sndB tm ls fs k j = true → cntB (sndB tm ls fs k) j < t + 1 → cntB (sndB tm ls fs k) j < t ∨ j = i := fun j hj hc => by
      rcases Nat.lt_or_ge (cntB (sndB tm ls fs k) j) t with q | q
      · exact Or.inl q
      · have a1 := cnt_lt (a := i) hj
        have a2 := cnt_lt (a := j) hs
        right; omega
    left
    have step : ∀ b' : Bool, (b' = true ↔ (b = true ∧ (0 < fret o pt z d i ∨ d i ≤ le ∨ gr.toInt ≤ (d i : Int)))) → f_X9_findsBar_L158 55 (nI k) (nI le) gr (nI (atlC (sndB tm ls fs k) (fret o pt z d) (fs (k + 1)))) rec (nI t, τ) = rec (nI (t + 1), pI τ 55 23 (bI b')) → ∃ s', (s'.1 = nI (t + 1) ∧ Ag (fun p k => p = 55 ∧ (k = 22 ∨ k = 23)) (fun _ _ => False) σ s'.2 ∧ gI s'.2 55 22 = gI σ 55 22 ∧ ∃ b : Bool, gI s'.2 55 23 = bI b ∧ (b = true ↔ (2 ≤ atlC (sndB tm ls fs k) (fret o pt z d) (fs (k + 1)) ∧ ∀ j, j < n → sndB tm ls fs k j = true → cntB (sndB tm ls fs k) j < t + 1 → (0 < fret o pt z d j ∨ d j ≤ le ∨ gr.toInt ≤ (d j : Int))))) ∧ f_X9_findsBar_L158 55 (nI k) (nI le) gr (nI (atlC (sndB tm ls fs k) (fret o pt z d) (fs (k + 1)))) rec (nI t, τ) = rec s' := fun b' hb' he' => by
      refine ⟨(nI (t + 1), pI τ 55 23 (bI b')), ⟨rfl, hA.pI (by omega), g22, b', rfl, ?_⟩, he'⟩
      rw [hb', hb]
      constructor
      · rintro ⟨⟨q1, q2⟩, q3⟩
        refine ⟨q1, fun j hj hsj hc => ?_⟩
        rcases key j hsj hc with q | q
        · exact q2 j hj hsj q
        · subst q; exact q3
      · rintro ⟨q1, q2⟩
        exact ⟨⟨q1, fun j hj hsj hc => q2 j hj hsj (by omega)⟩, q2 i hi hs (by omega)⟩
    cases b with
    | false =>
      refine step false (by simp) ?_
      unfold f_X9_findsBar_L158 f_X9_findsBar_L226 f_X9_findsBar_L227
      dsimp only
      simp (disch := first | assumption | omega) only [↓lB_eq, ↓bd_m, ck_tt, gI_pI, gI_pL, gI_pR, gL_pI, gL_pL, gL_pR, gR_pI, gR_pL, rf_0_0, rf_0_1, rf_0_2, rf_0_3, rf_0_4, rf_0_5, rf_0_6, rf_0_7, rf_0_8, rf_0_9, rf_0_10, rf_1_1, rf_1_2, rf_4_0, rf_4_1, rf_4_2, rf_4_3, rf_4_4, rf_4_5, rf_11_0, rf_11_1, rf_12_0, rf_12_1, rf_12_2, rf_12_6, rf_12_7, rf_12_8, rf_13_0, rf_13_1, rf_13_2, rf_13_3, rf_18_0, rf_18_1, rf_18_2, rf_18_3, rf_23_0, rf_23_1, rf_23_2, rf_23_3, rf_31_0, rf_33_0, rf_33_2, rf_33_3, rf_33_4, rf_37_0, rf_39_0, rf_39_1, rf_39_2, rf_39_3, rf_40_0, rf_40_1, rf_40_2, rf_40_3, rf_47_3, rf_49_3, rf_51_3, rf_53_3, rf_55_1, rf_55_7, rf_55_8, rf_55_9, rf_55_11, rf_55_13, rf_55_14, rf_55_15, rf_55_17, rf_55_18, rf_55_19, rf_55_27, rf_55_28, rf_55_29, rf_55_30, rf_55_31, rf_55_32, rf_55_33, rf_55_34, rf_55_35, rf_55_36, rf_55_38, rf_55_44, rf_55_45, rf_55_46, rf_55_47, aL_2, aL_3, aL_5, aL_6, aL_7, aL_8, aL_9, aL_10, aL_14, aL_15, aL_16, aL_17, aL_19, aL_20, aL_21, aL_22, aL_24, aL_25, aL_26, aL_27, aL_28, aL_29, aL_30, aL_32, aL_34, aL_35, aL_36, aL_38, aL_39, aL_40, aL_41, aL_42, aL_43, aL_44, aL_45, aL_46, aL_48, aL_50, aL_52, aL_54, aL_56, aL_57, aL_58, aL_59, aL_60, aL_61, aL_62, aL_63, aL_64, aL_65, aL_66, aL_67, aL_68, aL_69, aL_70, aL_71, aL_72, aL_73, aL_74, aL_75, aL_76, aL_77, aL_78, aL_79, aL_80, aL_81, inb_nI, lit32, nI_clamp, nI_1, nI_add, if_pos, if_neg, b01_0, b01_1, Nat.add_sub_cancel, if_true, if_false, not_true_eq_false, not_false_eq_true, true_and, and_true, false_and, and_false, pk_sub, b01_n0, b01_n1, bI_t, bI_f, ofNat_nI, ck_d, Int32.lt_iff_toInt_lt, Int32.le_iff_toInt_le, i32_eq, nI_toInt, bI_b01, bI_0, decide_eq_true_eq, bI_tt, bI_ff, nI_prd, ↓reduceIte, iltT, iltF, ileT, ileF, ieqT, ieqF, dcT, dcF, or_true, or_false, true_or, false_or, e65, nI_mul, e64, g23]
    | true =>
      by_cases q : 0 < fret o pt z d i ∨ d i ≤ le ∨ gr.toInt ≤ (d i : Int)
      · refine step true (by simp [q]) ?_
        unfold f_X9_findsBar_L158 f_X9_findsBar_L222 f_X9_findsBar_L226 f_X9_findsBar_L227
        dsimp only
        by_cases q1 : 0 < fret o pt z d i
        · simp (disch := first | assumption | omega) only [↓lB_eq, ↓bd_m, ck_tt, gI_pI, gI_pL, gI_pR, gL_pI, gL_pL, gL_pR, gR_pI, gR_pL, rf_0_0, rf_0_1, rf_0_2, rf_0_3, rf_0_4, rf_0_5, rf_0_6, rf_0_7, rf_0_8, rf_0_9, rf_0_10, rf_1_1, rf_1_2, rf_4_0, rf_4_1, rf_4_2, rf_4_3, rf_4_4, rf_4_5, rf_11_0, rf_11_1, rf_12_0, rf_12_1, rf_12_2, rf_12_6, rf_12_7, rf_12_8, rf_13_0, rf_13_1, rf_13_2, rf_13_3, rf_18_0, rf_18_1, rf_18_2, rf_18_3, rf_23_0, rf_23_1, rf_23_2, rf_23_3, rf_31_0, rf_33_0, rf_33_2, rf_33_3, rf_33_4, rf_37_0, rf_39_0, rf_39_1, rf_39_2, rf_39_3, rf_40_0, rf_40_1, rf_40_2, rf_40_3, rf_47_3, rf_49_3, rf_51_3, rf_53_3, rf_55_1, rf_55_7, rf_55_8, rf_55_9, rf_55_11, rf_55_13, rf_55_14, rf_55_15, rf_55_17, rf_55_18, rf_55_19, rf_55_27, rf_55_28, rf_55_29, rf_55_30, rf_55_31, rf_55_32, rf_55_33, rf_55_34, rf_55_35, rf_55_36, rf_55_38, rf_55_44, rf_55_45, rf_55_46, rf_55_47, aL_2, aL_3, aL_5, aL_6, aL_7, aL_8, aL_9, aL_10, aL_14, aL_15, aL_16, aL_17, aL_19, aL_20, aL_21, aL_22, aL_24, aL_25, aL_26, aL_27, aL_28, aL_29, aL_30, aL_32, aL_34, aL_35, aL_36, aL_38, aL_39, aL_40, aL_41, aL_42, aL_43, aL_44, aL_45, aL_46, aL_48, aL_50, aL_52, aL_54, aL_56, aL_57, aL_58, aL_59, aL_60, aL_61, aL_62, aL_63, aL_64, aL_65, aL_66, aL_67, aL_68, aL_69, aL_70, aL_71, aL_72, aL_73, aL_74, aL_75, aL_76, aL_77, aL_78, aL_79, aL_80, aL_81, inb_nI, lit32, nI_clamp, nI_1, nI_add, if_pos, if_neg, b01_0, b01_1, Nat.add_sub_cancel, if_true, if_false, not_true_eq_false, not_false_eq_true, true_and, and_true, false_and, and_false, pk_sub, b01_n0, b01_n1, bI_t, bI_f, ofNat_nI, ck_d, Int32.lt_iff_toInt_lt, Int32.le_iff_toInt_le, i32_eq, nI_toInt, bI_b01, bI_0, decide_eq_true_eq, bI_tt, bI_ff, nI_prd, ↓reduceIte, iltT, iltF, ileT, ileF, ieqT, ieqF, dcT, dcF, or_true, or_false, true_or, false_or, e65, nI_mul, e64, g23, ef]
        · by_cases q2 : d i ≤ le
          · simp (disch := first | assumption | omega) only [↓lB_eq, ↓bd_m, ck_tt, gI_pI, gI_pL, gI_pR, gL_pI, gL_pL, gL_pR, gR_pI, gR_pL, rf_0_0, rf_0_1, rf_0_2, rf_0_3, rf_0_4, rf_0_5, rf_0_6, rf_0_7, rf_0_8, rf_0_9, rf_0_10, rf_1_1, rf_1_2, rf_4_0, rf_4_1, rf_4_2, rf_4_3, rf_4_4, rf_4_5, rf_11_0, rf_11_1, rf_12_0, rf_12_1, rf_12_2, rf_12_6, rf_12_7, rf_12_8, rf_13_0, rf_13_1, rf_13_2, rf_13_3, rf_18_0, rf_18_1, rf_18_2, rf_18_3, rf_23_0, rf_23_1, rf_23_2, rf_23_3, rf_31_0, rf_33_0, rf_33_2, rf_33_3, rf_33_4, rf_37_0, rf_39_0, rf_39_1, rf_39_2, rf_39_3, rf_40_0, rf_40_1, rf_40_2, rf_40_3, rf_47_3, rf_49_3, rf_51_3, rf_53_3, rf_55_1, rf_55_7, rf_55_8, rf_55_9, rf_55_11, rf_55_13, rf_55_14, rf_55_15, rf_55_17, rf_55_18, rf_55_19, rf_55_27, rf_55_28, rf_55_29, rf_55_30, rf_55_31, rf_55_32, rf_55_33, rf_55_34, rf_55_35, rf_55_36, rf_55_38, rf_55_44, rf_55_45, rf_55_46, rf_55_47, aL_2, aL_3, aL_5, aL_6, aL_7, aL_8, aL_9, aL_10, aL_14, aL_15, aL_16, aL_17, aL_19, aL_20, aL_21, aL_22, aL_24, aL_25, aL_26, aL_27, aL_28, aL_29, aL_30, aL_32, aL_34, aL_35, aL_36, aL_38, aL_39, aL_40, aL_41, aL_42, aL_43, aL_44, aL_45, aL_46, aL_48, aL_50, aL_52, aL_54, aL_56, aL_57, aL_58, aL_59, aL_60, aL_61, aL_62, aL_63, aL_64, aL_65, aL_66, aL_67, aL_68, aL_69, aL_70, aL_71, aL_72, aL_73, aL_74, aL_75, aL_76, aL_77, aL_78, aL_79, aL_80, aL_81, inb_nI, lit32, nI_clamp, nI_1, nI_add, if_pos, if_neg, b01_0, b01_1, Nat.add_sub_cancel, if_true, if_false, not_true_eq_false, not_false_eq_true, true_and, and_true, false_and, and_false, pk_sub, b01_n0, b01_n1, bI_t, bI_f, ofNat_nI, ck_d, Int32.lt_iff_toInt_lt, Int32.le_iff_toInt_le, i32_eq, nI_toInt, bI_b01, bI_0, decide_eq_true_eq, bI_tt, bI_ff, nI_prd, ↓reduceIte, iltT, iltF, ileT, ileF, ieqT, ieqF, dcT, dcF, or_true, or_false, true_or, false_or, e65, nI_mul, e64, g23, ef, d1]
          · simp (disch := first | assumption | omega) only [↓lB_eq, ↓bd_m, ck_tt, gI_pI, gI_pL, gI_pR, gL_pI, gL_pL, gL_pR, gR_pI, gR_pL, rf_0_0, rf_0_1, rf_0_2, rf_0_3, rf_0_4, rf_0_5, rf_0_6, rf_0_7, rf_0_8, rf_0_9, rf_0_10, rf_1_1, rf_1_2, rf_4_0, rf_4_1, rf_4_2, rf_4_3, rf_4_4, rf_4_5, rf_11_0, rf_11_1, rf_12_0, rf_12_1, rf_12_2, rf_12_6, rf_12_7, rf_12_8, rf_13_0, rf_13_1, rf_13_2, rf_13_3, rf_18_0, rf_18_1, rf_18_2, rf_18_3, rf_23_0, rf_23_1, rf_23_2, rf_23_3, rf_31_0, rf_33_0, rf_33_2, rf_33_3, rf_33_4, rf_37_0, rf_39_0, rf_39_1, rf_39_2, rf_39_3, rf_40_0, rf_40_1, rf_40_2, rf_40_3, rf_47_3, rf_49_3, rf_51_3, rf_53_3, rf_55_1, rf_55_7, rf_55_8, rf_55_9, rf_55_11, rf_55_13, rf_55_14, rf_55_15, rf_55_17, rf_55_18, rf_55_19, rf_55_27, rf_55_28, rf_55_29, rf_55_30, rf_55_31, rf_55_32, rf_55_33, rf_55_34, rf_55_35, rf_55_36, rf_55_38, rf_55_44, rf_55_45, rf_55_46, rf_55_47, aL_2, aL_3, aL_5, aL_6, aL_7, aL_8, aL_9, aL_10, aL_14, aL_15, aL_16, aL_17, aL_19, aL_20, aL_21, aL_22, aL_24, aL_25, aL_26, aL_27, aL_28, aL_29, aL_30, aL_32, aL_34, aL_35, aL_36, aL_38, aL_39, aL_40, aL_41, aL_42, aL_43, aL_44, aL_45, aL_46, aL_48, aL_50, aL_52, aL_54, aL_56, aL_57, aL_58, aL_59, aL_60, aL_61, aL_62, aL_63, aL_64, aL_65, aL_66, aL_67, aL_68, aL_69, aL_70, aL_71, aL_72, aL_73, aL_74, aL_75, aL_76, aL_77, aL_78, aL_79, aL_80, aL_81, inb_nI, lit32, nI_clamp, nI_1, nI_add, if_pos, if_neg, b01_0, b01_1, Nat.add_sub_cancel, if_true, if_false, not_true_eq_false, not_false_eq_true, true_and, and_true, false_and, and_false, pk_sub, b01_n0, b01_n1, bI_t, bI_f, ofNat_nI, ck_d, Int32.lt_iff_toInt_lt, Int32.le_iff_toInt_le, i32_eq, nI_toInt, bI_b01, bI_0, decide_eq_true_eq, bI_tt, bI_ff, nI_prd, ↓reduceIte, iltT, iltF, ileT, ileF, ieqT, ieqF, dcT, dcF, or_true, or_false, true_or, false_or, e65, nI_mul, e64, g23, ef, d1]
      · refine step false (by simp [q]) ?_
        unfold f_X9_findsBar_L158 f_X9_findsBar_L222 f_X9_findsBar_L226 f_X9_findsBar_L227
        dsimp only
        simp (disch := first | assumption | omega) only [↓lB_eq, ↓bd_m, ck_tt, gI_pI, gI_pL, gI_pR, gL_pI, gL_pL, gL_pR, gR_pI, gR_pL, rf_0_0, rf_0_1, rf_0_2, rf_0_3, rf_0_4, rf_0_5, rf_0_6, rf_0_7, rf_0_8, rf_0_9, rf_0_10, rf_1_1, rf_1_2, rf_4_0, rf_4_1, rf_4_2, rf_4_3, rf_4_4, rf_4_5, rf_11_0, rf_11_1, rf_12_0, rf_12_1, rf_12_2, rf_12_6, rf_12_7, rf_12_8, rf_13_0, rf_13_1, rf_13_2, rf_13_3, rf_18_0, rf_18_1, rf_18_2, rf_18_3, rf_23_0, rf_23_1, rf_23_2, rf_23_3, rf_31_0, rf_33_0, rf_33_2, rf_33_3, rf_33_4, rf_37_0, rf_39_0, rf_39_1, rf_39_2, rf_39_3, rf_40_0, rf_40_1, rf_40_2, rf_40_3, rf_47_3, rf_49_3, rf_51_3, rf_53_3, rf_55_1, rf_55_7, rf_55_8, rf_55_9, rf_55_11, rf_55_13, rf_55_14, rf_55_15, rf_55_17, rf_55_18, rf_55_19, rf_55_27, rf_55_28, rf_55_29, rf_55_30, rf_55_31, rf_55_32, rf_55_33, rf_55_34, rf_55_35, rf_55_36, rf_55_38, rf_55_44, rf_55_45, rf_55_46, rf_55_47, aL_2, aL_3, aL_5, aL_6, aL_7, aL_8, aL_9, aL_10, aL_14, aL_15, aL_16, aL_17, aL_19, aL_20, aL_21, aL_22, aL_24, aL_25, aL_26, aL_27, aL_28, aL_29, aL_30, aL_32, aL_34, aL_35, aL_36, aL_38, aL_39, aL_40, aL_41, aL_42, aL_43, aL_44, aL_45, aL_46, aL_48, aL_50, aL_52, aL_54, aL_56, aL_57, aL_58, aL_59, aL_60, aL_61, aL_62, aL_63, aL_64, aL_65, aL_66, aL_67, aL_68, aL_69, aL_70, aL_71, aL_72, aL_73, aL_74, aL_75, aL_76, aL_77, aL_78, aL_79, aL_80, aL_81, inb_nI, lit32, nI_clamp, nI_1, nI_add, if_pos, if_neg, b01_0, b01_1, Nat.add_sub_cancel, if_true, if_false, not_true_eq_false, not_false_eq_true, true_and, and_true, false_and, and_false, pk_sub, b01_n0, b01_n1, bI_t, bI_f, ofNat_nI, ck_d, Int32.lt_iff_toInt_lt, Int32.le_iff_toInt_le, i32_eq, nI_toInt, bI_b01, bI_0, decide_eq_true_eq, bI_tt, bI_ff, nI_prd, ↓reduceIte, iltT, iltF, ileT, ileF, ieqT, ieqF, dcT, dcF, or_true, or_false, true_or, false_or, e65, nI_mul, e64, g23, ef, d1]
  · rintro ⟨x, τ⟩ ⟨rfl, hA, g22, b, g23, hb⟩ rec
    dsimp only at hA g22 g23
    have hr2 : RefI τ := hA.ref hr
    have e65 := (h.ag (hSL hA)).2.2.1.2.2.1 k hk
    have hbb : b = barK o tm pt ls fs z k d := by
      rw [Bool.eq_iff_iff, hb]; exact hbi.symm
    rw [hbb] at g23
    rw [h22] at g22
    have hf : finK o tm pt ls fs z k d = posC (sndB tm ls fs k) (fret o pt z d) (fs (k + 1)) - if barK o tm pt ls fs z k d = true then atlC (sndB tm ls fs k) (fret o pt z d) (fs (k + 1)) - 1 else 0 := rfl
    refine ⟨some ((), pI τ 55 22 (nI (finK o tm pt ls fs z k d))), ⟨_, rfl, hA.pI (by omega), g23, rfl⟩, ?_⟩
    unfold f_X9_findsBar_L158 f_X9_findsBar_L256
    dsimp only
    cases hq : barK o tm pt ls fs z k d with
    | true =>
      have h2 := (hbi.mp hq).1
      rw [hq] at g23 hf
      rw [hf, if_pos rfl]
      simp (disch := first | assumption | omega) only [↓lB_eq, ↓bd_m, ck_tt, gI_pI, gI_pL, gI_pR, gL_pI, gL_pL, gL_pR, gR_pI, gR_pL, rf_0_0, rf_0_1, rf_0_2, rf_0_3, rf_0_4, rf_0_5, rf_0_6, rf_0_7, rf_0_8, rf_0_9, rf_0_10, rf_1_1, rf_1_2, rf_4_0, rf_4_1, rf_4_2, rf_4_3, rf_4_4, rf_4_5, rf_11_0, rf_11_1, rf_12_0, rf_12_1, rf_12_2, rf_12_6, rf_12_7, rf_12_8, rf_13_0, rf_13_1, rf_13_2, rf_13_3, rf_18_0, rf_18_1, rf_18_2, rf_18_3, rf_23_0, rf_23_1, rf_23_2, rf_23_3, rf_31_0, rf_33_0, rf_33_2, rf_33_3, rf_33_4, rf_37_0, rf_39_0, rf_39_1, rf_39_2, rf_39_3, rf_40_0, rf_40_1, rf_40_2, rf_40_3, rf_47_3, rf_49_3, rf_51_3, rf_53_3, rf_55_1, rf_55_7, rf_55_8, rf_55_9, rf_55_11, rf_55_13, rf_55_14, rf_55_15, rf_55_17, rf_55_18, rf_55_19, rf_55_27, rf_55_28, rf_55_29, rf_55_30, rf_55_31, rf_55_32, rf_55_33, rf_55_34, rf_55_35, rf_55_36, rf_55_38, rf_55_44, rf_55_45, rf_55_46, rf_55_47, aL_2, aL_3, aL_5, aL_6, aL_7, aL_8, aL_9, aL_10, aL_14, aL_15, aL_16, aL_17, aL_19, aL_20, aL_21, aL_22, aL_24, aL_25, aL_26, aL_27, aL_28, aL_29, aL_30, aL_32, aL_34, aL_35, aL_36, aL_38, aL_39, aL_40, aL_41, aL_42, aL_43, aL_44, aL_45, aL_46, aL_48, aL_50, aL_52, aL_54, aL_56, aL_57, aL_58, aL_59, aL_60, aL_61, aL_62, aL_63, aL_64, aL_65, aL_66, aL_67, aL_68, aL_69, aL_70, aL_71, aL_72, aL_73, aL_74, aL_75, aL_76, aL_77, aL_78, aL_79, aL_80, aL_81, inb_nI, lit32, nI_clamp, nI_1, nI_add, if_pos, if_neg, b01_0, b01_1, Nat.add_sub_cancel, if_true, if_false, not_true_eq_false, not_false_eq_true, true_and, and_true, false_and, and_false, pk_sub, b01_n0, b01_n1, bI_t, bI_f, ofNat_nI, ck_d, Int32.lt_iff_toInt_lt, Int32.le_iff_toInt_le, i32_eq, nI_toInt, bI_b01, bI_0, decide_eq_true_eq, bI_tt, bI_ff, nI_prd, ↓reduceIte, iltT, iltF, ileT, ileF, ieqT, ieqF, dcT, dcF, or_true, or_false, true_or, false_or, e65, g23, g22]
    | false =>
      rw [hq] at g23 hf
      rw [if_neg (by decide)] at hf
      rw [hf]
      simp (disch := first | assumption | omega) only [↓lB_eq, ↓bd_m, ck_tt, gI_pI, gI_pL, gI_pR, gL_pI, gL_pL, gL_pR, gR_pI, gR_pL, rf_0_0, rf_0_1, rf_0_2, rf_0_3, rf_0_4, rf_0_5, rf_0_6, rf_0_7, rf_0_8, rf_0_9, rf_0_10, rf_1_1, rf_1_2, rf_4_0, rf_4_1, rf_4_2, rf_4_3, rf_4_4, rf_4_5, rf_11_0, rf_11_1, rf_12_0, rf_12_1, rf_12_2, rf_12_6, rf_12_7, rf_12_8, rf_13_0, rf_13_1, rf_13_2, rf_13_3, rf_18_0, rf_18_1, rf_18_2, rf_18_3, rf_23_0, rf_23_1, rf_23_2, rf_23_3, rf_31_0, rf_33_0, rf_33_2, rf_33_3, rf_33_4, rf_37_0, rf_39_0, rf_39_1, rf_39_2, rf_39_3, rf_40_0, rf_40_1, rf_40_2, rf_40_3, rf_47_3, rf_49_3, rf_51_3, rf_53_3, rf_55_1, rf_55_7, rf_55_8, rf_55_9, rf_55_11, rf_55_13, rf_55_14, rf_55_15, rf_55_17, rf_55_18, rf_55_19, rf_55_27, rf_55_28, rf_55_29, rf_55_30, rf_55_31, rf_55_32, rf_55_33, rf_55_34, rf_55_35, rf_55_36, rf_55_38, rf_55_44, rf_55_45, rf_55_46, rf_55_47, aL_2, aL_3, aL_5, aL_6, aL_7, aL_8, aL_9, aL_10, aL_14, aL_15, aL_16, aL_17, aL_19, aL_20, aL_21, aL_22, aL_24, aL_25, aL_26, aL_27, aL_28, aL_29, aL_30, aL_32, aL_34, aL_35, aL_36, aL_38, aL_39, aL_40, aL_41, aL_42, aL_43, aL_44, aL_45, aL_46, aL_48, aL_50, aL_52, aL_54, aL_56, aL_57, aL_58, aL_59, aL_60, aL_61, aL_62, aL_63, aL_64, aL_65, aL_66, aL_67, aL_68, aL_69, aL_70, aL_71, aL_72, aL_73, aL_74, aL_75, aL_76, aL_77, aL_78, aL_79, aL_80, aL_81, inb_nI, lit32, nI_clamp, nI_1, nI_add, if_pos, if_neg, b01_0, b01_1, Nat.add_sub_cancel, if_true, if_false, not_true_eq_false, not_false_eq_true, true_and, and_true, false_and, and_false, pk_sub, b01_n0, b01_n1, bI_t, bI_f, ofNat_nI, ck_d, Int32.lt_iff_toInt_lt, Int32.le_iff_toInt_le, i32_eq, nI_toInt, bI_b01, bI_0, decide_eq_true_eq, bI_tt, bI_ff, nI_prd, ↓reduceIte, iltT, iltF, ileT, ileF, ieqT, ieqF, dcT, dcF, or_true, or_false, true_or, false_or, e65, g23, g22]
