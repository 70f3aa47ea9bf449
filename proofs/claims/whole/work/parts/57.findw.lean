/-! the reference's ways of a chord, all of them -/
def Pw (k p j : Nat) : Prop := FLy p j ∨ ((p = 67 ∨ p = 69 ∨ p = 70) ∧ 128 * k ≤ j ∧ j < 128 * k + 128) ∨ (p = 68 ∧ j = k)
theorem Pw.fm {k p j : Nat} (h : Pw k p j) : FM p j := by unfold Pw FLy SL at h; unfold FM SL; omega
theorem CdI.skip {c n : Nat} {o g tm pt ls fs : Nat → Nat} {z : Int} {ban k : Nat} {σ : Sg} {code m : Nat} {cd : Nat → Nat} {τ τ' : Sg} (h : CdI c n o g tm pt ls fs z ban k σ code m cd τ) (hA : Ag FLy (fun _ _ => False) τ τ') (hno : ¬ Gd c o g tm pt ls fs z ban k (plc c (cntB (sndB tm ls fs k) n) (sndB tm ls fs k) code)) : CdI c n o g tm pt ls fs z ban k σ (code + 1) m cd τ' := by
  obtain ⟨h1, h2, h3, h4, h5, h6⟩ := h
  refine ⟨h1.tr (hA.mono (fun p k y => Or.inl y) (fun _ _ y => y)), (hA.2.1 68 k (by unfold FLy SL; omega)).trans h2, Nat.le_trans h3 (cntB_mono _ (by omega)), fun a ha => ?_, h5, fun j hj hG => ?_⟩
  · obtain ⟨y1, y2, ⟨W, y3, y4⟩, y5, y6⟩ := h4 a ha
    exact ⟨by omega, y2, ⟨W, (hA.2.1 67 _ (by unfold FLy SL; omega)).trans y3, y4⟩, by rw [hA.2.1 69 _ (by unfold FLy SL; omega)]; exact y5, (hA.2.1 70 _ (by unfold FLy SL; omega)).trans y6⟩
  · by_cases e : j = code
    · rw [e] at hG; exact absurd hG hno
    · exact h6 j (by omega) hG
theorem s_codeStep {σ τ : Sg} {c n nk k code m : Nat} {cd : Nat → Nat} {o g tm pt ls fs : Nat → Nat} {z : Int} {ban : Nat} {x2 x3 : Int32} {rec46 : Int32 × Sg → Option (Unit × Sg)} (hE0 : RE σ c n nk o g tm pt ls fs z) (b1 : Bl c o g) (b2 : Bn n tm pt ls) (hC : Ch n tm nk fs) (hk : k < nk) (hz : -12 ≤ z ∧ z ≤ 12) (hx2 : ∀ j : Nat, j < 5 → ((j : Int) = x2.toInt ↔ j = ban)) (hT : cntB (sndB tm ls fs k) n ≤ c) (hco : code < c ^ cntB (sndB tm ls fs k) n) (h : CdI c n o g tm pt ls fs z ban k σ code m cd τ) : ∃ (m' : Nat) (cd' : Nat → Nat) (τ' : Sg), fx (f_X9_findsWays_L85 rec46 55 (nI k) x2 x3 (nI code)) FU (nI 0, nI code, nI 1, nI (cntB (sndB tm ls fs k) n) - 1, τ) = rec46 (nI (code + 1), τ') ∧ CdI c n o g tm pt ls fs z ban k σ (code + 1) m' cd' τ' := by
  have hn := b2.1
  have hnk := hC.nk_le
  have hc2 := b1.1
  have hc5 := b1.2.1
  have hM := hC.le (k := k + 1) (by omega)
  have hE := hE0.ag h.1 (fun p j y => Pw.fm (k := k) y)
  have hr := hE.1
  have hmb : m ≤ 120 := Nat.le_trans h.2.2.1 (Nat.le_trans (cntB_mono _ (Nat.le_of_lt hco)) (dst_le (by omega) hT))
  have hmb2 : dstB c (cntB (sndB tm ls fs k) n) code = true → m + 1 ≤ 120 := fun hd => by
    have h1 := cntB_t (P := dstB c (cntB (sndB tm ls fs k) n)) hd
    have h2 := cntB_mono (dstB c (cntB (sndB tm ls fs k) n)) (show code + 1 ≤ c ^ cntB (sndB tm ls fs k) n by omega)
    have h3 := dst_le (c := c) (T := cntB (sndB tm ls fs k) n) (by omega) hT
    have h4 := h.2.2.1
    omega
  have hd5 : ∀ i, plc c (cntB (sndB tm ls fs k) n) (sndB tm ls fs k) code i < c := fun i => dgs_lt (by omega)
  obtain ⟨W, b, hW, hb, e1⟩ := s_code (x3 := x3) (rec46 := rec46) hE b1 b2 hC hk hz hx2 hT hco
  rw [e1]
  by_cases c0 : b = true
  · have hok := hb.1 c0
    rw [if_pos c0]
    obtain ⟨υ1, e2, a2, l2⟩ := s_X9_layWay hE hn hnk hk (by omega) hW
    have hE1 := hE.ag a2 (fun p j y => by unfold FM; omega)
    obtain ⟨υ2, e3, a3, hRT⟩ := s_X9_isGood (d := plc c (cntB (sndB tm ls fs k) n) (sndB tm ls fs k) code) hE1 b1 b2 hC hk hz (fun i hi hs => ⟨l2 i hi hs, by have := hd5 i; omega⟩) (fun i hi hs => (hok i hi hs).2)
    have hA : Ag FLy (fun _ _ => False) τ υ2 := (a2.mono (fun p j y => Or.inl y) (fun _ _ y => y)).tr (a3.mono (fun p j y => Or.inr y) (fun _ _ y => y))
    have hE2 := hE.ag hA (fun p j y => by unfold FLy SL at y; unfold FM SL; omega)
    have hr2 := hE2.1
    have hiff := Gd_iff2 (c := c) (o := o) (g := g) (tm := tm) (pt := pt) (ls := ls) (fs := fs) (z := z) (ban := ban) (k := k) (e := plc c (cntB (sndB tm ls fs k) n) (sndB tm ls fs k) code) (fun i hs => ⟨hd5 i, hok i (by have := snd_lt hs; omega) hs⟩)
    rw [e2, bd_eq]
    by_cases hw : wrK o g tm pt ls fs z k (plc c (cntB (sndB tm ls fs k) n) (sndB tm ls fs k) code) = 0
    · have hGd := hiff.1 hw
      rw [decide_eq_true hw] at e3
      have hdst := dst_of (c := c) (n := n) (j := code) (S := sndB tm ls fs k) (fun i hs => snd_lt hs) hM hGd.2.1
      have hm1 := hmb2 hdst
      have t68 : gI υ2 68 k = nI m := (hA.2.1 68 k (by unfold FLy SL; omega)).trans h.2.1
      have hRT8 : RT' (pI (pI υ2 67 (128 * k + m) (nI W)) 69 (128 * k + m) (gI υ2 55 21)) o g tm pt ls fs z k (plc c (cntB (sndB tm ls fs k) n) (sndB tm ls fs k) code) := hRT.eq (fun j => by rw [gI_pI, if_neg (by omega), gI_pI, if_neg (by omega)])
      have e5 := s_X9_ownCost hRT8 (show gI (pI (pI υ2 67 (128 * k + m) (nI W)) 69 (128 * k + m) (gI υ2 55 21)) 55 5 = nI (g 3) by rw [gI_pI, if_neg (by omega), gI_pI, if_neg (by omega)]; exact hE2.2.2.2.1 3 (by omega)) (show gI (pI (pI υ2 67 (128 * k + m) (nI W)) 69 (128 * k + m) (gI υ2 55 21)) 55 6 = nI (g 4) by rw [gI_pI, if_neg (by omega), gI_pI, if_neg (by omega)]; exact hE2.2.2.2.1 4 (by omega))
      let υ3 : Sg := pI (pI (pI (pI υ2 67 (128 * k + m) (nI W)) 69 (128 * k + m) (gI υ2 55 21)) 70 (128 * k + m) (nI (ownK o g tm pt ls fs z k (plc c (cntB (sndB tm ls fs k) n) (sndB tm ls fs k) code)))) 68 k (nI (m + 1))
      have hA3 : Ag (Pw k) (fun _ _ => False) τ υ3 := Ag.pI (Ag.pI (Ag.pI (Ag.pI (hA.mono (fun p j y => Or.inl y) (fun _ _ y => y)) (Or.inr (by omega))) (Or.inr (by omega))) (Or.inr (by omega))) (Or.inr (by omega))
      obtain ⟨h1, h2, h3, h4, h5, h6⟩ := h
      refine ⟨m + 1, upN cd m code, υ3, ?_, h1.tr hA3, ?_, ?_, fun a ha => ?_, fun a a' y1 y2 => ?_, fun j hj hG => ?_⟩
      · unfold f_X9_findsWays_L193 f_X9_findsWays_L261
        simp (disch := first | assumption | omega) only [↓lB_eq, ↓bd_m, ck_tt, gI_pI, gI_pL, gI_pR, gL_pI, gL_pL, gL_pR, gR_pI, gR_pL, rf_0_0, rf_0_1, rf_0_2, rf_0_3, rf_0_4, rf_0_5, rf_0_6, rf_0_7, rf_0_8, rf_0_9, rf_0_10, rf_1_1, rf_1_2, rf_4_0, rf_4_1, rf_4_2, rf_4_3, rf_4_4, rf_4_5, rf_11_0, rf_11_1, rf_12_0, rf_12_1, rf_12_2, rf_12_6, rf_12_7, rf_12_8, rf_13_0, rf_13_1, rf_13_2, rf_13_3, rf_18_0, rf_18_1, rf_18_2, rf_18_3, rf_23_0, rf_23_1, rf_23_2, rf_23_3, rf_31_0, rf_33_0, rf_33_2, rf_33_3, rf_33_4, rf_37_0, rf_39_0, rf_39_1, rf_39_2, rf_39_3, rf_40_0, rf_40_1, rf_40_2, rf_40_3, rf_47_3, rf_49_3, rf_51_3, rf_53_3, rf_55_1, rf_55_7, rf_55_8, rf_55_9, rf_55_11, rf_55_13, rf_55_14, rf_55_15, rf_55_17, rf_55_18, rf_55_19, rf_55_27, rf_55_28, rf_55_29, rf_55_30, rf_55_31, rf_55_32, rf_55_33, rf_55_34, rf_55_35, rf_55_36, rf_55_38, rf_55_44, rf_55_45, rf_55_46, rf_55_47, aL_2, aL_3, aL_5, aL_6, aL_7, aL_8, aL_9, aL_10, aL_14, aL_15, aL_16, aL_17, aL_19, aL_20, aL_21, aL_22, aL_24, aL_25, aL_26, aL_27, aL_28, aL_29, aL_30, aL_32, aL_34, aL_35, aL_36, aL_38, aL_39, aL_40, aL_41, aL_42, aL_43, aL_44, aL_45, aL_46, aL_48, aL_50, aL_52, aL_54, aL_56, aL_57, aL_58, aL_59, aL_60, aL_61, aL_62, aL_63, aL_64, aL_65, aL_66, aL_67, aL_68, aL_69, aL_70, aL_71, aL_72, aL_73, aL_74, aL_75, aL_76, aL_77, aL_78, aL_79, aL_80, aL_81, inb_nI, lit32, nI_clamp, nI_1, nI_add, if_pos, if_neg, b01_0, b01_1, Nat.add_sub_cancel, if_true, if_false, not_true_eq_false, not_false_eq_true, true_and, and_true, false_and, and_false, pk_sub, b01_n0, b01_n1, bI_t, bI_f, ofNat_nI, ck_d, Int32.lt_iff_toInt_lt, Int32.le_iff_toInt_le, i32_eq, nI_toInt, bI_b01, bI_0, decide_eq_true_eq, bI_tt, bI_ff, nI_prd, ↓reduceIte, iltT, iltF, ileT, ileF, ieqT, ieqF, dcT, dcF, or_true, or_false, true_or, false_or, e3, t68, nI_mul, e5]
        rfl
      · show gI (pI _ 68 k _) 68 k = _
        rw [gI_pI, if_pos ⟨rfl, rfl⟩]
      · rw [cntB_t hdst]; omega
      · by_cases e : a = m
        · subst e
          rw [upN_eq]
          refine ⟨by omega, hGd, ⟨W, ?_, hW⟩, ?_, ?_⟩
          · show gI (pI (pI (pI (pI υ2 67 (128 * k + a) (nI W)) 69 (128 * k + a) _) 70 (128 * k + a) _) 68 k _) 67 (128 * k + a) = _
            rw [gI_pI, if_neg (by omega), gI_pI, if_neg (by omega), gI_pI, if_neg (by omega), gI_pI, if_pos ⟨rfl, rfl⟩]
          · show (gI (pI (pI (pI (pI υ2 67 (128 * k + a) (nI W)) 69 (128 * k + a) _) 70 (128 * k + a) _) 68 k _) 69 (128 * k + a)).toInt = _
            rw [gI_pI, if_neg (by omega), gI_pI, if_neg (by omega), gI_pI, if_pos ⟨rfl, rfl⟩]
            exact hRT.1
          · show gI (pI (pI (pI (pI υ2 67 (128 * k + a) (nI W)) 69 (128 * k + a) _) 70 (128 * k + a) _) 68 k _) 70 (128 * k + a) = _
            rw [gI_pI, if_neg (by omega), gI_pI, if_pos ⟨rfl, rfl⟩]
        · rw [upN_ne e]
          obtain ⟨y1, y2, ⟨W', y3, y4⟩, y5, y6⟩ := h4 a (by omega)
          refine ⟨by omega, y2, ⟨W', ?_, y4⟩, ?_, ?_⟩
          · show gI (pI (pI (pI (pI υ2 67 (128 * k + m) (nI W)) 69 (128 * k + m) _) 70 (128 * k + m) _) 68 k _) 67 (128 * k + a) = _
            rw [gI_pI, if_neg (by omega), gI_pI, if_neg (by omega), gI_pI, if_neg (by omega), gI_pI, if_neg (by omega), hA.2.1 67 _ (by unfold FLy SL; omega)]
            exact y3
          · show (gI (pI (pI (pI (pI υ2 67 (128 * k + m) (nI W)) 69 (128 * k + m) _) 70 (128 * k + m) _) 68 k _) 69 (128 * k + a)).toInt = _
            rw [gI_pI, if_neg (by omega), gI_pI, if_neg (by omega), gI_pI, if_neg (by omega), gI_pI, if_neg (by omega), hA.2.1 69 _ (by unfold FLy SL; omega)]
            exact y5
          · show gI (pI (pI (pI (pI υ2 67 (128 * k + m) (nI W)) 69 (128 * k + m) _) 70 (128 * k + m) _) 68 k _) 70 (128 * k + a) = _
            rw [gI_pI, if_neg (by omega), gI_pI, if_neg (by omega), gI_pI, if_neg (by omega), gI_pI, if_neg (by omega), hA.2.1 70 _ (by unfold FLy SL; omega)]
            exact y6
      · by_cases e : a' = m
        · subst e
          rw [upN_eq, upN_ne (by omega)]
          exact (h4 a y1).1
        · rw [upN_ne e, upN_ne (by omega)]
          exact h5 a a' y1 (by omega)
      · by_cases e : j = code
        · subst e
          exact ⟨m, by omega, upN_eq⟩
        · obtain ⟨a, y1, y2⟩ := h6 j (by omega) hG
          exact ⟨a, by omega, by rw [upN_ne (by omega)]; exact y2⟩
    · rw [decide_eq_false hw] at e3
      refine ⟨m, cd, υ2, ?_, h.skip hA (fun y => hw (hiff.2 y))⟩
      unfold f_X9_findsWays_L193 f_X9_findsWays_L261
      simp (disch := first | assumption | omega) only [↓lB_eq, ↓bd_m, ck_tt, gI_pI, gI_pL, gI_pR, gL_pI, gL_pL, gL_pR, gR_pI, gR_pL, rf_0_0, rf_0_1, rf_0_2, rf_0_3, rf_0_4, rf_0_5, rf_0_6, rf_0_7, rf_0_8, rf_0_9, rf_0_10, rf_1_1, rf_1_2, rf_4_0, rf_4_1, rf_4_2, rf_4_3, rf_4_4, rf_4_5, rf_11_0, rf_11_1, rf_12_0, rf_12_1, rf_12_2, rf_12_6, rf_12_7, rf_12_8, rf_13_0, rf_13_1, rf_13_2, rf_13_3, rf_18_0, rf_18_1, rf_18_2, rf_18_3, rf_23_0, rf_23_1, rf_23_2, rf_23_3, rf_31_0, rf_33_0, rf_33_2, rf_33_3, rf_33_4, rf_37_0, rf_39_0, rf_39_1, rf_39_2, rf_39_3, rf_40_0, rf_40_1, rf_40_2, rf_40_3, rf_47_3, rf_49_3, rf_51_3, rf_53_3, rf_55_1, rf_55_7, rf_55_8, rf_55_9, rf_55_11, rf_55_13, rf_55_14, rf_55_15, rf_55_17, rf_55_18, rf_55_19, rf_55_27, rf_55_28, rf_55_29, rf_55_30, rf_55_31, rf_55_32, rf_55_33, rf_55_34, rf_55_35, rf_55_36, rf_55_38, rf_55_44, rf_55_45, rf_55_46, rf_55_47, aL_2, aL_3, aL_5, aL_6, aL_7, aL_8, aL_9, aL_10, aL_14, aL_15, aL_16, aL_17, aL_19, aL_20, aL_21, aL_22, aL_24, aL_25, aL_26, aL_27, aL_28, aL_29, aL_30, aL_32, aL_34, aL_35, aL_36, aL_38, aL_39, aL_40, aL_41, aL_42, aL_43, aL_44, aL_45, aL_46, aL_48, aL_50, aL_52, aL_54, aL_56, aL_57, aL_58, aL_59, aL_60, aL_61, aL_62, aL_63, aL_64, aL_65, aL_66, aL_67, aL_68, aL_69, aL_70, aL_71, aL_72, aL_73, aL_74, aL_75, aL_76, aL_77, aL_78, aL_79, aL_80, aL_81, inb_nI, lit32, nI_clamp, nI_1, nI_add, if_pos, if_neg, b01_0, b01_1, Nat.add_sub_cancel, if_true, if_false, not_true_eq_false, not_false_eq_true, true_and, and_true, false_and, and_false, pk_sub, b01_n0, b01_n1, bI_t, bI_f, ofNat_nI, ck_d, Int32.lt_iff_toInt_lt, Int32.le_iff_toInt_le, i32_eq, nI_toInt, bI_b01, bI_0, decide_eq_true_eq, bI_tt, bI_ff, nI_prd, ↓reduceIte, iltT, iltF, ileT, ileF, ieqT, ieqF, dcT, dcF, or_true, or_false, true_or, false_or, e3]
  · rw [if_neg c0]
    refine ⟨m, cd, τ, ?_, h.skip Ag.rf (fun y => c0 (hb.2 (fun i hi hs => (y.1 i hs).2)))⟩
    unfold f_X9_findsWays_L193 f_X9_findsWays_L261
    simp (disch := first | assumption | omega) only [↓lB_eq, ↓bd_m, ck_tt, gI_pI, gI_pL, gI_pR, gL_pI, gL_pL, gL_pR, gR_pI, gR_pL, rf_0_0, rf_0_1, rf_0_2, rf_0_3, rf_0_4, rf_0_5, rf_0_6, rf_0_7, rf_0_8, rf_0_9, rf_0_10, rf_1_1, rf_1_2, rf_4_0, rf_4_1, rf_4_2, rf_4_3, rf_4_4, rf_4_5, rf_11_0, rf_11_1, rf_12_0, rf_12_1, rf_12_2, rf_12_6, rf_12_7, rf_12_8, rf_13_0, rf_13_1, rf_13_2, rf_13_3, rf_18_0, rf_18_1, rf_18_2, rf_18_3, rf_23_0, rf_23_1, rf_23_2, rf_23_3, rf_31_0, rf_33_0, rf_33_2, rf_33_3, rf_33_4, rf_37_0, rf_39_0, rf_39_1, rf_39_2, rf_39_3, rf_40_0, rf_40_1, rf_40_2, rf_40_3, rf_47_3, rf_49_3, rf_51_3, rf_53_3, rf_55_1, rf_55_7, rf_55_8, rf_55_9, rf_55_11, rf_55_13, rf_55_14, rf_55_15, rf_55_17, rf_55_18, rf_55_19, rf_55_27, rf_55_28, rf_55_29, rf_55_30, rf_55_31, rf_55_32, rf_55_33, rf_55_34, rf_55_35, rf_55_36, rf_55_38, rf_55_44, rf_55_45, rf_55_46, rf_55_47, aL_2, aL_3, aL_5, aL_6, aL_7, aL_8, aL_9, aL_10, aL_14, aL_15, aL_16, aL_17, aL_19, aL_20, aL_21, aL_22, aL_24, aL_25, aL_26, aL_27, aL_28, aL_29, aL_30, aL_32, aL_34, aL_35, aL_36, aL_38, aL_39, aL_40, aL_41, aL_42, aL_43, aL_44, aL_45, aL_46, aL_48, aL_50, aL_52, aL_54, aL_56, aL_57, aL_58, aL_59, aL_60, aL_61, aL_62, aL_63, aL_64, aL_65, aL_66, aL_67, aL_68, aL_69, aL_70, aL_71, aL_72, aL_73, aL_74, aL_75, aL_76, aL_77, aL_78, aL_79, aL_80, aL_81, inb_nI, lit32, nI_clamp, nI_1, nI_add, if_pos, if_neg, b01_0, b01_1, Nat.add_sub_cancel, if_true, if_false, not_true_eq_false, not_false_eq_true, true_and, and_true, false_and, and_false, pk_sub, b01_n0, b01_n1, bI_t, bI_f, ofNat_nI, ck_d, Int32.lt_iff_toInt_lt, Int32.le_iff_toInt_le, i32_eq, nI_toInt, bI_b01, bI_0, decide_eq_true_eq, bI_tt, bI_ff, nI_prd, ↓reduceIte, iltT, iltF, ileT, ileF, ieqT, ieqF, dcT, dcF, or_true, or_false, true_or, false_or]
/-- the ways are good, all of them are there, and they are in order -/
def RWP (c : Nat) (o g tm pt ls fs : Nat → Nat) (z : Int) (ban k m : Nat) (D : Nat → Nat → Nat) : Prop := (∀ a, a < m → Gd c o g tm pt ls fs z ban k (D a)) ∧ (∀ d, Gd c o g tm pt ls fs z ban k d → ∃ a, a < m ∧ ∀ i, sndB tm ls fs k i = true → D a i = d i) ∧ ∀ a b, a < b → b < m → ∃ p, sndB tm ls fs k p = true ∧ D a p < D b p ∧ ∀ i, i < p → sndB tm ls fs k i = true → D a i = D b i
theorem s_X9_findsWays {σ : Sg} {c n nk k : Nat} {o g tm pt ls fs : Nat → Nat} {z : Int} {ban : Nat} {x2 : Int32} (hE : RE σ c n nk o g tm pt ls fs z) (b1 : Bl c o g) (b2 : Bn n tm pt ls) (hC : Ch n tm nk fs) (hk : k < nk) (hz : -12 ≤ z ∧ z ≤ 12) (hx2 : ∀ j : Nat, j < 5 → ((j : Int) = x2.toInt ↔ j = ban)) : ∃ (τ : Sg) (m : Nat) (D : Nat → Nat → Nat), f_X9_findsWays 55 (nI k) x2 σ = some ((), τ) ∧ Ag (Pw k) (fun _ _ => False) σ τ ∧ RW τ n o g tm pt ls fs z k m D ∧ RWP c o g tm pt ls fs z ban k m D := by
  have hn := b2.1
  have hnk := hC.nk_le
  have hc2 := b1.1
  have hc5 := b1.2.1
  have hM := hC.le (k := k + 1) (by omega)
  have hcl := cntB_le (sndB tm ls fs k) n
  have hr := hE.1
  have hA1 : Ag (Pw k) (fun _ _ => False) σ (pI σ 68 k (nI 0)) := Ag.rf.pI (by unfold Pw; omega)
  have hE1 := hE.ag hA1 (fun p j y => y.fm)
  have hr1 := hE1.1
  have t0 := hE1.2.1
  have t65 := hE1.2.2.2.2.2.1.2.2.1 k hk
  have unf : f_X9_findsWays 55 (nI k) x2 σ = fx (f_X9_findsWays_L12 55 (nI k) x2 (pI σ 68 k (nI 0))) FU (nI 1, nI 0) := by
    unfold f_X9_findsWays
    rw [rf_55_28 hr, aL_68, inb_nI (by omega), ck_d (by omega), lB_eq, nI_clamp (by omega)]
    rfl
  have pw6 : ∀ i, i ≤ 6 → c ^ i ≤ 5 ^ 6 := fun i hi => Nat.le_trans (Nat.pow_le_pow_left hc5 i) (Nat.pow_le_pow_right (by omega) hi)
  have p56 : (5 : Nat) ^ 6 = 15625 := by decide
  by_cases hT : cntB (sndB tm ls fs k) n ≤ c
  · have hcp := pw6 (cntB (sndB tm ls fs k) n) (by omega)
    have e1 : fx (f_X9_findsWays_L12 55 (nI k) x2 (pI σ 68 k (nI 0))) FU (nI 1, nI 0) = f_X9_findsWays_L43 55 (nI k) x2 (nI (c ^ cntB (sndB tm ls fs k) n)) (pI σ 68 k (nI 0)) := by
      refine fx_for0 (fun i => (nI (c ^ i), nI i)) rfl (n := cntB (sndB tm ls fs k) n) (fun i hi rec => ?_) (fun rec => ?_) (by unfold FU; omega)
      · unfold f_X9_findsWays_L12
        dsimp only
        rw [Nat.pow_succ]
        simp (disch := first | assumption | omega) only [↓lB_eq, ↓bd_m, ck_tt, gI_pI, gI_pL, gI_pR, gL_pI, gL_pL, gL_pR, gR_pI, gR_pL, rf_0_0, rf_0_1, rf_0_2, rf_0_3, rf_0_4, rf_0_5, rf_0_6, rf_0_7, rf_0_8, rf_0_9, rf_0_10, rf_1_1, rf_1_2, rf_4_0, rf_4_1, rf_4_2, rf_4_3, rf_4_4, rf_4_5, rf_11_0, rf_11_1, rf_12_0, rf_12_1, rf_12_2, rf_12_6, rf_12_7, rf_12_8, rf_13_0, rf_13_1, rf_13_2, rf_13_3, rf_18_0, rf_18_1, rf_18_2, rf_18_3, rf_23_0, rf_23_1, rf_23_2, rf_23_3, rf_31_0, rf_33_0, rf_33_2, rf_33_3, rf_33_4, rf_37_0, rf_39_0, rf_39_1, rf_39_2, rf_39_3, rf_40_0, rf_40_1, rf_40_2, rf_40_3, rf_47_3, rf_49_3, rf_51_3, rf_53_3, rf_55_1, rf_55_7, rf_55_8, rf_55_9, rf_55_11, rf_55_13, rf_55_14, rf_55_15, rf_55_17, rf_55_18, rf_55_19, rf_55_27, rf_55_28, rf_55_29, rf_55_30, rf_55_31, rf_55_32, rf_55_33, rf_55_34, rf_55_35, rf_55_36, rf_55_38, rf_55_44, rf_55_45, rf_55_46, rf_55_47, aL_2, aL_3, aL_5, aL_6, aL_7, aL_8, aL_9, aL_10, aL_14, aL_15, aL_16, aL_17, aL_19, aL_20, aL_21, aL_22, aL_24, aL_25, aL_26, aL_27, aL_28, aL_29, aL_30, aL_32, aL_34, aL_35, aL_36, aL_38, aL_39, aL_40, aL_41, aL_42, aL_43, aL_44, aL_45, aL_46, aL_48, aL_50, aL_52, aL_54, aL_56, aL_57, aL_58, aL_59, aL_60, aL_61, aL_62, aL_63, aL_64, aL_65, aL_66, aL_67, aL_68, aL_69, aL_70, aL_71, aL_72, aL_73, aL_74, aL_75, aL_76, aL_77, aL_78, aL_79, aL_80, aL_81, inb_nI, lit32, nI_clamp, nI_1, nI_add, if_pos, if_neg, b01_0, b01_1, Nat.add_sub_cancel, if_true, if_false, not_true_eq_false, not_false_eq_true, true_and, and_true, false_and, and_false, pk_sub, b01_n0, b01_n1, bI_t, bI_f, ofNat_nI, ck_d, Int32.lt_iff_toInt_lt, Int32.le_iff_toInt_le, i32_eq, nI_toInt, bI_b01, bI_0, decide_eq_true_eq, bI_tt, bI_ff, nI_prd, ↓reduceIte, iltT, iltF, ileT, ileF, ieqT, ieqF, dcT, dcF, or_true, or_false, true_or, false_or, t65, t0, nI_mul]
      · unfold f_X9_findsWays_L12
        dsimp only
        simp (disch := first | assumption | omega) only [↓lB_eq, ↓bd_m, ck_tt, gI_pI, gI_pL, gI_pR, gL_pI, gL_pL, gL_pR, gR_pI, gR_pL, rf_0_0, rf_0_1, rf_0_2, rf_0_3, rf_0_4, rf_0_5, rf_0_6, rf_0_7, rf_0_8, rf_0_9, rf_0_10, rf_1_1, rf_1_2, rf_4_0, rf_4_1, rf_4_2, rf_4_3, rf_4_4, rf_4_5, rf_11_0, rf_11_1, rf_12_0, rf_12_1, rf_12_2, rf_12_6, rf_12_7, rf_12_8, rf_13_0, rf_13_1, rf_13_2, rf_13_3, rf_18_0, rf_18_1, rf_18_2, rf_18_3, rf_23_0, rf_23_1, rf_23_2, rf_23_3, rf_31_0, rf_33_0, rf_33_2, rf_33_3, rf_33_4, rf_37_0, rf_39_0, rf_39_1, rf_39_2, rf_39_3, rf_40_0, rf_40_1, rf_40_2, rf_40_3, rf_47_3, rf_49_3, rf_51_3, rf_53_3, rf_55_1, rf_55_7, rf_55_8, rf_55_9, rf_55_11, rf_55_13, rf_55_14, rf_55_15, rf_55_17, rf_55_18, rf_55_19, rf_55_27, rf_55_28, rf_55_29, rf_55_30, rf_55_31, rf_55_32, rf_55_33, rf_55_34, rf_55_35, rf_55_36, rf_55_38, rf_55_44, rf_55_45, rf_55_46, rf_55_47, aL_2, aL_3, aL_5, aL_6, aL_7, aL_8, aL_9, aL_10, aL_14, aL_15, aL_16, aL_17, aL_19, aL_20, aL_21, aL_22, aL_24, aL_25, aL_26, aL_27, aL_28, aL_29, aL_30, aL_32, aL_34, aL_35, aL_36, aL_38, aL_39, aL_40, aL_41, aL_42, aL_43, aL_44, aL_45, aL_46, aL_48, aL_50, aL_52, aL_54, aL_56, aL_57, aL_58, aL_59, aL_60, aL_61, aL_62, aL_63, aL_64, aL_65, aL_66, aL_67, aL_68, aL_69, aL_70, aL_71, aL_72, aL_73, aL_74, aL_75, aL_76, aL_77, aL_78, aL_79, aL_80, aL_81, inb_nI, lit32, nI_clamp, nI_1, nI_add, if_pos, if_neg, b01_0, b01_1, Nat.add_sub_cancel, if_true, if_false, not_true_eq_false, not_false_eq_true, true_and, and_true, false_and, and_false, pk_sub, b01_n0, b01_n1, bI_t, bI_f, ofNat_nI, ck_d, Int32.lt_iff_toInt_lt, Int32.le_iff_toInt_le, i32_eq, nI_toInt, bI_b01, bI_0, decide_eq_true_eq, bI_tt, bI_ff, nI_prd, ↓reduceIte, iltT, iltF, ileT, ileF, ieqT, ieqF, dcT, dcF, or_true, or_false, true_or, false_or, t65]
    have loop : ∃ (m : Nat) (cd : Nat → Nat) (τ : Sg), fx (f_X9_findsWays_L46 55 (nI k) x2 (nI (c ^ cntB (sndB tm ls fs k) n))) FU (nI 0, pI σ 68 k (nI 0)) = some ((), τ) ∧ CdI c n o g tm pt ls fs z ban k σ (c ^ cntB (sndB tm ls fs k) n) m cd τ := by
      refine fx_inv2 (I := fun code s => ∃ (m : Nat) (cd : Nat → Nat) (τ : Sg), s = (nI code, τ) ∧ CdI c n o g tm pt ls fs z ban k σ code m cd τ) (Q := fun e => ∃ (m : Nat) (cd : Nat → Nat) (τ : Sg), e = some ((), τ) ∧ CdI c n o g tm pt ls fs z ban k σ (c ^ cntB (sndB tm ls fs k) n) m cd τ) (n := c ^ cntB (sndB tm ls fs k) n) ?_ ?_ (c ^ cntB (sndB tm ls fs k) n) 0 FU _ (by omega) (by unfold FU; omega) ⟨0, fun _ => 0, pI σ 68 k (nI 0), rfl, hA1, by rw [gI_pI, if_pos ⟨rfl, rfl⟩], Nat.zero_le _, fun a ha => by omega, fun a b _ hb => by omega, fun j hj => by omega⟩
      · rintro code s hco ⟨m, cd, τ, rfl, hI⟩ rec
        have hE2 := hE.ag hI.1 (fun p j y => Pw.fm (k := k) y)
        have hr2 := hE2.1
        have u0 := hE2.2.1
        have u65 := hE2.2.2.2.2.2.1.2.2.1 k hk
        obtain ⟨m', cd', τ', e2, hI'⟩ := s_codeStep (x3 := nI (c ^ cntB (sndB tm ls fs k) n)) (rec46 := rec) hE b1 b2 hC hk hz hx2 hT hco hI
        left
        refine ⟨(nI (code + 1), τ'), ⟨m', cd', τ', rfl, hI'⟩, ?_⟩
        rw [← e2]
        unfold f_X9_findsWays_L46
        dsimp only
        rw [if_neg (by rw [Int32.le_iff_toInt_le, nI_toInt (by omega), nI_toInt (by omega)]; omega), rf_55_18 hr2, aL_65, inb_nI (by omega), ck_d (by omega), nI_clamp (by omega), u65, u0, if_neg (by rw [Int32.lt_iff_toInt_lt, nI_toInt (by omega), nI_toInt (by omega)]; omega), lB_eq, ck_d (by omega), lB_eq]
        rfl
      · rintro s ⟨m, cd, τ, rfl, hI⟩ rec
        refine ⟨some ((), τ), ⟨m, cd, τ, rfl, hI⟩, ?_⟩
        unfold f_X9_findsWays_L46 f_X9_findsWays_L267
        dsimp only
        rw [if_pos (by rw [Int32.le_iff_toInt_le]; exact Int.le_refl _)]
    obtain ⟨m, cd, τ, e2, h1, h2, h3, h4, h5, h6⟩ := loop
    have hm : m ≤ 120 := Nat.le_trans h3 (dst_le (by omega) hT)
    refine ⟨τ, m, fun a => plc c (cntB (sndB tm ls fs k) n) (sndB tm ls fs k) (cd a), ?_, h1, ⟨h2, hm, fun a ha => (h4 a ha).2.2⟩, fun a ha => (h4 a ha).2.1, fun d hd => ?_, fun a b hab hb => ?_⟩
    · rw [unf, e1]
      unfold f_X9_findsWays_L43
      exact e2
    · have hdc : ∀ i, i < n → sndB tm ls fs k i = true → d i < c := fun i _ hs => (hd.1 i hs).1
      have hpl : ∀ i, sndB tm ls fs k i = true → plc c (cntB (sndB tm ls fs k) n) (sndB tm ls fs k) (cod c (sndB tm ls fs k) d n) i = d i := fun i hs => plc_cod (by omega) hdc (by have := snd_lt hs; omega) hs
      obtain ⟨a, ha, hca⟩ := h6 (cod c (sndB tm ls fs k) d n) (cod_lt hdc) (hd.cg (fun i hs => (hpl i hs).symm))
      exact ⟨a, ha, fun i hs => by dsimp only; rw [hca]; exact hpl i hs⟩
    · obtain ⟨t, t1, t2, t3⟩ := dgs_lex (c := c) (T := cntB (sndB tm ls fs k) n) (by omega) (h5 a b hab hb) (h4 b hb).1
      obtain ⟨p, q1, q2, q3⟩ := nth_ex t1
      refine ⟨p, q2, ?_, fun i hi hs => ?_⟩
      · show dgs c (cntB (sndB tm ls fs k) n) (cd a) (cntB (sndB tm ls fs k) p) < dgs c (cntB (sndB tm ls fs k) n) (cd b) (cntB (sndB tm ls fs k) p)
        rw [q3]; exact t2
      · show dgs c (cntB (sndB tm ls fs k) n) (cd a) (cntB (sndB tm ls fs k) i) = dgs c (cntB (sndB tm ls fs k) n) (cd b) (cntB (sndB tm ls fs k) i)
        exact t3 _ (by rw [← q3]; exact (cnt_lt hs).2 hi)
  · have hmi : ∃ e, e ≤ 6 ∧ fx (f_X9_findsWays_L12 55 (nI k) x2 (pI σ 68 k (nI 0))) FU (nI 1, nI 0) = f_X9_findsWays_L43 55 (nI k) x2 (nI (c ^ e)) (pI σ 68 k (nI 0)) := by
      by_cases h6 : cntB (sndB tm ls fs k) n ≤ 6
      · refine ⟨cntB (sndB tm ls fs k) n, h6, ?_⟩
        refine fx_for0 (fun i => (nI (c ^ i), nI i)) rfl (n := cntB (sndB tm ls fs k) n) (fun i hi rec => ?_) (fun rec => ?_) (by unfold FU; omega)
        · have := pw6 i (by omega)
          unfold f_X9_findsWays_L12
          dsimp only
          rw [Nat.pow_succ]
          simp (disch := first | assumption | omega) only [↓lB_eq, ↓bd_m, ck_tt, gI_pI, gI_pL, gI_pR, gL_pI, gL_pL, gL_pR, gR_pI, gR_pL, rf_0_0, rf_0_1, rf_0_2, rf_0_3, rf_0_4, rf_0_5, rf_0_6, rf_0_7, rf_0_8, rf_0_9, rf_0_10, rf_1_1, rf_1_2, rf_4_0, rf_4_1, rf_4_2, rf_4_3, rf_4_4, rf_4_5, rf_11_0, rf_11_1, rf_12_0, rf_12_1, rf_12_2, rf_12_6, rf_12_7, rf_12_8, rf_13_0, rf_13_1, rf_13_2, rf_13_3, rf_18_0, rf_18_1, rf_18_2, rf_18_3, rf_23_0, rf_23_1, rf_23_2, rf_23_3, rf_31_0, rf_33_0, rf_33_2, rf_33_3, rf_33_4, rf_37_0, rf_39_0, rf_39_1, rf_39_2, rf_39_3, rf_40_0, rf_40_1, rf_40_2, rf_40_3, rf_47_3, rf_49_3, rf_51_3, rf_53_3, rf_55_1, rf_55_7, rf_55_8, rf_55_9, rf_55_11, rf_55_13, rf_55_14, rf_55_15, rf_55_17, rf_55_18, rf_55_19, rf_55_27, rf_55_28, rf_55_29, rf_55_30, rf_55_31, rf_55_32, rf_55_33, rf_55_34, rf_55_35, rf_55_36, rf_55_38, rf_55_44, rf_55_45, rf_55_46, rf_55_47, aL_2, aL_3, aL_5, aL_6, aL_7, aL_8, aL_9, aL_10, aL_14, aL_15, aL_16, aL_17, aL_19, aL_20, aL_21, aL_22, aL_24, aL_25, aL_26, aL_27, aL_28, aL_29, aL_30, aL_32, aL_34, aL_35, aL_36, aL_38, aL_39, aL_40, aL_41, aL_42, aL_43, aL_44, aL_45, aL_46, aL_48, aL_50, aL_52, aL_54, aL_56, aL_57, aL_58, aL_59, aL_60, aL_61, aL_62, aL_63, aL_64, aL_65, aL_66, aL_67, aL_68, aL_69, aL_70, aL_71, aL_72, aL_73, aL_74, aL_75, aL_76, aL_77, aL_78, aL_79, aL_80, aL_81, inb_nI, lit32, nI_clamp, nI_1, nI_add, if_pos, if_neg, b01_0, b01_1, Nat.add_sub_cancel, if_true, if_false, not_true_eq_false, not_false_eq_true, true_and, and_true, false_and, and_false, pk_sub, b01_n0, b01_n1, bI_t, bI_f, ofNat_nI, ck_d, Int32.lt_iff_toInt_lt, Int32.le_iff_toInt_le, i32_eq, nI_toInt, bI_b01, bI_0, decide_eq_true_eq, bI_tt, bI_ff, nI_prd, ↓reduceIte, iltT, iltF, ileT, ileF, ieqT, ieqF, dcT, dcF, or_true, or_false, true_or, false_or, t65, t0, nI_mul]
        · unfold f_X9_findsWays_L12
          dsimp only
          simp (disch := first | assumption | omega) only [↓lB_eq, ↓bd_m, ck_tt, gI_pI, gI_pL, gI_pR, gL_pI, gL_pL, gL_pR, gR_pI, gR_pL, rf_0_0, rf_0_1, rf_0_2, rf_0_3, rf_0_4, rf_0_5, rf_0_6, rf_0_7, rf_0_8, rf_0_9, rf_0_10, rf_1_1, rf_1_2, rf_4_0, rf_4_1, rf_4_2, rf_4_3, rf_4_4, rf_4_5, rf_11_0, rf_11_1, rf_12_0, rf_12_1, rf_12_2, rf_12_6, rf_12_7, rf_12_8, rf_13_0, rf_13_1, rf_13_2, rf_13_3, rf_18_0, rf_18_1, rf_18_2, rf_18_3, rf_23_0, rf_23_1, rf_23_2, rf_23_3, rf_31_0, rf_33_0, rf_33_2, rf_33_3, rf_33_4, rf_37_0, rf_39_0, rf_39_1, rf_39_2, rf_39_3, rf_40_0, rf_40_1, rf_40_2, rf_40_3, rf_47_3, rf_49_3, rf_51_3, rf_53_3, rf_55_1, rf_55_7, rf_55_8, rf_55_9, rf_55_11, rf_55_13, rf_55_14, rf_55_15, rf_55_17, rf_55_18, rf_55_19, rf_55_27, rf_55_28, rf_55_29, rf_55_30, rf_55_31, rf_55_32, rf_55_33, rf_55_34, rf_55_35, rf_55_36, rf_55_38, rf_55_44, rf_55_45, rf_55_46, rf_55_47, aL_2, aL_3, aL_5, aL_6, aL_7, aL_8, aL_9, aL_10, aL_14, aL_15, aL_16, aL_17, aL_19, aL_20, aL_21, aL_22, aL_24, aL_25, aL_26, aL_27, aL_28, aL_29, aL_30, aL_32, aL_34, aL_35, aL_36, aL_38, aL_39, aL_40, aL_41, aL_42, aL_43, aL_44, aL_45, aL_46, aL_48, aL_50, aL_52, aL_54, aL_56, aL_57, aL_58, aL_59, aL_60, aL_61, aL_62, aL_63, aL_64, aL_65, aL_66, aL_67, aL_68, aL_69, aL_70, aL_71, aL_72, aL_73, aL_74, aL_75, aL_76, aL_77, aL_78, aL_79, aL_80, aL_81, inb_nI, lit32, nI_clamp, nI_1, nI_add, if_pos, if_neg, b01_0, b01_1, Nat.add_sub_cancel, if_true, if_false, not_true_eq_false, not_false_eq_true, true_and, and_true, false_and, and_false, pk_sub, b01_n0, b01_n1, bI_t, bI_f, ofNat_nI, ck_d, Int32.lt_iff_toInt_lt, Int32.le_iff_toInt_le, i32_eq, nI_toInt, bI_b01, bI_0, decide_eq_true_eq, bI_tt, bI_ff, nI_prd, ↓reduceIte, iltT, iltF, ileT, ileF, ieqT, ieqF, dcT, dcF, or_true, or_false, true_or, false_or, t65]
      · refine ⟨6, by omega, ?_⟩
        refine fx_for0 (fun i => (nI (c ^ i), nI i)) rfl (n := 6) (fun i hi rec => ?_) (fun rec => ?_) (by unfold FU; omega)
        · have := pw6 i (by omega)
          unfold f_X9_findsWays_L12
          dsimp only
          rw [Nat.pow_succ]
          simp (disch := first | assumption | omega) only [↓lB_eq, ↓bd_m, ck_tt, gI_pI, gI_pL, gI_pR, gL_pI, gL_pL, gL_pR, gR_pI, gR_pL, rf_0_0, rf_0_1, rf_0_2, rf_0_3, rf_0_4, rf_0_5, rf_0_6, rf_0_7, rf_0_8, rf_0_9, rf_0_10, rf_1_1, rf_1_2, rf_4_0, rf_4_1, rf_4_2, rf_4_3, rf_4_4, rf_4_5, rf_11_0, rf_11_1, rf_12_0, rf_12_1, rf_12_2, rf_12_6, rf_12_7, rf_12_8, rf_13_0, rf_13_1, rf_13_2, rf_13_3, rf_18_0, rf_18_1, rf_18_2, rf_18_3, rf_23_0, rf_23_1, rf_23_2, rf_23_3, rf_31_0, rf_33_0, rf_33_2, rf_33_3, rf_33_4, rf_37_0, rf_39_0, rf_39_1, rf_39_2, rf_39_3, rf_40_0, rf_40_1, rf_40_2, rf_40_3, rf_47_3, rf_49_3, rf_51_3, rf_53_3, rf_55_1, rf_55_7, rf_55_8, rf_55_9, rf_55_11, rf_55_13, rf_55_14, rf_55_15, rf_55_17, rf_55_18, rf_55_19, rf_55_27, rf_55_28, rf_55_29, rf_55_30, rf_55_31, rf_55_32, rf_55_33, rf_55_34, rf_55_35, rf_55_36, rf_55_38, rf_55_44, rf_55_45, rf_55_46, rf_55_47, aL_2, aL_3, aL_5, aL_6, aL_7, aL_8, aL_9, aL_10, aL_14, aL_15, aL_16, aL_17, aL_19, aL_20, aL_21, aL_22, aL_24, aL_25, aL_26, aL_27, aL_28, aL_29, aL_30, aL_32, aL_34, aL_35, aL_36, aL_38, aL_39, aL_40, aL_41, aL_42, aL_43, aL_44, aL_45, aL_46, aL_48, aL_50, aL_52, aL_54, aL_56, aL_57, aL_58, aL_59, aL_60, aL_61, aL_62, aL_63, aL_64, aL_65, aL_66, aL_67, aL_68, aL_69, aL_70, aL_71, aL_72, aL_73, aL_74, aL_75, aL_76, aL_77, aL_78, aL_79, aL_80, aL_81, inb_nI, lit32, nI_clamp, nI_1, nI_add, if_pos, if_neg, b01_0, b01_1, Nat.add_sub_cancel, if_true, if_false, not_true_eq_false, not_false_eq_true, true_and, and_true, false_and, and_false, pk_sub, b01_n0, b01_n1, bI_t, bI_f, ofNat_nI, ck_d, Int32.lt_iff_toInt_lt, Int32.le_iff_toInt_le, i32_eq, nI_toInt, bI_b01, bI_0, decide_eq_true_eq, bI_tt, bI_ff, nI_prd, ↓reduceIte, iltT, iltF, ileT, ileF, ieqT, ieqF, dcT, dcF, or_true, or_false, true_or, false_or, t65, t0, nI_mul]
        · unfold f_X9_findsWays_L12
          dsimp only
          simp (disch := first | assumption | omega) only [↓lB_eq, ↓bd_m, ck_tt, gI_pI, gI_pL, gI_pR, gL_pI, gL_pL, gL_pR, gR_pI, gR_pL, rf_0_0, rf_0_1, rf_0_2, rf_0_3, rf_0_4, rf_0_5, rf_0_6, rf_0_7, rf_0_8, rf_0_9, rf_0_10, rf_1_1, rf_1_2, rf_4_0, rf_4_1, rf_4_2, rf_4_3, rf_4_4, rf_4_5, rf_11_0, rf_11_1, rf_12_0, rf_12_1, rf_12_2, rf_12_6, rf_12_7, rf_12_8, rf_13_0, rf_13_1, rf_13_2, rf_13_3, rf_18_0, rf_18_1, rf_18_2, rf_18_3, rf_23_0, rf_23_1, rf_23_2, rf_23_3, rf_31_0, rf_33_0, rf_33_2, rf_33_3, rf_33_4, rf_37_0, rf_39_0, rf_39_1, rf_39_2, rf_39_3, rf_40_0, rf_40_1, rf_40_2, rf_40_3, rf_47_3, rf_49_3, rf_51_3, rf_53_3, rf_55_1, rf_55_7, rf_55_8, rf_55_9, rf_55_11, rf_55_13, rf_55_14, rf_55_15, rf_55_17, rf_55_18, rf_55_19, rf_55_27, rf_55_28, rf_55_29, rf_55_30, rf_55_31, rf_55_32, rf_55_33, rf_55_34, rf_55_35, rf_55_36, rf_55_38, rf_55_44, rf_55_45, rf_55_46, rf_55_47, aL_2, aL_3, aL_5, aL_6, aL_7, aL_8, aL_9, aL_10, aL_14, aL_15, aL_16, aL_17, aL_19, aL_20, aL_21, aL_22, aL_24, aL_25, aL_26, aL_27, aL_28, aL_29, aL_30, aL_32, aL_34, aL_35, aL_36, aL_38, aL_39, aL_40, aL_41, aL_42, aL_43, aL_44, aL_45, aL_46, aL_48, aL_50, aL_52, aL_54, aL_56, aL_57, aL_58, aL_59, aL_60, aL_61, aL_62, aL_63, aL_64, aL_65, aL_66, aL_67, aL_68, aL_69, aL_70, aL_71, aL_72, aL_73, aL_74, aL_75, aL_76, aL_77, aL_78, aL_79, aL_80, aL_81, inb_nI, lit32, nI_clamp, nI_1, nI_add, if_pos, if_neg, b01_0, b01_1, Nat.add_sub_cancel, if_true, if_false, not_true_eq_false, not_false_eq_true, true_and, and_true, false_and, and_false, pk_sub, b01_n0, b01_n1, bI_t, bI_f, ofNat_nI, ck_d, Int32.lt_iff_toInt_lt, Int32.le_iff_toInt_le, i32_eq, nI_toInt, bI_b01, bI_0, decide_eq_true_eq, bI_tt, bI_ff, nI_prd, ↓reduceIte, iltT, iltF, ileT, ileF, ieqT, ieqF, dcT, dcF, or_true, or_false, true_or, false_or, t65]
    obtain ⟨e, he, e1⟩ := hmi
    have hp := pw6 e he
    have hpos : 0 < c ^ e := Nat.pow_pos (by omega)
    refine ⟨pI σ 68 k (nI 0), 0, fun _ _ => 0, ?_, hA1, ⟨by rw [gI_pI, if_pos ⟨rfl, rfl⟩], by omega, fun a ha => by omega⟩, fun a ha => by omega, fun d hd => absurd (hd.cnt hM) hT, fun a b _ hb => by omega⟩
    rw [unf, e1]
    unfold f_X9_findsWays_L43
    refine fx_for0 (fun i => (nI i, pI σ 68 k (nI 0))) rfl (n := 0) (fun i hi rec => by omega) (fun rec => ?_) (by unfold FU; omega)
    unfold f_X9_findsWays_L46 f_X9_findsWays_L267
    dsimp only
    rw [if_neg (by rw [Int32.le_iff_toInt_le, nI_toInt (by omega), nI_toInt (by omega)]; omega), rf_55_18 hr1, aL_65, inb_nI (by omega), ck_d (by omega), nI_clamp (by omega), t65, t0, if_pos (by rw [Int32.lt_iff_toInt_lt, nI_toInt (by omega), nI_toInt (by omega)]; omega)]
