/-! the reference's look: all of it -/
/-- what the reference tells of a chord -/
def RT' (σ : Sg) (o g tm pt ls fs : Nat → Nat) (z : Int) (k : Nat) (d : Nat → Nat) : Prop := (gI σ 55 21).toInt = lowK o tm pt ls fs z k d ∧ gI σ 55 22 = nI (finK o tm pt ls fs z k d) ∧ gI σ 55 23 = bI (barK o tm pt ls fs z k d) ∧ gI σ 55 24 = bI (twB (sndB tm ls fs k) d (fs (k + 1))) ∧ gI σ 55 25 = bI (wdB (sndB tm ls fs k) (fret o pt z d) (lowK o tm pt ls fs z k d + g 1) (fs (k + 1))) ∧ gI σ 55 26 = nI (prsC (sndB tm ls fs k) (fret o pt z d) (fs k) (fs (k + 1)))
theorem tw_cnt {tm ls fs d : Nat → Nat} {k m m' : Nat} (h : cntB (sndB tm ls fs k) m = cntB (sndB tm ls fs k) m') : twB (sndB tm ls fs k) d m = twB (sndB tm ls fs k) d m' :=
  f_cnt (S := sndB tm ls fs k) (f := twB (sndB tm ls fs k) d) (fun j hj => by rw [Bool.not_eq_true] at hj; rw [twB_suc, hj]; simp) h
theorem wd_cnt {tm ls fs : Nat → Nat} {F : Nat → Int} {L : Int} {k m m' : Nat} (h : cntB (sndB tm ls fs k) m = cntB (sndB tm ls fs k) m') : wdB (sndB tm ls fs k) F L m = wdB (sndB tm ls fs k) F L m' :=
  f_cnt (S := sndB tm ls fs k) (f := wdB (sndB tm ls fs k) F L) (fun j hj => by rw [Bool.not_eq_true] at hj; unfold wdB; rw [any_suc, hj]; simp) h
theorem any_cnt {tm ls fs d : Nat → Nat} {c k m m' : Nat} (h : cntB (sndB tm ls fs k) m = cntB (sndB tm ls fs k) m') : anyB (sndB tm ls fs k) d c m = anyB (sndB tm ls fs k) d c m' :=
  f_cnt (S := sndB tm ls fs k) (f := anyB (sndB tm ls fs k) d c) (fun j hj => by rw [Bool.not_eq_true] at hj; rw [anyB_suc, hj]; simp) h
theorem s_looksI {σ σ2 υ : Sg} {o tm pt ls fs d : Nat → Nat} {z : Int} {n nk k t i : Nat} {rec : Int32 × Sg → Option (Unit × Sg)} (hr : RefI σ) (b2 : Bn n tm pt ls) (hC : Ch n tm nk fs) (hk : k < nk) (h : RLy σ o tm pt ls fs z n nk k d) (hA2 : Ag SL (fun _ _ => False) σ σ2) (ht : t < cntB (sndB tm ls fs k) n) (hi : i < n) (hs : sndB tm ls fs k i = true) (hit : cntB (sndB tm ls fs k) i = t) (hU : Ag (fun p k => p = 55 ∧ (k = 24 ∨ k = 25)) (fun _ _ => False) σ2 υ) (u24 : gI υ 55 24 = bI (twB (sndB tm ls fs k) d i)) : ∃ υ', fx (f_X9_looks_L80 rec 55 (nI k) (nI t) (nI i)) FU (nI 0, υ) = rec (nI (t + 1), υ') ∧ Ag (fun p k => p = 55 ∧ (k = 24 ∨ k = 25)) (fun _ _ => False) σ2 υ' ∧ gI υ' 55 24 = bI (twB (sndB tm ls fs k) d (i + 1)) ∧ gI υ' 55 25 = gI υ 55 25 := by
  have hn := b2.1
  have hnk := hC.nk_le
  have hcl := cntB_le (sndB tm ls fs k) n
  have hSL : ∀ {τ : Sg}, Ag (fun p k => p = 55 ∧ (k = 24 ∨ k = 25)) (fun _ _ => False) σ2 τ → Ag SL (fun _ _ => False) σ τ := fun q => hA2.tr (q.mono (fun p k z => by unfold SL; omega) (fun _ _ z => z))
  have twS : ∀ b : Bool, (b = (twB (sndB tm ls fs k) d i || anyB (sndB tm ls fs k) d (d i) i)) → b = twB (sndB tm ls fs k) d (i + 1) := fun b hb => by rw [twB_suc, hs, Bool.true_and]; exact hb
  refine fx_inv2 (I := fun q s => s.1 = nI q ∧ Ag (fun p k => p = 55 ∧ (k = 24 ∨ k = 25)) (fun _ _ => False) σ2 s.2 ∧ gI s.2 55 25 = gI υ 55 25 ∧ ∃ m, m ≤ n ∧ cntB (sndB tm ls fs k) m = q ∧ gI s.2 55 24 = bI (twB (sndB tm ls fs k) d i || anyB (sndB tm ls fs k) d (d i) m)) (Q := fun e => ∃ υ', e = rec (nI (t + 1), υ') ∧ Ag (fun p k => p = 55 ∧ (k = 24 ∨ k = 25)) (fun _ _ => False) σ2 υ' ∧ gI υ' 55 24 = bI (twB (sndB tm ls fs k) d (i + 1)) ∧ gI υ' 55 25 = gI υ 55 25) (n := t) ?_ ?_ t 0 FU _ (by omega) (by unfold FU; omega) ⟨rfl, hU, rfl, 0, by omega, rfl, by rw [u24]; show _ = bI (_ || false); rw [Bool.or_false]⟩
  · rintro q ⟨x, ρ⟩ hq ⟨rfl, hV, v25, m', hm', hmq, v24⟩ rec2
    dsimp only at hV v25 v24
    have hT3 := hSL hV
    have hr3 : RefI ρ := hT3.ref hr
    have hL3 := h.ag hT3
    obtain ⟨j, hj, hsj, hjt⟩ := nth_ex (show q < cntB (sndB tm ls fs k) n by omega)
    have f64 := hL3.2.2.1.2.2.2 k hk j hj hsj
    rw [hjt] at f64
    obtain ⟨c1, c2⟩ := hL3.2.2.2.2.2 j hj hsj
    have f66 := (hL3.2.2.2.2.2 i hi hs).1
    have f66b := (hL3.2.2.2.2.2 i hi hs).2
    rw [any_cnt (m' := j) (by omega)] at v24
    have asuc : anyB (sndB tm ls fs k) d (d i) (j + 1) = (anyB (sndB tm ls fs k) d (d i) j || decide (d j = d i)) := by rw [anyB_suc, hsj, Bool.true_and]
    left
    have step : ∀ b : Bool, b = (twB (sndB tm ls fs k) d i || anyB (sndB tm ls fs k) d (d i) (j + 1)) → f_X9_looks_L80 rec 55 (nI k) (nI t) (nI i) rec2 (nI q, ρ) = rec2 (nI (q + 1), pI ρ 55 24 (bI b)) → ∃ s', (s'.1 = nI (q + 1) ∧ Ag (fun p k => p = 55 ∧ (k = 24 ∨ k = 25)) (fun _ _ => False) σ2 s'.2 ∧ gI s'.2 55 25 = gI υ 55 25 ∧ ∃ m, m ≤ n ∧ cntB (sndB tm ls fs k) m = q + 1 ∧ gI s'.2 55 24 = bI (twB (sndB tm ls fs k) d i || anyB (sndB tm ls fs k) d (d i) m)) ∧ f_X9_looks_L80 rec 55 (nI k) (nI t) (nI i) rec2 (nI q, ρ) = rec2 s' := fun b hb he =>
      ⟨(nI (q + 1), pI ρ 55 24 (bI b)), ⟨rfl, hV.pI (by omega), v25, j + 1, by omega, by rw [cntB_t hsj, hjt], by rw [hb]; rfl⟩, he⟩
    rw [asuc, ← Bool.or_assoc] at step
    generalize hbb : (twB (sndB tm ls fs k) d i || anyB (sndB tm ls fs k) d (d i) j) = b0 at v24 step
    cases b0 with
    | true =>
      refine step true (by simp) ?_
      unfold f_X9_looks_L80 f_X9_looks_L120 f_X9_looks_L125
      dsimp only
      simp (disch := first | assumption | omega) only [↓lB_eq, ↓bd_m, ck_tt, gI_pI, gI_pL, gI_pR, gL_pI, gL_pL, gL_pR, gR_pI, gR_pL, rf_0_0, rf_0_1, rf_0_2, rf_0_3, rf_0_4, rf_0_5, rf_0_6, rf_0_7, rf_0_8, rf_0_9, rf_0_10, rf_1_1, rf_1_2, rf_4_0, rf_4_1, rf_4_2, rf_4_3, rf_4_4, rf_4_5, rf_11_0, rf_11_1, rf_12_0, rf_12_1, rf_12_2, rf_12_6, rf_12_7, rf_12_8, rf_13_0, rf_13_1, rf_13_2, rf_13_3, rf_18_0, rf_18_1, rf_18_2, rf_18_3, rf_23_0, rf_23_1, rf_23_2, rf_23_3, rf_31_0, rf_33_0, rf_33_2, rf_33_3, rf_33_4, rf_37_0, rf_39_0, rf_39_1, rf_39_2, rf_39_3, rf_40_0, rf_40_1, rf_40_2, rf_40_3, rf_47_3, rf_49_3, rf_51_3, rf_53_3, rf_55_1, rf_55_7, rf_55_8, rf_55_9, rf_55_11, rf_55_13, rf_55_14, rf_55_15, rf_55_17, rf_55_18, rf_55_19, rf_55_27, rf_55_28, rf_55_29, rf_55_30, rf_55_31, rf_55_32, rf_55_33, rf_55_34, rf_55_35, rf_55_36, rf_55_38, rf_55_44, rf_55_45, rf_55_46, rf_55_47, aL_2, aL_3, aL_5, aL_6, aL_7, aL_8, aL_9, aL_10, aL_14, aL_15, aL_16, aL_17, aL_19, aL_20, aL_21, aL_22, aL_24, aL_25, aL_26, aL_27, aL_28, aL_29, aL_30, aL_32, aL_34, aL_35, aL_36, aL_38, aL_39, aL_40, aL_41, aL_42, aL_43, aL_44, aL_45, aL_46, aL_48, aL_50, aL_52, aL_54, aL_56, aL_57, aL_58, aL_59, aL_60, aL_61, aL_62, aL_63, aL_64, aL_65, aL_66, aL_67, aL_68, aL_69, aL_70, aL_71, aL_72, aL_73, aL_74, aL_75, aL_76, aL_77, aL_78, aL_79, aL_80, aL_81, inb_nI, lit32, nI_clamp, nI_1, nI_add, if_pos, if_neg, b01_0, b01_1, Nat.add_sub_cancel, if_true, if_false, not_true_eq_false, not_false_eq_true, true_and, and_true, false_and, and_false, pk_sub, b01_n0, b01_n1, bI_t, bI_f, ofNat_nI, ck_d, Int32.lt_iff_toInt_lt, Int32.le_iff_toInt_le, i32_eq, nI_toInt, bI_b01, bI_0, decide_eq_true_eq, bI_tt, bI_ff, nI_prd, ↓reduceIte, iltT, iltF, ileT, ileF, ieqT, ieqF, dcT, dcF, or_true, or_false, true_or, false_or, v24]
    | false =>
      by_cases hdd : d j = d i
      · refine step true (by simp [hdd]) ?_
        unfold f_X9_looks_L80 f_X9_looks_L120 f_X9_looks_L125
        dsimp only
        simp (disch := first | assumption | omega) only [↓lB_eq, ↓bd_m, ck_tt, gI_pI, gI_pL, gI_pR, gL_pI, gL_pL, gL_pR, gR_pI, gR_pL, rf_0_0, rf_0_1, rf_0_2, rf_0_3, rf_0_4, rf_0_5, rf_0_6, rf_0_7, rf_0_8, rf_0_9, rf_0_10, rf_1_1, rf_1_2, rf_4_0, rf_4_1, rf_4_2, rf_4_3, rf_4_4, rf_4_5, rf_11_0, rf_11_1, rf_12_0, rf_12_1, rf_12_2, rf_12_6, rf_12_7, rf_12_8, rf_13_0, rf_13_1, rf_13_2, rf_13_3, rf_18_0, rf_18_1, rf_18_2, rf_18_3, rf_23_0, rf_23_1, rf_23_2, rf_23_3, rf_31_0, rf_33_0, rf_33_2, rf_33_3, rf_33_4, rf_37_0, rf_39_0, rf_39_1, rf_39_2, rf_39_3, rf_40_0, rf_40_1, rf_40_2, rf_40_3, rf_47_3, rf_49_3, rf_51_3, rf_53_3, rf_55_1, rf_55_7, rf_55_8, rf_55_9, rf_55_11, rf_55_13, rf_55_14, rf_55_15, rf_55_17, rf_55_18, rf_55_19, rf_55_27, rf_55_28, rf_55_29, rf_55_30, rf_55_31, rf_55_32, rf_55_33, rf_55_34, rf_55_35, rf_55_36, rf_55_38, rf_55_44, rf_55_45, rf_55_46, rf_55_47, aL_2, aL_3, aL_5, aL_6, aL_7, aL_8, aL_9, aL_10, aL_14, aL_15, aL_16, aL_17, aL_19, aL_20, aL_21, aL_22, aL_24, aL_25, aL_26, aL_27, aL_28, aL_29, aL_30, aL_32, aL_34, aL_35, aL_36, aL_38, aL_39, aL_40, aL_41, aL_42, aL_43, aL_44, aL_45, aL_46, aL_48, aL_50, aL_52, aL_54, aL_56, aL_57, aL_58, aL_59, aL_60, aL_61, aL_62, aL_63, aL_64, aL_65, aL_66, aL_67, aL_68, aL_69, aL_70, aL_71, aL_72, aL_73, aL_74, aL_75, aL_76, aL_77, aL_78, aL_79, aL_80, aL_81, inb_nI, lit32, nI_clamp, nI_1, nI_add, if_pos, if_neg, b01_0, b01_1, Nat.add_sub_cancel, if_true, if_false, not_true_eq_false, not_false_eq_true, true_and, and_true, false_and, and_false, pk_sub, b01_n0, b01_n1, bI_t, bI_f, ofNat_nI, ck_d, Int32.lt_iff_toInt_lt, Int32.le_iff_toInt_le, i32_eq, nI_toInt, bI_b01, bI_0, decide_eq_true_eq, bI_tt, bI_ff, nI_prd, ↓reduceIte, iltT, iltF, ileT, ileF, ieqT, ieqF, dcT, dcF, or_true, or_false, true_or, false_or, v24, nI_mul, f64, c1, f66]
      · refine step false (by simp [hdd]) ?_
        unfold f_X9_looks_L80 f_X9_looks_L120 f_X9_looks_L125
        dsimp only
        simp (disch := first | assumption | omega) only [↓lB_eq, ↓bd_m, ck_tt, gI_pI, gI_pL, gI_pR, gL_pI, gL_pL, gL_pR, gR_pI, gR_pL, rf_0_0, rf_0_1, rf_0_2, rf_0_3, rf_0_4, rf_0_5, rf_0_6, rf_0_7, rf_0_8, rf_0_9, rf_0_10, rf_1_1, rf_1_2, rf_4_0, rf_4_1, rf_4_2, rf_4_3, rf_4_4, rf_4_5, rf_11_0, rf_11_1, rf_12_0, rf_12_1, rf_12_2, rf_12_6, rf_12_7, rf_12_8, rf_13_0, rf_13_1, rf_13_2, rf_13_3, rf_18_0, rf_18_1, rf_18_2, rf_18_3, rf_23_0, rf_23_1, rf_23_2, rf_23_3, rf_31_0, rf_33_0, rf_33_2, rf_33_3, rf_33_4, rf_37_0, rf_39_0, rf_39_1, rf_39_2, rf_39_3, rf_40_0, rf_40_1, rf_40_2, rf_40_3, rf_47_3, rf_49_3, rf_51_3, rf_53_3, rf_55_1, rf_55_7, rf_55_8, rf_55_9, rf_55_11, rf_55_13, rf_55_14, rf_55_15, rf_55_17, rf_55_18, rf_55_19, rf_55_27, rf_55_28, rf_55_29, rf_55_30, rf_55_31, rf_55_32, rf_55_33, rf_55_34, rf_55_35, rf_55_36, rf_55_38, rf_55_44, rf_55_45, rf_55_46, rf_55_47, aL_2, aL_3, aL_5, aL_6, aL_7, aL_8, aL_9, aL_10, aL_14, aL_15, aL_16, aL_17, aL_19, aL_20, aL_21, aL_22, aL_24, aL_25, aL_26, aL_27, aL_28, aL_29, aL_30, aL_32, aL_34, aL_35, aL_36, aL_38, aL_39, aL_40, aL_41, aL_42, aL_43, aL_44, aL_45, aL_46, aL_48, aL_50, aL_52, aL_54, aL_56, aL_57, aL_58, aL_59, aL_60, aL_61, aL_62, aL_63, aL_64, aL_65, aL_66, aL_67, aL_68, aL_69, aL_70, aL_71, aL_72, aL_73, aL_74, aL_75, aL_76, aL_77, aL_78, aL_79, aL_80, aL_81, inb_nI, lit32, nI_clamp, nI_1, nI_add, if_pos, if_neg, b01_0, b01_1, Nat.add_sub_cancel, if_true, if_false, not_true_eq_false, not_false_eq_true, true_and, and_true, false_and, and_false, pk_sub, b01_n0, b01_n1, bI_t, bI_f, ofNat_nI, ck_d, Int32.lt_iff_toInt_lt, Int32.le_iff_toInt_le, i32_eq, nI_toInt, bI_b01, bI_0, decide_eq_true_eq, bI_tt, bI_ff, nI_prd, ↓reduceIte, iltT, iltF, ileT, ileF, ieqT, ieqF, dcT, dcF, or_true, or_false, true_or, false_or, v24, nI_mul, f64, c1, f66]
  · rintro ⟨x, ρ⟩ ⟨rfl, hV, v25, m', hm', hmq, v24⟩ rec2
    dsimp only at hV v25 v24
    rw [any_cnt (m' := i) (by omega)] at v24
    refine ⟨rec (nI (t + 1), ρ), ⟨ρ, rfl, hV, by rw [v24, ← twS _ rfl], v25⟩, ?_⟩
    unfold f_X9_looks_L80
    dsimp only
    simp (disch := first | assumption | omega) only [↓lB_eq, ↓bd_m, ck_tt, gI_pI, gI_pL, gI_pR, gL_pI, gL_pL, gL_pR, gR_pI, gR_pL, rf_0_0, rf_0_1, rf_0_2, rf_0_3, rf_0_4, rf_0_5, rf_0_6, rf_0_7, rf_0_8, rf_0_9, rf_0_10, rf_1_1, rf_1_2, rf_4_0, rf_4_1, rf_4_2, rf_4_3, rf_4_4, rf_4_5, rf_11_0, rf_11_1, rf_12_0, rf_12_1, rf_12_2, rf_12_6, rf_12_7, rf_12_8, rf_13_0, rf_13_1, rf_13_2, rf_13_3, rf_18_0, rf_18_1, rf_18_2, rf_18_3, rf_23_0, rf_23_1, rf_23_2, rf_23_3, rf_31_0, rf_33_0, rf_33_2, rf_33_3, rf_33_4, rf_37_0, rf_39_0, rf_39_1, rf_39_2, rf_39_3, rf_40_0, rf_40_1, rf_40_2, rf_40_3, rf_47_3, rf_49_3, rf_51_3, rf_53_3, rf_55_1, rf_55_7, rf_55_8, rf_55_9, rf_55_11, rf_55_13, rf_55_14, rf_55_15, rf_55_17, rf_55_18, rf_55_19, rf_55_27, rf_55_28, rf_55_29, rf_55_30, rf_55_31, rf_55_32, rf_55_33, rf_55_34, rf_55_35, rf_55_36, rf_55_38, rf_55_44, rf_55_45, rf_55_46, rf_55_47, aL_2, aL_3, aL_5, aL_6, aL_7, aL_8, aL_9, aL_10, aL_14, aL_15, aL_16, aL_17, aL_19, aL_20, aL_21, aL_22, aL_24, aL_25, aL_26, aL_27, aL_28, aL_29, aL_30, aL_32, aL_34, aL_35, aL_36, aL_38, aL_39, aL_40, aL_41, aL_42, aL_43, aL_44, aL_45, aL_46, aL_48, aL_50, aL_52, aL_54, aL_56, aL_57, aL_58, aL_59, aL_60, aL_61, aL_62, aL_63, aL_64, aL_65, aL_66, aL_67, aL_68, aL_69, aL_70, aL_71, aL_72, aL_73, aL_74, aL_75, aL_76, aL_77, aL_78, aL_79, aL_80, aL_81, inb_nI, lit32, nI_clamp, nI_1, nI_add, if_pos, if_neg, b01_0, b01_1, Nat.add_sub_cancel, if_true, if_false, not_true_eq_false, not_false_eq_true, true_and, and_true, false_and, and_false, pk_sub, b01_n0, b01_n1, bI_t, bI_f, ofNat_nI, ck_d, Int32.lt_iff_toInt_lt, Int32.le_iff_toInt_le, i32_eq, nI_toInt, bI_b01, bI_0, decide_eq_true_eq, bI_tt, bI_ff, nI_prd, ↓reduceIte, iltT, iltF, ileT, ileF, ieqT, ieqF, dcT, dcF, or_true, or_false, true_or, false_or]
theorem s_looksL {σ σ2 : Sg} {o g tm pt ls fs d : Nat → Nat} {z : Int} {n nk k : Nat} (hr : RefI σ) (b2 : Bn n tm pt ls) (hC : Ch n tm nk fs) (hk : k < nk) (h : RLy σ o tm pt ls fs z n nk k d) (hg : gI σ 55 3 = nI (g 1)) (hg1 : g 1 ≤ 6) (hA2 : Ag SL (fun _ _ => False) σ σ2) (k21 : (gI σ2 55 21).toInt = lowK o tm pt ls fs z k d) (hbd : lowK o tm pt ls fs z k d ≤ 82) (l0 : 0 ≤ lowK o tm pt ls fs z k d) : ∃ σ', fx (f_X9_looks_L22 55 (nI k)) FU (nI 0, pI (pI σ2 55 24 (nI 0)) 55 25 (nI 0)) = some ((), σ') ∧ Ag (fun p k => p = 55 ∧ (k = 24 ∨ k = 25)) (fun _ _ => False) σ2 σ' ∧ gI σ' 55 24 = bI (twB (sndB tm ls fs k) d (fs (k + 1))) ∧ gI σ' 55 25 = bI (wdB (sndB tm ls fs k) (fret o pt z d) (lowK o tm pt ls fs z k d + g 1) (fs (k + 1))) := by
  have hn := b2.1
  have hnk := hC.nk_le
  have hM := hC.le (k := k + 1) (by omega)
  have hcl := cntB_le (sndB tm ls fs k) n
  have hp := cnt_past (tm := tm) (ls := ls) (fs := fs) (k := k) hM
  have hSL : ∀ {τ : Sg}, Ag (fun p k => p = 55 ∧ (k = 24 ∨ k = 25)) (fun _ _ => False) σ2 τ → Ag SL (fun _ _ => False) σ τ := fun q => hA2.tr (q.mono (fun p k z => by unfold SL; omega) (fun _ _ z => z))
  refine fx_inv2 (I := fun t s => s.1 = nI t ∧ Ag (fun p k => p = 55 ∧ (k = 24 ∨ k = 25)) (fun _ _ => False) σ2 s.2 ∧ ∃ m, m ≤ n ∧ cntB (sndB tm ls fs k) m = t ∧ gI s.2 55 24 = bI (twB (sndB tm ls fs k) d m) ∧ gI s.2 55 25 = bI (wdB (sndB tm ls fs k) (fret o pt z d) (lowK o tm pt ls fs z k d + g 1) m)) (Q := fun e => ∃ σ', e = some ((), σ') ∧ Ag (fun p k => p = 55 ∧ (k = 24 ∨ k = 25)) (fun _ _ => False) σ2 σ' ∧ gI σ' 55 24 = bI (twB (sndB tm ls fs k) d (fs (k + 1))) ∧ gI σ' 55 25 = bI (wdB (sndB tm ls fs k) (fret o pt z d) (lowK o tm pt ls fs z k d + g 1) (fs (k + 1)))) (n := cntB (sndB tm ls fs k) n) ?_ ?_ (cntB (sndB tm ls fs k) n) 0 FU _ (by omega) (by unfold FU; omega) ⟨rfl, (Ag.rf.pI (by omega)).pI (by omega), 0, by omega, rfl, rfl, rfl⟩
  · rintro t ⟨x, τ⟩ ht ⟨rfl, hA, m, hm, hmt, g24, g25⟩ rec
    dsimp only at hA g24 g25
    have hT := hSL hA
    have hr2 : RefI τ := hT.ref hr
    have hL := h.ag hT
    obtain ⟨i, hi, hs, hit⟩ := nth_ex ht
    have e64 := hL.2.2.1.2.2.2 k hk i hi hs
    rw [hit] at e64
    have e65 := hL.2.2.1.2.2.1 k hk
    obtain ⟨d1, d2⟩ := hL.2.2.2.2.2 i hi hs
    obtain ⟨fx0, ef, hF⟩ := s_X9_fretOf hr2 b2 hL hi hs
    have t21 : (gI τ 55 21).toInt = lowK o tm pt ls fs z k d := by rw [hA.2.1 55 21 (by omega)]; exact k21
    have t3 : gI τ 55 3 = nI (g 1) := by rw [hT.2.1 55 3 (by unfold SL; omega)]; exact hg
    have hsum : (gI τ 55 21 + nI (g 1)).toInt = lowK o tm pt ls fs z k d + g 1 := by
      rw [Int32.toInt_add, t21, nI_toInt (by omega)]
      exact Int.bmod_eq_of_le (by omega) (by omega)
    rw [tw_cnt (m' := i) (by omega)] at g24
    rw [wd_cnt (m' := i) (by omega)] at g25
    have wsuc : wdB (sndB tm ls fs k) (fret o pt z d) (lowK o tm pt ls fs z k d + g 1) (i + 1) = (wdB (sndB tm ls fs k) (fret o pt z d) (lowK o tm pt ls fs z k d + g 1) i || decide (lowK o tm pt ls fs z k d + g 1 < fret o pt z d i)) := by
      have := any_suc (fun i => sndB tm ls fs k i && decide (lowK o tm pt ls fs z k d + g 1 < fret o pt z d i)) i
      rw [hs, Bool.true_and] at this
      exact this
    have inner := fun (υ : Sg) (hU : Ag (fun p k => p = 55 ∧ (k = 24 ∨ k = 25)) (fun _ _ => False) σ2 υ) (u24 : gI υ 55 24 = bI (twB (sndB tm ls fs k) d i)) => s_looksI (rec := rec) hr b2 hC hk h hA2 ht hi hs hit hU u24
    left
    have fin : ∀ b : Bool, b = wdB (sndB tm ls fs k) (fret o pt z d) (lowK o tm pt ls fs z k d + g 1) (i + 1) → f_X9_looks_L22 55 (nI k) rec (nI t, τ) = fx (f_X9_looks_L80 rec 55 (nI k) (nI t) (nI i)) FU (nI 0, pI τ 55 25 (bI b)) → ∃ s', (s'.1 = nI (t + 1) ∧ Ag (fun p k => p = 55 ∧ (k = 24 ∨ k = 25)) (fun _ _ => False) σ2 s'.2 ∧ ∃ m, m ≤ n ∧ cntB (sndB tm ls fs k) m = t + 1 ∧ gI s'.2 55 24 = bI (twB (sndB tm ls fs k) d m) ∧ gI s'.2 55 25 = bI (wdB (sndB tm ls fs k) (fret o pt z d) (lowK o tm pt ls fs z k d + g 1) m)) ∧ f_X9_looks_L22 55 (nI k) rec (nI t, τ) = rec s' := fun b hb he => by
      obtain ⟨υ', r1, r2, r3, r4⟩ := inner (pI τ 55 25 (bI b)) (hA.pI (by omega)) g24
      exact ⟨(nI (t + 1), υ'), ⟨rfl, r2, i + 1, by omega, by rw [cntB_t hs, hit], r3, by rw [r4, ← hb]; rfl⟩, by rw [he]; exact r1⟩
    rw [wsuc] at fin
    generalize hbb : wdB (sndB tm ls fs k) (fret o pt z d) (lowK o tm pt ls fs z k d + g 1) i = b0 at g25 fin
    cases b0 with
    | true =>
      refine fin true (by simp) ?_
      unfold f_X9_looks_L22 f_X9_looks_L69 f_X9_looks_L74
      dsimp only
      simp (disch := first | assumption | omega) only [↓lB_eq, ↓bd_m, ck_tt, gI_pI, gI_pL, gI_pR, gL_pI, gL_pL, gL_pR, gR_pI, gR_pL, rf_0_0, rf_0_1, rf_0_2, rf_0_3, rf_0_4, rf_0_5, rf_0_6, rf_0_7, rf_0_8, rf_0_9, rf_0_10, rf_1_1, rf_1_2, rf_4_0, rf_4_1, rf_4_2, rf_4_3, rf_4_4, rf_4_5, rf_11_0, rf_11_1, rf_12_0, rf_12_1, rf_12_2, rf_12_6, rf_12_7, rf_12_8, rf_13_0, rf_13_1, rf_13_2, rf_13_3, rf_18_0, rf_18_1, rf_18_2, rf_18_3, rf_23_0, rf_23_1, rf_23_2, rf_23_3, rf_31_0, rf_33_0, rf_33_2, rf_33_3, rf_33_4, rf_37_0, rf_39_0, rf_39_1, rf_39_2, rf_39_3, rf_40_0, rf_40_1, rf_40_2, rf_40_3, rf_47_3, rf_49_3, rf_51_3, rf_53_3, rf_55_1, rf_55_7, rf_55_8, rf_55_9, rf_55_11, rf_55_13, rf_55_14, rf_55_15, rf_55_17, rf_55_18, rf_55_19, rf_55_27, rf_55_28, rf_55_29, rf_55_30, rf_55_31, rf_55_32, rf_55_33, rf_55_34, rf_55_35, rf_55_36, rf_55_38, rf_55_44, rf_55_45, rf_55_46, rf_55_47, aL_2, aL_3, aL_5, aL_6, aL_7, aL_8, aL_9, aL_10, aL_14, aL_15, aL_16, aL_17, aL_19, aL_20, aL_21, aL_22, aL_24, aL_25, aL_26, aL_27, aL_28, aL_29, aL_30, aL_32, aL_34, aL_35, aL_36, aL_38, aL_39, aL_40, aL_41, aL_42, aL_43, aL_44, aL_45, aL_46, aL_48, aL_50, aL_52, aL_54, aL_56, aL_57, aL_58, aL_59, aL_60, aL_61, aL_62, aL_63, aL_64, aL_65, aL_66, aL_67, aL_68, aL_69, aL_70, aL_71, aL_72, aL_73, aL_74, aL_75, aL_76, aL_77, aL_78, aL_79, aL_80, aL_81, inb_nI, lit32, nI_clamp, nI_1, nI_add, if_pos, if_neg, b01_0, b01_1, Nat.add_sub_cancel, if_true, if_false, not_true_eq_false, not_false_eq_true, true_and, and_true, false_and, and_false, pk_sub, b01_n0, b01_n1, bI_t, bI_f, ofNat_nI, ck_d, Int32.lt_iff_toInt_lt, Int32.le_iff_toInt_le, i32_eq, nI_toInt, bI_b01, bI_0, decide_eq_true_eq, bI_tt, bI_ff, nI_prd, ↓reduceIte, iltT, iltF, ileT, ileF, ieqT, ieqF, dcT, dcF, or_true, or_false, true_or, false_or, e65, nI_mul, e64, g25]
    | false =>
      by_cases hw : lowK o tm pt ls fs z k d + g 1 < fret o pt z d i
      · refine fin true (by simp [hw]) ?_
        unfold f_X9_looks_L22 f_X9_looks_L69 f_X9_looks_L74
        dsimp only
        simp (disch := first | assumption | omega) only [↓lB_eq, ↓bd_m, ck_tt, gI_pI, gI_pL, gI_pR, gL_pI, gL_pL, gL_pR, gR_pI, gR_pL, rf_0_0, rf_0_1, rf_0_2, rf_0_3, rf_0_4, rf_0_5, rf_0_6, rf_0_7, rf_0_8, rf_0_9, rf_0_10, rf_1_1, rf_1_2, rf_4_0, rf_4_1, rf_4_2, rf_4_3, rf_4_4, rf_4_5, rf_11_0, rf_11_1, rf_12_0, rf_12_1, rf_12_2, rf_12_6, rf_12_7, rf_12_8, rf_13_0, rf_13_1, rf_13_2, rf_13_3, rf_18_0, rf_18_1, rf_18_2, rf_18_3, rf_23_0, rf_23_1, rf_23_2, rf_23_3, rf_31_0, rf_33_0, rf_33_2, rf_33_3, rf_33_4, rf_37_0, rf_39_0, rf_39_1, rf_39_2, rf_39_3, rf_40_0, rf_40_1, rf_40_2, rf_40_3, rf_47_3, rf_49_3, rf_51_3, rf_53_3, rf_55_1, rf_55_7, rf_55_8, rf_55_9, rf_55_11, rf_55_13, rf_55_14, rf_55_15, rf_55_17, rf_55_18, rf_55_19, rf_55_27, rf_55_28, rf_55_29, rf_55_30, rf_55_31, rf_55_32, rf_55_33, rf_55_34, rf_55_35, rf_55_36, rf_55_38, rf_55_44, rf_55_45, rf_55_46, rf_55_47, aL_2, aL_3, aL_5, aL_6, aL_7, aL_8, aL_9, aL_10, aL_14, aL_15, aL_16, aL_17, aL_19, aL_20, aL_21, aL_22, aL_24, aL_25, aL_26, aL_27, aL_28, aL_29, aL_30, aL_32, aL_34, aL_35, aL_36, aL_38, aL_39, aL_40, aL_41, aL_42, aL_43, aL_44, aL_45, aL_46, aL_48, aL_50, aL_52, aL_54, aL_56, aL_57, aL_58, aL_59, aL_60, aL_61, aL_62, aL_63, aL_64, aL_65, aL_66, aL_67, aL_68, aL_69, aL_70, aL_71, aL_72, aL_73, aL_74, aL_75, aL_76, aL_77, aL_78, aL_79, aL_80, aL_81, inb_nI, lit32, nI_clamp, nI_1, nI_add, if_pos, if_neg, b01_0, b01_1, Nat.add_sub_cancel, if_true, if_false, not_true_eq_false, not_false_eq_true, true_and, and_true, false_and, and_false, pk_sub, b01_n0, b01_n1, bI_t, bI_f, ofNat_nI, ck_d, Int32.lt_iff_toInt_lt, Int32.le_iff_toInt_le, i32_eq, nI_toInt, bI_b01, bI_0, decide_eq_true_eq, bI_tt, bI_ff, nI_prd, ↓reduceIte, iltT, iltF, ileT, ileF, ieqT, ieqF, dcT, dcF, or_true, or_false, true_or, false_or, e65, nI_mul, e64, g25, ef, t3, hsum]
      · refine fin false (by simp [hw]) ?_
        unfold f_X9_looks_L22 f_X9_looks_L69 f_X9_looks_L74
        dsimp only
        simp (disch := first | assumption | omega) only [↓lB_eq, ↓bd_m, ck_tt, gI_pI, gI_pL, gI_pR, gL_pI, gL_pL, gL_pR, gR_pI, gR_pL, rf_0_0, rf_0_1, rf_0_2, rf_0_3, rf_0_4, rf_0_5, rf_0_6, rf_0_7, rf_0_8, rf_0_9, rf_0_10, rf_1_1, rf_1_2, rf_4_0, rf_4_1, rf_4_2, rf_4_3, rf_4_4, rf_4_5, rf_11_0, rf_11_1, rf_12_0, rf_12_1, rf_12_2, rf_12_6, rf_12_7, rf_12_8, rf_13_0, rf_13_1, rf_13_2, rf_13_3, rf_18_0, rf_18_1, rf_18_2, rf_18_3, rf_23_0, rf_23_1, rf_23_2, rf_23_3, rf_31_0, rf_33_0, rf_33_2, rf_33_3, rf_33_4, rf_37_0, rf_39_0, rf_39_1, rf_39_2, rf_39_3, rf_40_0, rf_40_1, rf_40_2, rf_40_3, rf_47_3, rf_49_3, rf_51_3, rf_53_3, rf_55_1, rf_55_7, rf_55_8, rf_55_9, rf_55_11, rf_55_13, rf_55_14, rf_55_15, rf_55_17, rf_55_18, rf_55_19, rf_55_27, rf_55_28, rf_55_29, rf_55_30, rf_55_31, rf_55_32, rf_55_33, rf_55_34, rf_55_35, rf_55_36, rf_55_38, rf_55_44, rf_55_45, rf_55_46, rf_55_47, aL_2, aL_3, aL_5, aL_6, aL_7, aL_8, aL_9, aL_10, aL_14, aL_15, aL_16, aL_17, aL_19, aL_20, aL_21, aL_22, aL_24, aL_25, aL_26, aL_27, aL_28, aL_29, aL_30, aL_32, aL_34, aL_35, aL_36, aL_38, aL_39, aL_40, aL_41, aL_42, aL_43, aL_44, aL_45, aL_46, aL_48, aL_50, aL_52, aL_54, aL_56, aL_57, aL_58, aL_59, aL_60, aL_61, aL_62, aL_63, aL_64, aL_65, aL_66, aL_67, aL_68, aL_69, aL_70, aL_71, aL_72, aL_73, aL_74, aL_75, aL_76, aL_77, aL_78, aL_79, aL_80, aL_81, inb_nI, lit32, nI_clamp, nI_1, nI_add, if_pos, if_neg, b01_0, b01_1, Nat.add_sub_cancel, if_true, if_false, not_true_eq_false, not_false_eq_true, true_and, and_true, false_and, and_false, pk_sub, b01_n0, b01_n1, bI_t, bI_f, ofNat_nI, ck_d, Int32.lt_iff_toInt_lt, Int32.le_iff_toInt_le, i32_eq, nI_toInt, bI_b01, bI_0, decide_eq_true_eq, bI_tt, bI_ff, nI_prd, ↓reduceIte, iltT, iltF, ileT, ileF, ieqT, ieqF, dcT, dcF, or_true, or_false, true_or, false_or, e65, nI_mul, e64, g25, ef, t3, hsum]
  · rintro ⟨x, τ⟩ ⟨rfl, hA, m, hm, hmt, g24, g25⟩ rec
    dsimp only at hA g24 g25
    have hT := hSL hA
    have hr2 : RefI τ := hT.ref hr
    have e65 := (h.ag hT).2.2.1.2.2.1 k hk
    rw [tw_cnt (m' := fs (k + 1)) (by omega)] at g24
    rw [wd_cnt (m' := fs (k + 1)) (by omega)] at g25
    refine ⟨some ((), τ), ⟨τ, rfl, hA, g24, g25⟩, ?_⟩
    unfold f_X9_looks_L22
    dsimp only
    simp (disch := first | assumption | omega) only [↓lB_eq, ↓bd_m, ck_tt, gI_pI, gI_pL, gI_pR, gL_pI, gL_pL, gL_pR, gR_pI, gR_pL, rf_0_0, rf_0_1, rf_0_2, rf_0_3, rf_0_4, rf_0_5, rf_0_6, rf_0_7, rf_0_8, rf_0_9, rf_0_10, rf_1_1, rf_1_2, rf_4_0, rf_4_1, rf_4_2, rf_4_3, rf_4_4, rf_4_5, rf_11_0, rf_11_1, rf_12_0, rf_12_1, rf_12_2, rf_12_6, rf_12_7, rf_12_8, rf_13_0, rf_13_1, rf_13_2, rf_13_3, rf_18_0, rf_18_1, rf_18_2, rf_18_3, rf_23_0, rf_23_1, rf_23_2, rf_23_3, rf_31_0, rf_33_0, rf_33_2, rf_33_3, rf_33_4, rf_37_0, rf_39_0, rf_39_1, rf_39_2, rf_39_3, rf_40_0, rf_40_1, rf_40_2, rf_40_3, rf_47_3, rf_49_3, rf_51_3, rf_53_3, rf_55_1, rf_55_7, rf_55_8, rf_55_9, rf_55_11, rf_55_13, rf_55_14, rf_55_15, rf_55_17, rf_55_18, rf_55_19, rf_55_27, rf_55_28, rf_55_29, rf_55_30, rf_55_31, rf_55_32, rf_55_33, rf_55_34, rf_55_35, rf_55_36, rf_55_38, rf_55_44, rf_55_45, rf_55_46, rf_55_47, aL_2, aL_3, aL_5, aL_6, aL_7, aL_8, aL_9, aL_10, aL_14, aL_15, aL_16, aL_17, aL_19, aL_20, aL_21, aL_22, aL_24, aL_25, aL_26, aL_27, aL_28, aL_29, aL_30, aL_32, aL_34, aL_35, aL_36, aL_38, aL_39, aL_40, aL_41, aL_42, aL_43, aL_44, aL_45, aL_46, aL_48, aL_50, aL_52, aL_54, aL_56, aL_57, aL_58, aL_59, aL_60, aL_61, aL_62, aL_63, aL_64, aL_65, aL_66, aL_67, aL_68, aL_69, aL_70, aL_71, aL_72, aL_73, aL_74, aL_75, aL_76, aL_77, aL_78, aL_79, aL_80, aL_81, inb_nI, lit32, nI_clamp, nI_1, nI_add, if_pos, if_neg, b01_0, b01_1, Nat.add_sub_cancel, if_true, if_false, not_true_eq_false, not_false_eq_true, true_and, and_true, false_and, and_false, pk_sub, b01_n0, b01_n1, bI_t, bI_f, ofNat_nI, ck_d, Int32.lt_iff_toInt_lt, Int32.le_iff_toInt_le, i32_eq, nI_toInt, bI_b01, bI_0, decide_eq_true_eq, bI_tt, bI_ff, nI_prd, ↓reduceIte, iltT, iltF, ileT, ileF, ieqT, ieqF, dcT, dcF, or_true, or_false, true_or, false_or, e65]
theorem s_X9_looks {σ : Sg} {o g tm pt ls fs d : Nat → Nat} {z : Int} {n nk k : Nat} (hr : RefI σ) (b2 : Bn n tm pt ls) (hC : Ch n tm nk fs) (hk : k < nk) (h : RLy σ o tm pt ls fs z n nk k d) (hg : gI σ 55 3 = nI (g 1)) (hg1 : g 1 ≤ 6) : ∃ σ', f_X9_looks 55 (nI k) σ = some ((), σ') ∧ Ag SL (fun _ _ => False) σ σ' ∧ RT' σ' o g tm pt ls fs z k d := by
  have hn := b2.1
  have hnk := hC.nk_le
  have hM := hC.le (k := k + 1) (by omega)
  have hcl := cntB_le (sndB tm ls fs k) n
  have z0 : (0 : Int32).toInt = 0 := rfl
  have hp := cnt_past (tm := tm) (ls := ls) (fs := fs) (k := k) hM
  obtain ⟨σ1, e1, a1, l21, l22, l26⟩ := s_X9_findsLow hr b2 hC hk h
  have hr1 := a1.ref hr
  obtain ⟨σ2, e2, a2, l23, l22'⟩ := s_X9_findsBar hr1 b2 hC hk (h.ag a1) l21 l22
  have a2' : Ag SL (fun _ _ => False) σ1 σ2 := a2.mono (fun p k z => by unfold SL; omega) (fun _ _ z => z)
  have hA2 := a1.tr a2'
  have k21 : (gI σ2 55 21).toInt = lowK o tm pt ls fs z k d := by rw [a2.2.1 55 21 (by omega)]; exact l21
  have k26 : gI σ2 55 26 = nI (prsC (sndB tm ls fs k) (fret o pt z d) (fs k) (fs (k + 1))) := by rw [a2.2.1 55 26 (by omega)]; exact l26
  have hbd : lowK o tm pt ls fs z k d ≤ 82 := (low_bd (by omega) (fun i hi hs => by
    have hin : i < n := by omega
    have q := h.2.2.2.2.2 i hin hs
    exact (fret_bd h.2.2.2.2.1 (b2.2.1 i hin).2.1 (h.1 (d i) q.2).2).2)).1
  have l0 : 0 ≤ lowK o tm pt ls fs z k d := lowF_nn _
  obtain ⟨σ3, e3, a3, g24, g25⟩ := s_looksL hr b2 hC hk h hg hg1 hA2 k21 hbd l0
  refine ⟨σ3, ?_, hA2.tr (a3.mono (fun p k z => by unfold SL; omega) (fun _ _ z => z)), ?_, ?_, ?_, g24, g25, ?_⟩
  · unfold f_X9_looks
    rw [e1, bd_eq, e2, bd_eq, ck_of b01_0, lB_eq, ck_of b01_0, lB_eq]
    exact e3
  · rw [a3.2.1 55 21 (by omega)]; exact k21
  · rw [a3.2.1 55 22 (by omega)]; exact l22'
  · rw [a3.2.1 55 23 (by omega)]; exact l23
  · rw [a3.2.1 55 26 (by omega)]; exact k26
