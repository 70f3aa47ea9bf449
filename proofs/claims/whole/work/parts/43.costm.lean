/-! the same on the reference's side -/
/-- behind findsChords and laysAll -/
theorem s_ready {σ : Sg} {c n nk : Nat} {o g tm pt ls fs d : Nat → Nat} (hr : RefI σ) (b1 : Bl c o g) (b2 : Bn n tm pt ls) (p1 : P1 σ c o g) (p2 : P2 σ n tm pt ls) (hC : Ch n tm nk fs) (hd : ∀ i, i < n → gI σ 60 i = nI (d i) ∧ d i < c) (h20 : gI σ 55 20 = nI 0) : ∃ σ1 σ2, f_X9_findsChords 55 σ = some ((), σ1) ∧ f_X9_laysAll 55 σ1 = some ((), σ2) ∧ Ag (fun p k => SR p k ∨ p = 66 ∨ SL p k) (fun _ _ => False) σ σ2 ∧ RC σ2 n tm ls nk fs ∧ (∀ k, RLy σ2 o tm pt ls fs 0 n nk k d) ∧ ∀ k, k < 5 → gI σ2 55 (k + 2) = nI (g k) := by
  have hn := b2.1
  have hc5 := b1.2.1
  obtain ⟨σ1, e1, a1, rc1⟩ := s_X9_findsChords hr p2.m b2 hC
  have hr1 := a1.ref hr
  obtain ⟨σ2, e2, a2, l2⟩ := s_X9_laysAll (n := n) (d := d) hr1 hn ((a1.2.1 55 10 (by unfold SR; omega)).trans p2.2.1) (fun i hi => (a1.2.1 60 i (by unfold SR; omega)).trans (hd i hi).1)
  have hA2 : Ag (fun p k => SR p k ∨ p = 66 ∨ SL p k) (fun _ _ => False) σ σ2 := (a1.mono (fun p k z => Or.inl z) (fun _ _ z => z)).tr (a2.mono (fun p k z => Or.inr (Or.inl z)) (fun _ _ z => z))
  have rc2 : RC σ2 n tm ls nk fs := rc1.ag a2 (fun p k z y => by unfold SR at z; omega)
  have hNM : NM σ2 n tm pt ls := p2.m.ag hA2 (by unfold SR SL; omega) (fun p k h1 h2 z => by unfold SR SL at z; omega)
  have hz : (nI 0).toInt = 0 := rfl
  have s20 : gI σ2 55 20 = nI 0 := (hA2.2.1 55 20 (by unfold SR SL; omega)).trans h20
  exact ⟨σ1, σ2, e1, e2, hA2, rc2, fun k => ⟨fun j hj => ⟨(hA2.2.1 56 j (by unfold SR SL; omega)).trans (p1.2.2.1 j hj).2, b1.2.2.1 j hj⟩, hNM, rc2, by rw [s20]; exact hz, by omega, fun i hi _ => ⟨l2 i hi, by have := (hd i hi).2; omega⟩⟩, fun k hk => (hA2.2.1 55 (k + 2) (by unfold SR SL; omega)).trans (p1.2.2.2 k hk).2⟩
theorem s_X9_costOf {σ τ : Sg} {c n nk k : Nat} {o g tm pt ls fs d : Nat → Nat} (hr : RefI σ) (b1 : Bl c o g) (b2 : Bn n tm pt ls) (hC : Ch n tm nk fs) (hk : k < nk) (hL : ∀ k, RLy σ o tm pt ls fs 0 n nk k d) (hg : ∀ k, k < 5 → gI σ 55 (k + 2) = nI (g k)) (hd5 : ∀ i, i < n → d i < 5) (hA : Ag SL (fun _ _ => False) σ τ) : ∃ υ, f_X9_costOf 55 (nI k) τ = some (nI (ownK o g tm pt ls fs 0 k d + shK g (prevL o tm pt ls fs 0 d k) (lowK o tm pt ls fs 0 k d)), υ) ∧ Ag SL (fun _ _ => False) σ υ ∧ RT' υ o g tm pt ls fs 0 k d := by
  have hn := b2.1
  have hnk := hC.nk_le
  have lb := lowK_bd (z := 0) b1 b2 hC hk (by omega) hd5
  have pb := prevL_bd (z := 0) b1 b2 hC hk (by omega) hd5
  have L18 : ∀ (x : Int32) (τ : Sg), Ag SL (fun _ _ => False) σ τ → x.toInt = prevL o tm pt ls fs 0 d k → ∃ υ, f_X9_costOf_L18 55 (nI k) x τ = some (nI (ownK o g tm pt ls fs 0 k d + shK g (prevL o tm pt ls fs 0 d k) (lowK o tm pt ls fs 0 k d)), υ) ∧ Ag SL (fun _ _ => False) σ υ ∧ RT' υ o g tm pt ls fs 0 k d := by
    intro x τ hA hx
    obtain ⟨υ, e1, a1, hT⟩ := s_X9_looks (g := g) (hA.ref hr) b2 hC hk ((hL k).ag hA) ((hA.2.1 55 3 (by unfold SL; omega)).trans (hg 1 (by omega))) b1.2.2.2.2.2.1
    have hA2 := hA.tr a1
    have e2 := s_X9_ownCost hT ((hA2.2.1 55 5 (by unfold SL; omega)).trans (hg 3 (by omega))) ((hA2.2.1 55 6 (by unfold SL; omega)).trans (hg 4 (by omega)))
    have e3 := s_X9_shiftCost (g := g) (x := x) (y := gI υ 55 21) ((hA2.2.1 55 4 (by unfold SL; omega)).trans (hg 2 (by omega))) (by omega) (by rw [hT.1]; omega)
    rw [hx, hT.1] at e3
    refine ⟨υ, ?_, hA2, hT⟩
    unfold f_X9_costOf_L18
    simp (disch := first | assumption | omega) only [↓lB_eq, ↓bd_m, ck_tt, gI_pI, gI_pL, gI_pR, gL_pI, gL_pL, gL_pR, gR_pI, gR_pL, rf_0_0, rf_0_1, rf_0_2, rf_0_3, rf_0_4, rf_0_5, rf_0_6, rf_0_7, rf_0_8, rf_0_9, rf_0_10, rf_1_1, rf_1_2, rf_4_0, rf_4_1, rf_4_2, rf_4_3, rf_4_4, rf_4_5, rf_11_0, rf_11_1, rf_12_0, rf_12_1, rf_12_2, rf_12_6, rf_12_7, rf_12_8, rf_13_0, rf_13_1, rf_13_2, rf_13_3, rf_18_0, rf_18_1, rf_18_2, rf_18_3, rf_23_0, rf_23_1, rf_23_2, rf_23_3, rf_31_0, rf_33_0, rf_33_2, rf_33_3, rf_33_4, rf_37_0, rf_39_0, rf_39_1, rf_39_2, rf_39_3, rf_40_0, rf_40_1, rf_40_2, rf_40_3, rf_47_3, rf_49_3, rf_51_3, rf_53_3, rf_55_1, rf_55_7, rf_55_8, rf_55_9, rf_55_11, rf_55_13, rf_55_14, rf_55_15, rf_55_17, rf_55_18, rf_55_19, rf_55_27, rf_55_28, rf_55_29, rf_55_30, rf_55_31, rf_55_32, rf_55_33, rf_55_34, rf_55_35, rf_55_36, rf_55_38, rf_55_44, rf_55_45, rf_55_46, rf_55_47, aL_2, aL_3, aL_5, aL_6, aL_7, aL_8, aL_9, aL_10, aL_14, aL_15, aL_16, aL_17, aL_19, aL_20, aL_21, aL_22, aL_24, aL_25, aL_26, aL_27, aL_28, aL_29, aL_30, aL_32, aL_34, aL_35, aL_36, aL_38, aL_39, aL_40, aL_41, aL_42, aL_43, aL_44, aL_45, aL_46, aL_48, aL_50, aL_52, aL_54, aL_56, aL_57, aL_58, aL_59, aL_60, aL_61, aL_62, aL_63, aL_64, aL_65, aL_66, aL_67, aL_68, aL_69, aL_70, aL_71, aL_72, aL_73, aL_74, aL_75, aL_76, aL_77, aL_78, aL_79, aL_80, aL_81, inb_nI, lit32, nI_clamp, nI_1, nI_add, if_pos, if_neg, b01_0, b01_1, Nat.add_sub_cancel, if_true, if_false, not_true_eq_false, not_false_eq_true, true_and, and_true, false_and, and_false, pk_sub, b01_n0, b01_n1, bI_t, bI_f, ofNat_nI, ck_d, Int32.lt_iff_toInt_lt, Int32.le_iff_toInt_le, i32_eq, nI_toInt, bI_b01, bI_0, decide_eq_true_eq, bI_tt, bI_ff, nI_prd, ↓reduceIte, iltT, iltF, ileT, ileF, ieqT, ieqF, dcT, dcF, or_true, or_false, true_or, false_or, e1, e2, e3]
  unfold f_X9_costOf
  by_cases h0 : k = 0
  · subst h0
    rw [if_pos (by decide)]
    exact L18 0 τ hA rfl
  · obtain ⟨j, rfl⟩ : ∃ j, k = j + 1 := ⟨k - 1, by omega⟩
    obtain ⟨υ, e1, a1, hT⟩ := s_X9_looks (g := g) (hA.ref hr) b2 hC (show j < nk by omega) ((hL j).ag hA) ((hA.2.1 55 3 (by unfold SL; omega)).trans (hg 1 (by omega))) b1.2.2.2.2.2.1
    rw [if_neg (by rw [Int32.le_iff_toInt_le, nI_toInt (by omega)]; have : (0 : Int32).toInt = 0 := rfl; omega)]
    have em : nI (j + 1) - nI 1 = nI j := pk_sub (by omega)
    rw [show (1 : Int32) = nI 1 from rfl]
    rw [em, e1, bd_eq, lB_eq]
    exact L18 _ υ (hA.tr a1) hT.1
theorem s_X9_costNow {σ : Sg} {c n nk : Nat} {o g tm pt ls fs d : Nat → Nat} (hr : RefI σ) (b1 : Bl c o g) (b2 : Bn n tm pt ls) (p1 : P1 σ c o g) (p2 : P2 σ n tm pt ls) (hC : Ch n tm nk fs) (hd : ∀ i, i < n → gI σ 60 i = nI (d i) ∧ d i < c) (h12 : gI σ 55 12 = nI 1) (h20 : gI σ 55 20 = nI 0) : ∃ σ', f_X9_costNow 55 σ = some (nI (costTo o g tm pt ls fs 0 nk d), σ') ∧ Ag (fun p k => SR p k ∨ p = 66 ∨ SL p k) (fun _ _ => False) σ σ' := by
  have hn := b2.1
  have hc5 := b1.2.1
  have hnk := hC.nk_le
  have hd5 : ∀ i, i < n → d i < 5 := fun i hi => by have := (hd i hi).2; omega
  obtain ⟨σ1, σ2, e1, e2, hA2, rc2, hRL, hg⟩ := s_ready hr b1 b2 p1 p2 hC hd h20
  have hr2 := hA2.ref hr
  have loop : ∃ σ', fx (f_X9_costNow_L22 55) FU (nI 0, nI 0, σ2) = some (nI (costTo o g tm pt ls fs 0 nk d), σ') ∧ Ag SL (fun _ _ => False) σ2 σ' := by
    refine fx_inv2 (I := fun k s => ∃ τ, s = (nI (costTo o g tm pt ls fs 0 k d), nI k, τ) ∧ Ag SL (fun _ _ => False) σ2 τ) (Q := fun e => ∃ σ', e = some (nI (costTo o g tm pt ls fs 0 nk d), σ') ∧ Ag SL (fun _ _ => False) σ2 σ') (n := nk) ?_ ?_ nk 0 FU _ (by omega) (by unfold FU; omega) ⟨σ2, rfl, Ag.rf⟩
    · rintro k s hk ⟨τ, rfl, hA⟩ rec
      have t16 : gI τ 55 16 = nI nk := (hA.2.1 55 16 (by unfold SL; omega)).trans rc2.1
      obtain ⟨υ, e3, a3, _⟩ := s_X9_costOf hr2 b1 b2 hC hk hRL hg hd5 hA
      left
      refine ⟨(nI (costTo o g tm pt ls fs 0 (k + 1) d), nI (k + 1), υ), ⟨υ, rfl, a3⟩, ?_⟩
      rw [cost_eq]
      unfold f_X9_costNow_L22
      dsimp only
      simp (disch := first | assumption | omega) only [↓lB_eq, ↓bd_m, ck_tt, gI_pI, gI_pL, gI_pR, gL_pI, gL_pL, gL_pR, gR_pI, gR_pL, rf_0_0, rf_0_1, rf_0_2, rf_0_3, rf_0_4, rf_0_5, rf_0_6, rf_0_7, rf_0_8, rf_0_9, rf_0_10, rf_1_1, rf_1_2, rf_4_0, rf_4_1, rf_4_2, rf_4_3, rf_4_4, rf_4_5, rf_11_0, rf_11_1, rf_12_0, rf_12_1, rf_12_2, rf_12_6, rf_12_7, rf_12_8, rf_13_0, rf_13_1, rf_13_2, rf_13_3, rf_18_0, rf_18_1, rf_18_2, rf_18_3, rf_23_0, rf_23_1, rf_23_2, rf_23_3, rf_31_0, rf_33_0, rf_33_2, rf_33_3, rf_33_4, rf_37_0, rf_39_0, rf_39_1, rf_39_2, rf_39_3, rf_40_0, rf_40_1, rf_40_2, rf_40_3, rf_47_3, rf_49_3, rf_51_3, rf_53_3, rf_55_1, rf_55_7, rf_55_8, rf_55_9, rf_55_11, rf_55_13, rf_55_14, rf_55_15, rf_55_17, rf_55_18, rf_55_19, rf_55_27, rf_55_28, rf_55_29, rf_55_30, rf_55_31, rf_55_32, rf_55_33, rf_55_34, rf_55_35, rf_55_36, rf_55_38, rf_55_44, rf_55_45, rf_55_46, rf_55_47, aL_2, aL_3, aL_5, aL_6, aL_7, aL_8, aL_9, aL_10, aL_14, aL_15, aL_16, aL_17, aL_19, aL_20, aL_21, aL_22, aL_24, aL_25, aL_26, aL_27, aL_28, aL_29, aL_30, aL_32, aL_34, aL_35, aL_36, aL_38, aL_39, aL_40, aL_41, aL_42, aL_43, aL_44, aL_45, aL_46, aL_48, aL_50, aL_52, aL_54, aL_56, aL_57, aL_58, aL_59, aL_60, aL_61, aL_62, aL_63, aL_64, aL_65, aL_66, aL_67, aL_68, aL_69, aL_70, aL_71, aL_72, aL_73, aL_74, aL_75, aL_76, aL_77, aL_78, aL_79, aL_80, aL_81, inb_nI, lit32, nI_clamp, nI_1, nI_add, if_pos, if_neg, b01_0, b01_1, Nat.add_sub_cancel, if_true, if_false, not_true_eq_false, not_false_eq_true, true_and, and_true, false_and, and_false, pk_sub, b01_n0, b01_n1, bI_t, bI_f, ofNat_nI, ck_d, Int32.lt_iff_toInt_lt, Int32.le_iff_toInt_le, i32_eq, nI_toInt, bI_b01, bI_0, decide_eq_true_eq, bI_tt, bI_ff, nI_prd, ↓reduceIte, iltT, iltF, ileT, ileF, ieqT, ieqF, dcT, dcF, or_true, or_false, true_or, false_or, t16, e3]
    · rintro s ⟨τ, rfl, hA⟩ rec
      have t16 : gI τ 55 16 = nI nk := (hA.2.1 55 16 (by unfold SL; omega)).trans rc2.1
      refine ⟨some (nI (costTo o g tm pt ls fs 0 nk d), τ), ⟨τ, rfl, hA⟩, ?_⟩
      unfold f_X9_costNow_L22
      dsimp only
      simp (disch := first | assumption | omega) only [↓lB_eq, ↓bd_m, ck_tt, gI_pI, gI_pL, gI_pR, gL_pI, gL_pL, gL_pR, gR_pI, gR_pL, rf_0_0, rf_0_1, rf_0_2, rf_0_3, rf_0_4, rf_0_5, rf_0_6, rf_0_7, rf_0_8, rf_0_9, rf_0_10, rf_1_1, rf_1_2, rf_4_0, rf_4_1, rf_4_2, rf_4_3, rf_4_4, rf_4_5, rf_11_0, rf_11_1, rf_12_0, rf_12_1, rf_12_2, rf_12_6, rf_12_7, rf_12_8, rf_13_0, rf_13_1, rf_13_2, rf_13_3, rf_18_0, rf_18_1, rf_18_2, rf_18_3, rf_23_0, rf_23_1, rf_23_2, rf_23_3, rf_31_0, rf_33_0, rf_33_2, rf_33_3, rf_33_4, rf_37_0, rf_39_0, rf_39_1, rf_39_2, rf_39_3, rf_40_0, rf_40_1, rf_40_2, rf_40_3, rf_47_3, rf_49_3, rf_51_3, rf_53_3, rf_55_1, rf_55_7, rf_55_8, rf_55_9, rf_55_11, rf_55_13, rf_55_14, rf_55_15, rf_55_17, rf_55_18, rf_55_19, rf_55_27, rf_55_28, rf_55_29, rf_55_30, rf_55_31, rf_55_32, rf_55_33, rf_55_34, rf_55_35, rf_55_36, rf_55_38, rf_55_44, rf_55_45, rf_55_46, rf_55_47, aL_2, aL_3, aL_5, aL_6, aL_7, aL_8, aL_9, aL_10, aL_14, aL_15, aL_16, aL_17, aL_19, aL_20, aL_21, aL_22, aL_24, aL_25, aL_26, aL_27, aL_28, aL_29, aL_30, aL_32, aL_34, aL_35, aL_36, aL_38, aL_39, aL_40, aL_41, aL_42, aL_43, aL_44, aL_45, aL_46, aL_48, aL_50, aL_52, aL_54, aL_56, aL_57, aL_58, aL_59, aL_60, aL_61, aL_62, aL_63, aL_64, aL_65, aL_66, aL_67, aL_68, aL_69, aL_70, aL_71, aL_72, aL_73, aL_74, aL_75, aL_76, aL_77, aL_78, aL_79, aL_80, aL_81, inb_nI, lit32, nI_clamp, nI_1, nI_add, if_pos, if_neg, b01_0, b01_1, Nat.add_sub_cancel, if_true, if_false, not_true_eq_false, not_false_eq_true, true_and, and_true, false_and, and_false, pk_sub, b01_n0, b01_n1, bI_t, bI_f, ofNat_nI, ck_d, Int32.lt_iff_toInt_lt, Int32.le_iff_toInt_le, i32_eq, nI_toInt, bI_b01, bI_0, decide_eq_true_eq, bI_tt, bI_ff, nI_prd, ↓reduceIte, iltT, iltF, ileT, ileF, ieqT, ieqF, dcT, dcF, or_true, or_false, true_or, false_or, t16]
  obtain ⟨σ', e, a⟩ := loop
  refine ⟨σ', ?_, hA2.tr (a.mono (fun p k z => Or.inr (Or.inr z)) (fun _ _ z => z))⟩
  unfold f_X9_costNow
  rw [h12, if_neg (by decide), e1, bd_eq, e2, bd_eq]
  exact e
theorem m_cost {σ : Sg} (h : Rel σ) : Both σ (f_X8_cost 0) (f_X9_cost 55) := by
  obtain ⟨hr, c, n, nk, t, o, g, tm, pt, ls, fs, d, tb, il, b1, b2, p1, p2, p3, p4, p5, p6, p7, p8, p9⟩ := id h
  have f11 := p4.1
  have f12 := p4.2.1
  cases il with
  | false =>
    have e0 : f_X9_costNow 55 σ = some (-3, σ) := by unfold f_X9_costNow; rw [f12, if_pos (by decide)]
    refine ⟨-3, σ, σ, ?_, ?_, h⟩
    · unfold f_X8_cost f_X8_cost_L16
      simp (disch := first | assumption | omega) only [↓lB_eq, ↓bd_m, ck_tt, gI_pI, gI_pL, gI_pR, gL_pI, gL_pL, gL_pR, gR_pI, gR_pL, rf_0_0, rf_0_1, rf_0_2, rf_0_3, rf_0_4, rf_0_5, rf_0_6, rf_0_7, rf_0_8, rf_0_9, rf_0_10, rf_1_1, rf_1_2, rf_4_0, rf_4_1, rf_4_2, rf_4_3, rf_4_4, rf_4_5, rf_11_0, rf_11_1, rf_12_0, rf_12_1, rf_12_2, rf_12_6, rf_12_7, rf_12_8, rf_13_0, rf_13_1, rf_13_2, rf_13_3, rf_18_0, rf_18_1, rf_18_2, rf_18_3, rf_23_0, rf_23_1, rf_23_2, rf_23_3, rf_31_0, rf_33_0, rf_33_2, rf_33_3, rf_33_4, rf_37_0, rf_39_0, rf_39_1, rf_39_2, rf_39_3, rf_40_0, rf_40_1, rf_40_2, rf_40_3, rf_47_3, rf_49_3, rf_51_3, rf_53_3, rf_55_1, rf_55_7, rf_55_8, rf_55_9, rf_55_11, rf_55_13, rf_55_14, rf_55_15, rf_55_17, rf_55_18, rf_55_19, rf_55_27, rf_55_28, rf_55_29, rf_55_30, rf_55_31, rf_55_32, rf_55_33, rf_55_34, rf_55_35, rf_55_36, rf_55_38, rf_55_44, rf_55_45, rf_55_46, rf_55_47, aL_2, aL_3, aL_5, aL_6, aL_7, aL_8, aL_9, aL_10, aL_14, aL_15, aL_16, aL_17, aL_19, aL_20, aL_21, aL_22, aL_24, aL_25, aL_26, aL_27, aL_28, aL_29, aL_30, aL_32, aL_34, aL_35, aL_36, aL_38, aL_39, aL_40, aL_41, aL_42, aL_43, aL_44, aL_45, aL_46, aL_48, aL_50, aL_52, aL_54, aL_56, aL_57, aL_58, aL_59, aL_60, aL_61, aL_62, aL_63, aL_64, aL_65, aL_66, aL_67, aL_68, aL_69, aL_70, aL_71, aL_72, aL_73, aL_74, aL_75, aL_76, aL_77, aL_78, aL_79, aL_80, aL_81, inb_nI, lit32, nI_clamp, nI_1, nI_add, if_pos, if_neg, b01_0, b01_1, Nat.add_sub_cancel, if_true, if_false, not_true_eq_false, not_false_eq_true, true_and, and_true, false_and, and_false, pk_sub, b01_n0, b01_n1, bI_t, bI_f, ofNat_nI, ck_d, Int32.lt_iff_toInt_lt, Int32.le_iff_toInt_le, i32_eq, nI_toInt, bI_b01, bI_0, decide_eq_true_eq, bI_tt, bI_ff, nI_prd, ↓reduceIte, iltT, iltF, ileT, ileF, ieqT, ieqF, dcT, dcF, or_true, or_false, true_or, false_or, f11]
    · unfold f_X9_cost
      rw [e0]; rfl
  | true =>
    obtain ⟨σ1, e1, a1⟩ := s_X8_costOfLaid hr b1 b2 p1 p2 p3 (fun i hi => let ⟨x, _, y⟩ := p4.2.2 rfl i hi; ⟨x, y⟩)
    have key : ∀ p k, ¬ (p = 11) → gI σ1 p k = gI σ p k := fun p k z => a1.2.1 p k z
    obtain ⟨σ2, e2, a2⟩ := s_X9_costNow (a1.ref hr) b1 b2 (p1.fr fun p k z => key p k (by unfold S1 at z; omega)) (p2.fr fun p k z => key p k (by unfold S2 at z; omega)) p3.1 (fun i hi => let ⟨_, x, y⟩ := p4.2.2 rfl i hi; ⟨(key 60 i (by omega)).trans x, y⟩) ((key 55 12 (by omega)).trans f12) ((key 55 20 (by omega)).trans p8.2)
    refine ⟨nI (costTo o g tm pt ls fs 0 nk d), σ1, σ2, ?_, ?_, h.lk (Lk.tr (Lk.ag a1 (fun p k z => by unfold S11 at z; unfold Sc; omega) (fun _ _ z => z.elim)) (Lk.ag a2 (fun p k z => by unfold SR SL at z; unfold Sc; omega) (fun _ _ z => z.elim)))⟩
    · unfold f_X8_cost f_X8_cost_L16
      rw [f11, if_neg (by decide), e1]; rfl
    · unfold f_X9_cost
      rw [e2]; rfl
